set_option maxHeartbeats 4000000 in
set_option maxRecDepth 100000 in
theorem k_refuse_1 (l : Launch) (dC : Nat → ClassId) (dI : Nat → Nat → Nat) (cI cZ cF : ClassId) (sz : Nat) (x : Nat) (sh : Nat) (lw : Nat) (ro : Nat) (bq : Nat) (bp : Nat) (dq : Nat) (dp : Nat) (lv : Nat) (sl : Nat) (sd : Int32) (ul : Int32) (su : Int32) (ds : Int32) : Met l yX10_refuse (.code yX10_refuse cX10_refuse 2 (some .int) :: ws0) ({ frames := 0, cells := 0, slots := 0, locals := 0 } : Room) (va_Pc [.ref x, .int 1] (zPre (dC, dI) classes (zTy cI cZ cF) [(oc8 x (.ref sh) (.ref lw) (.ref ro) (.ref bq) (.ref bp) (.ref dq) (.ref dp) (.ref lv) (.ref sl) ds sd ul su)] sz zXN)) (zQ (some (.int (-1))) (fun t => va_P (dC, dI) classes [(oc8 x (.ref sh) (.ref lw) (.ref ro) (.ref bq) (.ref bp) (.ref dq) (.ref dp) (.ref lv) (.ref sl) ds sd ul 1)] t.heap ∧ va_D (va_A [(oc8 x (.ref sh) (.ref lw) (.ref ro) (.ref bq) (.ref bp) (.ref dq) (.ref dp) (.ref lv) (.ref sl) ds sd ul su)] sz) [(oc8 x (.ref sh) (.ref lw) (.ref ro) (.ref bq) (.ref bp) (.ref dq) (.ref dp) (.ref lv) (.ref sl) ds sd ul 1)]) (va_A [(oc8 x (.ref sh) (.ref lw) (.ref ro) (.ref bq) (.ref bp) (.ref dq) (.ref dp) (.ref lv) (.ref sl) ds sd ul su)] sz)) 0 0 (va_A [(oc8 x (.ref sh) (.ref lw) (.ref ro) (.ref bq) (.ref bp) (.ref dq) (.ref dp) (.ref lv) (.ref sl) ds sd ul su)] sz) := by
  refine Met.ofW (cc := cX10_refuse) (maxL := 2) (ret := (some .int)) (by decide) rfl ?_
  intro p e s m args below meth c s₁ B hml hv
  obtain ⟨rfl, hsz, hP, hK, hD0, hXN⟩ := hv
  have hx := B.exec
  have hb := B.bytes
  have hr := B.returns
  have hts0 := atoms_spec (ws := .code yX10_refuse cX10_refuse 2 (some .int) :: ws0) B.pre
  have hts : ∀ w9 ∈ ws0, w9.before ([.ref x, .int 1] : List Value).toArray s = true := fun w9 h => hts0 w9 (List.mem_cons_of_mem _ h)
  have hown : s.vm.findClass "ScaleShop" = some m.cls := findClass_of_methodNamed B.named
  have hlocks := B.notSynchronized
  subst hsz
  have hD := hD0.self (sz := s.heap.size)
  clear hD0
  generalize hAe : va_A [(oc8 x (.ref sh) (.ref lw) (.ref ro) (.ref bq) (.ref bp) (.ref dq) (.ref dp) (.ref lv) (.ref sl) ds sd ul su)] s.heap.size = A at hD ⊢
  have hA : ∀ q : Nat, s.heap.size ≤ q → A q := fun q h => by rw [← hAe]; exact Or.inr h
  clear hAe
  have hS : va_S A s.heap s.heap [] := va_S.rf
  have hP : va_P (dC, dI) classes [(oc8 x (.ref sh) (.ref lw) (.ref ro) (.ref bq) (.ref bp) (.ref dq) (.ref dp) (.ref lv) (.ref sl) ds sd ul su)] s.heap := hP
  obtain ⟨Q9, hQ9⟩ : ∃ Q9 : State → Prop, Q9 = MQ below (zQ (some (.int (-1))) (fun t => va_P (dC, dI) classes [(oc8 x (.ref sh) (.ref lw) (.ref ro) (.ref bq) (.ref bp) (.ref dq) (.ref dp) (.ref lv) (.ref sl) ds sd ul 1)] t.heap ∧ va_D A [(oc8 x (.ref sh) (.ref lw) (.ref ro) (.ref bq) (.ref bp) (.ref dq) (.ref dp) (.ref lv) (.ref sl) ds sd ul 1)]) A) ([.ref x, .int 1] : List Value).toArray s 0 0 A := ⟨_, rfl⟩
  rw [← hQ9]
  have hl := lv_entry ([.ref x, .int 1]) (n := 2) (Nat.le_of_ble_eq_true rfl)
  rw [lg_entry_eq]
  generalize (lg_sl ([.ref x, .int 1]) ++ List.replicate (2 - (lg_sl ([.ref x, .int 1])).length) Slot.unset).toArray = ls at hl ⊢
  have hl : lv_has ls 2 [(0, .ref x), (1, .int 1)] := hl
  refine lv_aload_n hx hb dX10_refuse_0 rfl (lv_at hl 0 rfl) ?_
  refine lv_iload_n hx hb dX10_refuse_1 rfl (lv_at hl 1 rfl) ?_
  refine va_put (D := (dC, dI)) (ci := 8) (v := .int 1) (ty := .int) (C := RX10) (T := TX10) (N := 13) hx hb hts inX10 tyX10 tyX10_ok nmX10 hown hK hP hD hS 0 rfl rfl 12 (by decide) (hts _ mw_321) (fun _ h9 => h9) rfl (by decide +kernel) rfl rfl (Nat.le_of_ble_eq_true rfl) dX10_refuse_2 (fun H locs hP hD hS => ?_)
  have hP : va_P (dC, dI) classes [(oc8 x (.ref sh) (.ref lw) (.ref ro) (.ref bq) (.ref bp) (.ref dq) (.ref dp) (.ref lv) (.ref sl) ds sd ul 1)] H := hP
  have hD : va_D A [(oc8 x (.ref sh) (.ref lw) (.ref ro) (.ref bq) (.ref bp) (.ref dq) (.ref dp) (.ref lv) (.ref sl) ds sd ul 1)] := hD
  refine lv_iload_n hx hb dX10_refuse_5 rfl (lv_at hl 1 rfl) ?_
  refine lv_bipush (v := 7) hx hb dX10_refuse_6 (by decide) ?_
  refine lv_icmp_ne (tgt := 21) hx hb dX10_refuse_8 (by decide) (fun c_1 => ?_) (fun c_1 => ?_)
  · refine lv_iconst (v := (-1)) hx hb dX10_refuse_21 (by decide) ?_
    have hP9 := hP.sub (ws' := [(oc8 x (.ref sh) (.ref lw) (.ref ro) (.ref bq) (.ref bp) (.ref dq) (.ref dp) (.ref lv) (.ref sl) ds sd ul 1)]) [0] rfl
    have hD9 := hD.sub (ws' := [(oc8 x (.ref sh) (.ref lw) (.ref ro) (.ref bq) (.ref bp) (.ref dq) (.ref dp) (.ref lv) (.ref sl) ds sd ul 1)]) [0] (by decide) rfl
    rw [hQ9]
    exact W.iret (v := (-1)) hx hb hr (fun t ht hW => ⟨⟨rfl, by rw [ht]; exact hP9, hD9⟩, hS.F ht⟩) hS.2.2 dX10_refuse_22
  · exact absurd c_1 (by decide)
set_option maxHeartbeats 4000000 in
set_option maxRecDepth 100000 in
theorem k_deny_1 (l : Launch) (dC : Nat → ClassId) (dI : Nat → Nat → Nat) (cI cZ cF : ClassId) (sz : Nat) (x : Nat) (sh : Nat) (lw : Nat) (ro : Nat) (bq : Nat) (bp : Nat) (dq : Nat) (dp : Nat) (lv : Nat) (sl : Nat) (sd : Int32) (ul : Int32) (su : Int32) (ds : Int32) : Met l yX10_deny (.code yX10_deny cX10_deny 2 (some .boolean) :: ws0) ({ frames := 1, cells := 0, slots := 0, locals := 21 } : Room) (va_Pc [.ref x, .int 1] (zPre (dC, dI) classes (zTy cI cZ cF) [(oc8 x (.ref sh) (.ref lw) (.ref ro) (.ref bq) (.ref bp) (.ref dq) (.ref dp) (.ref lv) (.ref sl) ds sd ul su)] sz zXN)) (zQ (some (.int 0)) (fun t => va_P (dC, dI) classes [(oc8 x (.ref sh) (.ref lw) (.ref ro) (.ref bq) (.ref bp) (.ref dq) (.ref dp) (.ref lv) (.ref sl) ds sd ul 1)] t.heap ∧ va_D (va_A [(oc8 x (.ref sh) (.ref lw) (.ref ro) (.ref bq) (.ref bp) (.ref dq) (.ref dp) (.ref lv) (.ref sl) ds sd ul su)] sz) [(oc8 x (.ref sh) (.ref lw) (.ref ro) (.ref bq) (.ref bp) (.ref dq) (.ref dp) (.ref lv) (.ref sl) ds sd ul 1)]) (va_A [(oc8 x (.ref sh) (.ref lw) (.ref ro) (.ref bq) (.ref bp) (.ref dq) (.ref dp) (.ref lv) (.ref sl) ds sd ul su)] sz)) 0 0 (va_A [(oc8 x (.ref sh) (.ref lw) (.ref ro) (.ref bq) (.ref bp) (.ref dq) (.ref dp) (.ref lv) (.ref sl) ds sd ul su)] sz) := by
  refine Met.ofW (cc := cX10_deny) (maxL := 2) (ret := (some .boolean)) (by decide) rfl ?_
  intro p e s m args below meth c s₁ B hml hv
  obtain ⟨rfl, hsz, hP, hK, hD0, hXN⟩ := hv
  have hx := B.exec
  have hb := B.bytes
  have hr := B.returns
  have hts0 := atoms_spec (ws := .code yX10_deny cX10_deny 2 (some .boolean) :: ws0) B.pre
  have hts : ∀ w9 ∈ ws0, w9.before ([.ref x, .int 1] : List Value).toArray s = true := fun w9 h => hts0 w9 (List.mem_cons_of_mem _ h)
  have hown : s.vm.findClass "ScaleShop" = some m.cls := findClass_of_methodNamed B.named
  have hlocks := B.notSynchronized
  subst hsz
  have hD := hD0.self (sz := s.heap.size)
  clear hD0
  generalize hAe : va_A [(oc8 x (.ref sh) (.ref lw) (.ref ro) (.ref bq) (.ref bp) (.ref dq) (.ref dp) (.ref lv) (.ref sl) ds sd ul su)] s.heap.size = A at hD ⊢
  have hA : ∀ q : Nat, s.heap.size ≤ q → A q := fun q h => by rw [← hAe]; exact Or.inr h
  clear hAe
  have hS : va_S A s.heap s.heap [] := va_S.rf
  have hP : va_P (dC, dI) classes [(oc8 x (.ref sh) (.ref lw) (.ref ro) (.ref bq) (.ref bp) (.ref dq) (.ref dp) (.ref lv) (.ref sl) ds sd ul su)] s.heap := hP
  obtain ⟨Q9, hQ9⟩ : ∃ Q9 : State → Prop, Q9 = MQ below (zQ (some (.int 0)) (fun t => va_P (dC, dI) classes [(oc8 x (.ref sh) (.ref lw) (.ref ro) (.ref bq) (.ref bp) (.ref dq) (.ref dp) (.ref lv) (.ref sl) ds sd ul 1)] t.heap ∧ va_D A [(oc8 x (.ref sh) (.ref lw) (.ref ro) (.ref bq) (.ref bp) (.ref dq) (.ref dp) (.ref lv) (.ref sl) ds sd ul 1)]) A) ([.ref x, .int 1] : List Value).toArray s 0 0 A := ⟨_, rfl⟩
  rw [← hQ9]
  have hl := lv_entry ([.ref x, .int 1]) (n := 2) (Nat.le_of_ble_eq_true rfl)
  rw [lg_entry_eq]
  generalize (lg_sl ([.ref x, .int 1]) ++ List.replicate (2 - (lg_sl ([.ref x, .int 1])).length) Slot.unset).toArray = ls at hl ⊢
  have hl : lv_has ls 2 [(0, .ref x), (1, .int 1)] := hl
  refine lv_aload_n hx hb dX10_deny_0 rfl (lv_at hl 0 rfl) ?_
  refine lv_iload_n hx hb dX10_deny_1 rfl (lv_at hl 1 rfl) ?_
  have hPc := hP.sub (ws' := [(oc8 x (.ref sh) (.ref lw) (.ref ro) (.ref bq) (.ref bp) (.ref dq) (.ref dp) (.ref lv) (.ref sl) ds sd ul su)]) [0] rfl
  have hDc := hD.sub (ws' := [(oc8 x (.ref sh) (.ref lw) (.ref ro) (.ref bq) (.ref bp) (.ref dq) (.ref dp) (.ref lv) (.ref sl) ds sd ul su)]) [0] (by decide) rfl
  have hFc := va_free (wc := [(oc8 x (.ref sh) (.ref lw) (.ref ro) (.ref bq) (.ref bp) (.ref dq) (.ref dp) (.ref lv) (.ref sl) ds sd ul su)]) hD hS hA [0] rfl
  refine zcall (st1 := [.int (-1)]) (va_runV (As := [.int 1]) (rest := []) ⟨hx, hb, hml, hown, hts⟩ (k_refuse_1 l dC dI cI cZ cF s.heap.size x sh lw ro bq bp dq dp lv sl sd ul su ds ) (cwV 1 hts (zz_gV mw_356 mw_358 mw_0 mw_99 mc_yX10_refuse) rfl rfl rfl (by decide +kernel) ⟨Nat.le_of_ble_eq_true rfl, Nat.le_of_ble_eq_true rfl⟩) (zPV2 (q0 := 0) (ci := 8) hPc hDc hK hXN rfl rfl) rfl rfl hl.1 rfl (lv_room (Nat.le_of_ble_eq_true rfl)) dX10_deny_2 ⟨Nat.le_of_ble_eq_true rfl, Nat.le_of_ble_eq_true rfl⟩) hS hFc hFc rfl (fun t H1 locs ht hB hk1 hS => ?_)
  obtain ⟨hP1, hD1⟩ := hB
  rw [ht] at hP1
  obtain ⟨hP, hD⟩ := va_join (wr := []) (w1 := [(oc8 x (.ref sh) (.ref lw) (.ref ro) (.ref bq) (.ref bp) (.ref dq) (.ref dp) (.ref lv) (.ref sl) ds sd ul 1)]) hP hD [0] [] rfl rfl (by decide) (by decide) hk1 hFc hP1 hD1
  clear hk1 hPc hDc hFc hP1 hD1 ht
  generalize H1 = H at hP hS ⊢
  have hP : va_P (dC, dI) classes [(oc8 x (.ref sh) (.ref lw) (.ref ro) (.ref bq) (.ref bp) (.ref dq) (.ref dp) (.ref lv) (.ref sl) ds sd ul 1)] H := hP
  have hD : va_D A [(oc8 x (.ref sh) (.ref lw) (.ref ro) (.ref bq) (.ref bp) (.ref dq) (.ref dp) (.ref lv) (.ref sl) ds sd ul 1)] := hD
  refine lv_pop hx hb dX10_deny_5 rfl ?_
  refine lv_iconst (v := 0) hx hb dX10_deny_6 (by decide) ?_
  have hP9 := hP.sub (ws' := [(oc8 x (.ref sh) (.ref lw) (.ref ro) (.ref bq) (.ref bp) (.ref dq) (.ref dp) (.ref lv) (.ref sl) ds sd ul 1)]) [0] rfl
  have hD9 := hD.sub (ws' := [(oc8 x (.ref sh) (.ref lw) (.ref ro) (.ref bq) (.ref bp) (.ref dq) (.ref dp) (.ref lv) (.ref sl) ds sd ul 1)]) [0] (by decide) rfl
  rw [hQ9]
  exact W.zret (ty := .boolean) (v := 0) hx hb hr (rfl) (fun t ht hW => ⟨⟨rfl, by rw [ht]; exact hP9, hD9⟩, hS.F ht⟩) hS.2.2 dX10_deny_7
set_option maxHeartbeats 4000000 in
set_option maxRecDepth 100000 in
theorem k_refuse_2 (l : Launch) (dC : Nat → ClassId) (dI : Nat → Nat → Nat) (cI cZ cF : ClassId) (sz : Nat) (x : Nat) (sh : Nat) (lw : Nat) (ro : Nat) (bq : Nat) (bp : Nat) (dq : Nat) (dp : Nat) (lv : Nat) (sl : Nat) (sd : Int32) (ul : Int32) (su : Int32) (ds : Int32) : Met l yX10_refuse (.code yX10_refuse cX10_refuse 2 (some .int) :: ws0) ({ frames := 0, cells := 0, slots := 0, locals := 0 } : Room) (va_Pc [.ref x, .int 2] (zPre (dC, dI) classes (zTy cI cZ cF) [(oc8 x (.ref sh) (.ref lw) (.ref ro) (.ref bq) (.ref bp) (.ref dq) (.ref dp) (.ref lv) (.ref sl) ds sd ul su)] sz zXN)) (zQ (some (.int (-1))) (fun t => va_P (dC, dI) classes [(oc8 x (.ref sh) (.ref lw) (.ref ro) (.ref bq) (.ref bp) (.ref dq) (.ref dp) (.ref lv) (.ref sl) ds sd ul 2)] t.heap ∧ va_D (va_A [(oc8 x (.ref sh) (.ref lw) (.ref ro) (.ref bq) (.ref bp) (.ref dq) (.ref dp) (.ref lv) (.ref sl) ds sd ul su)] sz) [(oc8 x (.ref sh) (.ref lw) (.ref ro) (.ref bq) (.ref bp) (.ref dq) (.ref dp) (.ref lv) (.ref sl) ds sd ul 2)]) (va_A [(oc8 x (.ref sh) (.ref lw) (.ref ro) (.ref bq) (.ref bp) (.ref dq) (.ref dp) (.ref lv) (.ref sl) ds sd ul su)] sz)) 0 0 (va_A [(oc8 x (.ref sh) (.ref lw) (.ref ro) (.ref bq) (.ref bp) (.ref dq) (.ref dp) (.ref lv) (.ref sl) ds sd ul su)] sz) := by
  refine Met.ofW (cc := cX10_refuse) (maxL := 2) (ret := (some .int)) (by decide) rfl ?_
  intro p e s m args below meth c s₁ B hml hv
  obtain ⟨rfl, hsz, hP, hK, hD0, hXN⟩ := hv
  have hx := B.exec
  have hb := B.bytes
  have hr := B.returns
  have hts0 := atoms_spec (ws := .code yX10_refuse cX10_refuse 2 (some .int) :: ws0) B.pre
  have hts : ∀ w9 ∈ ws0, w9.before ([.ref x, .int 2] : List Value).toArray s = true := fun w9 h => hts0 w9 (List.mem_cons_of_mem _ h)
  have hown : s.vm.findClass "ScaleShop" = some m.cls := findClass_of_methodNamed B.named
  have hlocks := B.notSynchronized
  subst hsz
  have hD := hD0.self (sz := s.heap.size)
  clear hD0
  generalize hAe : va_A [(oc8 x (.ref sh) (.ref lw) (.ref ro) (.ref bq) (.ref bp) (.ref dq) (.ref dp) (.ref lv) (.ref sl) ds sd ul su)] s.heap.size = A at hD ⊢
  have hA : ∀ q : Nat, s.heap.size ≤ q → A q := fun q h => by rw [← hAe]; exact Or.inr h
  clear hAe
  have hS : va_S A s.heap s.heap [] := va_S.rf
  have hP : va_P (dC, dI) classes [(oc8 x (.ref sh) (.ref lw) (.ref ro) (.ref bq) (.ref bp) (.ref dq) (.ref dp) (.ref lv) (.ref sl) ds sd ul su)] s.heap := hP
  obtain ⟨Q9, hQ9⟩ : ∃ Q9 : State → Prop, Q9 = MQ below (zQ (some (.int (-1))) (fun t => va_P (dC, dI) classes [(oc8 x (.ref sh) (.ref lw) (.ref ro) (.ref bq) (.ref bp) (.ref dq) (.ref dp) (.ref lv) (.ref sl) ds sd ul 2)] t.heap ∧ va_D A [(oc8 x (.ref sh) (.ref lw) (.ref ro) (.ref bq) (.ref bp) (.ref dq) (.ref dp) (.ref lv) (.ref sl) ds sd ul 2)]) A) ([.ref x, .int 2] : List Value).toArray s 0 0 A := ⟨_, rfl⟩
  rw [← hQ9]
  have hl := lv_entry ([.ref x, .int 2]) (n := 2) (Nat.le_of_ble_eq_true rfl)
  rw [lg_entry_eq]
  generalize (lg_sl ([.ref x, .int 2]) ++ List.replicate (2 - (lg_sl ([.ref x, .int 2])).length) Slot.unset).toArray = ls at hl ⊢
  have hl : lv_has ls 2 [(0, .ref x), (1, .int 2)] := hl
  refine lv_aload_n hx hb dX10_refuse_0 rfl (lv_at hl 0 rfl) ?_
  refine lv_iload_n hx hb dX10_refuse_1 rfl (lv_at hl 1 rfl) ?_
  refine va_put (D := (dC, dI)) (ci := 8) (v := .int 2) (ty := .int) (C := RX10) (T := TX10) (N := 13) hx hb hts inX10 tyX10 tyX10_ok nmX10 hown hK hP hD hS 0 rfl rfl 12 (by decide) (hts _ mw_321) (fun _ h9 => h9) rfl (by decide +kernel) rfl rfl (Nat.le_of_ble_eq_true rfl) dX10_refuse_2 (fun H locs hP hD hS => ?_)
  have hP : va_P (dC, dI) classes [(oc8 x (.ref sh) (.ref lw) (.ref ro) (.ref bq) (.ref bp) (.ref dq) (.ref dp) (.ref lv) (.ref sl) ds sd ul 2)] H := hP
  have hD : va_D A [(oc8 x (.ref sh) (.ref lw) (.ref ro) (.ref bq) (.ref bp) (.ref dq) (.ref dp) (.ref lv) (.ref sl) ds sd ul 2)] := hD
  refine lv_iload_n hx hb dX10_refuse_5 rfl (lv_at hl 1 rfl) ?_
  refine lv_bipush (v := 7) hx hb dX10_refuse_6 (by decide) ?_
  refine lv_icmp_ne (tgt := 21) hx hb dX10_refuse_8 (by decide) (fun c_1 => ?_) (fun c_1 => ?_)
  · refine lv_iconst (v := (-1)) hx hb dX10_refuse_21 (by decide) ?_
    have hP9 := hP.sub (ws' := [(oc8 x (.ref sh) (.ref lw) (.ref ro) (.ref bq) (.ref bp) (.ref dq) (.ref dp) (.ref lv) (.ref sl) ds sd ul 2)]) [0] rfl
    have hD9 := hD.sub (ws' := [(oc8 x (.ref sh) (.ref lw) (.ref ro) (.ref bq) (.ref bp) (.ref dq) (.ref dp) (.ref lv) (.ref sl) ds sd ul 2)]) [0] (by decide) rfl
    rw [hQ9]
    exact W.iret (v := (-1)) hx hb hr (fun t ht hW => ⟨⟨rfl, by rw [ht]; exact hP9, hD9⟩, hS.F ht⟩) hS.2.2 dX10_refuse_22
  · exact absurd c_1 (by decide)
set_option maxHeartbeats 4000000 in
set_option maxRecDepth 100000 in
theorem k_deny_2 (l : Launch) (dC : Nat → ClassId) (dI : Nat → Nat → Nat) (cI cZ cF : ClassId) (sz : Nat) (x : Nat) (sh : Nat) (lw : Nat) (ro : Nat) (bq : Nat) (bp : Nat) (dq : Nat) (dp : Nat) (lv : Nat) (sl : Nat) (sd : Int32) (ul : Int32) (su : Int32) (ds : Int32) : Met l yX10_deny (.code yX10_deny cX10_deny 2 (some .boolean) :: ws0) ({ frames := 1, cells := 0, slots := 0, locals := 21 } : Room) (va_Pc [.ref x, .int 2] (zPre (dC, dI) classes (zTy cI cZ cF) [(oc8 x (.ref sh) (.ref lw) (.ref ro) (.ref bq) (.ref bp) (.ref dq) (.ref dp) (.ref lv) (.ref sl) ds sd ul su)] sz zXN)) (zQ (some (.int 0)) (fun t => va_P (dC, dI) classes [(oc8 x (.ref sh) (.ref lw) (.ref ro) (.ref bq) (.ref bp) (.ref dq) (.ref dp) (.ref lv) (.ref sl) ds sd ul 2)] t.heap ∧ va_D (va_A [(oc8 x (.ref sh) (.ref lw) (.ref ro) (.ref bq) (.ref bp) (.ref dq) (.ref dp) (.ref lv) (.ref sl) ds sd ul su)] sz) [(oc8 x (.ref sh) (.ref lw) (.ref ro) (.ref bq) (.ref bp) (.ref dq) (.ref dp) (.ref lv) (.ref sl) ds sd ul 2)]) (va_A [(oc8 x (.ref sh) (.ref lw) (.ref ro) (.ref bq) (.ref bp) (.ref dq) (.ref dp) (.ref lv) (.ref sl) ds sd ul su)] sz)) 0 0 (va_A [(oc8 x (.ref sh) (.ref lw) (.ref ro) (.ref bq) (.ref bp) (.ref dq) (.ref dp) (.ref lv) (.ref sl) ds sd ul su)] sz) := by
  refine Met.ofW (cc := cX10_deny) (maxL := 2) (ret := (some .boolean)) (by decide) rfl ?_
  intro p e s m args below meth c s₁ B hml hv
  obtain ⟨rfl, hsz, hP, hK, hD0, hXN⟩ := hv
  have hx := B.exec
  have hb := B.bytes
  have hr := B.returns
  have hts0 := atoms_spec (ws := .code yX10_deny cX10_deny 2 (some .boolean) :: ws0) B.pre
  have hts : ∀ w9 ∈ ws0, w9.before ([.ref x, .int 2] : List Value).toArray s = true := fun w9 h => hts0 w9 (List.mem_cons_of_mem _ h)
  have hown : s.vm.findClass "ScaleShop" = some m.cls := findClass_of_methodNamed B.named
  have hlocks := B.notSynchronized
  subst hsz
  have hD := hD0.self (sz := s.heap.size)
  clear hD0
  generalize hAe : va_A [(oc8 x (.ref sh) (.ref lw) (.ref ro) (.ref bq) (.ref bp) (.ref dq) (.ref dp) (.ref lv) (.ref sl) ds sd ul su)] s.heap.size = A at hD ⊢
  have hA : ∀ q : Nat, s.heap.size ≤ q → A q := fun q h => by rw [← hAe]; exact Or.inr h
  clear hAe
  have hS : va_S A s.heap s.heap [] := va_S.rf
  have hP : va_P (dC, dI) classes [(oc8 x (.ref sh) (.ref lw) (.ref ro) (.ref bq) (.ref bp) (.ref dq) (.ref dp) (.ref lv) (.ref sl) ds sd ul su)] s.heap := hP
  obtain ⟨Q9, hQ9⟩ : ∃ Q9 : State → Prop, Q9 = MQ below (zQ (some (.int 0)) (fun t => va_P (dC, dI) classes [(oc8 x (.ref sh) (.ref lw) (.ref ro) (.ref bq) (.ref bp) (.ref dq) (.ref dp) (.ref lv) (.ref sl) ds sd ul 2)] t.heap ∧ va_D A [(oc8 x (.ref sh) (.ref lw) (.ref ro) (.ref bq) (.ref bp) (.ref dq) (.ref dp) (.ref lv) (.ref sl) ds sd ul 2)]) A) ([.ref x, .int 2] : List Value).toArray s 0 0 A := ⟨_, rfl⟩
  rw [← hQ9]
  have hl := lv_entry ([.ref x, .int 2]) (n := 2) (Nat.le_of_ble_eq_true rfl)
  rw [lg_entry_eq]
  generalize (lg_sl ([.ref x, .int 2]) ++ List.replicate (2 - (lg_sl ([.ref x, .int 2])).length) Slot.unset).toArray = ls at hl ⊢
  have hl : lv_has ls 2 [(0, .ref x), (1, .int 2)] := hl
  refine lv_aload_n hx hb dX10_deny_0 rfl (lv_at hl 0 rfl) ?_
  refine lv_iload_n hx hb dX10_deny_1 rfl (lv_at hl 1 rfl) ?_
  have hPc := hP.sub (ws' := [(oc8 x (.ref sh) (.ref lw) (.ref ro) (.ref bq) (.ref bp) (.ref dq) (.ref dp) (.ref lv) (.ref sl) ds sd ul su)]) [0] rfl
  have hDc := hD.sub (ws' := [(oc8 x (.ref sh) (.ref lw) (.ref ro) (.ref bq) (.ref bp) (.ref dq) (.ref dp) (.ref lv) (.ref sl) ds sd ul su)]) [0] (by decide) rfl
  have hFc := va_free (wc := [(oc8 x (.ref sh) (.ref lw) (.ref ro) (.ref bq) (.ref bp) (.ref dq) (.ref dp) (.ref lv) (.ref sl) ds sd ul su)]) hD hS hA [0] rfl
  refine zcall (st1 := [.int (-1)]) (va_runV (As := [.int 2]) (rest := []) ⟨hx, hb, hml, hown, hts⟩ (k_refuse_2 l dC dI cI cZ cF s.heap.size x sh lw ro bq bp dq dp lv sl sd ul su ds ) (cwV 1 hts (zz_gV mw_356 mw_358 mw_0 mw_99 mc_yX10_refuse) rfl rfl rfl (by decide +kernel) ⟨Nat.le_of_ble_eq_true rfl, Nat.le_of_ble_eq_true rfl⟩) (zPV2 (q0 := 0) (ci := 8) hPc hDc hK hXN rfl rfl) rfl rfl hl.1 rfl (lv_room (Nat.le_of_ble_eq_true rfl)) dX10_deny_2 ⟨Nat.le_of_ble_eq_true rfl, Nat.le_of_ble_eq_true rfl⟩) hS hFc hFc rfl (fun t H1 locs ht hB hk1 hS => ?_)
  obtain ⟨hP1, hD1⟩ := hB
  rw [ht] at hP1
  obtain ⟨hP, hD⟩ := va_join (wr := []) (w1 := [(oc8 x (.ref sh) (.ref lw) (.ref ro) (.ref bq) (.ref bp) (.ref dq) (.ref dp) (.ref lv) (.ref sl) ds sd ul 2)]) hP hD [0] [] rfl rfl (by decide) (by decide) hk1 hFc hP1 hD1
  clear hk1 hPc hDc hFc hP1 hD1 ht
  generalize H1 = H at hP hS ⊢
  have hP : va_P (dC, dI) classes [(oc8 x (.ref sh) (.ref lw) (.ref ro) (.ref bq) (.ref bp) (.ref dq) (.ref dp) (.ref lv) (.ref sl) ds sd ul 2)] H := hP
  have hD : va_D A [(oc8 x (.ref sh) (.ref lw) (.ref ro) (.ref bq) (.ref bp) (.ref dq) (.ref dp) (.ref lv) (.ref sl) ds sd ul 2)] := hD
  refine lv_pop hx hb dX10_deny_5 rfl ?_
  refine lv_iconst (v := 0) hx hb dX10_deny_6 (by decide) ?_
  have hP9 := hP.sub (ws' := [(oc8 x (.ref sh) (.ref lw) (.ref ro) (.ref bq) (.ref bp) (.ref dq) (.ref dp) (.ref lv) (.ref sl) ds sd ul 2)]) [0] rfl
  have hD9 := hD.sub (ws' := [(oc8 x (.ref sh) (.ref lw) (.ref ro) (.ref bq) (.ref bp) (.ref dq) (.ref dp) (.ref lv) (.ref sl) ds sd ul 2)]) [0] (by decide) rfl
  rw [hQ9]
  exact W.zret (ty := .boolean) (v := 0) hx hb hr (rfl) (fun t ht hW => ⟨⟨rfl, by rw [ht]; exact hP9, hD9⟩, hS.F ht⟩) hS.2.2 dX10_deny_7
set_option maxHeartbeats 4000000 in
set_option maxRecDepth 100000 in
theorem k_refuse_3 (l : Launch) (dC : Nat → ClassId) (dI : Nat → Nat → Nat) (cI cZ cF : ClassId) (sz : Nat) (x : Nat) (sh : Nat) (lw : Nat) (ro : Nat) (bq : Nat) (bp : Nat) (dq : Nat) (dp : Nat) (lv : Nat) (sl : Nat) (sd : Int32) (ul : Int32) (su : Int32) (ds : Int32) : Met l yX10_refuse (.code yX10_refuse cX10_refuse 2 (some .int) :: ws0) ({ frames := 0, cells := 0, slots := 0, locals := 0 } : Room) (va_Pc [.ref x, .int 3] (zPre (dC, dI) classes (zTy cI cZ cF) [(oc8 x (.ref sh) (.ref lw) (.ref ro) (.ref bq) (.ref bp) (.ref dq) (.ref dp) (.ref lv) (.ref sl) ds sd ul su)] sz zXN)) (zQ (some (.int (-1))) (fun t => va_P (dC, dI) classes [(oc8 x (.ref sh) (.ref lw) (.ref ro) (.ref bq) (.ref bp) (.ref dq) (.ref dp) (.ref lv) (.ref sl) ds sd ul 3)] t.heap ∧ va_D (va_A [(oc8 x (.ref sh) (.ref lw) (.ref ro) (.ref bq) (.ref bp) (.ref dq) (.ref dp) (.ref lv) (.ref sl) ds sd ul su)] sz) [(oc8 x (.ref sh) (.ref lw) (.ref ro) (.ref bq) (.ref bp) (.ref dq) (.ref dp) (.ref lv) (.ref sl) ds sd ul 3)]) (va_A [(oc8 x (.ref sh) (.ref lw) (.ref ro) (.ref bq) (.ref bp) (.ref dq) (.ref dp) (.ref lv) (.ref sl) ds sd ul su)] sz)) 0 0 (va_A [(oc8 x (.ref sh) (.ref lw) (.ref ro) (.ref bq) (.ref bp) (.ref dq) (.ref dp) (.ref lv) (.ref sl) ds sd ul su)] sz) := by
  refine Met.ofW (cc := cX10_refuse) (maxL := 2) (ret := (some .int)) (by decide) rfl ?_
  intro p e s m args below meth c s₁ B hml hv
  obtain ⟨rfl, hsz, hP, hK, hD0, hXN⟩ := hv
  have hx := B.exec
  have hb := B.bytes
  have hr := B.returns
  have hts0 := atoms_spec (ws := .code yX10_refuse cX10_refuse 2 (some .int) :: ws0) B.pre
  have hts : ∀ w9 ∈ ws0, w9.before ([.ref x, .int 3] : List Value).toArray s = true := fun w9 h => hts0 w9 (List.mem_cons_of_mem _ h)
  have hown : s.vm.findClass "ScaleShop" = some m.cls := findClass_of_methodNamed B.named
  have hlocks := B.notSynchronized
  subst hsz
  have hD := hD0.self (sz := s.heap.size)
  clear hD0
  generalize hAe : va_A [(oc8 x (.ref sh) (.ref lw) (.ref ro) (.ref bq) (.ref bp) (.ref dq) (.ref dp) (.ref lv) (.ref sl) ds sd ul su)] s.heap.size = A at hD ⊢
  have hA : ∀ q : Nat, s.heap.size ≤ q → A q := fun q h => by rw [← hAe]; exact Or.inr h
  clear hAe
  have hS : va_S A s.heap s.heap [] := va_S.rf
  have hP : va_P (dC, dI) classes [(oc8 x (.ref sh) (.ref lw) (.ref ro) (.ref bq) (.ref bp) (.ref dq) (.ref dp) (.ref lv) (.ref sl) ds sd ul su)] s.heap := hP
  obtain ⟨Q9, hQ9⟩ : ∃ Q9 : State → Prop, Q9 = MQ below (zQ (some (.int (-1))) (fun t => va_P (dC, dI) classes [(oc8 x (.ref sh) (.ref lw) (.ref ro) (.ref bq) (.ref bp) (.ref dq) (.ref dp) (.ref lv) (.ref sl) ds sd ul 3)] t.heap ∧ va_D A [(oc8 x (.ref sh) (.ref lw) (.ref ro) (.ref bq) (.ref bp) (.ref dq) (.ref dp) (.ref lv) (.ref sl) ds sd ul 3)]) A) ([.ref x, .int 3] : List Value).toArray s 0 0 A := ⟨_, rfl⟩
  rw [← hQ9]
  have hl := lv_entry ([.ref x, .int 3]) (n := 2) (Nat.le_of_ble_eq_true rfl)
  rw [lg_entry_eq]
  generalize (lg_sl ([.ref x, .int 3]) ++ List.replicate (2 - (lg_sl ([.ref x, .int 3])).length) Slot.unset).toArray = ls at hl ⊢
  have hl : lv_has ls 2 [(0, .ref x), (1, .int 3)] := hl
  refine lv_aload_n hx hb dX10_refuse_0 rfl (lv_at hl 0 rfl) ?_
  refine lv_iload_n hx hb dX10_refuse_1 rfl (lv_at hl 1 rfl) ?_
  refine va_put (D := (dC, dI)) (ci := 8) (v := .int 3) (ty := .int) (C := RX10) (T := TX10) (N := 13) hx hb hts inX10 tyX10 tyX10_ok nmX10 hown hK hP hD hS 0 rfl rfl 12 (by decide) (hts _ mw_321) (fun _ h9 => h9) rfl (by decide +kernel) rfl rfl (Nat.le_of_ble_eq_true rfl) dX10_refuse_2 (fun H locs hP hD hS => ?_)
  have hP : va_P (dC, dI) classes [(oc8 x (.ref sh) (.ref lw) (.ref ro) (.ref bq) (.ref bp) (.ref dq) (.ref dp) (.ref lv) (.ref sl) ds sd ul 3)] H := hP
  have hD : va_D A [(oc8 x (.ref sh) (.ref lw) (.ref ro) (.ref bq) (.ref bp) (.ref dq) (.ref dp) (.ref lv) (.ref sl) ds sd ul 3)] := hD
  refine lv_iload_n hx hb dX10_refuse_5 rfl (lv_at hl 1 rfl) ?_
  refine lv_bipush (v := 7) hx hb dX10_refuse_6 (by decide) ?_
  refine lv_icmp_ne (tgt := 21) hx hb dX10_refuse_8 (by decide) (fun c_1 => ?_) (fun c_1 => ?_)
  · refine lv_iconst (v := (-1)) hx hb dX10_refuse_21 (by decide) ?_
    have hP9 := hP.sub (ws' := [(oc8 x (.ref sh) (.ref lw) (.ref ro) (.ref bq) (.ref bp) (.ref dq) (.ref dp) (.ref lv) (.ref sl) ds sd ul 3)]) [0] rfl
    have hD9 := hD.sub (ws' := [(oc8 x (.ref sh) (.ref lw) (.ref ro) (.ref bq) (.ref bp) (.ref dq) (.ref dp) (.ref lv) (.ref sl) ds sd ul 3)]) [0] (by decide) rfl
    rw [hQ9]
    exact W.iret (v := (-1)) hx hb hr (fun t ht hW => ⟨⟨rfl, by rw [ht]; exact hP9, hD9⟩, hS.F ht⟩) hS.2.2 dX10_refuse_22
  · exact absurd c_1 (by decide)
set_option maxHeartbeats 4000000 in
set_option maxRecDepth 100000 in
theorem k_deny_3 (l : Launch) (dC : Nat → ClassId) (dI : Nat → Nat → Nat) (cI cZ cF : ClassId) (sz : Nat) (x : Nat) (sh : Nat) (lw : Nat) (ro : Nat) (bq : Nat) (bp : Nat) (dq : Nat) (dp : Nat) (lv : Nat) (sl : Nat) (sd : Int32) (ul : Int32) (su : Int32) (ds : Int32) : Met l yX10_deny (.code yX10_deny cX10_deny 2 (some .boolean) :: ws0) ({ frames := 1, cells := 0, slots := 0, locals := 21 } : Room) (va_Pc [.ref x, .int 3] (zPre (dC, dI) classes (zTy cI cZ cF) [(oc8 x (.ref sh) (.ref lw) (.ref ro) (.ref bq) (.ref bp) (.ref dq) (.ref dp) (.ref lv) (.ref sl) ds sd ul su)] sz zXN)) (zQ (some (.int 0)) (fun t => va_P (dC, dI) classes [(oc8 x (.ref sh) (.ref lw) (.ref ro) (.ref bq) (.ref bp) (.ref dq) (.ref dp) (.ref lv) (.ref sl) ds sd ul 3)] t.heap ∧ va_D (va_A [(oc8 x (.ref sh) (.ref lw) (.ref ro) (.ref bq) (.ref bp) (.ref dq) (.ref dp) (.ref lv) (.ref sl) ds sd ul su)] sz) [(oc8 x (.ref sh) (.ref lw) (.ref ro) (.ref bq) (.ref bp) (.ref dq) (.ref dp) (.ref lv) (.ref sl) ds sd ul 3)]) (va_A [(oc8 x (.ref sh) (.ref lw) (.ref ro) (.ref bq) (.ref bp) (.ref dq) (.ref dp) (.ref lv) (.ref sl) ds sd ul su)] sz)) 0 0 (va_A [(oc8 x (.ref sh) (.ref lw) (.ref ro) (.ref bq) (.ref bp) (.ref dq) (.ref dp) (.ref lv) (.ref sl) ds sd ul su)] sz) := by
  refine Met.ofW (cc := cX10_deny) (maxL := 2) (ret := (some .boolean)) (by decide) rfl ?_
  intro p e s m args below meth c s₁ B hml hv
  obtain ⟨rfl, hsz, hP, hK, hD0, hXN⟩ := hv
  have hx := B.exec
  have hb := B.bytes
  have hr := B.returns
  have hts0 := atoms_spec (ws := .code yX10_deny cX10_deny 2 (some .boolean) :: ws0) B.pre
  have hts : ∀ w9 ∈ ws0, w9.before ([.ref x, .int 3] : List Value).toArray s = true := fun w9 h => hts0 w9 (List.mem_cons_of_mem _ h)
  have hown : s.vm.findClass "ScaleShop" = some m.cls := findClass_of_methodNamed B.named
  have hlocks := B.notSynchronized
  subst hsz
  have hD := hD0.self (sz := s.heap.size)
  clear hD0
  generalize hAe : va_A [(oc8 x (.ref sh) (.ref lw) (.ref ro) (.ref bq) (.ref bp) (.ref dq) (.ref dp) (.ref lv) (.ref sl) ds sd ul su)] s.heap.size = A at hD ⊢
  have hA : ∀ q : Nat, s.heap.size ≤ q → A q := fun q h => by rw [← hAe]; exact Or.inr h
  clear hAe
  have hS : va_S A s.heap s.heap [] := va_S.rf
  have hP : va_P (dC, dI) classes [(oc8 x (.ref sh) (.ref lw) (.ref ro) (.ref bq) (.ref bp) (.ref dq) (.ref dp) (.ref lv) (.ref sl) ds sd ul su)] s.heap := hP
  obtain ⟨Q9, hQ9⟩ : ∃ Q9 : State → Prop, Q9 = MQ below (zQ (some (.int 0)) (fun t => va_P (dC, dI) classes [(oc8 x (.ref sh) (.ref lw) (.ref ro) (.ref bq) (.ref bp) (.ref dq) (.ref dp) (.ref lv) (.ref sl) ds sd ul 3)] t.heap ∧ va_D A [(oc8 x (.ref sh) (.ref lw) (.ref ro) (.ref bq) (.ref bp) (.ref dq) (.ref dp) (.ref lv) (.ref sl) ds sd ul 3)]) A) ([.ref x, .int 3] : List Value).toArray s 0 0 A := ⟨_, rfl⟩
  rw [← hQ9]
  have hl := lv_entry ([.ref x, .int 3]) (n := 2) (Nat.le_of_ble_eq_true rfl)
  rw [lg_entry_eq]
  generalize (lg_sl ([.ref x, .int 3]) ++ List.replicate (2 - (lg_sl ([.ref x, .int 3])).length) Slot.unset).toArray = ls at hl ⊢
  have hl : lv_has ls 2 [(0, .ref x), (1, .int 3)] := hl
  refine lv_aload_n hx hb dX10_deny_0 rfl (lv_at hl 0 rfl) ?_
  refine lv_iload_n hx hb dX10_deny_1 rfl (lv_at hl 1 rfl) ?_
  have hPc := hP.sub (ws' := [(oc8 x (.ref sh) (.ref lw) (.ref ro) (.ref bq) (.ref bp) (.ref dq) (.ref dp) (.ref lv) (.ref sl) ds sd ul su)]) [0] rfl
  have hDc := hD.sub (ws' := [(oc8 x (.ref sh) (.ref lw) (.ref ro) (.ref bq) (.ref bp) (.ref dq) (.ref dp) (.ref lv) (.ref sl) ds sd ul su)]) [0] (by decide) rfl
  have hFc := va_free (wc := [(oc8 x (.ref sh) (.ref lw) (.ref ro) (.ref bq) (.ref bp) (.ref dq) (.ref dp) (.ref lv) (.ref sl) ds sd ul su)]) hD hS hA [0] rfl
  refine zcall (st1 := [.int (-1)]) (va_runV (As := [.int 3]) (rest := []) ⟨hx, hb, hml, hown, hts⟩ (k_refuse_3 l dC dI cI cZ cF s.heap.size x sh lw ro bq bp dq dp lv sl sd ul su ds ) (cwV 1 hts (zz_gV mw_356 mw_358 mw_0 mw_99 mc_yX10_refuse) rfl rfl rfl (by decide +kernel) ⟨Nat.le_of_ble_eq_true rfl, Nat.le_of_ble_eq_true rfl⟩) (zPV2 (q0 := 0) (ci := 8) hPc hDc hK hXN rfl rfl) rfl rfl hl.1 rfl (lv_room (Nat.le_of_ble_eq_true rfl)) dX10_deny_2 ⟨Nat.le_of_ble_eq_true rfl, Nat.le_of_ble_eq_true rfl⟩) hS hFc hFc rfl (fun t H1 locs ht hB hk1 hS => ?_)
  obtain ⟨hP1, hD1⟩ := hB
  rw [ht] at hP1
  obtain ⟨hP, hD⟩ := va_join (wr := []) (w1 := [(oc8 x (.ref sh) (.ref lw) (.ref ro) (.ref bq) (.ref bp) (.ref dq) (.ref dp) (.ref lv) (.ref sl) ds sd ul 3)]) hP hD [0] [] rfl rfl (by decide) (by decide) hk1 hFc hP1 hD1
  clear hk1 hPc hDc hFc hP1 hD1 ht
  generalize H1 = H at hP hS ⊢
  have hP : va_P (dC, dI) classes [(oc8 x (.ref sh) (.ref lw) (.ref ro) (.ref bq) (.ref bp) (.ref dq) (.ref dp) (.ref lv) (.ref sl) ds sd ul 3)] H := hP
  have hD : va_D A [(oc8 x (.ref sh) (.ref lw) (.ref ro) (.ref bq) (.ref bp) (.ref dq) (.ref dp) (.ref lv) (.ref sl) ds sd ul 3)] := hD
  refine lv_pop hx hb dX10_deny_5 rfl ?_
  refine lv_iconst (v := 0) hx hb dX10_deny_6 (by decide) ?_
  have hP9 := hP.sub (ws' := [(oc8 x (.ref sh) (.ref lw) (.ref ro) (.ref bq) (.ref bp) (.ref dq) (.ref dp) (.ref lv) (.ref sl) ds sd ul 3)]) [0] rfl
  have hD9 := hD.sub (ws' := [(oc8 x (.ref sh) (.ref lw) (.ref ro) (.ref bq) (.ref bp) (.ref dq) (.ref dp) (.ref lv) (.ref sl) ds sd ul 3)]) [0] (by decide) rfl
  rw [hQ9]
  exact W.zret (ty := .boolean) (v := 0) hx hb hr (rfl) (fun t ht hW => ⟨⟨rfl, by rw [ht]; exact hP9, hD9⟩, hS.F ht⟩) hS.2.2 dX10_deny_7
set_option maxHeartbeats 4000000 in
set_option maxRecDepth 100000 in
theorem k_refuse_4 (l : Launch) (dC : Nat → ClassId) (dI : Nat → Nat → Nat) (cI cZ cF : ClassId) (sz : Nat) (x : Nat) (sh : Nat) (lw : Nat) (ro : Nat) (bq : Nat) (bp : Nat) (dq : Nat) (dp : Nat) (lv : Nat) (sl : Nat) (sd : Int32) (ul : Int32) (su : Int32) (ds : Int32) : Met l yX10_refuse (.code yX10_refuse cX10_refuse 2 (some .int) :: ws0) ({ frames := 0, cells := 0, slots := 0, locals := 0 } : Room) (va_Pc [.ref x, .int 4] (zPre (dC, dI) classes (zTy cI cZ cF) [(oc8 x (.ref sh) (.ref lw) (.ref ro) (.ref bq) (.ref bp) (.ref dq) (.ref dp) (.ref lv) (.ref sl) ds sd ul su)] sz zXN)) (zQ (some (.int (-1))) (fun t => va_P (dC, dI) classes [(oc8 x (.ref sh) (.ref lw) (.ref ro) (.ref bq) (.ref bp) (.ref dq) (.ref dp) (.ref lv) (.ref sl) ds sd ul 4)] t.heap ∧ va_D (va_A [(oc8 x (.ref sh) (.ref lw) (.ref ro) (.ref bq) (.ref bp) (.ref dq) (.ref dp) (.ref lv) (.ref sl) ds sd ul su)] sz) [(oc8 x (.ref sh) (.ref lw) (.ref ro) (.ref bq) (.ref bp) (.ref dq) (.ref dp) (.ref lv) (.ref sl) ds sd ul 4)]) (va_A [(oc8 x (.ref sh) (.ref lw) (.ref ro) (.ref bq) (.ref bp) (.ref dq) (.ref dp) (.ref lv) (.ref sl) ds sd ul su)] sz)) 0 0 (va_A [(oc8 x (.ref sh) (.ref lw) (.ref ro) (.ref bq) (.ref bp) (.ref dq) (.ref dp) (.ref lv) (.ref sl) ds sd ul su)] sz) := by
  refine Met.ofW (cc := cX10_refuse) (maxL := 2) (ret := (some .int)) (by decide) rfl ?_
  intro p e s m args below meth c s₁ B hml hv
  obtain ⟨rfl, hsz, hP, hK, hD0, hXN⟩ := hv
  have hx := B.exec
  have hb := B.bytes
  have hr := B.returns
  have hts0 := atoms_spec (ws := .code yX10_refuse cX10_refuse 2 (some .int) :: ws0) B.pre
  have hts : ∀ w9 ∈ ws0, w9.before ([.ref x, .int 4] : List Value).toArray s = true := fun w9 h => hts0 w9 (List.mem_cons_of_mem _ h)
  have hown : s.vm.findClass "ScaleShop" = some m.cls := findClass_of_methodNamed B.named
  have hlocks := B.notSynchronized
  subst hsz
  have hD := hD0.self (sz := s.heap.size)
  clear hD0
  generalize hAe : va_A [(oc8 x (.ref sh) (.ref lw) (.ref ro) (.ref bq) (.ref bp) (.ref dq) (.ref dp) (.ref lv) (.ref sl) ds sd ul su)] s.heap.size = A at hD ⊢
  have hA : ∀ q : Nat, s.heap.size ≤ q → A q := fun q h => by rw [← hAe]; exact Or.inr h
  clear hAe
  have hS : va_S A s.heap s.heap [] := va_S.rf
  have hP : va_P (dC, dI) classes [(oc8 x (.ref sh) (.ref lw) (.ref ro) (.ref bq) (.ref bp) (.ref dq) (.ref dp) (.ref lv) (.ref sl) ds sd ul su)] s.heap := hP
  obtain ⟨Q9, hQ9⟩ : ∃ Q9 : State → Prop, Q9 = MQ below (zQ (some (.int (-1))) (fun t => va_P (dC, dI) classes [(oc8 x (.ref sh) (.ref lw) (.ref ro) (.ref bq) (.ref bp) (.ref dq) (.ref dp) (.ref lv) (.ref sl) ds sd ul 4)] t.heap ∧ va_D A [(oc8 x (.ref sh) (.ref lw) (.ref ro) (.ref bq) (.ref bp) (.ref dq) (.ref dp) (.ref lv) (.ref sl) ds sd ul 4)]) A) ([.ref x, .int 4] : List Value).toArray s 0 0 A := ⟨_, rfl⟩
  rw [← hQ9]
  have hl := lv_entry ([.ref x, .int 4]) (n := 2) (Nat.le_of_ble_eq_true rfl)
  rw [lg_entry_eq]
  generalize (lg_sl ([.ref x, .int 4]) ++ List.replicate (2 - (lg_sl ([.ref x, .int 4])).length) Slot.unset).toArray = ls at hl ⊢
  have hl : lv_has ls 2 [(0, .ref x), (1, .int 4)] := hl
  refine lv_aload_n hx hb dX10_refuse_0 rfl (lv_at hl 0 rfl) ?_
  refine lv_iload_n hx hb dX10_refuse_1 rfl (lv_at hl 1 rfl) ?_
  refine va_put (D := (dC, dI)) (ci := 8) (v := .int 4) (ty := .int) (C := RX10) (T := TX10) (N := 13) hx hb hts inX10 tyX10 tyX10_ok nmX10 hown hK hP hD hS 0 rfl rfl 12 (by decide) (hts _ mw_321) (fun _ h9 => h9) rfl (by decide +kernel) rfl rfl (Nat.le_of_ble_eq_true rfl) dX10_refuse_2 (fun H locs hP hD hS => ?_)
  have hP : va_P (dC, dI) classes [(oc8 x (.ref sh) (.ref lw) (.ref ro) (.ref bq) (.ref bp) (.ref dq) (.ref dp) (.ref lv) (.ref sl) ds sd ul 4)] H := hP
  have hD : va_D A [(oc8 x (.ref sh) (.ref lw) (.ref ro) (.ref bq) (.ref bp) (.ref dq) (.ref dp) (.ref lv) (.ref sl) ds sd ul 4)] := hD
  refine lv_iload_n hx hb dX10_refuse_5 rfl (lv_at hl 1 rfl) ?_
  refine lv_bipush (v := 7) hx hb dX10_refuse_6 (by decide) ?_
  refine lv_icmp_ne (tgt := 21) hx hb dX10_refuse_8 (by decide) (fun c_1 => ?_) (fun c_1 => ?_)
  · refine lv_iconst (v := (-1)) hx hb dX10_refuse_21 (by decide) ?_
    have hP9 := hP.sub (ws' := [(oc8 x (.ref sh) (.ref lw) (.ref ro) (.ref bq) (.ref bp) (.ref dq) (.ref dp) (.ref lv) (.ref sl) ds sd ul 4)]) [0] rfl
    have hD9 := hD.sub (ws' := [(oc8 x (.ref sh) (.ref lw) (.ref ro) (.ref bq) (.ref bp) (.ref dq) (.ref dp) (.ref lv) (.ref sl) ds sd ul 4)]) [0] (by decide) rfl
    rw [hQ9]
    exact W.iret (v := (-1)) hx hb hr (fun t ht hW => ⟨⟨rfl, by rw [ht]; exact hP9, hD9⟩, hS.F ht⟩) hS.2.2 dX10_refuse_22
  · exact absurd c_1 (by decide)
set_option maxHeartbeats 4000000 in
set_option maxRecDepth 100000 in
theorem k_deny_4 (l : Launch) (dC : Nat → ClassId) (dI : Nat → Nat → Nat) (cI cZ cF : ClassId) (sz : Nat) (x : Nat) (sh : Nat) (lw : Nat) (ro : Nat) (bq : Nat) (bp : Nat) (dq : Nat) (dp : Nat) (lv : Nat) (sl : Nat) (sd : Int32) (ul : Int32) (su : Int32) (ds : Int32) : Met l yX10_deny (.code yX10_deny cX10_deny 2 (some .boolean) :: ws0) ({ frames := 1, cells := 0, slots := 0, locals := 21 } : Room) (va_Pc [.ref x, .int 4] (zPre (dC, dI) classes (zTy cI cZ cF) [(oc8 x (.ref sh) (.ref lw) (.ref ro) (.ref bq) (.ref bp) (.ref dq) (.ref dp) (.ref lv) (.ref sl) ds sd ul su)] sz zXN)) (zQ (some (.int 0)) (fun t => va_P (dC, dI) classes [(oc8 x (.ref sh) (.ref lw) (.ref ro) (.ref bq) (.ref bp) (.ref dq) (.ref dp) (.ref lv) (.ref sl) ds sd ul 4)] t.heap ∧ va_D (va_A [(oc8 x (.ref sh) (.ref lw) (.ref ro) (.ref bq) (.ref bp) (.ref dq) (.ref dp) (.ref lv) (.ref sl) ds sd ul su)] sz) [(oc8 x (.ref sh) (.ref lw) (.ref ro) (.ref bq) (.ref bp) (.ref dq) (.ref dp) (.ref lv) (.ref sl) ds sd ul 4)]) (va_A [(oc8 x (.ref sh) (.ref lw) (.ref ro) (.ref bq) (.ref bp) (.ref dq) (.ref dp) (.ref lv) (.ref sl) ds sd ul su)] sz)) 0 0 (va_A [(oc8 x (.ref sh) (.ref lw) (.ref ro) (.ref bq) (.ref bp) (.ref dq) (.ref dp) (.ref lv) (.ref sl) ds sd ul su)] sz) := by
  refine Met.ofW (cc := cX10_deny) (maxL := 2) (ret := (some .boolean)) (by decide) rfl ?_
  intro p e s m args below meth c s₁ B hml hv
  obtain ⟨rfl, hsz, hP, hK, hD0, hXN⟩ := hv
  have hx := B.exec
  have hb := B.bytes
  have hr := B.returns
  have hts0 := atoms_spec (ws := .code yX10_deny cX10_deny 2 (some .boolean) :: ws0) B.pre
  have hts : ∀ w9 ∈ ws0, w9.before ([.ref x, .int 4] : List Value).toArray s = true := fun w9 h => hts0 w9 (List.mem_cons_of_mem _ h)
  have hown : s.vm.findClass "ScaleShop" = some m.cls := findClass_of_methodNamed B.named
  have hlocks := B.notSynchronized
  subst hsz
  have hD := hD0.self (sz := s.heap.size)
  clear hD0
  generalize hAe : va_A [(oc8 x (.ref sh) (.ref lw) (.ref ro) (.ref bq) (.ref bp) (.ref dq) (.ref dp) (.ref lv) (.ref sl) ds sd ul su)] s.heap.size = A at hD ⊢
  have hA : ∀ q : Nat, s.heap.size ≤ q → A q := fun q h => by rw [← hAe]; exact Or.inr h
  clear hAe
  have hS : va_S A s.heap s.heap [] := va_S.rf
  have hP : va_P (dC, dI) classes [(oc8 x (.ref sh) (.ref lw) (.ref ro) (.ref bq) (.ref bp) (.ref dq) (.ref dp) (.ref lv) (.ref sl) ds sd ul su)] s.heap := hP
  obtain ⟨Q9, hQ9⟩ : ∃ Q9 : State → Prop, Q9 = MQ below (zQ (some (.int 0)) (fun t => va_P (dC, dI) classes [(oc8 x (.ref sh) (.ref lw) (.ref ro) (.ref bq) (.ref bp) (.ref dq) (.ref dp) (.ref lv) (.ref sl) ds sd ul 4)] t.heap ∧ va_D A [(oc8 x (.ref sh) (.ref lw) (.ref ro) (.ref bq) (.ref bp) (.ref dq) (.ref dp) (.ref lv) (.ref sl) ds sd ul 4)]) A) ([.ref x, .int 4] : List Value).toArray s 0 0 A := ⟨_, rfl⟩
  rw [← hQ9]
  have hl := lv_entry ([.ref x, .int 4]) (n := 2) (Nat.le_of_ble_eq_true rfl)
  rw [lg_entry_eq]
  generalize (lg_sl ([.ref x, .int 4]) ++ List.replicate (2 - (lg_sl ([.ref x, .int 4])).length) Slot.unset).toArray = ls at hl ⊢
  have hl : lv_has ls 2 [(0, .ref x), (1, .int 4)] := hl
  refine lv_aload_n hx hb dX10_deny_0 rfl (lv_at hl 0 rfl) ?_
  refine lv_iload_n hx hb dX10_deny_1 rfl (lv_at hl 1 rfl) ?_
  have hPc := hP.sub (ws' := [(oc8 x (.ref sh) (.ref lw) (.ref ro) (.ref bq) (.ref bp) (.ref dq) (.ref dp) (.ref lv) (.ref sl) ds sd ul su)]) [0] rfl
  have hDc := hD.sub (ws' := [(oc8 x (.ref sh) (.ref lw) (.ref ro) (.ref bq) (.ref bp) (.ref dq) (.ref dp) (.ref lv) (.ref sl) ds sd ul su)]) [0] (by decide) rfl
  have hFc := va_free (wc := [(oc8 x (.ref sh) (.ref lw) (.ref ro) (.ref bq) (.ref bp) (.ref dq) (.ref dp) (.ref lv) (.ref sl) ds sd ul su)]) hD hS hA [0] rfl
  refine zcall (st1 := [.int (-1)]) (va_runV (As := [.int 4]) (rest := []) ⟨hx, hb, hml, hown, hts⟩ (k_refuse_4 l dC dI cI cZ cF s.heap.size x sh lw ro bq bp dq dp lv sl sd ul su ds ) (cwV 1 hts (zz_gV mw_356 mw_358 mw_0 mw_99 mc_yX10_refuse) rfl rfl rfl (by decide +kernel) ⟨Nat.le_of_ble_eq_true rfl, Nat.le_of_ble_eq_true rfl⟩) (zPV2 (q0 := 0) (ci := 8) hPc hDc hK hXN rfl rfl) rfl rfl hl.1 rfl (lv_room (Nat.le_of_ble_eq_true rfl)) dX10_deny_2 ⟨Nat.le_of_ble_eq_true rfl, Nat.le_of_ble_eq_true rfl⟩) hS hFc hFc rfl (fun t H1 locs ht hB hk1 hS => ?_)
  obtain ⟨hP1, hD1⟩ := hB
  rw [ht] at hP1
  obtain ⟨hP, hD⟩ := va_join (wr := []) (w1 := [(oc8 x (.ref sh) (.ref lw) (.ref ro) (.ref bq) (.ref bp) (.ref dq) (.ref dp) (.ref lv) (.ref sl) ds sd ul 4)]) hP hD [0] [] rfl rfl (by decide) (by decide) hk1 hFc hP1 hD1
  clear hk1 hPc hDc hFc hP1 hD1 ht
  generalize H1 = H at hP hS ⊢
  have hP : va_P (dC, dI) classes [(oc8 x (.ref sh) (.ref lw) (.ref ro) (.ref bq) (.ref bp) (.ref dq) (.ref dp) (.ref lv) (.ref sl) ds sd ul 4)] H := hP
  have hD : va_D A [(oc8 x (.ref sh) (.ref lw) (.ref ro) (.ref bq) (.ref bp) (.ref dq) (.ref dp) (.ref lv) (.ref sl) ds sd ul 4)] := hD
  refine lv_pop hx hb dX10_deny_5 rfl ?_
  refine lv_iconst (v := 0) hx hb dX10_deny_6 (by decide) ?_
  have hP9 := hP.sub (ws' := [(oc8 x (.ref sh) (.ref lw) (.ref ro) (.ref bq) (.ref bp) (.ref dq) (.ref dp) (.ref lv) (.ref sl) ds sd ul 4)]) [0] rfl
  have hD9 := hD.sub (ws' := [(oc8 x (.ref sh) (.ref lw) (.ref ro) (.ref bq) (.ref bp) (.ref dq) (.ref dp) (.ref lv) (.ref sl) ds sd ul 4)]) [0] (by decide) rfl
  rw [hQ9]
  exact W.zret (ty := .boolean) (v := 0) hx hb hr (rfl) (fun t ht hW => ⟨⟨rfl, by rw [ht]; exact hP9, hD9⟩, hS.F ht⟩) hS.2.2 dX10_deny_7
set_option maxHeartbeats 4000000 in
set_option maxRecDepth 100000 in
theorem k_refuse_5 (l : Launch) (dC : Nat → ClassId) (dI : Nat → Nat → Nat) (cI cZ cF : ClassId) (sz : Nat) (x : Nat) (sh : Nat) (lw : Nat) (ro : Nat) (bq : Nat) (bp : Nat) (dq : Nat) (dp : Nat) (lv : Nat) (sl : Nat) (sd : Int32) (ul : Int32) (su : Int32) (ds : Int32) : Met l yX10_refuse (.code yX10_refuse cX10_refuse 2 (some .int) :: ws0) ({ frames := 0, cells := 0, slots := 0, locals := 0 } : Room) (va_Pc [.ref x, .int 5] (zPre (dC, dI) classes (zTy cI cZ cF) [(oc8 x (.ref sh) (.ref lw) (.ref ro) (.ref bq) (.ref bp) (.ref dq) (.ref dp) (.ref lv) (.ref sl) ds sd ul su)] sz zXN)) (zQ (some (.int (-1))) (fun t => va_P (dC, dI) classes [(oc8 x (.ref sh) (.ref lw) (.ref ro) (.ref bq) (.ref bp) (.ref dq) (.ref dp) (.ref lv) (.ref sl) ds sd ul 5)] t.heap ∧ va_D (va_A [(oc8 x (.ref sh) (.ref lw) (.ref ro) (.ref bq) (.ref bp) (.ref dq) (.ref dp) (.ref lv) (.ref sl) ds sd ul su)] sz) [(oc8 x (.ref sh) (.ref lw) (.ref ro) (.ref bq) (.ref bp) (.ref dq) (.ref dp) (.ref lv) (.ref sl) ds sd ul 5)]) (va_A [(oc8 x (.ref sh) (.ref lw) (.ref ro) (.ref bq) (.ref bp) (.ref dq) (.ref dp) (.ref lv) (.ref sl) ds sd ul su)] sz)) 0 0 (va_A [(oc8 x (.ref sh) (.ref lw) (.ref ro) (.ref bq) (.ref bp) (.ref dq) (.ref dp) (.ref lv) (.ref sl) ds sd ul su)] sz) := by
  refine Met.ofW (cc := cX10_refuse) (maxL := 2) (ret := (some .int)) (by decide) rfl ?_
  intro p e s m args below meth c s₁ B hml hv
  obtain ⟨rfl, hsz, hP, hK, hD0, hXN⟩ := hv
  have hx := B.exec
  have hb := B.bytes
  have hr := B.returns
  have hts0 := atoms_spec (ws := .code yX10_refuse cX10_refuse 2 (some .int) :: ws0) B.pre
  have hts : ∀ w9 ∈ ws0, w9.before ([.ref x, .int 5] : List Value).toArray s = true := fun w9 h => hts0 w9 (List.mem_cons_of_mem _ h)
  have hown : s.vm.findClass "ScaleShop" = some m.cls := findClass_of_methodNamed B.named
  have hlocks := B.notSynchronized
  subst hsz
  have hD := hD0.self (sz := s.heap.size)
  clear hD0
  generalize hAe : va_A [(oc8 x (.ref sh) (.ref lw) (.ref ro) (.ref bq) (.ref bp) (.ref dq) (.ref dp) (.ref lv) (.ref sl) ds sd ul su)] s.heap.size = A at hD ⊢
  have hA : ∀ q : Nat, s.heap.size ≤ q → A q := fun q h => by rw [← hAe]; exact Or.inr h
  clear hAe
  have hS : va_S A s.heap s.heap [] := va_S.rf
  have hP : va_P (dC, dI) classes [(oc8 x (.ref sh) (.ref lw) (.ref ro) (.ref bq) (.ref bp) (.ref dq) (.ref dp) (.ref lv) (.ref sl) ds sd ul su)] s.heap := hP
  obtain ⟨Q9, hQ9⟩ : ∃ Q9 : State → Prop, Q9 = MQ below (zQ (some (.int (-1))) (fun t => va_P (dC, dI) classes [(oc8 x (.ref sh) (.ref lw) (.ref ro) (.ref bq) (.ref bp) (.ref dq) (.ref dp) (.ref lv) (.ref sl) ds sd ul 5)] t.heap ∧ va_D A [(oc8 x (.ref sh) (.ref lw) (.ref ro) (.ref bq) (.ref bp) (.ref dq) (.ref dp) (.ref lv) (.ref sl) ds sd ul 5)]) A) ([.ref x, .int 5] : List Value).toArray s 0 0 A := ⟨_, rfl⟩
  rw [← hQ9]
  have hl := lv_entry ([.ref x, .int 5]) (n := 2) (Nat.le_of_ble_eq_true rfl)
  rw [lg_entry_eq]
  generalize (lg_sl ([.ref x, .int 5]) ++ List.replicate (2 - (lg_sl ([.ref x, .int 5])).length) Slot.unset).toArray = ls at hl ⊢
  have hl : lv_has ls 2 [(0, .ref x), (1, .int 5)] := hl
  refine lv_aload_n hx hb dX10_refuse_0 rfl (lv_at hl 0 rfl) ?_
  refine lv_iload_n hx hb dX10_refuse_1 rfl (lv_at hl 1 rfl) ?_
  refine va_put (D := (dC, dI)) (ci := 8) (v := .int 5) (ty := .int) (C := RX10) (T := TX10) (N := 13) hx hb hts inX10 tyX10 tyX10_ok nmX10 hown hK hP hD hS 0 rfl rfl 12 (by decide) (hts _ mw_321) (fun _ h9 => h9) rfl (by decide +kernel) rfl rfl (Nat.le_of_ble_eq_true rfl) dX10_refuse_2 (fun H locs hP hD hS => ?_)
  have hP : va_P (dC, dI) classes [(oc8 x (.ref sh) (.ref lw) (.ref ro) (.ref bq) (.ref bp) (.ref dq) (.ref dp) (.ref lv) (.ref sl) ds sd ul 5)] H := hP
  have hD : va_D A [(oc8 x (.ref sh) (.ref lw) (.ref ro) (.ref bq) (.ref bp) (.ref dq) (.ref dp) (.ref lv) (.ref sl) ds sd ul 5)] := hD
  refine lv_iload_n hx hb dX10_refuse_5 rfl (lv_at hl 1 rfl) ?_
  refine lv_bipush (v := 7) hx hb dX10_refuse_6 (by decide) ?_
  refine lv_icmp_ne (tgt := 21) hx hb dX10_refuse_8 (by decide) (fun c_1 => ?_) (fun c_1 => ?_)
  · refine lv_iconst (v := (-1)) hx hb dX10_refuse_21 (by decide) ?_
    have hP9 := hP.sub (ws' := [(oc8 x (.ref sh) (.ref lw) (.ref ro) (.ref bq) (.ref bp) (.ref dq) (.ref dp) (.ref lv) (.ref sl) ds sd ul 5)]) [0] rfl
    have hD9 := hD.sub (ws' := [(oc8 x (.ref sh) (.ref lw) (.ref ro) (.ref bq) (.ref bp) (.ref dq) (.ref dp) (.ref lv) (.ref sl) ds sd ul 5)]) [0] (by decide) rfl
    rw [hQ9]
    exact W.iret (v := (-1)) hx hb hr (fun t ht hW => ⟨⟨rfl, by rw [ht]; exact hP9, hD9⟩, hS.F ht⟩) hS.2.2 dX10_refuse_22
  · exact absurd c_1 (by decide)
set_option maxHeartbeats 4000000 in
set_option maxRecDepth 100000 in
theorem k_deny_5 (l : Launch) (dC : Nat → ClassId) (dI : Nat → Nat → Nat) (cI cZ cF : ClassId) (sz : Nat) (x : Nat) (sh : Nat) (lw : Nat) (ro : Nat) (bq : Nat) (bp : Nat) (dq : Nat) (dp : Nat) (lv : Nat) (sl : Nat) (sd : Int32) (ul : Int32) (su : Int32) (ds : Int32) : Met l yX10_deny (.code yX10_deny cX10_deny 2 (some .boolean) :: ws0) ({ frames := 1, cells := 0, slots := 0, locals := 21 } : Room) (va_Pc [.ref x, .int 5] (zPre (dC, dI) classes (zTy cI cZ cF) [(oc8 x (.ref sh) (.ref lw) (.ref ro) (.ref bq) (.ref bp) (.ref dq) (.ref dp) (.ref lv) (.ref sl) ds sd ul su)] sz zXN)) (zQ (some (.int 0)) (fun t => va_P (dC, dI) classes [(oc8 x (.ref sh) (.ref lw) (.ref ro) (.ref bq) (.ref bp) (.ref dq) (.ref dp) (.ref lv) (.ref sl) ds sd ul 5)] t.heap ∧ va_D (va_A [(oc8 x (.ref sh) (.ref lw) (.ref ro) (.ref bq) (.ref bp) (.ref dq) (.ref dp) (.ref lv) (.ref sl) ds sd ul su)] sz) [(oc8 x (.ref sh) (.ref lw) (.ref ro) (.ref bq) (.ref bp) (.ref dq) (.ref dp) (.ref lv) (.ref sl) ds sd ul 5)]) (va_A [(oc8 x (.ref sh) (.ref lw) (.ref ro) (.ref bq) (.ref bp) (.ref dq) (.ref dp) (.ref lv) (.ref sl) ds sd ul su)] sz)) 0 0 (va_A [(oc8 x (.ref sh) (.ref lw) (.ref ro) (.ref bq) (.ref bp) (.ref dq) (.ref dp) (.ref lv) (.ref sl) ds sd ul su)] sz) := by
  refine Met.ofW (cc := cX10_deny) (maxL := 2) (ret := (some .boolean)) (by decide) rfl ?_
  intro p e s m args below meth c s₁ B hml hv
  obtain ⟨rfl, hsz, hP, hK, hD0, hXN⟩ := hv
  have hx := B.exec
  have hb := B.bytes
  have hr := B.returns
  have hts0 := atoms_spec (ws := .code yX10_deny cX10_deny 2 (some .boolean) :: ws0) B.pre
  have hts : ∀ w9 ∈ ws0, w9.before ([.ref x, .int 5] : List Value).toArray s = true := fun w9 h => hts0 w9 (List.mem_cons_of_mem _ h)
  have hown : s.vm.findClass "ScaleShop" = some m.cls := findClass_of_methodNamed B.named
  have hlocks := B.notSynchronized
  subst hsz
  have hD := hD0.self (sz := s.heap.size)
  clear hD0
  generalize hAe : va_A [(oc8 x (.ref sh) (.ref lw) (.ref ro) (.ref bq) (.ref bp) (.ref dq) (.ref dp) (.ref lv) (.ref sl) ds sd ul su)] s.heap.size = A at hD ⊢
  have hA : ∀ q : Nat, s.heap.size ≤ q → A q := fun q h => by rw [← hAe]; exact Or.inr h
  clear hAe
  have hS : va_S A s.heap s.heap [] := va_S.rf
  have hP : va_P (dC, dI) classes [(oc8 x (.ref sh) (.ref lw) (.ref ro) (.ref bq) (.ref bp) (.ref dq) (.ref dp) (.ref lv) (.ref sl) ds sd ul su)] s.heap := hP
  obtain ⟨Q9, hQ9⟩ : ∃ Q9 : State → Prop, Q9 = MQ below (zQ (some (.int 0)) (fun t => va_P (dC, dI) classes [(oc8 x (.ref sh) (.ref lw) (.ref ro) (.ref bq) (.ref bp) (.ref dq) (.ref dp) (.ref lv) (.ref sl) ds sd ul 5)] t.heap ∧ va_D A [(oc8 x (.ref sh) (.ref lw) (.ref ro) (.ref bq) (.ref bp) (.ref dq) (.ref dp) (.ref lv) (.ref sl) ds sd ul 5)]) A) ([.ref x, .int 5] : List Value).toArray s 0 0 A := ⟨_, rfl⟩
  rw [← hQ9]
  have hl := lv_entry ([.ref x, .int 5]) (n := 2) (Nat.le_of_ble_eq_true rfl)
  rw [lg_entry_eq]
  generalize (lg_sl ([.ref x, .int 5]) ++ List.replicate (2 - (lg_sl ([.ref x, .int 5])).length) Slot.unset).toArray = ls at hl ⊢
  have hl : lv_has ls 2 [(0, .ref x), (1, .int 5)] := hl
  refine lv_aload_n hx hb dX10_deny_0 rfl (lv_at hl 0 rfl) ?_
  refine lv_iload_n hx hb dX10_deny_1 rfl (lv_at hl 1 rfl) ?_
  have hPc := hP.sub (ws' := [(oc8 x (.ref sh) (.ref lw) (.ref ro) (.ref bq) (.ref bp) (.ref dq) (.ref dp) (.ref lv) (.ref sl) ds sd ul su)]) [0] rfl
  have hDc := hD.sub (ws' := [(oc8 x (.ref sh) (.ref lw) (.ref ro) (.ref bq) (.ref bp) (.ref dq) (.ref dp) (.ref lv) (.ref sl) ds sd ul su)]) [0] (by decide) rfl
  have hFc := va_free (wc := [(oc8 x (.ref sh) (.ref lw) (.ref ro) (.ref bq) (.ref bp) (.ref dq) (.ref dp) (.ref lv) (.ref sl) ds sd ul su)]) hD hS hA [0] rfl
  refine zcall (st1 := [.int (-1)]) (va_runV (As := [.int 5]) (rest := []) ⟨hx, hb, hml, hown, hts⟩ (k_refuse_5 l dC dI cI cZ cF s.heap.size x sh lw ro bq bp dq dp lv sl sd ul su ds ) (cwV 1 hts (zz_gV mw_356 mw_358 mw_0 mw_99 mc_yX10_refuse) rfl rfl rfl (by decide +kernel) ⟨Nat.le_of_ble_eq_true rfl, Nat.le_of_ble_eq_true rfl⟩) (zPV2 (q0 := 0) (ci := 8) hPc hDc hK hXN rfl rfl) rfl rfl hl.1 rfl (lv_room (Nat.le_of_ble_eq_true rfl)) dX10_deny_2 ⟨Nat.le_of_ble_eq_true rfl, Nat.le_of_ble_eq_true rfl⟩) hS hFc hFc rfl (fun t H1 locs ht hB hk1 hS => ?_)
  obtain ⟨hP1, hD1⟩ := hB
  rw [ht] at hP1
  obtain ⟨hP, hD⟩ := va_join (wr := []) (w1 := [(oc8 x (.ref sh) (.ref lw) (.ref ro) (.ref bq) (.ref bp) (.ref dq) (.ref dp) (.ref lv) (.ref sl) ds sd ul 5)]) hP hD [0] [] rfl rfl (by decide) (by decide) hk1 hFc hP1 hD1
  clear hk1 hPc hDc hFc hP1 hD1 ht
  generalize H1 = H at hP hS ⊢
  have hP : va_P (dC, dI) classes [(oc8 x (.ref sh) (.ref lw) (.ref ro) (.ref bq) (.ref bp) (.ref dq) (.ref dp) (.ref lv) (.ref sl) ds sd ul 5)] H := hP
  have hD : va_D A [(oc8 x (.ref sh) (.ref lw) (.ref ro) (.ref bq) (.ref bp) (.ref dq) (.ref dp) (.ref lv) (.ref sl) ds sd ul 5)] := hD
  refine lv_pop hx hb dX10_deny_5 rfl ?_
  refine lv_iconst (v := 0) hx hb dX10_deny_6 (by decide) ?_
  have hP9 := hP.sub (ws' := [(oc8 x (.ref sh) (.ref lw) (.ref ro) (.ref bq) (.ref bp) (.ref dq) (.ref dp) (.ref lv) (.ref sl) ds sd ul 5)]) [0] rfl
  have hD9 := hD.sub (ws' := [(oc8 x (.ref sh) (.ref lw) (.ref ro) (.ref bq) (.ref bp) (.ref dq) (.ref dp) (.ref lv) (.ref sl) ds sd ul 5)]) [0] (by decide) rfl
  rw [hQ9]
  exact W.zret (ty := .boolean) (v := 0) hx hb hr (rfl) (fun t ht hW => ⟨⟨rfl, by rw [ht]; exact hP9, hD9⟩, hS.F ht⟩) hS.2.2 dX10_deny_7
set_option maxHeartbeats 4000000 in
set_option maxRecDepth 100000 in
theorem k_refuse_6 (l : Launch) (dC : Nat → ClassId) (dI : Nat → Nat → Nat) (cI cZ cF : ClassId) (sz : Nat) (x : Nat) (sh : Nat) (lw : Nat) (ro : Nat) (bq : Nat) (bp : Nat) (dq : Nat) (dp : Nat) (lv : Nat) (sl : Nat) (sd : Int32) (ul : Int32) (su : Int32) (ds : Int32) : Met l yX10_refuse (.code yX10_refuse cX10_refuse 2 (some .int) :: ws0) ({ frames := 0, cells := 0, slots := 0, locals := 0 } : Room) (va_Pc [.ref x, .int 6] (zPre (dC, dI) classes (zTy cI cZ cF) [(oc8 x (.ref sh) (.ref lw) (.ref ro) (.ref bq) (.ref bp) (.ref dq) (.ref dp) (.ref lv) (.ref sl) ds sd ul su)] sz zXN)) (zQ (some (.int (-1))) (fun t => va_P (dC, dI) classes [(oc8 x (.ref sh) (.ref lw) (.ref ro) (.ref bq) (.ref bp) (.ref dq) (.ref dp) (.ref lv) (.ref sl) ds sd ul 6)] t.heap ∧ va_D (va_A [(oc8 x (.ref sh) (.ref lw) (.ref ro) (.ref bq) (.ref bp) (.ref dq) (.ref dp) (.ref lv) (.ref sl) ds sd ul su)] sz) [(oc8 x (.ref sh) (.ref lw) (.ref ro) (.ref bq) (.ref bp) (.ref dq) (.ref dp) (.ref lv) (.ref sl) ds sd ul 6)]) (va_A [(oc8 x (.ref sh) (.ref lw) (.ref ro) (.ref bq) (.ref bp) (.ref dq) (.ref dp) (.ref lv) (.ref sl) ds sd ul su)] sz)) 0 0 (va_A [(oc8 x (.ref sh) (.ref lw) (.ref ro) (.ref bq) (.ref bp) (.ref dq) (.ref dp) (.ref lv) (.ref sl) ds sd ul su)] sz) := by
  refine Met.ofW (cc := cX10_refuse) (maxL := 2) (ret := (some .int)) (by decide) rfl ?_
  intro p e s m args below meth c s₁ B hml hv
  obtain ⟨rfl, hsz, hP, hK, hD0, hXN⟩ := hv
  have hx := B.exec
  have hb := B.bytes
  have hr := B.returns
  have hts0 := atoms_spec (ws := .code yX10_refuse cX10_refuse 2 (some .int) :: ws0) B.pre
  have hts : ∀ w9 ∈ ws0, w9.before ([.ref x, .int 6] : List Value).toArray s = true := fun w9 h => hts0 w9 (List.mem_cons_of_mem _ h)
  have hown : s.vm.findClass "ScaleShop" = some m.cls := findClass_of_methodNamed B.named
  have hlocks := B.notSynchronized
  subst hsz
  have hD := hD0.self (sz := s.heap.size)
  clear hD0
  generalize hAe : va_A [(oc8 x (.ref sh) (.ref lw) (.ref ro) (.ref bq) (.ref bp) (.ref dq) (.ref dp) (.ref lv) (.ref sl) ds sd ul su)] s.heap.size = A at hD ⊢
  have hA : ∀ q : Nat, s.heap.size ≤ q → A q := fun q h => by rw [← hAe]; exact Or.inr h
  clear hAe
  have hS : va_S A s.heap s.heap [] := va_S.rf
  have hP : va_P (dC, dI) classes [(oc8 x (.ref sh) (.ref lw) (.ref ro) (.ref bq) (.ref bp) (.ref dq) (.ref dp) (.ref lv) (.ref sl) ds sd ul su)] s.heap := hP
  obtain ⟨Q9, hQ9⟩ : ∃ Q9 : State → Prop, Q9 = MQ below (zQ (some (.int (-1))) (fun t => va_P (dC, dI) classes [(oc8 x (.ref sh) (.ref lw) (.ref ro) (.ref bq) (.ref bp) (.ref dq) (.ref dp) (.ref lv) (.ref sl) ds sd ul 6)] t.heap ∧ va_D A [(oc8 x (.ref sh) (.ref lw) (.ref ro) (.ref bq) (.ref bp) (.ref dq) (.ref dp) (.ref lv) (.ref sl) ds sd ul 6)]) A) ([.ref x, .int 6] : List Value).toArray s 0 0 A := ⟨_, rfl⟩
  rw [← hQ9]
  have hl := lv_entry ([.ref x, .int 6]) (n := 2) (Nat.le_of_ble_eq_true rfl)
  rw [lg_entry_eq]
  generalize (lg_sl ([.ref x, .int 6]) ++ List.replicate (2 - (lg_sl ([.ref x, .int 6])).length) Slot.unset).toArray = ls at hl ⊢
  have hl : lv_has ls 2 [(0, .ref x), (1, .int 6)] := hl
  refine lv_aload_n hx hb dX10_refuse_0 rfl (lv_at hl 0 rfl) ?_
  refine lv_iload_n hx hb dX10_refuse_1 rfl (lv_at hl 1 rfl) ?_
  refine va_put (D := (dC, dI)) (ci := 8) (v := .int 6) (ty := .int) (C := RX10) (T := TX10) (N := 13) hx hb hts inX10 tyX10 tyX10_ok nmX10 hown hK hP hD hS 0 rfl rfl 12 (by decide) (hts _ mw_321) (fun _ h9 => h9) rfl (by decide +kernel) rfl rfl (Nat.le_of_ble_eq_true rfl) dX10_refuse_2 (fun H locs hP hD hS => ?_)
  have hP : va_P (dC, dI) classes [(oc8 x (.ref sh) (.ref lw) (.ref ro) (.ref bq) (.ref bp) (.ref dq) (.ref dp) (.ref lv) (.ref sl) ds sd ul 6)] H := hP
  have hD : va_D A [(oc8 x (.ref sh) (.ref lw) (.ref ro) (.ref bq) (.ref bp) (.ref dq) (.ref dp) (.ref lv) (.ref sl) ds sd ul 6)] := hD
  refine lv_iload_n hx hb dX10_refuse_5 rfl (lv_at hl 1 rfl) ?_
  refine lv_bipush (v := 7) hx hb dX10_refuse_6 (by decide) ?_
  refine lv_icmp_ne (tgt := 21) hx hb dX10_refuse_8 (by decide) (fun c_1 => ?_) (fun c_1 => ?_)
  · refine lv_iconst (v := (-1)) hx hb dX10_refuse_21 (by decide) ?_
    have hP9 := hP.sub (ws' := [(oc8 x (.ref sh) (.ref lw) (.ref ro) (.ref bq) (.ref bp) (.ref dq) (.ref dp) (.ref lv) (.ref sl) ds sd ul 6)]) [0] rfl
    have hD9 := hD.sub (ws' := [(oc8 x (.ref sh) (.ref lw) (.ref ro) (.ref bq) (.ref bp) (.ref dq) (.ref dp) (.ref lv) (.ref sl) ds sd ul 6)]) [0] (by decide) rfl
    rw [hQ9]
    exact W.iret (v := (-1)) hx hb hr (fun t ht hW => ⟨⟨rfl, by rw [ht]; exact hP9, hD9⟩, hS.F ht⟩) hS.2.2 dX10_refuse_22
  · exact absurd c_1 (by decide)
set_option maxHeartbeats 4000000 in
set_option maxRecDepth 100000 in
theorem k_deny_6 (l : Launch) (dC : Nat → ClassId) (dI : Nat → Nat → Nat) (cI cZ cF : ClassId) (sz : Nat) (x : Nat) (sh : Nat) (lw : Nat) (ro : Nat) (bq : Nat) (bp : Nat) (dq : Nat) (dp : Nat) (lv : Nat) (sl : Nat) (sd : Int32) (ul : Int32) (su : Int32) (ds : Int32) : Met l yX10_deny (.code yX10_deny cX10_deny 2 (some .boolean) :: ws0) ({ frames := 1, cells := 0, slots := 0, locals := 21 } : Room) (va_Pc [.ref x, .int 6] (zPre (dC, dI) classes (zTy cI cZ cF) [(oc8 x (.ref sh) (.ref lw) (.ref ro) (.ref bq) (.ref bp) (.ref dq) (.ref dp) (.ref lv) (.ref sl) ds sd ul su)] sz zXN)) (zQ (some (.int 0)) (fun t => va_P (dC, dI) classes [(oc8 x (.ref sh) (.ref lw) (.ref ro) (.ref bq) (.ref bp) (.ref dq) (.ref dp) (.ref lv) (.ref sl) ds sd ul 6)] t.heap ∧ va_D (va_A [(oc8 x (.ref sh) (.ref lw) (.ref ro) (.ref bq) (.ref bp) (.ref dq) (.ref dp) (.ref lv) (.ref sl) ds sd ul su)] sz) [(oc8 x (.ref sh) (.ref lw) (.ref ro) (.ref bq) (.ref bp) (.ref dq) (.ref dp) (.ref lv) (.ref sl) ds sd ul 6)]) (va_A [(oc8 x (.ref sh) (.ref lw) (.ref ro) (.ref bq) (.ref bp) (.ref dq) (.ref dp) (.ref lv) (.ref sl) ds sd ul su)] sz)) 0 0 (va_A [(oc8 x (.ref sh) (.ref lw) (.ref ro) (.ref bq) (.ref bp) (.ref dq) (.ref dp) (.ref lv) (.ref sl) ds sd ul su)] sz) := by
  refine Met.ofW (cc := cX10_deny) (maxL := 2) (ret := (some .boolean)) (by decide) rfl ?_
  intro p e s m args below meth c s₁ B hml hv
  obtain ⟨rfl, hsz, hP, hK, hD0, hXN⟩ := hv
  have hx := B.exec
  have hb := B.bytes
  have hr := B.returns
  have hts0 := atoms_spec (ws := .code yX10_deny cX10_deny 2 (some .boolean) :: ws0) B.pre
  have hts : ∀ w9 ∈ ws0, w9.before ([.ref x, .int 6] : List Value).toArray s = true := fun w9 h => hts0 w9 (List.mem_cons_of_mem _ h)
  have hown : s.vm.findClass "ScaleShop" = some m.cls := findClass_of_methodNamed B.named
  have hlocks := B.notSynchronized
  subst hsz
  have hD := hD0.self (sz := s.heap.size)
  clear hD0
  generalize hAe : va_A [(oc8 x (.ref sh) (.ref lw) (.ref ro) (.ref bq) (.ref bp) (.ref dq) (.ref dp) (.ref lv) (.ref sl) ds sd ul su)] s.heap.size = A at hD ⊢
  have hA : ∀ q : Nat, s.heap.size ≤ q → A q := fun q h => by rw [← hAe]; exact Or.inr h
  clear hAe
  have hS : va_S A s.heap s.heap [] := va_S.rf
  have hP : va_P (dC, dI) classes [(oc8 x (.ref sh) (.ref lw) (.ref ro) (.ref bq) (.ref bp) (.ref dq) (.ref dp) (.ref lv) (.ref sl) ds sd ul su)] s.heap := hP
  obtain ⟨Q9, hQ9⟩ : ∃ Q9 : State → Prop, Q9 = MQ below (zQ (some (.int 0)) (fun t => va_P (dC, dI) classes [(oc8 x (.ref sh) (.ref lw) (.ref ro) (.ref bq) (.ref bp) (.ref dq) (.ref dp) (.ref lv) (.ref sl) ds sd ul 6)] t.heap ∧ va_D A [(oc8 x (.ref sh) (.ref lw) (.ref ro) (.ref bq) (.ref bp) (.ref dq) (.ref dp) (.ref lv) (.ref sl) ds sd ul 6)]) A) ([.ref x, .int 6] : List Value).toArray s 0 0 A := ⟨_, rfl⟩
  rw [← hQ9]
  have hl := lv_entry ([.ref x, .int 6]) (n := 2) (Nat.le_of_ble_eq_true rfl)
  rw [lg_entry_eq]
  generalize (lg_sl ([.ref x, .int 6]) ++ List.replicate (2 - (lg_sl ([.ref x, .int 6])).length) Slot.unset).toArray = ls at hl ⊢
  have hl : lv_has ls 2 [(0, .ref x), (1, .int 6)] := hl
  refine lv_aload_n hx hb dX10_deny_0 rfl (lv_at hl 0 rfl) ?_
  refine lv_iload_n hx hb dX10_deny_1 rfl (lv_at hl 1 rfl) ?_
  have hPc := hP.sub (ws' := [(oc8 x (.ref sh) (.ref lw) (.ref ro) (.ref bq) (.ref bp) (.ref dq) (.ref dp) (.ref lv) (.ref sl) ds sd ul su)]) [0] rfl
  have hDc := hD.sub (ws' := [(oc8 x (.ref sh) (.ref lw) (.ref ro) (.ref bq) (.ref bp) (.ref dq) (.ref dp) (.ref lv) (.ref sl) ds sd ul su)]) [0] (by decide) rfl
  have hFc := va_free (wc := [(oc8 x (.ref sh) (.ref lw) (.ref ro) (.ref bq) (.ref bp) (.ref dq) (.ref dp) (.ref lv) (.ref sl) ds sd ul su)]) hD hS hA [0] rfl
  refine zcall (st1 := [.int (-1)]) (va_runV (As := [.int 6]) (rest := []) ⟨hx, hb, hml, hown, hts⟩ (k_refuse_6 l dC dI cI cZ cF s.heap.size x sh lw ro bq bp dq dp lv sl sd ul su ds ) (cwV 1 hts (zz_gV mw_356 mw_358 mw_0 mw_99 mc_yX10_refuse) rfl rfl rfl (by decide +kernel) ⟨Nat.le_of_ble_eq_true rfl, Nat.le_of_ble_eq_true rfl⟩) (zPV2 (q0 := 0) (ci := 8) hPc hDc hK hXN rfl rfl) rfl rfl hl.1 rfl (lv_room (Nat.le_of_ble_eq_true rfl)) dX10_deny_2 ⟨Nat.le_of_ble_eq_true rfl, Nat.le_of_ble_eq_true rfl⟩) hS hFc hFc rfl (fun t H1 locs ht hB hk1 hS => ?_)
  obtain ⟨hP1, hD1⟩ := hB
  rw [ht] at hP1
  obtain ⟨hP, hD⟩ := va_join (wr := []) (w1 := [(oc8 x (.ref sh) (.ref lw) (.ref ro) (.ref bq) (.ref bp) (.ref dq) (.ref dp) (.ref lv) (.ref sl) ds sd ul 6)]) hP hD [0] [] rfl rfl (by decide) (by decide) hk1 hFc hP1 hD1
  clear hk1 hPc hDc hFc hP1 hD1 ht
  generalize H1 = H at hP hS ⊢
  have hP : va_P (dC, dI) classes [(oc8 x (.ref sh) (.ref lw) (.ref ro) (.ref bq) (.ref bp) (.ref dq) (.ref dp) (.ref lv) (.ref sl) ds sd ul 6)] H := hP
  have hD : va_D A [(oc8 x (.ref sh) (.ref lw) (.ref ro) (.ref bq) (.ref bp) (.ref dq) (.ref dp) (.ref lv) (.ref sl) ds sd ul 6)] := hD
  refine lv_pop hx hb dX10_deny_5 rfl ?_
  refine lv_iconst (v := 0) hx hb dX10_deny_6 (by decide) ?_
  have hP9 := hP.sub (ws' := [(oc8 x (.ref sh) (.ref lw) (.ref ro) (.ref bq) (.ref bp) (.ref dq) (.ref dp) (.ref lv) (.ref sl) ds sd ul 6)]) [0] rfl
  have hD9 := hD.sub (ws' := [(oc8 x (.ref sh) (.ref lw) (.ref ro) (.ref bq) (.ref bp) (.ref dq) (.ref dp) (.ref lv) (.ref sl) ds sd ul 6)]) [0] (by decide) rfl
  rw [hQ9]
  exact W.zret (ty := .boolean) (v := 0) hx hb hr (rfl) (fun t ht hW => ⟨⟨rfl, by rw [ht]; exact hP9, hD9⟩, hS.F ht⟩) hS.2.2 dX10_deny_7
set_option maxHeartbeats 4000000 in
set_option maxRecDepth 100000 in
theorem k_refuse_7 (l : Launch) (dC : Nat → ClassId) (dI : Nat → Nat → Nat) (cI cZ cF : ClassId) (sz : Nat) (x : Nat) (sh : Nat) (lw : Nat) (ro : Nat) (bq : Nat) (bp : Nat) (dq : Nat) (dp : Nat) (lv : Nat) (sl : Nat) (sd : Int32) (ul : Int32) (su : Int32) (ds : Int32) : Met l yX10_refuse (.code yX10_refuse cX10_refuse 2 (some .int) :: ws0) ({ frames := 0, cells := 0, slots := 0, locals := 0 } : Room) (va_Pc [.ref x, .int 7] (zPre (dC, dI) classes (zTy cI cZ cF) [(oc8 x (.ref sh) (.ref lw) (.ref ro) (.ref bq) (.ref bp) (.ref dq) (.ref dp) (.ref lv) (.ref sl) ds sd ul su)] sz zXN)) (zQ (some (.int (-1))) (fun t => va_P (dC, dI) classes [(oc8 x (.ref sh) (.ref lw) (.ref ro) (.ref bq) (.ref bp) (.ref dq) (.ref dp) (.ref lv) (.ref sl) ds sd (ul + 1) 7)] t.heap ∧ va_D (va_A [(oc8 x (.ref sh) (.ref lw) (.ref ro) (.ref bq) (.ref bp) (.ref dq) (.ref dp) (.ref lv) (.ref sl) ds sd ul su)] sz) [(oc8 x (.ref sh) (.ref lw) (.ref ro) (.ref bq) (.ref bp) (.ref dq) (.ref dp) (.ref lv) (.ref sl) ds sd (ul + 1) 7)]) (va_A [(oc8 x (.ref sh) (.ref lw) (.ref ro) (.ref bq) (.ref bp) (.ref dq) (.ref dp) (.ref lv) (.ref sl) ds sd ul su)] sz)) 0 0 (va_A [(oc8 x (.ref sh) (.ref lw) (.ref ro) (.ref bq) (.ref bp) (.ref dq) (.ref dp) (.ref lv) (.ref sl) ds sd ul su)] sz) := by
  refine Met.ofW (cc := cX10_refuse) (maxL := 2) (ret := (some .int)) (by decide) rfl ?_
  intro p e s m args below meth c s₁ B hml hv
  obtain ⟨rfl, hsz, hP, hK, hD0, hXN⟩ := hv
  have hx := B.exec
  have hb := B.bytes
  have hr := B.returns
  have hts0 := atoms_spec (ws := .code yX10_refuse cX10_refuse 2 (some .int) :: ws0) B.pre
  have hts : ∀ w9 ∈ ws0, w9.before ([.ref x, .int 7] : List Value).toArray s = true := fun w9 h => hts0 w9 (List.mem_cons_of_mem _ h)
  have hown : s.vm.findClass "ScaleShop" = some m.cls := findClass_of_methodNamed B.named
  have hlocks := B.notSynchronized
  subst hsz
  have hD := hD0.self (sz := s.heap.size)
  clear hD0
  generalize hAe : va_A [(oc8 x (.ref sh) (.ref lw) (.ref ro) (.ref bq) (.ref bp) (.ref dq) (.ref dp) (.ref lv) (.ref sl) ds sd ul su)] s.heap.size = A at hD ⊢
  have hA : ∀ q : Nat, s.heap.size ≤ q → A q := fun q h => by rw [← hAe]; exact Or.inr h
  clear hAe
  have hS : va_S A s.heap s.heap [] := va_S.rf
  have hP : va_P (dC, dI) classes [(oc8 x (.ref sh) (.ref lw) (.ref ro) (.ref bq) (.ref bp) (.ref dq) (.ref dp) (.ref lv) (.ref sl) ds sd ul su)] s.heap := hP
  obtain ⟨Q9, hQ9⟩ : ∃ Q9 : State → Prop, Q9 = MQ below (zQ (some (.int (-1))) (fun t => va_P (dC, dI) classes [(oc8 x (.ref sh) (.ref lw) (.ref ro) (.ref bq) (.ref bp) (.ref dq) (.ref dp) (.ref lv) (.ref sl) ds sd (ul + 1) 7)] t.heap ∧ va_D A [(oc8 x (.ref sh) (.ref lw) (.ref ro) (.ref bq) (.ref bp) (.ref dq) (.ref dp) (.ref lv) (.ref sl) ds sd (ul + 1) 7)]) A) ([.ref x, .int 7] : List Value).toArray s 0 0 A := ⟨_, rfl⟩
  rw [← hQ9]
  have hl := lv_entry ([.ref x, .int 7]) (n := 2) (Nat.le_of_ble_eq_true rfl)
  rw [lg_entry_eq]
  generalize (lg_sl ([.ref x, .int 7]) ++ List.replicate (2 - (lg_sl ([.ref x, .int 7])).length) Slot.unset).toArray = ls at hl ⊢
  have hl : lv_has ls 2 [(0, .ref x), (1, .int 7)] := hl
  refine lv_aload_n hx hb dX10_refuse_0 rfl (lv_at hl 0 rfl) ?_
  refine lv_iload_n hx hb dX10_refuse_1 rfl (lv_at hl 1 rfl) ?_
  refine va_put (D := (dC, dI)) (ci := 8) (v := .int 7) (ty := .int) (C := RX10) (T := TX10) (N := 13) hx hb hts inX10 tyX10 tyX10_ok nmX10 hown hK hP hD hS 0 rfl rfl 12 (by decide) (hts _ mw_321) (fun _ h9 => h9) rfl (by decide +kernel) rfl rfl (Nat.le_of_ble_eq_true rfl) dX10_refuse_2 (fun H locs hP hD hS => ?_)
  have hP : va_P (dC, dI) classes [(oc8 x (.ref sh) (.ref lw) (.ref ro) (.ref bq) (.ref bp) (.ref dq) (.ref dp) (.ref lv) (.ref sl) ds sd ul 7)] H := hP
  have hD : va_D A [(oc8 x (.ref sh) (.ref lw) (.ref ro) (.ref bq) (.ref bp) (.ref dq) (.ref dp) (.ref lv) (.ref sl) ds sd ul 7)] := hD
  refine lv_iload_n hx hb dX10_refuse_5 rfl (lv_at hl 1 rfl) ?_
  refine lv_bipush (v := 7) hx hb dX10_refuse_6 (by decide) ?_
  refine lv_icmp_ne (tgt := 21) hx hb dX10_refuse_8 (by decide) (fun c_1 => ?_) (fun c_1 => ?_)
  · exact absurd (by decide) c_1
  · refine lv_aload_n hx hb dX10_refuse_11 rfl (lv_at hl 0 rfl) ?_
    refine lv_dup hx hb dX10_refuse_12 rfl ?_
    refine va_get (D := (dC, dI)) (ci := 8) (v := .int ul) (C := RX10) (T := TX10) (N := 13) hx hb hts inX10 hown hK hP 0 rfl rfl 11 (by decide) (hts _ mw_320) (fun _ h9 => h9) rfl dX10_refuse_13 ?_
    refine lv_iconst (v := 1) hx hb dX10_refuse_16 (by decide) ?_
    refine lv_iadd hx hb dX10_refuse_17 ?_
    refine va_put (D := (dC, dI)) (ci := 8) (v := .int (ul + 1)) (ty := .int) (C := RX10) (T := TX10) (N := 13) hx hb hts inX10 tyX10 tyX10_ok nmX10 hown hK hP hD hS 0 rfl rfl 11 (by decide) (hts _ mw_320) (fun _ h9 => h9) rfl (by decide +kernel) rfl rfl (Nat.le_of_ble_eq_true rfl) dX10_refuse_18 (fun H locs hP hD hS => ?_)
    have hP : va_P (dC, dI) classes [(oc8 x (.ref sh) (.ref lw) (.ref ro) (.ref bq) (.ref bp) (.ref dq) (.ref dp) (.ref lv) (.ref sl) ds sd (ul + 1) 7)] H := hP
    have hD : va_D A [(oc8 x (.ref sh) (.ref lw) (.ref ro) (.ref bq) (.ref bp) (.ref dq) (.ref dp) (.ref lv) (.ref sl) ds sd (ul + 1) 7)] := hD
    refine lv_iconst (v := (-1)) hx hb dX10_refuse_21 (by decide) ?_
    have hP9 := hP.sub (ws' := [(oc8 x (.ref sh) (.ref lw) (.ref ro) (.ref bq) (.ref bp) (.ref dq) (.ref dp) (.ref lv) (.ref sl) ds sd (ul + 1) 7)]) [0] rfl
    have hD9 := hD.sub (ws' := [(oc8 x (.ref sh) (.ref lw) (.ref ro) (.ref bq) (.ref bp) (.ref dq) (.ref dp) (.ref lv) (.ref sl) ds sd (ul + 1) 7)]) [0] (by decide) rfl
    rw [hQ9]
    exact W.iret (v := (-1)) hx hb hr (fun t ht hW => ⟨⟨rfl, by rw [ht]; exact hP9, hD9⟩, hS.F ht⟩) hS.2.2 dX10_refuse_22
set_option maxHeartbeats 4000000 in
set_option maxRecDepth 100000 in
theorem k_deny_7 (l : Launch) (dC : Nat → ClassId) (dI : Nat → Nat → Nat) (cI cZ cF : ClassId) (sz : Nat) (x : Nat) (sh : Nat) (lw : Nat) (ro : Nat) (bq : Nat) (bp : Nat) (dq : Nat) (dp : Nat) (lv : Nat) (sl : Nat) (sd : Int32) (ul : Int32) (su : Int32) (ds : Int32) : Met l yX10_deny (.code yX10_deny cX10_deny 2 (some .boolean) :: ws0) ({ frames := 1, cells := 0, slots := 0, locals := 21 } : Room) (va_Pc [.ref x, .int 7] (zPre (dC, dI) classes (zTy cI cZ cF) [(oc8 x (.ref sh) (.ref lw) (.ref ro) (.ref bq) (.ref bp) (.ref dq) (.ref dp) (.ref lv) (.ref sl) ds sd ul su)] sz zXN)) (zQ (some (.int 0)) (fun t => va_P (dC, dI) classes [(oc8 x (.ref sh) (.ref lw) (.ref ro) (.ref bq) (.ref bp) (.ref dq) (.ref dp) (.ref lv) (.ref sl) ds sd (ul + 1) 7)] t.heap ∧ va_D (va_A [(oc8 x (.ref sh) (.ref lw) (.ref ro) (.ref bq) (.ref bp) (.ref dq) (.ref dp) (.ref lv) (.ref sl) ds sd ul su)] sz) [(oc8 x (.ref sh) (.ref lw) (.ref ro) (.ref bq) (.ref bp) (.ref dq) (.ref dp) (.ref lv) (.ref sl) ds sd (ul + 1) 7)]) (va_A [(oc8 x (.ref sh) (.ref lw) (.ref ro) (.ref bq) (.ref bp) (.ref dq) (.ref dp) (.ref lv) (.ref sl) ds sd ul su)] sz)) 0 0 (va_A [(oc8 x (.ref sh) (.ref lw) (.ref ro) (.ref bq) (.ref bp) (.ref dq) (.ref dp) (.ref lv) (.ref sl) ds sd ul su)] sz) := by
  refine Met.ofW (cc := cX10_deny) (maxL := 2) (ret := (some .boolean)) (by decide) rfl ?_
  intro p e s m args below meth c s₁ B hml hv
  obtain ⟨rfl, hsz, hP, hK, hD0, hXN⟩ := hv
  have hx := B.exec
  have hb := B.bytes
  have hr := B.returns
  have hts0 := atoms_spec (ws := .code yX10_deny cX10_deny 2 (some .boolean) :: ws0) B.pre
  have hts : ∀ w9 ∈ ws0, w9.before ([.ref x, .int 7] : List Value).toArray s = true := fun w9 h => hts0 w9 (List.mem_cons_of_mem _ h)
  have hown : s.vm.findClass "ScaleShop" = some m.cls := findClass_of_methodNamed B.named
  have hlocks := B.notSynchronized
  subst hsz
  have hD := hD0.self (sz := s.heap.size)
  clear hD0
  generalize hAe : va_A [(oc8 x (.ref sh) (.ref lw) (.ref ro) (.ref bq) (.ref bp) (.ref dq) (.ref dp) (.ref lv) (.ref sl) ds sd ul su)] s.heap.size = A at hD ⊢
  have hA : ∀ q : Nat, s.heap.size ≤ q → A q := fun q h => by rw [← hAe]; exact Or.inr h
  clear hAe
  have hS : va_S A s.heap s.heap [] := va_S.rf
  have hP : va_P (dC, dI) classes [(oc8 x (.ref sh) (.ref lw) (.ref ro) (.ref bq) (.ref bp) (.ref dq) (.ref dp) (.ref lv) (.ref sl) ds sd ul su)] s.heap := hP
  obtain ⟨Q9, hQ9⟩ : ∃ Q9 : State → Prop, Q9 = MQ below (zQ (some (.int 0)) (fun t => va_P (dC, dI) classes [(oc8 x (.ref sh) (.ref lw) (.ref ro) (.ref bq) (.ref bp) (.ref dq) (.ref dp) (.ref lv) (.ref sl) ds sd (ul + 1) 7)] t.heap ∧ va_D A [(oc8 x (.ref sh) (.ref lw) (.ref ro) (.ref bq) (.ref bp) (.ref dq) (.ref dp) (.ref lv) (.ref sl) ds sd (ul + 1) 7)]) A) ([.ref x, .int 7] : List Value).toArray s 0 0 A := ⟨_, rfl⟩
  rw [← hQ9]
  have hl := lv_entry ([.ref x, .int 7]) (n := 2) (Nat.le_of_ble_eq_true rfl)
  rw [lg_entry_eq]
  generalize (lg_sl ([.ref x, .int 7]) ++ List.replicate (2 - (lg_sl ([.ref x, .int 7])).length) Slot.unset).toArray = ls at hl ⊢
  have hl : lv_has ls 2 [(0, .ref x), (1, .int 7)] := hl
  refine lv_aload_n hx hb dX10_deny_0 rfl (lv_at hl 0 rfl) ?_
  refine lv_iload_n hx hb dX10_deny_1 rfl (lv_at hl 1 rfl) ?_
  have hPc := hP.sub (ws' := [(oc8 x (.ref sh) (.ref lw) (.ref ro) (.ref bq) (.ref bp) (.ref dq) (.ref dp) (.ref lv) (.ref sl) ds sd ul su)]) [0] rfl
  have hDc := hD.sub (ws' := [(oc8 x (.ref sh) (.ref lw) (.ref ro) (.ref bq) (.ref bp) (.ref dq) (.ref dp) (.ref lv) (.ref sl) ds sd ul su)]) [0] (by decide) rfl
  have hFc := va_free (wc := [(oc8 x (.ref sh) (.ref lw) (.ref ro) (.ref bq) (.ref bp) (.ref dq) (.ref dp) (.ref lv) (.ref sl) ds sd ul su)]) hD hS hA [0] rfl
  refine zcall (st1 := [.int (-1)]) (va_runV (As := [.int 7]) (rest := []) ⟨hx, hb, hml, hown, hts⟩ (k_refuse_7 l dC dI cI cZ cF s.heap.size x sh lw ro bq bp dq dp lv sl sd ul su ds ) (cwV 1 hts (zz_gV mw_356 mw_358 mw_0 mw_99 mc_yX10_refuse) rfl rfl rfl (by decide +kernel) ⟨Nat.le_of_ble_eq_true rfl, Nat.le_of_ble_eq_true rfl⟩) (zPV2 (q0 := 0) (ci := 8) hPc hDc hK hXN rfl rfl) rfl rfl hl.1 rfl (lv_room (Nat.le_of_ble_eq_true rfl)) dX10_deny_2 ⟨Nat.le_of_ble_eq_true rfl, Nat.le_of_ble_eq_true rfl⟩) hS hFc hFc rfl (fun t H1 locs ht hB hk1 hS => ?_)
  obtain ⟨hP1, hD1⟩ := hB
  rw [ht] at hP1
  obtain ⟨hP, hD⟩ := va_join (wr := []) (w1 := [(oc8 x (.ref sh) (.ref lw) (.ref ro) (.ref bq) (.ref bp) (.ref dq) (.ref dp) (.ref lv) (.ref sl) ds sd (ul + 1) 7)]) hP hD [0] [] rfl rfl (by decide) (by decide) hk1 hFc hP1 hD1
  clear hk1 hPc hDc hFc hP1 hD1 ht
  generalize H1 = H at hP hS ⊢
  have hP : va_P (dC, dI) classes [(oc8 x (.ref sh) (.ref lw) (.ref ro) (.ref bq) (.ref bp) (.ref dq) (.ref dp) (.ref lv) (.ref sl) ds sd (ul + 1) 7)] H := hP
  have hD : va_D A [(oc8 x (.ref sh) (.ref lw) (.ref ro) (.ref bq) (.ref bp) (.ref dq) (.ref dp) (.ref lv) (.ref sl) ds sd (ul + 1) 7)] := hD
  refine lv_pop hx hb dX10_deny_5 rfl ?_
  refine lv_iconst (v := 0) hx hb dX10_deny_6 (by decide) ?_
  have hP9 := hP.sub (ws' := [(oc8 x (.ref sh) (.ref lw) (.ref ro) (.ref bq) (.ref bp) (.ref dq) (.ref dp) (.ref lv) (.ref sl) ds sd (ul + 1) 7)]) [0] rfl
  have hD9 := hD.sub (ws' := [(oc8 x (.ref sh) (.ref lw) (.ref ro) (.ref bq) (.ref bp) (.ref dq) (.ref dp) (.ref lv) (.ref sl) ds sd (ul + 1) 7)]) [0] (by decide) rfl
  rw [hQ9]
  exact W.zret (ty := .boolean) (v := 0) hx hb hr (rfl) (fun t ht hW => ⟨⟨rfl, by rw [ht]; exact hP9, hD9⟩, hS.F ht⟩) hS.2.2 dX10_deny_7
set_option maxHeartbeats 4000000 in
set_option maxRecDepth 100000 in
theorem k_refuse_8 (l : Launch) (dC : Nat → ClassId) (dI : Nat → Nat → Nat) (cI cZ cF : ClassId) (sz : Nat) (x : Nat) (sh : Nat) (lw : Nat) (ro : Nat) (bq : Nat) (bp : Nat) (dq : Nat) (dp : Nat) (lv : Nat) (sl : Nat) (sd : Int32) (ul : Int32) (su : Int32) (ds : Int32) : Met l yX10_refuse (.code yX10_refuse cX10_refuse 2 (some .int) :: ws0) ({ frames := 0, cells := 0, slots := 0, locals := 0 } : Room) (va_Pc [.ref x, .int 8] (zPre (dC, dI) classes (zTy cI cZ cF) [(oc8 x (.ref sh) (.ref lw) (.ref ro) (.ref bq) (.ref bp) (.ref dq) (.ref dp) (.ref lv) (.ref sl) ds sd ul su)] sz zXN)) (zQ (some (.int (-1))) (fun t => va_P (dC, dI) classes [(oc8 x (.ref sh) (.ref lw) (.ref ro) (.ref bq) (.ref bp) (.ref dq) (.ref dp) (.ref lv) (.ref sl) ds sd ul 8)] t.heap ∧ va_D (va_A [(oc8 x (.ref sh) (.ref lw) (.ref ro) (.ref bq) (.ref bp) (.ref dq) (.ref dp) (.ref lv) (.ref sl) ds sd ul su)] sz) [(oc8 x (.ref sh) (.ref lw) (.ref ro) (.ref bq) (.ref bp) (.ref dq) (.ref dp) (.ref lv) (.ref sl) ds sd ul 8)]) (va_A [(oc8 x (.ref sh) (.ref lw) (.ref ro) (.ref bq) (.ref bp) (.ref dq) (.ref dp) (.ref lv) (.ref sl) ds sd ul su)] sz)) 0 0 (va_A [(oc8 x (.ref sh) (.ref lw) (.ref ro) (.ref bq) (.ref bp) (.ref dq) (.ref dp) (.ref lv) (.ref sl) ds sd ul su)] sz) := by
  refine Met.ofW (cc := cX10_refuse) (maxL := 2) (ret := (some .int)) (by decide) rfl ?_
  intro p e s m args below meth c s₁ B hml hv
  obtain ⟨rfl, hsz, hP, hK, hD0, hXN⟩ := hv
  have hx := B.exec
  have hb := B.bytes
  have hr := B.returns
  have hts0 := atoms_spec (ws := .code yX10_refuse cX10_refuse 2 (some .int) :: ws0) B.pre
  have hts : ∀ w9 ∈ ws0, w9.before ([.ref x, .int 8] : List Value).toArray s = true := fun w9 h => hts0 w9 (List.mem_cons_of_mem _ h)
  have hown : s.vm.findClass "ScaleShop" = some m.cls := findClass_of_methodNamed B.named
  have hlocks := B.notSynchronized
  subst hsz
  have hD := hD0.self (sz := s.heap.size)
  clear hD0
  generalize hAe : va_A [(oc8 x (.ref sh) (.ref lw) (.ref ro) (.ref bq) (.ref bp) (.ref dq) (.ref dp) (.ref lv) (.ref sl) ds sd ul su)] s.heap.size = A at hD ⊢
  have hA : ∀ q : Nat, s.heap.size ≤ q → A q := fun q h => by rw [← hAe]; exact Or.inr h
  clear hAe
  have hS : va_S A s.heap s.heap [] := va_S.rf
  have hP : va_P (dC, dI) classes [(oc8 x (.ref sh) (.ref lw) (.ref ro) (.ref bq) (.ref bp) (.ref dq) (.ref dp) (.ref lv) (.ref sl) ds sd ul su)] s.heap := hP
  obtain ⟨Q9, hQ9⟩ : ∃ Q9 : State → Prop, Q9 = MQ below (zQ (some (.int (-1))) (fun t => va_P (dC, dI) classes [(oc8 x (.ref sh) (.ref lw) (.ref ro) (.ref bq) (.ref bp) (.ref dq) (.ref dp) (.ref lv) (.ref sl) ds sd ul 8)] t.heap ∧ va_D A [(oc8 x (.ref sh) (.ref lw) (.ref ro) (.ref bq) (.ref bp) (.ref dq) (.ref dp) (.ref lv) (.ref sl) ds sd ul 8)]) A) ([.ref x, .int 8] : List Value).toArray s 0 0 A := ⟨_, rfl⟩
  rw [← hQ9]
  have hl := lv_entry ([.ref x, .int 8]) (n := 2) (Nat.le_of_ble_eq_true rfl)
  rw [lg_entry_eq]
  generalize (lg_sl ([.ref x, .int 8]) ++ List.replicate (2 - (lg_sl ([.ref x, .int 8])).length) Slot.unset).toArray = ls at hl ⊢
  have hl : lv_has ls 2 [(0, .ref x), (1, .int 8)] := hl
  refine lv_aload_n hx hb dX10_refuse_0 rfl (lv_at hl 0 rfl) ?_
  refine lv_iload_n hx hb dX10_refuse_1 rfl (lv_at hl 1 rfl) ?_
  refine va_put (D := (dC, dI)) (ci := 8) (v := .int 8) (ty := .int) (C := RX10) (T := TX10) (N := 13) hx hb hts inX10 tyX10 tyX10_ok nmX10 hown hK hP hD hS 0 rfl rfl 12 (by decide) (hts _ mw_321) (fun _ h9 => h9) rfl (by decide +kernel) rfl rfl (Nat.le_of_ble_eq_true rfl) dX10_refuse_2 (fun H locs hP hD hS => ?_)
  have hP : va_P (dC, dI) classes [(oc8 x (.ref sh) (.ref lw) (.ref ro) (.ref bq) (.ref bp) (.ref dq) (.ref dp) (.ref lv) (.ref sl) ds sd ul 8)] H := hP
  have hD : va_D A [(oc8 x (.ref sh) (.ref lw) (.ref ro) (.ref bq) (.ref bp) (.ref dq) (.ref dp) (.ref lv) (.ref sl) ds sd ul 8)] := hD
  refine lv_iload_n hx hb dX10_refuse_5 rfl (lv_at hl 1 rfl) ?_
  refine lv_bipush (v := 7) hx hb dX10_refuse_6 (by decide) ?_
  refine lv_icmp_ne (tgt := 21) hx hb dX10_refuse_8 (by decide) (fun c_1 => ?_) (fun c_1 => ?_)
  · refine lv_iconst (v := (-1)) hx hb dX10_refuse_21 (by decide) ?_
    have hP9 := hP.sub (ws' := [(oc8 x (.ref sh) (.ref lw) (.ref ro) (.ref bq) (.ref bp) (.ref dq) (.ref dp) (.ref lv) (.ref sl) ds sd ul 8)]) [0] rfl
    have hD9 := hD.sub (ws' := [(oc8 x (.ref sh) (.ref lw) (.ref ro) (.ref bq) (.ref bp) (.ref dq) (.ref dp) (.ref lv) (.ref sl) ds sd ul 8)]) [0] (by decide) rfl
    rw [hQ9]
    exact W.iret (v := (-1)) hx hb hr (fun t ht hW => ⟨⟨rfl, by rw [ht]; exact hP9, hD9⟩, hS.F ht⟩) hS.2.2 dX10_refuse_22
  · exact absurd c_1 (by decide)
set_option maxHeartbeats 4000000 in
set_option maxRecDepth 100000 in
theorem k_deny_8 (l : Launch) (dC : Nat → ClassId) (dI : Nat → Nat → Nat) (cI cZ cF : ClassId) (sz : Nat) (x : Nat) (sh : Nat) (lw : Nat) (ro : Nat) (bq : Nat) (bp : Nat) (dq : Nat) (dp : Nat) (lv : Nat) (sl : Nat) (sd : Int32) (ul : Int32) (su : Int32) (ds : Int32) : Met l yX10_deny (.code yX10_deny cX10_deny 2 (some .boolean) :: ws0) ({ frames := 1, cells := 0, slots := 0, locals := 21 } : Room) (va_Pc [.ref x, .int 8] (zPre (dC, dI) classes (zTy cI cZ cF) [(oc8 x (.ref sh) (.ref lw) (.ref ro) (.ref bq) (.ref bp) (.ref dq) (.ref dp) (.ref lv) (.ref sl) ds sd ul su)] sz zXN)) (zQ (some (.int 0)) (fun t => va_P (dC, dI) classes [(oc8 x (.ref sh) (.ref lw) (.ref ro) (.ref bq) (.ref bp) (.ref dq) (.ref dp) (.ref lv) (.ref sl) ds sd ul 8)] t.heap ∧ va_D (va_A [(oc8 x (.ref sh) (.ref lw) (.ref ro) (.ref bq) (.ref bp) (.ref dq) (.ref dp) (.ref lv) (.ref sl) ds sd ul su)] sz) [(oc8 x (.ref sh) (.ref lw) (.ref ro) (.ref bq) (.ref bp) (.ref dq) (.ref dp) (.ref lv) (.ref sl) ds sd ul 8)]) (va_A [(oc8 x (.ref sh) (.ref lw) (.ref ro) (.ref bq) (.ref bp) (.ref dq) (.ref dp) (.ref lv) (.ref sl) ds sd ul su)] sz)) 0 0 (va_A [(oc8 x (.ref sh) (.ref lw) (.ref ro) (.ref bq) (.ref bp) (.ref dq) (.ref dp) (.ref lv) (.ref sl) ds sd ul su)] sz) := by
  refine Met.ofW (cc := cX10_deny) (maxL := 2) (ret := (some .boolean)) (by decide) rfl ?_
  intro p e s m args below meth c s₁ B hml hv
  obtain ⟨rfl, hsz, hP, hK, hD0, hXN⟩ := hv
  have hx := B.exec
  have hb := B.bytes
  have hr := B.returns
  have hts0 := atoms_spec (ws := .code yX10_deny cX10_deny 2 (some .boolean) :: ws0) B.pre
  have hts : ∀ w9 ∈ ws0, w9.before ([.ref x, .int 8] : List Value).toArray s = true := fun w9 h => hts0 w9 (List.mem_cons_of_mem _ h)
  have hown : s.vm.findClass "ScaleShop" = some m.cls := findClass_of_methodNamed B.named
  have hlocks := B.notSynchronized
  subst hsz
  have hD := hD0.self (sz := s.heap.size)
  clear hD0
  generalize hAe : va_A [(oc8 x (.ref sh) (.ref lw) (.ref ro) (.ref bq) (.ref bp) (.ref dq) (.ref dp) (.ref lv) (.ref sl) ds sd ul su)] s.heap.size = A at hD ⊢
  have hA : ∀ q : Nat, s.heap.size ≤ q → A q := fun q h => by rw [← hAe]; exact Or.inr h
  clear hAe
  have hS : va_S A s.heap s.heap [] := va_S.rf
  have hP : va_P (dC, dI) classes [(oc8 x (.ref sh) (.ref lw) (.ref ro) (.ref bq) (.ref bp) (.ref dq) (.ref dp) (.ref lv) (.ref sl) ds sd ul su)] s.heap := hP
  obtain ⟨Q9, hQ9⟩ : ∃ Q9 : State → Prop, Q9 = MQ below (zQ (some (.int 0)) (fun t => va_P (dC, dI) classes [(oc8 x (.ref sh) (.ref lw) (.ref ro) (.ref bq) (.ref bp) (.ref dq) (.ref dp) (.ref lv) (.ref sl) ds sd ul 8)] t.heap ∧ va_D A [(oc8 x (.ref sh) (.ref lw) (.ref ro) (.ref bq) (.ref bp) (.ref dq) (.ref dp) (.ref lv) (.ref sl) ds sd ul 8)]) A) ([.ref x, .int 8] : List Value).toArray s 0 0 A := ⟨_, rfl⟩
  rw [← hQ9]
  have hl := lv_entry ([.ref x, .int 8]) (n := 2) (Nat.le_of_ble_eq_true rfl)
  rw [lg_entry_eq]
  generalize (lg_sl ([.ref x, .int 8]) ++ List.replicate (2 - (lg_sl ([.ref x, .int 8])).length) Slot.unset).toArray = ls at hl ⊢
  have hl : lv_has ls 2 [(0, .ref x), (1, .int 8)] := hl
  refine lv_aload_n hx hb dX10_deny_0 rfl (lv_at hl 0 rfl) ?_
  refine lv_iload_n hx hb dX10_deny_1 rfl (lv_at hl 1 rfl) ?_
  have hPc := hP.sub (ws' := [(oc8 x (.ref sh) (.ref lw) (.ref ro) (.ref bq) (.ref bp) (.ref dq) (.ref dp) (.ref lv) (.ref sl) ds sd ul su)]) [0] rfl
  have hDc := hD.sub (ws' := [(oc8 x (.ref sh) (.ref lw) (.ref ro) (.ref bq) (.ref bp) (.ref dq) (.ref dp) (.ref lv) (.ref sl) ds sd ul su)]) [0] (by decide) rfl
  have hFc := va_free (wc := [(oc8 x (.ref sh) (.ref lw) (.ref ro) (.ref bq) (.ref bp) (.ref dq) (.ref dp) (.ref lv) (.ref sl) ds sd ul su)]) hD hS hA [0] rfl
  refine zcall (st1 := [.int (-1)]) (va_runV (As := [.int 8]) (rest := []) ⟨hx, hb, hml, hown, hts⟩ (k_refuse_8 l dC dI cI cZ cF s.heap.size x sh lw ro bq bp dq dp lv sl sd ul su ds ) (cwV 1 hts (zz_gV mw_356 mw_358 mw_0 mw_99 mc_yX10_refuse) rfl rfl rfl (by decide +kernel) ⟨Nat.le_of_ble_eq_true rfl, Nat.le_of_ble_eq_true rfl⟩) (zPV2 (q0 := 0) (ci := 8) hPc hDc hK hXN rfl rfl) rfl rfl hl.1 rfl (lv_room (Nat.le_of_ble_eq_true rfl)) dX10_deny_2 ⟨Nat.le_of_ble_eq_true rfl, Nat.le_of_ble_eq_true rfl⟩) hS hFc hFc rfl (fun t H1 locs ht hB hk1 hS => ?_)
  obtain ⟨hP1, hD1⟩ := hB
  rw [ht] at hP1
  obtain ⟨hP, hD⟩ := va_join (wr := []) (w1 := [(oc8 x (.ref sh) (.ref lw) (.ref ro) (.ref bq) (.ref bp) (.ref dq) (.ref dp) (.ref lv) (.ref sl) ds sd ul 8)]) hP hD [0] [] rfl rfl (by decide) (by decide) hk1 hFc hP1 hD1
  clear hk1 hPc hDc hFc hP1 hD1 ht
  generalize H1 = H at hP hS ⊢
  have hP : va_P (dC, dI) classes [(oc8 x (.ref sh) (.ref lw) (.ref ro) (.ref bq) (.ref bp) (.ref dq) (.ref dp) (.ref lv) (.ref sl) ds sd ul 8)] H := hP
  have hD : va_D A [(oc8 x (.ref sh) (.ref lw) (.ref ro) (.ref bq) (.ref bp) (.ref dq) (.ref dp) (.ref lv) (.ref sl) ds sd ul 8)] := hD
  refine lv_pop hx hb dX10_deny_5 rfl ?_
  refine lv_iconst (v := 0) hx hb dX10_deny_6 (by decide) ?_
  have hP9 := hP.sub (ws' := [(oc8 x (.ref sh) (.ref lw) (.ref ro) (.ref bq) (.ref bp) (.ref dq) (.ref dp) (.ref lv) (.ref sl) ds sd ul 8)]) [0] rfl
  have hD9 := hD.sub (ws' := [(oc8 x (.ref sh) (.ref lw) (.ref ro) (.ref bq) (.ref bp) (.ref dq) (.ref dp) (.ref lv) (.ref sl) ds sd ul 8)]) [0] (by decide) rfl
  rw [hQ9]
  exact W.zret (ty := .boolean) (v := 0) hx hb hr (rfl) (fun t ht hW => ⟨⟨rfl, by rw [ht]; exact hP9, hD9⟩, hS.F ht⟩) hS.2.2 dX10_deny_7
set_option maxHeartbeats 4000000 in
set_option maxRecDepth 100000 in
theorem k_mostCorners (l : Launch) (dC : Nat → ClassId) (dI : Nat → Nat → Nat) (cI cZ cF : ClassId) (sz : Nat) (kd9 : Int32) : Met l yX10_mostCorners (.code yX10_mostCorners cX10_mostCorners 1 (some .int) :: ws0) ({ frames := 0, cells := 0, slots := 0, locals := 0 } : Room) (va_Pc [.int kd9] (zPre (dC, dI) classes (zTy cI cZ cF) [] sz zXN)) (zQ (some (.int (nI (if kd9.toInt = 0 then 1 else 40)))) (fun t => va_P (dC, dI) classes [] t.heap ∧ va_D (va_A [] sz) []) (va_A [] sz)) 0 0 (va_A [] sz) := by
  refine Met.ofW (cc := cX10_mostCorners) (maxL := 1) (ret := (some .int)) (by decide) rfl ?_
  intro p e s m args below meth c s₁ B hml hv
  obtain ⟨rfl, hsz, hP, hK, hD0, hXN⟩ := hv
  have hx := B.exec
  have hb := B.bytes
  have hr := B.returns
  have hts0 := atoms_spec (ws := .code yX10_mostCorners cX10_mostCorners 1 (some .int) :: ws0) B.pre
  have hts : ∀ w9 ∈ ws0, w9.before ([.int kd9] : List Value).toArray s = true := fun w9 h => hts0 w9 (List.mem_cons_of_mem _ h)
  have hown : s.vm.findClass "ScaleShop" = some m.cls := findClass_of_methodNamed B.named
  have hlocks := B.notSynchronized
  subst hsz
  have hD := hD0.self (sz := s.heap.size)
  clear hD0
  generalize hAe : va_A [] s.heap.size = A at hD ⊢
  have hA : ∀ q : Nat, s.heap.size ≤ q → A q := fun q h => by rw [← hAe]; exact Or.inr h
  clear hAe
  have hS : va_S A s.heap s.heap [] := va_S.rf
  have hP : va_P (dC, dI) classes [] s.heap := hP
  obtain ⟨Q9, hQ9⟩ : ∃ Q9 : State → Prop, Q9 = MQ below (zQ (some (.int (nI (if kd9.toInt = 0 then 1 else 40)))) (fun t => va_P (dC, dI) classes [] t.heap ∧ va_D A []) A) ([.int kd9] : List Value).toArray s 0 0 A := ⟨_, rfl⟩
  rw [← hQ9]
  have hl := lv_entry ([.int kd9]) (n := 1) (Nat.le_of_ble_eq_true rfl)
  rw [lg_entry_eq]
  generalize (lg_sl ([.int kd9]) ++ List.replicate (1 - (lg_sl ([.int kd9])).length) Slot.unset).toArray = ls at hl ⊢
  have hl : lv_has ls 1 [(0, .int kd9)] := hl
  refine lv_iload_n hx hb dX10_mostCorners_0 rfl (lv_at hl 0 rfl) ?_
  refine lv_if_ne (tgt := 8) hx hb dX10_mostCorners_1 (by decide) (fun c_1 => ?_) (fun c_1 => ?_)
  · have c_1 : ¬ kd9.toInt = 0 := zc_ne rfl (by decide) c_1
    refine lv_bipush (v := 40) hx hb dX10_mostCorners_8 (by decide) ?_
    have hP9 := hP.sub (ws' := []) [] rfl
    have hD9 := hD.sub (ws' := []) [] (by decide) rfl
    rw [hQ9]
    exact W.iret (v := 40) hx hb hr (fun t ht hW => ⟨⟨congrArg (fun z => Outcome.returned (some (Value.int z))) (show (40 : Int32) = nI (if kd9.toInt = 0 then 1 else 40) from by first | (rw [if_pos (by omega)]; rfl) | (rw [if_neg (by omega)]; rfl)), by rw [ht]; exact hP9, hD9⟩, hS.F ht⟩) hS.2.2 dX10_mostCorners_10
  · have c_1 : kd9.toInt = 0 := zc_eq rfl (by decide) c_1
    refine lv_iconst (v := 1) hx hb dX10_mostCorners_4 (by decide) ?_
    refine lv_goto (tgt := 10) hx hb dX10_mostCorners_5 (by decide) ?_
    have hP9 := hP.sub (ws' := []) [] rfl
    have hD9 := hD.sub (ws' := []) [] (by decide) rfl
    rw [hQ9]
    exact W.iret (v := 1) hx hb hr (fun t ht hW => ⟨⟨congrArg (fun z => Outcome.returned (some (Value.int z))) (show (1 : Int32) = nI (if kd9.toInt = 0 then 1 else 40) from by first | (rw [if_pos (by omega)]; rfl) | (rw [if_neg (by omega)]; rfl)), by rw [ht]; exact hP9, hD9⟩, hS.F ht⟩) hS.2.2 dX10_mostCorners_10
set_option maxHeartbeats 4000000 in
set_option maxRecDepth 100000 in
theorem k_fewestCorners (l : Launch) (dC : Nat → ClassId) (dI : Nat → Nat → Nat) (cI cZ cF : ClassId) (sz : Nat) (kd9 : Int32) : Met l yX10_fewestCorners (.code yX10_fewestCorners cX10_fewestCorners 1 (some .int) :: ws0) ({ frames := 0, cells := 0, slots := 0, locals := 0 } : Room) (va_Pc [.int kd9] (zPre (dC, dI) classes (zTy cI cZ cF) [] sz zXN)) (zQ (some (.int (nI (if kd9.toInt = 0 then 1 else if kd9.toInt < 5 then 2 else 3)))) (fun t => va_P (dC, dI) classes [] t.heap ∧ va_D (va_A [] sz) []) (va_A [] sz)) 0 0 (va_A [] sz) := by
  refine Met.ofW (cc := cX10_fewestCorners) (maxL := 1) (ret := (some .int)) (by decide) rfl ?_
  intro p e s m args below meth c s₁ B hml hv
  obtain ⟨rfl, hsz, hP, hK, hD0, hXN⟩ := hv
  have hx := B.exec
  have hb := B.bytes
  have hr := B.returns
  have hts0 := atoms_spec (ws := .code yX10_fewestCorners cX10_fewestCorners 1 (some .int) :: ws0) B.pre
  have hts : ∀ w9 ∈ ws0, w9.before ([.int kd9] : List Value).toArray s = true := fun w9 h => hts0 w9 (List.mem_cons_of_mem _ h)
  have hown : s.vm.findClass "ScaleShop" = some m.cls := findClass_of_methodNamed B.named
  have hlocks := B.notSynchronized
  subst hsz
  have hD := hD0.self (sz := s.heap.size)
  clear hD0
  generalize hAe : va_A [] s.heap.size = A at hD ⊢
  have hA : ∀ q : Nat, s.heap.size ≤ q → A q := fun q h => by rw [← hAe]; exact Or.inr h
  clear hAe
  have hS : va_S A s.heap s.heap [] := va_S.rf
  have hP : va_P (dC, dI) classes [] s.heap := hP
  obtain ⟨Q9, hQ9⟩ : ∃ Q9 : State → Prop, Q9 = MQ below (zQ (some (.int (nI (if kd9.toInt = 0 then 1 else if kd9.toInt < 5 then 2 else 3)))) (fun t => va_P (dC, dI) classes [] t.heap ∧ va_D A []) A) ([.int kd9] : List Value).toArray s 0 0 A := ⟨_, rfl⟩
  rw [← hQ9]
  have hl := lv_entry ([.int kd9]) (n := 1) (Nat.le_of_ble_eq_true rfl)
  rw [lg_entry_eq]
  generalize (lg_sl ([.int kd9]) ++ List.replicate (1 - (lg_sl ([.int kd9])).length) Slot.unset).toArray = ls at hl ⊢
  have hl : lv_has ls 1 [(0, .int kd9)] := hl
  refine lv_iload_n hx hb dX10_fewestCorners_0 rfl (lv_at hl 0 rfl) ?_
  refine lv_if_ne (tgt := 6) hx hb dX10_fewestCorners_1 (by decide) (fun c_1 => ?_) (fun c_1 => ?_)
  · have c_1 : ¬ kd9.toInt = 0 := zc_ne rfl (by decide) c_1
    refine lv_iload_n hx hb dX10_fewestCorners_6 rfl (lv_at hl 0 rfl) ?_
    refine lv_iconst (v := 5) hx hb dX10_fewestCorners_7 (by decide) ?_
    refine lv_icmp_ge (tgt := 15) hx hb dX10_fewestCorners_8 (by decide) (fun c_2 => ?_) (fun c_2 => ?_)
    · have c_2 : 5 ≤ kd9.toInt := zc_le (by decide) rfl c_2
      refine lv_iconst (v := 3) hx hb dX10_fewestCorners_15 (by decide) ?_
      have hP9 := hP.sub (ws' := []) [] rfl
      have hD9 := hD.sub (ws' := []) [] (by decide) rfl
      rw [hQ9]
      exact W.iret (v := 3) hx hb hr (fun t ht hW => ⟨⟨congrArg (fun z => Outcome.returned (some (Value.int z))) (show (3 : Int32) = nI (if kd9.toInt = 0 then 1 else if kd9.toInt < 5 then 2 else 3) from by first | (rw [if_pos (by omega)]; rfl) | (rw [if_neg (by omega), if_pos (by omega)]; rfl) | (rw [if_neg (by omega), if_neg (by omega)]; rfl)), by rw [ht]; exact hP9, hD9⟩, hS.F ht⟩) hS.2.2 dX10_fewestCorners_16
    · have c_2 : kd9.toInt < 5 := zc_nle (by decide) rfl c_2
      refine lv_iconst (v := 2) hx hb dX10_fewestCorners_11 (by decide) ?_
      refine lv_goto (tgt := 16) hx hb dX10_fewestCorners_12 (by decide) ?_
      have hP9 := hP.sub (ws' := []) [] rfl
      have hD9 := hD.sub (ws' := []) [] (by decide) rfl
      rw [hQ9]
      exact W.iret (v := 2) hx hb hr (fun t ht hW => ⟨⟨congrArg (fun z => Outcome.returned (some (Value.int z))) (show (2 : Int32) = nI (if kd9.toInt = 0 then 1 else if kd9.toInt < 5 then 2 else 3) from by first | (rw [if_pos (by omega)]; rfl) | (rw [if_neg (by omega), if_pos (by omega)]; rfl) | (rw [if_neg (by omega), if_neg (by omega)]; rfl)), by rw [ht]; exact hP9, hD9⟩, hS.F ht⟩) hS.2.2 dX10_fewestCorners_16
  · have c_1 : kd9.toInt = 0 := zc_eq rfl (by decide) c_1
    refine lv_iconst (v := 1) hx hb dX10_fewestCorners_4 (by decide) ?_
    have hP9 := hP.sub (ws' := []) [] rfl
    have hD9 := hD.sub (ws' := []) [] (by decide) rfl
    rw [hQ9]
    exact W.iret (v := 1) hx hb hr (fun t ht hW => ⟨⟨congrArg (fun z => Outcome.returned (some (Value.int z))) (show (1 : Int32) = nI (if kd9.toInt = 0 then 1 else if kd9.toInt < 5 then 2 else 3) from by first | (rw [if_pos (by omega)]; rfl) | (rw [if_neg (by omega), if_pos (by omega)]; rfl) | (rw [if_neg (by omega), if_neg (by omega)]; rfl)), by rw [ht]; exact hP9, hD9⟩, hS.F ht⟩) hS.2.2 dX10_fewestCorners_5
set_option maxHeartbeats 4000000 in
set_option maxRecDepth 100000 in
theorem k_drop_x (l : Launch) (dC : Nat → ClassId) (dI : Nat → Nat → Nat) (cI cZ cF : ClassId) (sz : Nat) (x : Nat) (sh : Nat) (lw : Nat) (ro : Nat) (bq : Nat) (bp : Nat) (dq : Nat) (dp : Nat) (lv : Nat) (sl : Nat) (sd : Int32) (ul : Int32) (su : Int32) (ds : Int32) (fa : Nat) (ft : Nat) (FA : Nat → Option Nat) (v : Int32) (h200 : ft ≤ 200) (hv : ¬ (0 ≤ v.toInt ∧ v.toInt < ((ft : Nat) : Int))) : Met l yX10_drop (.code yX10_drop cX10_drop 3 (some .boolean) :: ws0) ({ frames := 2, cells := 0, slots := 0, locals := 42 } : Room) (va_Pc [.ref x, .int v] (zPre (dC, dI) classes (zTy cI cZ cF) [(oc8 x (.ref sh) (.ref lw) (.ref ro) (.ref bq) (.ref bp) (.ref dq) (.ref dp) (.ref lv) (.ref sl) ds sd ul su), (oc7 sh (.ref fa) (nI ft)), (oq fa cF 200 FA)] sz zXN)) (zQ (some (.int 0)) (fun t => ∃ (ul1 : Int32), ∃ (su1 : Int32), va_P (dC, dI) classes [(oc8 x (.ref sh) (.ref lw) (.ref ro) (.ref bq) (.ref bp) (.ref dq) (.ref dp) (.ref lv) (.ref sl) ds sd ul1 su1), (oc7 sh (.ref fa) (nI ft)), (oq fa cF 200 FA)] t.heap ∧ va_D (va_A [(oc8 x (.ref sh) (.ref lw) (.ref ro) (.ref bq) (.ref bp) (.ref dq) (.ref dp) (.ref lv) (.ref sl) ds sd ul su), (oc7 sh (.ref fa) (nI ft)), (oq fa cF 200 FA)] sz) [(oc8 x (.ref sh) (.ref lw) (.ref ro) (.ref bq) (.ref bp) (.ref dq) (.ref dp) (.ref lv) (.ref sl) ds sd ul1 su1), (oc7 sh (.ref fa) (nI ft)), (oq fa cF 200 FA)]) (va_A [(oc8 x (.ref sh) (.ref lw) (.ref ro) (.ref bq) (.ref bp) (.ref dq) (.ref dp) (.ref lv) (.ref sl) ds sd ul su), (oc7 sh (.ref fa) (nI ft)), (oq fa cF 200 FA)] sz)) 0 0 (va_A [(oc8 x (.ref sh) (.ref lw) (.ref ro) (.ref bq) (.ref bp) (.ref dq) (.ref dp) (.ref lv) (.ref sl) ds sd ul su), (oc7 sh (.ref fa) (nI ft)), (oq fa cF 200 FA)] sz) := by
  refine Met.ofW (cc := cX10_drop) (maxL := 3) (ret := (some .boolean)) (by decide) rfl ?_
  intro p e s m args below meth c s₁ B hml hv
  obtain ⟨rfl, hsz, hP, hK, hD0, hXN⟩ := hv
  have hx := B.exec
  have hb := B.bytes
  have hr := B.returns
  have hts0 := atoms_spec (ws := .code yX10_drop cX10_drop 3 (some .boolean) :: ws0) B.pre
  have hts : ∀ w9 ∈ ws0, w9.before ([.ref x, .int v] : List Value).toArray s = true := fun w9 h => hts0 w9 (List.mem_cons_of_mem _ h)
  have hown : s.vm.findClass "ScaleShop" = some m.cls := findClass_of_methodNamed B.named
  have hlocks := B.notSynchronized
  subst hsz
  have hD := hD0.self (sz := s.heap.size)
  clear hD0
  generalize hAe : va_A [(oc8 x (.ref sh) (.ref lw) (.ref ro) (.ref bq) (.ref bp) (.ref dq) (.ref dp) (.ref lv) (.ref sl) ds sd ul su), (oc7 sh (.ref fa) (nI ft)), (oq fa cF 200 FA)] s.heap.size = A at hD ⊢
  have hA : ∀ q : Nat, s.heap.size ≤ q → A q := fun q h => by rw [← hAe]; exact Or.inr h
  clear hAe
  have hS : va_S A s.heap s.heap [] := va_S.rf
  have hP : va_P (dC, dI) classes [(oc8 x (.ref sh) (.ref lw) (.ref ro) (.ref bq) (.ref bp) (.ref dq) (.ref dp) (.ref lv) (.ref sl) ds sd ul su), (oc7 sh (.ref fa) (nI ft)), (oq fa cF 200 FA)] s.heap := hP
  obtain ⟨Q9, hQ9⟩ : ∃ Q9 : State → Prop, Q9 = MQ below (zQ (some (.int 0)) (fun t => ∃ (ul1 : Int32), ∃ (su1 : Int32), va_P (dC, dI) classes [(oc8 x (.ref sh) (.ref lw) (.ref ro) (.ref bq) (.ref bp) (.ref dq) (.ref dp) (.ref lv) (.ref sl) ds sd ul1 su1), (oc7 sh (.ref fa) (nI ft)), (oq fa cF 200 FA)] t.heap ∧ va_D A [(oc8 x (.ref sh) (.ref lw) (.ref ro) (.ref bq) (.ref bp) (.ref dq) (.ref dp) (.ref lv) (.ref sl) ds sd ul1 su1), (oc7 sh (.ref fa) (nI ft)), (oq fa cF 200 FA)]) A) ([.ref x, .int v] : List Value).toArray s 0 0 A := ⟨_, rfl⟩
  rw [← hQ9]
  have hl := lv_entry ([.ref x, .int v]) (n := 3) (Nat.le_of_ble_eq_true rfl)
  rw [lg_entry_eq]
  generalize (lg_sl ([.ref x, .int v]) ++ List.replicate (3 - (lg_sl ([.ref x, .int v])).length) Slot.unset).toArray = ls at hl ⊢
  have hl : lv_has ls 3 [(0, .ref x), (1, .int v)] := hl
  refine lv_aload_n hx hb dX10_drop_0 rfl (lv_at hl 0 rfl) ?_
  refine va_get (D := (dC, dI)) (ci := 8) (v := .ref sh) (C := RX10) (T := TX10) (N := 13) hx hb hts inX10 hown hK hP 0 rfl rfl 0 (by decide) (hts _ mw_309) (fun _ h9 => h9) rfl dX10_drop_1 ?_
  refine lv_iload_n hx hb dX10_drop_4 rfl (lv_at hl 1 rfl) ?_
  have hPc := hP.sub (ws' := [(oc7 sh (.ref fa) (nI ft)), (oq fa cF 200 FA)]) [1, 2] rfl
  have hDc := hD.sub (ws' := [(oc7 sh (.ref fa) (nI ft)), (oq fa cF 200 FA)]) [1, 2] (by decide) rfl
  have hFc := va_free (wc := [(oc7 sh (.ref fa) (nI ft)), (oq fa cF 200 FA)]) hD hS hA [1, 2] rfl
  refine zcall (st1 := [.null]) (va_runV (As := [.int v]) (rest := []) ⟨hx, hb, hml, hown, hts⟩ (k_Sheet_find_n l dC dI cI cZ cF s.heap.size sh fa ft FA v (by omega) (by assumption)) (cwV 1 hts (zz_gV mw_498 mw_499 mw_500 mw_100 mc_yX8_find) rfl rfl rfl (by decide +kernel) ⟨Nat.le_of_ble_eq_true rfl, Nat.le_of_ble_eq_true rfl⟩) (zPV2 (q0 := 0) (ci := 7) hPc hDc hK hXN rfl rfl) rfl rfl hl.1 rfl (lv_room (Nat.le_of_ble_eq_true rfl)) dX10_drop_5 ⟨Nat.le_of_ble_eq_true rfl, Nat.le_of_ble_eq_true rfl⟩) hS hFc hFc rfl (fun t H1 locs ht hB hk1 hS => ?_)
  obtain ⟨hP1, hD1⟩ := hB
  rw [ht] at hP1
  obtain ⟨hP, hD⟩ := va_join (wr := [(oc8 x (.ref sh) (.ref lw) (.ref ro) (.ref bq) (.ref bp) (.ref dq) (.ref dp) (.ref lv) (.ref sl) ds sd ul su)]) (w1 := [(oc7 sh (.ref fa) (nI ft)), (oq fa cF 200 FA)]) hP hD [1, 2] [0] rfl rfl (by decide) (by decide) hk1 hFc hP1 hD1
  clear hk1 hPc hDc hFc hP1 hD1 ht
  generalize H1 = H at hP hS ⊢
  have hP : va_P (dC, dI) classes [(oc8 x (.ref sh) (.ref lw) (.ref ro) (.ref bq) (.ref bp) (.ref dq) (.ref dp) (.ref lv) (.ref sl) ds sd ul su), (oc7 sh (.ref fa) (nI ft)), (oq fa cF 200 FA)] H := hP
  have hD : va_D A [(oc8 x (.ref sh) (.ref lw) (.ref ro) (.ref bq) (.ref bp) (.ref dq) (.ref dp) (.ref lv) (.ref sl) ds sd ul su), (oc7 sh (.ref fa) (nI ft)), (oq fa cF 200 FA)] := hD
  refine lv_astore_nN (lv' := [(2, .null), (0, .ref x), (1, .int v)]) hx hb dX10_drop_8 rfl hl (by decide) rfl (fun ls hl => ?_)
  refine lv_aload_nN hx hb dX10_drop_9 rfl (lv_at hl 0 rfl) ?_
  refine lv_ifnonnullN hx hb dX10_drop_10 ?_
  refine lv_aload_n hx hb dX10_drop_13 rfl (lv_at hl 1 rfl) ?_
  refine lv_iconst (v := 1) hx hb dX10_drop_14 (by decide) ?_
  have hPc := hP.sub (ws' := [(oc8 x (.ref sh) (.ref lw) (.ref ro) (.ref bq) (.ref bp) (.ref dq) (.ref dp) (.ref lv) (.ref sl) ds sd ul su)]) [0] rfl
  have hDc := hD.sub (ws' := [(oc8 x (.ref sh) (.ref lw) (.ref ro) (.ref bq) (.ref bp) (.ref dq) (.ref dp) (.ref lv) (.ref sl) ds sd ul su)]) [0] (by decide) rfl
  have hFc := va_free (wc := [(oc8 x (.ref sh) (.ref lw) (.ref ro) (.ref bq) (.ref bp) (.ref dq) (.ref dp) (.ref lv) (.ref sl) ds sd ul su)]) hD hS hA [0] rfl
  refine zcall (st1 := [.int 0]) (va_runV (As := [.int 1]) (rest := []) ⟨hx, hb, hml, hown, hts⟩ (k_deny_1 l dC dI cI cZ cF H.size x sh lw ro bq bp dq dp lv sl sd ul su ds ) (cwV 1 hts (zz_gV mw_513 mw_515 mw_4 mw_99 mc_yX10_deny) rfl rfl rfl (by decide +kernel) ⟨Nat.le_of_ble_eq_true rfl, Nat.le_of_ble_eq_true rfl⟩) (zPV2 (q0 := 0) (ci := 8) hPc hDc hK hXN rfl rfl) rfl rfl hl.1 rfl (lv_room (Nat.le_of_ble_eq_true rfl)) dX10_drop_15 ⟨Nat.le_of_ble_eq_true rfl, Nat.le_of_ble_eq_true rfl⟩) hS hFc hFc rfl (fun t H1 locs ht hB hk1 hS => ?_)
  obtain ⟨hP1, hD1⟩ := hB
  rw [ht] at hP1
  obtain ⟨hP, hD⟩ := va_join (wr := [(oc7 sh (.ref fa) (nI ft)), (oq fa cF 200 FA)]) (w1 := [(oc8 x (.ref sh) (.ref lw) (.ref ro) (.ref bq) (.ref bp) (.ref dq) (.ref dp) (.ref lv) (.ref sl) ds sd ul 1)]) hP hD [0] [1, 2] rfl rfl (by decide) (by decide) hk1 hFc hP1 hD1
  clear hk1 hPc hDc hFc hP1 hD1 ht
  generalize H1 = H at hP hS ⊢
  have hP := hP.sub (ws' := [(oc8 x (.ref sh) (.ref lw) (.ref ro) (.ref bq) (.ref bp) (.ref dq) (.ref dp) (.ref lv) (.ref sl) ds sd ul 1), (oc7 sh (.ref fa) (nI ft)), (oq fa cF 200 FA)]) [2, 0, 1] rfl
  have hD := hD.sub (ws' := [(oc8 x (.ref sh) (.ref lw) (.ref ro) (.ref bq) (.ref bp) (.ref dq) (.ref dp) (.ref lv) (.ref sl) ds sd ul 1), (oc7 sh (.ref fa) (nI ft)), (oq fa cF 200 FA)]) [2, 0, 1] (by decide) rfl
  have hP : va_P (dC, dI) classes [(oc8 x (.ref sh) (.ref lw) (.ref ro) (.ref bq) (.ref bp) (.ref dq) (.ref dp) (.ref lv) (.ref sl) ds sd ul 1), (oc7 sh (.ref fa) (nI ft)), (oq fa cF 200 FA)] H := hP
  have hD : va_D A [(oc8 x (.ref sh) (.ref lw) (.ref ro) (.ref bq) (.ref bp) (.ref dq) (.ref dp) (.ref lv) (.ref sl) ds sd ul 1), (oc7 sh (.ref fa) (nI ft)), (oq fa cF 200 FA)] := hD
  have hP9 := hP.sub (ws' := [(oc8 x (.ref sh) (.ref lw) (.ref ro) (.ref bq) (.ref bp) (.ref dq) (.ref dp) (.ref lv) (.ref sl) ds sd ul 1), (oc7 sh (.ref fa) (nI ft)), (oq fa cF 200 FA)]) [0, 1, 2] rfl
  have hD9 := hD.sub (ws' := [(oc8 x (.ref sh) (.ref lw) (.ref ro) (.ref bq) (.ref bp) (.ref dq) (.ref dp) (.ref lv) (.ref sl) ds sd ul 1), (oc7 sh (.ref fa) (nI ft)), (oq fa cF 200 FA)]) [0, 1, 2] (by decide) rfl
  rw [hQ9]
  exact W.zret (ty := .boolean) (v := 0) hx hb hr (rfl) (fun t ht hW => ⟨⟨rfl, ul, 1, by rw [ht]; exact hP9, hD9⟩, hS.F ht⟩) hS.2.2 dX10_drop_18
set_option maxHeartbeats 4000000 in
set_option maxRecDepth 100000 in
theorem k_tear_x (l : Launch) (dC : Nat → ClassId) (dI : Nat → Nat → Nat) (cI cZ cF : ClassId) (sz : Nat) (x : Nat) (sh : Nat) (lw : Nat) (ro : Nat) (bq : Nat) (bp : Nat) (dq : Nat) (dp : Nat) (lv : Nat) (sl : Nat) (sd : Int32) (ul : Int32) (su : Int32) (ds : Int32) (fa : Nat) (ft : Nat) (FA : Nat → Option Nat) (v : Int32) (h200 : ft ≤ 200) (hv : ¬ (0 ≤ v.toInt ∧ v.toInt < ((ft : Nat) : Int))) : Met l yX10_tear (.code yX10_tear cX10_tear 3 (some .boolean) :: ws0) ({ frames := 2, cells := 0, slots := 0, locals := 42 } : Room) (va_Pc [.ref x, .int v] (zPre (dC, dI) classes (zTy cI cZ cF) [(oc8 x (.ref sh) (.ref lw) (.ref ro) (.ref bq) (.ref bp) (.ref dq) (.ref dp) (.ref lv) (.ref sl) ds sd ul su), (oc7 sh (.ref fa) (nI ft)), (oq fa cF 200 FA)] sz zXN)) (zQ (some (.int 0)) (fun t => ∃ (ul1 : Int32), ∃ (su1 : Int32), va_P (dC, dI) classes [(oc8 x (.ref sh) (.ref lw) (.ref ro) (.ref bq) (.ref bp) (.ref dq) (.ref dp) (.ref lv) (.ref sl) ds sd ul1 su1), (oc7 sh (.ref fa) (nI ft)), (oq fa cF 200 FA)] t.heap ∧ va_D (va_A [(oc8 x (.ref sh) (.ref lw) (.ref ro) (.ref bq) (.ref bp) (.ref dq) (.ref dp) (.ref lv) (.ref sl) ds sd ul su), (oc7 sh (.ref fa) (nI ft)), (oq fa cF 200 FA)] sz) [(oc8 x (.ref sh) (.ref lw) (.ref ro) (.ref bq) (.ref bp) (.ref dq) (.ref dp) (.ref lv) (.ref sl) ds sd ul1 su1), (oc7 sh (.ref fa) (nI ft)), (oq fa cF 200 FA)]) (va_A [(oc8 x (.ref sh) (.ref lw) (.ref ro) (.ref bq) (.ref bp) (.ref dq) (.ref dp) (.ref lv) (.ref sl) ds sd ul su), (oc7 sh (.ref fa) (nI ft)), (oq fa cF 200 FA)] sz)) 0 0 (va_A [(oc8 x (.ref sh) (.ref lw) (.ref ro) (.ref bq) (.ref bp) (.ref dq) (.ref dp) (.ref lv) (.ref sl) ds sd ul su), (oc7 sh (.ref fa) (nI ft)), (oq fa cF 200 FA)] sz) := by
  refine Met.ofW (cc := cX10_tear) (maxL := 3) (ret := (some .boolean)) (by decide) rfl ?_
  intro p e s m args below meth c s₁ B hml hv
  obtain ⟨rfl, hsz, hP, hK, hD0, hXN⟩ := hv
  have hx := B.exec
  have hb := B.bytes
  have hr := B.returns
  have hts0 := atoms_spec (ws := .code yX10_tear cX10_tear 3 (some .boolean) :: ws0) B.pre
  have hts : ∀ w9 ∈ ws0, w9.before ([.ref x, .int v] : List Value).toArray s = true := fun w9 h => hts0 w9 (List.mem_cons_of_mem _ h)
  have hown : s.vm.findClass "ScaleShop" = some m.cls := findClass_of_methodNamed B.named
  have hlocks := B.notSynchronized
  subst hsz
  have hD := hD0.self (sz := s.heap.size)
  clear hD0
  generalize hAe : va_A [(oc8 x (.ref sh) (.ref lw) (.ref ro) (.ref bq) (.ref bp) (.ref dq) (.ref dp) (.ref lv) (.ref sl) ds sd ul su), (oc7 sh (.ref fa) (nI ft)), (oq fa cF 200 FA)] s.heap.size = A at hD ⊢
  have hA : ∀ q : Nat, s.heap.size ≤ q → A q := fun q h => by rw [← hAe]; exact Or.inr h
  clear hAe
  have hS : va_S A s.heap s.heap [] := va_S.rf
  have hP : va_P (dC, dI) classes [(oc8 x (.ref sh) (.ref lw) (.ref ro) (.ref bq) (.ref bp) (.ref dq) (.ref dp) (.ref lv) (.ref sl) ds sd ul su), (oc7 sh (.ref fa) (nI ft)), (oq fa cF 200 FA)] s.heap := hP
  obtain ⟨Q9, hQ9⟩ : ∃ Q9 : State → Prop, Q9 = MQ below (zQ (some (.int 0)) (fun t => ∃ (ul1 : Int32), ∃ (su1 : Int32), va_P (dC, dI) classes [(oc8 x (.ref sh) (.ref lw) (.ref ro) (.ref bq) (.ref bp) (.ref dq) (.ref dp) (.ref lv) (.ref sl) ds sd ul1 su1), (oc7 sh (.ref fa) (nI ft)), (oq fa cF 200 FA)] t.heap ∧ va_D A [(oc8 x (.ref sh) (.ref lw) (.ref ro) (.ref bq) (.ref bp) (.ref dq) (.ref dp) (.ref lv) (.ref sl) ds sd ul1 su1), (oc7 sh (.ref fa) (nI ft)), (oq fa cF 200 FA)]) A) ([.ref x, .int v] : List Value).toArray s 0 0 A := ⟨_, rfl⟩
  rw [← hQ9]
  have hl := lv_entry ([.ref x, .int v]) (n := 3) (Nat.le_of_ble_eq_true rfl)
  rw [lg_entry_eq]
  generalize (lg_sl ([.ref x, .int v]) ++ List.replicate (3 - (lg_sl ([.ref x, .int v])).length) Slot.unset).toArray = ls at hl ⊢
  have hl : lv_has ls 3 [(0, .ref x), (1, .int v)] := hl
  refine lv_aload_n hx hb dX10_tear_0 rfl (lv_at hl 0 rfl) ?_
  refine va_get (D := (dC, dI)) (ci := 8) (v := .ref sh) (C := RX10) (T := TX10) (N := 13) hx hb hts inX10 hown hK hP 0 rfl rfl 0 (by decide) (hts _ mw_309) (fun _ h9 => h9) rfl dX10_tear_1 ?_
  refine lv_iload_n hx hb dX10_tear_4 rfl (lv_at hl 1 rfl) ?_
  have hPc := hP.sub (ws' := [(oc7 sh (.ref fa) (nI ft)), (oq fa cF 200 FA)]) [1, 2] rfl
  have hDc := hD.sub (ws' := [(oc7 sh (.ref fa) (nI ft)), (oq fa cF 200 FA)]) [1, 2] (by decide) rfl
  have hFc := va_free (wc := [(oc7 sh (.ref fa) (nI ft)), (oq fa cF 200 FA)]) hD hS hA [1, 2] rfl
  refine zcall (st1 := [.null]) (va_runV (As := [.int v]) (rest := []) ⟨hx, hb, hml, hown, hts⟩ (k_Sheet_find_n l dC dI cI cZ cF s.heap.size sh fa ft FA v (by omega) (by assumption)) (cwV 1 hts (zz_gV mw_498 mw_499 mw_500 mw_100 mc_yX8_find) rfl rfl rfl (by decide +kernel) ⟨Nat.le_of_ble_eq_true rfl, Nat.le_of_ble_eq_true rfl⟩) (zPV2 (q0 := 0) (ci := 7) hPc hDc hK hXN rfl rfl) rfl rfl hl.1 rfl (lv_room (Nat.le_of_ble_eq_true rfl)) dX10_tear_5 ⟨Nat.le_of_ble_eq_true rfl, Nat.le_of_ble_eq_true rfl⟩) hS hFc hFc rfl (fun t H1 locs ht hB hk1 hS => ?_)
  obtain ⟨hP1, hD1⟩ := hB
  rw [ht] at hP1
  obtain ⟨hP, hD⟩ := va_join (wr := [(oc8 x (.ref sh) (.ref lw) (.ref ro) (.ref bq) (.ref bp) (.ref dq) (.ref dp) (.ref lv) (.ref sl) ds sd ul su)]) (w1 := [(oc7 sh (.ref fa) (nI ft)), (oq fa cF 200 FA)]) hP hD [1, 2] [0] rfl rfl (by decide) (by decide) hk1 hFc hP1 hD1
  clear hk1 hPc hDc hFc hP1 hD1 ht
  generalize H1 = H at hP hS ⊢
  have hP : va_P (dC, dI) classes [(oc8 x (.ref sh) (.ref lw) (.ref ro) (.ref bq) (.ref bp) (.ref dq) (.ref dp) (.ref lv) (.ref sl) ds sd ul su), (oc7 sh (.ref fa) (nI ft)), (oq fa cF 200 FA)] H := hP
  have hD : va_D A [(oc8 x (.ref sh) (.ref lw) (.ref ro) (.ref bq) (.ref bp) (.ref dq) (.ref dp) (.ref lv) (.ref sl) ds sd ul su), (oc7 sh (.ref fa) (nI ft)), (oq fa cF 200 FA)] := hD
  refine lv_astore_nN (lv' := [(2, .null), (0, .ref x), (1, .int v)]) hx hb dX10_tear_8 rfl hl (by decide) rfl (fun ls hl => ?_)
  refine lv_aload_nN hx hb dX10_tear_9 rfl (lv_at hl 0 rfl) ?_
  refine lv_ifnonnullN hx hb dX10_tear_10 ?_
  refine lv_aload_n hx hb dX10_tear_13 rfl (lv_at hl 1 rfl) ?_
  refine lv_iconst (v := 1) hx hb dX10_tear_14 (by decide) ?_
  have hPc := hP.sub (ws' := [(oc8 x (.ref sh) (.ref lw) (.ref ro) (.ref bq) (.ref bp) (.ref dq) (.ref dp) (.ref lv) (.ref sl) ds sd ul su)]) [0] rfl
  have hDc := hD.sub (ws' := [(oc8 x (.ref sh) (.ref lw) (.ref ro) (.ref bq) (.ref bp) (.ref dq) (.ref dp) (.ref lv) (.ref sl) ds sd ul su)]) [0] (by decide) rfl
  have hFc := va_free (wc := [(oc8 x (.ref sh) (.ref lw) (.ref ro) (.ref bq) (.ref bp) (.ref dq) (.ref dp) (.ref lv) (.ref sl) ds sd ul su)]) hD hS hA [0] rfl
  refine zcall (st1 := [.int 0]) (va_runV (As := [.int 1]) (rest := []) ⟨hx, hb, hml, hown, hts⟩ (k_deny_1 l dC dI cI cZ cF H.size x sh lw ro bq bp dq dp lv sl sd ul su ds ) (cwV 1 hts (zz_gV mw_513 mw_515 mw_4 mw_99 mc_yX10_deny) rfl rfl rfl (by decide +kernel) ⟨Nat.le_of_ble_eq_true rfl, Nat.le_of_ble_eq_true rfl⟩) (zPV2 (q0 := 0) (ci := 8) hPc hDc hK hXN rfl rfl) rfl rfl hl.1 rfl (lv_room (Nat.le_of_ble_eq_true rfl)) dX10_tear_15 ⟨Nat.le_of_ble_eq_true rfl, Nat.le_of_ble_eq_true rfl⟩) hS hFc hFc rfl (fun t H1 locs ht hB hk1 hS => ?_)
  obtain ⟨hP1, hD1⟩ := hB
  rw [ht] at hP1
  obtain ⟨hP, hD⟩ := va_join (wr := [(oc7 sh (.ref fa) (nI ft)), (oq fa cF 200 FA)]) (w1 := [(oc8 x (.ref sh) (.ref lw) (.ref ro) (.ref bq) (.ref bp) (.ref dq) (.ref dp) (.ref lv) (.ref sl) ds sd ul 1)]) hP hD [0] [1, 2] rfl rfl (by decide) (by decide) hk1 hFc hP1 hD1
  clear hk1 hPc hDc hFc hP1 hD1 ht
  generalize H1 = H at hP hS ⊢
  have hP := hP.sub (ws' := [(oc8 x (.ref sh) (.ref lw) (.ref ro) (.ref bq) (.ref bp) (.ref dq) (.ref dp) (.ref lv) (.ref sl) ds sd ul 1), (oc7 sh (.ref fa) (nI ft)), (oq fa cF 200 FA)]) [2, 0, 1] rfl
  have hD := hD.sub (ws' := [(oc8 x (.ref sh) (.ref lw) (.ref ro) (.ref bq) (.ref bp) (.ref dq) (.ref dp) (.ref lv) (.ref sl) ds sd ul 1), (oc7 sh (.ref fa) (nI ft)), (oq fa cF 200 FA)]) [2, 0, 1] (by decide) rfl
  have hP : va_P (dC, dI) classes [(oc8 x (.ref sh) (.ref lw) (.ref ro) (.ref bq) (.ref bp) (.ref dq) (.ref dp) (.ref lv) (.ref sl) ds sd ul 1), (oc7 sh (.ref fa) (nI ft)), (oq fa cF 200 FA)] H := hP
  have hD : va_D A [(oc8 x (.ref sh) (.ref lw) (.ref ro) (.ref bq) (.ref bp) (.ref dq) (.ref dp) (.ref lv) (.ref sl) ds sd ul 1), (oc7 sh (.ref fa) (nI ft)), (oq fa cF 200 FA)] := hD
  have hP9 := hP.sub (ws' := [(oc8 x (.ref sh) (.ref lw) (.ref ro) (.ref bq) (.ref bp) (.ref dq) (.ref dp) (.ref lv) (.ref sl) ds sd ul 1), (oc7 sh (.ref fa) (nI ft)), (oq fa cF 200 FA)]) [0, 1, 2] rfl
  have hD9 := hD.sub (ws' := [(oc8 x (.ref sh) (.ref lw) (.ref ro) (.ref bq) (.ref bp) (.ref dq) (.ref dp) (.ref lv) (.ref sl) ds sd ul 1), (oc7 sh (.ref fa) (nI ft)), (oq fa cF 200 FA)]) [0, 1, 2] (by decide) rfl
  rw [hQ9]
  exact W.zret (ty := .boolean) (v := 0) hx hb hr (rfl) (fun t ht hW => ⟨⟨rfl, ul, 1, by rw [ht]; exact hP9, hD9⟩, hS.F ht⟩) hS.2.2 dX10_tear_18
set_option maxHeartbeats 4000000 in
set_option maxRecDepth 100000 in
theorem k_done_x (l : Launch) (dC : Nat → ClassId) (dI : Nat → Nat → Nat) (cI cZ cF : ClassId) (sz : Nat) (x : Nat) (sh : Nat) (lw : Nat) (ro : Nat) (bq : Nat) (bp : Nat) (dq : Nat) (dp : Nat) (lv : Nat) (sl : Nat) (sd : Int32) (ul : Int32) (su : Int32) (ds : Int32) (fa : Nat) (ft : Nat) (FA : Nat → Option Nat) (v : Int32) (h200 : ft ≤ 200) (hv : ¬ (0 ≤ v.toInt ∧ v.toInt < ((ft : Nat) : Int))) : Met l yX10_done (.code yX10_done cX10_done 4 (some .boolean) :: ws0) ({ frames := 2, cells := 0, slots := 0, locals := 42 } : Room) (va_Pc [.ref x, .int v] (zPre (dC, dI) classes (zTy cI cZ cF) [(oc8 x (.ref sh) (.ref lw) (.ref ro) (.ref bq) (.ref bp) (.ref dq) (.ref dp) (.ref lv) (.ref sl) ds sd ul su), (oc7 sh (.ref fa) (nI ft)), (oq fa cF 200 FA)] sz zXN)) (zQ (some (.int 0)) (fun t => ∃ (ul1 : Int32), ∃ (su1 : Int32), va_P (dC, dI) classes [(oc8 x (.ref sh) (.ref lw) (.ref ro) (.ref bq) (.ref bp) (.ref dq) (.ref dp) (.ref lv) (.ref sl) ds sd ul1 su1), (oc7 sh (.ref fa) (nI ft)), (oq fa cF 200 FA)] t.heap ∧ va_D (va_A [(oc8 x (.ref sh) (.ref lw) (.ref ro) (.ref bq) (.ref bp) (.ref dq) (.ref dp) (.ref lv) (.ref sl) ds sd ul su), (oc7 sh (.ref fa) (nI ft)), (oq fa cF 200 FA)] sz) [(oc8 x (.ref sh) (.ref lw) (.ref ro) (.ref bq) (.ref bp) (.ref dq) (.ref dp) (.ref lv) (.ref sl) ds sd ul1 su1), (oc7 sh (.ref fa) (nI ft)), (oq fa cF 200 FA)]) (va_A [(oc8 x (.ref sh) (.ref lw) (.ref ro) (.ref bq) (.ref bp) (.ref dq) (.ref dp) (.ref lv) (.ref sl) ds sd ul su), (oc7 sh (.ref fa) (nI ft)), (oq fa cF 200 FA)] sz)) 0 0 (va_A [(oc8 x (.ref sh) (.ref lw) (.ref ro) (.ref bq) (.ref bp) (.ref dq) (.ref dp) (.ref lv) (.ref sl) ds sd ul su), (oc7 sh (.ref fa) (nI ft)), (oq fa cF 200 FA)] sz) := by
  refine Met.ofW (cc := cX10_done) (maxL := 4) (ret := (some .boolean)) (by decide) rfl ?_
  intro p e s m args below meth c s₁ B hml hv
  obtain ⟨rfl, hsz, hP, hK, hD0, hXN⟩ := hv
  have hx := B.exec
  have hb := B.bytes
  have hr := B.returns
  have hts0 := atoms_spec (ws := .code yX10_done cX10_done 4 (some .boolean) :: ws0) B.pre
  have hts : ∀ w9 ∈ ws0, w9.before ([.ref x, .int v] : List Value).toArray s = true := fun w9 h => hts0 w9 (List.mem_cons_of_mem _ h)
  have hown : s.vm.findClass "ScaleShop" = some m.cls := findClass_of_methodNamed B.named
  have hlocks := B.notSynchronized
  subst hsz
  have hD := hD0.self (sz := s.heap.size)
  clear hD0
  generalize hAe : va_A [(oc8 x (.ref sh) (.ref lw) (.ref ro) (.ref bq) (.ref bp) (.ref dq) (.ref dp) (.ref lv) (.ref sl) ds sd ul su), (oc7 sh (.ref fa) (nI ft)), (oq fa cF 200 FA)] s.heap.size = A at hD ⊢
  have hA : ∀ q : Nat, s.heap.size ≤ q → A q := fun q h => by rw [← hAe]; exact Or.inr h
  clear hAe
  have hS : va_S A s.heap s.heap [] := va_S.rf
  have hP : va_P (dC, dI) classes [(oc8 x (.ref sh) (.ref lw) (.ref ro) (.ref bq) (.ref bp) (.ref dq) (.ref dp) (.ref lv) (.ref sl) ds sd ul su), (oc7 sh (.ref fa) (nI ft)), (oq fa cF 200 FA)] s.heap := hP
  obtain ⟨Q9, hQ9⟩ : ∃ Q9 : State → Prop, Q9 = MQ below (zQ (some (.int 0)) (fun t => ∃ (ul1 : Int32), ∃ (su1 : Int32), va_P (dC, dI) classes [(oc8 x (.ref sh) (.ref lw) (.ref ro) (.ref bq) (.ref bp) (.ref dq) (.ref dp) (.ref lv) (.ref sl) ds sd ul1 su1), (oc7 sh (.ref fa) (nI ft)), (oq fa cF 200 FA)] t.heap ∧ va_D A [(oc8 x (.ref sh) (.ref lw) (.ref ro) (.ref bq) (.ref bp) (.ref dq) (.ref dp) (.ref lv) (.ref sl) ds sd ul1 su1), (oc7 sh (.ref fa) (nI ft)), (oq fa cF 200 FA)]) A) ([.ref x, .int v] : List Value).toArray s 0 0 A := ⟨_, rfl⟩
  rw [← hQ9]
  have hl := lv_entry ([.ref x, .int v]) (n := 4) (Nat.le_of_ble_eq_true rfl)
  rw [lg_entry_eq]
  generalize (lg_sl ([.ref x, .int v]) ++ List.replicate (4 - (lg_sl ([.ref x, .int v])).length) Slot.unset).toArray = ls at hl ⊢
  have hl : lv_has ls 4 [(0, .ref x), (1, .int v)] := hl
  refine lv_aload_n hx hb dX10_done_0 rfl (lv_at hl 0 rfl) ?_
  refine va_get (D := (dC, dI)) (ci := 8) (v := .ref sh) (C := RX10) (T := TX10) (N := 13) hx hb hts inX10 hown hK hP 0 rfl rfl 0 (by decide) (hts _ mw_309) (fun _ h9 => h9) rfl dX10_done_1 ?_
  refine lv_iload_n hx hb dX10_done_4 rfl (lv_at hl 1 rfl) ?_
  have hPc := hP.sub (ws' := [(oc7 sh (.ref fa) (nI ft)), (oq fa cF 200 FA)]) [1, 2] rfl
  have hDc := hD.sub (ws' := [(oc7 sh (.ref fa) (nI ft)), (oq fa cF 200 FA)]) [1, 2] (by decide) rfl
  have hFc := va_free (wc := [(oc7 sh (.ref fa) (nI ft)), (oq fa cF 200 FA)]) hD hS hA [1, 2] rfl
  refine zcall (st1 := [.null]) (va_runV (As := [.int v]) (rest := []) ⟨hx, hb, hml, hown, hts⟩ (k_Sheet_find_n l dC dI cI cZ cF s.heap.size sh fa ft FA v (by omega) (by assumption)) (cwV 1 hts (zz_gV mw_498 mw_499 mw_500 mw_100 mc_yX8_find) rfl rfl rfl (by decide +kernel) ⟨Nat.le_of_ble_eq_true rfl, Nat.le_of_ble_eq_true rfl⟩) (zPV2 (q0 := 0) (ci := 7) hPc hDc hK hXN rfl rfl) rfl rfl hl.1 rfl (lv_room (Nat.le_of_ble_eq_true rfl)) dX10_done_5 ⟨Nat.le_of_ble_eq_true rfl, Nat.le_of_ble_eq_true rfl⟩) hS hFc hFc rfl (fun t H1 locs ht hB hk1 hS => ?_)
  obtain ⟨hP1, hD1⟩ := hB
  rw [ht] at hP1
  obtain ⟨hP, hD⟩ := va_join (wr := [(oc8 x (.ref sh) (.ref lw) (.ref ro) (.ref bq) (.ref bp) (.ref dq) (.ref dp) (.ref lv) (.ref sl) ds sd ul su)]) (w1 := [(oc7 sh (.ref fa) (nI ft)), (oq fa cF 200 FA)]) hP hD [1, 2] [0] rfl rfl (by decide) (by decide) hk1 hFc hP1 hD1
  clear hk1 hPc hDc hFc hP1 hD1 ht
  generalize H1 = H at hP hS ⊢
  have hP : va_P (dC, dI) classes [(oc8 x (.ref sh) (.ref lw) (.ref ro) (.ref bq) (.ref bp) (.ref dq) (.ref dp) (.ref lv) (.ref sl) ds sd ul su), (oc7 sh (.ref fa) (nI ft)), (oq fa cF 200 FA)] H := hP
  have hD : va_D A [(oc8 x (.ref sh) (.ref lw) (.ref ro) (.ref bq) (.ref bp) (.ref dq) (.ref dp) (.ref lv) (.ref sl) ds sd ul su), (oc7 sh (.ref fa) (nI ft)), (oq fa cF 200 FA)] := hD
  refine lv_astore_nN (lv' := [(2, .null), (0, .ref x), (1, .int v)]) hx hb dX10_done_8 rfl hl (by decide) rfl (fun ls hl => ?_)
  refine lv_aload_nN hx hb dX10_done_9 rfl (lv_at hl 0 rfl) ?_
  refine lv_ifnonnullN hx hb dX10_done_10 ?_
  refine lv_aload_n hx hb dX10_done_13 rfl (lv_at hl 1 rfl) ?_
  refine lv_iconst (v := 1) hx hb dX10_done_14 (by decide) ?_
  have hPc := hP.sub (ws' := [(oc8 x (.ref sh) (.ref lw) (.ref ro) (.ref bq) (.ref bp) (.ref dq) (.ref dp) (.ref lv) (.ref sl) ds sd ul su)]) [0] rfl
  have hDc := hD.sub (ws' := [(oc8 x (.ref sh) (.ref lw) (.ref ro) (.ref bq) (.ref bp) (.ref dq) (.ref dp) (.ref lv) (.ref sl) ds sd ul su)]) [0] (by decide) rfl
  have hFc := va_free (wc := [(oc8 x (.ref sh) (.ref lw) (.ref ro) (.ref bq) (.ref bp) (.ref dq) (.ref dp) (.ref lv) (.ref sl) ds sd ul su)]) hD hS hA [0] rfl
  refine zcall (st1 := [.int 0]) (va_runV (As := [.int 1]) (rest := []) ⟨hx, hb, hml, hown, hts⟩ (k_deny_1 l dC dI cI cZ cF H.size x sh lw ro bq bp dq dp lv sl sd ul su ds ) (cwV 1 hts (zz_gV mw_513 mw_515 mw_4 mw_99 mc_yX10_deny) rfl rfl rfl (by decide +kernel) ⟨Nat.le_of_ble_eq_true rfl, Nat.le_of_ble_eq_true rfl⟩) (zPV2 (q0 := 0) (ci := 8) hPc hDc hK hXN rfl rfl) rfl rfl hl.1 rfl (lv_room (Nat.le_of_ble_eq_true rfl)) dX10_done_15 ⟨Nat.le_of_ble_eq_true rfl, Nat.le_of_ble_eq_true rfl⟩) hS hFc hFc rfl (fun t H1 locs ht hB hk1 hS => ?_)
  obtain ⟨hP1, hD1⟩ := hB
  rw [ht] at hP1
  obtain ⟨hP, hD⟩ := va_join (wr := [(oc7 sh (.ref fa) (nI ft)), (oq fa cF 200 FA)]) (w1 := [(oc8 x (.ref sh) (.ref lw) (.ref ro) (.ref bq) (.ref bp) (.ref dq) (.ref dp) (.ref lv) (.ref sl) ds sd ul 1)]) hP hD [0] [1, 2] rfl rfl (by decide) (by decide) hk1 hFc hP1 hD1
  clear hk1 hPc hDc hFc hP1 hD1 ht
  generalize H1 = H at hP hS ⊢
  have hP := hP.sub (ws' := [(oc8 x (.ref sh) (.ref lw) (.ref ro) (.ref bq) (.ref bp) (.ref dq) (.ref dp) (.ref lv) (.ref sl) ds sd ul 1), (oc7 sh (.ref fa) (nI ft)), (oq fa cF 200 FA)]) [2, 0, 1] rfl
  have hD := hD.sub (ws' := [(oc8 x (.ref sh) (.ref lw) (.ref ro) (.ref bq) (.ref bp) (.ref dq) (.ref dp) (.ref lv) (.ref sl) ds sd ul 1), (oc7 sh (.ref fa) (nI ft)), (oq fa cF 200 FA)]) [2, 0, 1] (by decide) rfl
  have hP : va_P (dC, dI) classes [(oc8 x (.ref sh) (.ref lw) (.ref ro) (.ref bq) (.ref bp) (.ref dq) (.ref dp) (.ref lv) (.ref sl) ds sd ul 1), (oc7 sh (.ref fa) (nI ft)), (oq fa cF 200 FA)] H := hP
  have hD : va_D A [(oc8 x (.ref sh) (.ref lw) (.ref ro) (.ref bq) (.ref bp) (.ref dq) (.ref dp) (.ref lv) (.ref sl) ds sd ul 1), (oc7 sh (.ref fa) (nI ft)), (oq fa cF 200 FA)] := hD
  have hP9 := hP.sub (ws' := [(oc8 x (.ref sh) (.ref lw) (.ref ro) (.ref bq) (.ref bp) (.ref dq) (.ref dp) (.ref lv) (.ref sl) ds sd ul 1), (oc7 sh (.ref fa) (nI ft)), (oq fa cF 200 FA)]) [0, 1, 2] rfl
  have hD9 := hD.sub (ws' := [(oc8 x (.ref sh) (.ref lw) (.ref ro) (.ref bq) (.ref bp) (.ref dq) (.ref dp) (.ref lv) (.ref sl) ds sd ul 1), (oc7 sh (.ref fa) (nI ft)), (oq fa cF 200 FA)]) [0, 1, 2] (by decide) rfl
  rw [hQ9]
  exact W.zret (ty := .boolean) (v := 0) hx hb hr (rfl) (fun t ht hW => ⟨⟨rfl, ul, 1, by rw [ht]; exact hP9, hD9⟩, hS.F ht⟩) hS.2.2 dX10_done_18
set_option maxHeartbeats 4000000 in
set_option maxRecDepth 100000 in
theorem k_smooth_x (l : Launch) (dC : Nat → ClassId) (dI : Nat → Nat → Nat) (cI cZ cF : ClassId) (sz : Nat) (x : Nat) (sh : Nat) (lw : Nat) (ro : Nat) (bq : Nat) (bp : Nat) (dq : Nat) (dp : Nat) (lv : Nat) (sl : Nat) (sd : Int32) (ul : Int32) (su : Int32) (ds : Int32) (fa : Nat) (ft : Nat) (FA : Nat → Option Nat) (v : Int32) (h200 : ft ≤ 200) (hv : ¬ (0 ≤ v.toInt ∧ v.toInt < ((ft : Nat) : Int))) : Met l yX10_smooth (.code yX10_smooth cX10_smooth 4 (some .boolean) :: ws0) ({ frames := 2, cells := 0, slots := 0, locals := 42 } : Room) (va_Pc [.ref x, .int v] (zPre (dC, dI) classes (zTy cI cZ cF) [(oc8 x (.ref sh) (.ref lw) (.ref ro) (.ref bq) (.ref bp) (.ref dq) (.ref dp) (.ref lv) (.ref sl) ds sd ul su), (oc7 sh (.ref fa) (nI ft)), (oq fa cF 200 FA)] sz zXN)) (zQ (some (.int 0)) (fun t => ∃ (ul1 : Int32), ∃ (su1 : Int32), va_P (dC, dI) classes [(oc8 x (.ref sh) (.ref lw) (.ref ro) (.ref bq) (.ref bp) (.ref dq) (.ref dp) (.ref lv) (.ref sl) ds sd ul1 su1), (oc7 sh (.ref fa) (nI ft)), (oq fa cF 200 FA)] t.heap ∧ va_D (va_A [(oc8 x (.ref sh) (.ref lw) (.ref ro) (.ref bq) (.ref bp) (.ref dq) (.ref dp) (.ref lv) (.ref sl) ds sd ul su), (oc7 sh (.ref fa) (nI ft)), (oq fa cF 200 FA)] sz) [(oc8 x (.ref sh) (.ref lw) (.ref ro) (.ref bq) (.ref bp) (.ref dq) (.ref dp) (.ref lv) (.ref sl) ds sd ul1 su1), (oc7 sh (.ref fa) (nI ft)), (oq fa cF 200 FA)]) (va_A [(oc8 x (.ref sh) (.ref lw) (.ref ro) (.ref bq) (.ref bp) (.ref dq) (.ref dp) (.ref lv) (.ref sl) ds sd ul su), (oc7 sh (.ref fa) (nI ft)), (oq fa cF 200 FA)] sz)) 0 0 (va_A [(oc8 x (.ref sh) (.ref lw) (.ref ro) (.ref bq) (.ref bp) (.ref dq) (.ref dp) (.ref lv) (.ref sl) ds sd ul su), (oc7 sh (.ref fa) (nI ft)), (oq fa cF 200 FA)] sz) := by
  refine Met.ofW (cc := cX10_smooth) (maxL := 4) (ret := (some .boolean)) (by decide) rfl ?_
  intro p e s m args below meth c s₁ B hml hv
  obtain ⟨rfl, hsz, hP, hK, hD0, hXN⟩ := hv
  have hx := B.exec
  have hb := B.bytes
  have hr := B.returns
  have hts0 := atoms_spec (ws := .code yX10_smooth cX10_smooth 4 (some .boolean) :: ws0) B.pre
  have hts : ∀ w9 ∈ ws0, w9.before ([.ref x, .int v] : List Value).toArray s = true := fun w9 h => hts0 w9 (List.mem_cons_of_mem _ h)
  have hown : s.vm.findClass "ScaleShop" = some m.cls := findClass_of_methodNamed B.named
  have hlocks := B.notSynchronized
  subst hsz
  have hD := hD0.self (sz := s.heap.size)
  clear hD0
  generalize hAe : va_A [(oc8 x (.ref sh) (.ref lw) (.ref ro) (.ref bq) (.ref bp) (.ref dq) (.ref dp) (.ref lv) (.ref sl) ds sd ul su), (oc7 sh (.ref fa) (nI ft)), (oq fa cF 200 FA)] s.heap.size = A at hD ⊢
  have hA : ∀ q : Nat, s.heap.size ≤ q → A q := fun q h => by rw [← hAe]; exact Or.inr h
  clear hAe
  have hS : va_S A s.heap s.heap [] := va_S.rf
  have hP : va_P (dC, dI) classes [(oc8 x (.ref sh) (.ref lw) (.ref ro) (.ref bq) (.ref bp) (.ref dq) (.ref dp) (.ref lv) (.ref sl) ds sd ul su), (oc7 sh (.ref fa) (nI ft)), (oq fa cF 200 FA)] s.heap := hP
  obtain ⟨Q9, hQ9⟩ : ∃ Q9 : State → Prop, Q9 = MQ below (zQ (some (.int 0)) (fun t => ∃ (ul1 : Int32), ∃ (su1 : Int32), va_P (dC, dI) classes [(oc8 x (.ref sh) (.ref lw) (.ref ro) (.ref bq) (.ref bp) (.ref dq) (.ref dp) (.ref lv) (.ref sl) ds sd ul1 su1), (oc7 sh (.ref fa) (nI ft)), (oq fa cF 200 FA)] t.heap ∧ va_D A [(oc8 x (.ref sh) (.ref lw) (.ref ro) (.ref bq) (.ref bp) (.ref dq) (.ref dp) (.ref lv) (.ref sl) ds sd ul1 su1), (oc7 sh (.ref fa) (nI ft)), (oq fa cF 200 FA)]) A) ([.ref x, .int v] : List Value).toArray s 0 0 A := ⟨_, rfl⟩
  rw [← hQ9]
  have hl := lv_entry ([.ref x, .int v]) (n := 4) (Nat.le_of_ble_eq_true rfl)
  rw [lg_entry_eq]
  generalize (lg_sl ([.ref x, .int v]) ++ List.replicate (4 - (lg_sl ([.ref x, .int v])).length) Slot.unset).toArray = ls at hl ⊢
  have hl : lv_has ls 4 [(0, .ref x), (1, .int v)] := hl
  refine lv_aload_n hx hb dX10_smooth_0 rfl (lv_at hl 0 rfl) ?_
  refine va_get (D := (dC, dI)) (ci := 8) (v := .ref sh) (C := RX10) (T := TX10) (N := 13) hx hb hts inX10 hown hK hP 0 rfl rfl 0 (by decide) (hts _ mw_309) (fun _ h9 => h9) rfl dX10_smooth_1 ?_
  refine lv_iload_n hx hb dX10_smooth_4 rfl (lv_at hl 1 rfl) ?_
  have hPc := hP.sub (ws' := [(oc7 sh (.ref fa) (nI ft)), (oq fa cF 200 FA)]) [1, 2] rfl
  have hDc := hD.sub (ws' := [(oc7 sh (.ref fa) (nI ft)), (oq fa cF 200 FA)]) [1, 2] (by decide) rfl
  have hFc := va_free (wc := [(oc7 sh (.ref fa) (nI ft)), (oq fa cF 200 FA)]) hD hS hA [1, 2] rfl
  refine zcall (st1 := [.null]) (va_runV (As := [.int v]) (rest := []) ⟨hx, hb, hml, hown, hts⟩ (k_Sheet_find_n l dC dI cI cZ cF s.heap.size sh fa ft FA v (by omega) (by assumption)) (cwV 1 hts (zz_gV mw_498 mw_499 mw_500 mw_100 mc_yX8_find) rfl rfl rfl (by decide +kernel) ⟨Nat.le_of_ble_eq_true rfl, Nat.le_of_ble_eq_true rfl⟩) (zPV2 (q0 := 0) (ci := 7) hPc hDc hK hXN rfl rfl) rfl rfl hl.1 rfl (lv_room (Nat.le_of_ble_eq_true rfl)) dX10_smooth_5 ⟨Nat.le_of_ble_eq_true rfl, Nat.le_of_ble_eq_true rfl⟩) hS hFc hFc rfl (fun t H1 locs ht hB hk1 hS => ?_)
  obtain ⟨hP1, hD1⟩ := hB
  rw [ht] at hP1
  obtain ⟨hP, hD⟩ := va_join (wr := [(oc8 x (.ref sh) (.ref lw) (.ref ro) (.ref bq) (.ref bp) (.ref dq) (.ref dp) (.ref lv) (.ref sl) ds sd ul su)]) (w1 := [(oc7 sh (.ref fa) (nI ft)), (oq fa cF 200 FA)]) hP hD [1, 2] [0] rfl rfl (by decide) (by decide) hk1 hFc hP1 hD1
  clear hk1 hPc hDc hFc hP1 hD1 ht
  generalize H1 = H at hP hS ⊢
  have hP : va_P (dC, dI) classes [(oc8 x (.ref sh) (.ref lw) (.ref ro) (.ref bq) (.ref bp) (.ref dq) (.ref dp) (.ref lv) (.ref sl) ds sd ul su), (oc7 sh (.ref fa) (nI ft)), (oq fa cF 200 FA)] H := hP
  have hD : va_D A [(oc8 x (.ref sh) (.ref lw) (.ref ro) (.ref bq) (.ref bp) (.ref dq) (.ref dp) (.ref lv) (.ref sl) ds sd ul su), (oc7 sh (.ref fa) (nI ft)), (oq fa cF 200 FA)] := hD
  refine lv_astore_nN (lv' := [(2, .null), (0, .ref x), (1, .int v)]) hx hb dX10_smooth_8 rfl hl (by decide) rfl (fun ls hl => ?_)
  refine lv_aload_nN hx hb dX10_smooth_9 rfl (lv_at hl 0 rfl) ?_
  refine lv_ifnonnullN hx hb dX10_smooth_10 ?_
  refine lv_aload_n hx hb dX10_smooth_13 rfl (lv_at hl 1 rfl) ?_
  refine lv_iconst (v := 1) hx hb dX10_smooth_14 (by decide) ?_
  have hPc := hP.sub (ws' := [(oc8 x (.ref sh) (.ref lw) (.ref ro) (.ref bq) (.ref bp) (.ref dq) (.ref dp) (.ref lv) (.ref sl) ds sd ul su)]) [0] rfl
  have hDc := hD.sub (ws' := [(oc8 x (.ref sh) (.ref lw) (.ref ro) (.ref bq) (.ref bp) (.ref dq) (.ref dp) (.ref lv) (.ref sl) ds sd ul su)]) [0] (by decide) rfl
  have hFc := va_free (wc := [(oc8 x (.ref sh) (.ref lw) (.ref ro) (.ref bq) (.ref bp) (.ref dq) (.ref dp) (.ref lv) (.ref sl) ds sd ul su)]) hD hS hA [0] rfl
  refine zcall (st1 := [.int 0]) (va_runV (As := [.int 1]) (rest := []) ⟨hx, hb, hml, hown, hts⟩ (k_deny_1 l dC dI cI cZ cF H.size x sh lw ro bq bp dq dp lv sl sd ul su ds ) (cwV 1 hts (zz_gV mw_513 mw_515 mw_4 mw_99 mc_yX10_deny) rfl rfl rfl (by decide +kernel) ⟨Nat.le_of_ble_eq_true rfl, Nat.le_of_ble_eq_true rfl⟩) (zPV2 (q0 := 0) (ci := 8) hPc hDc hK hXN rfl rfl) rfl rfl hl.1 rfl (lv_room (Nat.le_of_ble_eq_true rfl)) dX10_smooth_15 ⟨Nat.le_of_ble_eq_true rfl, Nat.le_of_ble_eq_true rfl⟩) hS hFc hFc rfl (fun t H1 locs ht hB hk1 hS => ?_)
  obtain ⟨hP1, hD1⟩ := hB
  rw [ht] at hP1
  obtain ⟨hP, hD⟩ := va_join (wr := [(oc7 sh (.ref fa) (nI ft)), (oq fa cF 200 FA)]) (w1 := [(oc8 x (.ref sh) (.ref lw) (.ref ro) (.ref bq) (.ref bp) (.ref dq) (.ref dp) (.ref lv) (.ref sl) ds sd ul 1)]) hP hD [0] [1, 2] rfl rfl (by decide) (by decide) hk1 hFc hP1 hD1
  clear hk1 hPc hDc hFc hP1 hD1 ht
  generalize H1 = H at hP hS ⊢
  have hP := hP.sub (ws' := [(oc8 x (.ref sh) (.ref lw) (.ref ro) (.ref bq) (.ref bp) (.ref dq) (.ref dp) (.ref lv) (.ref sl) ds sd ul 1), (oc7 sh (.ref fa) (nI ft)), (oq fa cF 200 FA)]) [2, 0, 1] rfl
  have hD := hD.sub (ws' := [(oc8 x (.ref sh) (.ref lw) (.ref ro) (.ref bq) (.ref bp) (.ref dq) (.ref dp) (.ref lv) (.ref sl) ds sd ul 1), (oc7 sh (.ref fa) (nI ft)), (oq fa cF 200 FA)]) [2, 0, 1] (by decide) rfl
  have hP : va_P (dC, dI) classes [(oc8 x (.ref sh) (.ref lw) (.ref ro) (.ref bq) (.ref bp) (.ref dq) (.ref dp) (.ref lv) (.ref sl) ds sd ul 1), (oc7 sh (.ref fa) (nI ft)), (oq fa cF 200 FA)] H := hP
  have hD : va_D A [(oc8 x (.ref sh) (.ref lw) (.ref ro) (.ref bq) (.ref bp) (.ref dq) (.ref dp) (.ref lv) (.ref sl) ds sd ul 1), (oc7 sh (.ref fa) (nI ft)), (oq fa cF 200 FA)] := hD
  have hP9 := hP.sub (ws' := [(oc8 x (.ref sh) (.ref lw) (.ref ro) (.ref bq) (.ref bp) (.ref dq) (.ref dp) (.ref lv) (.ref sl) ds sd ul 1), (oc7 sh (.ref fa) (nI ft)), (oq fa cF 200 FA)]) [0, 1, 2] rfl
  have hD9 := hD.sub (ws' := [(oc8 x (.ref sh) (.ref lw) (.ref ro) (.ref bq) (.ref bp) (.ref dq) (.ref dp) (.ref lv) (.ref sl) ds sd ul 1), (oc7 sh (.ref fa) (nI ft)), (oq fa cF 200 FA)]) [0, 1, 2] (by decide) rfl
  rw [hQ9]
  exact W.zret (ty := .boolean) (v := 0) hx hb hr (rfl) (fun t ht hW => ⟨⟨rfl, ul, 1, by rw [ht]; exact hP9, hD9⟩, hS.F ht⟩) hS.2.2 dX10_smooth_18
set_option maxHeartbeats 4000000 in
set_option maxRecDepth 100000 in
theorem k_grow_x (l : Launch) (dC : Nat → ClassId) (dI : Nat → Nat → Nat) (cI cZ cF : ClassId) (sz : Nat) (x : Nat) (sh : Nat) (lw : Nat) (ro : Nat) (bq : Nat) (bp : Nat) (dq : Nat) (dp : Nat) (lv : Nat) (sl : Nat) (sd : Int32) (ul : Int32) (su : Int32) (ds : Int32) (fa : Nat) (ft : Nat) (FA : Nat → Option Nat) (v : Int32) (h200 : ft ≤ 200) (hv : ¬ (0 ≤ v.toInt ∧ v.toInt < ((ft : Nat) : Int))) : Met l yX10_grow (.code yX10_grow cX10_grow 4 (some .boolean) :: ws0) ({ frames := 2, cells := 0, slots := 0, locals := 42 } : Room) (va_Pc [.ref x, .int v] (zPre (dC, dI) classes (zTy cI cZ cF) [(oc8 x (.ref sh) (.ref lw) (.ref ro) (.ref bq) (.ref bp) (.ref dq) (.ref dp) (.ref lv) (.ref sl) ds sd ul su), (oc7 sh (.ref fa) (nI ft)), (oq fa cF 200 FA)] sz zXN)) (zQ (some (.int 0)) (fun t => ∃ (ul1 : Int32), ∃ (su1 : Int32), va_P (dC, dI) classes [(oc8 x (.ref sh) (.ref lw) (.ref ro) (.ref bq) (.ref bp) (.ref dq) (.ref dp) (.ref lv) (.ref sl) ds sd ul1 su1), (oc7 sh (.ref fa) (nI ft)), (oq fa cF 200 FA)] t.heap ∧ va_D (va_A [(oc8 x (.ref sh) (.ref lw) (.ref ro) (.ref bq) (.ref bp) (.ref dq) (.ref dp) (.ref lv) (.ref sl) ds sd ul su), (oc7 sh (.ref fa) (nI ft)), (oq fa cF 200 FA)] sz) [(oc8 x (.ref sh) (.ref lw) (.ref ro) (.ref bq) (.ref bp) (.ref dq) (.ref dp) (.ref lv) (.ref sl) ds sd ul1 su1), (oc7 sh (.ref fa) (nI ft)), (oq fa cF 200 FA)]) (va_A [(oc8 x (.ref sh) (.ref lw) (.ref ro) (.ref bq) (.ref bp) (.ref dq) (.ref dp) (.ref lv) (.ref sl) ds sd ul su), (oc7 sh (.ref fa) (nI ft)), (oq fa cF 200 FA)] sz)) 0 0 (va_A [(oc8 x (.ref sh) (.ref lw) (.ref ro) (.ref bq) (.ref bp) (.ref dq) (.ref dp) (.ref lv) (.ref sl) ds sd ul su), (oc7 sh (.ref fa) (nI ft)), (oq fa cF 200 FA)] sz) := by
  refine Met.ofW (cc := cX10_grow) (maxL := 4) (ret := (some .boolean)) (by decide) rfl ?_
  intro p e s m args below meth c s₁ B hml hv
  obtain ⟨rfl, hsz, hP, hK, hD0, hXN⟩ := hv
  have hx := B.exec
  have hb := B.bytes
  have hr := B.returns
  have hts0 := atoms_spec (ws := .code yX10_grow cX10_grow 4 (some .boolean) :: ws0) B.pre
  have hts : ∀ w9 ∈ ws0, w9.before ([.ref x, .int v] : List Value).toArray s = true := fun w9 h => hts0 w9 (List.mem_cons_of_mem _ h)
  have hown : s.vm.findClass "ScaleShop" = some m.cls := findClass_of_methodNamed B.named
  have hlocks := B.notSynchronized
  subst hsz
  have hD := hD0.self (sz := s.heap.size)
  clear hD0
  generalize hAe : va_A [(oc8 x (.ref sh) (.ref lw) (.ref ro) (.ref bq) (.ref bp) (.ref dq) (.ref dp) (.ref lv) (.ref sl) ds sd ul su), (oc7 sh (.ref fa) (nI ft)), (oq fa cF 200 FA)] s.heap.size = A at hD ⊢
  have hA : ∀ q : Nat, s.heap.size ≤ q → A q := fun q h => by rw [← hAe]; exact Or.inr h
  clear hAe
  have hS : va_S A s.heap s.heap [] := va_S.rf
  have hP : va_P (dC, dI) classes [(oc8 x (.ref sh) (.ref lw) (.ref ro) (.ref bq) (.ref bp) (.ref dq) (.ref dp) (.ref lv) (.ref sl) ds sd ul su), (oc7 sh (.ref fa) (nI ft)), (oq fa cF 200 FA)] s.heap := hP
  obtain ⟨Q9, hQ9⟩ : ∃ Q9 : State → Prop, Q9 = MQ below (zQ (some (.int 0)) (fun t => ∃ (ul1 : Int32), ∃ (su1 : Int32), va_P (dC, dI) classes [(oc8 x (.ref sh) (.ref lw) (.ref ro) (.ref bq) (.ref bp) (.ref dq) (.ref dp) (.ref lv) (.ref sl) ds sd ul1 su1), (oc7 sh (.ref fa) (nI ft)), (oq fa cF 200 FA)] t.heap ∧ va_D A [(oc8 x (.ref sh) (.ref lw) (.ref ro) (.ref bq) (.ref bp) (.ref dq) (.ref dp) (.ref lv) (.ref sl) ds sd ul1 su1), (oc7 sh (.ref fa) (nI ft)), (oq fa cF 200 FA)]) A) ([.ref x, .int v] : List Value).toArray s 0 0 A := ⟨_, rfl⟩
  rw [← hQ9]
  have hl := lv_entry ([.ref x, .int v]) (n := 4) (Nat.le_of_ble_eq_true rfl)
  rw [lg_entry_eq]
  generalize (lg_sl ([.ref x, .int v]) ++ List.replicate (4 - (lg_sl ([.ref x, .int v])).length) Slot.unset).toArray = ls at hl ⊢
  have hl : lv_has ls 4 [(0, .ref x), (1, .int v)] := hl
  refine lv_aload_n hx hb dX10_grow_0 rfl (lv_at hl 0 rfl) ?_
  refine va_get (D := (dC, dI)) (ci := 8) (v := .ref sh) (C := RX10) (T := TX10) (N := 13) hx hb hts inX10 hown hK hP 0 rfl rfl 0 (by decide) (hts _ mw_309) (fun _ h9 => h9) rfl dX10_grow_1 ?_
  refine lv_iload_n hx hb dX10_grow_4 rfl (lv_at hl 1 rfl) ?_
  have hPc := hP.sub (ws' := [(oc7 sh (.ref fa) (nI ft)), (oq fa cF 200 FA)]) [1, 2] rfl
  have hDc := hD.sub (ws' := [(oc7 sh (.ref fa) (nI ft)), (oq fa cF 200 FA)]) [1, 2] (by decide) rfl
  have hFc := va_free (wc := [(oc7 sh (.ref fa) (nI ft)), (oq fa cF 200 FA)]) hD hS hA [1, 2] rfl
  refine zcall (st1 := [.null]) (va_runV (As := [.int v]) (rest := []) ⟨hx, hb, hml, hown, hts⟩ (k_Sheet_find_n l dC dI cI cZ cF s.heap.size sh fa ft FA v (by omega) (by assumption)) (cwV 1 hts (zz_gV mw_498 mw_499 mw_500 mw_100 mc_yX8_find) rfl rfl rfl (by decide +kernel) ⟨Nat.le_of_ble_eq_true rfl, Nat.le_of_ble_eq_true rfl⟩) (zPV2 (q0 := 0) (ci := 7) hPc hDc hK hXN rfl rfl) rfl rfl hl.1 rfl (lv_room (Nat.le_of_ble_eq_true rfl)) dX10_grow_5 ⟨Nat.le_of_ble_eq_true rfl, Nat.le_of_ble_eq_true rfl⟩) hS hFc hFc rfl (fun t H1 locs ht hB hk1 hS => ?_)
  obtain ⟨hP1, hD1⟩ := hB
  rw [ht] at hP1
  obtain ⟨hP, hD⟩ := va_join (wr := [(oc8 x (.ref sh) (.ref lw) (.ref ro) (.ref bq) (.ref bp) (.ref dq) (.ref dp) (.ref lv) (.ref sl) ds sd ul su)]) (w1 := [(oc7 sh (.ref fa) (nI ft)), (oq fa cF 200 FA)]) hP hD [1, 2] [0] rfl rfl (by decide) (by decide) hk1 hFc hP1 hD1
  clear hk1 hPc hDc hFc hP1 hD1 ht
  generalize H1 = H at hP hS ⊢
  have hP : va_P (dC, dI) classes [(oc8 x (.ref sh) (.ref lw) (.ref ro) (.ref bq) (.ref bp) (.ref dq) (.ref dp) (.ref lv) (.ref sl) ds sd ul su), (oc7 sh (.ref fa) (nI ft)), (oq fa cF 200 FA)] H := hP
  have hD : va_D A [(oc8 x (.ref sh) (.ref lw) (.ref ro) (.ref bq) (.ref bp) (.ref dq) (.ref dp) (.ref lv) (.ref sl) ds sd ul su), (oc7 sh (.ref fa) (nI ft)), (oq fa cF 200 FA)] := hD
  refine lv_astore_nN (lv' := [(2, .null), (0, .ref x), (1, .int v)]) hx hb dX10_grow_8 rfl hl (by decide) rfl (fun ls hl => ?_)
  refine lv_aload_nN hx hb dX10_grow_9 rfl (lv_at hl 0 rfl) ?_
  refine lv_ifnonnullN hx hb dX10_grow_10 ?_
  refine lv_aload_n hx hb dX10_grow_13 rfl (lv_at hl 1 rfl) ?_
  refine lv_iconst (v := 1) hx hb dX10_grow_14 (by decide) ?_
  have hPc := hP.sub (ws' := [(oc8 x (.ref sh) (.ref lw) (.ref ro) (.ref bq) (.ref bp) (.ref dq) (.ref dp) (.ref lv) (.ref sl) ds sd ul su)]) [0] rfl
  have hDc := hD.sub (ws' := [(oc8 x (.ref sh) (.ref lw) (.ref ro) (.ref bq) (.ref bp) (.ref dq) (.ref dp) (.ref lv) (.ref sl) ds sd ul su)]) [0] (by decide) rfl
  have hFc := va_free (wc := [(oc8 x (.ref sh) (.ref lw) (.ref ro) (.ref bq) (.ref bp) (.ref dq) (.ref dp) (.ref lv) (.ref sl) ds sd ul su)]) hD hS hA [0] rfl
  refine zcall (st1 := [.int 0]) (va_runV (As := [.int 1]) (rest := []) ⟨hx, hb, hml, hown, hts⟩ (k_deny_1 l dC dI cI cZ cF H.size x sh lw ro bq bp dq dp lv sl sd ul su ds ) (cwV 1 hts (zz_gV mw_513 mw_515 mw_4 mw_99 mc_yX10_deny) rfl rfl rfl (by decide +kernel) ⟨Nat.le_of_ble_eq_true rfl, Nat.le_of_ble_eq_true rfl⟩) (zPV2 (q0 := 0) (ci := 8) hPc hDc hK hXN rfl rfl) rfl rfl hl.1 rfl (lv_room (Nat.le_of_ble_eq_true rfl)) dX10_grow_15 ⟨Nat.le_of_ble_eq_true rfl, Nat.le_of_ble_eq_true rfl⟩) hS hFc hFc rfl (fun t H1 locs ht hB hk1 hS => ?_)
  obtain ⟨hP1, hD1⟩ := hB
  rw [ht] at hP1
  obtain ⟨hP, hD⟩ := va_join (wr := [(oc7 sh (.ref fa) (nI ft)), (oq fa cF 200 FA)]) (w1 := [(oc8 x (.ref sh) (.ref lw) (.ref ro) (.ref bq) (.ref bp) (.ref dq) (.ref dp) (.ref lv) (.ref sl) ds sd ul 1)]) hP hD [0] [1, 2] rfl rfl (by decide) (by decide) hk1 hFc hP1 hD1
  clear hk1 hPc hDc hFc hP1 hD1 ht
  generalize H1 = H at hP hS ⊢
  have hP := hP.sub (ws' := [(oc8 x (.ref sh) (.ref lw) (.ref ro) (.ref bq) (.ref bp) (.ref dq) (.ref dp) (.ref lv) (.ref sl) ds sd ul 1), (oc7 sh (.ref fa) (nI ft)), (oq fa cF 200 FA)]) [2, 0, 1] rfl
  have hD := hD.sub (ws' := [(oc8 x (.ref sh) (.ref lw) (.ref ro) (.ref bq) (.ref bp) (.ref dq) (.ref dp) (.ref lv) (.ref sl) ds sd ul 1), (oc7 sh (.ref fa) (nI ft)), (oq fa cF 200 FA)]) [2, 0, 1] (by decide) rfl
  have hP : va_P (dC, dI) classes [(oc8 x (.ref sh) (.ref lw) (.ref ro) (.ref bq) (.ref bp) (.ref dq) (.ref dp) (.ref lv) (.ref sl) ds sd ul 1), (oc7 sh (.ref fa) (nI ft)), (oq fa cF 200 FA)] H := hP
  have hD : va_D A [(oc8 x (.ref sh) (.ref lw) (.ref ro) (.ref bq) (.ref bp) (.ref dq) (.ref dp) (.ref lv) (.ref sl) ds sd ul 1), (oc7 sh (.ref fa) (nI ft)), (oq fa cF 200 FA)] := hD
  have hP9 := hP.sub (ws' := [(oc8 x (.ref sh) (.ref lw) (.ref ro) (.ref bq) (.ref bp) (.ref dq) (.ref dp) (.ref lv) (.ref sl) ds sd ul 1), (oc7 sh (.ref fa) (nI ft)), (oq fa cF 200 FA)]) [0, 1, 2] rfl
  have hD9 := hD.sub (ws' := [(oc8 x (.ref sh) (.ref lw) (.ref ro) (.ref bq) (.ref bp) (.ref dq) (.ref dp) (.ref lv) (.ref sl) ds sd ul 1), (oc7 sh (.ref fa) (nI ft)), (oq fa cF 200 FA)]) [0, 1, 2] (by decide) rfl
  rw [hQ9]
  exact W.zret (ty := .boolean) (v := 0) hx hb hr (rfl) (fun t ht hW => ⟨⟨rfl, ul, 1, by rw [ht]; exact hP9, hD9⟩, hS.F ht⟩) hS.2.2 dX10_grow_18
set_option maxHeartbeats 4000000 in
set_option maxRecDepth 100000 in
theorem k_square_x (l : Launch) (dC : Nat → ClassId) (dI : Nat → Nat → Nat) (cI cZ cF : ClassId) (sz : Nat) (x : Nat) (sh : Nat) (lw : Nat) (ro : Nat) (bq : Nat) (bp : Nat) (dq : Nat) (dp : Nat) (lv : Nat) (sl : Nat) (sd : Int32) (ul : Int32) (su : Int32) (ds : Int32) (fa : Nat) (ft : Nat) (FA : Nat → Option Nat) (v : Int32) (ms : Int32) (h200 : ft ≤ 200) (hv : ¬ (0 ≤ v.toInt ∧ v.toInt < ((ft : Nat) : Int))) : Met l yX10_square (.code yX10_square cX10_square 5 (some .boolean) :: ws0) ({ frames := 2, cells := 0, slots := 0, locals := 42 } : Room) (va_Pc [.ref x, .int v, .int ms] (zPre (dC, dI) classes (zTy cI cZ cF) [(oc8 x (.ref sh) (.ref lw) (.ref ro) (.ref bq) (.ref bp) (.ref dq) (.ref dp) (.ref lv) (.ref sl) ds sd ul su), (oc7 sh (.ref fa) (nI ft)), (oq fa cF 200 FA)] sz zXN)) (zQ (some (.int 0)) (fun t => ∃ (ul1 : Int32), ∃ (su1 : Int32), va_P (dC, dI) classes [(oc8 x (.ref sh) (.ref lw) (.ref ro) (.ref bq) (.ref bp) (.ref dq) (.ref dp) (.ref lv) (.ref sl) ds sd ul1 su1), (oc7 sh (.ref fa) (nI ft)), (oq fa cF 200 FA)] t.heap ∧ va_D (va_A [(oc8 x (.ref sh) (.ref lw) (.ref ro) (.ref bq) (.ref bp) (.ref dq) (.ref dp) (.ref lv) (.ref sl) ds sd ul su), (oc7 sh (.ref fa) (nI ft)), (oq fa cF 200 FA)] sz) [(oc8 x (.ref sh) (.ref lw) (.ref ro) (.ref bq) (.ref bp) (.ref dq) (.ref dp) (.ref lv) (.ref sl) ds sd ul1 su1), (oc7 sh (.ref fa) (nI ft)), (oq fa cF 200 FA)]) (va_A [(oc8 x (.ref sh) (.ref lw) (.ref ro) (.ref bq) (.ref bp) (.ref dq) (.ref dp) (.ref lv) (.ref sl) ds sd ul su), (oc7 sh (.ref fa) (nI ft)), (oq fa cF 200 FA)] sz)) 0 0 (va_A [(oc8 x (.ref sh) (.ref lw) (.ref ro) (.ref bq) (.ref bp) (.ref dq) (.ref dp) (.ref lv) (.ref sl) ds sd ul su), (oc7 sh (.ref fa) (nI ft)), (oq fa cF 200 FA)] sz) := by
  refine Met.ofW (cc := cX10_square) (maxL := 5) (ret := (some .boolean)) (by decide) rfl ?_
  intro p e s m args below meth c s₁ B hml hv
  obtain ⟨rfl, hsz, hP, hK, hD0, hXN⟩ := hv
  have hx := B.exec
  have hb := B.bytes
  have hr := B.returns
  have hts0 := atoms_spec (ws := .code yX10_square cX10_square 5 (some .boolean) :: ws0) B.pre
  have hts : ∀ w9 ∈ ws0, w9.before ([.ref x, .int v, .int ms] : List Value).toArray s = true := fun w9 h => hts0 w9 (List.mem_cons_of_mem _ h)
  have hown : s.vm.findClass "ScaleShop" = some m.cls := findClass_of_methodNamed B.named
  have hlocks := B.notSynchronized
  subst hsz
  have hD := hD0.self (sz := s.heap.size)
  clear hD0
  generalize hAe : va_A [(oc8 x (.ref sh) (.ref lw) (.ref ro) (.ref bq) (.ref bp) (.ref dq) (.ref dp) (.ref lv) (.ref sl) ds sd ul su), (oc7 sh (.ref fa) (nI ft)), (oq fa cF 200 FA)] s.heap.size = A at hD ⊢
  have hA : ∀ q : Nat, s.heap.size ≤ q → A q := fun q h => by rw [← hAe]; exact Or.inr h
  clear hAe
  have hS : va_S A s.heap s.heap [] := va_S.rf
  have hP : va_P (dC, dI) classes [(oc8 x (.ref sh) (.ref lw) (.ref ro) (.ref bq) (.ref bp) (.ref dq) (.ref dp) (.ref lv) (.ref sl) ds sd ul su), (oc7 sh (.ref fa) (nI ft)), (oq fa cF 200 FA)] s.heap := hP
  obtain ⟨Q9, hQ9⟩ : ∃ Q9 : State → Prop, Q9 = MQ below (zQ (some (.int 0)) (fun t => ∃ (ul1 : Int32), ∃ (su1 : Int32), va_P (dC, dI) classes [(oc8 x (.ref sh) (.ref lw) (.ref ro) (.ref bq) (.ref bp) (.ref dq) (.ref dp) (.ref lv) (.ref sl) ds sd ul1 su1), (oc7 sh (.ref fa) (nI ft)), (oq fa cF 200 FA)] t.heap ∧ va_D A [(oc8 x (.ref sh) (.ref lw) (.ref ro) (.ref bq) (.ref bp) (.ref dq) (.ref dp) (.ref lv) (.ref sl) ds sd ul1 su1), (oc7 sh (.ref fa) (nI ft)), (oq fa cF 200 FA)]) A) ([.ref x, .int v, .int ms] : List Value).toArray s 0 0 A := ⟨_, rfl⟩
  rw [← hQ9]
  have hl := lv_entry ([.ref x, .int v, .int ms]) (n := 5) (Nat.le_of_ble_eq_true rfl)
  rw [lg_entry_eq]
  generalize (lg_sl ([.ref x, .int v, .int ms]) ++ List.replicate (5 - (lg_sl ([.ref x, .int v, .int ms])).length) Slot.unset).toArray = ls at hl ⊢
  have hl : lv_has ls 5 [(0, .ref x), (1, .int v), (2, .int ms)] := hl
  refine lv_aload_n hx hb dX10_square_0 rfl (lv_at hl 0 rfl) ?_
  refine va_get (D := (dC, dI)) (ci := 8) (v := .ref sh) (C := RX10) (T := TX10) (N := 13) hx hb hts inX10 hown hK hP 0 rfl rfl 0 (by decide) (hts _ mw_309) (fun _ h9 => h9) rfl dX10_square_1 ?_
  refine lv_iload_n hx hb dX10_square_4 rfl (lv_at hl 1 rfl) ?_
  have hPc := hP.sub (ws' := [(oc7 sh (.ref fa) (nI ft)), (oq fa cF 200 FA)]) [1, 2] rfl
  have hDc := hD.sub (ws' := [(oc7 sh (.ref fa) (nI ft)), (oq fa cF 200 FA)]) [1, 2] (by decide) rfl
  have hFc := va_free (wc := [(oc7 sh (.ref fa) (nI ft)), (oq fa cF 200 FA)]) hD hS hA [1, 2] rfl
  refine zcall (st1 := [.null]) (va_runV (As := [.int v]) (rest := []) ⟨hx, hb, hml, hown, hts⟩ (k_Sheet_find_n l dC dI cI cZ cF s.heap.size sh fa ft FA v (by omega) (by assumption)) (cwV 1 hts (zz_gV mw_498 mw_499 mw_500 mw_100 mc_yX8_find) rfl rfl rfl (by decide +kernel) ⟨Nat.le_of_ble_eq_true rfl, Nat.le_of_ble_eq_true rfl⟩) (zPV2 (q0 := 0) (ci := 7) hPc hDc hK hXN rfl rfl) rfl rfl hl.1 rfl (lv_room (Nat.le_of_ble_eq_true rfl)) dX10_square_5 ⟨Nat.le_of_ble_eq_true rfl, Nat.le_of_ble_eq_true rfl⟩) hS hFc hFc rfl (fun t H1 locs ht hB hk1 hS => ?_)
  obtain ⟨hP1, hD1⟩ := hB
  rw [ht] at hP1
  obtain ⟨hP, hD⟩ := va_join (wr := [(oc8 x (.ref sh) (.ref lw) (.ref ro) (.ref bq) (.ref bp) (.ref dq) (.ref dp) (.ref lv) (.ref sl) ds sd ul su)]) (w1 := [(oc7 sh (.ref fa) (nI ft)), (oq fa cF 200 FA)]) hP hD [1, 2] [0] rfl rfl (by decide) (by decide) hk1 hFc hP1 hD1
  clear hk1 hPc hDc hFc hP1 hD1 ht
  generalize H1 = H at hP hS ⊢
  have hP : va_P (dC, dI) classes [(oc8 x (.ref sh) (.ref lw) (.ref ro) (.ref bq) (.ref bp) (.ref dq) (.ref dp) (.ref lv) (.ref sl) ds sd ul su), (oc7 sh (.ref fa) (nI ft)), (oq fa cF 200 FA)] H := hP
  have hD : va_D A [(oc8 x (.ref sh) (.ref lw) (.ref ro) (.ref bq) (.ref bp) (.ref dq) (.ref dp) (.ref lv) (.ref sl) ds sd ul su), (oc7 sh (.ref fa) (nI ft)), (oq fa cF 200 FA)] := hD
  refine lv_astore_nN (lv' := [(3, .null), (0, .ref x), (1, .int v), (2, .int ms)]) hx hb dX10_square_8 rfl hl (by decide) rfl (fun ls hl => ?_)
  refine lv_aload_nN hx hb dX10_square_9 rfl (lv_at hl 0 rfl) ?_
  refine lv_ifnonnullN hx hb dX10_square_10 ?_
  refine lv_aload_n hx hb dX10_square_13 rfl (lv_at hl 1 rfl) ?_
  refine lv_iconst (v := 1) hx hb dX10_square_14 (by decide) ?_
  have hPc := hP.sub (ws' := [(oc8 x (.ref sh) (.ref lw) (.ref ro) (.ref bq) (.ref bp) (.ref dq) (.ref dp) (.ref lv) (.ref sl) ds sd ul su)]) [0] rfl
  have hDc := hD.sub (ws' := [(oc8 x (.ref sh) (.ref lw) (.ref ro) (.ref bq) (.ref bp) (.ref dq) (.ref dp) (.ref lv) (.ref sl) ds sd ul su)]) [0] (by decide) rfl
  have hFc := va_free (wc := [(oc8 x (.ref sh) (.ref lw) (.ref ro) (.ref bq) (.ref bp) (.ref dq) (.ref dp) (.ref lv) (.ref sl) ds sd ul su)]) hD hS hA [0] rfl
  refine zcall (st1 := [.int 0]) (va_runV (As := [.int 1]) (rest := []) ⟨hx, hb, hml, hown, hts⟩ (k_deny_1 l dC dI cI cZ cF H.size x sh lw ro bq bp dq dp lv sl sd ul su ds ) (cwV 1 hts (zz_gV mw_513 mw_515 mw_4 mw_99 mc_yX10_deny) rfl rfl rfl (by decide +kernel) ⟨Nat.le_of_ble_eq_true rfl, Nat.le_of_ble_eq_true rfl⟩) (zPV2 (q0 := 0) (ci := 8) hPc hDc hK hXN rfl rfl) rfl rfl hl.1 rfl (lv_room (Nat.le_of_ble_eq_true rfl)) dX10_square_15 ⟨Nat.le_of_ble_eq_true rfl, Nat.le_of_ble_eq_true rfl⟩) hS hFc hFc rfl (fun t H1 locs ht hB hk1 hS => ?_)
  obtain ⟨hP1, hD1⟩ := hB
  rw [ht] at hP1
  obtain ⟨hP, hD⟩ := va_join (wr := [(oc7 sh (.ref fa) (nI ft)), (oq fa cF 200 FA)]) (w1 := [(oc8 x (.ref sh) (.ref lw) (.ref ro) (.ref bq) (.ref bp) (.ref dq) (.ref dp) (.ref lv) (.ref sl) ds sd ul 1)]) hP hD [0] [1, 2] rfl rfl (by decide) (by decide) hk1 hFc hP1 hD1
  clear hk1 hPc hDc hFc hP1 hD1 ht
  generalize H1 = H at hP hS ⊢
  have hP := hP.sub (ws' := [(oc8 x (.ref sh) (.ref lw) (.ref ro) (.ref bq) (.ref bp) (.ref dq) (.ref dp) (.ref lv) (.ref sl) ds sd ul 1), (oc7 sh (.ref fa) (nI ft)), (oq fa cF 200 FA)]) [2, 0, 1] rfl
  have hD := hD.sub (ws' := [(oc8 x (.ref sh) (.ref lw) (.ref ro) (.ref bq) (.ref bp) (.ref dq) (.ref dp) (.ref lv) (.ref sl) ds sd ul 1), (oc7 sh (.ref fa) (nI ft)), (oq fa cF 200 FA)]) [2, 0, 1] (by decide) rfl
  have hP : va_P (dC, dI) classes [(oc8 x (.ref sh) (.ref lw) (.ref ro) (.ref bq) (.ref bp) (.ref dq) (.ref dp) (.ref lv) (.ref sl) ds sd ul 1), (oc7 sh (.ref fa) (nI ft)), (oq fa cF 200 FA)] H := hP
  have hD : va_D A [(oc8 x (.ref sh) (.ref lw) (.ref ro) (.ref bq) (.ref bp) (.ref dq) (.ref dp) (.ref lv) (.ref sl) ds sd ul 1), (oc7 sh (.ref fa) (nI ft)), (oq fa cF 200 FA)] := hD
  have hP9 := hP.sub (ws' := [(oc8 x (.ref sh) (.ref lw) (.ref ro) (.ref bq) (.ref bp) (.ref dq) (.ref dp) (.ref lv) (.ref sl) ds sd ul 1), (oc7 sh (.ref fa) (nI ft)), (oq fa cF 200 FA)]) [0, 1, 2] rfl
  have hD9 := hD.sub (ws' := [(oc8 x (.ref sh) (.ref lw) (.ref ro) (.ref bq) (.ref bp) (.ref dq) (.ref dp) (.ref lv) (.ref sl) ds sd ul 1), (oc7 sh (.ref fa) (nI ft)), (oq fa cF 200 FA)]) [0, 1, 2] (by decide) rfl
  rw [hQ9]
  exact W.zret (ty := .boolean) (v := 0) hx hb hr (rfl) (fun t ht hW => ⟨⟨rfl, ul, 1, by rw [ht]; exact hP9, hD9⟩, hS.F ht⟩) hS.2.2 dX10_square_18
set_option maxHeartbeats 4000000 in
set_option maxRecDepth 100000 in
theorem k_corner_x (l : Launch) (dC : Nat → ClassId) (dI : Nat → Nat → Nat) (cI cZ cF : ClassId) (sz : Nat) (x : Nat) (sh : Nat) (lw : Nat) (ro : Nat) (bq : Nat) (bp : Nat) (dq : Nat) (dp : Nat) (lv : Nat) (sl : Nat) (sd : Int32) (ul : Int32) (su : Int32) (ds : Int32) (fa : Nat) (ft : Nat) (FA : Nat → Option Nat) (v : Int32) (px : Int32) (py : Int32) (h200 : ft ≤ 200) (hv : ¬ (0 ≤ v.toInt ∧ v.toInt < ((ft : Nat) : Int))) : Met l yX10_corner (.code yX10_corner cX10_corner 6 (some .int) :: ws0) ({ frames := 1, cells := 0, slots := 0, locals := 21 } : Room) (va_Pc [.ref x, .int v, .int px, .int py] (zPre (dC, dI) classes (zTy cI cZ cF) [(oc8 x (.ref sh) (.ref lw) (.ref ro) (.ref bq) (.ref bp) (.ref dq) (.ref dp) (.ref lv) (.ref sl) ds sd ul su), (oc7 sh (.ref fa) (nI ft)), (oq fa cF 200 FA)] sz zXN)) (zQ (some (.int (-1))) (fun t => ∃ (ul1 : Int32), ∃ (su1 : Int32), va_P (dC, dI) classes [(oc8 x (.ref sh) (.ref lw) (.ref ro) (.ref bq) (.ref bp) (.ref dq) (.ref dp) (.ref lv) (.ref sl) ds sd ul1 su1), (oc7 sh (.ref fa) (nI ft)), (oq fa cF 200 FA)] t.heap ∧ va_D (va_A [(oc8 x (.ref sh) (.ref lw) (.ref ro) (.ref bq) (.ref bp) (.ref dq) (.ref dp) (.ref lv) (.ref sl) ds sd ul su), (oc7 sh (.ref fa) (nI ft)), (oq fa cF 200 FA)] sz) [(oc8 x (.ref sh) (.ref lw) (.ref ro) (.ref bq) (.ref bp) (.ref dq) (.ref dp) (.ref lv) (.ref sl) ds sd ul1 su1), (oc7 sh (.ref fa) (nI ft)), (oq fa cF 200 FA)]) (va_A [(oc8 x (.ref sh) (.ref lw) (.ref ro) (.ref bq) (.ref bp) (.ref dq) (.ref dp) (.ref lv) (.ref sl) ds sd ul su), (oc7 sh (.ref fa) (nI ft)), (oq fa cF 200 FA)] sz)) 0 0 (va_A [(oc8 x (.ref sh) (.ref lw) (.ref ro) (.ref bq) (.ref bp) (.ref dq) (.ref dp) (.ref lv) (.ref sl) ds sd ul su), (oc7 sh (.ref fa) (nI ft)), (oq fa cF 200 FA)] sz) := by
  refine Met.ofW (cc := cX10_corner) (maxL := 6) (ret := (some .int)) (by decide) rfl ?_
  intro p e s m args below meth c s₁ B hml hv
  obtain ⟨rfl, hsz, hP, hK, hD0, hXN⟩ := hv
  have hx := B.exec
  have hb := B.bytes
  have hr := B.returns
  have hts0 := atoms_spec (ws := .code yX10_corner cX10_corner 6 (some .int) :: ws0) B.pre
  have hts : ∀ w9 ∈ ws0, w9.before ([.ref x, .int v, .int px, .int py] : List Value).toArray s = true := fun w9 h => hts0 w9 (List.mem_cons_of_mem _ h)
  have hown : s.vm.findClass "ScaleShop" = some m.cls := findClass_of_methodNamed B.named
  have hlocks := B.notSynchronized
  subst hsz
  have hD := hD0.self (sz := s.heap.size)
  clear hD0
  generalize hAe : va_A [(oc8 x (.ref sh) (.ref lw) (.ref ro) (.ref bq) (.ref bp) (.ref dq) (.ref dp) (.ref lv) (.ref sl) ds sd ul su), (oc7 sh (.ref fa) (nI ft)), (oq fa cF 200 FA)] s.heap.size = A at hD ⊢
  have hA : ∀ q : Nat, s.heap.size ≤ q → A q := fun q h => by rw [← hAe]; exact Or.inr h
  clear hAe
  have hS : va_S A s.heap s.heap [] := va_S.rf
  have hP : va_P (dC, dI) classes [(oc8 x (.ref sh) (.ref lw) (.ref ro) (.ref bq) (.ref bp) (.ref dq) (.ref dp) (.ref lv) (.ref sl) ds sd ul su), (oc7 sh (.ref fa) (nI ft)), (oq fa cF 200 FA)] s.heap := hP
  obtain ⟨Q9, hQ9⟩ : ∃ Q9 : State → Prop, Q9 = MQ below (zQ (some (.int (-1))) (fun t => ∃ (ul1 : Int32), ∃ (su1 : Int32), va_P (dC, dI) classes [(oc8 x (.ref sh) (.ref lw) (.ref ro) (.ref bq) (.ref bp) (.ref dq) (.ref dp) (.ref lv) (.ref sl) ds sd ul1 su1), (oc7 sh (.ref fa) (nI ft)), (oq fa cF 200 FA)] t.heap ∧ va_D A [(oc8 x (.ref sh) (.ref lw) (.ref ro) (.ref bq) (.ref bp) (.ref dq) (.ref dp) (.ref lv) (.ref sl) ds sd ul1 su1), (oc7 sh (.ref fa) (nI ft)), (oq fa cF 200 FA)]) A) ([.ref x, .int v, .int px, .int py] : List Value).toArray s 0 0 A := ⟨_, rfl⟩
  rw [← hQ9]
  have hl := lv_entry ([.ref x, .int v, .int px, .int py]) (n := 6) (Nat.le_of_ble_eq_true rfl)
  rw [lg_entry_eq]
  generalize (lg_sl ([.ref x, .int v, .int px, .int py]) ++ List.replicate (6 - (lg_sl ([.ref x, .int v, .int px, .int py])).length) Slot.unset).toArray = ls at hl ⊢
  have hl : lv_has ls 6 [(0, .ref x), (1, .int v), (2, .int px), (3, .int py)] := hl
  refine lv_aload_n hx hb dX10_corner_0 rfl (lv_at hl 0 rfl) ?_
  refine va_get (D := (dC, dI)) (ci := 8) (v := .ref sh) (C := RX10) (T := TX10) (N := 13) hx hb hts inX10 hown hK hP 0 rfl rfl 0 (by decide) (hts _ mw_309) (fun _ h9 => h9) rfl dX10_corner_1 ?_
  refine lv_iload_n hx hb dX10_corner_4 rfl (lv_at hl 1 rfl) ?_
  have hPc := hP.sub (ws' := [(oc7 sh (.ref fa) (nI ft)), (oq fa cF 200 FA)]) [1, 2] rfl
  have hDc := hD.sub (ws' := [(oc7 sh (.ref fa) (nI ft)), (oq fa cF 200 FA)]) [1, 2] (by decide) rfl
  have hFc := va_free (wc := [(oc7 sh (.ref fa) (nI ft)), (oq fa cF 200 FA)]) hD hS hA [1, 2] rfl
  refine zcall (st1 := [.null]) (va_runV (As := [.int v]) (rest := []) ⟨hx, hb, hml, hown, hts⟩ (k_Sheet_find_n l dC dI cI cZ cF s.heap.size sh fa ft FA v (by omega) (by assumption)) (cwV 1 hts (zz_gV mw_498 mw_499 mw_500 mw_100 mc_yX8_find) rfl rfl rfl (by decide +kernel) ⟨Nat.le_of_ble_eq_true rfl, Nat.le_of_ble_eq_true rfl⟩) (zPV2 (q0 := 0) (ci := 7) hPc hDc hK hXN rfl rfl) rfl rfl hl.1 rfl (lv_room (Nat.le_of_ble_eq_true rfl)) dX10_corner_5 ⟨Nat.le_of_ble_eq_true rfl, Nat.le_of_ble_eq_true rfl⟩) hS hFc hFc rfl (fun t H1 locs ht hB hk1 hS => ?_)
  obtain ⟨hP1, hD1⟩ := hB
  rw [ht] at hP1
  obtain ⟨hP, hD⟩ := va_join (wr := [(oc8 x (.ref sh) (.ref lw) (.ref ro) (.ref bq) (.ref bp) (.ref dq) (.ref dp) (.ref lv) (.ref sl) ds sd ul su)]) (w1 := [(oc7 sh (.ref fa) (nI ft)), (oq fa cF 200 FA)]) hP hD [1, 2] [0] rfl rfl (by decide) (by decide) hk1 hFc hP1 hD1
  clear hk1 hPc hDc hFc hP1 hD1 ht
  generalize H1 = H at hP hS ⊢
  have hP : va_P (dC, dI) classes [(oc8 x (.ref sh) (.ref lw) (.ref ro) (.ref bq) (.ref bp) (.ref dq) (.ref dp) (.ref lv) (.ref sl) ds sd ul su), (oc7 sh (.ref fa) (nI ft)), (oq fa cF 200 FA)] H := hP
  have hD : va_D A [(oc8 x (.ref sh) (.ref lw) (.ref ro) (.ref bq) (.ref bp) (.ref dq) (.ref dp) (.ref lv) (.ref sl) ds sd ul su), (oc7 sh (.ref fa) (nI ft)), (oq fa cF 200 FA)] := hD
  refine lv_astoreN (lv' := [(4, .null), (0, .ref x), (1, .int v), (2, .int px), (3, .int py)]) hx hb dX10_corner_8 hl (by decide) rfl (fun ls hl => ?_)
  refine lv_aloadN hx hb dX10_corner_10 (lv_at hl 0 rfl) ?_
  refine lv_ifnonnullN hx hb dX10_corner_12 ?_
  refine lv_aload_n hx hb dX10_corner_15 rfl (lv_at hl 1 rfl) ?_
  refine lv_iconst (v := 1) hx hb dX10_corner_16 (by decide) ?_
  have hPc := hP.sub (ws' := [(oc8 x (.ref sh) (.ref lw) (.ref ro) (.ref bq) (.ref bp) (.ref dq) (.ref dp) (.ref lv) (.ref sl) ds sd ul su)]) [0] rfl
  have hDc := hD.sub (ws' := [(oc8 x (.ref sh) (.ref lw) (.ref ro) (.ref bq) (.ref bp) (.ref dq) (.ref dp) (.ref lv) (.ref sl) ds sd ul su)]) [0] (by decide) rfl
  have hFc := va_free (wc := [(oc8 x (.ref sh) (.ref lw) (.ref ro) (.ref bq) (.ref bp) (.ref dq) (.ref dp) (.ref lv) (.ref sl) ds sd ul su)]) hD hS hA [0] rfl
  refine zcall (st1 := [.int (-1)]) (va_runV (As := [.int 1]) (rest := []) ⟨hx, hb, hml, hown, hts⟩ (k_refuse_1 l dC dI cI cZ cF H.size x sh lw ro bq bp dq dp lv sl sd ul su ds ) (cwV 1 hts (zz_gV mw_356 mw_358 mw_0 mw_99 mc_yX10_refuse) rfl rfl rfl (by decide +kernel) ⟨Nat.le_of_ble_eq_true rfl, Nat.le_of_ble_eq_true rfl⟩) (zPV2 (q0 := 0) (ci := 8) hPc hDc hK hXN rfl rfl) rfl rfl hl.1 rfl (lv_room (Nat.le_of_ble_eq_true rfl)) dX10_corner_17 ⟨Nat.le_of_ble_eq_true rfl, Nat.le_of_ble_eq_true rfl⟩) hS hFc hFc rfl (fun t H1 locs ht hB hk1 hS => ?_)
  obtain ⟨hP1, hD1⟩ := hB
  rw [ht] at hP1
  obtain ⟨hP, hD⟩ := va_join (wr := [(oc7 sh (.ref fa) (nI ft)), (oq fa cF 200 FA)]) (w1 := [(oc8 x (.ref sh) (.ref lw) (.ref ro) (.ref bq) (.ref bp) (.ref dq) (.ref dp) (.ref lv) (.ref sl) ds sd ul 1)]) hP hD [0] [1, 2] rfl rfl (by decide) (by decide) hk1 hFc hP1 hD1
  clear hk1 hPc hDc hFc hP1 hD1 ht
  generalize H1 = H at hP hS ⊢
  have hP := hP.sub (ws' := [(oc8 x (.ref sh) (.ref lw) (.ref ro) (.ref bq) (.ref bp) (.ref dq) (.ref dp) (.ref lv) (.ref sl) ds sd ul 1), (oc7 sh (.ref fa) (nI ft)), (oq fa cF 200 FA)]) [2, 0, 1] rfl
  have hD := hD.sub (ws' := [(oc8 x (.ref sh) (.ref lw) (.ref ro) (.ref bq) (.ref bp) (.ref dq) (.ref dp) (.ref lv) (.ref sl) ds sd ul 1), (oc7 sh (.ref fa) (nI ft)), (oq fa cF 200 FA)]) [2, 0, 1] (by decide) rfl
  have hP : va_P (dC, dI) classes [(oc8 x (.ref sh) (.ref lw) (.ref ro) (.ref bq) (.ref bp) (.ref dq) (.ref dp) (.ref lv) (.ref sl) ds sd ul 1), (oc7 sh (.ref fa) (nI ft)), (oq fa cF 200 FA)] H := hP
  have hD : va_D A [(oc8 x (.ref sh) (.ref lw) (.ref ro) (.ref bq) (.ref bp) (.ref dq) (.ref dp) (.ref lv) (.ref sl) ds sd ul 1), (oc7 sh (.ref fa) (nI ft)), (oq fa cF 200 FA)] := hD
  have hP9 := hP.sub (ws' := [(oc8 x (.ref sh) (.ref lw) (.ref ro) (.ref bq) (.ref bp) (.ref dq) (.ref dp) (.ref lv) (.ref sl) ds sd ul 1), (oc7 sh (.ref fa) (nI ft)), (oq fa cF 200 FA)]) [0, 1, 2] rfl
  have hD9 := hD.sub (ws' := [(oc8 x (.ref sh) (.ref lw) (.ref ro) (.ref bq) (.ref bp) (.ref dq) (.ref dp) (.ref lv) (.ref sl) ds sd ul 1), (oc7 sh (.ref fa) (nI ft)), (oq fa cF 200 FA)]) [0, 1, 2] (by decide) rfl
  rw [hQ9]
  exact W.iret (v := (-1)) hx hb hr (fun t ht hW => ⟨⟨rfl, ul, 1, by rw [ht]; exact hP9, hD9⟩, hS.F ht⟩) hS.2.2 dX10_corner_20
set_option maxHeartbeats 4000000 in
set_option maxRecDepth 100000 in
theorem k_plainer_x (l : Launch) (dC : Nat → ClassId) (dI : Nat → Nat → Nat) (cI cZ cF : ClassId) (sz : Nat) (x : Nat) (sh : Nat) (lw : Nat) (ro : Nat) (bq : Nat) (bp : Nat) (dq : Nat) (dp : Nat) (lv : Nat) (sl : Nat) (sd : Int32) (ul : Int32) (su : Int32) (ds : Int32) (fa : Nat) (ft : Nat) (FA : Nat → Option Nat) (v : Int32) (lim : Int32) (h200 : ft ≤ 200) (hv : ¬ (0 ≤ v.toInt ∧ v.toInt < ((ft : Nat) : Int))) : Met l yX10_plainer (.code yX10_plainer cX10_plainer 5 (some .int) :: ws0) ({ frames := 1, cells := 0, slots := 0, locals := 21 } : Room) (va_Pc [.ref x, .int v, .int lim] (zPre (dC, dI) classes (zTy cI cZ cF) [(oc8 x (.ref sh) (.ref lw) (.ref ro) (.ref bq) (.ref bp) (.ref dq) (.ref dp) (.ref lv) (.ref sl) ds sd ul su), (oc7 sh (.ref fa) (nI ft)), (oq fa cF 200 FA)] sz zXN)) (zQ (some (.int (-1))) (fun t => ∃ (ul1 : Int32), ∃ (su1 : Int32), va_P (dC, dI) classes [(oc8 x (.ref sh) (.ref lw) (.ref ro) (.ref bq) (.ref bp) (.ref dq) (.ref dp) (.ref lv) (.ref sl) ds sd ul1 su1), (oc7 sh (.ref fa) (nI ft)), (oq fa cF 200 FA)] t.heap ∧ va_D (va_A [(oc8 x (.ref sh) (.ref lw) (.ref ro) (.ref bq) (.ref bp) (.ref dq) (.ref dp) (.ref lv) (.ref sl) ds sd ul su), (oc7 sh (.ref fa) (nI ft)), (oq fa cF 200 FA)] sz) [(oc8 x (.ref sh) (.ref lw) (.ref ro) (.ref bq) (.ref bp) (.ref dq) (.ref dp) (.ref lv) (.ref sl) ds sd ul1 su1), (oc7 sh (.ref fa) (nI ft)), (oq fa cF 200 FA)]) (va_A [(oc8 x (.ref sh) (.ref lw) (.ref ro) (.ref bq) (.ref bp) (.ref dq) (.ref dp) (.ref lv) (.ref sl) ds sd ul su), (oc7 sh (.ref fa) (nI ft)), (oq fa cF 200 FA)] sz)) 0 0 (va_A [(oc8 x (.ref sh) (.ref lw) (.ref ro) (.ref bq) (.ref bp) (.ref dq) (.ref dp) (.ref lv) (.ref sl) ds sd ul su), (oc7 sh (.ref fa) (nI ft)), (oq fa cF 200 FA)] sz) := by
  refine Met.ofW (cc := cX10_plainer) (maxL := 5) (ret := (some .int)) (by decide) rfl ?_
  intro p e s m args below meth c s₁ B hml hv
  obtain ⟨rfl, hsz, hP, hK, hD0, hXN⟩ := hv
  have hx := B.exec
  have hb := B.bytes
  have hr := B.returns
  have hts0 := atoms_spec (ws := .code yX10_plainer cX10_plainer 5 (some .int) :: ws0) B.pre
  have hts : ∀ w9 ∈ ws0, w9.before ([.ref x, .int v, .int lim] : List Value).toArray s = true := fun w9 h => hts0 w9 (List.mem_cons_of_mem _ h)
  have hown : s.vm.findClass "ScaleShop" = some m.cls := findClass_of_methodNamed B.named
  have hlocks := B.notSynchronized
  subst hsz
  have hD := hD0.self (sz := s.heap.size)
  clear hD0
  generalize hAe : va_A [(oc8 x (.ref sh) (.ref lw) (.ref ro) (.ref bq) (.ref bp) (.ref dq) (.ref dp) (.ref lv) (.ref sl) ds sd ul su), (oc7 sh (.ref fa) (nI ft)), (oq fa cF 200 FA)] s.heap.size = A at hD ⊢
  have hA : ∀ q : Nat, s.heap.size ≤ q → A q := fun q h => by rw [← hAe]; exact Or.inr h
  clear hAe
  have hS : va_S A s.heap s.heap [] := va_S.rf
  have hP : va_P (dC, dI) classes [(oc8 x (.ref sh) (.ref lw) (.ref ro) (.ref bq) (.ref bp) (.ref dq) (.ref dp) (.ref lv) (.ref sl) ds sd ul su), (oc7 sh (.ref fa) (nI ft)), (oq fa cF 200 FA)] s.heap := hP
  obtain ⟨Q9, hQ9⟩ : ∃ Q9 : State → Prop, Q9 = MQ below (zQ (some (.int (-1))) (fun t => ∃ (ul1 : Int32), ∃ (su1 : Int32), va_P (dC, dI) classes [(oc8 x (.ref sh) (.ref lw) (.ref ro) (.ref bq) (.ref bp) (.ref dq) (.ref dp) (.ref lv) (.ref sl) ds sd ul1 su1), (oc7 sh (.ref fa) (nI ft)), (oq fa cF 200 FA)] t.heap ∧ va_D A [(oc8 x (.ref sh) (.ref lw) (.ref ro) (.ref bq) (.ref bp) (.ref dq) (.ref dp) (.ref lv) (.ref sl) ds sd ul1 su1), (oc7 sh (.ref fa) (nI ft)), (oq fa cF 200 FA)]) A) ([.ref x, .int v, .int lim] : List Value).toArray s 0 0 A := ⟨_, rfl⟩
  rw [← hQ9]
  have hl := lv_entry ([.ref x, .int v, .int lim]) (n := 5) (Nat.le_of_ble_eq_true rfl)
  rw [lg_entry_eq]
  generalize (lg_sl ([.ref x, .int v, .int lim]) ++ List.replicate (5 - (lg_sl ([.ref x, .int v, .int lim])).length) Slot.unset).toArray = ls at hl ⊢
  have hl : lv_has ls 5 [(0, .ref x), (1, .int v), (2, .int lim)] := hl
  refine lv_aload_n hx hb dX10_plainer_0 rfl (lv_at hl 0 rfl) ?_
  refine va_get (D := (dC, dI)) (ci := 8) (v := .ref sh) (C := RX10) (T := TX10) (N := 13) hx hb hts inX10 hown hK hP 0 rfl rfl 0 (by decide) (hts _ mw_309) (fun _ h9 => h9) rfl dX10_plainer_1 ?_
  refine lv_iload_n hx hb dX10_plainer_4 rfl (lv_at hl 1 rfl) ?_
  have hPc := hP.sub (ws' := [(oc7 sh (.ref fa) (nI ft)), (oq fa cF 200 FA)]) [1, 2] rfl
  have hDc := hD.sub (ws' := [(oc7 sh (.ref fa) (nI ft)), (oq fa cF 200 FA)]) [1, 2] (by decide) rfl
  have hFc := va_free (wc := [(oc7 sh (.ref fa) (nI ft)), (oq fa cF 200 FA)]) hD hS hA [1, 2] rfl
  refine zcall (st1 := [.null]) (va_runV (As := [.int v]) (rest := []) ⟨hx, hb, hml, hown, hts⟩ (k_Sheet_find_n l dC dI cI cZ cF s.heap.size sh fa ft FA v (by omega) (by assumption)) (cwV 1 hts (zz_gV mw_498 mw_499 mw_500 mw_100 mc_yX8_find) rfl rfl rfl (by decide +kernel) ⟨Nat.le_of_ble_eq_true rfl, Nat.le_of_ble_eq_true rfl⟩) (zPV2 (q0 := 0) (ci := 7) hPc hDc hK hXN rfl rfl) rfl rfl hl.1 rfl (lv_room (Nat.le_of_ble_eq_true rfl)) dX10_plainer_5 ⟨Nat.le_of_ble_eq_true rfl, Nat.le_of_ble_eq_true rfl⟩) hS hFc hFc rfl (fun t H1 locs ht hB hk1 hS => ?_)
  obtain ⟨hP1, hD1⟩ := hB
  rw [ht] at hP1
  obtain ⟨hP, hD⟩ := va_join (wr := [(oc8 x (.ref sh) (.ref lw) (.ref ro) (.ref bq) (.ref bp) (.ref dq) (.ref dp) (.ref lv) (.ref sl) ds sd ul su)]) (w1 := [(oc7 sh (.ref fa) (nI ft)), (oq fa cF 200 FA)]) hP hD [1, 2] [0] rfl rfl (by decide) (by decide) hk1 hFc hP1 hD1
  clear hk1 hPc hDc hFc hP1 hD1 ht
  generalize H1 = H at hP hS ⊢
  have hP : va_P (dC, dI) classes [(oc8 x (.ref sh) (.ref lw) (.ref ro) (.ref bq) (.ref bp) (.ref dq) (.ref dp) (.ref lv) (.ref sl) ds sd ul su), (oc7 sh (.ref fa) (nI ft)), (oq fa cF 200 FA)] H := hP
  have hD : va_D A [(oc8 x (.ref sh) (.ref lw) (.ref ro) (.ref bq) (.ref bp) (.ref dq) (.ref dp) (.ref lv) (.ref sl) ds sd ul su), (oc7 sh (.ref fa) (nI ft)), (oq fa cF 200 FA)] := hD
  refine lv_astore_nN (lv' := [(3, .null), (0, .ref x), (1, .int v), (2, .int lim)]) hx hb dX10_plainer_8 rfl hl (by decide) rfl (fun ls hl => ?_)
  refine lv_aload_nN hx hb dX10_plainer_9 rfl (lv_at hl 0 rfl) ?_
  refine lv_ifnonnullN hx hb dX10_plainer_10 ?_
  refine lv_aload_n hx hb dX10_plainer_13 rfl (lv_at hl 1 rfl) ?_
  refine lv_iconst (v := 1) hx hb dX10_plainer_14 (by decide) ?_
  have hPc := hP.sub (ws' := [(oc8 x (.ref sh) (.ref lw) (.ref ro) (.ref bq) (.ref bp) (.ref dq) (.ref dp) (.ref lv) (.ref sl) ds sd ul su)]) [0] rfl
  have hDc := hD.sub (ws' := [(oc8 x (.ref sh) (.ref lw) (.ref ro) (.ref bq) (.ref bp) (.ref dq) (.ref dp) (.ref lv) (.ref sl) ds sd ul su)]) [0] (by decide) rfl
  have hFc := va_free (wc := [(oc8 x (.ref sh) (.ref lw) (.ref ro) (.ref bq) (.ref bp) (.ref dq) (.ref dp) (.ref lv) (.ref sl) ds sd ul su)]) hD hS hA [0] rfl
  refine zcall (st1 := [.int (-1)]) (va_runV (As := [.int 1]) (rest := []) ⟨hx, hb, hml, hown, hts⟩ (k_refuse_1 l dC dI cI cZ cF H.size x sh lw ro bq bp dq dp lv sl sd ul su ds ) (cwV 1 hts (zz_gV mw_356 mw_358 mw_0 mw_99 mc_yX10_refuse) rfl rfl rfl (by decide +kernel) ⟨Nat.le_of_ble_eq_true rfl, Nat.le_of_ble_eq_true rfl⟩) (zPV2 (q0 := 0) (ci := 8) hPc hDc hK hXN rfl rfl) rfl rfl hl.1 rfl (lv_room (Nat.le_of_ble_eq_true rfl)) dX10_plainer_15 ⟨Nat.le_of_ble_eq_true rfl, Nat.le_of_ble_eq_true rfl⟩) hS hFc hFc rfl (fun t H1 locs ht hB hk1 hS => ?_)
  obtain ⟨hP1, hD1⟩ := hB
  rw [ht] at hP1
  obtain ⟨hP, hD⟩ := va_join (wr := [(oc7 sh (.ref fa) (nI ft)), (oq fa cF 200 FA)]) (w1 := [(oc8 x (.ref sh) (.ref lw) (.ref ro) (.ref bq) (.ref bp) (.ref dq) (.ref dp) (.ref lv) (.ref sl) ds sd ul 1)]) hP hD [0] [1, 2] rfl rfl (by decide) (by decide) hk1 hFc hP1 hD1
  clear hk1 hPc hDc hFc hP1 hD1 ht
  generalize H1 = H at hP hS ⊢
  have hP := hP.sub (ws' := [(oc8 x (.ref sh) (.ref lw) (.ref ro) (.ref bq) (.ref bp) (.ref dq) (.ref dp) (.ref lv) (.ref sl) ds sd ul 1), (oc7 sh (.ref fa) (nI ft)), (oq fa cF 200 FA)]) [2, 0, 1] rfl
  have hD := hD.sub (ws' := [(oc8 x (.ref sh) (.ref lw) (.ref ro) (.ref bq) (.ref bp) (.ref dq) (.ref dp) (.ref lv) (.ref sl) ds sd ul 1), (oc7 sh (.ref fa) (nI ft)), (oq fa cF 200 FA)]) [2, 0, 1] (by decide) rfl
  have hP : va_P (dC, dI) classes [(oc8 x (.ref sh) (.ref lw) (.ref ro) (.ref bq) (.ref bp) (.ref dq) (.ref dp) (.ref lv) (.ref sl) ds sd ul 1), (oc7 sh (.ref fa) (nI ft)), (oq fa cF 200 FA)] H := hP
  have hD : va_D A [(oc8 x (.ref sh) (.ref lw) (.ref ro) (.ref bq) (.ref bp) (.ref dq) (.ref dp) (.ref lv) (.ref sl) ds sd ul 1), (oc7 sh (.ref fa) (nI ft)), (oq fa cF 200 FA)] := hD
  have hP9 := hP.sub (ws' := [(oc8 x (.ref sh) (.ref lw) (.ref ro) (.ref bq) (.ref bp) (.ref dq) (.ref dp) (.ref lv) (.ref sl) ds sd ul 1), (oc7 sh (.ref fa) (nI ft)), (oq fa cF 200 FA)]) [0, 1, 2] rfl
  have hD9 := hD.sub (ws' := [(oc8 x (.ref sh) (.ref lw) (.ref ro) (.ref bq) (.ref bp) (.ref dq) (.ref dp) (.ref lv) (.ref sl) ds sd ul 1), (oc7 sh (.ref fa) (nI ft)), (oq fa cF 200 FA)]) [0, 1, 2] (by decide) rfl
  rw [hQ9]
  exact W.iret (v := (-1)) hx hb hr (fun t ht hW => ⟨⟨rfl, ul, 1, by rw [ht]; exact hP9, hD9⟩, hS.F ht⟩) hS.2.2 dX10_plainer_18
set_option maxHeartbeats 4000000 in
set_option maxRecDepth 100000 in
theorem k_Feature_bends_v (l : Launch) (dC : Nat → ClassId) (dI : Nat → Nat → Nat) (cI cZ cF : ClassId) (sz : Nat) (fe : Nat) (lo : Nat) (rk9 : Int32) (wd9 : Int32) (tw9 : Int32) (pa9 : Int32) (pb9 : Int32) (lk : Nat) (kd9 : Int32) (st9 : Int32) (gb9 : Int32) (jt9 : Int32) (we9 : Int32) (fm9 : Value) (rw9 : Value) : Met l yX2_bends (.code yX2_bends cX2_bends 1 (some .boolean) :: ws0) ({ frames := 0, cells := 0, slots := 0, locals := 0 } : Room) (va_Pc [.ref fe] (zPre (dC, dI) classes (zTy cI cZ cF) [(oc1 fe rk9 wd9 tw9 pa9 pb9 (.ref lo) (.ref lk) fm9), (oc4 lk kd9 st9 rw9 gb9 jt9 we9)] sz zXN)) (zQ (some (.int (pI (1 ≤ kd9.toInt ∧ kd9.toInt ≤ 5)))) (fun t => va_P (dC, dI) classes [(oc1 fe rk9 wd9 tw9 pa9 pb9 (.ref lo) (.ref lk) fm9), (oc4 lk kd9 st9 rw9 gb9 jt9 we9)] t.heap ∧ va_D (va_A [(oc1 fe rk9 wd9 tw9 pa9 pb9 (.ref lo) (.ref lk) fm9), (oc4 lk kd9 st9 rw9 gb9 jt9 we9)] sz) [(oc1 fe rk9 wd9 tw9 pa9 pb9 (.ref lo) (.ref lk) fm9), (oc4 lk kd9 st9 rw9 gb9 jt9 we9)]) (va_A [(oc1 fe rk9 wd9 tw9 pa9 pb9 (.ref lo) (.ref lk) fm9), (oc4 lk kd9 st9 rw9 gb9 jt9 we9)] sz)) 0 0 (va_A [(oc1 fe rk9 wd9 tw9 pa9 pb9 (.ref lo) (.ref lk) fm9), (oc4 lk kd9 st9 rw9 gb9 jt9 we9)] sz) := by
  refine Met.ofW (cc := cX2_bends) (maxL := 1) (ret := (some .boolean)) (by decide) rfl ?_
  intro p e s m args below meth c s₁ B hml hv
  obtain ⟨rfl, hsz, hP, hK, hD0, hXN⟩ := hv
  have hx := B.exec
  have hb := B.bytes
  have hr := B.returns
  have hts0 := atoms_spec (ws := .code yX2_bends cX2_bends 1 (some .boolean) :: ws0) B.pre
  have hts : ∀ w9 ∈ ws0, w9.before ([.ref fe] : List Value).toArray s = true := fun w9 h => hts0 w9 (List.mem_cons_of_mem _ h)
  have hown : s.vm.findClass "ScaleShop$Feature" = some m.cls := findClass_of_methodNamed B.named
  have hlocks := B.notSynchronized
  subst hsz
  have hD := hD0.self (sz := s.heap.size)
  clear hD0
  generalize hAe : va_A [(oc1 fe rk9 wd9 tw9 pa9 pb9 (.ref lo) (.ref lk) fm9), (oc4 lk kd9 st9 rw9 gb9 jt9 we9)] s.heap.size = A at hD ⊢
  have hA : ∀ q : Nat, s.heap.size ≤ q → A q := fun q h => by rw [← hAe]; exact Or.inr h
  clear hAe
  have hS : va_S A s.heap s.heap [] := va_S.rf
  have hP : va_P (dC, dI) classes [(oc1 fe rk9 wd9 tw9 pa9 pb9 (.ref lo) (.ref lk) fm9), (oc4 lk kd9 st9 rw9 gb9 jt9 we9)] s.heap := hP
  obtain ⟨Q9, hQ9⟩ : ∃ Q9 : State → Prop, Q9 = MQ below (zQ (some (.int (pI (1 ≤ kd9.toInt ∧ kd9.toInt ≤ 5)))) (fun t => va_P (dC, dI) classes [(oc1 fe rk9 wd9 tw9 pa9 pb9 (.ref lo) (.ref lk) fm9), (oc4 lk kd9 st9 rw9 gb9 jt9 we9)] t.heap ∧ va_D A [(oc1 fe rk9 wd9 tw9 pa9 pb9 (.ref lo) (.ref lk) fm9), (oc4 lk kd9 st9 rw9 gb9 jt9 we9)]) A) ([.ref fe] : List Value).toArray s 0 0 A := ⟨_, rfl⟩
  rw [← hQ9]
  have hl := lv_entry ([.ref fe]) (n := 1) (Nat.le_of_ble_eq_true rfl)
  rw [lg_entry_eq]
  generalize (lg_sl ([.ref fe]) ++ List.replicate (1 - (lg_sl ([.ref fe])).length) Slot.unset).toArray = ls at hl ⊢
  have hl : lv_has ls 1 [(0, .ref fe)] := hl
  refine lv_aload_n hx hb dX2_bends_0 rfl (lv_at hl 0 rfl) ?_
  refine va_get (D := (dC, dI)) (ci := 1) (v := .ref lk) (C := RX2) (T := TX2) (N := 8) hx hb hts inX2 hown hK hP 0 rfl rfl 6 (by decide) (hts _ mw_429) (fun _ h9 => h9) rfl dX2_bends_1 ?_
  refine va_get (D := (dC, dI)) (ci := 4) (v := .int kd9) (C := RX5) (T := TX5) (N := 6) hx hb hts inX5 hown hK hP 1 rfl rfl 0 (by decide) (hts _ mw_379) (fun _ h9 => h9) rfl dX2_bends_4 ?_
  refine lv_if_le (tgt := 25) hx hb dX2_bends_7 (by decide) (fun c_1 => ?_) (fun c_1 => ?_)
  · have c_1 : kd9.toInt ≤ 0 := zc_le rfl (by decide) c_1
    refine lv_iconst (v := 0) hx hb dX2_bends_25 (by decide) ?_
    have hP9 := hP.sub (ws' := [(oc1 fe rk9 wd9 tw9 pa9 pb9 (.ref lo) (.ref lk) fm9), (oc4 lk kd9 st9 rw9 gb9 jt9 we9)]) [0, 1] rfl
    have hD9 := hD.sub (ws' := [(oc1 fe rk9 wd9 tw9 pa9 pb9 (.ref lo) (.ref lk) fm9), (oc4 lk kd9 st9 rw9 gb9 jt9 we9)]) [0, 1] (by decide) rfl
    rw [hQ9]
    exact W.zret (ty := .boolean) (v := 0) hx hb hr (rfl) (fun t ht hW => ⟨⟨congrArg (fun z => Outcome.returned (some (Value.int z))) (show (0 : Int32) = pI (1 ≤ kd9.toInt ∧ kd9.toInt ≤ 5) from (zp_f (by omega)).symm), by rw [ht]; exact hP9, hD9⟩, hS.F ht⟩) hS.2.2 dX2_bends_26
  · have c_1 : 0 < kd9.toInt := zc_nle rfl (by decide) c_1
    refine lv_aload_n hx hb dX2_bends_10 rfl (lv_at hl 0 rfl) ?_
    refine va_get (D := (dC, dI)) (ci := 1) (v := .ref lk) (C := RX2) (T := TX2) (N := 8) hx hb hts inX2 hown hK hP 0 rfl rfl 6 (by decide) (hts _ mw_429) (fun _ h9 => h9) rfl dX2_bends_11 ?_
    refine va_get (D := (dC, dI)) (ci := 4) (v := .int kd9) (C := RX5) (T := TX5) (N := 6) hx hb hts inX5 hown hK hP 1 rfl rfl 0 (by decide) (hts _ mw_379) (fun _ h9 => h9) rfl dX2_bends_14 ?_
    refine lv_iconst (v := 5) hx hb dX2_bends_17 (by decide) ?_
    refine lv_icmp_gt (tgt := 25) hx hb dX2_bends_18 (by decide) (fun c_2 => ?_) (fun c_2 => ?_)
    · have c_2 : 5 < kd9.toInt := zc_lt (by decide) rfl c_2
      refine lv_iconst (v := 0) hx hb dX2_bends_25 (by decide) ?_
      have hP9 := hP.sub (ws' := [(oc1 fe rk9 wd9 tw9 pa9 pb9 (.ref lo) (.ref lk) fm9), (oc4 lk kd9 st9 rw9 gb9 jt9 we9)]) [0, 1] rfl
      have hD9 := hD.sub (ws' := [(oc1 fe rk9 wd9 tw9 pa9 pb9 (.ref lo) (.ref lk) fm9), (oc4 lk kd9 st9 rw9 gb9 jt9 we9)]) [0, 1] (by decide) rfl
      rw [hQ9]
      exact W.zret (ty := .boolean) (v := 0) hx hb hr (rfl) (fun t ht hW => ⟨⟨congrArg (fun z => Outcome.returned (some (Value.int z))) (show (0 : Int32) = pI (1 ≤ kd9.toInt ∧ kd9.toInt ≤ 5) from (zp_f (by omega)).symm), by rw [ht]; exact hP9, hD9⟩, hS.F ht⟩) hS.2.2 dX2_bends_26
    · have c_2 : kd9.toInt ≤ 5 := zc_nlt (by decide) rfl c_2
      refine lv_iconst (v := 1) hx hb dX2_bends_21 (by decide) ?_
      refine lv_goto (tgt := 26) hx hb dX2_bends_22 (by decide) ?_
      have hP9 := hP.sub (ws' := [(oc1 fe rk9 wd9 tw9 pa9 pb9 (.ref lo) (.ref lk) fm9), (oc4 lk kd9 st9 rw9 gb9 jt9 we9)]) [0, 1] rfl
      have hD9 := hD.sub (ws' := [(oc1 fe rk9 wd9 tw9 pa9 pb9 (.ref lo) (.ref lk) fm9), (oc4 lk kd9 st9 rw9 gb9 jt9 we9)]) [0, 1] (by decide) rfl
      rw [hQ9]
      exact W.zret (ty := .boolean) (v := 1) hx hb hr (rfl) (fun t ht hW => ⟨⟨congrArg (fun z => Outcome.returned (some (Value.int z))) (show (1 : Int32) = pI (1 ≤ kd9.toInt ∧ kd9.toInt ≤ 5) from (zp_t (by omega)).symm), by rw [ht]; exact hP9, hD9⟩, hS.F ht⟩) hS.2.2 dX2_bends_26
set_option maxHeartbeats 4000000 in
set_option maxRecDepth 100000 in
theorem k_Feature_mayHaveCorner_vr (l : Launch) (dC : Nat → ClassId) (dI : Nat → Nat → Nat) (cI cZ cF : ClassId) (sz : Nat) (fe : Nat) (lo : Nat) (rk9 : Int32) (wd9 : Int32) (tw9 : Int32) (pa9 : Int32) (pb9 : Int32) (lk : Nat) (kd9 : Int32) (st9 : Int32) (gb9 : Int32) (jt9 : Int32) (we9 : Int32) (r : Nat) (rx : Nat) (ry : Nat) (n : Nat) (fm9 : Value) (kv : Int32) (rg : Int32) (hn : n ≤ 1000) : Met l yX2_mayHaveCorner (.code yX2_mayHaveCorner cX2_mayHaveCorner 2 (some .boolean) :: ws0) ({ frames := 0, cells := 0, slots := 0, locals := 0 } : Room) (va_Pc [.ref fe, .int kv] (zPre (dC, dI) classes (zTy cI cZ cF) [(oc1 fe rk9 wd9 tw9 pa9 pb9 (.ref lo) (.ref lk) fm9), (oc4 lk kd9 st9 (.ref r) gb9 jt9 we9), (oc6 r (.ref rx) (.ref ry) (nI n) rg)] sz zXN)) (zQ (some (.int (pI (0 ≤ kv.toInt ∧ kv.toInt < ((n : Nat) : Int))))) (fun t => va_P (dC, dI) classes [(oc1 fe rk9 wd9 tw9 pa9 pb9 (.ref lo) (.ref lk) fm9), (oc4 lk kd9 st9 (.ref r) gb9 jt9 we9), (oc6 r (.ref rx) (.ref ry) (nI n) rg)] t.heap ∧ va_D (va_A [(oc1 fe rk9 wd9 tw9 pa9 pb9 (.ref lo) (.ref lk) fm9), (oc4 lk kd9 st9 (.ref r) gb9 jt9 we9), (oc6 r (.ref rx) (.ref ry) (nI n) rg)] sz) [(oc1 fe rk9 wd9 tw9 pa9 pb9 (.ref lo) (.ref lk) fm9), (oc4 lk kd9 st9 (.ref r) gb9 jt9 we9), (oc6 r (.ref rx) (.ref ry) (nI n) rg)]) (va_A [(oc1 fe rk9 wd9 tw9 pa9 pb9 (.ref lo) (.ref lk) fm9), (oc4 lk kd9 st9 (.ref r) gb9 jt9 we9), (oc6 r (.ref rx) (.ref ry) (nI n) rg)] sz)) 0 0 (va_A [(oc1 fe rk9 wd9 tw9 pa9 pb9 (.ref lo) (.ref lk) fm9), (oc4 lk kd9 st9 (.ref r) gb9 jt9 we9), (oc6 r (.ref rx) (.ref ry) (nI n) rg)] sz) := by
  refine Met.ofW (cc := cX2_mayHaveCorner) (maxL := 2) (ret := (some .boolean)) (by decide) rfl ?_
  intro p e s m args below meth c s₁ B hml hv
  obtain ⟨rfl, hsz, hP, hK, hD0, hXN⟩ := hv
  have hx := B.exec
  have hb := B.bytes
  have hr := B.returns
  have hts0 := atoms_spec (ws := .code yX2_mayHaveCorner cX2_mayHaveCorner 2 (some .boolean) :: ws0) B.pre
  have hts : ∀ w9 ∈ ws0, w9.before ([.ref fe, .int kv] : List Value).toArray s = true := fun w9 h => hts0 w9 (List.mem_cons_of_mem _ h)
  have hown : s.vm.findClass "ScaleShop$Feature" = some m.cls := findClass_of_methodNamed B.named
  have hlocks := B.notSynchronized
  subst hsz
  have hD := hD0.self (sz := s.heap.size)
  clear hD0
  generalize hAe : va_A [(oc1 fe rk9 wd9 tw9 pa9 pb9 (.ref lo) (.ref lk) fm9), (oc4 lk kd9 st9 (.ref r) gb9 jt9 we9), (oc6 r (.ref rx) (.ref ry) (nI n) rg)] s.heap.size = A at hD ⊢
  have hA : ∀ q : Nat, s.heap.size ≤ q → A q := fun q h => by rw [← hAe]; exact Or.inr h
  clear hAe
  have hS : va_S A s.heap s.heap [] := va_S.rf
  have hP : va_P (dC, dI) classes [(oc1 fe rk9 wd9 tw9 pa9 pb9 (.ref lo) (.ref lk) fm9), (oc4 lk kd9 st9 (.ref r) gb9 jt9 we9), (oc6 r (.ref rx) (.ref ry) (nI n) rg)] s.heap := hP
  obtain ⟨Q9, hQ9⟩ : ∃ Q9 : State → Prop, Q9 = MQ below (zQ (some (.int (pI (0 ≤ kv.toInt ∧ kv.toInt < ((n : Nat) : Int))))) (fun t => va_P (dC, dI) classes [(oc1 fe rk9 wd9 tw9 pa9 pb9 (.ref lo) (.ref lk) fm9), (oc4 lk kd9 st9 (.ref r) gb9 jt9 we9), (oc6 r (.ref rx) (.ref ry) (nI n) rg)] t.heap ∧ va_D A [(oc1 fe rk9 wd9 tw9 pa9 pb9 (.ref lo) (.ref lk) fm9), (oc4 lk kd9 st9 (.ref r) gb9 jt9 we9), (oc6 r (.ref rx) (.ref ry) (nI n) rg)]) A) ([.ref fe, .int kv] : List Value).toArray s 0 0 A := ⟨_, rfl⟩
  rw [← hQ9]
  have hl := lv_entry ([.ref fe, .int kv]) (n := 2) (Nat.le_of_ble_eq_true rfl)
  rw [lg_entry_eq]
  generalize (lg_sl ([.ref fe, .int kv]) ++ List.replicate (2 - (lg_sl ([.ref fe, .int kv])).length) Slot.unset).toArray = ls at hl ⊢
  have hl : lv_has ls 2 [(0, .ref fe), (1, .int kv)] := hl
  refine lv_iload_n hx hb dX2_mayHaveCorner_0 rfl (lv_at hl 1 rfl) ?_
  refine lv_if_lt (tgt := 32) hx hb dX2_mayHaveCorner_1 (by decide) (fun c_1 => ?_) (fun c_1 => ?_)
  · have c_1 : kv.toInt < 0 := zc_lt rfl (by decide) c_1
    refine lv_iconst (v := 0) hx hb dX2_mayHaveCorner_32 (by decide) ?_
    have hP9 := hP.sub (ws' := [(oc1 fe rk9 wd9 tw9 pa9 pb9 (.ref lo) (.ref lk) fm9), (oc4 lk kd9 st9 (.ref r) gb9 jt9 we9), (oc6 r (.ref rx) (.ref ry) (nI n) rg)]) [0, 1, 2] rfl
    have hD9 := hD.sub (ws' := [(oc1 fe rk9 wd9 tw9 pa9 pb9 (.ref lo) (.ref lk) fm9), (oc4 lk kd9 st9 (.ref r) gb9 jt9 we9), (oc6 r (.ref rx) (.ref ry) (nI n) rg)]) [0, 1, 2] (by decide) rfl
    rw [hQ9]
    exact W.zret (ty := .boolean) (v := 0) hx hb hr (rfl) (fun t ht hW => ⟨⟨congrArg (fun z => Outcome.returned (some (Value.int z))) (show (0 : Int32) = pI (0 ≤ kv.toInt ∧ kv.toInt < ((n : Nat) : Int)) from (zp_f (by omega)).symm), by rw [ht]; exact hP9, hD9⟩, hS.F ht⟩) hS.2.2 dX2_mayHaveCorner_33
  · have c_1 : 0 ≤ kv.toInt := zc_nlt rfl (by decide) c_1
    refine lv_aload_n hx hb dX2_mayHaveCorner_4 rfl (lv_at hl 0 rfl) ?_
    refine va_get (D := (dC, dI)) (ci := 1) (v := .ref lk) (C := RX2) (T := TX2) (N := 8) hx hb hts inX2 hown hK hP 0 rfl rfl 6 (by decide) (hts _ mw_429) (fun _ h9 => h9) rfl dX2_mayHaveCorner_5 ?_
    refine va_get (D := (dC, dI)) (ci := 4) (v := .ref r) (C := RX5) (T := TX5) (N := 6) hx hb hts inX5 hown hK hP 1 rfl rfl 2 (by decide) (hts _ mw_392) (fun _ h9 => h9) rfl dX2_mayHaveCorner_8 ?_
    refine lv_ifnull hx hb dX2_mayHaveCorner_11 ?_
    refine lv_iload_n hx hb dX2_mayHaveCorner_14 rfl (lv_at hl 1 rfl) ?_
    refine lv_aload_n hx hb dX2_mayHaveCorner_15 rfl (lv_at hl 0 rfl) ?_
    refine va_get (D := (dC, dI)) (ci := 1) (v := .ref lk) (C := RX2) (T := TX2) (N := 8) hx hb hts inX2 hown hK hP 0 rfl rfl 6 (by decide) (hts _ mw_429) (fun _ h9 => h9) rfl dX2_mayHaveCorner_16 ?_
    refine va_get (D := (dC, dI)) (ci := 4) (v := .ref r) (C := RX5) (T := TX5) (N := 6) hx hb hts inX5 hown hK hP 1 rfl rfl 2 (by decide) (hts _ mw_392) (fun _ h9 => h9) rfl dX2_mayHaveCorner_19 ?_
    refine va_get (D := (dC, dI)) (ci := 6) (v := .int (nI n)) (C := RX7) (T := TX7) (N := 4) hx hb hts inX7 hown hK hP 2 rfl rfl 2 (by decide) (hts _ mw_178) (fun _ h9 => h9) rfl dX2_mayHaveCorner_22 ?_
    refine lv_icmp_ge (tgt := 32) hx hb dX2_mayHaveCorner_25 (by decide) (fun c_2 => ?_) (fun c_2 => ?_)
    · have c_2 : ((n : Nat) : Int) ≤ kv.toInt := zc_le (nI_toInt (by omega)) rfl c_2
      refine lv_iconst (v := 0) hx hb dX2_mayHaveCorner_32 (by decide) ?_
      have hP9 := hP.sub (ws' := [(oc1 fe rk9 wd9 tw9 pa9 pb9 (.ref lo) (.ref lk) fm9), (oc4 lk kd9 st9 (.ref r) gb9 jt9 we9), (oc6 r (.ref rx) (.ref ry) (nI n) rg)]) [0, 1, 2] rfl
      have hD9 := hD.sub (ws' := [(oc1 fe rk9 wd9 tw9 pa9 pb9 (.ref lo) (.ref lk) fm9), (oc4 lk kd9 st9 (.ref r) gb9 jt9 we9), (oc6 r (.ref rx) (.ref ry) (nI n) rg)]) [0, 1, 2] (by decide) rfl
      rw [hQ9]
      exact W.zret (ty := .boolean) (v := 0) hx hb hr (rfl) (fun t ht hW => ⟨⟨congrArg (fun z => Outcome.returned (some (Value.int z))) (show (0 : Int32) = pI (0 ≤ kv.toInt ∧ kv.toInt < ((n : Nat) : Int)) from (zp_f (by omega)).symm), by rw [ht]; exact hP9, hD9⟩, hS.F ht⟩) hS.2.2 dX2_mayHaveCorner_33
    · have c_2 : kv.toInt < ((n : Nat) : Int) := zc_nle (nI_toInt (by omega)) rfl c_2
      refine lv_iconst (v := 1) hx hb dX2_mayHaveCorner_28 (by decide) ?_
      refine lv_goto (tgt := 33) hx hb dX2_mayHaveCorner_29 (by decide) ?_
      have hP9 := hP.sub (ws' := [(oc1 fe rk9 wd9 tw9 pa9 pb9 (.ref lo) (.ref lk) fm9), (oc4 lk kd9 st9 (.ref r) gb9 jt9 we9), (oc6 r (.ref rx) (.ref ry) (nI n) rg)]) [0, 1, 2] rfl
      have hD9 := hD.sub (ws' := [(oc1 fe rk9 wd9 tw9 pa9 pb9 (.ref lo) (.ref lk) fm9), (oc4 lk kd9 st9 (.ref r) gb9 jt9 we9), (oc6 r (.ref rx) (.ref ry) (nI n) rg)]) [0, 1, 2] (by decide) rfl
      rw [hQ9]
      exact W.zret (ty := .boolean) (v := 1) hx hb hr (rfl) (fun t ht hW => ⟨⟨congrArg (fun z => Outcome.returned (some (Value.int z))) (show (1 : Int32) = pI (0 ≤ kv.toInt ∧ kv.toInt < ((n : Nat) : Int)) from (zp_t (by omega)).symm), by rw [ht]; exact hP9, hD9⟩, hS.F ht⟩) hS.2.2 dX2_mayHaveCorner_33
set_option maxHeartbeats 4000000 in
set_option maxRecDepth 100000 in
theorem k_Feature_mayHaveCorner_vn (l : Launch) (dC : Nat → ClassId) (dI : Nat → Nat → Nat) (cI cZ cF : ClassId) (sz : Nat) (fe : Nat) (lo : Nat) (rk9 : Int32) (wd9 : Int32) (tw9 : Int32) (pa9 : Int32) (pb9 : Int32) (lk : Nat) (kd9 : Int32) (st9 : Int32) (gb9 : Int32) (jt9 : Int32) (we9 : Int32) (fm9 : Value) (kv : Int32) : Met l yX2_mayHaveCorner (.code yX2_mayHaveCorner cX2_mayHaveCorner 2 (some .boolean) :: ws0) ({ frames := 0, cells := 0, slots := 0, locals := 0 } : Room) (va_Pc [.ref fe, .int kv] (zPre (dC, dI) classes (zTy cI cZ cF) [(oc1 fe rk9 wd9 tw9 pa9 pb9 (.ref lo) (.ref lk) fm9), (oc4 lk kd9 st9 .null gb9 jt9 we9)] sz zXN)) (zQ (some (.int (pI (0 ≤ kv.toInt)))) (fun t => va_P (dC, dI) classes [(oc1 fe rk9 wd9 tw9 pa9 pb9 (.ref lo) (.ref lk) fm9), (oc4 lk kd9 st9 .null gb9 jt9 we9)] t.heap ∧ va_D (va_A [(oc1 fe rk9 wd9 tw9 pa9 pb9 (.ref lo) (.ref lk) fm9), (oc4 lk kd9 st9 .null gb9 jt9 we9)] sz) [(oc1 fe rk9 wd9 tw9 pa9 pb9 (.ref lo) (.ref lk) fm9), (oc4 lk kd9 st9 .null gb9 jt9 we9)]) (va_A [(oc1 fe rk9 wd9 tw9 pa9 pb9 (.ref lo) (.ref lk) fm9), (oc4 lk kd9 st9 .null gb9 jt9 we9)] sz)) 0 0 (va_A [(oc1 fe rk9 wd9 tw9 pa9 pb9 (.ref lo) (.ref lk) fm9), (oc4 lk kd9 st9 .null gb9 jt9 we9)] sz) := by
  refine Met.ofW (cc := cX2_mayHaveCorner) (maxL := 2) (ret := (some .boolean)) (by decide) rfl ?_
  intro p e s m args below meth c s₁ B hml hv
  obtain ⟨rfl, hsz, hP, hK, hD0, hXN⟩ := hv
  have hx := B.exec
  have hb := B.bytes
  have hr := B.returns
  have hts0 := atoms_spec (ws := .code yX2_mayHaveCorner cX2_mayHaveCorner 2 (some .boolean) :: ws0) B.pre
  have hts : ∀ w9 ∈ ws0, w9.before ([.ref fe, .int kv] : List Value).toArray s = true := fun w9 h => hts0 w9 (List.mem_cons_of_mem _ h)
  have hown : s.vm.findClass "ScaleShop$Feature" = some m.cls := findClass_of_methodNamed B.named
  have hlocks := B.notSynchronized
  subst hsz
  have hD := hD0.self (sz := s.heap.size)
  clear hD0
  generalize hAe : va_A [(oc1 fe rk9 wd9 tw9 pa9 pb9 (.ref lo) (.ref lk) fm9), (oc4 lk kd9 st9 .null gb9 jt9 we9)] s.heap.size = A at hD ⊢
  have hA : ∀ q : Nat, s.heap.size ≤ q → A q := fun q h => by rw [← hAe]; exact Or.inr h
  clear hAe
  have hS : va_S A s.heap s.heap [] := va_S.rf
  have hP : va_P (dC, dI) classes [(oc1 fe rk9 wd9 tw9 pa9 pb9 (.ref lo) (.ref lk) fm9), (oc4 lk kd9 st9 .null gb9 jt9 we9)] s.heap := hP
  obtain ⟨Q9, hQ9⟩ : ∃ Q9 : State → Prop, Q9 = MQ below (zQ (some (.int (pI (0 ≤ kv.toInt)))) (fun t => va_P (dC, dI) classes [(oc1 fe rk9 wd9 tw9 pa9 pb9 (.ref lo) (.ref lk) fm9), (oc4 lk kd9 st9 .null gb9 jt9 we9)] t.heap ∧ va_D A [(oc1 fe rk9 wd9 tw9 pa9 pb9 (.ref lo) (.ref lk) fm9), (oc4 lk kd9 st9 .null gb9 jt9 we9)]) A) ([.ref fe, .int kv] : List Value).toArray s 0 0 A := ⟨_, rfl⟩
  rw [← hQ9]
  have hl := lv_entry ([.ref fe, .int kv]) (n := 2) (Nat.le_of_ble_eq_true rfl)
  rw [lg_entry_eq]
  generalize (lg_sl ([.ref fe, .int kv]) ++ List.replicate (2 - (lg_sl ([.ref fe, .int kv])).length) Slot.unset).toArray = ls at hl ⊢
  have hl : lv_has ls 2 [(0, .ref fe), (1, .int kv)] := hl
  refine lv_iload_n hx hb dX2_mayHaveCorner_0 rfl (lv_at hl 1 rfl) ?_
  refine lv_if_lt (tgt := 32) hx hb dX2_mayHaveCorner_1 (by decide) (fun c_1 => ?_) (fun c_1 => ?_)
  · have c_1 : kv.toInt < 0 := zc_lt rfl (by decide) c_1
    refine lv_iconst (v := 0) hx hb dX2_mayHaveCorner_32 (by decide) ?_
    have hP9 := hP.sub (ws' := [(oc1 fe rk9 wd9 tw9 pa9 pb9 (.ref lo) (.ref lk) fm9), (oc4 lk kd9 st9 .null gb9 jt9 we9)]) [0, 1] rfl
    have hD9 := hD.sub (ws' := [(oc1 fe rk9 wd9 tw9 pa9 pb9 (.ref lo) (.ref lk) fm9), (oc4 lk kd9 st9 .null gb9 jt9 we9)]) [0, 1] (by decide) rfl
    rw [hQ9]
    exact W.zret (ty := .boolean) (v := 0) hx hb hr (rfl) (fun t ht hW => ⟨⟨congrArg (fun z => Outcome.returned (some (Value.int z))) (show (0 : Int32) = pI (0 ≤ kv.toInt) from (zp_f (by omega)).symm), by rw [ht]; exact hP9, hD9⟩, hS.F ht⟩) hS.2.2 dX2_mayHaveCorner_33
  · have c_1 : 0 ≤ kv.toInt := zc_nlt rfl (by decide) c_1
    refine lv_aload_n hx hb dX2_mayHaveCorner_4 rfl (lv_at hl 0 rfl) ?_
    refine va_get (D := (dC, dI)) (ci := 1) (v := .ref lk) (C := RX2) (T := TX2) (N := 8) hx hb hts inX2 hown hK hP 0 rfl rfl 6 (by decide) (hts _ mw_429) (fun _ h9 => h9) rfl dX2_mayHaveCorner_5 ?_
    refine va_get (D := (dC, dI)) (ci := 4) (v := .null) (C := RX5) (T := TX5) (N := 6) hx hb hts inX5 hown hK hP 1 rfl rfl 2 (by decide) (hts _ mw_392) (fun _ h9 => h9) rfl dX2_mayHaveCorner_8 ?_
    refine lv_ifnullN (tgt := 28) hx hb dX2_mayHaveCorner_11 (by decide) ?_
    refine lv_iconst (v := 1) hx hb dX2_mayHaveCorner_28 (by decide) ?_
    refine lv_goto (tgt := 33) hx hb dX2_mayHaveCorner_29 (by decide) ?_
    have hP9 := hP.sub (ws' := [(oc1 fe rk9 wd9 tw9 pa9 pb9 (.ref lo) (.ref lk) fm9), (oc4 lk kd9 st9 .null gb9 jt9 we9)]) [0, 1] rfl
    have hD9 := hD.sub (ws' := [(oc1 fe rk9 wd9 tw9 pa9 pb9 (.ref lo) (.ref lk) fm9), (oc4 lk kd9 st9 .null gb9 jt9 we9)]) [0, 1] (by decide) rfl
    rw [hQ9]
    exact W.zret (ty := .boolean) (v := 1) hx hb hr (rfl) (fun t ht hW => ⟨⟨congrArg (fun z => Outcome.returned (some (Value.int z))) (show (1 : Int32) = pI (0 ≤ kv.toInt) from (zp_t (by omega)).symm), by rw [ht]; exact hP9, hD9⟩, hS.F ht⟩) hS.2.2 dX2_mayHaveCorner_33
set_option maxHeartbeats 4000000 in
set_option maxRecDepth 100000 in
theorem k_drop_r (l : Launch) (dC : Nat → ClassId) (dI : Nat → Nat → Nat) (cI cZ cF : ClassId) (sz : Nat) (x : Nat) (sh : Nat) (lw : Nat) (ro : Nat) (bq : Nat) (bp : Nat) (dq : Nat) (dp : Nat) (lv : Nat) (sl : Nat) (sd : Int32) (ul : Int32) (su : Int32) (ds : Int32) (fa : Nat) (ft : Nat) (FA : Nat → Option Nat) (f0 : Nat) (L : List Nat) (f : Nat → va_E) (kd : Nat → Int32) (st : Nat → Int32) (tn : Nat → Int32) (mn : Nat → Int32) (cx : Nat → Int32) (cy : Nat → Int32) (h200 : ft ≤ 200) (hf0 : f0 < ft) (hvw : ∀ q, q < ft → vwO cI L f FA kd st tn mn cx cy q) (hbad : ¬ ((st f0).toInt = 1 ∧ (tn f0).toInt = 0)) : Met l yX10_drop (.code yX10_drop cX10_drop 3 (some .boolean) :: ws0) ({ frames := 2, cells := 0, slots := 0, locals := 42 } : Room) (va_Pc [.ref x, .int (nI f0)] (zPre (dC, dI) classes (zTy cI cZ cF) ([(oc8 x (.ref sh) (.ref lw) (.ref ro) (.ref bq) (.ref bp) (.ref dq) (.ref dp) (.ref lv) (.ref sl) ds sd ul su), (oc7 sh (.ref fa) (nI ft)), (oq fa cF 200 FA)] ++ va_pl L f) sz zXN)) (zQ (some (.int 0)) (fun t => ∃ (ul1 : Int32), ∃ (su1 : Int32), va_P (dC, dI) classes ([(oc8 x (.ref sh) (.ref lw) (.ref ro) (.ref bq) (.ref bp) (.ref dq) (.ref dp) (.ref lv) (.ref sl) ds sd ul1 su1), (oc7 sh (.ref fa) (nI ft)), (oq fa cF 200 FA)] ++ va_pl L f) t.heap ∧ va_D (va_A ([(oc8 x (.ref sh) (.ref lw) (.ref ro) (.ref bq) (.ref bp) (.ref dq) (.ref dp) (.ref lv) (.ref sl) ds sd ul su), (oc7 sh (.ref fa) (nI ft)), (oq fa cF 200 FA)] ++ va_pl L f) sz) ([(oc8 x (.ref sh) (.ref lw) (.ref ro) (.ref bq) (.ref bp) (.ref dq) (.ref dp) (.ref lv) (.ref sl) ds sd ul1 su1), (oc7 sh (.ref fa) (nI ft)), (oq fa cF 200 FA)] ++ va_pl L f)) (va_A ([(oc8 x (.ref sh) (.ref lw) (.ref ro) (.ref bq) (.ref bp) (.ref dq) (.ref dp) (.ref lv) (.ref sl) ds sd ul su), (oc7 sh (.ref fa) (nI ft)), (oq fa cF 200 FA)] ++ va_pl L f) sz)) 0 0 (va_A ([(oc8 x (.ref sh) (.ref lw) (.ref ro) (.ref bq) (.ref bp) (.ref dq) (.ref dp) (.ref lv) (.ref sl) ds sd ul su), (oc7 sh (.ref fa) (nI ft)), (oq fa cF 200 FA)] ++ va_pl L f) sz) := by
  refine Met.ofW (cc := cX10_drop) (maxL := 3) (ret := (some .boolean)) (by decide) rfl ?_
  intro p e s m args below meth c s₁ B hml hv
  obtain ⟨rfl, hsz, hP, hK, hD0, hXN⟩ := hv
  have hx := B.exec
  have hb := B.bytes
  have hr := B.returns
  have hts0 := atoms_spec (ws := .code yX10_drop cX10_drop 3 (some .boolean) :: ws0) B.pre
  have hts : ∀ w9 ∈ ws0, w9.before ([.ref x, .int (nI f0)] : List Value).toArray s = true := fun w9 h => hts0 w9 (List.mem_cons_of_mem _ h)
  have hown : s.vm.findClass "ScaleShop" = some m.cls := findClass_of_methodNamed B.named
  have hlocks := B.notSynchronized
  subst hsz
  have hD := hD0.self (sz := s.heap.size)
  clear hD0
  generalize hAe : va_A ([(oc8 x (.ref sh) (.ref lw) (.ref ro) (.ref bq) (.ref bp) (.ref dq) (.ref dp) (.ref lv) (.ref sl) ds sd ul su), (oc7 sh (.ref fa) (nI ft)), (oq fa cF 200 FA)] ++ va_pl L f) s.heap.size = A at hD ⊢
  have hA : ∀ q : Nat, s.heap.size ≤ q → A q := fun q h => by rw [← hAe]; exact Or.inr h
  clear hAe
  have hS : va_S A s.heap s.heap [] := va_S.rf
  have hP : va_P (dC, dI) classes ([(oc8 x (.ref sh) (.ref lw) (.ref ro) (.ref bq) (.ref bp) (.ref dq) (.ref dp) (.ref lv) (.ref sl) ds sd ul su), (oc7 sh (.ref fa) (nI ft)), (oq fa cF 200 FA)] ++ va_pl L f) s.heap := hP
  obtain ⟨Q9, hQ9⟩ : ∃ Q9 : State → Prop, Q9 = MQ below (zQ (some (.int 0)) (fun t => ∃ (ul1 : Int32), ∃ (su1 : Int32), va_P (dC, dI) classes ([(oc8 x (.ref sh) (.ref lw) (.ref ro) (.ref bq) (.ref bp) (.ref dq) (.ref dp) (.ref lv) (.ref sl) ds sd ul1 su1), (oc7 sh (.ref fa) (nI ft)), (oq fa cF 200 FA)] ++ va_pl L f) t.heap ∧ va_D A ([(oc8 x (.ref sh) (.ref lw) (.ref ro) (.ref bq) (.ref bp) (.ref dq) (.ref dp) (.ref lv) (.ref sl) ds sd ul1 su1), (oc7 sh (.ref fa) (nI ft)), (oq fa cF 200 FA)] ++ va_pl L f)) A) ([.ref x, .int (nI f0)] : List Value).toArray s 0 0 A := ⟨_, rfl⟩
  rw [← hQ9]
  have hl := lv_entry ([.ref x, .int (nI f0)]) (n := 3) (Nat.le_of_ble_eq_true rfl)
  rw [lg_entry_eq]
  generalize (lg_sl ([.ref x, .int (nI f0)]) ++ List.replicate (3 - (lg_sl ([.ref x, .int (nI f0)])).length) Slot.unset).toArray = ls at hl ⊢
  have hl : lv_has ls 3 [(0, .ref x), (1, .int (nI f0))] := hl
  rcases vw2 (hvw f0 (show f0 < ft by omega)) with ⟨ht2, fe2, lk2, lo2, rk2, wd2, tw2, pa2, pb2, gb2, jt2, we2, fm2, hFA2, hfe2, hlk2⟩ | ⟨ht2, fe2, lk2, lo2, rk2, wd2, tw2, pa2, pb2, gb2, jt2, we2, fm2, r2, rx2, ry2, cap2, U2, V2, rg2, hFA2, hfe2, hlk2, ⟨hr2, hrx2, hry2, hne2⟩, hrr2⟩
  · skip
    have hc9_1 : inPl L f [(oc1 fe2 rk2 wd2 tw2 pa2 pb2 (.ref lo2) (.ref lk2) fm2), (oc4 lk2 (kd f0) (st f0) .null gb2 jt2 we2)] := ⟨hfe2, hlk2, trivial⟩
    have hD0_1 := hD
    obtain ⟨hP, hD⟩ := pl_out hP hD [(oc1 fe2 rk2 wd2 tw2 pa2 pb2 (.ref lo2) (.ref lk2) fm2), (oc4 lk2 (kd f0) (st f0) .null gb2 jt2 we2)] hc9_1 (pwF hfe2.2 hlk2.2)
    generalize hT_1 : outPl L [(oc1 fe2 rk2 wd2 tw2 pa2 pb2 (.ref lo2) (.ref lk2) fm2), (oc4 lk2 (kd f0) (st f0) .null gb2 jt2 we2)] = T_1 at hP hD
    have hP : va_P (dC, dI) classes ([(oc8 x (.ref sh) (.ref lw) (.ref ro) (.ref bq) (.ref bp) (.ref dq) (.ref dp) (.ref lv) (.ref sl) ds sd ul su), (oc7 sh (.ref fa) (nI ft)), (oq fa cF 200 FA), (oc1 fe2 rk2 wd2 tw2 pa2 pb2 (.ref lo2) (.ref lk2) fm2), (oc4 lk2 (kd f0) (st f0) .null gb2 jt2 we2)] ++ va_pl T_1 f) s.heap := hP
    have hD : va_D A ([(oc8 x (.ref sh) (.ref lw) (.ref ro) (.ref bq) (.ref bp) (.ref dq) (.ref dp) (.ref lv) (.ref sl) ds sd ul su), (oc7 sh (.ref fa) (nI ft)), (oq fa cF 200 FA), (oc1 fe2 rk2 wd2 tw2 pa2 pb2 (.ref lo2) (.ref lk2) fm2), (oc4 lk2 (kd f0) (st f0) .null gb2 jt2 we2)] ++ va_pl T_1 f) := hD
    refine lv_aload_n hx hb dX10_drop_0 rfl (lv_at hl 0 rfl) ?_
    refine va_get (D := (dC, dI)) (ci := 8) (v := .ref sh) (C := RX10) (T := TX10) (N := 13) hx hb hts inX10 hown hK hP 0 rfl rfl 0 (by decide) (hts _ mw_309) (fun _ h9 => h9) rfl dX10_drop_1 ?_
    refine lv_iload_n hx hb dX10_drop_4 rfl (lv_at hl 1 rfl) ?_
    have hPc := hP.sub (ws' := [(oc7 sh (.ref fa) (nI ft)), (oq fa cF 200 FA)]) [1, 2] rfl
    have hDc := hD.sub (ws' := [(oc7 sh (.ref fa) (nI ft)), (oq fa cF 200 FA)]) [1, 2] (by decide) rfl
    have hFc := va_free (wc := [(oc7 sh (.ref fa) (nI ft)), (oq fa cF 200 FA)]) hD hS hA [1, 2] rfl
    refine zcall (st1 := [.ref fe2]) (va_runV (As := [.int (nI f0)]) (rest := []) ⟨hx, hb, hml, hown, hts⟩ (k_Sheet_find l dC dI cI cZ cF s.heap.size sh fa ft FA f0 fe2 (by omega) (by omega) (hFA2)) (cwV 1 hts (zz_gV mw_498 mw_499 mw_500 mw_100 mc_yX8_find) rfl rfl rfl (by decide +kernel) ⟨Nat.le_of_ble_eq_true rfl, Nat.le_of_ble_eq_true rfl⟩) (zPV2 (q0 := 0) (ci := 7) hPc hDc hK hXN rfl rfl) rfl rfl hl.1 rfl (lv_room (Nat.le_of_ble_eq_true rfl)) dX10_drop_5 ⟨Nat.le_of_ble_eq_true rfl, Nat.le_of_ble_eq_true rfl⟩) hS hFc hFc rfl (fun t H1 locs ht hB hk1 hS => ?_)
    obtain ⟨hP1, hD1⟩ := hB
    rw [ht] at hP1
    obtain ⟨hP, hD⟩ := va_joinQ (wr := [(oc8 x (.ref sh) (.ref lw) (.ref ro) (.ref bq) (.ref bp) (.ref dq) (.ref dp) (.ref lv) (.ref sl) ds sd ul su), (oc1 fe2 rk2 wd2 tw2 pa2 pb2 (.ref lo2) (.ref lk2) fm2), (oc4 lk2 (kd f0) (st f0) .null gb2 jt2 we2)]) (w1 := [(oc7 sh (.ref fa) (nI ft)), (oq fa cF 200 FA)]) hP hD [1, 2] [0, 3, 4] rfl rfl (by decide) (by decide) hk1 hFc hP1 hD1
    clear hk1 hPc hDc hFc hP1 hD1 ht
    generalize H1 = H at hP hS ⊢
    have hP := hP.part (cx := [(oc8 x (.ref sh) (.ref lw) (.ref ro) (.ref bq) (.ref bp) (.ref dq) (.ref dp) (.ref lv) (.ref sl) ds sd ul su), (oc7 sh (.ref fa) (nI ft)), (oq fa cF 200 FA), (oc1 fe2 rk2 wd2 tw2 pa2 pb2 (.ref lo2) (.ref lk2) fm2), (oc4 lk2 (kd f0) (st f0) .null gb2 jt2 we2)]) [0, 3, 4, 1, 2] rfl
    have hD := hD.part (cx := [(oc8 x (.ref sh) (.ref lw) (.ref ro) (.ref bq) (.ref bp) (.ref dq) (.ref dp) (.ref lv) (.ref sl) ds sd ul su), (oc7 sh (.ref fa) (nI ft)), (oq fa cF 200 FA), (oc1 fe2 rk2 wd2 tw2 pa2 pb2 (.ref lo2) (.ref lk2) fm2), (oc4 lk2 (kd f0) (st f0) .null gb2 jt2 we2)]) [0, 3, 4, 1, 2] (by decide) rfl
    have hP : va_P (dC, dI) classes ([(oc8 x (.ref sh) (.ref lw) (.ref ro) (.ref bq) (.ref bp) (.ref dq) (.ref dp) (.ref lv) (.ref sl) ds sd ul su), (oc7 sh (.ref fa) (nI ft)), (oq fa cF 200 FA), (oc1 fe2 rk2 wd2 tw2 pa2 pb2 (.ref lo2) (.ref lk2) fm2), (oc4 lk2 (kd f0) (st f0) .null gb2 jt2 we2)] ++ va_pl T_1 f) H := hP
    have hD : va_D A ([(oc8 x (.ref sh) (.ref lw) (.ref ro) (.ref bq) (.ref bp) (.ref dq) (.ref dp) (.ref lv) (.ref sl) ds sd ul su), (oc7 sh (.ref fa) (nI ft)), (oq fa cF 200 FA), (oc1 fe2 rk2 wd2 tw2 pa2 pb2 (.ref lo2) (.ref lk2) fm2), (oc4 lk2 (kd f0) (st f0) .null gb2 jt2 we2)] ++ va_pl T_1 f) := hD
    refine lv_astore_n (lv' := [(2, .ref fe2), (0, .ref x), (1, .int (nI f0))]) hx hb dX10_drop_8 rfl hl (by decide) rfl (fun ls hl => ?_)
    refine lv_aload_n hx hb dX10_drop_9 rfl (lv_at hl 0 rfl) ?_
    refine lv_ifnonnull (tgt := 19) hx hb dX10_drop_10 (by decide) ?_
    refine lv_aload_n hx hb dX10_drop_19 rfl (lv_at hl 0 rfl) ?_
    refine va_get (D := (dC, dI)) (ci := 1) (v := .ref lk2) (C := RX2) (T := TX2) (N := 8) hx hb hts inX2 hown hK hP 3 rfl rfl 6 (by decide) (hts _ mw_433) (fun _ h9 => h9) rfl dX10_drop_20 ?_
    refine va_get (D := (dC, dI)) (ci := 4) (v := .int (st f0)) (C := RX5) (T := TX5) (N := 6) hx hb hts inX5 hown hK hP 4 rfl rfl 1 (by decide) (hts _ mw_385) (fun _ h9 => h9) rfl dX10_drop_23 ?_
    refine lv_iconst (v := 1) hx hb dX10_drop_26 (by decide) ?_
    refine lv_icmp_eq (tgt := 36) hx hb dX10_drop_27 (by decide) (fun c_1 => ?_) (fun c_1 => ?_)
    · have c_1 : (st f0).toInt = 1 := zc_eq rfl (by decide) c_1
      refine lv_aload_n hx hb dX10_drop_36 rfl (lv_at hl 0 rfl) ?_
      refine va_get (D := (dC, dI)) (ci := 1) (v := .ref lk2) (C := RX2) (T := TX2) (N := 8) hx hb hts inX2 hown hK hP 3 rfl rfl 6 (by decide) (hts _ mw_433) (fun _ h9 => h9) rfl dX10_drop_37 ?_
      refine va_get (D := (dC, dI)) (ci := 4) (v := .null) (C := RX5) (T := TX5) (N := 6) hx hb hts inX5 hown hK hP 4 rfl rfl 2 (by decide) (hts _ mw_391) (fun _ h9 => h9) rfl dX10_drop_40 ?_
      refine lv_ifnonnullN hx hb dX10_drop_43 ?_
      refine lv_aload_n hx hb dX10_drop_46 rfl (lv_at hl 1 rfl) ?_
      refine lv_iconst (v := 5) hx hb dX10_drop_47 (by decide) ?_
      have hPc := hP.sub (ws' := [(oc8 x (.ref sh) (.ref lw) (.ref ro) (.ref bq) (.ref bp) (.ref dq) (.ref dp) (.ref lv) (.ref sl) ds sd ul su)]) [0] rfl
      have hDc := hD.sub (ws' := [(oc8 x (.ref sh) (.ref lw) (.ref ro) (.ref bq) (.ref bp) (.ref dq) (.ref dp) (.ref lv) (.ref sl) ds sd ul su)]) [0] (by decide) rfl
      have hFc := va_free (wc := [(oc8 x (.ref sh) (.ref lw) (.ref ro) (.ref bq) (.ref bp) (.ref dq) (.ref dp) (.ref lv) (.ref sl) ds sd ul su)]) hD hS hA [0] rfl
      refine zcall (st1 := [.int 0]) (va_runV (As := [.int 5]) (rest := []) ⟨hx, hb, hml, hown, hts⟩ (k_deny_5 l dC dI cI cZ cF H.size x sh lw ro bq bp dq dp lv sl sd ul su ds ) (cwV 1 hts (zz_gV mw_513 mw_515 mw_4 mw_99 mc_yX10_deny) rfl rfl rfl (by decide +kernel) ⟨Nat.le_of_ble_eq_true rfl, Nat.le_of_ble_eq_true rfl⟩) (zPV2 (q0 := 0) (ci := 8) hPc hDc hK hXN rfl rfl) rfl rfl hl.1 rfl (lv_room (Nat.le_of_ble_eq_true rfl)) dX10_drop_48 ⟨Nat.le_of_ble_eq_true rfl, Nat.le_of_ble_eq_true rfl⟩) hS hFc hFc rfl (fun t H1 locs ht hB hk1 hS => ?_)
      obtain ⟨hP1, hD1⟩ := hB
      rw [ht] at hP1
      obtain ⟨hP, hD⟩ := va_joinQ (wr := [(oc7 sh (.ref fa) (nI ft)), (oq fa cF 200 FA), (oc1 fe2 rk2 wd2 tw2 pa2 pb2 (.ref lo2) (.ref lk2) fm2), (oc4 lk2 (kd f0) (st f0) .null gb2 jt2 we2)]) (w1 := [(oc8 x (.ref sh) (.ref lw) (.ref ro) (.ref bq) (.ref bp) (.ref dq) (.ref dp) (.ref lv) (.ref sl) ds sd ul 5)]) hP hD [0] [1, 2, 3, 4] rfl rfl (by decide) (by decide) hk1 hFc hP1 hD1
      clear hk1 hPc hDc hFc hP1 hD1 ht
      generalize H1 = H at hP hS ⊢
      have hP := hP.part (cx := [(oc8 x (.ref sh) (.ref lw) (.ref ro) (.ref bq) (.ref bp) (.ref dq) (.ref dp) (.ref lv) (.ref sl) ds sd ul 5), (oc7 sh (.ref fa) (nI ft)), (oq fa cF 200 FA), (oc1 fe2 rk2 wd2 tw2 pa2 pb2 (.ref lo2) (.ref lk2) fm2), (oc4 lk2 (kd f0) (st f0) .null gb2 jt2 we2)]) [4, 0, 1, 2, 3] rfl
      have hD := hD.part (cx := [(oc8 x (.ref sh) (.ref lw) (.ref ro) (.ref bq) (.ref bp) (.ref dq) (.ref dp) (.ref lv) (.ref sl) ds sd ul 5), (oc7 sh (.ref fa) (nI ft)), (oq fa cF 200 FA), (oc1 fe2 rk2 wd2 tw2 pa2 pb2 (.ref lo2) (.ref lk2) fm2), (oc4 lk2 (kd f0) (st f0) .null gb2 jt2 we2)]) [4, 0, 1, 2, 3] (by decide) rfl
      have hP : va_P (dC, dI) classes ([(oc8 x (.ref sh) (.ref lw) (.ref ro) (.ref bq) (.ref bp) (.ref dq) (.ref dp) (.ref lv) (.ref sl) ds sd ul 5), (oc7 sh (.ref fa) (nI ft)), (oq fa cF 200 FA), (oc1 fe2 rk2 wd2 tw2 pa2 pb2 (.ref lo2) (.ref lk2) fm2), (oc4 lk2 (kd f0) (st f0) .null gb2 jt2 we2)] ++ va_pl T_1 f) H := hP
      have hD : va_D A ([(oc8 x (.ref sh) (.ref lw) (.ref ro) (.ref bq) (.ref bp) (.ref dq) (.ref dp) (.ref lv) (.ref sl) ds sd ul 5), (oc7 sh (.ref fa) (nI ft)), (oq fa cF 200 FA), (oc1 fe2 rk2 wd2 tw2 pa2 pb2 (.ref lo2) (.ref lk2) fm2), (oc4 lk2 (kd f0) (st f0) .null gb2 jt2 we2)] ++ va_pl T_1 f) := hD
      have hP := pl_back (cs := [(oc1 fe2 rk2 wd2 tw2 pa2 pb2 (.ref lo2) (.ref lk2) fm2), (oc4 lk2 (kd f0) (st f0) .null gb2 jt2 we2)]) (L := L) (f := f) (X := [(oc8 x (.ref sh) (.ref lw) (.ref ro) (.ref bq) (.ref bp) (.ref dq) (.ref dp) (.ref lv) (.ref sl) ds sd ul 5), (oc7 sh (.ref fa) (nI ft)), (oq fa cF 200 FA)]) (by rw [hT_1]; exact (show va_P (dC, dI) classes (([(oc8 x (.ref sh) (.ref lw) (.ref ro) (.ref bq) (.ref bp) (.ref dq) (.ref dp) (.ref lv) (.ref sl) ds sd ul 5), (oc7 sh (.ref fa) (nI ft)), (oq fa cF 200 FA)] ++ [(oc1 fe2 rk2 wd2 tw2 pa2 pb2 (.ref lo2) (.ref lk2) fm2), (oc4 lk2 (kd f0) (st f0) .null gb2 jt2 we2)]) ++ va_pl T_1 f) H from hP)) hc9_1
      have hD : va_D A ([(oc8 x (.ref sh) (.ref lw) (.ref ro) (.ref bq) (.ref bp) (.ref dq) (.ref dp) (.ref lv) (.ref sl) ds sd ul 5), (oc7 sh (.ref fa) (nI ft)), (oq fa cF 200 FA)] ++ va_pl L f) := vaD_ae hD0_1 rfl
      have hP9 := hP.part (cx := [(oc8 x (.ref sh) (.ref lw) (.ref ro) (.ref bq) (.ref bp) (.ref dq) (.ref dp) (.ref lv) (.ref sl) ds sd ul 5), (oc7 sh (.ref fa) (nI ft)), (oq fa cF 200 FA)]) [0, 1, 2] rfl
      have hD9 := hD.part (cx := [(oc8 x (.ref sh) (.ref lw) (.ref ro) (.ref bq) (.ref bp) (.ref dq) (.ref dp) (.ref lv) (.ref sl) ds sd ul 5), (oc7 sh (.ref fa) (nI ft)), (oq fa cF 200 FA)]) [0, 1, 2] (by decide) rfl
      rw [hQ9]
      exact W.zret (ty := .boolean) (v := 0) hx hb hr (rfl) (fun t ht hW => ⟨⟨rfl, ul, 5, by rw [ht]; exact hP9, hD9⟩, hS.F ht⟩) hS.2.2 dX10_drop_51
    · have c_1 : ¬ (st f0).toInt = 1 := zc_ne rfl (by decide) c_1
      refine lv_aload_n hx hb dX10_drop_30 rfl (lv_at hl 1 rfl) ?_
      refine lv_iconst (v := 2) hx hb dX10_drop_31 (by decide) ?_
      have hPc := hP.sub (ws' := [(oc8 x (.ref sh) (.ref lw) (.ref ro) (.ref bq) (.ref bp) (.ref dq) (.ref dp) (.ref lv) (.ref sl) ds sd ul su)]) [0] rfl
      have hDc := hD.sub (ws' := [(oc8 x (.ref sh) (.ref lw) (.ref ro) (.ref bq) (.ref bp) (.ref dq) (.ref dp) (.ref lv) (.ref sl) ds sd ul su)]) [0] (by decide) rfl
      have hFc := va_free (wc := [(oc8 x (.ref sh) (.ref lw) (.ref ro) (.ref bq) (.ref bp) (.ref dq) (.ref dp) (.ref lv) (.ref sl) ds sd ul su)]) hD hS hA [0] rfl
      refine zcall (st1 := [.int 0]) (va_runV (As := [.int 2]) (rest := []) ⟨hx, hb, hml, hown, hts⟩ (k_deny_2 l dC dI cI cZ cF H.size x sh lw ro bq bp dq dp lv sl sd ul su ds ) (cwV 1 hts (zz_gV mw_513 mw_515 mw_4 mw_99 mc_yX10_deny) rfl rfl rfl (by decide +kernel) ⟨Nat.le_of_ble_eq_true rfl, Nat.le_of_ble_eq_true rfl⟩) (zPV2 (q0 := 0) (ci := 8) hPc hDc hK hXN rfl rfl) rfl rfl hl.1 rfl (lv_room (Nat.le_of_ble_eq_true rfl)) dX10_drop_32 ⟨Nat.le_of_ble_eq_true rfl, Nat.le_of_ble_eq_true rfl⟩) hS hFc hFc rfl (fun t H1 locs ht hB hk1 hS => ?_)
      obtain ⟨hP1, hD1⟩ := hB
      rw [ht] at hP1
      obtain ⟨hP, hD⟩ := va_joinQ (wr := [(oc7 sh (.ref fa) (nI ft)), (oq fa cF 200 FA), (oc1 fe2 rk2 wd2 tw2 pa2 pb2 (.ref lo2) (.ref lk2) fm2), (oc4 lk2 (kd f0) (st f0) .null gb2 jt2 we2)]) (w1 := [(oc8 x (.ref sh) (.ref lw) (.ref ro) (.ref bq) (.ref bp) (.ref dq) (.ref dp) (.ref lv) (.ref sl) ds sd ul 2)]) hP hD [0] [1, 2, 3, 4] rfl rfl (by decide) (by decide) hk1 hFc hP1 hD1
      clear hk1 hPc hDc hFc hP1 hD1 ht
      generalize H1 = H at hP hS ⊢
      have hP := hP.part (cx := [(oc8 x (.ref sh) (.ref lw) (.ref ro) (.ref bq) (.ref bp) (.ref dq) (.ref dp) (.ref lv) (.ref sl) ds sd ul 2), (oc7 sh (.ref fa) (nI ft)), (oq fa cF 200 FA), (oc1 fe2 rk2 wd2 tw2 pa2 pb2 (.ref lo2) (.ref lk2) fm2), (oc4 lk2 (kd f0) (st f0) .null gb2 jt2 we2)]) [4, 0, 1, 2, 3] rfl
      have hD := hD.part (cx := [(oc8 x (.ref sh) (.ref lw) (.ref ro) (.ref bq) (.ref bp) (.ref dq) (.ref dp) (.ref lv) (.ref sl) ds sd ul 2), (oc7 sh (.ref fa) (nI ft)), (oq fa cF 200 FA), (oc1 fe2 rk2 wd2 tw2 pa2 pb2 (.ref lo2) (.ref lk2) fm2), (oc4 lk2 (kd f0) (st f0) .null gb2 jt2 we2)]) [4, 0, 1, 2, 3] (by decide) rfl
      have hP : va_P (dC, dI) classes ([(oc8 x (.ref sh) (.ref lw) (.ref ro) (.ref bq) (.ref bp) (.ref dq) (.ref dp) (.ref lv) (.ref sl) ds sd ul 2), (oc7 sh (.ref fa) (nI ft)), (oq fa cF 200 FA), (oc1 fe2 rk2 wd2 tw2 pa2 pb2 (.ref lo2) (.ref lk2) fm2), (oc4 lk2 (kd f0) (st f0) .null gb2 jt2 we2)] ++ va_pl T_1 f) H := hP
      have hD : va_D A ([(oc8 x (.ref sh) (.ref lw) (.ref ro) (.ref bq) (.ref bp) (.ref dq) (.ref dp) (.ref lv) (.ref sl) ds sd ul 2), (oc7 sh (.ref fa) (nI ft)), (oq fa cF 200 FA), (oc1 fe2 rk2 wd2 tw2 pa2 pb2 (.ref lo2) (.ref lk2) fm2), (oc4 lk2 (kd f0) (st f0) .null gb2 jt2 we2)] ++ va_pl T_1 f) := hD
      have hP := pl_back (cs := [(oc1 fe2 rk2 wd2 tw2 pa2 pb2 (.ref lo2) (.ref lk2) fm2), (oc4 lk2 (kd f0) (st f0) .null gb2 jt2 we2)]) (L := L) (f := f) (X := [(oc8 x (.ref sh) (.ref lw) (.ref ro) (.ref bq) (.ref bp) (.ref dq) (.ref dp) (.ref lv) (.ref sl) ds sd ul 2), (oc7 sh (.ref fa) (nI ft)), (oq fa cF 200 FA)]) (by rw [hT_1]; exact (show va_P (dC, dI) classes (([(oc8 x (.ref sh) (.ref lw) (.ref ro) (.ref bq) (.ref bp) (.ref dq) (.ref dp) (.ref lv) (.ref sl) ds sd ul 2), (oc7 sh (.ref fa) (nI ft)), (oq fa cF 200 FA)] ++ [(oc1 fe2 rk2 wd2 tw2 pa2 pb2 (.ref lo2) (.ref lk2) fm2), (oc4 lk2 (kd f0) (st f0) .null gb2 jt2 we2)]) ++ va_pl T_1 f) H from hP)) hc9_1
      have hD : va_D A ([(oc8 x (.ref sh) (.ref lw) (.ref ro) (.ref bq) (.ref bp) (.ref dq) (.ref dp) (.ref lv) (.ref sl) ds sd ul 2), (oc7 sh (.ref fa) (nI ft)), (oq fa cF 200 FA)] ++ va_pl L f) := vaD_ae hD0_1 rfl
      have hP9 := hP.part (cx := [(oc8 x (.ref sh) (.ref lw) (.ref ro) (.ref bq) (.ref bp) (.ref dq) (.ref dp) (.ref lv) (.ref sl) ds sd ul 2), (oc7 sh (.ref fa) (nI ft)), (oq fa cF 200 FA)]) [0, 1, 2] rfl
      have hD9 := hD.part (cx := [(oc8 x (.ref sh) (.ref lw) (.ref ro) (.ref bq) (.ref bp) (.ref dq) (.ref dp) (.ref lv) (.ref sl) ds sd ul 2), (oc7 sh (.ref fa) (nI ft)), (oq fa cF 200 FA)]) [0, 1, 2] (by decide) rfl
      rw [hQ9]
      exact W.zret (ty := .boolean) (v := 0) hx hb hr (rfl) (fun t ht hW => ⟨⟨rfl, ul, 2, by rw [ht]; exact hP9, hD9⟩, hS.F ht⟩) hS.2.2 dX10_drop_35
  · skip
    have hcap2 := hrr2.1
    have hcap3 := hrr2.2.1
    have hc9_1 : inPl L f [(oc1 fe2 rk2 wd2 tw2 pa2 pb2 (.ref lo2) (.ref lk2) fm2), (oc4 lk2 (kd f0) (st f0) (.ref r2) gb2 jt2 we2), (oc6 r2 (.ref rx2) (.ref ry2) (nI (nN (mn f0))) rg2), (oa rx2 cI cap2 U2), (oa ry2 cI cap2 V2)] := ⟨hfe2, hlk2, hr2, hrx2, hry2, trivial⟩
    have hD0_1 := hD
    obtain ⟨hP, hD⟩ := pl_out hP hD [(oc1 fe2 rk2 wd2 tw2 pa2 pb2 (.ref lo2) (.ref lk2) fm2), (oc4 lk2 (kd f0) (st f0) (.ref r2) gb2 jt2 we2), (oc6 r2 (.ref rx2) (.ref ry2) (nI (nN (mn f0))) rg2), (oa rx2 cI cap2 U2), (oa ry2 cI cap2 V2)] hc9_1 (pwR hfe2.2 hlk2.2 hr2.2 hrx2.2 hry2.2 hne2)
    generalize hT_1 : outPl L [(oc1 fe2 rk2 wd2 tw2 pa2 pb2 (.ref lo2) (.ref lk2) fm2), (oc4 lk2 (kd f0) (st f0) (.ref r2) gb2 jt2 we2), (oc6 r2 (.ref rx2) (.ref ry2) (nI (nN (mn f0))) rg2), (oa rx2 cI cap2 U2), (oa ry2 cI cap2 V2)] = T_1 at hP hD
    have hP : va_P (dC, dI) classes ([(oc8 x (.ref sh) (.ref lw) (.ref ro) (.ref bq) (.ref bp) (.ref dq) (.ref dp) (.ref lv) (.ref sl) ds sd ul su), (oc7 sh (.ref fa) (nI ft)), (oq fa cF 200 FA), (oc1 fe2 rk2 wd2 tw2 pa2 pb2 (.ref lo2) (.ref lk2) fm2), (oc4 lk2 (kd f0) (st f0) (.ref r2) gb2 jt2 we2), (oc6 r2 (.ref rx2) (.ref ry2) (nI (nN (mn f0))) rg2), (oa rx2 cI cap2 U2), (oa ry2 cI cap2 V2)] ++ va_pl T_1 f) s.heap := hP
    have hD : va_D A ([(oc8 x (.ref sh) (.ref lw) (.ref ro) (.ref bq) (.ref bp) (.ref dq) (.ref dp) (.ref lv) (.ref sl) ds sd ul su), (oc7 sh (.ref fa) (nI ft)), (oq fa cF 200 FA), (oc1 fe2 rk2 wd2 tw2 pa2 pb2 (.ref lo2) (.ref lk2) fm2), (oc4 lk2 (kd f0) (st f0) (.ref r2) gb2 jt2 we2), (oc6 r2 (.ref rx2) (.ref ry2) (nI (nN (mn f0))) rg2), (oa rx2 cI cap2 U2), (oa ry2 cI cap2 V2)] ++ va_pl T_1 f) := hD
    refine lv_aload_n hx hb dX10_drop_0 rfl (lv_at hl 0 rfl) ?_
    refine va_get (D := (dC, dI)) (ci := 8) (v := .ref sh) (C := RX10) (T := TX10) (N := 13) hx hb hts inX10 hown hK hP 0 rfl rfl 0 (by decide) (hts _ mw_309) (fun _ h9 => h9) rfl dX10_drop_1 ?_
    refine lv_iload_n hx hb dX10_drop_4 rfl (lv_at hl 1 rfl) ?_
    have hPc := hP.sub (ws' := [(oc7 sh (.ref fa) (nI ft)), (oq fa cF 200 FA)]) [1, 2] rfl
    have hDc := hD.sub (ws' := [(oc7 sh (.ref fa) (nI ft)), (oq fa cF 200 FA)]) [1, 2] (by decide) rfl
    have hFc := va_free (wc := [(oc7 sh (.ref fa) (nI ft)), (oq fa cF 200 FA)]) hD hS hA [1, 2] rfl
    refine zcall (st1 := [.ref fe2]) (va_runV (As := [.int (nI f0)]) (rest := []) ⟨hx, hb, hml, hown, hts⟩ (k_Sheet_find l dC dI cI cZ cF s.heap.size sh fa ft FA f0 fe2 (by omega) (by omega) (hFA2)) (cwV 1 hts (zz_gV mw_498 mw_499 mw_500 mw_100 mc_yX8_find) rfl rfl rfl (by decide +kernel) ⟨Nat.le_of_ble_eq_true rfl, Nat.le_of_ble_eq_true rfl⟩) (zPV2 (q0 := 0) (ci := 7) hPc hDc hK hXN rfl rfl) rfl rfl hl.1 rfl (lv_room (Nat.le_of_ble_eq_true rfl)) dX10_drop_5 ⟨Nat.le_of_ble_eq_true rfl, Nat.le_of_ble_eq_true rfl⟩) hS hFc hFc rfl (fun t H1 locs ht hB hk1 hS => ?_)
    obtain ⟨hP1, hD1⟩ := hB
    rw [ht] at hP1
    obtain ⟨hP, hD⟩ := va_joinQ (wr := [(oc8 x (.ref sh) (.ref lw) (.ref ro) (.ref bq) (.ref bp) (.ref dq) (.ref dp) (.ref lv) (.ref sl) ds sd ul su), (oc1 fe2 rk2 wd2 tw2 pa2 pb2 (.ref lo2) (.ref lk2) fm2), (oc4 lk2 (kd f0) (st f0) (.ref r2) gb2 jt2 we2), (oc6 r2 (.ref rx2) (.ref ry2) (nI (nN (mn f0))) rg2), (oa rx2 cI cap2 U2), (oa ry2 cI cap2 V2)]) (w1 := [(oc7 sh (.ref fa) (nI ft)), (oq fa cF 200 FA)]) hP hD [1, 2] [0, 3, 4, 5, 6, 7] rfl rfl (by decide) (by decide) hk1 hFc hP1 hD1
    clear hk1 hPc hDc hFc hP1 hD1 ht
    generalize H1 = H at hP hS ⊢
    have hP := hP.part (cx := [(oc8 x (.ref sh) (.ref lw) (.ref ro) (.ref bq) (.ref bp) (.ref dq) (.ref dp) (.ref lv) (.ref sl) ds sd ul su), (oc7 sh (.ref fa) (nI ft)), (oq fa cF 200 FA), (oc1 fe2 rk2 wd2 tw2 pa2 pb2 (.ref lo2) (.ref lk2) fm2), (oc4 lk2 (kd f0) (st f0) (.ref r2) gb2 jt2 we2), (oc6 r2 (.ref rx2) (.ref ry2) (nI (nN (mn f0))) rg2), (oa rx2 cI cap2 U2), (oa ry2 cI cap2 V2)]) [0, 6, 7, 1, 2, 3, 4, 5] rfl
    have hD := hD.part (cx := [(oc8 x (.ref sh) (.ref lw) (.ref ro) (.ref bq) (.ref bp) (.ref dq) (.ref dp) (.ref lv) (.ref sl) ds sd ul su), (oc7 sh (.ref fa) (nI ft)), (oq fa cF 200 FA), (oc1 fe2 rk2 wd2 tw2 pa2 pb2 (.ref lo2) (.ref lk2) fm2), (oc4 lk2 (kd f0) (st f0) (.ref r2) gb2 jt2 we2), (oc6 r2 (.ref rx2) (.ref ry2) (nI (nN (mn f0))) rg2), (oa rx2 cI cap2 U2), (oa ry2 cI cap2 V2)]) [0, 6, 7, 1, 2, 3, 4, 5] (by decide) rfl
    have hP : va_P (dC, dI) classes ([(oc8 x (.ref sh) (.ref lw) (.ref ro) (.ref bq) (.ref bp) (.ref dq) (.ref dp) (.ref lv) (.ref sl) ds sd ul su), (oc7 sh (.ref fa) (nI ft)), (oq fa cF 200 FA), (oc1 fe2 rk2 wd2 tw2 pa2 pb2 (.ref lo2) (.ref lk2) fm2), (oc4 lk2 (kd f0) (st f0) (.ref r2) gb2 jt2 we2), (oc6 r2 (.ref rx2) (.ref ry2) (nI (nN (mn f0))) rg2), (oa rx2 cI cap2 U2), (oa ry2 cI cap2 V2)] ++ va_pl T_1 f) H := hP
    have hD : va_D A ([(oc8 x (.ref sh) (.ref lw) (.ref ro) (.ref bq) (.ref bp) (.ref dq) (.ref dp) (.ref lv) (.ref sl) ds sd ul su), (oc7 sh (.ref fa) (nI ft)), (oq fa cF 200 FA), (oc1 fe2 rk2 wd2 tw2 pa2 pb2 (.ref lo2) (.ref lk2) fm2), (oc4 lk2 (kd f0) (st f0) (.ref r2) gb2 jt2 we2), (oc6 r2 (.ref rx2) (.ref ry2) (nI (nN (mn f0))) rg2), (oa rx2 cI cap2 U2), (oa ry2 cI cap2 V2)] ++ va_pl T_1 f) := hD
    refine lv_astore_n (lv' := [(2, .ref fe2), (0, .ref x), (1, .int (nI f0))]) hx hb dX10_drop_8 rfl hl (by decide) rfl (fun ls hl => ?_)
    refine lv_aload_n hx hb dX10_drop_9 rfl (lv_at hl 0 rfl) ?_
    refine lv_ifnonnull (tgt := 19) hx hb dX10_drop_10 (by decide) ?_
    refine lv_aload_n hx hb dX10_drop_19 rfl (lv_at hl 0 rfl) ?_
    refine va_get (D := (dC, dI)) (ci := 1) (v := .ref lk2) (C := RX2) (T := TX2) (N := 8) hx hb hts inX2 hown hK hP 3 rfl rfl 6 (by decide) (hts _ mw_433) (fun _ h9 => h9) rfl dX10_drop_20 ?_
    refine va_get (D := (dC, dI)) (ci := 4) (v := .int (st f0)) (C := RX5) (T := TX5) (N := 6) hx hb hts inX5 hown hK hP 4 rfl rfl 1 (by decide) (hts _ mw_385) (fun _ h9 => h9) rfl dX10_drop_23 ?_
    refine lv_iconst (v := 1) hx hb dX10_drop_26 (by decide) ?_
    refine lv_icmp_eq (tgt := 36) hx hb dX10_drop_27 (by decide) (fun c_2 => ?_) (fun c_2 => ?_)
    · have c_2 : (st f0).toInt = 1 := zc_eq rfl (by decide) c_2
      refine lv_aload_n hx hb dX10_drop_36 rfl (lv_at hl 0 rfl) ?_
      refine va_get (D := (dC, dI)) (ci := 1) (v := .ref lk2) (C := RX2) (T := TX2) (N := 8) hx hb hts inX2 hown hK hP 3 rfl rfl 6 (by decide) (hts _ mw_433) (fun _ h9 => h9) rfl dX10_drop_37 ?_
      refine va_get (D := (dC, dI)) (ci := 4) (v := .ref r2) (C := RX5) (T := TX5) (N := 6) hx hb hts inX5 hown hK hP 4 rfl rfl 2 (by decide) (hts _ mw_391) (fun _ h9 => h9) rfl dX10_drop_40 ?_
      refine lv_ifnonnull (tgt := 52) hx hb dX10_drop_43 (by decide) ?_
      exfalso; omega
    · have c_2 : ¬ (st f0).toInt = 1 := zc_ne rfl (by decide) c_2
      refine lv_aload_n hx hb dX10_drop_30 rfl (lv_at hl 1 rfl) ?_
      refine lv_iconst (v := 2) hx hb dX10_drop_31 (by decide) ?_
      have hPc := hP.sub (ws' := [(oc8 x (.ref sh) (.ref lw) (.ref ro) (.ref bq) (.ref bp) (.ref dq) (.ref dp) (.ref lv) (.ref sl) ds sd ul su)]) [0] rfl
      have hDc := hD.sub (ws' := [(oc8 x (.ref sh) (.ref lw) (.ref ro) (.ref bq) (.ref bp) (.ref dq) (.ref dp) (.ref lv) (.ref sl) ds sd ul su)]) [0] (by decide) rfl
      have hFc := va_free (wc := [(oc8 x (.ref sh) (.ref lw) (.ref ro) (.ref bq) (.ref bp) (.ref dq) (.ref dp) (.ref lv) (.ref sl) ds sd ul su)]) hD hS hA [0] rfl
      refine zcall (st1 := [.int 0]) (va_runV (As := [.int 2]) (rest := []) ⟨hx, hb, hml, hown, hts⟩ (k_deny_2 l dC dI cI cZ cF H.size x sh lw ro bq bp dq dp lv sl sd ul su ds ) (cwV 1 hts (zz_gV mw_513 mw_515 mw_4 mw_99 mc_yX10_deny) rfl rfl rfl (by decide +kernel) ⟨Nat.le_of_ble_eq_true rfl, Nat.le_of_ble_eq_true rfl⟩) (zPV2 (q0 := 0) (ci := 8) hPc hDc hK hXN rfl rfl) rfl rfl hl.1 rfl (lv_room (Nat.le_of_ble_eq_true rfl)) dX10_drop_32 ⟨Nat.le_of_ble_eq_true rfl, Nat.le_of_ble_eq_true rfl⟩) hS hFc hFc rfl (fun t H1 locs ht hB hk1 hS => ?_)
      obtain ⟨hP1, hD1⟩ := hB
      rw [ht] at hP1
      obtain ⟨hP, hD⟩ := va_joinQ (wr := [(oc7 sh (.ref fa) (nI ft)), (oq fa cF 200 FA), (oc1 fe2 rk2 wd2 tw2 pa2 pb2 (.ref lo2) (.ref lk2) fm2), (oc4 lk2 (kd f0) (st f0) (.ref r2) gb2 jt2 we2), (oc6 r2 (.ref rx2) (.ref ry2) (nI (nN (mn f0))) rg2), (oa rx2 cI cap2 U2), (oa ry2 cI cap2 V2)]) (w1 := [(oc8 x (.ref sh) (.ref lw) (.ref ro) (.ref bq) (.ref bp) (.ref dq) (.ref dp) (.ref lv) (.ref sl) ds sd ul 2)]) hP hD [0] [1, 2, 3, 4, 5, 6, 7] rfl rfl (by decide) (by decide) hk1 hFc hP1 hD1
      clear hk1 hPc hDc hFc hP1 hD1 ht
      generalize H1 = H at hP hS ⊢
      have hP := hP.part (cx := [(oc8 x (.ref sh) (.ref lw) (.ref ro) (.ref bq) (.ref bp) (.ref dq) (.ref dp) (.ref lv) (.ref sl) ds sd ul 2), (oc7 sh (.ref fa) (nI ft)), (oq fa cF 200 FA), (oc1 fe2 rk2 wd2 tw2 pa2 pb2 (.ref lo2) (.ref lk2) fm2), (oc4 lk2 (kd f0) (st f0) (.ref r2) gb2 jt2 we2), (oc6 r2 (.ref rx2) (.ref ry2) (nI (nN (mn f0))) rg2), (oa rx2 cI cap2 U2), (oa ry2 cI cap2 V2)]) [7, 0, 1, 2, 3, 4, 5, 6] rfl
      have hD := hD.part (cx := [(oc8 x (.ref sh) (.ref lw) (.ref ro) (.ref bq) (.ref bp) (.ref dq) (.ref dp) (.ref lv) (.ref sl) ds sd ul 2), (oc7 sh (.ref fa) (nI ft)), (oq fa cF 200 FA), (oc1 fe2 rk2 wd2 tw2 pa2 pb2 (.ref lo2) (.ref lk2) fm2), (oc4 lk2 (kd f0) (st f0) (.ref r2) gb2 jt2 we2), (oc6 r2 (.ref rx2) (.ref ry2) (nI (nN (mn f0))) rg2), (oa rx2 cI cap2 U2), (oa ry2 cI cap2 V2)]) [7, 0, 1, 2, 3, 4, 5, 6] (by decide) rfl
      have hP : va_P (dC, dI) classes ([(oc8 x (.ref sh) (.ref lw) (.ref ro) (.ref bq) (.ref bp) (.ref dq) (.ref dp) (.ref lv) (.ref sl) ds sd ul 2), (oc7 sh (.ref fa) (nI ft)), (oq fa cF 200 FA), (oc1 fe2 rk2 wd2 tw2 pa2 pb2 (.ref lo2) (.ref lk2) fm2), (oc4 lk2 (kd f0) (st f0) (.ref r2) gb2 jt2 we2), (oc6 r2 (.ref rx2) (.ref ry2) (nI (nN (mn f0))) rg2), (oa rx2 cI cap2 U2), (oa ry2 cI cap2 V2)] ++ va_pl T_1 f) H := hP
      have hD : va_D A ([(oc8 x (.ref sh) (.ref lw) (.ref ro) (.ref bq) (.ref bp) (.ref dq) (.ref dp) (.ref lv) (.ref sl) ds sd ul 2), (oc7 sh (.ref fa) (nI ft)), (oq fa cF 200 FA), (oc1 fe2 rk2 wd2 tw2 pa2 pb2 (.ref lo2) (.ref lk2) fm2), (oc4 lk2 (kd f0) (st f0) (.ref r2) gb2 jt2 we2), (oc6 r2 (.ref rx2) (.ref ry2) (nI (nN (mn f0))) rg2), (oa rx2 cI cap2 U2), (oa ry2 cI cap2 V2)] ++ va_pl T_1 f) := hD
      have hP := pl_back (cs := [(oc1 fe2 rk2 wd2 tw2 pa2 pb2 (.ref lo2) (.ref lk2) fm2), (oc4 lk2 (kd f0) (st f0) (.ref r2) gb2 jt2 we2), (oc6 r2 (.ref rx2) (.ref ry2) (nI (nN (mn f0))) rg2), (oa rx2 cI cap2 U2), (oa ry2 cI cap2 V2)]) (L := L) (f := f) (X := [(oc8 x (.ref sh) (.ref lw) (.ref ro) (.ref bq) (.ref bp) (.ref dq) (.ref dp) (.ref lv) (.ref sl) ds sd ul 2), (oc7 sh (.ref fa) (nI ft)), (oq fa cF 200 FA)]) (by rw [hT_1]; exact (show va_P (dC, dI) classes (([(oc8 x (.ref sh) (.ref lw) (.ref ro) (.ref bq) (.ref bp) (.ref dq) (.ref dp) (.ref lv) (.ref sl) ds sd ul 2), (oc7 sh (.ref fa) (nI ft)), (oq fa cF 200 FA)] ++ [(oc1 fe2 rk2 wd2 tw2 pa2 pb2 (.ref lo2) (.ref lk2) fm2), (oc4 lk2 (kd f0) (st f0) (.ref r2) gb2 jt2 we2), (oc6 r2 (.ref rx2) (.ref ry2) (nI (nN (mn f0))) rg2), (oa rx2 cI cap2 U2), (oa ry2 cI cap2 V2)]) ++ va_pl T_1 f) H from hP)) hc9_1
      have hD : va_D A ([(oc8 x (.ref sh) (.ref lw) (.ref ro) (.ref bq) (.ref bp) (.ref dq) (.ref dp) (.ref lv) (.ref sl) ds sd ul 2), (oc7 sh (.ref fa) (nI ft)), (oq fa cF 200 FA)] ++ va_pl L f) := vaD_ae hD0_1 rfl
      have hP9 := hP.part (cx := [(oc8 x (.ref sh) (.ref lw) (.ref ro) (.ref bq) (.ref bp) (.ref dq) (.ref dp) (.ref lv) (.ref sl) ds sd ul 2), (oc7 sh (.ref fa) (nI ft)), (oq fa cF 200 FA)]) [0, 1, 2] rfl
      have hD9 := hD.part (cx := [(oc8 x (.ref sh) (.ref lw) (.ref ro) (.ref bq) (.ref bp) (.ref dq) (.ref dp) (.ref lv) (.ref sl) ds sd ul 2), (oc7 sh (.ref fa) (nI ft)), (oq fa cF 200 FA)]) [0, 1, 2] (by decide) rfl
      rw [hQ9]
      exact W.zret (ty := .boolean) (v := 0) hx hb hr (rfl) (fun t ht hW => ⟨⟨rfl, ul, 2, by rw [ht]; exact hP9, hD9⟩, hS.F ht⟩) hS.2.2 dX10_drop_35
set_option maxHeartbeats 4000000 in
set_option maxRecDepth 100000 in
theorem k_tear_r (l : Launch) (dC : Nat → ClassId) (dI : Nat → Nat → Nat) (cI cZ cF : ClassId) (sz : Nat) (x : Nat) (sh : Nat) (lw : Nat) (ro : Nat) (bq : Nat) (bp : Nat) (dq : Nat) (dp : Nat) (lv : Nat) (sl : Nat) (sd : Int32) (ul : Int32) (su : Int32) (ds : Int32) (fa : Nat) (ft : Nat) (FA : Nat → Option Nat) (f0 : Nat) (L : List Nat) (f : Nat → va_E) (kd : Nat → Int32) (st : Nat → Int32) (tn : Nat → Int32) (mn : Nat → Int32) (cx : Nat → Int32) (cy : Nat → Int32) (h200 : ft ≤ 200) (hf0 : f0 < ft) (hvw : ∀ q, q < ft → vwO cI L f FA kd st tn mn cx cy q) (hbad : ¬ (¬ (st f0).toInt = 2 ∧ (tn f0).toInt = 0)) : Met l yX10_tear (.code yX10_tear cX10_tear 3 (some .boolean) :: ws0) ({ frames := 2, cells := 0, slots := 0, locals := 42 } : Room) (va_Pc [.ref x, .int (nI f0)] (zPre (dC, dI) classes (zTy cI cZ cF) ([(oc8 x (.ref sh) (.ref lw) (.ref ro) (.ref bq) (.ref bp) (.ref dq) (.ref dp) (.ref lv) (.ref sl) ds sd ul su), (oc7 sh (.ref fa) (nI ft)), (oq fa cF 200 FA)] ++ va_pl L f) sz zXN)) (zQ (some (.int 0)) (fun t => ∃ (ul1 : Int32), ∃ (su1 : Int32), va_P (dC, dI) classes ([(oc8 x (.ref sh) (.ref lw) (.ref ro) (.ref bq) (.ref bp) (.ref dq) (.ref dp) (.ref lv) (.ref sl) ds sd ul1 su1), (oc7 sh (.ref fa) (nI ft)), (oq fa cF 200 FA)] ++ va_pl L f) t.heap ∧ va_D (va_A ([(oc8 x (.ref sh) (.ref lw) (.ref ro) (.ref bq) (.ref bp) (.ref dq) (.ref dp) (.ref lv) (.ref sl) ds sd ul su), (oc7 sh (.ref fa) (nI ft)), (oq fa cF 200 FA)] ++ va_pl L f) sz) ([(oc8 x (.ref sh) (.ref lw) (.ref ro) (.ref bq) (.ref bp) (.ref dq) (.ref dp) (.ref lv) (.ref sl) ds sd ul1 su1), (oc7 sh (.ref fa) (nI ft)), (oq fa cF 200 FA)] ++ va_pl L f)) (va_A ([(oc8 x (.ref sh) (.ref lw) (.ref ro) (.ref bq) (.ref bp) (.ref dq) (.ref dp) (.ref lv) (.ref sl) ds sd ul su), (oc7 sh (.ref fa) (nI ft)), (oq fa cF 200 FA)] ++ va_pl L f) sz)) 0 0 (va_A ([(oc8 x (.ref sh) (.ref lw) (.ref ro) (.ref bq) (.ref bp) (.ref dq) (.ref dp) (.ref lv) (.ref sl) ds sd ul su), (oc7 sh (.ref fa) (nI ft)), (oq fa cF 200 FA)] ++ va_pl L f) sz) := by
  refine Met.ofW (cc := cX10_tear) (maxL := 3) (ret := (some .boolean)) (by decide) rfl ?_
  intro p e s m args below meth c s₁ B hml hv
  obtain ⟨rfl, hsz, hP, hK, hD0, hXN⟩ := hv
  have hx := B.exec
  have hb := B.bytes
  have hr := B.returns
  have hts0 := atoms_spec (ws := .code yX10_tear cX10_tear 3 (some .boolean) :: ws0) B.pre
  have hts : ∀ w9 ∈ ws0, w9.before ([.ref x, .int (nI f0)] : List Value).toArray s = true := fun w9 h => hts0 w9 (List.mem_cons_of_mem _ h)
  have hown : s.vm.findClass "ScaleShop" = some m.cls := findClass_of_methodNamed B.named
  have hlocks := B.notSynchronized
  subst hsz
  have hD := hD0.self (sz := s.heap.size)
  clear hD0
  generalize hAe : va_A ([(oc8 x (.ref sh) (.ref lw) (.ref ro) (.ref bq) (.ref bp) (.ref dq) (.ref dp) (.ref lv) (.ref sl) ds sd ul su), (oc7 sh (.ref fa) (nI ft)), (oq fa cF 200 FA)] ++ va_pl L f) s.heap.size = A at hD ⊢
  have hA : ∀ q : Nat, s.heap.size ≤ q → A q := fun q h => by rw [← hAe]; exact Or.inr h
  clear hAe
  have hS : va_S A s.heap s.heap [] := va_S.rf
  have hP : va_P (dC, dI) classes ([(oc8 x (.ref sh) (.ref lw) (.ref ro) (.ref bq) (.ref bp) (.ref dq) (.ref dp) (.ref lv) (.ref sl) ds sd ul su), (oc7 sh (.ref fa) (nI ft)), (oq fa cF 200 FA)] ++ va_pl L f) s.heap := hP
  obtain ⟨Q9, hQ9⟩ : ∃ Q9 : State → Prop, Q9 = MQ below (zQ (some (.int 0)) (fun t => ∃ (ul1 : Int32), ∃ (su1 : Int32), va_P (dC, dI) classes ([(oc8 x (.ref sh) (.ref lw) (.ref ro) (.ref bq) (.ref bp) (.ref dq) (.ref dp) (.ref lv) (.ref sl) ds sd ul1 su1), (oc7 sh (.ref fa) (nI ft)), (oq fa cF 200 FA)] ++ va_pl L f) t.heap ∧ va_D A ([(oc8 x (.ref sh) (.ref lw) (.ref ro) (.ref bq) (.ref bp) (.ref dq) (.ref dp) (.ref lv) (.ref sl) ds sd ul1 su1), (oc7 sh (.ref fa) (nI ft)), (oq fa cF 200 FA)] ++ va_pl L f)) A) ([.ref x, .int (nI f0)] : List Value).toArray s 0 0 A := ⟨_, rfl⟩
  rw [← hQ9]
  have hl := lv_entry ([.ref x, .int (nI f0)]) (n := 3) (Nat.le_of_ble_eq_true rfl)
  rw [lg_entry_eq]
  generalize (lg_sl ([.ref x, .int (nI f0)]) ++ List.replicate (3 - (lg_sl ([.ref x, .int (nI f0)])).length) Slot.unset).toArray = ls at hl ⊢
  have hl : lv_has ls 3 [(0, .ref x), (1, .int (nI f0))] := hl
  rcases vw2 (hvw f0 (show f0 < ft by omega)) with ⟨ht2, fe2, lk2, lo2, rk2, wd2, tw2, pa2, pb2, gb2, jt2, we2, fm2, hFA2, hfe2, hlk2⟩ | ⟨ht2, fe2, lk2, lo2, rk2, wd2, tw2, pa2, pb2, gb2, jt2, we2, fm2, r2, rx2, ry2, cap2, U2, V2, rg2, hFA2, hfe2, hlk2, ⟨hr2, hrx2, hry2, hne2⟩, hrr2⟩
  · skip
    have hc9_1 : inPl L f [(oc1 fe2 rk2 wd2 tw2 pa2 pb2 (.ref lo2) (.ref lk2) fm2), (oc4 lk2 (kd f0) (st f0) .null gb2 jt2 we2)] := ⟨hfe2, hlk2, trivial⟩
    have hD0_1 := hD
    obtain ⟨hP, hD⟩ := pl_out hP hD [(oc1 fe2 rk2 wd2 tw2 pa2 pb2 (.ref lo2) (.ref lk2) fm2), (oc4 lk2 (kd f0) (st f0) .null gb2 jt2 we2)] hc9_1 (pwF hfe2.2 hlk2.2)
    generalize hT_1 : outPl L [(oc1 fe2 rk2 wd2 tw2 pa2 pb2 (.ref lo2) (.ref lk2) fm2), (oc4 lk2 (kd f0) (st f0) .null gb2 jt2 we2)] = T_1 at hP hD
    have hP : va_P (dC, dI) classes ([(oc8 x (.ref sh) (.ref lw) (.ref ro) (.ref bq) (.ref bp) (.ref dq) (.ref dp) (.ref lv) (.ref sl) ds sd ul su), (oc7 sh (.ref fa) (nI ft)), (oq fa cF 200 FA), (oc1 fe2 rk2 wd2 tw2 pa2 pb2 (.ref lo2) (.ref lk2) fm2), (oc4 lk2 (kd f0) (st f0) .null gb2 jt2 we2)] ++ va_pl T_1 f) s.heap := hP
    have hD : va_D A ([(oc8 x (.ref sh) (.ref lw) (.ref ro) (.ref bq) (.ref bp) (.ref dq) (.ref dp) (.ref lv) (.ref sl) ds sd ul su), (oc7 sh (.ref fa) (nI ft)), (oq fa cF 200 FA), (oc1 fe2 rk2 wd2 tw2 pa2 pb2 (.ref lo2) (.ref lk2) fm2), (oc4 lk2 (kd f0) (st f0) .null gb2 jt2 we2)] ++ va_pl T_1 f) := hD
    refine lv_aload_n hx hb dX10_tear_0 rfl (lv_at hl 0 rfl) ?_
    refine va_get (D := (dC, dI)) (ci := 8) (v := .ref sh) (C := RX10) (T := TX10) (N := 13) hx hb hts inX10 hown hK hP 0 rfl rfl 0 (by decide) (hts _ mw_309) (fun _ h9 => h9) rfl dX10_tear_1 ?_
    refine lv_iload_n hx hb dX10_tear_4 rfl (lv_at hl 1 rfl) ?_
    have hPc := hP.sub (ws' := [(oc7 sh (.ref fa) (nI ft)), (oq fa cF 200 FA)]) [1, 2] rfl
    have hDc := hD.sub (ws' := [(oc7 sh (.ref fa) (nI ft)), (oq fa cF 200 FA)]) [1, 2] (by decide) rfl
    have hFc := va_free (wc := [(oc7 sh (.ref fa) (nI ft)), (oq fa cF 200 FA)]) hD hS hA [1, 2] rfl
    refine zcall (st1 := [.ref fe2]) (va_runV (As := [.int (nI f0)]) (rest := []) ⟨hx, hb, hml, hown, hts⟩ (k_Sheet_find l dC dI cI cZ cF s.heap.size sh fa ft FA f0 fe2 (by omega) (by omega) (hFA2)) (cwV 1 hts (zz_gV mw_498 mw_499 mw_500 mw_100 mc_yX8_find) rfl rfl rfl (by decide +kernel) ⟨Nat.le_of_ble_eq_true rfl, Nat.le_of_ble_eq_true rfl⟩) (zPV2 (q0 := 0) (ci := 7) hPc hDc hK hXN rfl rfl) rfl rfl hl.1 rfl (lv_room (Nat.le_of_ble_eq_true rfl)) dX10_tear_5 ⟨Nat.le_of_ble_eq_true rfl, Nat.le_of_ble_eq_true rfl⟩) hS hFc hFc rfl (fun t H1 locs ht hB hk1 hS => ?_)
    obtain ⟨hP1, hD1⟩ := hB
    rw [ht] at hP1
    obtain ⟨hP, hD⟩ := va_joinQ (wr := [(oc8 x (.ref sh) (.ref lw) (.ref ro) (.ref bq) (.ref bp) (.ref dq) (.ref dp) (.ref lv) (.ref sl) ds sd ul su), (oc1 fe2 rk2 wd2 tw2 pa2 pb2 (.ref lo2) (.ref lk2) fm2), (oc4 lk2 (kd f0) (st f0) .null gb2 jt2 we2)]) (w1 := [(oc7 sh (.ref fa) (nI ft)), (oq fa cF 200 FA)]) hP hD [1, 2] [0, 3, 4] rfl rfl (by decide) (by decide) hk1 hFc hP1 hD1
    clear hk1 hPc hDc hFc hP1 hD1 ht
    generalize H1 = H at hP hS ⊢
    have hP := hP.part (cx := [(oc8 x (.ref sh) (.ref lw) (.ref ro) (.ref bq) (.ref bp) (.ref dq) (.ref dp) (.ref lv) (.ref sl) ds sd ul su), (oc7 sh (.ref fa) (nI ft)), (oq fa cF 200 FA), (oc1 fe2 rk2 wd2 tw2 pa2 pb2 (.ref lo2) (.ref lk2) fm2), (oc4 lk2 (kd f0) (st f0) .null gb2 jt2 we2)]) [0, 3, 4, 1, 2] rfl
    have hD := hD.part (cx := [(oc8 x (.ref sh) (.ref lw) (.ref ro) (.ref bq) (.ref bp) (.ref dq) (.ref dp) (.ref lv) (.ref sl) ds sd ul su), (oc7 sh (.ref fa) (nI ft)), (oq fa cF 200 FA), (oc1 fe2 rk2 wd2 tw2 pa2 pb2 (.ref lo2) (.ref lk2) fm2), (oc4 lk2 (kd f0) (st f0) .null gb2 jt2 we2)]) [0, 3, 4, 1, 2] (by decide) rfl
    have hP : va_P (dC, dI) classes ([(oc8 x (.ref sh) (.ref lw) (.ref ro) (.ref bq) (.ref bp) (.ref dq) (.ref dp) (.ref lv) (.ref sl) ds sd ul su), (oc7 sh (.ref fa) (nI ft)), (oq fa cF 200 FA), (oc1 fe2 rk2 wd2 tw2 pa2 pb2 (.ref lo2) (.ref lk2) fm2), (oc4 lk2 (kd f0) (st f0) .null gb2 jt2 we2)] ++ va_pl T_1 f) H := hP
    have hD : va_D A ([(oc8 x (.ref sh) (.ref lw) (.ref ro) (.ref bq) (.ref bp) (.ref dq) (.ref dp) (.ref lv) (.ref sl) ds sd ul su), (oc7 sh (.ref fa) (nI ft)), (oq fa cF 200 FA), (oc1 fe2 rk2 wd2 tw2 pa2 pb2 (.ref lo2) (.ref lk2) fm2), (oc4 lk2 (kd f0) (st f0) .null gb2 jt2 we2)] ++ va_pl T_1 f) := hD
    refine lv_astore_n (lv' := [(2, .ref fe2), (0, .ref x), (1, .int (nI f0))]) hx hb dX10_tear_8 rfl hl (by decide) rfl (fun ls hl => ?_)
    refine lv_aload_n hx hb dX10_tear_9 rfl (lv_at hl 0 rfl) ?_
    refine lv_ifnonnull (tgt := 19) hx hb dX10_tear_10 (by decide) ?_
    refine lv_aload_n hx hb dX10_tear_19 rfl (lv_at hl 0 rfl) ?_
    refine va_get (D := (dC, dI)) (ci := 1) (v := .ref lk2) (C := RX2) (T := TX2) (N := 8) hx hb hts inX2 hown hK hP 3 rfl rfl 6 (by decide) (hts _ mw_433) (fun _ h9 => h9) rfl dX10_tear_20 ?_
    refine va_get (D := (dC, dI)) (ci := 4) (v := .int (st f0)) (C := RX5) (T := TX5) (N := 6) hx hb hts inX5 hown hK hP 4 rfl rfl 1 (by decide) (hts _ mw_385) (fun _ h9 => h9) rfl dX10_tear_23 ?_
    refine lv_iconst (v := 2) hx hb dX10_tear_26 (by decide) ?_
    refine lv_icmp_ne (tgt := 36) hx hb dX10_tear_27 (by decide) (fun c_1 => ?_) (fun c_1 => ?_)
    · have c_1 : ¬ (st f0).toInt = 2 := zc_ne rfl (by decide) c_1
      refine lv_aload_n hx hb dX10_tear_36 rfl (lv_at hl 0 rfl) ?_
      refine va_get (D := (dC, dI)) (ci := 1) (v := .ref lk2) (C := RX2) (T := TX2) (N := 8) hx hb hts inX2 hown hK hP 3 rfl rfl 6 (by decide) (hts _ mw_433) (fun _ h9 => h9) rfl dX10_tear_37 ?_
      refine va_get (D := (dC, dI)) (ci := 4) (v := .null) (C := RX5) (T := TX5) (N := 6) hx hb hts inX5 hown hK hP 4 rfl rfl 2 (by decide) (hts _ mw_391) (fun _ h9 => h9) rfl dX10_tear_40 ?_
      refine lv_ifnonnullN hx hb dX10_tear_43 ?_
      refine lv_aload_n hx hb dX10_tear_46 rfl (lv_at hl 1 rfl) ?_
      refine lv_iconst (v := 5) hx hb dX10_tear_47 (by decide) ?_
      have hPc := hP.sub (ws' := [(oc8 x (.ref sh) (.ref lw) (.ref ro) (.ref bq) (.ref bp) (.ref dq) (.ref dp) (.ref lv) (.ref sl) ds sd ul su)]) [0] rfl
      have hDc := hD.sub (ws' := [(oc8 x (.ref sh) (.ref lw) (.ref ro) (.ref bq) (.ref bp) (.ref dq) (.ref dp) (.ref lv) (.ref sl) ds sd ul su)]) [0] (by decide) rfl
      have hFc := va_free (wc := [(oc8 x (.ref sh) (.ref lw) (.ref ro) (.ref bq) (.ref bp) (.ref dq) (.ref dp) (.ref lv) (.ref sl) ds sd ul su)]) hD hS hA [0] rfl
      refine zcall (st1 := [.int 0]) (va_runV (As := [.int 5]) (rest := []) ⟨hx, hb, hml, hown, hts⟩ (k_deny_5 l dC dI cI cZ cF H.size x sh lw ro bq bp dq dp lv sl sd ul su ds ) (cwV 1 hts (zz_gV mw_513 mw_515 mw_4 mw_99 mc_yX10_deny) rfl rfl rfl (by decide +kernel) ⟨Nat.le_of_ble_eq_true rfl, Nat.le_of_ble_eq_true rfl⟩) (zPV2 (q0 := 0) (ci := 8) hPc hDc hK hXN rfl rfl) rfl rfl hl.1 rfl (lv_room (Nat.le_of_ble_eq_true rfl)) dX10_tear_48 ⟨Nat.le_of_ble_eq_true rfl, Nat.le_of_ble_eq_true rfl⟩) hS hFc hFc rfl (fun t H1 locs ht hB hk1 hS => ?_)
      obtain ⟨hP1, hD1⟩ := hB
      rw [ht] at hP1
      obtain ⟨hP, hD⟩ := va_joinQ (wr := [(oc7 sh (.ref fa) (nI ft)), (oq fa cF 200 FA), (oc1 fe2 rk2 wd2 tw2 pa2 pb2 (.ref lo2) (.ref lk2) fm2), (oc4 lk2 (kd f0) (st f0) .null gb2 jt2 we2)]) (w1 := [(oc8 x (.ref sh) (.ref lw) (.ref ro) (.ref bq) (.ref bp) (.ref dq) (.ref dp) (.ref lv) (.ref sl) ds sd ul 5)]) hP hD [0] [1, 2, 3, 4] rfl rfl (by decide) (by decide) hk1 hFc hP1 hD1
      clear hk1 hPc hDc hFc hP1 hD1 ht
      generalize H1 = H at hP hS ⊢
      have hP := hP.part (cx := [(oc8 x (.ref sh) (.ref lw) (.ref ro) (.ref bq) (.ref bp) (.ref dq) (.ref dp) (.ref lv) (.ref sl) ds sd ul 5), (oc7 sh (.ref fa) (nI ft)), (oq fa cF 200 FA), (oc1 fe2 rk2 wd2 tw2 pa2 pb2 (.ref lo2) (.ref lk2) fm2), (oc4 lk2 (kd f0) (st f0) .null gb2 jt2 we2)]) [4, 0, 1, 2, 3] rfl
      have hD := hD.part (cx := [(oc8 x (.ref sh) (.ref lw) (.ref ro) (.ref bq) (.ref bp) (.ref dq) (.ref dp) (.ref lv) (.ref sl) ds sd ul 5), (oc7 sh (.ref fa) (nI ft)), (oq fa cF 200 FA), (oc1 fe2 rk2 wd2 tw2 pa2 pb2 (.ref lo2) (.ref lk2) fm2), (oc4 lk2 (kd f0) (st f0) .null gb2 jt2 we2)]) [4, 0, 1, 2, 3] (by decide) rfl
      have hP : va_P (dC, dI) classes ([(oc8 x (.ref sh) (.ref lw) (.ref ro) (.ref bq) (.ref bp) (.ref dq) (.ref dp) (.ref lv) (.ref sl) ds sd ul 5), (oc7 sh (.ref fa) (nI ft)), (oq fa cF 200 FA), (oc1 fe2 rk2 wd2 tw2 pa2 pb2 (.ref lo2) (.ref lk2) fm2), (oc4 lk2 (kd f0) (st f0) .null gb2 jt2 we2)] ++ va_pl T_1 f) H := hP
      have hD : va_D A ([(oc8 x (.ref sh) (.ref lw) (.ref ro) (.ref bq) (.ref bp) (.ref dq) (.ref dp) (.ref lv) (.ref sl) ds sd ul 5), (oc7 sh (.ref fa) (nI ft)), (oq fa cF 200 FA), (oc1 fe2 rk2 wd2 tw2 pa2 pb2 (.ref lo2) (.ref lk2) fm2), (oc4 lk2 (kd f0) (st f0) .null gb2 jt2 we2)] ++ va_pl T_1 f) := hD
      have hP := pl_back (cs := [(oc1 fe2 rk2 wd2 tw2 pa2 pb2 (.ref lo2) (.ref lk2) fm2), (oc4 lk2 (kd f0) (st f0) .null gb2 jt2 we2)]) (L := L) (f := f) (X := [(oc8 x (.ref sh) (.ref lw) (.ref ro) (.ref bq) (.ref bp) (.ref dq) (.ref dp) (.ref lv) (.ref sl) ds sd ul 5), (oc7 sh (.ref fa) (nI ft)), (oq fa cF 200 FA)]) (by rw [hT_1]; exact (show va_P (dC, dI) classes (([(oc8 x (.ref sh) (.ref lw) (.ref ro) (.ref bq) (.ref bp) (.ref dq) (.ref dp) (.ref lv) (.ref sl) ds sd ul 5), (oc7 sh (.ref fa) (nI ft)), (oq fa cF 200 FA)] ++ [(oc1 fe2 rk2 wd2 tw2 pa2 pb2 (.ref lo2) (.ref lk2) fm2), (oc4 lk2 (kd f0) (st f0) .null gb2 jt2 we2)]) ++ va_pl T_1 f) H from hP)) hc9_1
      have hD : va_D A ([(oc8 x (.ref sh) (.ref lw) (.ref ro) (.ref bq) (.ref bp) (.ref dq) (.ref dp) (.ref lv) (.ref sl) ds sd ul 5), (oc7 sh (.ref fa) (nI ft)), (oq fa cF 200 FA)] ++ va_pl L f) := vaD_ae hD0_1 rfl
      have hP9 := hP.part (cx := [(oc8 x (.ref sh) (.ref lw) (.ref ro) (.ref bq) (.ref bp) (.ref dq) (.ref dp) (.ref lv) (.ref sl) ds sd ul 5), (oc7 sh (.ref fa) (nI ft)), (oq fa cF 200 FA)]) [0, 1, 2] rfl
      have hD9 := hD.part (cx := [(oc8 x (.ref sh) (.ref lw) (.ref ro) (.ref bq) (.ref bp) (.ref dq) (.ref dp) (.ref lv) (.ref sl) ds sd ul 5), (oc7 sh (.ref fa) (nI ft)), (oq fa cF 200 FA)]) [0, 1, 2] (by decide) rfl
      rw [hQ9]
      exact W.zret (ty := .boolean) (v := 0) hx hb hr (rfl) (fun t ht hW => ⟨⟨rfl, ul, 5, by rw [ht]; exact hP9, hD9⟩, hS.F ht⟩) hS.2.2 dX10_tear_51
    · have c_1 : (st f0).toInt = 2 := zc_eq rfl (by decide) c_1
      refine lv_aload_n hx hb dX10_tear_30 rfl (lv_at hl 1 rfl) ?_
      refine lv_iconst (v := 2) hx hb dX10_tear_31 (by decide) ?_
      have hPc := hP.sub (ws' := [(oc8 x (.ref sh) (.ref lw) (.ref ro) (.ref bq) (.ref bp) (.ref dq) (.ref dp) (.ref lv) (.ref sl) ds sd ul su)]) [0] rfl
      have hDc := hD.sub (ws' := [(oc8 x (.ref sh) (.ref lw) (.ref ro) (.ref bq) (.ref bp) (.ref dq) (.ref dp) (.ref lv) (.ref sl) ds sd ul su)]) [0] (by decide) rfl
      have hFc := va_free (wc := [(oc8 x (.ref sh) (.ref lw) (.ref ro) (.ref bq) (.ref bp) (.ref dq) (.ref dp) (.ref lv) (.ref sl) ds sd ul su)]) hD hS hA [0] rfl
      refine zcall (st1 := [.int 0]) (va_runV (As := [.int 2]) (rest := []) ⟨hx, hb, hml, hown, hts⟩ (k_deny_2 l dC dI cI cZ cF H.size x sh lw ro bq bp dq dp lv sl sd ul su ds ) (cwV 1 hts (zz_gV mw_513 mw_515 mw_4 mw_99 mc_yX10_deny) rfl rfl rfl (by decide +kernel) ⟨Nat.le_of_ble_eq_true rfl, Nat.le_of_ble_eq_true rfl⟩) (zPV2 (q0 := 0) (ci := 8) hPc hDc hK hXN rfl rfl) rfl rfl hl.1 rfl (lv_room (Nat.le_of_ble_eq_true rfl)) dX10_tear_32 ⟨Nat.le_of_ble_eq_true rfl, Nat.le_of_ble_eq_true rfl⟩) hS hFc hFc rfl (fun t H1 locs ht hB hk1 hS => ?_)
      obtain ⟨hP1, hD1⟩ := hB
      rw [ht] at hP1
      obtain ⟨hP, hD⟩ := va_joinQ (wr := [(oc7 sh (.ref fa) (nI ft)), (oq fa cF 200 FA), (oc1 fe2 rk2 wd2 tw2 pa2 pb2 (.ref lo2) (.ref lk2) fm2), (oc4 lk2 (kd f0) (st f0) .null gb2 jt2 we2)]) (w1 := [(oc8 x (.ref sh) (.ref lw) (.ref ro) (.ref bq) (.ref bp) (.ref dq) (.ref dp) (.ref lv) (.ref sl) ds sd ul 2)]) hP hD [0] [1, 2, 3, 4] rfl rfl (by decide) (by decide) hk1 hFc hP1 hD1
      clear hk1 hPc hDc hFc hP1 hD1 ht
      generalize H1 = H at hP hS ⊢
      have hP := hP.part (cx := [(oc8 x (.ref sh) (.ref lw) (.ref ro) (.ref bq) (.ref bp) (.ref dq) (.ref dp) (.ref lv) (.ref sl) ds sd ul 2), (oc7 sh (.ref fa) (nI ft)), (oq fa cF 200 FA), (oc1 fe2 rk2 wd2 tw2 pa2 pb2 (.ref lo2) (.ref lk2) fm2), (oc4 lk2 (kd f0) (st f0) .null gb2 jt2 we2)]) [4, 0, 1, 2, 3] rfl
      have hD := hD.part (cx := [(oc8 x (.ref sh) (.ref lw) (.ref ro) (.ref bq) (.ref bp) (.ref dq) (.ref dp) (.ref lv) (.ref sl) ds sd ul 2), (oc7 sh (.ref fa) (nI ft)), (oq fa cF 200 FA), (oc1 fe2 rk2 wd2 tw2 pa2 pb2 (.ref lo2) (.ref lk2) fm2), (oc4 lk2 (kd f0) (st f0) .null gb2 jt2 we2)]) [4, 0, 1, 2, 3] (by decide) rfl
      have hP : va_P (dC, dI) classes ([(oc8 x (.ref sh) (.ref lw) (.ref ro) (.ref bq) (.ref bp) (.ref dq) (.ref dp) (.ref lv) (.ref sl) ds sd ul 2), (oc7 sh (.ref fa) (nI ft)), (oq fa cF 200 FA), (oc1 fe2 rk2 wd2 tw2 pa2 pb2 (.ref lo2) (.ref lk2) fm2), (oc4 lk2 (kd f0) (st f0) .null gb2 jt2 we2)] ++ va_pl T_1 f) H := hP
      have hD : va_D A ([(oc8 x (.ref sh) (.ref lw) (.ref ro) (.ref bq) (.ref bp) (.ref dq) (.ref dp) (.ref lv) (.ref sl) ds sd ul 2), (oc7 sh (.ref fa) (nI ft)), (oq fa cF 200 FA), (oc1 fe2 rk2 wd2 tw2 pa2 pb2 (.ref lo2) (.ref lk2) fm2), (oc4 lk2 (kd f0) (st f0) .null gb2 jt2 we2)] ++ va_pl T_1 f) := hD
      have hP := pl_back (cs := [(oc1 fe2 rk2 wd2 tw2 pa2 pb2 (.ref lo2) (.ref lk2) fm2), (oc4 lk2 (kd f0) (st f0) .null gb2 jt2 we2)]) (L := L) (f := f) (X := [(oc8 x (.ref sh) (.ref lw) (.ref ro) (.ref bq) (.ref bp) (.ref dq) (.ref dp) (.ref lv) (.ref sl) ds sd ul 2), (oc7 sh (.ref fa) (nI ft)), (oq fa cF 200 FA)]) (by rw [hT_1]; exact (show va_P (dC, dI) classes (([(oc8 x (.ref sh) (.ref lw) (.ref ro) (.ref bq) (.ref bp) (.ref dq) (.ref dp) (.ref lv) (.ref sl) ds sd ul 2), (oc7 sh (.ref fa) (nI ft)), (oq fa cF 200 FA)] ++ [(oc1 fe2 rk2 wd2 tw2 pa2 pb2 (.ref lo2) (.ref lk2) fm2), (oc4 lk2 (kd f0) (st f0) .null gb2 jt2 we2)]) ++ va_pl T_1 f) H from hP)) hc9_1
      have hD : va_D A ([(oc8 x (.ref sh) (.ref lw) (.ref ro) (.ref bq) (.ref bp) (.ref dq) (.ref dp) (.ref lv) (.ref sl) ds sd ul 2), (oc7 sh (.ref fa) (nI ft)), (oq fa cF 200 FA)] ++ va_pl L f) := vaD_ae hD0_1 rfl
      have hP9 := hP.part (cx := [(oc8 x (.ref sh) (.ref lw) (.ref ro) (.ref bq) (.ref bp) (.ref dq) (.ref dp) (.ref lv) (.ref sl) ds sd ul 2), (oc7 sh (.ref fa) (nI ft)), (oq fa cF 200 FA)]) [0, 1, 2] rfl
      have hD9 := hD.part (cx := [(oc8 x (.ref sh) (.ref lw) (.ref ro) (.ref bq) (.ref bp) (.ref dq) (.ref dp) (.ref lv) (.ref sl) ds sd ul 2), (oc7 sh (.ref fa) (nI ft)), (oq fa cF 200 FA)]) [0, 1, 2] (by decide) rfl
      rw [hQ9]
      exact W.zret (ty := .boolean) (v := 0) hx hb hr (rfl) (fun t ht hW => ⟨⟨rfl, ul, 2, by rw [ht]; exact hP9, hD9⟩, hS.F ht⟩) hS.2.2 dX10_tear_35
  · skip
    have hcap2 := hrr2.1
    have hcap3 := hrr2.2.1
    have hc9_1 : inPl L f [(oc1 fe2 rk2 wd2 tw2 pa2 pb2 (.ref lo2) (.ref lk2) fm2), (oc4 lk2 (kd f0) (st f0) (.ref r2) gb2 jt2 we2), (oc6 r2 (.ref rx2) (.ref ry2) (nI (nN (mn f0))) rg2), (oa rx2 cI cap2 U2), (oa ry2 cI cap2 V2)] := ⟨hfe2, hlk2, hr2, hrx2, hry2, trivial⟩
    have hD0_1 := hD
    obtain ⟨hP, hD⟩ := pl_out hP hD [(oc1 fe2 rk2 wd2 tw2 pa2 pb2 (.ref lo2) (.ref lk2) fm2), (oc4 lk2 (kd f0) (st f0) (.ref r2) gb2 jt2 we2), (oc6 r2 (.ref rx2) (.ref ry2) (nI (nN (mn f0))) rg2), (oa rx2 cI cap2 U2), (oa ry2 cI cap2 V2)] hc9_1 (pwR hfe2.2 hlk2.2 hr2.2 hrx2.2 hry2.2 hne2)
    generalize hT_1 : outPl L [(oc1 fe2 rk2 wd2 tw2 pa2 pb2 (.ref lo2) (.ref lk2) fm2), (oc4 lk2 (kd f0) (st f0) (.ref r2) gb2 jt2 we2), (oc6 r2 (.ref rx2) (.ref ry2) (nI (nN (mn f0))) rg2), (oa rx2 cI cap2 U2), (oa ry2 cI cap2 V2)] = T_1 at hP hD
    have hP : va_P (dC, dI) classes ([(oc8 x (.ref sh) (.ref lw) (.ref ro) (.ref bq) (.ref bp) (.ref dq) (.ref dp) (.ref lv) (.ref sl) ds sd ul su), (oc7 sh (.ref fa) (nI ft)), (oq fa cF 200 FA), (oc1 fe2 rk2 wd2 tw2 pa2 pb2 (.ref lo2) (.ref lk2) fm2), (oc4 lk2 (kd f0) (st f0) (.ref r2) gb2 jt2 we2), (oc6 r2 (.ref rx2) (.ref ry2) (nI (nN (mn f0))) rg2), (oa rx2 cI cap2 U2), (oa ry2 cI cap2 V2)] ++ va_pl T_1 f) s.heap := hP
    have hD : va_D A ([(oc8 x (.ref sh) (.ref lw) (.ref ro) (.ref bq) (.ref bp) (.ref dq) (.ref dp) (.ref lv) (.ref sl) ds sd ul su), (oc7 sh (.ref fa) (nI ft)), (oq fa cF 200 FA), (oc1 fe2 rk2 wd2 tw2 pa2 pb2 (.ref lo2) (.ref lk2) fm2), (oc4 lk2 (kd f0) (st f0) (.ref r2) gb2 jt2 we2), (oc6 r2 (.ref rx2) (.ref ry2) (nI (nN (mn f0))) rg2), (oa rx2 cI cap2 U2), (oa ry2 cI cap2 V2)] ++ va_pl T_1 f) := hD
    refine lv_aload_n hx hb dX10_tear_0 rfl (lv_at hl 0 rfl) ?_
    refine va_get (D := (dC, dI)) (ci := 8) (v := .ref sh) (C := RX10) (T := TX10) (N := 13) hx hb hts inX10 hown hK hP 0 rfl rfl 0 (by decide) (hts _ mw_309) (fun _ h9 => h9) rfl dX10_tear_1 ?_
    refine lv_iload_n hx hb dX10_tear_4 rfl (lv_at hl 1 rfl) ?_
    have hPc := hP.sub (ws' := [(oc7 sh (.ref fa) (nI ft)), (oq fa cF 200 FA)]) [1, 2] rfl
    have hDc := hD.sub (ws' := [(oc7 sh (.ref fa) (nI ft)), (oq fa cF 200 FA)]) [1, 2] (by decide) rfl
    have hFc := va_free (wc := [(oc7 sh (.ref fa) (nI ft)), (oq fa cF 200 FA)]) hD hS hA [1, 2] rfl
    refine zcall (st1 := [.ref fe2]) (va_runV (As := [.int (nI f0)]) (rest := []) ⟨hx, hb, hml, hown, hts⟩ (k_Sheet_find l dC dI cI cZ cF s.heap.size sh fa ft FA f0 fe2 (by omega) (by omega) (hFA2)) (cwV 1 hts (zz_gV mw_498 mw_499 mw_500 mw_100 mc_yX8_find) rfl rfl rfl (by decide +kernel) ⟨Nat.le_of_ble_eq_true rfl, Nat.le_of_ble_eq_true rfl⟩) (zPV2 (q0 := 0) (ci := 7) hPc hDc hK hXN rfl rfl) rfl rfl hl.1 rfl (lv_room (Nat.le_of_ble_eq_true rfl)) dX10_tear_5 ⟨Nat.le_of_ble_eq_true rfl, Nat.le_of_ble_eq_true rfl⟩) hS hFc hFc rfl (fun t H1 locs ht hB hk1 hS => ?_)
    obtain ⟨hP1, hD1⟩ := hB
    rw [ht] at hP1
    obtain ⟨hP, hD⟩ := va_joinQ (wr := [(oc8 x (.ref sh) (.ref lw) (.ref ro) (.ref bq) (.ref bp) (.ref dq) (.ref dp) (.ref lv) (.ref sl) ds sd ul su), (oc1 fe2 rk2 wd2 tw2 pa2 pb2 (.ref lo2) (.ref lk2) fm2), (oc4 lk2 (kd f0) (st f0) (.ref r2) gb2 jt2 we2), (oc6 r2 (.ref rx2) (.ref ry2) (nI (nN (mn f0))) rg2), (oa rx2 cI cap2 U2), (oa ry2 cI cap2 V2)]) (w1 := [(oc7 sh (.ref fa) (nI ft)), (oq fa cF 200 FA)]) hP hD [1, 2] [0, 3, 4, 5, 6, 7] rfl rfl (by decide) (by decide) hk1 hFc hP1 hD1
    clear hk1 hPc hDc hFc hP1 hD1 ht
    generalize H1 = H at hP hS ⊢
    have hP := hP.part (cx := [(oc8 x (.ref sh) (.ref lw) (.ref ro) (.ref bq) (.ref bp) (.ref dq) (.ref dp) (.ref lv) (.ref sl) ds sd ul su), (oc7 sh (.ref fa) (nI ft)), (oq fa cF 200 FA), (oc1 fe2 rk2 wd2 tw2 pa2 pb2 (.ref lo2) (.ref lk2) fm2), (oc4 lk2 (kd f0) (st f0) (.ref r2) gb2 jt2 we2), (oc6 r2 (.ref rx2) (.ref ry2) (nI (nN (mn f0))) rg2), (oa rx2 cI cap2 U2), (oa ry2 cI cap2 V2)]) [0, 6, 7, 1, 2, 3, 4, 5] rfl
    have hD := hD.part (cx := [(oc8 x (.ref sh) (.ref lw) (.ref ro) (.ref bq) (.ref bp) (.ref dq) (.ref dp) (.ref lv) (.ref sl) ds sd ul su), (oc7 sh (.ref fa) (nI ft)), (oq fa cF 200 FA), (oc1 fe2 rk2 wd2 tw2 pa2 pb2 (.ref lo2) (.ref lk2) fm2), (oc4 lk2 (kd f0) (st f0) (.ref r2) gb2 jt2 we2), (oc6 r2 (.ref rx2) (.ref ry2) (nI (nN (mn f0))) rg2), (oa rx2 cI cap2 U2), (oa ry2 cI cap2 V2)]) [0, 6, 7, 1, 2, 3, 4, 5] (by decide) rfl
    have hP : va_P (dC, dI) classes ([(oc8 x (.ref sh) (.ref lw) (.ref ro) (.ref bq) (.ref bp) (.ref dq) (.ref dp) (.ref lv) (.ref sl) ds sd ul su), (oc7 sh (.ref fa) (nI ft)), (oq fa cF 200 FA), (oc1 fe2 rk2 wd2 tw2 pa2 pb2 (.ref lo2) (.ref lk2) fm2), (oc4 lk2 (kd f0) (st f0) (.ref r2) gb2 jt2 we2), (oc6 r2 (.ref rx2) (.ref ry2) (nI (nN (mn f0))) rg2), (oa rx2 cI cap2 U2), (oa ry2 cI cap2 V2)] ++ va_pl T_1 f) H := hP
    have hD : va_D A ([(oc8 x (.ref sh) (.ref lw) (.ref ro) (.ref bq) (.ref bp) (.ref dq) (.ref dp) (.ref lv) (.ref sl) ds sd ul su), (oc7 sh (.ref fa) (nI ft)), (oq fa cF 200 FA), (oc1 fe2 rk2 wd2 tw2 pa2 pb2 (.ref lo2) (.ref lk2) fm2), (oc4 lk2 (kd f0) (st f0) (.ref r2) gb2 jt2 we2), (oc6 r2 (.ref rx2) (.ref ry2) (nI (nN (mn f0))) rg2), (oa rx2 cI cap2 U2), (oa ry2 cI cap2 V2)] ++ va_pl T_1 f) := hD
    refine lv_astore_n (lv' := [(2, .ref fe2), (0, .ref x), (1, .int (nI f0))]) hx hb dX10_tear_8 rfl hl (by decide) rfl (fun ls hl => ?_)
    refine lv_aload_n hx hb dX10_tear_9 rfl (lv_at hl 0 rfl) ?_
    refine lv_ifnonnull (tgt := 19) hx hb dX10_tear_10 (by decide) ?_
    refine lv_aload_n hx hb dX10_tear_19 rfl (lv_at hl 0 rfl) ?_
    refine va_get (D := (dC, dI)) (ci := 1) (v := .ref lk2) (C := RX2) (T := TX2) (N := 8) hx hb hts inX2 hown hK hP 3 rfl rfl 6 (by decide) (hts _ mw_433) (fun _ h9 => h9) rfl dX10_tear_20 ?_
    refine va_get (D := (dC, dI)) (ci := 4) (v := .int (st f0)) (C := RX5) (T := TX5) (N := 6) hx hb hts inX5 hown hK hP 4 rfl rfl 1 (by decide) (hts _ mw_385) (fun _ h9 => h9) rfl dX10_tear_23 ?_
    refine lv_iconst (v := 2) hx hb dX10_tear_26 (by decide) ?_
    refine lv_icmp_ne (tgt := 36) hx hb dX10_tear_27 (by decide) (fun c_2 => ?_) (fun c_2 => ?_)
    · have c_2 : ¬ (st f0).toInt = 2 := zc_ne rfl (by decide) c_2
      refine lv_aload_n hx hb dX10_tear_36 rfl (lv_at hl 0 rfl) ?_
      refine va_get (D := (dC, dI)) (ci := 1) (v := .ref lk2) (C := RX2) (T := TX2) (N := 8) hx hb hts inX2 hown hK hP 3 rfl rfl 6 (by decide) (hts _ mw_433) (fun _ h9 => h9) rfl dX10_tear_37 ?_
      refine va_get (D := (dC, dI)) (ci := 4) (v := .ref r2) (C := RX5) (T := TX5) (N := 6) hx hb hts inX5 hown hK hP 4 rfl rfl 2 (by decide) (hts _ mw_391) (fun _ h9 => h9) rfl dX10_tear_40 ?_
      refine lv_ifnonnull (tgt := 52) hx hb dX10_tear_43 (by decide) ?_
      exfalso; omega
    · have c_2 : (st f0).toInt = 2 := zc_eq rfl (by decide) c_2
      refine lv_aload_n hx hb dX10_tear_30 rfl (lv_at hl 1 rfl) ?_
      refine lv_iconst (v := 2) hx hb dX10_tear_31 (by decide) ?_
      have hPc := hP.sub (ws' := [(oc8 x (.ref sh) (.ref lw) (.ref ro) (.ref bq) (.ref bp) (.ref dq) (.ref dp) (.ref lv) (.ref sl) ds sd ul su)]) [0] rfl
      have hDc := hD.sub (ws' := [(oc8 x (.ref sh) (.ref lw) (.ref ro) (.ref bq) (.ref bp) (.ref dq) (.ref dp) (.ref lv) (.ref sl) ds sd ul su)]) [0] (by decide) rfl
      have hFc := va_free (wc := [(oc8 x (.ref sh) (.ref lw) (.ref ro) (.ref bq) (.ref bp) (.ref dq) (.ref dp) (.ref lv) (.ref sl) ds sd ul su)]) hD hS hA [0] rfl
      refine zcall (st1 := [.int 0]) (va_runV (As := [.int 2]) (rest := []) ⟨hx, hb, hml, hown, hts⟩ (k_deny_2 l dC dI cI cZ cF H.size x sh lw ro bq bp dq dp lv sl sd ul su ds ) (cwV 1 hts (zz_gV mw_513 mw_515 mw_4 mw_99 mc_yX10_deny) rfl rfl rfl (by decide +kernel) ⟨Nat.le_of_ble_eq_true rfl, Nat.le_of_ble_eq_true rfl⟩) (zPV2 (q0 := 0) (ci := 8) hPc hDc hK hXN rfl rfl) rfl rfl hl.1 rfl (lv_room (Nat.le_of_ble_eq_true rfl)) dX10_tear_32 ⟨Nat.le_of_ble_eq_true rfl, Nat.le_of_ble_eq_true rfl⟩) hS hFc hFc rfl (fun t H1 locs ht hB hk1 hS => ?_)
      obtain ⟨hP1, hD1⟩ := hB
      rw [ht] at hP1
      obtain ⟨hP, hD⟩ := va_joinQ (wr := [(oc7 sh (.ref fa) (nI ft)), (oq fa cF 200 FA), (oc1 fe2 rk2 wd2 tw2 pa2 pb2 (.ref lo2) (.ref lk2) fm2), (oc4 lk2 (kd f0) (st f0) (.ref r2) gb2 jt2 we2), (oc6 r2 (.ref rx2) (.ref ry2) (nI (nN (mn f0))) rg2), (oa rx2 cI cap2 U2), (oa ry2 cI cap2 V2)]) (w1 := [(oc8 x (.ref sh) (.ref lw) (.ref ro) (.ref bq) (.ref bp) (.ref dq) (.ref dp) (.ref lv) (.ref sl) ds sd ul 2)]) hP hD [0] [1, 2, 3, 4, 5, 6, 7] rfl rfl (by decide) (by decide) hk1 hFc hP1 hD1
      clear hk1 hPc hDc hFc hP1 hD1 ht
      generalize H1 = H at hP hS ⊢
      have hP := hP.part (cx := [(oc8 x (.ref sh) (.ref lw) (.ref ro) (.ref bq) (.ref bp) (.ref dq) (.ref dp) (.ref lv) (.ref sl) ds sd ul 2), (oc7 sh (.ref fa) (nI ft)), (oq fa cF 200 FA), (oc1 fe2 rk2 wd2 tw2 pa2 pb2 (.ref lo2) (.ref lk2) fm2), (oc4 lk2 (kd f0) (st f0) (.ref r2) gb2 jt2 we2), (oc6 r2 (.ref rx2) (.ref ry2) (nI (nN (mn f0))) rg2), (oa rx2 cI cap2 U2), (oa ry2 cI cap2 V2)]) [7, 0, 1, 2, 3, 4, 5, 6] rfl
      have hD := hD.part (cx := [(oc8 x (.ref sh) (.ref lw) (.ref ro) (.ref bq) (.ref bp) (.ref dq) (.ref dp) (.ref lv) (.ref sl) ds sd ul 2), (oc7 sh (.ref fa) (nI ft)), (oq fa cF 200 FA), (oc1 fe2 rk2 wd2 tw2 pa2 pb2 (.ref lo2) (.ref lk2) fm2), (oc4 lk2 (kd f0) (st f0) (.ref r2) gb2 jt2 we2), (oc6 r2 (.ref rx2) (.ref ry2) (nI (nN (mn f0))) rg2), (oa rx2 cI cap2 U2), (oa ry2 cI cap2 V2)]) [7, 0, 1, 2, 3, 4, 5, 6] (by decide) rfl
      have hP : va_P (dC, dI) classes ([(oc8 x (.ref sh) (.ref lw) (.ref ro) (.ref bq) (.ref bp) (.ref dq) (.ref dp) (.ref lv) (.ref sl) ds sd ul 2), (oc7 sh (.ref fa) (nI ft)), (oq fa cF 200 FA), (oc1 fe2 rk2 wd2 tw2 pa2 pb2 (.ref lo2) (.ref lk2) fm2), (oc4 lk2 (kd f0) (st f0) (.ref r2) gb2 jt2 we2), (oc6 r2 (.ref rx2) (.ref ry2) (nI (nN (mn f0))) rg2), (oa rx2 cI cap2 U2), (oa ry2 cI cap2 V2)] ++ va_pl T_1 f) H := hP
      have hD : va_D A ([(oc8 x (.ref sh) (.ref lw) (.ref ro) (.ref bq) (.ref bp) (.ref dq) (.ref dp) (.ref lv) (.ref sl) ds sd ul 2), (oc7 sh (.ref fa) (nI ft)), (oq fa cF 200 FA), (oc1 fe2 rk2 wd2 tw2 pa2 pb2 (.ref lo2) (.ref lk2) fm2), (oc4 lk2 (kd f0) (st f0) (.ref r2) gb2 jt2 we2), (oc6 r2 (.ref rx2) (.ref ry2) (nI (nN (mn f0))) rg2), (oa rx2 cI cap2 U2), (oa ry2 cI cap2 V2)] ++ va_pl T_1 f) := hD
      have hP := pl_back (cs := [(oc1 fe2 rk2 wd2 tw2 pa2 pb2 (.ref lo2) (.ref lk2) fm2), (oc4 lk2 (kd f0) (st f0) (.ref r2) gb2 jt2 we2), (oc6 r2 (.ref rx2) (.ref ry2) (nI (nN (mn f0))) rg2), (oa rx2 cI cap2 U2), (oa ry2 cI cap2 V2)]) (L := L) (f := f) (X := [(oc8 x (.ref sh) (.ref lw) (.ref ro) (.ref bq) (.ref bp) (.ref dq) (.ref dp) (.ref lv) (.ref sl) ds sd ul 2), (oc7 sh (.ref fa) (nI ft)), (oq fa cF 200 FA)]) (by rw [hT_1]; exact (show va_P (dC, dI) classes (([(oc8 x (.ref sh) (.ref lw) (.ref ro) (.ref bq) (.ref bp) (.ref dq) (.ref dp) (.ref lv) (.ref sl) ds sd ul 2), (oc7 sh (.ref fa) (nI ft)), (oq fa cF 200 FA)] ++ [(oc1 fe2 rk2 wd2 tw2 pa2 pb2 (.ref lo2) (.ref lk2) fm2), (oc4 lk2 (kd f0) (st f0) (.ref r2) gb2 jt2 we2), (oc6 r2 (.ref rx2) (.ref ry2) (nI (nN (mn f0))) rg2), (oa rx2 cI cap2 U2), (oa ry2 cI cap2 V2)]) ++ va_pl T_1 f) H from hP)) hc9_1
      have hD : va_D A ([(oc8 x (.ref sh) (.ref lw) (.ref ro) (.ref bq) (.ref bp) (.ref dq) (.ref dp) (.ref lv) (.ref sl) ds sd ul 2), (oc7 sh (.ref fa) (nI ft)), (oq fa cF 200 FA)] ++ va_pl L f) := vaD_ae hD0_1 rfl
      have hP9 := hP.part (cx := [(oc8 x (.ref sh) (.ref lw) (.ref ro) (.ref bq) (.ref bp) (.ref dq) (.ref dp) (.ref lv) (.ref sl) ds sd ul 2), (oc7 sh (.ref fa) (nI ft)), (oq fa cF 200 FA)]) [0, 1, 2] rfl
      have hD9 := hD.part (cx := [(oc8 x (.ref sh) (.ref lw) (.ref ro) (.ref bq) (.ref bp) (.ref dq) (.ref dp) (.ref lv) (.ref sl) ds sd ul 2), (oc7 sh (.ref fa) (nI ft)), (oq fa cF 200 FA)]) [0, 1, 2] (by decide) rfl
      rw [hQ9]
      exact W.zret (ty := .boolean) (v := 0) hx hb hr (rfl) (fun t ht hW => ⟨⟨rfl, ul, 2, by rw [ht]; exact hP9, hD9⟩, hS.F ht⟩) hS.2.2 dX10_tear_35
set_option maxHeartbeats 4000000 in
set_option maxRecDepth 100000 in
theorem k_plainer_r (l : Launch) (dC : Nat → ClassId) (dI : Nat → Nat → Nat) (cI cZ cF : ClassId) (sz : Nat) (x : Nat) (sh : Nat) (lw : Nat) (ro : Nat) (bq : Nat) (bp : Nat) (dq : Nat) (dp : Nat) (lv : Nat) (sl : Nat) (sd : Int32) (ul : Int32) (su : Int32) (ds : Int32) (fa : Nat) (ft : Nat) (FA : Nat → Option Nat) (f0 : Nat) (L : List Nat) (f : Nat → va_E) (kd : Nat → Int32) (st : Nat → Int32) (tn : Nat → Int32) (mn : Nat → Int32) (cx : Nat → Int32) (cy : Nat → Int32) (lim : Int32) (h200 : ft ≤ 200) (hf0 : f0 < ft) (hvw : ∀ q, q < ft → vwO cI L f FA kd st tn mn cx cy q) (hbad : ¬ ((st f0).toInt = 1 ∧ (1 ≤ (kd f0).toInt ∧ (kd f0).toInt ≤ 5) ∧ 0 ≤ lim.toInt ∧ (tn f0).toInt = 0)) : Met l yX10_plainer (.code yX10_plainer cX10_plainer 5 (some .int) :: ws0) ({ frames := 1, cells := 0, slots := 0, locals := 21 } : Room) (va_Pc [.ref x, .int (nI f0), .int lim] (zPre (dC, dI) classes (zTy cI cZ cF) ([(oc8 x (.ref sh) (.ref lw) (.ref ro) (.ref bq) (.ref bp) (.ref dq) (.ref dp) (.ref lv) (.ref sl) ds sd ul su), (oc7 sh (.ref fa) (nI ft)), (oq fa cF 200 FA)] ++ va_pl L f) sz zXN)) (zQ (some (.int (-1))) (fun t => ∃ (ul1 : Int32), ∃ (su1 : Int32), va_P (dC, dI) classes ([(oc8 x (.ref sh) (.ref lw) (.ref ro) (.ref bq) (.ref bp) (.ref dq) (.ref dp) (.ref lv) (.ref sl) ds sd ul1 su1), (oc7 sh (.ref fa) (nI ft)), (oq fa cF 200 FA)] ++ va_pl L f) t.heap ∧ va_D (va_A ([(oc8 x (.ref sh) (.ref lw) (.ref ro) (.ref bq) (.ref bp) (.ref dq) (.ref dp) (.ref lv) (.ref sl) ds sd ul su), (oc7 sh (.ref fa) (nI ft)), (oq fa cF 200 FA)] ++ va_pl L f) sz) ([(oc8 x (.ref sh) (.ref lw) (.ref ro) (.ref bq) (.ref bp) (.ref dq) (.ref dp) (.ref lv) (.ref sl) ds sd ul1 su1), (oc7 sh (.ref fa) (nI ft)), (oq fa cF 200 FA)] ++ va_pl L f)) (va_A ([(oc8 x (.ref sh) (.ref lw) (.ref ro) (.ref bq) (.ref bp) (.ref dq) (.ref dp) (.ref lv) (.ref sl) ds sd ul su), (oc7 sh (.ref fa) (nI ft)), (oq fa cF 200 FA)] ++ va_pl L f) sz)) 0 0 (va_A ([(oc8 x (.ref sh) (.ref lw) (.ref ro) (.ref bq) (.ref bp) (.ref dq) (.ref dp) (.ref lv) (.ref sl) ds sd ul su), (oc7 sh (.ref fa) (nI ft)), (oq fa cF 200 FA)] ++ va_pl L f) sz) := by
  refine Met.ofW (cc := cX10_plainer) (maxL := 5) (ret := (some .int)) (by decide) rfl ?_
  intro p e s m args below meth c s₁ B hml hv
  obtain ⟨rfl, hsz, hP, hK, hD0, hXN⟩ := hv
  have hx := B.exec
  have hb := B.bytes
  have hr := B.returns
  have hts0 := atoms_spec (ws := .code yX10_plainer cX10_plainer 5 (some .int) :: ws0) B.pre
  have hts : ∀ w9 ∈ ws0, w9.before ([.ref x, .int (nI f0), .int lim] : List Value).toArray s = true := fun w9 h => hts0 w9 (List.mem_cons_of_mem _ h)
  have hown : s.vm.findClass "ScaleShop" = some m.cls := findClass_of_methodNamed B.named
  have hlocks := B.notSynchronized
  subst hsz
  have hD := hD0.self (sz := s.heap.size)
  clear hD0
  generalize hAe : va_A ([(oc8 x (.ref sh) (.ref lw) (.ref ro) (.ref bq) (.ref bp) (.ref dq) (.ref dp) (.ref lv) (.ref sl) ds sd ul su), (oc7 sh (.ref fa) (nI ft)), (oq fa cF 200 FA)] ++ va_pl L f) s.heap.size = A at hD ⊢
  have hA : ∀ q : Nat, s.heap.size ≤ q → A q := fun q h => by rw [← hAe]; exact Or.inr h
  clear hAe
  have hS : va_S A s.heap s.heap [] := va_S.rf
  have hP : va_P (dC, dI) classes ([(oc8 x (.ref sh) (.ref lw) (.ref ro) (.ref bq) (.ref bp) (.ref dq) (.ref dp) (.ref lv) (.ref sl) ds sd ul su), (oc7 sh (.ref fa) (nI ft)), (oq fa cF 200 FA)] ++ va_pl L f) s.heap := hP
  obtain ⟨Q9, hQ9⟩ : ∃ Q9 : State → Prop, Q9 = MQ below (zQ (some (.int (-1))) (fun t => ∃ (ul1 : Int32), ∃ (su1 : Int32), va_P (dC, dI) classes ([(oc8 x (.ref sh) (.ref lw) (.ref ro) (.ref bq) (.ref bp) (.ref dq) (.ref dp) (.ref lv) (.ref sl) ds sd ul1 su1), (oc7 sh (.ref fa) (nI ft)), (oq fa cF 200 FA)] ++ va_pl L f) t.heap ∧ va_D A ([(oc8 x (.ref sh) (.ref lw) (.ref ro) (.ref bq) (.ref bp) (.ref dq) (.ref dp) (.ref lv) (.ref sl) ds sd ul1 su1), (oc7 sh (.ref fa) (nI ft)), (oq fa cF 200 FA)] ++ va_pl L f)) A) ([.ref x, .int (nI f0), .int lim] : List Value).toArray s 0 0 A := ⟨_, rfl⟩
  rw [← hQ9]
  have hl := lv_entry ([.ref x, .int (nI f0), .int lim]) (n := 5) (Nat.le_of_ble_eq_true rfl)
  rw [lg_entry_eq]
  generalize (lg_sl ([.ref x, .int (nI f0), .int lim]) ++ List.replicate (5 - (lg_sl ([.ref x, .int (nI f0), .int lim])).length) Slot.unset).toArray = ls at hl ⊢
  have hl : lv_has ls 5 [(0, .ref x), (1, .int (nI f0)), (2, .int lim)] := hl
  rcases vw2 (hvw f0 (show f0 < ft by omega)) with ⟨ht2, fe2, lk2, lo2, rk2, wd2, tw2, pa2, pb2, gb2, jt2, we2, fm2, hFA2, hfe2, hlk2⟩ | ⟨ht2, fe2, lk2, lo2, rk2, wd2, tw2, pa2, pb2, gb2, jt2, we2, fm2, r2, rx2, ry2, cap2, U2, V2, rg2, hFA2, hfe2, hlk2, ⟨hr2, hrx2, hry2, hne2⟩, hrr2⟩
  · skip
    have hc9_1 : inPl L f [(oc1 fe2 rk2 wd2 tw2 pa2 pb2 (.ref lo2) (.ref lk2) fm2), (oc4 lk2 (kd f0) (st f0) .null gb2 jt2 we2)] := ⟨hfe2, hlk2, trivial⟩
    have hD0_1 := hD
    obtain ⟨hP, hD⟩ := pl_out hP hD [(oc1 fe2 rk2 wd2 tw2 pa2 pb2 (.ref lo2) (.ref lk2) fm2), (oc4 lk2 (kd f0) (st f0) .null gb2 jt2 we2)] hc9_1 (pwF hfe2.2 hlk2.2)
    generalize hT_1 : outPl L [(oc1 fe2 rk2 wd2 tw2 pa2 pb2 (.ref lo2) (.ref lk2) fm2), (oc4 lk2 (kd f0) (st f0) .null gb2 jt2 we2)] = T_1 at hP hD
    have hP : va_P (dC, dI) classes ([(oc8 x (.ref sh) (.ref lw) (.ref ro) (.ref bq) (.ref bp) (.ref dq) (.ref dp) (.ref lv) (.ref sl) ds sd ul su), (oc7 sh (.ref fa) (nI ft)), (oq fa cF 200 FA), (oc1 fe2 rk2 wd2 tw2 pa2 pb2 (.ref lo2) (.ref lk2) fm2), (oc4 lk2 (kd f0) (st f0) .null gb2 jt2 we2)] ++ va_pl T_1 f) s.heap := hP
    have hD : va_D A ([(oc8 x (.ref sh) (.ref lw) (.ref ro) (.ref bq) (.ref bp) (.ref dq) (.ref dp) (.ref lv) (.ref sl) ds sd ul su), (oc7 sh (.ref fa) (nI ft)), (oq fa cF 200 FA), (oc1 fe2 rk2 wd2 tw2 pa2 pb2 (.ref lo2) (.ref lk2) fm2), (oc4 lk2 (kd f0) (st f0) .null gb2 jt2 we2)] ++ va_pl T_1 f) := hD
    refine lv_aload_n hx hb dX10_plainer_0 rfl (lv_at hl 0 rfl) ?_
    refine va_get (D := (dC, dI)) (ci := 8) (v := .ref sh) (C := RX10) (T := TX10) (N := 13) hx hb hts inX10 hown hK hP 0 rfl rfl 0 (by decide) (hts _ mw_309) (fun _ h9 => h9) rfl dX10_plainer_1 ?_
    refine lv_iload_n hx hb dX10_plainer_4 rfl (lv_at hl 1 rfl) ?_
    have hPc := hP.sub (ws' := [(oc7 sh (.ref fa) (nI ft)), (oq fa cF 200 FA)]) [1, 2] rfl
    have hDc := hD.sub (ws' := [(oc7 sh (.ref fa) (nI ft)), (oq fa cF 200 FA)]) [1, 2] (by decide) rfl
    have hFc := va_free (wc := [(oc7 sh (.ref fa) (nI ft)), (oq fa cF 200 FA)]) hD hS hA [1, 2] rfl
    refine zcall (st1 := [.ref fe2]) (va_runV (As := [.int (nI f0)]) (rest := []) ⟨hx, hb, hml, hown, hts⟩ (k_Sheet_find l dC dI cI cZ cF s.heap.size sh fa ft FA f0 fe2 (by omega) (by omega) (hFA2)) (cwV 1 hts (zz_gV mw_498 mw_499 mw_500 mw_100 mc_yX8_find) rfl rfl rfl (by decide +kernel) ⟨Nat.le_of_ble_eq_true rfl, Nat.le_of_ble_eq_true rfl⟩) (zPV2 (q0 := 0) (ci := 7) hPc hDc hK hXN rfl rfl) rfl rfl hl.1 rfl (lv_room (Nat.le_of_ble_eq_true rfl)) dX10_plainer_5 ⟨Nat.le_of_ble_eq_true rfl, Nat.le_of_ble_eq_true rfl⟩) hS hFc hFc rfl (fun t H1 locs ht hB hk1 hS => ?_)
    obtain ⟨hP1, hD1⟩ := hB
    rw [ht] at hP1
    obtain ⟨hP, hD⟩ := va_joinQ (wr := [(oc8 x (.ref sh) (.ref lw) (.ref ro) (.ref bq) (.ref bp) (.ref dq) (.ref dp) (.ref lv) (.ref sl) ds sd ul su), (oc1 fe2 rk2 wd2 tw2 pa2 pb2 (.ref lo2) (.ref lk2) fm2), (oc4 lk2 (kd f0) (st f0) .null gb2 jt2 we2)]) (w1 := [(oc7 sh (.ref fa) (nI ft)), (oq fa cF 200 FA)]) hP hD [1, 2] [0, 3, 4] rfl rfl (by decide) (by decide) hk1 hFc hP1 hD1
    clear hk1 hPc hDc hFc hP1 hD1 ht
    generalize H1 = H at hP hS ⊢
    have hP := hP.part (cx := [(oc8 x (.ref sh) (.ref lw) (.ref ro) (.ref bq) (.ref bp) (.ref dq) (.ref dp) (.ref lv) (.ref sl) ds sd ul su), (oc7 sh (.ref fa) (nI ft)), (oq fa cF 200 FA), (oc1 fe2 rk2 wd2 tw2 pa2 pb2 (.ref lo2) (.ref lk2) fm2), (oc4 lk2 (kd f0) (st f0) .null gb2 jt2 we2)]) [0, 3, 4, 1, 2] rfl
    have hD := hD.part (cx := [(oc8 x (.ref sh) (.ref lw) (.ref ro) (.ref bq) (.ref bp) (.ref dq) (.ref dp) (.ref lv) (.ref sl) ds sd ul su), (oc7 sh (.ref fa) (nI ft)), (oq fa cF 200 FA), (oc1 fe2 rk2 wd2 tw2 pa2 pb2 (.ref lo2) (.ref lk2) fm2), (oc4 lk2 (kd f0) (st f0) .null gb2 jt2 we2)]) [0, 3, 4, 1, 2] (by decide) rfl
    have hP : va_P (dC, dI) classes ([(oc8 x (.ref sh) (.ref lw) (.ref ro) (.ref bq) (.ref bp) (.ref dq) (.ref dp) (.ref lv) (.ref sl) ds sd ul su), (oc7 sh (.ref fa) (nI ft)), (oq fa cF 200 FA), (oc1 fe2 rk2 wd2 tw2 pa2 pb2 (.ref lo2) (.ref lk2) fm2), (oc4 lk2 (kd f0) (st f0) .null gb2 jt2 we2)] ++ va_pl T_1 f) H := hP
    have hD : va_D A ([(oc8 x (.ref sh) (.ref lw) (.ref ro) (.ref bq) (.ref bp) (.ref dq) (.ref dp) (.ref lv) (.ref sl) ds sd ul su), (oc7 sh (.ref fa) (nI ft)), (oq fa cF 200 FA), (oc1 fe2 rk2 wd2 tw2 pa2 pb2 (.ref lo2) (.ref lk2) fm2), (oc4 lk2 (kd f0) (st f0) .null gb2 jt2 we2)] ++ va_pl T_1 f) := hD
    refine lv_astore_n (lv' := [(3, .ref fe2), (0, .ref x), (1, .int (nI f0)), (2, .int lim)]) hx hb dX10_plainer_8 rfl hl (by decide) rfl (fun ls hl => ?_)
    refine lv_aload_n hx hb dX10_plainer_9 rfl (lv_at hl 0 rfl) ?_
    refine lv_ifnonnull (tgt := 19) hx hb dX10_plainer_10 (by decide) ?_
    refine lv_aload_n hx hb dX10_plainer_19 rfl (lv_at hl 0 rfl) ?_
    refine va_get (D := (dC, dI)) (ci := 1) (v := .ref lk2) (C := RX2) (T := TX2) (N := 8) hx hb hts inX2 hown hK hP 3 rfl rfl 6 (by decide) (hts _ mw_433) (fun _ h9 => h9) rfl dX10_plainer_20 ?_
    refine va_get (D := (dC, dI)) (ci := 4) (v := .int (st f0)) (C := RX5) (T := TX5) (N := 6) hx hb hts inX5 hown hK hP 4 rfl rfl 1 (by decide) (hts _ mw_385) (fun _ h9 => h9) rfl dX10_plainer_23 ?_
    refine lv_iconst (v := 1) hx hb dX10_plainer_26 (by decide) ?_
    refine lv_icmp_eq (tgt := 36) hx hb dX10_plainer_27 (by decide) (fun c_1 => ?_) (fun c_1 => ?_)
    · have c_1 : (st f0).toInt = 1 := zc_eq rfl (by decide) c_1
      refine lv_aload_n hx hb dX10_plainer_36 rfl (lv_at hl 0 rfl) ?_
      have hPc := hP.sub (ws' := [(oc1 fe2 rk2 wd2 tw2 pa2 pb2 (.ref lo2) (.ref lk2) fm2), (oc4 lk2 (kd f0) (st f0) .null gb2 jt2 we2)]) [3, 4] rfl
      have hDc := hD.sub (ws' := [(oc1 fe2 rk2 wd2 tw2 pa2 pb2 (.ref lo2) (.ref lk2) fm2), (oc4 lk2 (kd f0) (st f0) .null gb2 jt2 we2)]) [3, 4] (by decide) rfl
      have hFc := va_free (wc := [(oc1 fe2 rk2 wd2 tw2 pa2 pb2 (.ref lo2) (.ref lk2) fm2), (oc4 lk2 (kd f0) (st f0) .null gb2 jt2 we2)]) hD hS hA [3, 4] rfl
      refine zcall (st1 := [.int (pI (1 ≤ (kd f0).toInt ∧ (kd f0).toInt ≤ 5))]) (va_runV (As := []) (rest := []) ⟨hx, hb, hml, hown, hts⟩ (k_Feature_bends_v l dC dI cI cZ cF H.size fe2 lo2 rk2 wd2 tw2 pa2 pb2 lk2 (kd f0) (st f0) gb2 jt2 we2 fm2 (.null) ) (cwV 0 hts (zz_gV mw_564 mw_565 mw_566 mw_111 mc_yX2_bends) rfl rfl rfl (by decide +kernel) ⟨Nat.le_of_ble_eq_true rfl, Nat.le_of_ble_eq_true rfl⟩) (zPV2 (q0 := 0) (ci := 1) hPc hDc hK hXN rfl rfl) rfl rfl hl.1 rfl (lv_room (Nat.le_of_ble_eq_true rfl)) dX10_plainer_37 ⟨Nat.le_of_ble_eq_true rfl, Nat.le_of_ble_eq_true rfl⟩) hS hFc hFc rfl (fun t H1 locs ht hB hk1 hS => ?_)
      obtain ⟨hP1, hD1⟩ := hB
      rw [ht] at hP1
      obtain ⟨hP, hD⟩ := va_joinQ (wr := [(oc8 x (.ref sh) (.ref lw) (.ref ro) (.ref bq) (.ref bp) (.ref dq) (.ref dp) (.ref lv) (.ref sl) ds sd ul su), (oc7 sh (.ref fa) (nI ft)), (oq fa cF 200 FA)]) (w1 := [(oc1 fe2 rk2 wd2 tw2 pa2 pb2 (.ref lo2) (.ref lk2) fm2), (oc4 lk2 (kd f0) (st f0) .null gb2 jt2 we2)]) hP hD [3, 4] [0, 1, 2] rfl rfl (by decide) (by decide) hk1 hFc hP1 hD1
      clear hk1 hPc hDc hFc hP1 hD1 ht
      generalize H1 = H at hP hS ⊢
      have hP : va_P (dC, dI) classes ([(oc8 x (.ref sh) (.ref lw) (.ref ro) (.ref bq) (.ref bp) (.ref dq) (.ref dp) (.ref lv) (.ref sl) ds sd ul su), (oc7 sh (.ref fa) (nI ft)), (oq fa cF 200 FA), (oc1 fe2 rk2 wd2 tw2 pa2 pb2 (.ref lo2) (.ref lk2) fm2), (oc4 lk2 (kd f0) (st f0) .null gb2 jt2 we2)] ++ va_pl T_1 f) H := hP
      have hD : va_D A ([(oc8 x (.ref sh) (.ref lw) (.ref ro) (.ref bq) (.ref bp) (.ref dq) (.ref dp) (.ref lv) (.ref sl) ds sd ul su), (oc7 sh (.ref fa) (nI ft)), (oq fa cF 200 FA), (oc1 fe2 rk2 wd2 tw2 pa2 pb2 (.ref lo2) (.ref lk2) fm2), (oc4 lk2 (kd f0) (st f0) .null gb2 jt2 we2)] ++ va_pl T_1 f) := hD
      refine lv_if_ne (tgt := 49) hx hb dX10_plainer_40 (by decide) (fun c_2 => ?_) (fun c_2 => ?_)
      · have c_2 : 1 ≤ (kd f0).toInt ∧ (kd f0).toInt ≤ 5 := zp_1 c_2
        refine lv_iload_n hx hb dX10_plainer_49 rfl (lv_at hl 3 rfl) ?_
        refine lv_if_ge (tgt := 59) hx hb dX10_plainer_50 (by decide) (fun c_3 => ?_) (fun c_3 => ?_)
        · have c_3 : 0 ≤ lim.toInt := zc_le (by decide) rfl c_3
          refine lv_aload_n hx hb dX10_plainer_59 rfl (lv_at hl 0 rfl) ?_
          refine va_get (D := (dC, dI)) (ci := 1) (v := .ref lk2) (C := RX2) (T := TX2) (N := 8) hx hb hts inX2 hown hK hP 3 rfl rfl 6 (by decide) (hts _ mw_433) (fun _ h9 => h9) rfl dX10_plainer_60 ?_
          refine va_get (D := (dC, dI)) (ci := 4) (v := .null) (C := RX5) (T := TX5) (N := 6) hx hb hts inX5 hown hK hP 4 rfl rfl 2 (by decide) (hts _ mw_391) (fun _ h9 => h9) rfl dX10_plainer_63 ?_
          refine lv_ifnonnullN hx hb dX10_plainer_66 ?_
          refine lv_aload_n hx hb dX10_plainer_69 rfl (lv_at hl 1 rfl) ?_
          refine lv_iconst (v := 5) hx hb dX10_plainer_70 (by decide) ?_
          have hPc := hP.sub (ws' := [(oc8 x (.ref sh) (.ref lw) (.ref ro) (.ref bq) (.ref bp) (.ref dq) (.ref dp) (.ref lv) (.ref sl) ds sd ul su)]) [0] rfl
          have hDc := hD.sub (ws' := [(oc8 x (.ref sh) (.ref lw) (.ref ro) (.ref bq) (.ref bp) (.ref dq) (.ref dp) (.ref lv) (.ref sl) ds sd ul su)]) [0] (by decide) rfl
          have hFc := va_free (wc := [(oc8 x (.ref sh) (.ref lw) (.ref ro) (.ref bq) (.ref bp) (.ref dq) (.ref dp) (.ref lv) (.ref sl) ds sd ul su)]) hD hS hA [0] rfl
          refine zcall (st1 := [.int (-1)]) (va_runV (As := [.int 5]) (rest := []) ⟨hx, hb, hml, hown, hts⟩ (k_refuse_5 l dC dI cI cZ cF H.size x sh lw ro bq bp dq dp lv sl sd ul su ds ) (cwV 1 hts (zz_gV mw_356 mw_358 mw_0 mw_99 mc_yX10_refuse) rfl rfl rfl (by decide +kernel) ⟨Nat.le_of_ble_eq_true rfl, Nat.le_of_ble_eq_true rfl⟩) (zPV2 (q0 := 0) (ci := 8) hPc hDc hK hXN rfl rfl) rfl rfl hl.1 rfl (lv_room (Nat.le_of_ble_eq_true rfl)) dX10_plainer_71 ⟨Nat.le_of_ble_eq_true rfl, Nat.le_of_ble_eq_true rfl⟩) hS hFc hFc rfl (fun t H1 locs ht hB hk1 hS => ?_)
          obtain ⟨hP1, hD1⟩ := hB
          rw [ht] at hP1
          obtain ⟨hP, hD⟩ := va_joinQ (wr := [(oc7 sh (.ref fa) (nI ft)), (oq fa cF 200 FA), (oc1 fe2 rk2 wd2 tw2 pa2 pb2 (.ref lo2) (.ref lk2) fm2), (oc4 lk2 (kd f0) (st f0) .null gb2 jt2 we2)]) (w1 := [(oc8 x (.ref sh) (.ref lw) (.ref ro) (.ref bq) (.ref bp) (.ref dq) (.ref dp) (.ref lv) (.ref sl) ds sd ul 5)]) hP hD [0] [1, 2, 3, 4] rfl rfl (by decide) (by decide) hk1 hFc hP1 hD1
          clear hk1 hPc hDc hFc hP1 hD1 ht
          generalize H1 = H at hP hS ⊢
          have hP := hP.part (cx := [(oc8 x (.ref sh) (.ref lw) (.ref ro) (.ref bq) (.ref bp) (.ref dq) (.ref dp) (.ref lv) (.ref sl) ds sd ul 5), (oc7 sh (.ref fa) (nI ft)), (oq fa cF 200 FA), (oc1 fe2 rk2 wd2 tw2 pa2 pb2 (.ref lo2) (.ref lk2) fm2), (oc4 lk2 (kd f0) (st f0) .null gb2 jt2 we2)]) [4, 0, 1, 2, 3] rfl
          have hD := hD.part (cx := [(oc8 x (.ref sh) (.ref lw) (.ref ro) (.ref bq) (.ref bp) (.ref dq) (.ref dp) (.ref lv) (.ref sl) ds sd ul 5), (oc7 sh (.ref fa) (nI ft)), (oq fa cF 200 FA), (oc1 fe2 rk2 wd2 tw2 pa2 pb2 (.ref lo2) (.ref lk2) fm2), (oc4 lk2 (kd f0) (st f0) .null gb2 jt2 we2)]) [4, 0, 1, 2, 3] (by decide) rfl
          have hP : va_P (dC, dI) classes ([(oc8 x (.ref sh) (.ref lw) (.ref ro) (.ref bq) (.ref bp) (.ref dq) (.ref dp) (.ref lv) (.ref sl) ds sd ul 5), (oc7 sh (.ref fa) (nI ft)), (oq fa cF 200 FA), (oc1 fe2 rk2 wd2 tw2 pa2 pb2 (.ref lo2) (.ref lk2) fm2), (oc4 lk2 (kd f0) (st f0) .null gb2 jt2 we2)] ++ va_pl T_1 f) H := hP
          have hD : va_D A ([(oc8 x (.ref sh) (.ref lw) (.ref ro) (.ref bq) (.ref bp) (.ref dq) (.ref dp) (.ref lv) (.ref sl) ds sd ul 5), (oc7 sh (.ref fa) (nI ft)), (oq fa cF 200 FA), (oc1 fe2 rk2 wd2 tw2 pa2 pb2 (.ref lo2) (.ref lk2) fm2), (oc4 lk2 (kd f0) (st f0) .null gb2 jt2 we2)] ++ va_pl T_1 f) := hD
          have hP := pl_back (cs := [(oc1 fe2 rk2 wd2 tw2 pa2 pb2 (.ref lo2) (.ref lk2) fm2), (oc4 lk2 (kd f0) (st f0) .null gb2 jt2 we2)]) (L := L) (f := f) (X := [(oc8 x (.ref sh) (.ref lw) (.ref ro) (.ref bq) (.ref bp) (.ref dq) (.ref dp) (.ref lv) (.ref sl) ds sd ul 5), (oc7 sh (.ref fa) (nI ft)), (oq fa cF 200 FA)]) (by rw [hT_1]; exact (show va_P (dC, dI) classes (([(oc8 x (.ref sh) (.ref lw) (.ref ro) (.ref bq) (.ref bp) (.ref dq) (.ref dp) (.ref lv) (.ref sl) ds sd ul 5), (oc7 sh (.ref fa) (nI ft)), (oq fa cF 200 FA)] ++ [(oc1 fe2 rk2 wd2 tw2 pa2 pb2 (.ref lo2) (.ref lk2) fm2), (oc4 lk2 (kd f0) (st f0) .null gb2 jt2 we2)]) ++ va_pl T_1 f) H from hP)) hc9_1
          have hD : va_D A ([(oc8 x (.ref sh) (.ref lw) (.ref ro) (.ref bq) (.ref bp) (.ref dq) (.ref dp) (.ref lv) (.ref sl) ds sd ul 5), (oc7 sh (.ref fa) (nI ft)), (oq fa cF 200 FA)] ++ va_pl L f) := vaD_ae hD0_1 rfl
          have hP9 := hP.part (cx := [(oc8 x (.ref sh) (.ref lw) (.ref ro) (.ref bq) (.ref bp) (.ref dq) (.ref dp) (.ref lv) (.ref sl) ds sd ul 5), (oc7 sh (.ref fa) (nI ft)), (oq fa cF 200 FA)]) [0, 1, 2] rfl
          have hD9 := hD.part (cx := [(oc8 x (.ref sh) (.ref lw) (.ref ro) (.ref bq) (.ref bp) (.ref dq) (.ref dp) (.ref lv) (.ref sl) ds sd ul 5), (oc7 sh (.ref fa) (nI ft)), (oq fa cF 200 FA)]) [0, 1, 2] (by decide) rfl
          rw [hQ9]
          exact W.iret (v := (-1)) hx hb hr (fun t ht hW => ⟨⟨rfl, ul, 5, by rw [ht]; exact hP9, hD9⟩, hS.F ht⟩) hS.2.2 dX10_plainer_74
        · have c_3 : lim.toInt < 0 := zc_nle (by decide) rfl c_3
          refine lv_aload_n hx hb dX10_plainer_53 rfl (lv_at hl 1 rfl) ?_
          refine lv_iconst (v := 4) hx hb dX10_plainer_54 (by decide) ?_
          have hPc := hP.sub (ws' := [(oc8 x (.ref sh) (.ref lw) (.ref ro) (.ref bq) (.ref bp) (.ref dq) (.ref dp) (.ref lv) (.ref sl) ds sd ul su)]) [0] rfl
          have hDc := hD.sub (ws' := [(oc8 x (.ref sh) (.ref lw) (.ref ro) (.ref bq) (.ref bp) (.ref dq) (.ref dp) (.ref lv) (.ref sl) ds sd ul su)]) [0] (by decide) rfl
          have hFc := va_free (wc := [(oc8 x (.ref sh) (.ref lw) (.ref ro) (.ref bq) (.ref bp) (.ref dq) (.ref dp) (.ref lv) (.ref sl) ds sd ul su)]) hD hS hA [0] rfl
          refine zcall (st1 := [.int (-1)]) (va_runV (As := [.int 4]) (rest := []) ⟨hx, hb, hml, hown, hts⟩ (k_refuse_4 l dC dI cI cZ cF H.size x sh lw ro bq bp dq dp lv sl sd ul su ds ) (cwV 1 hts (zz_gV mw_356 mw_358 mw_0 mw_99 mc_yX10_refuse) rfl rfl rfl (by decide +kernel) ⟨Nat.le_of_ble_eq_true rfl, Nat.le_of_ble_eq_true rfl⟩) (zPV2 (q0 := 0) (ci := 8) hPc hDc hK hXN rfl rfl) rfl rfl hl.1 rfl (lv_room (Nat.le_of_ble_eq_true rfl)) dX10_plainer_55 ⟨Nat.le_of_ble_eq_true rfl, Nat.le_of_ble_eq_true rfl⟩) hS hFc hFc rfl (fun t H1 locs ht hB hk1 hS => ?_)
          obtain ⟨hP1, hD1⟩ := hB
          rw [ht] at hP1
          obtain ⟨hP, hD⟩ := va_joinQ (wr := [(oc7 sh (.ref fa) (nI ft)), (oq fa cF 200 FA), (oc1 fe2 rk2 wd2 tw2 pa2 pb2 (.ref lo2) (.ref lk2) fm2), (oc4 lk2 (kd f0) (st f0) .null gb2 jt2 we2)]) (w1 := [(oc8 x (.ref sh) (.ref lw) (.ref ro) (.ref bq) (.ref bp) (.ref dq) (.ref dp) (.ref lv) (.ref sl) ds sd ul 4)]) hP hD [0] [1, 2, 3, 4] rfl rfl (by decide) (by decide) hk1 hFc hP1 hD1
          clear hk1 hPc hDc hFc hP1 hD1 ht
          generalize H1 = H at hP hS ⊢
          have hP := hP.part (cx := [(oc8 x (.ref sh) (.ref lw) (.ref ro) (.ref bq) (.ref bp) (.ref dq) (.ref dp) (.ref lv) (.ref sl) ds sd ul 4), (oc7 sh (.ref fa) (nI ft)), (oq fa cF 200 FA), (oc1 fe2 rk2 wd2 tw2 pa2 pb2 (.ref lo2) (.ref lk2) fm2), (oc4 lk2 (kd f0) (st f0) .null gb2 jt2 we2)]) [4, 0, 1, 2, 3] rfl
          have hD := hD.part (cx := [(oc8 x (.ref sh) (.ref lw) (.ref ro) (.ref bq) (.ref bp) (.ref dq) (.ref dp) (.ref lv) (.ref sl) ds sd ul 4), (oc7 sh (.ref fa) (nI ft)), (oq fa cF 200 FA), (oc1 fe2 rk2 wd2 tw2 pa2 pb2 (.ref lo2) (.ref lk2) fm2), (oc4 lk2 (kd f0) (st f0) .null gb2 jt2 we2)]) [4, 0, 1, 2, 3] (by decide) rfl
          have hP : va_P (dC, dI) classes ([(oc8 x (.ref sh) (.ref lw) (.ref ro) (.ref bq) (.ref bp) (.ref dq) (.ref dp) (.ref lv) (.ref sl) ds sd ul 4), (oc7 sh (.ref fa) (nI ft)), (oq fa cF 200 FA), (oc1 fe2 rk2 wd2 tw2 pa2 pb2 (.ref lo2) (.ref lk2) fm2), (oc4 lk2 (kd f0) (st f0) .null gb2 jt2 we2)] ++ va_pl T_1 f) H := hP
          have hD : va_D A ([(oc8 x (.ref sh) (.ref lw) (.ref ro) (.ref bq) (.ref bp) (.ref dq) (.ref dp) (.ref lv) (.ref sl) ds sd ul 4), (oc7 sh (.ref fa) (nI ft)), (oq fa cF 200 FA), (oc1 fe2 rk2 wd2 tw2 pa2 pb2 (.ref lo2) (.ref lk2) fm2), (oc4 lk2 (kd f0) (st f0) .null gb2 jt2 we2)] ++ va_pl T_1 f) := hD
          have hP := pl_back (cs := [(oc1 fe2 rk2 wd2 tw2 pa2 pb2 (.ref lo2) (.ref lk2) fm2), (oc4 lk2 (kd f0) (st f0) .null gb2 jt2 we2)]) (L := L) (f := f) (X := [(oc8 x (.ref sh) (.ref lw) (.ref ro) (.ref bq) (.ref bp) (.ref dq) (.ref dp) (.ref lv) (.ref sl) ds sd ul 4), (oc7 sh (.ref fa) (nI ft)), (oq fa cF 200 FA)]) (by rw [hT_1]; exact (show va_P (dC, dI) classes (([(oc8 x (.ref sh) (.ref lw) (.ref ro) (.ref bq) (.ref bp) (.ref dq) (.ref dp) (.ref lv) (.ref sl) ds sd ul 4), (oc7 sh (.ref fa) (nI ft)), (oq fa cF 200 FA)] ++ [(oc1 fe2 rk2 wd2 tw2 pa2 pb2 (.ref lo2) (.ref lk2) fm2), (oc4 lk2 (kd f0) (st f0) .null gb2 jt2 we2)]) ++ va_pl T_1 f) H from hP)) hc9_1
          have hD : va_D A ([(oc8 x (.ref sh) (.ref lw) (.ref ro) (.ref bq) (.ref bp) (.ref dq) (.ref dp) (.ref lv) (.ref sl) ds sd ul 4), (oc7 sh (.ref fa) (nI ft)), (oq fa cF 200 FA)] ++ va_pl L f) := vaD_ae hD0_1 rfl
          have hP9 := hP.part (cx := [(oc8 x (.ref sh) (.ref lw) (.ref ro) (.ref bq) (.ref bp) (.ref dq) (.ref dp) (.ref lv) (.ref sl) ds sd ul 4), (oc7 sh (.ref fa) (nI ft)), (oq fa cF 200 FA)]) [0, 1, 2] rfl
          have hD9 := hD.part (cx := [(oc8 x (.ref sh) (.ref lw) (.ref ro) (.ref bq) (.ref bp) (.ref dq) (.ref dp) (.ref lv) (.ref sl) ds sd ul 4), (oc7 sh (.ref fa) (nI ft)), (oq fa cF 200 FA)]) [0, 1, 2] (by decide) rfl
          rw [hQ9]
          exact W.iret (v := (-1)) hx hb hr (fun t ht hW => ⟨⟨rfl, ul, 4, by rw [ht]; exact hP9, hD9⟩, hS.F ht⟩) hS.2.2 dX10_plainer_58
      · have c_2 : ¬ (1 ≤ (kd f0).toInt ∧ (kd f0).toInt ≤ 5) := zp_0 c_2
        refine lv_aload_n hx hb dX10_plainer_43 rfl (lv_at hl 1 rfl) ?_
        refine lv_iconst (v := 3) hx hb dX10_plainer_44 (by decide) ?_
        have hPc := hP.sub (ws' := [(oc8 x (.ref sh) (.ref lw) (.ref ro) (.ref bq) (.ref bp) (.ref dq) (.ref dp) (.ref lv) (.ref sl) ds sd ul su)]) [0] rfl
        have hDc := hD.sub (ws' := [(oc8 x (.ref sh) (.ref lw) (.ref ro) (.ref bq) (.ref bp) (.ref dq) (.ref dp) (.ref lv) (.ref sl) ds sd ul su)]) [0] (by decide) rfl
        have hFc := va_free (wc := [(oc8 x (.ref sh) (.ref lw) (.ref ro) (.ref bq) (.ref bp) (.ref dq) (.ref dp) (.ref lv) (.ref sl) ds sd ul su)]) hD hS hA [0] rfl
        refine zcall (st1 := [.int (-1)]) (va_runV (As := [.int 3]) (rest := []) ⟨hx, hb, hml, hown, hts⟩ (k_refuse_3 l dC dI cI cZ cF H.size x sh lw ro bq bp dq dp lv sl sd ul su ds ) (cwV 1 hts (zz_gV mw_356 mw_358 mw_0 mw_99 mc_yX10_refuse) rfl rfl rfl (by decide +kernel) ⟨Nat.le_of_ble_eq_true rfl, Nat.le_of_ble_eq_true rfl⟩) (zPV2 (q0 := 0) (ci := 8) hPc hDc hK hXN rfl rfl) rfl rfl hl.1 rfl (lv_room (Nat.le_of_ble_eq_true rfl)) dX10_plainer_45 ⟨Nat.le_of_ble_eq_true rfl, Nat.le_of_ble_eq_true rfl⟩) hS hFc hFc rfl (fun t H1 locs ht hB hk1 hS => ?_)
        obtain ⟨hP1, hD1⟩ := hB
        rw [ht] at hP1
        obtain ⟨hP, hD⟩ := va_joinQ (wr := [(oc7 sh (.ref fa) (nI ft)), (oq fa cF 200 FA), (oc1 fe2 rk2 wd2 tw2 pa2 pb2 (.ref lo2) (.ref lk2) fm2), (oc4 lk2 (kd f0) (st f0) .null gb2 jt2 we2)]) (w1 := [(oc8 x (.ref sh) (.ref lw) (.ref ro) (.ref bq) (.ref bp) (.ref dq) (.ref dp) (.ref lv) (.ref sl) ds sd ul 3)]) hP hD [0] [1, 2, 3, 4] rfl rfl (by decide) (by decide) hk1 hFc hP1 hD1
        clear hk1 hPc hDc hFc hP1 hD1 ht
        generalize H1 = H at hP hS ⊢
        have hP := hP.part (cx := [(oc8 x (.ref sh) (.ref lw) (.ref ro) (.ref bq) (.ref bp) (.ref dq) (.ref dp) (.ref lv) (.ref sl) ds sd ul 3), (oc7 sh (.ref fa) (nI ft)), (oq fa cF 200 FA), (oc1 fe2 rk2 wd2 tw2 pa2 pb2 (.ref lo2) (.ref lk2) fm2), (oc4 lk2 (kd f0) (st f0) .null gb2 jt2 we2)]) [4, 0, 1, 2, 3] rfl
        have hD := hD.part (cx := [(oc8 x (.ref sh) (.ref lw) (.ref ro) (.ref bq) (.ref bp) (.ref dq) (.ref dp) (.ref lv) (.ref sl) ds sd ul 3), (oc7 sh (.ref fa) (nI ft)), (oq fa cF 200 FA), (oc1 fe2 rk2 wd2 tw2 pa2 pb2 (.ref lo2) (.ref lk2) fm2), (oc4 lk2 (kd f0) (st f0) .null gb2 jt2 we2)]) [4, 0, 1, 2, 3] (by decide) rfl
        have hP : va_P (dC, dI) classes ([(oc8 x (.ref sh) (.ref lw) (.ref ro) (.ref bq) (.ref bp) (.ref dq) (.ref dp) (.ref lv) (.ref sl) ds sd ul 3), (oc7 sh (.ref fa) (nI ft)), (oq fa cF 200 FA), (oc1 fe2 rk2 wd2 tw2 pa2 pb2 (.ref lo2) (.ref lk2) fm2), (oc4 lk2 (kd f0) (st f0) .null gb2 jt2 we2)] ++ va_pl T_1 f) H := hP
        have hD : va_D A ([(oc8 x (.ref sh) (.ref lw) (.ref ro) (.ref bq) (.ref bp) (.ref dq) (.ref dp) (.ref lv) (.ref sl) ds sd ul 3), (oc7 sh (.ref fa) (nI ft)), (oq fa cF 200 FA), (oc1 fe2 rk2 wd2 tw2 pa2 pb2 (.ref lo2) (.ref lk2) fm2), (oc4 lk2 (kd f0) (st f0) .null gb2 jt2 we2)] ++ va_pl T_1 f) := hD
        have hP := pl_back (cs := [(oc1 fe2 rk2 wd2 tw2 pa2 pb2 (.ref lo2) (.ref lk2) fm2), (oc4 lk2 (kd f0) (st f0) .null gb2 jt2 we2)]) (L := L) (f := f) (X := [(oc8 x (.ref sh) (.ref lw) (.ref ro) (.ref bq) (.ref bp) (.ref dq) (.ref dp) (.ref lv) (.ref sl) ds sd ul 3), (oc7 sh (.ref fa) (nI ft)), (oq fa cF 200 FA)]) (by rw [hT_1]; exact (show va_P (dC, dI) classes (([(oc8 x (.ref sh) (.ref lw) (.ref ro) (.ref bq) (.ref bp) (.ref dq) (.ref dp) (.ref lv) (.ref sl) ds sd ul 3), (oc7 sh (.ref fa) (nI ft)), (oq fa cF 200 FA)] ++ [(oc1 fe2 rk2 wd2 tw2 pa2 pb2 (.ref lo2) (.ref lk2) fm2), (oc4 lk2 (kd f0) (st f0) .null gb2 jt2 we2)]) ++ va_pl T_1 f) H from hP)) hc9_1
        have hD : va_D A ([(oc8 x (.ref sh) (.ref lw) (.ref ro) (.ref bq) (.ref bp) (.ref dq) (.ref dp) (.ref lv) (.ref sl) ds sd ul 3), (oc7 sh (.ref fa) (nI ft)), (oq fa cF 200 FA)] ++ va_pl L f) := vaD_ae hD0_1 rfl
        have hP9 := hP.part (cx := [(oc8 x (.ref sh) (.ref lw) (.ref ro) (.ref bq) (.ref bp) (.ref dq) (.ref dp) (.ref lv) (.ref sl) ds sd ul 3), (oc7 sh (.ref fa) (nI ft)), (oq fa cF 200 FA)]) [0, 1, 2] rfl
        have hD9 := hD.part (cx := [(oc8 x (.ref sh) (.ref lw) (.ref ro) (.ref bq) (.ref bp) (.ref dq) (.ref dp) (.ref lv) (.ref sl) ds sd ul 3), (oc7 sh (.ref fa) (nI ft)), (oq fa cF 200 FA)]) [0, 1, 2] (by decide) rfl
        rw [hQ9]
        exact W.iret (v := (-1)) hx hb hr (fun t ht hW => ⟨⟨rfl, ul, 3, by rw [ht]; exact hP9, hD9⟩, hS.F ht⟩) hS.2.2 dX10_plainer_48
    · have c_1 : ¬ (st f0).toInt = 1 := zc_ne rfl (by decide) c_1
      refine lv_aload_n hx hb dX10_plainer_30 rfl (lv_at hl 1 rfl) ?_
      refine lv_iconst (v := 2) hx hb dX10_plainer_31 (by decide) ?_
      have hPc := hP.sub (ws' := [(oc8 x (.ref sh) (.ref lw) (.ref ro) (.ref bq) (.ref bp) (.ref dq) (.ref dp) (.ref lv) (.ref sl) ds sd ul su)]) [0] rfl
      have hDc := hD.sub (ws' := [(oc8 x (.ref sh) (.ref lw) (.ref ro) (.ref bq) (.ref bp) (.ref dq) (.ref dp) (.ref lv) (.ref sl) ds sd ul su)]) [0] (by decide) rfl
      have hFc := va_free (wc := [(oc8 x (.ref sh) (.ref lw) (.ref ro) (.ref bq) (.ref bp) (.ref dq) (.ref dp) (.ref lv) (.ref sl) ds sd ul su)]) hD hS hA [0] rfl
      refine zcall (st1 := [.int (-1)]) (va_runV (As := [.int 2]) (rest := []) ⟨hx, hb, hml, hown, hts⟩ (k_refuse_2 l dC dI cI cZ cF H.size x sh lw ro bq bp dq dp lv sl sd ul su ds ) (cwV 1 hts (zz_gV mw_356 mw_358 mw_0 mw_99 mc_yX10_refuse) rfl rfl rfl (by decide +kernel) ⟨Nat.le_of_ble_eq_true rfl, Nat.le_of_ble_eq_true rfl⟩) (zPV2 (q0 := 0) (ci := 8) hPc hDc hK hXN rfl rfl) rfl rfl hl.1 rfl (lv_room (Nat.le_of_ble_eq_true rfl)) dX10_plainer_32 ⟨Nat.le_of_ble_eq_true rfl, Nat.le_of_ble_eq_true rfl⟩) hS hFc hFc rfl (fun t H1 locs ht hB hk1 hS => ?_)
      obtain ⟨hP1, hD1⟩ := hB
      rw [ht] at hP1
      obtain ⟨hP, hD⟩ := va_joinQ (wr := [(oc7 sh (.ref fa) (nI ft)), (oq fa cF 200 FA), (oc1 fe2 rk2 wd2 tw2 pa2 pb2 (.ref lo2) (.ref lk2) fm2), (oc4 lk2 (kd f0) (st f0) .null gb2 jt2 we2)]) (w1 := [(oc8 x (.ref sh) (.ref lw) (.ref ro) (.ref bq) (.ref bp) (.ref dq) (.ref dp) (.ref lv) (.ref sl) ds sd ul 2)]) hP hD [0] [1, 2, 3, 4] rfl rfl (by decide) (by decide) hk1 hFc hP1 hD1
      clear hk1 hPc hDc hFc hP1 hD1 ht
      generalize H1 = H at hP hS ⊢
      have hP := hP.part (cx := [(oc8 x (.ref sh) (.ref lw) (.ref ro) (.ref bq) (.ref bp) (.ref dq) (.ref dp) (.ref lv) (.ref sl) ds sd ul 2), (oc7 sh (.ref fa) (nI ft)), (oq fa cF 200 FA), (oc1 fe2 rk2 wd2 tw2 pa2 pb2 (.ref lo2) (.ref lk2) fm2), (oc4 lk2 (kd f0) (st f0) .null gb2 jt2 we2)]) [4, 0, 1, 2, 3] rfl
      have hD := hD.part (cx := [(oc8 x (.ref sh) (.ref lw) (.ref ro) (.ref bq) (.ref bp) (.ref dq) (.ref dp) (.ref lv) (.ref sl) ds sd ul 2), (oc7 sh (.ref fa) (nI ft)), (oq fa cF 200 FA), (oc1 fe2 rk2 wd2 tw2 pa2 pb2 (.ref lo2) (.ref lk2) fm2), (oc4 lk2 (kd f0) (st f0) .null gb2 jt2 we2)]) [4, 0, 1, 2, 3] (by decide) rfl
      have hP : va_P (dC, dI) classes ([(oc8 x (.ref sh) (.ref lw) (.ref ro) (.ref bq) (.ref bp) (.ref dq) (.ref dp) (.ref lv) (.ref sl) ds sd ul 2), (oc7 sh (.ref fa) (nI ft)), (oq fa cF 200 FA), (oc1 fe2 rk2 wd2 tw2 pa2 pb2 (.ref lo2) (.ref lk2) fm2), (oc4 lk2 (kd f0) (st f0) .null gb2 jt2 we2)] ++ va_pl T_1 f) H := hP
      have hD : va_D A ([(oc8 x (.ref sh) (.ref lw) (.ref ro) (.ref bq) (.ref bp) (.ref dq) (.ref dp) (.ref lv) (.ref sl) ds sd ul 2), (oc7 sh (.ref fa) (nI ft)), (oq fa cF 200 FA), (oc1 fe2 rk2 wd2 tw2 pa2 pb2 (.ref lo2) (.ref lk2) fm2), (oc4 lk2 (kd f0) (st f0) .null gb2 jt2 we2)] ++ va_pl T_1 f) := hD
      have hP := pl_back (cs := [(oc1 fe2 rk2 wd2 tw2 pa2 pb2 (.ref lo2) (.ref lk2) fm2), (oc4 lk2 (kd f0) (st f0) .null gb2 jt2 we2)]) (L := L) (f := f) (X := [(oc8 x (.ref sh) (.ref lw) (.ref ro) (.ref bq) (.ref bp) (.ref dq) (.ref dp) (.ref lv) (.ref sl) ds sd ul 2), (oc7 sh (.ref fa) (nI ft)), (oq fa cF 200 FA)]) (by rw [hT_1]; exact (show va_P (dC, dI) classes (([(oc8 x (.ref sh) (.ref lw) (.ref ro) (.ref bq) (.ref bp) (.ref dq) (.ref dp) (.ref lv) (.ref sl) ds sd ul 2), (oc7 sh (.ref fa) (nI ft)), (oq fa cF 200 FA)] ++ [(oc1 fe2 rk2 wd2 tw2 pa2 pb2 (.ref lo2) (.ref lk2) fm2), (oc4 lk2 (kd f0) (st f0) .null gb2 jt2 we2)]) ++ va_pl T_1 f) H from hP)) hc9_1
      have hD : va_D A ([(oc8 x (.ref sh) (.ref lw) (.ref ro) (.ref bq) (.ref bp) (.ref dq) (.ref dp) (.ref lv) (.ref sl) ds sd ul 2), (oc7 sh (.ref fa) (nI ft)), (oq fa cF 200 FA)] ++ va_pl L f) := vaD_ae hD0_1 rfl
      have hP9 := hP.part (cx := [(oc8 x (.ref sh) (.ref lw) (.ref ro) (.ref bq) (.ref bp) (.ref dq) (.ref dp) (.ref lv) (.ref sl) ds sd ul 2), (oc7 sh (.ref fa) (nI ft)), (oq fa cF 200 FA)]) [0, 1, 2] rfl
      have hD9 := hD.part (cx := [(oc8 x (.ref sh) (.ref lw) (.ref ro) (.ref bq) (.ref bp) (.ref dq) (.ref dp) (.ref lv) (.ref sl) ds sd ul 2), (oc7 sh (.ref fa) (nI ft)), (oq fa cF 200 FA)]) [0, 1, 2] (by decide) rfl
      rw [hQ9]
      exact W.iret (v := (-1)) hx hb hr (fun t ht hW => ⟨⟨rfl, ul, 2, by rw [ht]; exact hP9, hD9⟩, hS.F ht⟩) hS.2.2 dX10_plainer_35
  · skip
    have hcap2 := hrr2.1
    have hcap3 := hrr2.2.1
    have hc9_1 : inPl L f [(oc1 fe2 rk2 wd2 tw2 pa2 pb2 (.ref lo2) (.ref lk2) fm2), (oc4 lk2 (kd f0) (st f0) (.ref r2) gb2 jt2 we2), (oc6 r2 (.ref rx2) (.ref ry2) (nI (nN (mn f0))) rg2), (oa rx2 cI cap2 U2), (oa ry2 cI cap2 V2)] := ⟨hfe2, hlk2, hr2, hrx2, hry2, trivial⟩
    have hD0_1 := hD
    obtain ⟨hP, hD⟩ := pl_out hP hD [(oc1 fe2 rk2 wd2 tw2 pa2 pb2 (.ref lo2) (.ref lk2) fm2), (oc4 lk2 (kd f0) (st f0) (.ref r2) gb2 jt2 we2), (oc6 r2 (.ref rx2) (.ref ry2) (nI (nN (mn f0))) rg2), (oa rx2 cI cap2 U2), (oa ry2 cI cap2 V2)] hc9_1 (pwR hfe2.2 hlk2.2 hr2.2 hrx2.2 hry2.2 hne2)
    generalize hT_1 : outPl L [(oc1 fe2 rk2 wd2 tw2 pa2 pb2 (.ref lo2) (.ref lk2) fm2), (oc4 lk2 (kd f0) (st f0) (.ref r2) gb2 jt2 we2), (oc6 r2 (.ref rx2) (.ref ry2) (nI (nN (mn f0))) rg2), (oa rx2 cI cap2 U2), (oa ry2 cI cap2 V2)] = T_1 at hP hD
    have hP : va_P (dC, dI) classes ([(oc8 x (.ref sh) (.ref lw) (.ref ro) (.ref bq) (.ref bp) (.ref dq) (.ref dp) (.ref lv) (.ref sl) ds sd ul su), (oc7 sh (.ref fa) (nI ft)), (oq fa cF 200 FA), (oc1 fe2 rk2 wd2 tw2 pa2 pb2 (.ref lo2) (.ref lk2) fm2), (oc4 lk2 (kd f0) (st f0) (.ref r2) gb2 jt2 we2), (oc6 r2 (.ref rx2) (.ref ry2) (nI (nN (mn f0))) rg2), (oa rx2 cI cap2 U2), (oa ry2 cI cap2 V2)] ++ va_pl T_1 f) s.heap := hP
    have hD : va_D A ([(oc8 x (.ref sh) (.ref lw) (.ref ro) (.ref bq) (.ref bp) (.ref dq) (.ref dp) (.ref lv) (.ref sl) ds sd ul su), (oc7 sh (.ref fa) (nI ft)), (oq fa cF 200 FA), (oc1 fe2 rk2 wd2 tw2 pa2 pb2 (.ref lo2) (.ref lk2) fm2), (oc4 lk2 (kd f0) (st f0) (.ref r2) gb2 jt2 we2), (oc6 r2 (.ref rx2) (.ref ry2) (nI (nN (mn f0))) rg2), (oa rx2 cI cap2 U2), (oa ry2 cI cap2 V2)] ++ va_pl T_1 f) := hD
    refine lv_aload_n hx hb dX10_plainer_0 rfl (lv_at hl 0 rfl) ?_
    refine va_get (D := (dC, dI)) (ci := 8) (v := .ref sh) (C := RX10) (T := TX10) (N := 13) hx hb hts inX10 hown hK hP 0 rfl rfl 0 (by decide) (hts _ mw_309) (fun _ h9 => h9) rfl dX10_plainer_1 ?_
    refine lv_iload_n hx hb dX10_plainer_4 rfl (lv_at hl 1 rfl) ?_
    have hPc := hP.sub (ws' := [(oc7 sh (.ref fa) (nI ft)), (oq fa cF 200 FA)]) [1, 2] rfl
    have hDc := hD.sub (ws' := [(oc7 sh (.ref fa) (nI ft)), (oq fa cF 200 FA)]) [1, 2] (by decide) rfl
    have hFc := va_free (wc := [(oc7 sh (.ref fa) (nI ft)), (oq fa cF 200 FA)]) hD hS hA [1, 2] rfl
    refine zcall (st1 := [.ref fe2]) (va_runV (As := [.int (nI f0)]) (rest := []) ⟨hx, hb, hml, hown, hts⟩ (k_Sheet_find l dC dI cI cZ cF s.heap.size sh fa ft FA f0 fe2 (by omega) (by omega) (hFA2)) (cwV 1 hts (zz_gV mw_498 mw_499 mw_500 mw_100 mc_yX8_find) rfl rfl rfl (by decide +kernel) ⟨Nat.le_of_ble_eq_true rfl, Nat.le_of_ble_eq_true rfl⟩) (zPV2 (q0 := 0) (ci := 7) hPc hDc hK hXN rfl rfl) rfl rfl hl.1 rfl (lv_room (Nat.le_of_ble_eq_true rfl)) dX10_plainer_5 ⟨Nat.le_of_ble_eq_true rfl, Nat.le_of_ble_eq_true rfl⟩) hS hFc hFc rfl (fun t H1 locs ht hB hk1 hS => ?_)
    obtain ⟨hP1, hD1⟩ := hB
    rw [ht] at hP1
    obtain ⟨hP, hD⟩ := va_joinQ (wr := [(oc8 x (.ref sh) (.ref lw) (.ref ro) (.ref bq) (.ref bp) (.ref dq) (.ref dp) (.ref lv) (.ref sl) ds sd ul su), (oc1 fe2 rk2 wd2 tw2 pa2 pb2 (.ref lo2) (.ref lk2) fm2), (oc4 lk2 (kd f0) (st f0) (.ref r2) gb2 jt2 we2), (oc6 r2 (.ref rx2) (.ref ry2) (nI (nN (mn f0))) rg2), (oa rx2 cI cap2 U2), (oa ry2 cI cap2 V2)]) (w1 := [(oc7 sh (.ref fa) (nI ft)), (oq fa cF 200 FA)]) hP hD [1, 2] [0, 3, 4, 5, 6, 7] rfl rfl (by decide) (by decide) hk1 hFc hP1 hD1
    clear hk1 hPc hDc hFc hP1 hD1 ht
    generalize H1 = H at hP hS ⊢
    have hP := hP.part (cx := [(oc8 x (.ref sh) (.ref lw) (.ref ro) (.ref bq) (.ref bp) (.ref dq) (.ref dp) (.ref lv) (.ref sl) ds sd ul su), (oc7 sh (.ref fa) (nI ft)), (oq fa cF 200 FA), (oc1 fe2 rk2 wd2 tw2 pa2 pb2 (.ref lo2) (.ref lk2) fm2), (oc4 lk2 (kd f0) (st f0) (.ref r2) gb2 jt2 we2), (oc6 r2 (.ref rx2) (.ref ry2) (nI (nN (mn f0))) rg2), (oa rx2 cI cap2 U2), (oa ry2 cI cap2 V2)]) [0, 6, 7, 1, 2, 3, 4, 5] rfl
    have hD := hD.part (cx := [(oc8 x (.ref sh) (.ref lw) (.ref ro) (.ref bq) (.ref bp) (.ref dq) (.ref dp) (.ref lv) (.ref sl) ds sd ul su), (oc7 sh (.ref fa) (nI ft)), (oq fa cF 200 FA), (oc1 fe2 rk2 wd2 tw2 pa2 pb2 (.ref lo2) (.ref lk2) fm2), (oc4 lk2 (kd f0) (st f0) (.ref r2) gb2 jt2 we2), (oc6 r2 (.ref rx2) (.ref ry2) (nI (nN (mn f0))) rg2), (oa rx2 cI cap2 U2), (oa ry2 cI cap2 V2)]) [0, 6, 7, 1, 2, 3, 4, 5] (by decide) rfl
    have hP : va_P (dC, dI) classes ([(oc8 x (.ref sh) (.ref lw) (.ref ro) (.ref bq) (.ref bp) (.ref dq) (.ref dp) (.ref lv) (.ref sl) ds sd ul su), (oc7 sh (.ref fa) (nI ft)), (oq fa cF 200 FA), (oc1 fe2 rk2 wd2 tw2 pa2 pb2 (.ref lo2) (.ref lk2) fm2), (oc4 lk2 (kd f0) (st f0) (.ref r2) gb2 jt2 we2), (oc6 r2 (.ref rx2) (.ref ry2) (nI (nN (mn f0))) rg2), (oa rx2 cI cap2 U2), (oa ry2 cI cap2 V2)] ++ va_pl T_1 f) H := hP
    have hD : va_D A ([(oc8 x (.ref sh) (.ref lw) (.ref ro) (.ref bq) (.ref bp) (.ref dq) (.ref dp) (.ref lv) (.ref sl) ds sd ul su), (oc7 sh (.ref fa) (nI ft)), (oq fa cF 200 FA), (oc1 fe2 rk2 wd2 tw2 pa2 pb2 (.ref lo2) (.ref lk2) fm2), (oc4 lk2 (kd f0) (st f0) (.ref r2) gb2 jt2 we2), (oc6 r2 (.ref rx2) (.ref ry2) (nI (nN (mn f0))) rg2), (oa rx2 cI cap2 U2), (oa ry2 cI cap2 V2)] ++ va_pl T_1 f) := hD
    refine lv_astore_n (lv' := [(3, .ref fe2), (0, .ref x), (1, .int (nI f0)), (2, .int lim)]) hx hb dX10_plainer_8 rfl hl (by decide) rfl (fun ls hl => ?_)
    refine lv_aload_n hx hb dX10_plainer_9 rfl (lv_at hl 0 rfl) ?_
    refine lv_ifnonnull (tgt := 19) hx hb dX10_plainer_10 (by decide) ?_
    refine lv_aload_n hx hb dX10_plainer_19 rfl (lv_at hl 0 rfl) ?_
    refine va_get (D := (dC, dI)) (ci := 1) (v := .ref lk2) (C := RX2) (T := TX2) (N := 8) hx hb hts inX2 hown hK hP 3 rfl rfl 6 (by decide) (hts _ mw_433) (fun _ h9 => h9) rfl dX10_plainer_20 ?_
    refine va_get (D := (dC, dI)) (ci := 4) (v := .int (st f0)) (C := RX5) (T := TX5) (N := 6) hx hb hts inX5 hown hK hP 4 rfl rfl 1 (by decide) (hts _ mw_385) (fun _ h9 => h9) rfl dX10_plainer_23 ?_
    refine lv_iconst (v := 1) hx hb dX10_plainer_26 (by decide) ?_
    refine lv_icmp_eq (tgt := 36) hx hb dX10_plainer_27 (by decide) (fun c_4 => ?_) (fun c_4 => ?_)
    · have c_4 : (st f0).toInt = 1 := zc_eq rfl (by decide) c_4
      refine lv_aload_n hx hb dX10_plainer_36 rfl (lv_at hl 0 rfl) ?_
      have hPc := hP.sub (ws' := [(oc1 fe2 rk2 wd2 tw2 pa2 pb2 (.ref lo2) (.ref lk2) fm2), (oc4 lk2 (kd f0) (st f0) (.ref r2) gb2 jt2 we2)]) [3, 4] rfl
      have hDc := hD.sub (ws' := [(oc1 fe2 rk2 wd2 tw2 pa2 pb2 (.ref lo2) (.ref lk2) fm2), (oc4 lk2 (kd f0) (st f0) (.ref r2) gb2 jt2 we2)]) [3, 4] (by decide) rfl
      have hFc := va_free (wc := [(oc1 fe2 rk2 wd2 tw2 pa2 pb2 (.ref lo2) (.ref lk2) fm2), (oc4 lk2 (kd f0) (st f0) (.ref r2) gb2 jt2 we2)]) hD hS hA [3, 4] rfl
      refine zcall (st1 := [.int (pI (1 ≤ (kd f0).toInt ∧ (kd f0).toInt ≤ 5))]) (va_runV (As := []) (rest := []) ⟨hx, hb, hml, hown, hts⟩ (k_Feature_bends_v l dC dI cI cZ cF H.size fe2 lo2 rk2 wd2 tw2 pa2 pb2 lk2 (kd f0) (st f0) gb2 jt2 we2 fm2 (.ref r2) ) (cwV 0 hts (zz_gV mw_564 mw_565 mw_566 mw_111 mc_yX2_bends) rfl rfl rfl (by decide +kernel) ⟨Nat.le_of_ble_eq_true rfl, Nat.le_of_ble_eq_true rfl⟩) (zPV2 (q0 := 0) (ci := 1) hPc hDc hK hXN rfl rfl) rfl rfl hl.1 rfl (lv_room (Nat.le_of_ble_eq_true rfl)) dX10_plainer_37 ⟨Nat.le_of_ble_eq_true rfl, Nat.le_of_ble_eq_true rfl⟩) hS hFc hFc rfl (fun t H1 locs ht hB hk1 hS => ?_)
      obtain ⟨hP1, hD1⟩ := hB
      rw [ht] at hP1
      obtain ⟨hP, hD⟩ := va_joinQ (wr := [(oc8 x (.ref sh) (.ref lw) (.ref ro) (.ref bq) (.ref bp) (.ref dq) (.ref dp) (.ref lv) (.ref sl) ds sd ul su), (oc7 sh (.ref fa) (nI ft)), (oq fa cF 200 FA), (oc6 r2 (.ref rx2) (.ref ry2) (nI (nN (mn f0))) rg2), (oa rx2 cI cap2 U2), (oa ry2 cI cap2 V2)]) (w1 := [(oc1 fe2 rk2 wd2 tw2 pa2 pb2 (.ref lo2) (.ref lk2) fm2), (oc4 lk2 (kd f0) (st f0) (.ref r2) gb2 jt2 we2)]) hP hD [3, 4] [0, 1, 2, 5, 6, 7] rfl rfl (by decide) (by decide) hk1 hFc hP1 hD1
      clear hk1 hPc hDc hFc hP1 hD1 ht
      generalize H1 = H at hP hS ⊢
      have hP := hP.part (cx := [(oc8 x (.ref sh) (.ref lw) (.ref ro) (.ref bq) (.ref bp) (.ref dq) (.ref dp) (.ref lv) (.ref sl) ds sd ul su), (oc7 sh (.ref fa) (nI ft)), (oq fa cF 200 FA), (oc1 fe2 rk2 wd2 tw2 pa2 pb2 (.ref lo2) (.ref lk2) fm2), (oc4 lk2 (kd f0) (st f0) (.ref r2) gb2 jt2 we2), (oc6 r2 (.ref rx2) (.ref ry2) (nI (nN (mn f0))) rg2), (oa rx2 cI cap2 U2), (oa ry2 cI cap2 V2)]) [0, 1, 2, 6, 7, 3, 4, 5] rfl
      have hD := hD.part (cx := [(oc8 x (.ref sh) (.ref lw) (.ref ro) (.ref bq) (.ref bp) (.ref dq) (.ref dp) (.ref lv) (.ref sl) ds sd ul su), (oc7 sh (.ref fa) (nI ft)), (oq fa cF 200 FA), (oc1 fe2 rk2 wd2 tw2 pa2 pb2 (.ref lo2) (.ref lk2) fm2), (oc4 lk2 (kd f0) (st f0) (.ref r2) gb2 jt2 we2), (oc6 r2 (.ref rx2) (.ref ry2) (nI (nN (mn f0))) rg2), (oa rx2 cI cap2 U2), (oa ry2 cI cap2 V2)]) [0, 1, 2, 6, 7, 3, 4, 5] (by decide) rfl
      have hP : va_P (dC, dI) classes ([(oc8 x (.ref sh) (.ref lw) (.ref ro) (.ref bq) (.ref bp) (.ref dq) (.ref dp) (.ref lv) (.ref sl) ds sd ul su), (oc7 sh (.ref fa) (nI ft)), (oq fa cF 200 FA), (oc1 fe2 rk2 wd2 tw2 pa2 pb2 (.ref lo2) (.ref lk2) fm2), (oc4 lk2 (kd f0) (st f0) (.ref r2) gb2 jt2 we2), (oc6 r2 (.ref rx2) (.ref ry2) (nI (nN (mn f0))) rg2), (oa rx2 cI cap2 U2), (oa ry2 cI cap2 V2)] ++ va_pl T_1 f) H := hP
      have hD : va_D A ([(oc8 x (.ref sh) (.ref lw) (.ref ro) (.ref bq) (.ref bp) (.ref dq) (.ref dp) (.ref lv) (.ref sl) ds sd ul su), (oc7 sh (.ref fa) (nI ft)), (oq fa cF 200 FA), (oc1 fe2 rk2 wd2 tw2 pa2 pb2 (.ref lo2) (.ref lk2) fm2), (oc4 lk2 (kd f0) (st f0) (.ref r2) gb2 jt2 we2), (oc6 r2 (.ref rx2) (.ref ry2) (nI (nN (mn f0))) rg2), (oa rx2 cI cap2 U2), (oa ry2 cI cap2 V2)] ++ va_pl T_1 f) := hD
      refine lv_if_ne (tgt := 49) hx hb dX10_plainer_40 (by decide) (fun c_5 => ?_) (fun c_5 => ?_)
      · have c_5 : 1 ≤ (kd f0).toInt ∧ (kd f0).toInt ≤ 5 := zp_1 c_5
        refine lv_iload_n hx hb dX10_plainer_49 rfl (lv_at hl 3 rfl) ?_
        refine lv_if_ge (tgt := 59) hx hb dX10_plainer_50 (by decide) (fun c_6 => ?_) (fun c_6 => ?_)
        · have c_6 : 0 ≤ lim.toInt := zc_le (by decide) rfl c_6
          refine lv_aload_n hx hb dX10_plainer_59 rfl (lv_at hl 0 rfl) ?_
          refine va_get (D := (dC, dI)) (ci := 1) (v := .ref lk2) (C := RX2) (T := TX2) (N := 8) hx hb hts inX2 hown hK hP 3 rfl rfl 6 (by decide) (hts _ mw_433) (fun _ h9 => h9) rfl dX10_plainer_60 ?_
          refine va_get (D := (dC, dI)) (ci := 4) (v := .ref r2) (C := RX5) (T := TX5) (N := 6) hx hb hts inX5 hown hK hP 4 rfl rfl 2 (by decide) (hts _ mw_391) (fun _ h9 => h9) rfl dX10_plainer_63 ?_
          refine lv_ifnonnull (tgt := 75) hx hb dX10_plainer_66 (by decide) ?_
          exfalso; omega
        · have c_6 : lim.toInt < 0 := zc_nle (by decide) rfl c_6
          refine lv_aload_n hx hb dX10_plainer_53 rfl (lv_at hl 1 rfl) ?_
          refine lv_iconst (v := 4) hx hb dX10_plainer_54 (by decide) ?_
          have hPc := hP.sub (ws' := [(oc8 x (.ref sh) (.ref lw) (.ref ro) (.ref bq) (.ref bp) (.ref dq) (.ref dp) (.ref lv) (.ref sl) ds sd ul su)]) [0] rfl
          have hDc := hD.sub (ws' := [(oc8 x (.ref sh) (.ref lw) (.ref ro) (.ref bq) (.ref bp) (.ref dq) (.ref dp) (.ref lv) (.ref sl) ds sd ul su)]) [0] (by decide) rfl
          have hFc := va_free (wc := [(oc8 x (.ref sh) (.ref lw) (.ref ro) (.ref bq) (.ref bp) (.ref dq) (.ref dp) (.ref lv) (.ref sl) ds sd ul su)]) hD hS hA [0] rfl
          refine zcall (st1 := [.int (-1)]) (va_runV (As := [.int 4]) (rest := []) ⟨hx, hb, hml, hown, hts⟩ (k_refuse_4 l dC dI cI cZ cF H.size x sh lw ro bq bp dq dp lv sl sd ul su ds ) (cwV 1 hts (zz_gV mw_356 mw_358 mw_0 mw_99 mc_yX10_refuse) rfl rfl rfl (by decide +kernel) ⟨Nat.le_of_ble_eq_true rfl, Nat.le_of_ble_eq_true rfl⟩) (zPV2 (q0 := 0) (ci := 8) hPc hDc hK hXN rfl rfl) rfl rfl hl.1 rfl (lv_room (Nat.le_of_ble_eq_true rfl)) dX10_plainer_55 ⟨Nat.le_of_ble_eq_true rfl, Nat.le_of_ble_eq_true rfl⟩) hS hFc hFc rfl (fun t H1 locs ht hB hk1 hS => ?_)
          obtain ⟨hP1, hD1⟩ := hB
          rw [ht] at hP1
          obtain ⟨hP, hD⟩ := va_joinQ (wr := [(oc7 sh (.ref fa) (nI ft)), (oq fa cF 200 FA), (oc1 fe2 rk2 wd2 tw2 pa2 pb2 (.ref lo2) (.ref lk2) fm2), (oc4 lk2 (kd f0) (st f0) (.ref r2) gb2 jt2 we2), (oc6 r2 (.ref rx2) (.ref ry2) (nI (nN (mn f0))) rg2), (oa rx2 cI cap2 U2), (oa ry2 cI cap2 V2)]) (w1 := [(oc8 x (.ref sh) (.ref lw) (.ref ro) (.ref bq) (.ref bp) (.ref dq) (.ref dp) (.ref lv) (.ref sl) ds sd ul 4)]) hP hD [0] [1, 2, 3, 4, 5, 6, 7] rfl rfl (by decide) (by decide) hk1 hFc hP1 hD1
          clear hk1 hPc hDc hFc hP1 hD1 ht
          generalize H1 = H at hP hS ⊢
          have hP := hP.part (cx := [(oc8 x (.ref sh) (.ref lw) (.ref ro) (.ref bq) (.ref bp) (.ref dq) (.ref dp) (.ref lv) (.ref sl) ds sd ul 4), (oc7 sh (.ref fa) (nI ft)), (oq fa cF 200 FA), (oc1 fe2 rk2 wd2 tw2 pa2 pb2 (.ref lo2) (.ref lk2) fm2), (oc4 lk2 (kd f0) (st f0) (.ref r2) gb2 jt2 we2), (oc6 r2 (.ref rx2) (.ref ry2) (nI (nN (mn f0))) rg2), (oa rx2 cI cap2 U2), (oa ry2 cI cap2 V2)]) [7, 0, 1, 2, 3, 4, 5, 6] rfl
          have hD := hD.part (cx := [(oc8 x (.ref sh) (.ref lw) (.ref ro) (.ref bq) (.ref bp) (.ref dq) (.ref dp) (.ref lv) (.ref sl) ds sd ul 4), (oc7 sh (.ref fa) (nI ft)), (oq fa cF 200 FA), (oc1 fe2 rk2 wd2 tw2 pa2 pb2 (.ref lo2) (.ref lk2) fm2), (oc4 lk2 (kd f0) (st f0) (.ref r2) gb2 jt2 we2), (oc6 r2 (.ref rx2) (.ref ry2) (nI (nN (mn f0))) rg2), (oa rx2 cI cap2 U2), (oa ry2 cI cap2 V2)]) [7, 0, 1, 2, 3, 4, 5, 6] (by decide) rfl
          have hP : va_P (dC, dI) classes ([(oc8 x (.ref sh) (.ref lw) (.ref ro) (.ref bq) (.ref bp) (.ref dq) (.ref dp) (.ref lv) (.ref sl) ds sd ul 4), (oc7 sh (.ref fa) (nI ft)), (oq fa cF 200 FA), (oc1 fe2 rk2 wd2 tw2 pa2 pb2 (.ref lo2) (.ref lk2) fm2), (oc4 lk2 (kd f0) (st f0) (.ref r2) gb2 jt2 we2), (oc6 r2 (.ref rx2) (.ref ry2) (nI (nN (mn f0))) rg2), (oa rx2 cI cap2 U2), (oa ry2 cI cap2 V2)] ++ va_pl T_1 f) H := hP
          have hD : va_D A ([(oc8 x (.ref sh) (.ref lw) (.ref ro) (.ref bq) (.ref bp) (.ref dq) (.ref dp) (.ref lv) (.ref sl) ds sd ul 4), (oc7 sh (.ref fa) (nI ft)), (oq fa cF 200 FA), (oc1 fe2 rk2 wd2 tw2 pa2 pb2 (.ref lo2) (.ref lk2) fm2), (oc4 lk2 (kd f0) (st f0) (.ref r2) gb2 jt2 we2), (oc6 r2 (.ref rx2) (.ref ry2) (nI (nN (mn f0))) rg2), (oa rx2 cI cap2 U2), (oa ry2 cI cap2 V2)] ++ va_pl T_1 f) := hD
          have hP := pl_back (cs := [(oc1 fe2 rk2 wd2 tw2 pa2 pb2 (.ref lo2) (.ref lk2) fm2), (oc4 lk2 (kd f0) (st f0) (.ref r2) gb2 jt2 we2), (oc6 r2 (.ref rx2) (.ref ry2) (nI (nN (mn f0))) rg2), (oa rx2 cI cap2 U2), (oa ry2 cI cap2 V2)]) (L := L) (f := f) (X := [(oc8 x (.ref sh) (.ref lw) (.ref ro) (.ref bq) (.ref bp) (.ref dq) (.ref dp) (.ref lv) (.ref sl) ds sd ul 4), (oc7 sh (.ref fa) (nI ft)), (oq fa cF 200 FA)]) (by rw [hT_1]; exact (show va_P (dC, dI) classes (([(oc8 x (.ref sh) (.ref lw) (.ref ro) (.ref bq) (.ref bp) (.ref dq) (.ref dp) (.ref lv) (.ref sl) ds sd ul 4), (oc7 sh (.ref fa) (nI ft)), (oq fa cF 200 FA)] ++ [(oc1 fe2 rk2 wd2 tw2 pa2 pb2 (.ref lo2) (.ref lk2) fm2), (oc4 lk2 (kd f0) (st f0) (.ref r2) gb2 jt2 we2), (oc6 r2 (.ref rx2) (.ref ry2) (nI (nN (mn f0))) rg2), (oa rx2 cI cap2 U2), (oa ry2 cI cap2 V2)]) ++ va_pl T_1 f) H from hP)) hc9_1
          have hD : va_D A ([(oc8 x (.ref sh) (.ref lw) (.ref ro) (.ref bq) (.ref bp) (.ref dq) (.ref dp) (.ref lv) (.ref sl) ds sd ul 4), (oc7 sh (.ref fa) (nI ft)), (oq fa cF 200 FA)] ++ va_pl L f) := vaD_ae hD0_1 rfl
          have hP9 := hP.part (cx := [(oc8 x (.ref sh) (.ref lw) (.ref ro) (.ref bq) (.ref bp) (.ref dq) (.ref dp) (.ref lv) (.ref sl) ds sd ul 4), (oc7 sh (.ref fa) (nI ft)), (oq fa cF 200 FA)]) [0, 1, 2] rfl
          have hD9 := hD.part (cx := [(oc8 x (.ref sh) (.ref lw) (.ref ro) (.ref bq) (.ref bp) (.ref dq) (.ref dp) (.ref lv) (.ref sl) ds sd ul 4), (oc7 sh (.ref fa) (nI ft)), (oq fa cF 200 FA)]) [0, 1, 2] (by decide) rfl
          rw [hQ9]
          exact W.iret (v := (-1)) hx hb hr (fun t ht hW => ⟨⟨rfl, ul, 4, by rw [ht]; exact hP9, hD9⟩, hS.F ht⟩) hS.2.2 dX10_plainer_58
      · have c_5 : ¬ (1 ≤ (kd f0).toInt ∧ (kd f0).toInt ≤ 5) := zp_0 c_5
        refine lv_aload_n hx hb dX10_plainer_43 rfl (lv_at hl 1 rfl) ?_
        refine lv_iconst (v := 3) hx hb dX10_plainer_44 (by decide) ?_
        have hPc := hP.sub (ws' := [(oc8 x (.ref sh) (.ref lw) (.ref ro) (.ref bq) (.ref bp) (.ref dq) (.ref dp) (.ref lv) (.ref sl) ds sd ul su)]) [0] rfl
        have hDc := hD.sub (ws' := [(oc8 x (.ref sh) (.ref lw) (.ref ro) (.ref bq) (.ref bp) (.ref dq) (.ref dp) (.ref lv) (.ref sl) ds sd ul su)]) [0] (by decide) rfl
        have hFc := va_free (wc := [(oc8 x (.ref sh) (.ref lw) (.ref ro) (.ref bq) (.ref bp) (.ref dq) (.ref dp) (.ref lv) (.ref sl) ds sd ul su)]) hD hS hA [0] rfl
        refine zcall (st1 := [.int (-1)]) (va_runV (As := [.int 3]) (rest := []) ⟨hx, hb, hml, hown, hts⟩ (k_refuse_3 l dC dI cI cZ cF H.size x sh lw ro bq bp dq dp lv sl sd ul su ds ) (cwV 1 hts (zz_gV mw_356 mw_358 mw_0 mw_99 mc_yX10_refuse) rfl rfl rfl (by decide +kernel) ⟨Nat.le_of_ble_eq_true rfl, Nat.le_of_ble_eq_true rfl⟩) (zPV2 (q0 := 0) (ci := 8) hPc hDc hK hXN rfl rfl) rfl rfl hl.1 rfl (lv_room (Nat.le_of_ble_eq_true rfl)) dX10_plainer_45 ⟨Nat.le_of_ble_eq_true rfl, Nat.le_of_ble_eq_true rfl⟩) hS hFc hFc rfl (fun t H1 locs ht hB hk1 hS => ?_)
        obtain ⟨hP1, hD1⟩ := hB
        rw [ht] at hP1
        obtain ⟨hP, hD⟩ := va_joinQ (wr := [(oc7 sh (.ref fa) (nI ft)), (oq fa cF 200 FA), (oc1 fe2 rk2 wd2 tw2 pa2 pb2 (.ref lo2) (.ref lk2) fm2), (oc4 lk2 (kd f0) (st f0) (.ref r2) gb2 jt2 we2), (oc6 r2 (.ref rx2) (.ref ry2) (nI (nN (mn f0))) rg2), (oa rx2 cI cap2 U2), (oa ry2 cI cap2 V2)]) (w1 := [(oc8 x (.ref sh) (.ref lw) (.ref ro) (.ref bq) (.ref bp) (.ref dq) (.ref dp) (.ref lv) (.ref sl) ds sd ul 3)]) hP hD [0] [1, 2, 3, 4, 5, 6, 7] rfl rfl (by decide) (by decide) hk1 hFc hP1 hD1
        clear hk1 hPc hDc hFc hP1 hD1 ht
        generalize H1 = H at hP hS ⊢
        have hP := hP.part (cx := [(oc8 x (.ref sh) (.ref lw) (.ref ro) (.ref bq) (.ref bp) (.ref dq) (.ref dp) (.ref lv) (.ref sl) ds sd ul 3), (oc7 sh (.ref fa) (nI ft)), (oq fa cF 200 FA), (oc1 fe2 rk2 wd2 tw2 pa2 pb2 (.ref lo2) (.ref lk2) fm2), (oc4 lk2 (kd f0) (st f0) (.ref r2) gb2 jt2 we2), (oc6 r2 (.ref rx2) (.ref ry2) (nI (nN (mn f0))) rg2), (oa rx2 cI cap2 U2), (oa ry2 cI cap2 V2)]) [7, 0, 1, 2, 3, 4, 5, 6] rfl
        have hD := hD.part (cx := [(oc8 x (.ref sh) (.ref lw) (.ref ro) (.ref bq) (.ref bp) (.ref dq) (.ref dp) (.ref lv) (.ref sl) ds sd ul 3), (oc7 sh (.ref fa) (nI ft)), (oq fa cF 200 FA), (oc1 fe2 rk2 wd2 tw2 pa2 pb2 (.ref lo2) (.ref lk2) fm2), (oc4 lk2 (kd f0) (st f0) (.ref r2) gb2 jt2 we2), (oc6 r2 (.ref rx2) (.ref ry2) (nI (nN (mn f0))) rg2), (oa rx2 cI cap2 U2), (oa ry2 cI cap2 V2)]) [7, 0, 1, 2, 3, 4, 5, 6] (by decide) rfl
        have hP : va_P (dC, dI) classes ([(oc8 x (.ref sh) (.ref lw) (.ref ro) (.ref bq) (.ref bp) (.ref dq) (.ref dp) (.ref lv) (.ref sl) ds sd ul 3), (oc7 sh (.ref fa) (nI ft)), (oq fa cF 200 FA), (oc1 fe2 rk2 wd2 tw2 pa2 pb2 (.ref lo2) (.ref lk2) fm2), (oc4 lk2 (kd f0) (st f0) (.ref r2) gb2 jt2 we2), (oc6 r2 (.ref rx2) (.ref ry2) (nI (nN (mn f0))) rg2), (oa rx2 cI cap2 U2), (oa ry2 cI cap2 V2)] ++ va_pl T_1 f) H := hP
        have hD : va_D A ([(oc8 x (.ref sh) (.ref lw) (.ref ro) (.ref bq) (.ref bp) (.ref dq) (.ref dp) (.ref lv) (.ref sl) ds sd ul 3), (oc7 sh (.ref fa) (nI ft)), (oq fa cF 200 FA), (oc1 fe2 rk2 wd2 tw2 pa2 pb2 (.ref lo2) (.ref lk2) fm2), (oc4 lk2 (kd f0) (st f0) (.ref r2) gb2 jt2 we2), (oc6 r2 (.ref rx2) (.ref ry2) (nI (nN (mn f0))) rg2), (oa rx2 cI cap2 U2), (oa ry2 cI cap2 V2)] ++ va_pl T_1 f) := hD
        have hP := pl_back (cs := [(oc1 fe2 rk2 wd2 tw2 pa2 pb2 (.ref lo2) (.ref lk2) fm2), (oc4 lk2 (kd f0) (st f0) (.ref r2) gb2 jt2 we2), (oc6 r2 (.ref rx2) (.ref ry2) (nI (nN (mn f0))) rg2), (oa rx2 cI cap2 U2), (oa ry2 cI cap2 V2)]) (L := L) (f := f) (X := [(oc8 x (.ref sh) (.ref lw) (.ref ro) (.ref bq) (.ref bp) (.ref dq) (.ref dp) (.ref lv) (.ref sl) ds sd ul 3), (oc7 sh (.ref fa) (nI ft)), (oq fa cF 200 FA)]) (by rw [hT_1]; exact (show va_P (dC, dI) classes (([(oc8 x (.ref sh) (.ref lw) (.ref ro) (.ref bq) (.ref bp) (.ref dq) (.ref dp) (.ref lv) (.ref sl) ds sd ul 3), (oc7 sh (.ref fa) (nI ft)), (oq fa cF 200 FA)] ++ [(oc1 fe2 rk2 wd2 tw2 pa2 pb2 (.ref lo2) (.ref lk2) fm2), (oc4 lk2 (kd f0) (st f0) (.ref r2) gb2 jt2 we2), (oc6 r2 (.ref rx2) (.ref ry2) (nI (nN (mn f0))) rg2), (oa rx2 cI cap2 U2), (oa ry2 cI cap2 V2)]) ++ va_pl T_1 f) H from hP)) hc9_1
        have hD : va_D A ([(oc8 x (.ref sh) (.ref lw) (.ref ro) (.ref bq) (.ref bp) (.ref dq) (.ref dp) (.ref lv) (.ref sl) ds sd ul 3), (oc7 sh (.ref fa) (nI ft)), (oq fa cF 200 FA)] ++ va_pl L f) := vaD_ae hD0_1 rfl
        have hP9 := hP.part (cx := [(oc8 x (.ref sh) (.ref lw) (.ref ro) (.ref bq) (.ref bp) (.ref dq) (.ref dp) (.ref lv) (.ref sl) ds sd ul 3), (oc7 sh (.ref fa) (nI ft)), (oq fa cF 200 FA)]) [0, 1, 2] rfl
        have hD9 := hD.part (cx := [(oc8 x (.ref sh) (.ref lw) (.ref ro) (.ref bq) (.ref bp) (.ref dq) (.ref dp) (.ref lv) (.ref sl) ds sd ul 3), (oc7 sh (.ref fa) (nI ft)), (oq fa cF 200 FA)]) [0, 1, 2] (by decide) rfl
        rw [hQ9]
        exact W.iret (v := (-1)) hx hb hr (fun t ht hW => ⟨⟨rfl, ul, 3, by rw [ht]; exact hP9, hD9⟩, hS.F ht⟩) hS.2.2 dX10_plainer_48
    · have c_4 : ¬ (st f0).toInt = 1 := zc_ne rfl (by decide) c_4
      refine lv_aload_n hx hb dX10_plainer_30 rfl (lv_at hl 1 rfl) ?_
      refine lv_iconst (v := 2) hx hb dX10_plainer_31 (by decide) ?_
      have hPc := hP.sub (ws' := [(oc8 x (.ref sh) (.ref lw) (.ref ro) (.ref bq) (.ref bp) (.ref dq) (.ref dp) (.ref lv) (.ref sl) ds sd ul su)]) [0] rfl
      have hDc := hD.sub (ws' := [(oc8 x (.ref sh) (.ref lw) (.ref ro) (.ref bq) (.ref bp) (.ref dq) (.ref dp) (.ref lv) (.ref sl) ds sd ul su)]) [0] (by decide) rfl
      have hFc := va_free (wc := [(oc8 x (.ref sh) (.ref lw) (.ref ro) (.ref bq) (.ref bp) (.ref dq) (.ref dp) (.ref lv) (.ref sl) ds sd ul su)]) hD hS hA [0] rfl
      refine zcall (st1 := [.int (-1)]) (va_runV (As := [.int 2]) (rest := []) ⟨hx, hb, hml, hown, hts⟩ (k_refuse_2 l dC dI cI cZ cF H.size x sh lw ro bq bp dq dp lv sl sd ul su ds ) (cwV 1 hts (zz_gV mw_356 mw_358 mw_0 mw_99 mc_yX10_refuse) rfl rfl rfl (by decide +kernel) ⟨Nat.le_of_ble_eq_true rfl, Nat.le_of_ble_eq_true rfl⟩) (zPV2 (q0 := 0) (ci := 8) hPc hDc hK hXN rfl rfl) rfl rfl hl.1 rfl (lv_room (Nat.le_of_ble_eq_true rfl)) dX10_plainer_32 ⟨Nat.le_of_ble_eq_true rfl, Nat.le_of_ble_eq_true rfl⟩) hS hFc hFc rfl (fun t H1 locs ht hB hk1 hS => ?_)
      obtain ⟨hP1, hD1⟩ := hB
      rw [ht] at hP1
      obtain ⟨hP, hD⟩ := va_joinQ (wr := [(oc7 sh (.ref fa) (nI ft)), (oq fa cF 200 FA), (oc1 fe2 rk2 wd2 tw2 pa2 pb2 (.ref lo2) (.ref lk2) fm2), (oc4 lk2 (kd f0) (st f0) (.ref r2) gb2 jt2 we2), (oc6 r2 (.ref rx2) (.ref ry2) (nI (nN (mn f0))) rg2), (oa rx2 cI cap2 U2), (oa ry2 cI cap2 V2)]) (w1 := [(oc8 x (.ref sh) (.ref lw) (.ref ro) (.ref bq) (.ref bp) (.ref dq) (.ref dp) (.ref lv) (.ref sl) ds sd ul 2)]) hP hD [0] [1, 2, 3, 4, 5, 6, 7] rfl rfl (by decide) (by decide) hk1 hFc hP1 hD1
      clear hk1 hPc hDc hFc hP1 hD1 ht
      generalize H1 = H at hP hS ⊢
      have hP := hP.part (cx := [(oc8 x (.ref sh) (.ref lw) (.ref ro) (.ref bq) (.ref bp) (.ref dq) (.ref dp) (.ref lv) (.ref sl) ds sd ul 2), (oc7 sh (.ref fa) (nI ft)), (oq fa cF 200 FA), (oc1 fe2 rk2 wd2 tw2 pa2 pb2 (.ref lo2) (.ref lk2) fm2), (oc4 lk2 (kd f0) (st f0) (.ref r2) gb2 jt2 we2), (oc6 r2 (.ref rx2) (.ref ry2) (nI (nN (mn f0))) rg2), (oa rx2 cI cap2 U2), (oa ry2 cI cap2 V2)]) [7, 0, 1, 2, 3, 4, 5, 6] rfl
      have hD := hD.part (cx := [(oc8 x (.ref sh) (.ref lw) (.ref ro) (.ref bq) (.ref bp) (.ref dq) (.ref dp) (.ref lv) (.ref sl) ds sd ul 2), (oc7 sh (.ref fa) (nI ft)), (oq fa cF 200 FA), (oc1 fe2 rk2 wd2 tw2 pa2 pb2 (.ref lo2) (.ref lk2) fm2), (oc4 lk2 (kd f0) (st f0) (.ref r2) gb2 jt2 we2), (oc6 r2 (.ref rx2) (.ref ry2) (nI (nN (mn f0))) rg2), (oa rx2 cI cap2 U2), (oa ry2 cI cap2 V2)]) [7, 0, 1, 2, 3, 4, 5, 6] (by decide) rfl
      have hP : va_P (dC, dI) classes ([(oc8 x (.ref sh) (.ref lw) (.ref ro) (.ref bq) (.ref bp) (.ref dq) (.ref dp) (.ref lv) (.ref sl) ds sd ul 2), (oc7 sh (.ref fa) (nI ft)), (oq fa cF 200 FA), (oc1 fe2 rk2 wd2 tw2 pa2 pb2 (.ref lo2) (.ref lk2) fm2), (oc4 lk2 (kd f0) (st f0) (.ref r2) gb2 jt2 we2), (oc6 r2 (.ref rx2) (.ref ry2) (nI (nN (mn f0))) rg2), (oa rx2 cI cap2 U2), (oa ry2 cI cap2 V2)] ++ va_pl T_1 f) H := hP
      have hD : va_D A ([(oc8 x (.ref sh) (.ref lw) (.ref ro) (.ref bq) (.ref bp) (.ref dq) (.ref dp) (.ref lv) (.ref sl) ds sd ul 2), (oc7 sh (.ref fa) (nI ft)), (oq fa cF 200 FA), (oc1 fe2 rk2 wd2 tw2 pa2 pb2 (.ref lo2) (.ref lk2) fm2), (oc4 lk2 (kd f0) (st f0) (.ref r2) gb2 jt2 we2), (oc6 r2 (.ref rx2) (.ref ry2) (nI (nN (mn f0))) rg2), (oa rx2 cI cap2 U2), (oa ry2 cI cap2 V2)] ++ va_pl T_1 f) := hD
      have hP := pl_back (cs := [(oc1 fe2 rk2 wd2 tw2 pa2 pb2 (.ref lo2) (.ref lk2) fm2), (oc4 lk2 (kd f0) (st f0) (.ref r2) gb2 jt2 we2), (oc6 r2 (.ref rx2) (.ref ry2) (nI (nN (mn f0))) rg2), (oa rx2 cI cap2 U2), (oa ry2 cI cap2 V2)]) (L := L) (f := f) (X := [(oc8 x (.ref sh) (.ref lw) (.ref ro) (.ref bq) (.ref bp) (.ref dq) (.ref dp) (.ref lv) (.ref sl) ds sd ul 2), (oc7 sh (.ref fa) (nI ft)), (oq fa cF 200 FA)]) (by rw [hT_1]; exact (show va_P (dC, dI) classes (([(oc8 x (.ref sh) (.ref lw) (.ref ro) (.ref bq) (.ref bp) (.ref dq) (.ref dp) (.ref lv) (.ref sl) ds sd ul 2), (oc7 sh (.ref fa) (nI ft)), (oq fa cF 200 FA)] ++ [(oc1 fe2 rk2 wd2 tw2 pa2 pb2 (.ref lo2) (.ref lk2) fm2), (oc4 lk2 (kd f0) (st f0) (.ref r2) gb2 jt2 we2), (oc6 r2 (.ref rx2) (.ref ry2) (nI (nN (mn f0))) rg2), (oa rx2 cI cap2 U2), (oa ry2 cI cap2 V2)]) ++ va_pl T_1 f) H from hP)) hc9_1
      have hD : va_D A ([(oc8 x (.ref sh) (.ref lw) (.ref ro) (.ref bq) (.ref bp) (.ref dq) (.ref dp) (.ref lv) (.ref sl) ds sd ul 2), (oc7 sh (.ref fa) (nI ft)), (oq fa cF 200 FA)] ++ va_pl L f) := vaD_ae hD0_1 rfl
      have hP9 := hP.part (cx := [(oc8 x (.ref sh) (.ref lw) (.ref ro) (.ref bq) (.ref bp) (.ref dq) (.ref dp) (.ref lv) (.ref sl) ds sd ul 2), (oc7 sh (.ref fa) (nI ft)), (oq fa cF 200 FA)]) [0, 1, 2] rfl
      have hD9 := hD.part (cx := [(oc8 x (.ref sh) (.ref lw) (.ref ro) (.ref bq) (.ref bp) (.ref dq) (.ref dp) (.ref lv) (.ref sl) ds sd ul 2), (oc7 sh (.ref fa) (nI ft)), (oq fa cF 200 FA)]) [0, 1, 2] (by decide) rfl
      rw [hQ9]
      exact W.iret (v := (-1)) hx hb hr (fun t ht hW => ⟨⟨rfl, ul, 2, by rw [ht]; exact hP9, hD9⟩, hS.F ht⟩) hS.2.2 dX10_plainer_35
set_option maxHeartbeats 4000000 in
set_option maxRecDepth 100000 in
theorem k_smooth_r (l : Launch) (dC : Nat → ClassId) (dI : Nat → Nat → Nat) (cI cZ cF : ClassId) (sz : Nat) (x : Nat) (sh : Nat) (lw : Nat) (ro : Nat) (bq : Nat) (bp : Nat) (dq : Nat) (dp : Nat) (lv : Nat) (sl : Nat) (sd : Int32) (ul : Int32) (su : Int32) (ds : Int32) (fa : Nat) (ft : Nat) (FA : Nat → Option Nat) (f0 : Nat) (L : List Nat) (f : Nat → va_E) (kd : Nat → Int32) (st : Nat → Int32) (tn : Nat → Int32) (mn : Nat → Int32) (cx : Nat → Int32) (cy : Nat → Int32) (h200 : ft ≤ 200) (hf0 : f0 < ft) (hvw : ∀ q, q < ft → vwO cI L f FA kd st tn mn cx cy q) (hbad : ¬ ((st f0).toInt = 1 ∧ (1 ≤ (kd f0).toInt ∧ (kd f0).toInt ≤ 5) ∧ (tn f0).toInt = 0)) : Met l yX10_smooth (.code yX10_smooth cX10_smooth 4 (some .boolean) :: ws0) ({ frames := 2, cells := 0, slots := 0, locals := 42 } : Room) (va_Pc [.ref x, .int (nI f0)] (zPre (dC, dI) classes (zTy cI cZ cF) ([(oc8 x (.ref sh) (.ref lw) (.ref ro) (.ref bq) (.ref bp) (.ref dq) (.ref dp) (.ref lv) (.ref sl) ds sd ul su), (oc7 sh (.ref fa) (nI ft)), (oq fa cF 200 FA)] ++ va_pl L f) sz zXN)) (zQ (some (.int 0)) (fun t => ∃ (ul1 : Int32), ∃ (su1 : Int32), va_P (dC, dI) classes ([(oc8 x (.ref sh) (.ref lw) (.ref ro) (.ref bq) (.ref bp) (.ref dq) (.ref dp) (.ref lv) (.ref sl) ds sd ul1 su1), (oc7 sh (.ref fa) (nI ft)), (oq fa cF 200 FA)] ++ va_pl L f) t.heap ∧ va_D (va_A ([(oc8 x (.ref sh) (.ref lw) (.ref ro) (.ref bq) (.ref bp) (.ref dq) (.ref dp) (.ref lv) (.ref sl) ds sd ul su), (oc7 sh (.ref fa) (nI ft)), (oq fa cF 200 FA)] ++ va_pl L f) sz) ([(oc8 x (.ref sh) (.ref lw) (.ref ro) (.ref bq) (.ref bp) (.ref dq) (.ref dp) (.ref lv) (.ref sl) ds sd ul1 su1), (oc7 sh (.ref fa) (nI ft)), (oq fa cF 200 FA)] ++ va_pl L f)) (va_A ([(oc8 x (.ref sh) (.ref lw) (.ref ro) (.ref bq) (.ref bp) (.ref dq) (.ref dp) (.ref lv) (.ref sl) ds sd ul su), (oc7 sh (.ref fa) (nI ft)), (oq fa cF 200 FA)] ++ va_pl L f) sz)) 0 0 (va_A ([(oc8 x (.ref sh) (.ref lw) (.ref ro) (.ref bq) (.ref bp) (.ref dq) (.ref dp) (.ref lv) (.ref sl) ds sd ul su), (oc7 sh (.ref fa) (nI ft)), (oq fa cF 200 FA)] ++ va_pl L f) sz) := by
  refine Met.ofW (cc := cX10_smooth) (maxL := 4) (ret := (some .boolean)) (by decide) rfl ?_
  intro p e s m args below meth c s₁ B hml hv
  obtain ⟨rfl, hsz, hP, hK, hD0, hXN⟩ := hv
  have hx := B.exec
  have hb := B.bytes
  have hr := B.returns
  have hts0 := atoms_spec (ws := .code yX10_smooth cX10_smooth 4 (some .boolean) :: ws0) B.pre
  have hts : ∀ w9 ∈ ws0, w9.before ([.ref x, .int (nI f0)] : List Value).toArray s = true := fun w9 h => hts0 w9 (List.mem_cons_of_mem _ h)
  have hown : s.vm.findClass "ScaleShop" = some m.cls := findClass_of_methodNamed B.named
  have hlocks := B.notSynchronized
  subst hsz
  have hD := hD0.self (sz := s.heap.size)
  clear hD0
  generalize hAe : va_A ([(oc8 x (.ref sh) (.ref lw) (.ref ro) (.ref bq) (.ref bp) (.ref dq) (.ref dp) (.ref lv) (.ref sl) ds sd ul su), (oc7 sh (.ref fa) (nI ft)), (oq fa cF 200 FA)] ++ va_pl L f) s.heap.size = A at hD ⊢
  have hA : ∀ q : Nat, s.heap.size ≤ q → A q := fun q h => by rw [← hAe]; exact Or.inr h
  clear hAe
  have hS : va_S A s.heap s.heap [] := va_S.rf
  have hP : va_P (dC, dI) classes ([(oc8 x (.ref sh) (.ref lw) (.ref ro) (.ref bq) (.ref bp) (.ref dq) (.ref dp) (.ref lv) (.ref sl) ds sd ul su), (oc7 sh (.ref fa) (nI ft)), (oq fa cF 200 FA)] ++ va_pl L f) s.heap := hP
  obtain ⟨Q9, hQ9⟩ : ∃ Q9 : State → Prop, Q9 = MQ below (zQ (some (.int 0)) (fun t => ∃ (ul1 : Int32), ∃ (su1 : Int32), va_P (dC, dI) classes ([(oc8 x (.ref sh) (.ref lw) (.ref ro) (.ref bq) (.ref bp) (.ref dq) (.ref dp) (.ref lv) (.ref sl) ds sd ul1 su1), (oc7 sh (.ref fa) (nI ft)), (oq fa cF 200 FA)] ++ va_pl L f) t.heap ∧ va_D A ([(oc8 x (.ref sh) (.ref lw) (.ref ro) (.ref bq) (.ref bp) (.ref dq) (.ref dp) (.ref lv) (.ref sl) ds sd ul1 su1), (oc7 sh (.ref fa) (nI ft)), (oq fa cF 200 FA)] ++ va_pl L f)) A) ([.ref x, .int (nI f0)] : List Value).toArray s 0 0 A := ⟨_, rfl⟩
  rw [← hQ9]
  have hl := lv_entry ([.ref x, .int (nI f0)]) (n := 4) (Nat.le_of_ble_eq_true rfl)
  rw [lg_entry_eq]
  generalize (lg_sl ([.ref x, .int (nI f0)]) ++ List.replicate (4 - (lg_sl ([.ref x, .int (nI f0)])).length) Slot.unset).toArray = ls at hl ⊢
  have hl : lv_has ls 4 [(0, .ref x), (1, .int (nI f0))] := hl
  rcases vw2 (hvw f0 (show f0 < ft by omega)) with ⟨ht2, fe2, lk2, lo2, rk2, wd2, tw2, pa2, pb2, gb2, jt2, we2, fm2, hFA2, hfe2, hlk2⟩ | ⟨ht2, fe2, lk2, lo2, rk2, wd2, tw2, pa2, pb2, gb2, jt2, we2, fm2, r2, rx2, ry2, cap2, U2, V2, rg2, hFA2, hfe2, hlk2, ⟨hr2, hrx2, hry2, hne2⟩, hrr2⟩
  · skip
    have hc9_1 : inPl L f [(oc1 fe2 rk2 wd2 tw2 pa2 pb2 (.ref lo2) (.ref lk2) fm2), (oc4 lk2 (kd f0) (st f0) .null gb2 jt2 we2)] := ⟨hfe2, hlk2, trivial⟩
    have hD0_1 := hD
    obtain ⟨hP, hD⟩ := pl_out hP hD [(oc1 fe2 rk2 wd2 tw2 pa2 pb2 (.ref lo2) (.ref lk2) fm2), (oc4 lk2 (kd f0) (st f0) .null gb2 jt2 we2)] hc9_1 (pwF hfe2.2 hlk2.2)
    generalize hT_1 : outPl L [(oc1 fe2 rk2 wd2 tw2 pa2 pb2 (.ref lo2) (.ref lk2) fm2), (oc4 lk2 (kd f0) (st f0) .null gb2 jt2 we2)] = T_1 at hP hD
    have hP : va_P (dC, dI) classes ([(oc8 x (.ref sh) (.ref lw) (.ref ro) (.ref bq) (.ref bp) (.ref dq) (.ref dp) (.ref lv) (.ref sl) ds sd ul su), (oc7 sh (.ref fa) (nI ft)), (oq fa cF 200 FA), (oc1 fe2 rk2 wd2 tw2 pa2 pb2 (.ref lo2) (.ref lk2) fm2), (oc4 lk2 (kd f0) (st f0) .null gb2 jt2 we2)] ++ va_pl T_1 f) s.heap := hP
    have hD : va_D A ([(oc8 x (.ref sh) (.ref lw) (.ref ro) (.ref bq) (.ref bp) (.ref dq) (.ref dp) (.ref lv) (.ref sl) ds sd ul su), (oc7 sh (.ref fa) (nI ft)), (oq fa cF 200 FA), (oc1 fe2 rk2 wd2 tw2 pa2 pb2 (.ref lo2) (.ref lk2) fm2), (oc4 lk2 (kd f0) (st f0) .null gb2 jt2 we2)] ++ va_pl T_1 f) := hD
    refine lv_aload_n hx hb dX10_smooth_0 rfl (lv_at hl 0 rfl) ?_
    refine va_get (D := (dC, dI)) (ci := 8) (v := .ref sh) (C := RX10) (T := TX10) (N := 13) hx hb hts inX10 hown hK hP 0 rfl rfl 0 (by decide) (hts _ mw_309) (fun _ h9 => h9) rfl dX10_smooth_1 ?_
    refine lv_iload_n hx hb dX10_smooth_4 rfl (lv_at hl 1 rfl) ?_
    have hPc := hP.sub (ws' := [(oc7 sh (.ref fa) (nI ft)), (oq fa cF 200 FA)]) [1, 2] rfl
    have hDc := hD.sub (ws' := [(oc7 sh (.ref fa) (nI ft)), (oq fa cF 200 FA)]) [1, 2] (by decide) rfl
    have hFc := va_free (wc := [(oc7 sh (.ref fa) (nI ft)), (oq fa cF 200 FA)]) hD hS hA [1, 2] rfl
    refine zcall (st1 := [.ref fe2]) (va_runV (As := [.int (nI f0)]) (rest := []) ⟨hx, hb, hml, hown, hts⟩ (k_Sheet_find l dC dI cI cZ cF s.heap.size sh fa ft FA f0 fe2 (by omega) (by omega) (hFA2)) (cwV 1 hts (zz_gV mw_498 mw_499 mw_500 mw_100 mc_yX8_find) rfl rfl rfl (by decide +kernel) ⟨Nat.le_of_ble_eq_true rfl, Nat.le_of_ble_eq_true rfl⟩) (zPV2 (q0 := 0) (ci := 7) hPc hDc hK hXN rfl rfl) rfl rfl hl.1 rfl (lv_room (Nat.le_of_ble_eq_true rfl)) dX10_smooth_5 ⟨Nat.le_of_ble_eq_true rfl, Nat.le_of_ble_eq_true rfl⟩) hS hFc hFc rfl (fun t H1 locs ht hB hk1 hS => ?_)
    obtain ⟨hP1, hD1⟩ := hB
    rw [ht] at hP1
    obtain ⟨hP, hD⟩ := va_joinQ (wr := [(oc8 x (.ref sh) (.ref lw) (.ref ro) (.ref bq) (.ref bp) (.ref dq) (.ref dp) (.ref lv) (.ref sl) ds sd ul su), (oc1 fe2 rk2 wd2 tw2 pa2 pb2 (.ref lo2) (.ref lk2) fm2), (oc4 lk2 (kd f0) (st f0) .null gb2 jt2 we2)]) (w1 := [(oc7 sh (.ref fa) (nI ft)), (oq fa cF 200 FA)]) hP hD [1, 2] [0, 3, 4] rfl rfl (by decide) (by decide) hk1 hFc hP1 hD1
    clear hk1 hPc hDc hFc hP1 hD1 ht
    generalize H1 = H at hP hS ⊢
    have hP := hP.part (cx := [(oc8 x (.ref sh) (.ref lw) (.ref ro) (.ref bq) (.ref bp) (.ref dq) (.ref dp) (.ref lv) (.ref sl) ds sd ul su), (oc7 sh (.ref fa) (nI ft)), (oq fa cF 200 FA), (oc1 fe2 rk2 wd2 tw2 pa2 pb2 (.ref lo2) (.ref lk2) fm2), (oc4 lk2 (kd f0) (st f0) .null gb2 jt2 we2)]) [0, 3, 4, 1, 2] rfl
    have hD := hD.part (cx := [(oc8 x (.ref sh) (.ref lw) (.ref ro) (.ref bq) (.ref bp) (.ref dq) (.ref dp) (.ref lv) (.ref sl) ds sd ul su), (oc7 sh (.ref fa) (nI ft)), (oq fa cF 200 FA), (oc1 fe2 rk2 wd2 tw2 pa2 pb2 (.ref lo2) (.ref lk2) fm2), (oc4 lk2 (kd f0) (st f0) .null gb2 jt2 we2)]) [0, 3, 4, 1, 2] (by decide) rfl
    have hP : va_P (dC, dI) classes ([(oc8 x (.ref sh) (.ref lw) (.ref ro) (.ref bq) (.ref bp) (.ref dq) (.ref dp) (.ref lv) (.ref sl) ds sd ul su), (oc7 sh (.ref fa) (nI ft)), (oq fa cF 200 FA), (oc1 fe2 rk2 wd2 tw2 pa2 pb2 (.ref lo2) (.ref lk2) fm2), (oc4 lk2 (kd f0) (st f0) .null gb2 jt2 we2)] ++ va_pl T_1 f) H := hP
    have hD : va_D A ([(oc8 x (.ref sh) (.ref lw) (.ref ro) (.ref bq) (.ref bp) (.ref dq) (.ref dp) (.ref lv) (.ref sl) ds sd ul su), (oc7 sh (.ref fa) (nI ft)), (oq fa cF 200 FA), (oc1 fe2 rk2 wd2 tw2 pa2 pb2 (.ref lo2) (.ref lk2) fm2), (oc4 lk2 (kd f0) (st f0) .null gb2 jt2 we2)] ++ va_pl T_1 f) := hD
    refine lv_astore_n (lv' := [(2, .ref fe2), (0, .ref x), (1, .int (nI f0))]) hx hb dX10_smooth_8 rfl hl (by decide) rfl (fun ls hl => ?_)
    refine lv_aload_n hx hb dX10_smooth_9 rfl (lv_at hl 0 rfl) ?_
    refine lv_ifnonnull (tgt := 19) hx hb dX10_smooth_10 (by decide) ?_
    refine lv_aload_n hx hb dX10_smooth_19 rfl (lv_at hl 0 rfl) ?_
    refine va_get (D := (dC, dI)) (ci := 1) (v := .ref lk2) (C := RX2) (T := TX2) (N := 8) hx hb hts inX2 hown hK hP 3 rfl rfl 6 (by decide) (hts _ mw_433) (fun _ h9 => h9) rfl dX10_smooth_20 ?_
    refine va_get (D := (dC, dI)) (ci := 4) (v := .int (st f0)) (C := RX5) (T := TX5) (N := 6) hx hb hts inX5 hown hK hP 4 rfl rfl 1 (by decide) (hts _ mw_385) (fun _ h9 => h9) rfl dX10_smooth_23 ?_
    refine lv_iconst (v := 1) hx hb dX10_smooth_26 (by decide) ?_
    refine lv_icmp_eq (tgt := 36) hx hb dX10_smooth_27 (by decide) (fun c_1 => ?_) (fun c_1 => ?_)
    · have c_1 : (st f0).toInt = 1 := zc_eq rfl (by decide) c_1
      refine lv_aload_n hx hb dX10_smooth_36 rfl (lv_at hl 0 rfl) ?_
      have hPc := hP.sub (ws' := [(oc1 fe2 rk2 wd2 tw2 pa2 pb2 (.ref lo2) (.ref lk2) fm2), (oc4 lk2 (kd f0) (st f0) .null gb2 jt2 we2)]) [3, 4] rfl
      have hDc := hD.sub (ws' := [(oc1 fe2 rk2 wd2 tw2 pa2 pb2 (.ref lo2) (.ref lk2) fm2), (oc4 lk2 (kd f0) (st f0) .null gb2 jt2 we2)]) [3, 4] (by decide) rfl
      have hFc := va_free (wc := [(oc1 fe2 rk2 wd2 tw2 pa2 pb2 (.ref lo2) (.ref lk2) fm2), (oc4 lk2 (kd f0) (st f0) .null gb2 jt2 we2)]) hD hS hA [3, 4] rfl
      refine zcall (st1 := [.int (pI (1 ≤ (kd f0).toInt ∧ (kd f0).toInt ≤ 5))]) (va_runV (As := []) (rest := []) ⟨hx, hb, hml, hown, hts⟩ (k_Feature_bends_v l dC dI cI cZ cF H.size fe2 lo2 rk2 wd2 tw2 pa2 pb2 lk2 (kd f0) (st f0) gb2 jt2 we2 fm2 (.null) ) (cwV 0 hts (zz_gV mw_564 mw_565 mw_566 mw_111 mc_yX2_bends) rfl rfl rfl (by decide +kernel) ⟨Nat.le_of_ble_eq_true rfl, Nat.le_of_ble_eq_true rfl⟩) (zPV2 (q0 := 0) (ci := 1) hPc hDc hK hXN rfl rfl) rfl rfl hl.1 rfl (lv_room (Nat.le_of_ble_eq_true rfl)) dX10_smooth_37 ⟨Nat.le_of_ble_eq_true rfl, Nat.le_of_ble_eq_true rfl⟩) hS hFc hFc rfl (fun t H1 locs ht hB hk1 hS => ?_)
      obtain ⟨hP1, hD1⟩ := hB
      rw [ht] at hP1
      obtain ⟨hP, hD⟩ := va_joinQ (wr := [(oc8 x (.ref sh) (.ref lw) (.ref ro) (.ref bq) (.ref bp) (.ref dq) (.ref dp) (.ref lv) (.ref sl) ds sd ul su), (oc7 sh (.ref fa) (nI ft)), (oq fa cF 200 FA)]) (w1 := [(oc1 fe2 rk2 wd2 tw2 pa2 pb2 (.ref lo2) (.ref lk2) fm2), (oc4 lk2 (kd f0) (st f0) .null gb2 jt2 we2)]) hP hD [3, 4] [0, 1, 2] rfl rfl (by decide) (by decide) hk1 hFc hP1 hD1
      clear hk1 hPc hDc hFc hP1 hD1 ht
      generalize H1 = H at hP hS ⊢
      have hP : va_P (dC, dI) classes ([(oc8 x (.ref sh) (.ref lw) (.ref ro) (.ref bq) (.ref bp) (.ref dq) (.ref dp) (.ref lv) (.ref sl) ds sd ul su), (oc7 sh (.ref fa) (nI ft)), (oq fa cF 200 FA), (oc1 fe2 rk2 wd2 tw2 pa2 pb2 (.ref lo2) (.ref lk2) fm2), (oc4 lk2 (kd f0) (st f0) .null gb2 jt2 we2)] ++ va_pl T_1 f) H := hP
      have hD : va_D A ([(oc8 x (.ref sh) (.ref lw) (.ref ro) (.ref bq) (.ref bp) (.ref dq) (.ref dp) (.ref lv) (.ref sl) ds sd ul su), (oc7 sh (.ref fa) (nI ft)), (oq fa cF 200 FA), (oc1 fe2 rk2 wd2 tw2 pa2 pb2 (.ref lo2) (.ref lk2) fm2), (oc4 lk2 (kd f0) (st f0) .null gb2 jt2 we2)] ++ va_pl T_1 f) := hD
      refine lv_if_ne (tgt := 49) hx hb dX10_smooth_40 (by decide) (fun c_2 => ?_) (fun c_2 => ?_)
      · have c_2 : 1 ≤ (kd f0).toInt ∧ (kd f0).toInt ≤ 5 := zp_1 c_2
        refine lv_aload_n hx hb dX10_smooth_49 rfl (lv_at hl 0 rfl) ?_
        refine va_get (D := (dC, dI)) (ci := 1) (v := .ref lk2) (C := RX2) (T := TX2) (N := 8) hx hb hts inX2 hown hK hP 3 rfl rfl 6 (by decide) (hts _ mw_433) (fun _ h9 => h9) rfl dX10_smooth_50 ?_
        refine va_get (D := (dC, dI)) (ci := 4) (v := .null) (C := RX5) (T := TX5) (N := 6) hx hb hts inX5 hown hK hP 4 rfl rfl 2 (by decide) (hts _ mw_391) (fun _ h9 => h9) rfl dX10_smooth_53 ?_
        refine lv_astore_nN (lv' := [(3, .null), (2, .ref fe2), (0, .ref x), (1, .int (nI f0))]) hx hb dX10_smooth_56 rfl hl (by decide) rfl (fun ls hl => ?_)
        refine lv_aload_nN hx hb dX10_smooth_57 rfl (lv_at hl 0 rfl) ?_
        refine lv_ifnonnullN hx hb dX10_smooth_58 ?_
        refine lv_aload_n hx hb dX10_smooth_61 rfl (lv_at hl 2 rfl) ?_
        refine lv_iconst (v := 5) hx hb dX10_smooth_62 (by decide) ?_
        have hPc := hP.sub (ws' := [(oc8 x (.ref sh) (.ref lw) (.ref ro) (.ref bq) (.ref bp) (.ref dq) (.ref dp) (.ref lv) (.ref sl) ds sd ul su)]) [0] rfl
        have hDc := hD.sub (ws' := [(oc8 x (.ref sh) (.ref lw) (.ref ro) (.ref bq) (.ref bp) (.ref dq) (.ref dp) (.ref lv) (.ref sl) ds sd ul su)]) [0] (by decide) rfl
        have hFc := va_free (wc := [(oc8 x (.ref sh) (.ref lw) (.ref ro) (.ref bq) (.ref bp) (.ref dq) (.ref dp) (.ref lv) (.ref sl) ds sd ul su)]) hD hS hA [0] rfl
        refine zcall (st1 := [.int 0]) (va_runV (As := [.int 5]) (rest := []) ⟨hx, hb, hml, hown, hts⟩ (k_deny_5 l dC dI cI cZ cF H.size x sh lw ro bq bp dq dp lv sl sd ul su ds ) (cwV 1 hts (zz_gV mw_513 mw_515 mw_4 mw_99 mc_yX10_deny) rfl rfl rfl (by decide +kernel) ⟨Nat.le_of_ble_eq_true rfl, Nat.le_of_ble_eq_true rfl⟩) (zPV2 (q0 := 0) (ci := 8) hPc hDc hK hXN rfl rfl) rfl rfl hl.1 rfl (lv_room (Nat.le_of_ble_eq_true rfl)) dX10_smooth_63 ⟨Nat.le_of_ble_eq_true rfl, Nat.le_of_ble_eq_true rfl⟩) hS hFc hFc rfl (fun t H1 locs ht hB hk1 hS => ?_)
        obtain ⟨hP1, hD1⟩ := hB
        rw [ht] at hP1
        obtain ⟨hP, hD⟩ := va_joinQ (wr := [(oc7 sh (.ref fa) (nI ft)), (oq fa cF 200 FA), (oc1 fe2 rk2 wd2 tw2 pa2 pb2 (.ref lo2) (.ref lk2) fm2), (oc4 lk2 (kd f0) (st f0) .null gb2 jt2 we2)]) (w1 := [(oc8 x (.ref sh) (.ref lw) (.ref ro) (.ref bq) (.ref bp) (.ref dq) (.ref dp) (.ref lv) (.ref sl) ds sd ul 5)]) hP hD [0] [1, 2, 3, 4] rfl rfl (by decide) (by decide) hk1 hFc hP1 hD1
        clear hk1 hPc hDc hFc hP1 hD1 ht
        generalize H1 = H at hP hS ⊢
        have hP := hP.part (cx := [(oc8 x (.ref sh) (.ref lw) (.ref ro) (.ref bq) (.ref bp) (.ref dq) (.ref dp) (.ref lv) (.ref sl) ds sd ul 5), (oc7 sh (.ref fa) (nI ft)), (oq fa cF 200 FA), (oc1 fe2 rk2 wd2 tw2 pa2 pb2 (.ref lo2) (.ref lk2) fm2), (oc4 lk2 (kd f0) (st f0) .null gb2 jt2 we2)]) [4, 0, 1, 2, 3] rfl
        have hD := hD.part (cx := [(oc8 x (.ref sh) (.ref lw) (.ref ro) (.ref bq) (.ref bp) (.ref dq) (.ref dp) (.ref lv) (.ref sl) ds sd ul 5), (oc7 sh (.ref fa) (nI ft)), (oq fa cF 200 FA), (oc1 fe2 rk2 wd2 tw2 pa2 pb2 (.ref lo2) (.ref lk2) fm2), (oc4 lk2 (kd f0) (st f0) .null gb2 jt2 we2)]) [4, 0, 1, 2, 3] (by decide) rfl
        have hP : va_P (dC, dI) classes ([(oc8 x (.ref sh) (.ref lw) (.ref ro) (.ref bq) (.ref bp) (.ref dq) (.ref dp) (.ref lv) (.ref sl) ds sd ul 5), (oc7 sh (.ref fa) (nI ft)), (oq fa cF 200 FA), (oc1 fe2 rk2 wd2 tw2 pa2 pb2 (.ref lo2) (.ref lk2) fm2), (oc4 lk2 (kd f0) (st f0) .null gb2 jt2 we2)] ++ va_pl T_1 f) H := hP
        have hD : va_D A ([(oc8 x (.ref sh) (.ref lw) (.ref ro) (.ref bq) (.ref bp) (.ref dq) (.ref dp) (.ref lv) (.ref sl) ds sd ul 5), (oc7 sh (.ref fa) (nI ft)), (oq fa cF 200 FA), (oc1 fe2 rk2 wd2 tw2 pa2 pb2 (.ref lo2) (.ref lk2) fm2), (oc4 lk2 (kd f0) (st f0) .null gb2 jt2 we2)] ++ va_pl T_1 f) := hD
        have hP := pl_back (cs := [(oc1 fe2 rk2 wd2 tw2 pa2 pb2 (.ref lo2) (.ref lk2) fm2), (oc4 lk2 (kd f0) (st f0) .null gb2 jt2 we2)]) (L := L) (f := f) (X := [(oc8 x (.ref sh) (.ref lw) (.ref ro) (.ref bq) (.ref bp) (.ref dq) (.ref dp) (.ref lv) (.ref sl) ds sd ul 5), (oc7 sh (.ref fa) (nI ft)), (oq fa cF 200 FA)]) (by rw [hT_1]; exact (show va_P (dC, dI) classes (([(oc8 x (.ref sh) (.ref lw) (.ref ro) (.ref bq) (.ref bp) (.ref dq) (.ref dp) (.ref lv) (.ref sl) ds sd ul 5), (oc7 sh (.ref fa) (nI ft)), (oq fa cF 200 FA)] ++ [(oc1 fe2 rk2 wd2 tw2 pa2 pb2 (.ref lo2) (.ref lk2) fm2), (oc4 lk2 (kd f0) (st f0) .null gb2 jt2 we2)]) ++ va_pl T_1 f) H from hP)) hc9_1
        have hD : va_D A ([(oc8 x (.ref sh) (.ref lw) (.ref ro) (.ref bq) (.ref bp) (.ref dq) (.ref dp) (.ref lv) (.ref sl) ds sd ul 5), (oc7 sh (.ref fa) (nI ft)), (oq fa cF 200 FA)] ++ va_pl L f) := vaD_ae hD0_1 rfl
        have hP9 := hP.part (cx := [(oc8 x (.ref sh) (.ref lw) (.ref ro) (.ref bq) (.ref bp) (.ref dq) (.ref dp) (.ref lv) (.ref sl) ds sd ul 5), (oc7 sh (.ref fa) (nI ft)), (oq fa cF 200 FA)]) [0, 1, 2] rfl
        have hD9 := hD.part (cx := [(oc8 x (.ref sh) (.ref lw) (.ref ro) (.ref bq) (.ref bp) (.ref dq) (.ref dp) (.ref lv) (.ref sl) ds sd ul 5), (oc7 sh (.ref fa) (nI ft)), (oq fa cF 200 FA)]) [0, 1, 2] (by decide) rfl
        rw [hQ9]
        exact W.zret (ty := .boolean) (v := 0) hx hb hr (rfl) (fun t ht hW => ⟨⟨rfl, ul, 5, by rw [ht]; exact hP9, hD9⟩, hS.F ht⟩) hS.2.2 dX10_smooth_66
      · have c_2 : ¬ (1 ≤ (kd f0).toInt ∧ (kd f0).toInt ≤ 5) := zp_0 c_2
        refine lv_aload_n hx hb dX10_smooth_43 rfl (lv_at hl 1 rfl) ?_
        refine lv_iconst (v := 3) hx hb dX10_smooth_44 (by decide) ?_
        have hPc := hP.sub (ws' := [(oc8 x (.ref sh) (.ref lw) (.ref ro) (.ref bq) (.ref bp) (.ref dq) (.ref dp) (.ref lv) (.ref sl) ds sd ul su)]) [0] rfl
        have hDc := hD.sub (ws' := [(oc8 x (.ref sh) (.ref lw) (.ref ro) (.ref bq) (.ref bp) (.ref dq) (.ref dp) (.ref lv) (.ref sl) ds sd ul su)]) [0] (by decide) rfl
        have hFc := va_free (wc := [(oc8 x (.ref sh) (.ref lw) (.ref ro) (.ref bq) (.ref bp) (.ref dq) (.ref dp) (.ref lv) (.ref sl) ds sd ul su)]) hD hS hA [0] rfl
        refine zcall (st1 := [.int 0]) (va_runV (As := [.int 3]) (rest := []) ⟨hx, hb, hml, hown, hts⟩ (k_deny_3 l dC dI cI cZ cF H.size x sh lw ro bq bp dq dp lv sl sd ul su ds ) (cwV 1 hts (zz_gV mw_513 mw_515 mw_4 mw_99 mc_yX10_deny) rfl rfl rfl (by decide +kernel) ⟨Nat.le_of_ble_eq_true rfl, Nat.le_of_ble_eq_true rfl⟩) (zPV2 (q0 := 0) (ci := 8) hPc hDc hK hXN rfl rfl) rfl rfl hl.1 rfl (lv_room (Nat.le_of_ble_eq_true rfl)) dX10_smooth_45 ⟨Nat.le_of_ble_eq_true rfl, Nat.le_of_ble_eq_true rfl⟩) hS hFc hFc rfl (fun t H1 locs ht hB hk1 hS => ?_)
        obtain ⟨hP1, hD1⟩ := hB
        rw [ht] at hP1
        obtain ⟨hP, hD⟩ := va_joinQ (wr := [(oc7 sh (.ref fa) (nI ft)), (oq fa cF 200 FA), (oc1 fe2 rk2 wd2 tw2 pa2 pb2 (.ref lo2) (.ref lk2) fm2), (oc4 lk2 (kd f0) (st f0) .null gb2 jt2 we2)]) (w1 := [(oc8 x (.ref sh) (.ref lw) (.ref ro) (.ref bq) (.ref bp) (.ref dq) (.ref dp) (.ref lv) (.ref sl) ds sd ul 3)]) hP hD [0] [1, 2, 3, 4] rfl rfl (by decide) (by decide) hk1 hFc hP1 hD1
        clear hk1 hPc hDc hFc hP1 hD1 ht
        generalize H1 = H at hP hS ⊢
        have hP := hP.part (cx := [(oc8 x (.ref sh) (.ref lw) (.ref ro) (.ref bq) (.ref bp) (.ref dq) (.ref dp) (.ref lv) (.ref sl) ds sd ul 3), (oc7 sh (.ref fa) (nI ft)), (oq fa cF 200 FA), (oc1 fe2 rk2 wd2 tw2 pa2 pb2 (.ref lo2) (.ref lk2) fm2), (oc4 lk2 (kd f0) (st f0) .null gb2 jt2 we2)]) [4, 0, 1, 2, 3] rfl
        have hD := hD.part (cx := [(oc8 x (.ref sh) (.ref lw) (.ref ro) (.ref bq) (.ref bp) (.ref dq) (.ref dp) (.ref lv) (.ref sl) ds sd ul 3), (oc7 sh (.ref fa) (nI ft)), (oq fa cF 200 FA), (oc1 fe2 rk2 wd2 tw2 pa2 pb2 (.ref lo2) (.ref lk2) fm2), (oc4 lk2 (kd f0) (st f0) .null gb2 jt2 we2)]) [4, 0, 1, 2, 3] (by decide) rfl
        have hP : va_P (dC, dI) classes ([(oc8 x (.ref sh) (.ref lw) (.ref ro) (.ref bq) (.ref bp) (.ref dq) (.ref dp) (.ref lv) (.ref sl) ds sd ul 3), (oc7 sh (.ref fa) (nI ft)), (oq fa cF 200 FA), (oc1 fe2 rk2 wd2 tw2 pa2 pb2 (.ref lo2) (.ref lk2) fm2), (oc4 lk2 (kd f0) (st f0) .null gb2 jt2 we2)] ++ va_pl T_1 f) H := hP
        have hD : va_D A ([(oc8 x (.ref sh) (.ref lw) (.ref ro) (.ref bq) (.ref bp) (.ref dq) (.ref dp) (.ref lv) (.ref sl) ds sd ul 3), (oc7 sh (.ref fa) (nI ft)), (oq fa cF 200 FA), (oc1 fe2 rk2 wd2 tw2 pa2 pb2 (.ref lo2) (.ref lk2) fm2), (oc4 lk2 (kd f0) (st f0) .null gb2 jt2 we2)] ++ va_pl T_1 f) := hD
        have hP := pl_back (cs := [(oc1 fe2 rk2 wd2 tw2 pa2 pb2 (.ref lo2) (.ref lk2) fm2), (oc4 lk2 (kd f0) (st f0) .null gb2 jt2 we2)]) (L := L) (f := f) (X := [(oc8 x (.ref sh) (.ref lw) (.ref ro) (.ref bq) (.ref bp) (.ref dq) (.ref dp) (.ref lv) (.ref sl) ds sd ul 3), (oc7 sh (.ref fa) (nI ft)), (oq fa cF 200 FA)]) (by rw [hT_1]; exact (show va_P (dC, dI) classes (([(oc8 x (.ref sh) (.ref lw) (.ref ro) (.ref bq) (.ref bp) (.ref dq) (.ref dp) (.ref lv) (.ref sl) ds sd ul 3), (oc7 sh (.ref fa) (nI ft)), (oq fa cF 200 FA)] ++ [(oc1 fe2 rk2 wd2 tw2 pa2 pb2 (.ref lo2) (.ref lk2) fm2), (oc4 lk2 (kd f0) (st f0) .null gb2 jt2 we2)]) ++ va_pl T_1 f) H from hP)) hc9_1
        have hD : va_D A ([(oc8 x (.ref sh) (.ref lw) (.ref ro) (.ref bq) (.ref bp) (.ref dq) (.ref dp) (.ref lv) (.ref sl) ds sd ul 3), (oc7 sh (.ref fa) (nI ft)), (oq fa cF 200 FA)] ++ va_pl L f) := vaD_ae hD0_1 rfl
        have hP9 := hP.part (cx := [(oc8 x (.ref sh) (.ref lw) (.ref ro) (.ref bq) (.ref bp) (.ref dq) (.ref dp) (.ref lv) (.ref sl) ds sd ul 3), (oc7 sh (.ref fa) (nI ft)), (oq fa cF 200 FA)]) [0, 1, 2] rfl
        have hD9 := hD.part (cx := [(oc8 x (.ref sh) (.ref lw) (.ref ro) (.ref bq) (.ref bp) (.ref dq) (.ref dp) (.ref lv) (.ref sl) ds sd ul 3), (oc7 sh (.ref fa) (nI ft)), (oq fa cF 200 FA)]) [0, 1, 2] (by decide) rfl
        rw [hQ9]
        exact W.zret (ty := .boolean) (v := 0) hx hb hr (rfl) (fun t ht hW => ⟨⟨rfl, ul, 3, by rw [ht]; exact hP9, hD9⟩, hS.F ht⟩) hS.2.2 dX10_smooth_48
    · have c_1 : ¬ (st f0).toInt = 1 := zc_ne rfl (by decide) c_1
      refine lv_aload_n hx hb dX10_smooth_30 rfl (lv_at hl 1 rfl) ?_
      refine lv_iconst (v := 2) hx hb dX10_smooth_31 (by decide) ?_
      have hPc := hP.sub (ws' := [(oc8 x (.ref sh) (.ref lw) (.ref ro) (.ref bq) (.ref bp) (.ref dq) (.ref dp) (.ref lv) (.ref sl) ds sd ul su)]) [0] rfl
      have hDc := hD.sub (ws' := [(oc8 x (.ref sh) (.ref lw) (.ref ro) (.ref bq) (.ref bp) (.ref dq) (.ref dp) (.ref lv) (.ref sl) ds sd ul su)]) [0] (by decide) rfl
      have hFc := va_free (wc := [(oc8 x (.ref sh) (.ref lw) (.ref ro) (.ref bq) (.ref bp) (.ref dq) (.ref dp) (.ref lv) (.ref sl) ds sd ul su)]) hD hS hA [0] rfl
      refine zcall (st1 := [.int 0]) (va_runV (As := [.int 2]) (rest := []) ⟨hx, hb, hml, hown, hts⟩ (k_deny_2 l dC dI cI cZ cF H.size x sh lw ro bq bp dq dp lv sl sd ul su ds ) (cwV 1 hts (zz_gV mw_513 mw_515 mw_4 mw_99 mc_yX10_deny) rfl rfl rfl (by decide +kernel) ⟨Nat.le_of_ble_eq_true rfl, Nat.le_of_ble_eq_true rfl⟩) (zPV2 (q0 := 0) (ci := 8) hPc hDc hK hXN rfl rfl) rfl rfl hl.1 rfl (lv_room (Nat.le_of_ble_eq_true rfl)) dX10_smooth_32 ⟨Nat.le_of_ble_eq_true rfl, Nat.le_of_ble_eq_true rfl⟩) hS hFc hFc rfl (fun t H1 locs ht hB hk1 hS => ?_)
      obtain ⟨hP1, hD1⟩ := hB
      rw [ht] at hP1
      obtain ⟨hP, hD⟩ := va_joinQ (wr := [(oc7 sh (.ref fa) (nI ft)), (oq fa cF 200 FA), (oc1 fe2 rk2 wd2 tw2 pa2 pb2 (.ref lo2) (.ref lk2) fm2), (oc4 lk2 (kd f0) (st f0) .null gb2 jt2 we2)]) (w1 := [(oc8 x (.ref sh) (.ref lw) (.ref ro) (.ref bq) (.ref bp) (.ref dq) (.ref dp) (.ref lv) (.ref sl) ds sd ul 2)]) hP hD [0] [1, 2, 3, 4] rfl rfl (by decide) (by decide) hk1 hFc hP1 hD1
      clear hk1 hPc hDc hFc hP1 hD1 ht
      generalize H1 = H at hP hS ⊢
      have hP := hP.part (cx := [(oc8 x (.ref sh) (.ref lw) (.ref ro) (.ref bq) (.ref bp) (.ref dq) (.ref dp) (.ref lv) (.ref sl) ds sd ul 2), (oc7 sh (.ref fa) (nI ft)), (oq fa cF 200 FA), (oc1 fe2 rk2 wd2 tw2 pa2 pb2 (.ref lo2) (.ref lk2) fm2), (oc4 lk2 (kd f0) (st f0) .null gb2 jt2 we2)]) [4, 0, 1, 2, 3] rfl
      have hD := hD.part (cx := [(oc8 x (.ref sh) (.ref lw) (.ref ro) (.ref bq) (.ref bp) (.ref dq) (.ref dp) (.ref lv) (.ref sl) ds sd ul 2), (oc7 sh (.ref fa) (nI ft)), (oq fa cF 200 FA), (oc1 fe2 rk2 wd2 tw2 pa2 pb2 (.ref lo2) (.ref lk2) fm2), (oc4 lk2 (kd f0) (st f0) .null gb2 jt2 we2)]) [4, 0, 1, 2, 3] (by decide) rfl
      have hP : va_P (dC, dI) classes ([(oc8 x (.ref sh) (.ref lw) (.ref ro) (.ref bq) (.ref bp) (.ref dq) (.ref dp) (.ref lv) (.ref sl) ds sd ul 2), (oc7 sh (.ref fa) (nI ft)), (oq fa cF 200 FA), (oc1 fe2 rk2 wd2 tw2 pa2 pb2 (.ref lo2) (.ref lk2) fm2), (oc4 lk2 (kd f0) (st f0) .null gb2 jt2 we2)] ++ va_pl T_1 f) H := hP
      have hD : va_D A ([(oc8 x (.ref sh) (.ref lw) (.ref ro) (.ref bq) (.ref bp) (.ref dq) (.ref dp) (.ref lv) (.ref sl) ds sd ul 2), (oc7 sh (.ref fa) (nI ft)), (oq fa cF 200 FA), (oc1 fe2 rk2 wd2 tw2 pa2 pb2 (.ref lo2) (.ref lk2) fm2), (oc4 lk2 (kd f0) (st f0) .null gb2 jt2 we2)] ++ va_pl T_1 f) := hD
      have hP := pl_back (cs := [(oc1 fe2 rk2 wd2 tw2 pa2 pb2 (.ref lo2) (.ref lk2) fm2), (oc4 lk2 (kd f0) (st f0) .null gb2 jt2 we2)]) (L := L) (f := f) (X := [(oc8 x (.ref sh) (.ref lw) (.ref ro) (.ref bq) (.ref bp) (.ref dq) (.ref dp) (.ref lv) (.ref sl) ds sd ul 2), (oc7 sh (.ref fa) (nI ft)), (oq fa cF 200 FA)]) (by rw [hT_1]; exact (show va_P (dC, dI) classes (([(oc8 x (.ref sh) (.ref lw) (.ref ro) (.ref bq) (.ref bp) (.ref dq) (.ref dp) (.ref lv) (.ref sl) ds sd ul 2), (oc7 sh (.ref fa) (nI ft)), (oq fa cF 200 FA)] ++ [(oc1 fe2 rk2 wd2 tw2 pa2 pb2 (.ref lo2) (.ref lk2) fm2), (oc4 lk2 (kd f0) (st f0) .null gb2 jt2 we2)]) ++ va_pl T_1 f) H from hP)) hc9_1
      have hD : va_D A ([(oc8 x (.ref sh) (.ref lw) (.ref ro) (.ref bq) (.ref bp) (.ref dq) (.ref dp) (.ref lv) (.ref sl) ds sd ul 2), (oc7 sh (.ref fa) (nI ft)), (oq fa cF 200 FA)] ++ va_pl L f) := vaD_ae hD0_1 rfl
      have hP9 := hP.part (cx := [(oc8 x (.ref sh) (.ref lw) (.ref ro) (.ref bq) (.ref bp) (.ref dq) (.ref dp) (.ref lv) (.ref sl) ds sd ul 2), (oc7 sh (.ref fa) (nI ft)), (oq fa cF 200 FA)]) [0, 1, 2] rfl
      have hD9 := hD.part (cx := [(oc8 x (.ref sh) (.ref lw) (.ref ro) (.ref bq) (.ref bp) (.ref dq) (.ref dp) (.ref lv) (.ref sl) ds sd ul 2), (oc7 sh (.ref fa) (nI ft)), (oq fa cF 200 FA)]) [0, 1, 2] (by decide) rfl
      rw [hQ9]
      exact W.zret (ty := .boolean) (v := 0) hx hb hr (rfl) (fun t ht hW => ⟨⟨rfl, ul, 2, by rw [ht]; exact hP9, hD9⟩, hS.F ht⟩) hS.2.2 dX10_smooth_35
  · skip
    have hcap2 := hrr2.1
    have hcap3 := hrr2.2.1
    have hc9_1 : inPl L f [(oc1 fe2 rk2 wd2 tw2 pa2 pb2 (.ref lo2) (.ref lk2) fm2), (oc4 lk2 (kd f0) (st f0) (.ref r2) gb2 jt2 we2), (oc6 r2 (.ref rx2) (.ref ry2) (nI (nN (mn f0))) rg2), (oa rx2 cI cap2 U2), (oa ry2 cI cap2 V2)] := ⟨hfe2, hlk2, hr2, hrx2, hry2, trivial⟩
    have hD0_1 := hD
    obtain ⟨hP, hD⟩ := pl_out hP hD [(oc1 fe2 rk2 wd2 tw2 pa2 pb2 (.ref lo2) (.ref lk2) fm2), (oc4 lk2 (kd f0) (st f0) (.ref r2) gb2 jt2 we2), (oc6 r2 (.ref rx2) (.ref ry2) (nI (nN (mn f0))) rg2), (oa rx2 cI cap2 U2), (oa ry2 cI cap2 V2)] hc9_1 (pwR hfe2.2 hlk2.2 hr2.2 hrx2.2 hry2.2 hne2)
    generalize hT_1 : outPl L [(oc1 fe2 rk2 wd2 tw2 pa2 pb2 (.ref lo2) (.ref lk2) fm2), (oc4 lk2 (kd f0) (st f0) (.ref r2) gb2 jt2 we2), (oc6 r2 (.ref rx2) (.ref ry2) (nI (nN (mn f0))) rg2), (oa rx2 cI cap2 U2), (oa ry2 cI cap2 V2)] = T_1 at hP hD
    have hP : va_P (dC, dI) classes ([(oc8 x (.ref sh) (.ref lw) (.ref ro) (.ref bq) (.ref bp) (.ref dq) (.ref dp) (.ref lv) (.ref sl) ds sd ul su), (oc7 sh (.ref fa) (nI ft)), (oq fa cF 200 FA), (oc1 fe2 rk2 wd2 tw2 pa2 pb2 (.ref lo2) (.ref lk2) fm2), (oc4 lk2 (kd f0) (st f0) (.ref r2) gb2 jt2 we2), (oc6 r2 (.ref rx2) (.ref ry2) (nI (nN (mn f0))) rg2), (oa rx2 cI cap2 U2), (oa ry2 cI cap2 V2)] ++ va_pl T_1 f) s.heap := hP
    have hD : va_D A ([(oc8 x (.ref sh) (.ref lw) (.ref ro) (.ref bq) (.ref bp) (.ref dq) (.ref dp) (.ref lv) (.ref sl) ds sd ul su), (oc7 sh (.ref fa) (nI ft)), (oq fa cF 200 FA), (oc1 fe2 rk2 wd2 tw2 pa2 pb2 (.ref lo2) (.ref lk2) fm2), (oc4 lk2 (kd f0) (st f0) (.ref r2) gb2 jt2 we2), (oc6 r2 (.ref rx2) (.ref ry2) (nI (nN (mn f0))) rg2), (oa rx2 cI cap2 U2), (oa ry2 cI cap2 V2)] ++ va_pl T_1 f) := hD
    refine lv_aload_n hx hb dX10_smooth_0 rfl (lv_at hl 0 rfl) ?_
    refine va_get (D := (dC, dI)) (ci := 8) (v := .ref sh) (C := RX10) (T := TX10) (N := 13) hx hb hts inX10 hown hK hP 0 rfl rfl 0 (by decide) (hts _ mw_309) (fun _ h9 => h9) rfl dX10_smooth_1 ?_
    refine lv_iload_n hx hb dX10_smooth_4 rfl (lv_at hl 1 rfl) ?_
    have hPc := hP.sub (ws' := [(oc7 sh (.ref fa) (nI ft)), (oq fa cF 200 FA)]) [1, 2] rfl
    have hDc := hD.sub (ws' := [(oc7 sh (.ref fa) (nI ft)), (oq fa cF 200 FA)]) [1, 2] (by decide) rfl
    have hFc := va_free (wc := [(oc7 sh (.ref fa) (nI ft)), (oq fa cF 200 FA)]) hD hS hA [1, 2] rfl
    refine zcall (st1 := [.ref fe2]) (va_runV (As := [.int (nI f0)]) (rest := []) ⟨hx, hb, hml, hown, hts⟩ (k_Sheet_find l dC dI cI cZ cF s.heap.size sh fa ft FA f0 fe2 (by omega) (by omega) (hFA2)) (cwV 1 hts (zz_gV mw_498 mw_499 mw_500 mw_100 mc_yX8_find) rfl rfl rfl (by decide +kernel) ⟨Nat.le_of_ble_eq_true rfl, Nat.le_of_ble_eq_true rfl⟩) (zPV2 (q0 := 0) (ci := 7) hPc hDc hK hXN rfl rfl) rfl rfl hl.1 rfl (lv_room (Nat.le_of_ble_eq_true rfl)) dX10_smooth_5 ⟨Nat.le_of_ble_eq_true rfl, Nat.le_of_ble_eq_true rfl⟩) hS hFc hFc rfl (fun t H1 locs ht hB hk1 hS => ?_)
    obtain ⟨hP1, hD1⟩ := hB
    rw [ht] at hP1
    obtain ⟨hP, hD⟩ := va_joinQ (wr := [(oc8 x (.ref sh) (.ref lw) (.ref ro) (.ref bq) (.ref bp) (.ref dq) (.ref dp) (.ref lv) (.ref sl) ds sd ul su), (oc1 fe2 rk2 wd2 tw2 pa2 pb2 (.ref lo2) (.ref lk2) fm2), (oc4 lk2 (kd f0) (st f0) (.ref r2) gb2 jt2 we2), (oc6 r2 (.ref rx2) (.ref ry2) (nI (nN (mn f0))) rg2), (oa rx2 cI cap2 U2), (oa ry2 cI cap2 V2)]) (w1 := [(oc7 sh (.ref fa) (nI ft)), (oq fa cF 200 FA)]) hP hD [1, 2] [0, 3, 4, 5, 6, 7] rfl rfl (by decide) (by decide) hk1 hFc hP1 hD1
    clear hk1 hPc hDc hFc hP1 hD1 ht
    generalize H1 = H at hP hS ⊢
    have hP := hP.part (cx := [(oc8 x (.ref sh) (.ref lw) (.ref ro) (.ref bq) (.ref bp) (.ref dq) (.ref dp) (.ref lv) (.ref sl) ds sd ul su), (oc7 sh (.ref fa) (nI ft)), (oq fa cF 200 FA), (oc1 fe2 rk2 wd2 tw2 pa2 pb2 (.ref lo2) (.ref lk2) fm2), (oc4 lk2 (kd f0) (st f0) (.ref r2) gb2 jt2 we2), (oc6 r2 (.ref rx2) (.ref ry2) (nI (nN (mn f0))) rg2), (oa rx2 cI cap2 U2), (oa ry2 cI cap2 V2)]) [0, 6, 7, 1, 2, 3, 4, 5] rfl
    have hD := hD.part (cx := [(oc8 x (.ref sh) (.ref lw) (.ref ro) (.ref bq) (.ref bp) (.ref dq) (.ref dp) (.ref lv) (.ref sl) ds sd ul su), (oc7 sh (.ref fa) (nI ft)), (oq fa cF 200 FA), (oc1 fe2 rk2 wd2 tw2 pa2 pb2 (.ref lo2) (.ref lk2) fm2), (oc4 lk2 (kd f0) (st f0) (.ref r2) gb2 jt2 we2), (oc6 r2 (.ref rx2) (.ref ry2) (nI (nN (mn f0))) rg2), (oa rx2 cI cap2 U2), (oa ry2 cI cap2 V2)]) [0, 6, 7, 1, 2, 3, 4, 5] (by decide) rfl
    have hP : va_P (dC, dI) classes ([(oc8 x (.ref sh) (.ref lw) (.ref ro) (.ref bq) (.ref bp) (.ref dq) (.ref dp) (.ref lv) (.ref sl) ds sd ul su), (oc7 sh (.ref fa) (nI ft)), (oq fa cF 200 FA), (oc1 fe2 rk2 wd2 tw2 pa2 pb2 (.ref lo2) (.ref lk2) fm2), (oc4 lk2 (kd f0) (st f0) (.ref r2) gb2 jt2 we2), (oc6 r2 (.ref rx2) (.ref ry2) (nI (nN (mn f0))) rg2), (oa rx2 cI cap2 U2), (oa ry2 cI cap2 V2)] ++ va_pl T_1 f) H := hP
    have hD : va_D A ([(oc8 x (.ref sh) (.ref lw) (.ref ro) (.ref bq) (.ref bp) (.ref dq) (.ref dp) (.ref lv) (.ref sl) ds sd ul su), (oc7 sh (.ref fa) (nI ft)), (oq fa cF 200 FA), (oc1 fe2 rk2 wd2 tw2 pa2 pb2 (.ref lo2) (.ref lk2) fm2), (oc4 lk2 (kd f0) (st f0) (.ref r2) gb2 jt2 we2), (oc6 r2 (.ref rx2) (.ref ry2) (nI (nN (mn f0))) rg2), (oa rx2 cI cap2 U2), (oa ry2 cI cap2 V2)] ++ va_pl T_1 f) := hD
    refine lv_astore_n (lv' := [(2, .ref fe2), (0, .ref x), (1, .int (nI f0))]) hx hb dX10_smooth_8 rfl hl (by decide) rfl (fun ls hl => ?_)
    refine lv_aload_n hx hb dX10_smooth_9 rfl (lv_at hl 0 rfl) ?_
    refine lv_ifnonnull (tgt := 19) hx hb dX10_smooth_10 (by decide) ?_
    refine lv_aload_n hx hb dX10_smooth_19 rfl (lv_at hl 0 rfl) ?_
    refine va_get (D := (dC, dI)) (ci := 1) (v := .ref lk2) (C := RX2) (T := TX2) (N := 8) hx hb hts inX2 hown hK hP 3 rfl rfl 6 (by decide) (hts _ mw_433) (fun _ h9 => h9) rfl dX10_smooth_20 ?_
    refine va_get (D := (dC, dI)) (ci := 4) (v := .int (st f0)) (C := RX5) (T := TX5) (N := 6) hx hb hts inX5 hown hK hP 4 rfl rfl 1 (by decide) (hts _ mw_385) (fun _ h9 => h9) rfl dX10_smooth_23 ?_
    refine lv_iconst (v := 1) hx hb dX10_smooth_26 (by decide) ?_
    refine lv_icmp_eq (tgt := 36) hx hb dX10_smooth_27 (by decide) (fun c_3 => ?_) (fun c_3 => ?_)
    · have c_3 : (st f0).toInt = 1 := zc_eq rfl (by decide) c_3
      refine lv_aload_n hx hb dX10_smooth_36 rfl (lv_at hl 0 rfl) ?_
      have hPc := hP.sub (ws' := [(oc1 fe2 rk2 wd2 tw2 pa2 pb2 (.ref lo2) (.ref lk2) fm2), (oc4 lk2 (kd f0) (st f0) (.ref r2) gb2 jt2 we2)]) [3, 4] rfl
      have hDc := hD.sub (ws' := [(oc1 fe2 rk2 wd2 tw2 pa2 pb2 (.ref lo2) (.ref lk2) fm2), (oc4 lk2 (kd f0) (st f0) (.ref r2) gb2 jt2 we2)]) [3, 4] (by decide) rfl
      have hFc := va_free (wc := [(oc1 fe2 rk2 wd2 tw2 pa2 pb2 (.ref lo2) (.ref lk2) fm2), (oc4 lk2 (kd f0) (st f0) (.ref r2) gb2 jt2 we2)]) hD hS hA [3, 4] rfl
      refine zcall (st1 := [.int (pI (1 ≤ (kd f0).toInt ∧ (kd f0).toInt ≤ 5))]) (va_runV (As := []) (rest := []) ⟨hx, hb, hml, hown, hts⟩ (k_Feature_bends_v l dC dI cI cZ cF H.size fe2 lo2 rk2 wd2 tw2 pa2 pb2 lk2 (kd f0) (st f0) gb2 jt2 we2 fm2 (.ref r2) ) (cwV 0 hts (zz_gV mw_564 mw_565 mw_566 mw_111 mc_yX2_bends) rfl rfl rfl (by decide +kernel) ⟨Nat.le_of_ble_eq_true rfl, Nat.le_of_ble_eq_true rfl⟩) (zPV2 (q0 := 0) (ci := 1) hPc hDc hK hXN rfl rfl) rfl rfl hl.1 rfl (lv_room (Nat.le_of_ble_eq_true rfl)) dX10_smooth_37 ⟨Nat.le_of_ble_eq_true rfl, Nat.le_of_ble_eq_true rfl⟩) hS hFc hFc rfl (fun t H1 locs ht hB hk1 hS => ?_)
      obtain ⟨hP1, hD1⟩ := hB
      rw [ht] at hP1
      obtain ⟨hP, hD⟩ := va_joinQ (wr := [(oc8 x (.ref sh) (.ref lw) (.ref ro) (.ref bq) (.ref bp) (.ref dq) (.ref dp) (.ref lv) (.ref sl) ds sd ul su), (oc7 sh (.ref fa) (nI ft)), (oq fa cF 200 FA), (oc6 r2 (.ref rx2) (.ref ry2) (nI (nN (mn f0))) rg2), (oa rx2 cI cap2 U2), (oa ry2 cI cap2 V2)]) (w1 := [(oc1 fe2 rk2 wd2 tw2 pa2 pb2 (.ref lo2) (.ref lk2) fm2), (oc4 lk2 (kd f0) (st f0) (.ref r2) gb2 jt2 we2)]) hP hD [3, 4] [0, 1, 2, 5, 6, 7] rfl rfl (by decide) (by decide) hk1 hFc hP1 hD1
      clear hk1 hPc hDc hFc hP1 hD1 ht
      generalize H1 = H at hP hS ⊢
      have hP := hP.part (cx := [(oc8 x (.ref sh) (.ref lw) (.ref ro) (.ref bq) (.ref bp) (.ref dq) (.ref dp) (.ref lv) (.ref sl) ds sd ul su), (oc7 sh (.ref fa) (nI ft)), (oq fa cF 200 FA), (oc1 fe2 rk2 wd2 tw2 pa2 pb2 (.ref lo2) (.ref lk2) fm2), (oc4 lk2 (kd f0) (st f0) (.ref r2) gb2 jt2 we2), (oc6 r2 (.ref rx2) (.ref ry2) (nI (nN (mn f0))) rg2), (oa rx2 cI cap2 U2), (oa ry2 cI cap2 V2)]) [0, 1, 2, 6, 7, 3, 4, 5] rfl
      have hD := hD.part (cx := [(oc8 x (.ref sh) (.ref lw) (.ref ro) (.ref bq) (.ref bp) (.ref dq) (.ref dp) (.ref lv) (.ref sl) ds sd ul su), (oc7 sh (.ref fa) (nI ft)), (oq fa cF 200 FA), (oc1 fe2 rk2 wd2 tw2 pa2 pb2 (.ref lo2) (.ref lk2) fm2), (oc4 lk2 (kd f0) (st f0) (.ref r2) gb2 jt2 we2), (oc6 r2 (.ref rx2) (.ref ry2) (nI (nN (mn f0))) rg2), (oa rx2 cI cap2 U2), (oa ry2 cI cap2 V2)]) [0, 1, 2, 6, 7, 3, 4, 5] (by decide) rfl
      have hP : va_P (dC, dI) classes ([(oc8 x (.ref sh) (.ref lw) (.ref ro) (.ref bq) (.ref bp) (.ref dq) (.ref dp) (.ref lv) (.ref sl) ds sd ul su), (oc7 sh (.ref fa) (nI ft)), (oq fa cF 200 FA), (oc1 fe2 rk2 wd2 tw2 pa2 pb2 (.ref lo2) (.ref lk2) fm2), (oc4 lk2 (kd f0) (st f0) (.ref r2) gb2 jt2 we2), (oc6 r2 (.ref rx2) (.ref ry2) (nI (nN (mn f0))) rg2), (oa rx2 cI cap2 U2), (oa ry2 cI cap2 V2)] ++ va_pl T_1 f) H := hP
      have hD : va_D A ([(oc8 x (.ref sh) (.ref lw) (.ref ro) (.ref bq) (.ref bp) (.ref dq) (.ref dp) (.ref lv) (.ref sl) ds sd ul su), (oc7 sh (.ref fa) (nI ft)), (oq fa cF 200 FA), (oc1 fe2 rk2 wd2 tw2 pa2 pb2 (.ref lo2) (.ref lk2) fm2), (oc4 lk2 (kd f0) (st f0) (.ref r2) gb2 jt2 we2), (oc6 r2 (.ref rx2) (.ref ry2) (nI (nN (mn f0))) rg2), (oa rx2 cI cap2 U2), (oa ry2 cI cap2 V2)] ++ va_pl T_1 f) := hD
      refine lv_if_ne (tgt := 49) hx hb dX10_smooth_40 (by decide) (fun c_4 => ?_) (fun c_4 => ?_)
      · have c_4 : 1 ≤ (kd f0).toInt ∧ (kd f0).toInt ≤ 5 := zp_1 c_4
        refine lv_aload_n hx hb dX10_smooth_49 rfl (lv_at hl 0 rfl) ?_
        refine va_get (D := (dC, dI)) (ci := 1) (v := .ref lk2) (C := RX2) (T := TX2) (N := 8) hx hb hts inX2 hown hK hP 3 rfl rfl 6 (by decide) (hts _ mw_433) (fun _ h9 => h9) rfl dX10_smooth_50 ?_
        refine va_get (D := (dC, dI)) (ci := 4) (v := .ref r2) (C := RX5) (T := TX5) (N := 6) hx hb hts inX5 hown hK hP 4 rfl rfl 2 (by decide) (hts _ mw_391) (fun _ h9 => h9) rfl dX10_smooth_53 ?_
        refine lv_astore_n (lv' := [(3, .ref r2), (2, .ref fe2), (0, .ref x), (1, .int (nI f0))]) hx hb dX10_smooth_56 rfl hl (by decide) rfl (fun ls hl => ?_)
        refine lv_aload_n hx hb dX10_smooth_57 rfl (lv_at hl 0 rfl) ?_
        refine lv_ifnonnull (tgt := 67) hx hb dX10_smooth_58 (by decide) ?_
        exfalso; omega
      · have c_4 : ¬ (1 ≤ (kd f0).toInt ∧ (kd f0).toInt ≤ 5) := zp_0 c_4
        refine lv_aload_n hx hb dX10_smooth_43 rfl (lv_at hl 1 rfl) ?_
        refine lv_iconst (v := 3) hx hb dX10_smooth_44 (by decide) ?_
        have hPc := hP.sub (ws' := [(oc8 x (.ref sh) (.ref lw) (.ref ro) (.ref bq) (.ref bp) (.ref dq) (.ref dp) (.ref lv) (.ref sl) ds sd ul su)]) [0] rfl
        have hDc := hD.sub (ws' := [(oc8 x (.ref sh) (.ref lw) (.ref ro) (.ref bq) (.ref bp) (.ref dq) (.ref dp) (.ref lv) (.ref sl) ds sd ul su)]) [0] (by decide) rfl
        have hFc := va_free (wc := [(oc8 x (.ref sh) (.ref lw) (.ref ro) (.ref bq) (.ref bp) (.ref dq) (.ref dp) (.ref lv) (.ref sl) ds sd ul su)]) hD hS hA [0] rfl
        refine zcall (st1 := [.int 0]) (va_runV (As := [.int 3]) (rest := []) ⟨hx, hb, hml, hown, hts⟩ (k_deny_3 l dC dI cI cZ cF H.size x sh lw ro bq bp dq dp lv sl sd ul su ds ) (cwV 1 hts (zz_gV mw_513 mw_515 mw_4 mw_99 mc_yX10_deny) rfl rfl rfl (by decide +kernel) ⟨Nat.le_of_ble_eq_true rfl, Nat.le_of_ble_eq_true rfl⟩) (zPV2 (q0 := 0) (ci := 8) hPc hDc hK hXN rfl rfl) rfl rfl hl.1 rfl (lv_room (Nat.le_of_ble_eq_true rfl)) dX10_smooth_45 ⟨Nat.le_of_ble_eq_true rfl, Nat.le_of_ble_eq_true rfl⟩) hS hFc hFc rfl (fun t H1 locs ht hB hk1 hS => ?_)
        obtain ⟨hP1, hD1⟩ := hB
        rw [ht] at hP1
        obtain ⟨hP, hD⟩ := va_joinQ (wr := [(oc7 sh (.ref fa) (nI ft)), (oq fa cF 200 FA), (oc1 fe2 rk2 wd2 tw2 pa2 pb2 (.ref lo2) (.ref lk2) fm2), (oc4 lk2 (kd f0) (st f0) (.ref r2) gb2 jt2 we2), (oc6 r2 (.ref rx2) (.ref ry2) (nI (nN (mn f0))) rg2), (oa rx2 cI cap2 U2), (oa ry2 cI cap2 V2)]) (w1 := [(oc8 x (.ref sh) (.ref lw) (.ref ro) (.ref bq) (.ref bp) (.ref dq) (.ref dp) (.ref lv) (.ref sl) ds sd ul 3)]) hP hD [0] [1, 2, 3, 4, 5, 6, 7] rfl rfl (by decide) (by decide) hk1 hFc hP1 hD1
        clear hk1 hPc hDc hFc hP1 hD1 ht
        generalize H1 = H at hP hS ⊢
        have hP := hP.part (cx := [(oc8 x (.ref sh) (.ref lw) (.ref ro) (.ref bq) (.ref bp) (.ref dq) (.ref dp) (.ref lv) (.ref sl) ds sd ul 3), (oc7 sh (.ref fa) (nI ft)), (oq fa cF 200 FA), (oc1 fe2 rk2 wd2 tw2 pa2 pb2 (.ref lo2) (.ref lk2) fm2), (oc4 lk2 (kd f0) (st f0) (.ref r2) gb2 jt2 we2), (oc6 r2 (.ref rx2) (.ref ry2) (nI (nN (mn f0))) rg2), (oa rx2 cI cap2 U2), (oa ry2 cI cap2 V2)]) [7, 0, 1, 2, 3, 4, 5, 6] rfl
        have hD := hD.part (cx := [(oc8 x (.ref sh) (.ref lw) (.ref ro) (.ref bq) (.ref bp) (.ref dq) (.ref dp) (.ref lv) (.ref sl) ds sd ul 3), (oc7 sh (.ref fa) (nI ft)), (oq fa cF 200 FA), (oc1 fe2 rk2 wd2 tw2 pa2 pb2 (.ref lo2) (.ref lk2) fm2), (oc4 lk2 (kd f0) (st f0) (.ref r2) gb2 jt2 we2), (oc6 r2 (.ref rx2) (.ref ry2) (nI (nN (mn f0))) rg2), (oa rx2 cI cap2 U2), (oa ry2 cI cap2 V2)]) [7, 0, 1, 2, 3, 4, 5, 6] (by decide) rfl
        have hP : va_P (dC, dI) classes ([(oc8 x (.ref sh) (.ref lw) (.ref ro) (.ref bq) (.ref bp) (.ref dq) (.ref dp) (.ref lv) (.ref sl) ds sd ul 3), (oc7 sh (.ref fa) (nI ft)), (oq fa cF 200 FA), (oc1 fe2 rk2 wd2 tw2 pa2 pb2 (.ref lo2) (.ref lk2) fm2), (oc4 lk2 (kd f0) (st f0) (.ref r2) gb2 jt2 we2), (oc6 r2 (.ref rx2) (.ref ry2) (nI (nN (mn f0))) rg2), (oa rx2 cI cap2 U2), (oa ry2 cI cap2 V2)] ++ va_pl T_1 f) H := hP
        have hD : va_D A ([(oc8 x (.ref sh) (.ref lw) (.ref ro) (.ref bq) (.ref bp) (.ref dq) (.ref dp) (.ref lv) (.ref sl) ds sd ul 3), (oc7 sh (.ref fa) (nI ft)), (oq fa cF 200 FA), (oc1 fe2 rk2 wd2 tw2 pa2 pb2 (.ref lo2) (.ref lk2) fm2), (oc4 lk2 (kd f0) (st f0) (.ref r2) gb2 jt2 we2), (oc6 r2 (.ref rx2) (.ref ry2) (nI (nN (mn f0))) rg2), (oa rx2 cI cap2 U2), (oa ry2 cI cap2 V2)] ++ va_pl T_1 f) := hD
        have hP := pl_back (cs := [(oc1 fe2 rk2 wd2 tw2 pa2 pb2 (.ref lo2) (.ref lk2) fm2), (oc4 lk2 (kd f0) (st f0) (.ref r2) gb2 jt2 we2), (oc6 r2 (.ref rx2) (.ref ry2) (nI (nN (mn f0))) rg2), (oa rx2 cI cap2 U2), (oa ry2 cI cap2 V2)]) (L := L) (f := f) (X := [(oc8 x (.ref sh) (.ref lw) (.ref ro) (.ref bq) (.ref bp) (.ref dq) (.ref dp) (.ref lv) (.ref sl) ds sd ul 3), (oc7 sh (.ref fa) (nI ft)), (oq fa cF 200 FA)]) (by rw [hT_1]; exact (show va_P (dC, dI) classes (([(oc8 x (.ref sh) (.ref lw) (.ref ro) (.ref bq) (.ref bp) (.ref dq) (.ref dp) (.ref lv) (.ref sl) ds sd ul 3), (oc7 sh (.ref fa) (nI ft)), (oq fa cF 200 FA)] ++ [(oc1 fe2 rk2 wd2 tw2 pa2 pb2 (.ref lo2) (.ref lk2) fm2), (oc4 lk2 (kd f0) (st f0) (.ref r2) gb2 jt2 we2), (oc6 r2 (.ref rx2) (.ref ry2) (nI (nN (mn f0))) rg2), (oa rx2 cI cap2 U2), (oa ry2 cI cap2 V2)]) ++ va_pl T_1 f) H from hP)) hc9_1
        have hD : va_D A ([(oc8 x (.ref sh) (.ref lw) (.ref ro) (.ref bq) (.ref bp) (.ref dq) (.ref dp) (.ref lv) (.ref sl) ds sd ul 3), (oc7 sh (.ref fa) (nI ft)), (oq fa cF 200 FA)] ++ va_pl L f) := vaD_ae hD0_1 rfl
        have hP9 := hP.part (cx := [(oc8 x (.ref sh) (.ref lw) (.ref ro) (.ref bq) (.ref bp) (.ref dq) (.ref dp) (.ref lv) (.ref sl) ds sd ul 3), (oc7 sh (.ref fa) (nI ft)), (oq fa cF 200 FA)]) [0, 1, 2] rfl
        have hD9 := hD.part (cx := [(oc8 x (.ref sh) (.ref lw) (.ref ro) (.ref bq) (.ref bp) (.ref dq) (.ref dp) (.ref lv) (.ref sl) ds sd ul 3), (oc7 sh (.ref fa) (nI ft)), (oq fa cF 200 FA)]) [0, 1, 2] (by decide) rfl
        rw [hQ9]
        exact W.zret (ty := .boolean) (v := 0) hx hb hr (rfl) (fun t ht hW => ⟨⟨rfl, ul, 3, by rw [ht]; exact hP9, hD9⟩, hS.F ht⟩) hS.2.2 dX10_smooth_48
    · have c_3 : ¬ (st f0).toInt = 1 := zc_ne rfl (by decide) c_3
      refine lv_aload_n hx hb dX10_smooth_30 rfl (lv_at hl 1 rfl) ?_
      refine lv_iconst (v := 2) hx hb dX10_smooth_31 (by decide) ?_
      have hPc := hP.sub (ws' := [(oc8 x (.ref sh) (.ref lw) (.ref ro) (.ref bq) (.ref bp) (.ref dq) (.ref dp) (.ref lv) (.ref sl) ds sd ul su)]) [0] rfl
      have hDc := hD.sub (ws' := [(oc8 x (.ref sh) (.ref lw) (.ref ro) (.ref bq) (.ref bp) (.ref dq) (.ref dp) (.ref lv) (.ref sl) ds sd ul su)]) [0] (by decide) rfl
      have hFc := va_free (wc := [(oc8 x (.ref sh) (.ref lw) (.ref ro) (.ref bq) (.ref bp) (.ref dq) (.ref dp) (.ref lv) (.ref sl) ds sd ul su)]) hD hS hA [0] rfl
      refine zcall (st1 := [.int 0]) (va_runV (As := [.int 2]) (rest := []) ⟨hx, hb, hml, hown, hts⟩ (k_deny_2 l dC dI cI cZ cF H.size x sh lw ro bq bp dq dp lv sl sd ul su ds ) (cwV 1 hts (zz_gV mw_513 mw_515 mw_4 mw_99 mc_yX10_deny) rfl rfl rfl (by decide +kernel) ⟨Nat.le_of_ble_eq_true rfl, Nat.le_of_ble_eq_true rfl⟩) (zPV2 (q0 := 0) (ci := 8) hPc hDc hK hXN rfl rfl) rfl rfl hl.1 rfl (lv_room (Nat.le_of_ble_eq_true rfl)) dX10_smooth_32 ⟨Nat.le_of_ble_eq_true rfl, Nat.le_of_ble_eq_true rfl⟩) hS hFc hFc rfl (fun t H1 locs ht hB hk1 hS => ?_)
      obtain ⟨hP1, hD1⟩ := hB
      rw [ht] at hP1
      obtain ⟨hP, hD⟩ := va_joinQ (wr := [(oc7 sh (.ref fa) (nI ft)), (oq fa cF 200 FA), (oc1 fe2 rk2 wd2 tw2 pa2 pb2 (.ref lo2) (.ref lk2) fm2), (oc4 lk2 (kd f0) (st f0) (.ref r2) gb2 jt2 we2), (oc6 r2 (.ref rx2) (.ref ry2) (nI (nN (mn f0))) rg2), (oa rx2 cI cap2 U2), (oa ry2 cI cap2 V2)]) (w1 := [(oc8 x (.ref sh) (.ref lw) (.ref ro) (.ref bq) (.ref bp) (.ref dq) (.ref dp) (.ref lv) (.ref sl) ds sd ul 2)]) hP hD [0] [1, 2, 3, 4, 5, 6, 7] rfl rfl (by decide) (by decide) hk1 hFc hP1 hD1
      clear hk1 hPc hDc hFc hP1 hD1 ht
      generalize H1 = H at hP hS ⊢
      have hP := hP.part (cx := [(oc8 x (.ref sh) (.ref lw) (.ref ro) (.ref bq) (.ref bp) (.ref dq) (.ref dp) (.ref lv) (.ref sl) ds sd ul 2), (oc7 sh (.ref fa) (nI ft)), (oq fa cF 200 FA), (oc1 fe2 rk2 wd2 tw2 pa2 pb2 (.ref lo2) (.ref lk2) fm2), (oc4 lk2 (kd f0) (st f0) (.ref r2) gb2 jt2 we2), (oc6 r2 (.ref rx2) (.ref ry2) (nI (nN (mn f0))) rg2), (oa rx2 cI cap2 U2), (oa ry2 cI cap2 V2)]) [7, 0, 1, 2, 3, 4, 5, 6] rfl
      have hD := hD.part (cx := [(oc8 x (.ref sh) (.ref lw) (.ref ro) (.ref bq) (.ref bp) (.ref dq) (.ref dp) (.ref lv) (.ref sl) ds sd ul 2), (oc7 sh (.ref fa) (nI ft)), (oq fa cF 200 FA), (oc1 fe2 rk2 wd2 tw2 pa2 pb2 (.ref lo2) (.ref lk2) fm2), (oc4 lk2 (kd f0) (st f0) (.ref r2) gb2 jt2 we2), (oc6 r2 (.ref rx2) (.ref ry2) (nI (nN (mn f0))) rg2), (oa rx2 cI cap2 U2), (oa ry2 cI cap2 V2)]) [7, 0, 1, 2, 3, 4, 5, 6] (by decide) rfl
      have hP : va_P (dC, dI) classes ([(oc8 x (.ref sh) (.ref lw) (.ref ro) (.ref bq) (.ref bp) (.ref dq) (.ref dp) (.ref lv) (.ref sl) ds sd ul 2), (oc7 sh (.ref fa) (nI ft)), (oq fa cF 200 FA), (oc1 fe2 rk2 wd2 tw2 pa2 pb2 (.ref lo2) (.ref lk2) fm2), (oc4 lk2 (kd f0) (st f0) (.ref r2) gb2 jt2 we2), (oc6 r2 (.ref rx2) (.ref ry2) (nI (nN (mn f0))) rg2), (oa rx2 cI cap2 U2), (oa ry2 cI cap2 V2)] ++ va_pl T_1 f) H := hP
      have hD : va_D A ([(oc8 x (.ref sh) (.ref lw) (.ref ro) (.ref bq) (.ref bp) (.ref dq) (.ref dp) (.ref lv) (.ref sl) ds sd ul 2), (oc7 sh (.ref fa) (nI ft)), (oq fa cF 200 FA), (oc1 fe2 rk2 wd2 tw2 pa2 pb2 (.ref lo2) (.ref lk2) fm2), (oc4 lk2 (kd f0) (st f0) (.ref r2) gb2 jt2 we2), (oc6 r2 (.ref rx2) (.ref ry2) (nI (nN (mn f0))) rg2), (oa rx2 cI cap2 U2), (oa ry2 cI cap2 V2)] ++ va_pl T_1 f) := hD
      have hP := pl_back (cs := [(oc1 fe2 rk2 wd2 tw2 pa2 pb2 (.ref lo2) (.ref lk2) fm2), (oc4 lk2 (kd f0) (st f0) (.ref r2) gb2 jt2 we2), (oc6 r2 (.ref rx2) (.ref ry2) (nI (nN (mn f0))) rg2), (oa rx2 cI cap2 U2), (oa ry2 cI cap2 V2)]) (L := L) (f := f) (X := [(oc8 x (.ref sh) (.ref lw) (.ref ro) (.ref bq) (.ref bp) (.ref dq) (.ref dp) (.ref lv) (.ref sl) ds sd ul 2), (oc7 sh (.ref fa) (nI ft)), (oq fa cF 200 FA)]) (by rw [hT_1]; exact (show va_P (dC, dI) classes (([(oc8 x (.ref sh) (.ref lw) (.ref ro) (.ref bq) (.ref bp) (.ref dq) (.ref dp) (.ref lv) (.ref sl) ds sd ul 2), (oc7 sh (.ref fa) (nI ft)), (oq fa cF 200 FA)] ++ [(oc1 fe2 rk2 wd2 tw2 pa2 pb2 (.ref lo2) (.ref lk2) fm2), (oc4 lk2 (kd f0) (st f0) (.ref r2) gb2 jt2 we2), (oc6 r2 (.ref rx2) (.ref ry2) (nI (nN (mn f0))) rg2), (oa rx2 cI cap2 U2), (oa ry2 cI cap2 V2)]) ++ va_pl T_1 f) H from hP)) hc9_1
      have hD : va_D A ([(oc8 x (.ref sh) (.ref lw) (.ref ro) (.ref bq) (.ref bp) (.ref dq) (.ref dp) (.ref lv) (.ref sl) ds sd ul 2), (oc7 sh (.ref fa) (nI ft)), (oq fa cF 200 FA)] ++ va_pl L f) := vaD_ae hD0_1 rfl
      have hP9 := hP.part (cx := [(oc8 x (.ref sh) (.ref lw) (.ref ro) (.ref bq) (.ref bp) (.ref dq) (.ref dp) (.ref lv) (.ref sl) ds sd ul 2), (oc7 sh (.ref fa) (nI ft)), (oq fa cF 200 FA)]) [0, 1, 2] rfl
      have hD9 := hD.part (cx := [(oc8 x (.ref sh) (.ref lw) (.ref ro) (.ref bq) (.ref bp) (.ref dq) (.ref dp) (.ref lv) (.ref sl) ds sd ul 2), (oc7 sh (.ref fa) (nI ft)), (oq fa cF 200 FA)]) [0, 1, 2] (by decide) rfl
      rw [hQ9]
      exact W.zret (ty := .boolean) (v := 0) hx hb hr (rfl) (fun t ht hW => ⟨⟨rfl, ul, 2, by rw [ht]; exact hP9, hD9⟩, hS.F ht⟩) hS.2.2 dX10_smooth_35
set_option maxHeartbeats 4000000 in
set_option maxRecDepth 100000 in
theorem k_grow_r (l : Launch) (dC : Nat → ClassId) (dI : Nat → Nat → Nat) (cI cZ cF : ClassId) (sz : Nat) (x : Nat) (sh : Nat) (lw : Nat) (ro : Nat) (bq : Nat) (bp : Nat) (dq : Nat) (dp : Nat) (lv : Nat) (sl : Nat) (sd : Int32) (ul : Int32) (su : Int32) (ds : Int32) (fa : Nat) (ft : Nat) (FA : Nat → Option Nat) (f0 : Nat) (L : List Nat) (f : Nat → va_E) (kd : Nat → Int32) (st : Nat → Int32) (tn : Nat → Int32) (mn : Nat → Int32) (cx : Nat → Int32) (cy : Nat → Int32) (h200 : ft ≤ 200) (hf0 : f0 < ft) (hvw : ∀ q, q < ft → vwO cI L f FA kd st tn mn cx cy q) (hbad : ¬ ((st f0).toInt = 1 ∧ (kd f0).toInt = 6 ∧ (tn f0).toInt = 0)) : Met l yX10_grow (.code yX10_grow cX10_grow 4 (some .boolean) :: ws0) ({ frames := 2, cells := 0, slots := 0, locals := 42 } : Room) (va_Pc [.ref x, .int (nI f0)] (zPre (dC, dI) classes (zTy cI cZ cF) ([(oc8 x (.ref sh) (.ref lw) (.ref ro) (.ref bq) (.ref bp) (.ref dq) (.ref dp) (.ref lv) (.ref sl) ds sd ul su), (oc7 sh (.ref fa) (nI ft)), (oq fa cF 200 FA)] ++ va_pl L f) sz zXN)) (zQ (some (.int 0)) (fun t => ∃ (ul1 : Int32), ∃ (su1 : Int32), va_P (dC, dI) classes ([(oc8 x (.ref sh) (.ref lw) (.ref ro) (.ref bq) (.ref bp) (.ref dq) (.ref dp) (.ref lv) (.ref sl) ds sd ul1 su1), (oc7 sh (.ref fa) (nI ft)), (oq fa cF 200 FA)] ++ va_pl L f) t.heap ∧ va_D (va_A ([(oc8 x (.ref sh) (.ref lw) (.ref ro) (.ref bq) (.ref bp) (.ref dq) (.ref dp) (.ref lv) (.ref sl) ds sd ul su), (oc7 sh (.ref fa) (nI ft)), (oq fa cF 200 FA)] ++ va_pl L f) sz) ([(oc8 x (.ref sh) (.ref lw) (.ref ro) (.ref bq) (.ref bp) (.ref dq) (.ref dp) (.ref lv) (.ref sl) ds sd ul1 su1), (oc7 sh (.ref fa) (nI ft)), (oq fa cF 200 FA)] ++ va_pl L f)) (va_A ([(oc8 x (.ref sh) (.ref lw) (.ref ro) (.ref bq) (.ref bp) (.ref dq) (.ref dp) (.ref lv) (.ref sl) ds sd ul su), (oc7 sh (.ref fa) (nI ft)), (oq fa cF 200 FA)] ++ va_pl L f) sz)) 0 0 (va_A ([(oc8 x (.ref sh) (.ref lw) (.ref ro) (.ref bq) (.ref bp) (.ref dq) (.ref dp) (.ref lv) (.ref sl) ds sd ul su), (oc7 sh (.ref fa) (nI ft)), (oq fa cF 200 FA)] ++ va_pl L f) sz) := by
  refine Met.ofW (cc := cX10_grow) (maxL := 4) (ret := (some .boolean)) (by decide) rfl ?_
  intro p e s m args below meth c s₁ B hml hv
  obtain ⟨rfl, hsz, hP, hK, hD0, hXN⟩ := hv
  have hx := B.exec
  have hb := B.bytes
  have hr := B.returns
  have hts0 := atoms_spec (ws := .code yX10_grow cX10_grow 4 (some .boolean) :: ws0) B.pre
  have hts : ∀ w9 ∈ ws0, w9.before ([.ref x, .int (nI f0)] : List Value).toArray s = true := fun w9 h => hts0 w9 (List.mem_cons_of_mem _ h)
  have hown : s.vm.findClass "ScaleShop" = some m.cls := findClass_of_methodNamed B.named
  have hlocks := B.notSynchronized
  subst hsz
  have hD := hD0.self (sz := s.heap.size)
  clear hD0
  generalize hAe : va_A ([(oc8 x (.ref sh) (.ref lw) (.ref ro) (.ref bq) (.ref bp) (.ref dq) (.ref dp) (.ref lv) (.ref sl) ds sd ul su), (oc7 sh (.ref fa) (nI ft)), (oq fa cF 200 FA)] ++ va_pl L f) s.heap.size = A at hD ⊢
  have hA : ∀ q : Nat, s.heap.size ≤ q → A q := fun q h => by rw [← hAe]; exact Or.inr h
  clear hAe
  have hS : va_S A s.heap s.heap [] := va_S.rf
  have hP : va_P (dC, dI) classes ([(oc8 x (.ref sh) (.ref lw) (.ref ro) (.ref bq) (.ref bp) (.ref dq) (.ref dp) (.ref lv) (.ref sl) ds sd ul su), (oc7 sh (.ref fa) (nI ft)), (oq fa cF 200 FA)] ++ va_pl L f) s.heap := hP
  obtain ⟨Q9, hQ9⟩ : ∃ Q9 : State → Prop, Q9 = MQ below (zQ (some (.int 0)) (fun t => ∃ (ul1 : Int32), ∃ (su1 : Int32), va_P (dC, dI) classes ([(oc8 x (.ref sh) (.ref lw) (.ref ro) (.ref bq) (.ref bp) (.ref dq) (.ref dp) (.ref lv) (.ref sl) ds sd ul1 su1), (oc7 sh (.ref fa) (nI ft)), (oq fa cF 200 FA)] ++ va_pl L f) t.heap ∧ va_D A ([(oc8 x (.ref sh) (.ref lw) (.ref ro) (.ref bq) (.ref bp) (.ref dq) (.ref dp) (.ref lv) (.ref sl) ds sd ul1 su1), (oc7 sh (.ref fa) (nI ft)), (oq fa cF 200 FA)] ++ va_pl L f)) A) ([.ref x, .int (nI f0)] : List Value).toArray s 0 0 A := ⟨_, rfl⟩
  rw [← hQ9]
  have hl := lv_entry ([.ref x, .int (nI f0)]) (n := 4) (Nat.le_of_ble_eq_true rfl)
  rw [lg_entry_eq]
  generalize (lg_sl ([.ref x, .int (nI f0)]) ++ List.replicate (4 - (lg_sl ([.ref x, .int (nI f0)])).length) Slot.unset).toArray = ls at hl ⊢
  have hl : lv_has ls 4 [(0, .ref x), (1, .int (nI f0))] := hl
  rcases vw2 (hvw f0 (show f0 < ft by omega)) with ⟨ht2, fe2, lk2, lo2, rk2, wd2, tw2, pa2, pb2, gb2, jt2, we2, fm2, hFA2, hfe2, hlk2⟩ | ⟨ht2, fe2, lk2, lo2, rk2, wd2, tw2, pa2, pb2, gb2, jt2, we2, fm2, r2, rx2, ry2, cap2, U2, V2, rg2, hFA2, hfe2, hlk2, ⟨hr2, hrx2, hry2, hne2⟩, hrr2⟩
  · skip
    have hc9_1 : inPl L f [(oc1 fe2 rk2 wd2 tw2 pa2 pb2 (.ref lo2) (.ref lk2) fm2), (oc4 lk2 (kd f0) (st f0) .null gb2 jt2 we2)] := ⟨hfe2, hlk2, trivial⟩
    have hD0_1 := hD
    obtain ⟨hP, hD⟩ := pl_out hP hD [(oc1 fe2 rk2 wd2 tw2 pa2 pb2 (.ref lo2) (.ref lk2) fm2), (oc4 lk2 (kd f0) (st f0) .null gb2 jt2 we2)] hc9_1 (pwF hfe2.2 hlk2.2)
    generalize hT_1 : outPl L [(oc1 fe2 rk2 wd2 tw2 pa2 pb2 (.ref lo2) (.ref lk2) fm2), (oc4 lk2 (kd f0) (st f0) .null gb2 jt2 we2)] = T_1 at hP hD
    have hP : va_P (dC, dI) classes ([(oc8 x (.ref sh) (.ref lw) (.ref ro) (.ref bq) (.ref bp) (.ref dq) (.ref dp) (.ref lv) (.ref sl) ds sd ul su), (oc7 sh (.ref fa) (nI ft)), (oq fa cF 200 FA), (oc1 fe2 rk2 wd2 tw2 pa2 pb2 (.ref lo2) (.ref lk2) fm2), (oc4 lk2 (kd f0) (st f0) .null gb2 jt2 we2)] ++ va_pl T_1 f) s.heap := hP
    have hD : va_D A ([(oc8 x (.ref sh) (.ref lw) (.ref ro) (.ref bq) (.ref bp) (.ref dq) (.ref dp) (.ref lv) (.ref sl) ds sd ul su), (oc7 sh (.ref fa) (nI ft)), (oq fa cF 200 FA), (oc1 fe2 rk2 wd2 tw2 pa2 pb2 (.ref lo2) (.ref lk2) fm2), (oc4 lk2 (kd f0) (st f0) .null gb2 jt2 we2)] ++ va_pl T_1 f) := hD
    refine lv_aload_n hx hb dX10_grow_0 rfl (lv_at hl 0 rfl) ?_
    refine va_get (D := (dC, dI)) (ci := 8) (v := .ref sh) (C := RX10) (T := TX10) (N := 13) hx hb hts inX10 hown hK hP 0 rfl rfl 0 (by decide) (hts _ mw_309) (fun _ h9 => h9) rfl dX10_grow_1 ?_
    refine lv_iload_n hx hb dX10_grow_4 rfl (lv_at hl 1 rfl) ?_
    have hPc := hP.sub (ws' := [(oc7 sh (.ref fa) (nI ft)), (oq fa cF 200 FA)]) [1, 2] rfl
    have hDc := hD.sub (ws' := [(oc7 sh (.ref fa) (nI ft)), (oq fa cF 200 FA)]) [1, 2] (by decide) rfl
    have hFc := va_free (wc := [(oc7 sh (.ref fa) (nI ft)), (oq fa cF 200 FA)]) hD hS hA [1, 2] rfl
    refine zcall (st1 := [.ref fe2]) (va_runV (As := [.int (nI f0)]) (rest := []) ⟨hx, hb, hml, hown, hts⟩ (k_Sheet_find l dC dI cI cZ cF s.heap.size sh fa ft FA f0 fe2 (by omega) (by omega) (hFA2)) (cwV 1 hts (zz_gV mw_498 mw_499 mw_500 mw_100 mc_yX8_find) rfl rfl rfl (by decide +kernel) ⟨Nat.le_of_ble_eq_true rfl, Nat.le_of_ble_eq_true rfl⟩) (zPV2 (q0 := 0) (ci := 7) hPc hDc hK hXN rfl rfl) rfl rfl hl.1 rfl (lv_room (Nat.le_of_ble_eq_true rfl)) dX10_grow_5 ⟨Nat.le_of_ble_eq_true rfl, Nat.le_of_ble_eq_true rfl⟩) hS hFc hFc rfl (fun t H1 locs ht hB hk1 hS => ?_)
    obtain ⟨hP1, hD1⟩ := hB
    rw [ht] at hP1
    obtain ⟨hP, hD⟩ := va_joinQ (wr := [(oc8 x (.ref sh) (.ref lw) (.ref ro) (.ref bq) (.ref bp) (.ref dq) (.ref dp) (.ref lv) (.ref sl) ds sd ul su), (oc1 fe2 rk2 wd2 tw2 pa2 pb2 (.ref lo2) (.ref lk2) fm2), (oc4 lk2 (kd f0) (st f0) .null gb2 jt2 we2)]) (w1 := [(oc7 sh (.ref fa) (nI ft)), (oq fa cF 200 FA)]) hP hD [1, 2] [0, 3, 4] rfl rfl (by decide) (by decide) hk1 hFc hP1 hD1
    clear hk1 hPc hDc hFc hP1 hD1 ht
    generalize H1 = H at hP hS ⊢
    have hP := hP.part (cx := [(oc8 x (.ref sh) (.ref lw) (.ref ro) (.ref bq) (.ref bp) (.ref dq) (.ref dp) (.ref lv) (.ref sl) ds sd ul su), (oc7 sh (.ref fa) (nI ft)), (oq fa cF 200 FA), (oc1 fe2 rk2 wd2 tw2 pa2 pb2 (.ref lo2) (.ref lk2) fm2), (oc4 lk2 (kd f0) (st f0) .null gb2 jt2 we2)]) [0, 3, 4, 1, 2] rfl
    have hD := hD.part (cx := [(oc8 x (.ref sh) (.ref lw) (.ref ro) (.ref bq) (.ref bp) (.ref dq) (.ref dp) (.ref lv) (.ref sl) ds sd ul su), (oc7 sh (.ref fa) (nI ft)), (oq fa cF 200 FA), (oc1 fe2 rk2 wd2 tw2 pa2 pb2 (.ref lo2) (.ref lk2) fm2), (oc4 lk2 (kd f0) (st f0) .null gb2 jt2 we2)]) [0, 3, 4, 1, 2] (by decide) rfl
    have hP : va_P (dC, dI) classes ([(oc8 x (.ref sh) (.ref lw) (.ref ro) (.ref bq) (.ref bp) (.ref dq) (.ref dp) (.ref lv) (.ref sl) ds sd ul su), (oc7 sh (.ref fa) (nI ft)), (oq fa cF 200 FA), (oc1 fe2 rk2 wd2 tw2 pa2 pb2 (.ref lo2) (.ref lk2) fm2), (oc4 lk2 (kd f0) (st f0) .null gb2 jt2 we2)] ++ va_pl T_1 f) H := hP
    have hD : va_D A ([(oc8 x (.ref sh) (.ref lw) (.ref ro) (.ref bq) (.ref bp) (.ref dq) (.ref dp) (.ref lv) (.ref sl) ds sd ul su), (oc7 sh (.ref fa) (nI ft)), (oq fa cF 200 FA), (oc1 fe2 rk2 wd2 tw2 pa2 pb2 (.ref lo2) (.ref lk2) fm2), (oc4 lk2 (kd f0) (st f0) .null gb2 jt2 we2)] ++ va_pl T_1 f) := hD
    refine lv_astore_n (lv' := [(2, .ref fe2), (0, .ref x), (1, .int (nI f0))]) hx hb dX10_grow_8 rfl hl (by decide) rfl (fun ls hl => ?_)
    refine lv_aload_n hx hb dX10_grow_9 rfl (lv_at hl 0 rfl) ?_
    refine lv_ifnonnull (tgt := 19) hx hb dX10_grow_10 (by decide) ?_
    refine lv_aload_n hx hb dX10_grow_19 rfl (lv_at hl 0 rfl) ?_
    refine va_get (D := (dC, dI)) (ci := 1) (v := .ref lk2) (C := RX2) (T := TX2) (N := 8) hx hb hts inX2 hown hK hP 3 rfl rfl 6 (by decide) (hts _ mw_433) (fun _ h9 => h9) rfl dX10_grow_20 ?_
    refine va_get (D := (dC, dI)) (ci := 4) (v := .int (st f0)) (C := RX5) (T := TX5) (N := 6) hx hb hts inX5 hown hK hP 4 rfl rfl 1 (by decide) (hts _ mw_385) (fun _ h9 => h9) rfl dX10_grow_23 ?_
    refine lv_iconst (v := 1) hx hb dX10_grow_26 (by decide) ?_
    refine lv_icmp_eq (tgt := 36) hx hb dX10_grow_27 (by decide) (fun c_1 => ?_) (fun c_1 => ?_)
    · have c_1 : (st f0).toInt = 1 := zc_eq rfl (by decide) c_1
      refine lv_aload_n hx hb dX10_grow_36 rfl (lv_at hl 0 rfl) ?_
      refine va_get (D := (dC, dI)) (ci := 1) (v := .ref lk2) (C := RX2) (T := TX2) (N := 8) hx hb hts inX2 hown hK hP 3 rfl rfl 6 (by decide) (hts _ mw_433) (fun _ h9 => h9) rfl dX10_grow_37 ?_
      refine va_get (D := (dC, dI)) (ci := 4) (v := .int (kd f0)) (C := RX5) (T := TX5) (N := 6) hx hb hts inX5 hown hK hP 4 rfl rfl 0 (by decide) (hts _ mw_381) (fun _ h9 => h9) rfl dX10_grow_40 ?_
      refine lv_bipush (v := 6) hx hb dX10_grow_43 (by decide) ?_
      refine lv_icmp_eq (tgt := 54) hx hb dX10_grow_45 (by decide) (fun c_2 => ?_) (fun c_2 => ?_)
      · have c_2 : (kd f0).toInt = 6 := zc_eq rfl (by decide) c_2
        refine lv_aload_n hx hb dX10_grow_54 rfl (lv_at hl 0 rfl) ?_
        refine va_get (D := (dC, dI)) (ci := 1) (v := .ref lk2) (C := RX2) (T := TX2) (N := 8) hx hb hts inX2 hown hK hP 3 rfl rfl 6 (by decide) (hts _ mw_433) (fun _ h9 => h9) rfl dX10_grow_55 ?_
        refine va_get (D := (dC, dI)) (ci := 4) (v := .null) (C := RX5) (T := TX5) (N := 6) hx hb hts inX5 hown hK hP 4 rfl rfl 2 (by decide) (hts _ mw_391) (fun _ h9 => h9) rfl dX10_grow_58 ?_
        refine lv_astore_nN (lv' := [(3, .null), (2, .ref fe2), (0, .ref x), (1, .int (nI f0))]) hx hb dX10_grow_61 rfl hl (by decide) rfl (fun ls hl => ?_)
        refine lv_aload_nN hx hb dX10_grow_62 rfl (lv_at hl 0 rfl) ?_
        refine lv_ifnonnullN hx hb dX10_grow_63 ?_
        refine lv_aload_n hx hb dX10_grow_66 rfl (lv_at hl 2 rfl) ?_
        refine lv_iconst (v := 5) hx hb dX10_grow_67 (by decide) ?_
        have hPc := hP.sub (ws' := [(oc8 x (.ref sh) (.ref lw) (.ref ro) (.ref bq) (.ref bp) (.ref dq) (.ref dp) (.ref lv) (.ref sl) ds sd ul su)]) [0] rfl
        have hDc := hD.sub (ws' := [(oc8 x (.ref sh) (.ref lw) (.ref ro) (.ref bq) (.ref bp) (.ref dq) (.ref dp) (.ref lv) (.ref sl) ds sd ul su)]) [0] (by decide) rfl
        have hFc := va_free (wc := [(oc8 x (.ref sh) (.ref lw) (.ref ro) (.ref bq) (.ref bp) (.ref dq) (.ref dp) (.ref lv) (.ref sl) ds sd ul su)]) hD hS hA [0] rfl
        refine zcall (st1 := [.int 0]) (va_runV (As := [.int 5]) (rest := []) ⟨hx, hb, hml, hown, hts⟩ (k_deny_5 l dC dI cI cZ cF H.size x sh lw ro bq bp dq dp lv sl sd ul su ds ) (cwV 1 hts (zz_gV mw_513 mw_515 mw_4 mw_99 mc_yX10_deny) rfl rfl rfl (by decide +kernel) ⟨Nat.le_of_ble_eq_true rfl, Nat.le_of_ble_eq_true rfl⟩) (zPV2 (q0 := 0) (ci := 8) hPc hDc hK hXN rfl rfl) rfl rfl hl.1 rfl (lv_room (Nat.le_of_ble_eq_true rfl)) dX10_grow_68 ⟨Nat.le_of_ble_eq_true rfl, Nat.le_of_ble_eq_true rfl⟩) hS hFc hFc rfl (fun t H1 locs ht hB hk1 hS => ?_)
        obtain ⟨hP1, hD1⟩ := hB
        rw [ht] at hP1
        obtain ⟨hP, hD⟩ := va_joinQ (wr := [(oc7 sh (.ref fa) (nI ft)), (oq fa cF 200 FA), (oc1 fe2 rk2 wd2 tw2 pa2 pb2 (.ref lo2) (.ref lk2) fm2), (oc4 lk2 (kd f0) (st f0) .null gb2 jt2 we2)]) (w1 := [(oc8 x (.ref sh) (.ref lw) (.ref ro) (.ref bq) (.ref bp) (.ref dq) (.ref dp) (.ref lv) (.ref sl) ds sd ul 5)]) hP hD [0] [1, 2, 3, 4] rfl rfl (by decide) (by decide) hk1 hFc hP1 hD1
        clear hk1 hPc hDc hFc hP1 hD1 ht
        generalize H1 = H at hP hS ⊢
        have hP := hP.part (cx := [(oc8 x (.ref sh) (.ref lw) (.ref ro) (.ref bq) (.ref bp) (.ref dq) (.ref dp) (.ref lv) (.ref sl) ds sd ul 5), (oc7 sh (.ref fa) (nI ft)), (oq fa cF 200 FA), (oc1 fe2 rk2 wd2 tw2 pa2 pb2 (.ref lo2) (.ref lk2) fm2), (oc4 lk2 (kd f0) (st f0) .null gb2 jt2 we2)]) [4, 0, 1, 2, 3] rfl
        have hD := hD.part (cx := [(oc8 x (.ref sh) (.ref lw) (.ref ro) (.ref bq) (.ref bp) (.ref dq) (.ref dp) (.ref lv) (.ref sl) ds sd ul 5), (oc7 sh (.ref fa) (nI ft)), (oq fa cF 200 FA), (oc1 fe2 rk2 wd2 tw2 pa2 pb2 (.ref lo2) (.ref lk2) fm2), (oc4 lk2 (kd f0) (st f0) .null gb2 jt2 we2)]) [4, 0, 1, 2, 3] (by decide) rfl
        have hP : va_P (dC, dI) classes ([(oc8 x (.ref sh) (.ref lw) (.ref ro) (.ref bq) (.ref bp) (.ref dq) (.ref dp) (.ref lv) (.ref sl) ds sd ul 5), (oc7 sh (.ref fa) (nI ft)), (oq fa cF 200 FA), (oc1 fe2 rk2 wd2 tw2 pa2 pb2 (.ref lo2) (.ref lk2) fm2), (oc4 lk2 (kd f0) (st f0) .null gb2 jt2 we2)] ++ va_pl T_1 f) H := hP
        have hD : va_D A ([(oc8 x (.ref sh) (.ref lw) (.ref ro) (.ref bq) (.ref bp) (.ref dq) (.ref dp) (.ref lv) (.ref sl) ds sd ul 5), (oc7 sh (.ref fa) (nI ft)), (oq fa cF 200 FA), (oc1 fe2 rk2 wd2 tw2 pa2 pb2 (.ref lo2) (.ref lk2) fm2), (oc4 lk2 (kd f0) (st f0) .null gb2 jt2 we2)] ++ va_pl T_1 f) := hD
        have hP := pl_back (cs := [(oc1 fe2 rk2 wd2 tw2 pa2 pb2 (.ref lo2) (.ref lk2) fm2), (oc4 lk2 (kd f0) (st f0) .null gb2 jt2 we2)]) (L := L) (f := f) (X := [(oc8 x (.ref sh) (.ref lw) (.ref ro) (.ref bq) (.ref bp) (.ref dq) (.ref dp) (.ref lv) (.ref sl) ds sd ul 5), (oc7 sh (.ref fa) (nI ft)), (oq fa cF 200 FA)]) (by rw [hT_1]; exact (show va_P (dC, dI) classes (([(oc8 x (.ref sh) (.ref lw) (.ref ro) (.ref bq) (.ref bp) (.ref dq) (.ref dp) (.ref lv) (.ref sl) ds sd ul 5), (oc7 sh (.ref fa) (nI ft)), (oq fa cF 200 FA)] ++ [(oc1 fe2 rk2 wd2 tw2 pa2 pb2 (.ref lo2) (.ref lk2) fm2), (oc4 lk2 (kd f0) (st f0) .null gb2 jt2 we2)]) ++ va_pl T_1 f) H from hP)) hc9_1
        have hD : va_D A ([(oc8 x (.ref sh) (.ref lw) (.ref ro) (.ref bq) (.ref bp) (.ref dq) (.ref dp) (.ref lv) (.ref sl) ds sd ul 5), (oc7 sh (.ref fa) (nI ft)), (oq fa cF 200 FA)] ++ va_pl L f) := vaD_ae hD0_1 rfl
        have hP9 := hP.part (cx := [(oc8 x (.ref sh) (.ref lw) (.ref ro) (.ref bq) (.ref bp) (.ref dq) (.ref dp) (.ref lv) (.ref sl) ds sd ul 5), (oc7 sh (.ref fa) (nI ft)), (oq fa cF 200 FA)]) [0, 1, 2] rfl
        have hD9 := hD.part (cx := [(oc8 x (.ref sh) (.ref lw) (.ref ro) (.ref bq) (.ref bp) (.ref dq) (.ref dp) (.ref lv) (.ref sl) ds sd ul 5), (oc7 sh (.ref fa) (nI ft)), (oq fa cF 200 FA)]) [0, 1, 2] (by decide) rfl
        rw [hQ9]
        exact W.zret (ty := .boolean) (v := 0) hx hb hr (rfl) (fun t ht hW => ⟨⟨rfl, ul, 5, by rw [ht]; exact hP9, hD9⟩, hS.F ht⟩) hS.2.2 dX10_grow_71
      · have c_2 : ¬ (kd f0).toInt = 6 := zc_ne rfl (by decide) c_2
        refine lv_aload_n hx hb dX10_grow_48 rfl (lv_at hl 1 rfl) ?_
        refine lv_iconst (v := 3) hx hb dX10_grow_49 (by decide) ?_
        have hPc := hP.sub (ws' := [(oc8 x (.ref sh) (.ref lw) (.ref ro) (.ref bq) (.ref bp) (.ref dq) (.ref dp) (.ref lv) (.ref sl) ds sd ul su)]) [0] rfl
        have hDc := hD.sub (ws' := [(oc8 x (.ref sh) (.ref lw) (.ref ro) (.ref bq) (.ref bp) (.ref dq) (.ref dp) (.ref lv) (.ref sl) ds sd ul su)]) [0] (by decide) rfl
        have hFc := va_free (wc := [(oc8 x (.ref sh) (.ref lw) (.ref ro) (.ref bq) (.ref bp) (.ref dq) (.ref dp) (.ref lv) (.ref sl) ds sd ul su)]) hD hS hA [0] rfl
        refine zcall (st1 := [.int 0]) (va_runV (As := [.int 3]) (rest := []) ⟨hx, hb, hml, hown, hts⟩ (k_deny_3 l dC dI cI cZ cF H.size x sh lw ro bq bp dq dp lv sl sd ul su ds ) (cwV 1 hts (zz_gV mw_513 mw_515 mw_4 mw_99 mc_yX10_deny) rfl rfl rfl (by decide +kernel) ⟨Nat.le_of_ble_eq_true rfl, Nat.le_of_ble_eq_true rfl⟩) (zPV2 (q0 := 0) (ci := 8) hPc hDc hK hXN rfl rfl) rfl rfl hl.1 rfl (lv_room (Nat.le_of_ble_eq_true rfl)) dX10_grow_50 ⟨Nat.le_of_ble_eq_true rfl, Nat.le_of_ble_eq_true rfl⟩) hS hFc hFc rfl (fun t H1 locs ht hB hk1 hS => ?_)
        obtain ⟨hP1, hD1⟩ := hB
        rw [ht] at hP1
        obtain ⟨hP, hD⟩ := va_joinQ (wr := [(oc7 sh (.ref fa) (nI ft)), (oq fa cF 200 FA), (oc1 fe2 rk2 wd2 tw2 pa2 pb2 (.ref lo2) (.ref lk2) fm2), (oc4 lk2 (kd f0) (st f0) .null gb2 jt2 we2)]) (w1 := [(oc8 x (.ref sh) (.ref lw) (.ref ro) (.ref bq) (.ref bp) (.ref dq) (.ref dp) (.ref lv) (.ref sl) ds sd ul 3)]) hP hD [0] [1, 2, 3, 4] rfl rfl (by decide) (by decide) hk1 hFc hP1 hD1
        clear hk1 hPc hDc hFc hP1 hD1 ht
        generalize H1 = H at hP hS ⊢
        have hP := hP.part (cx := [(oc8 x (.ref sh) (.ref lw) (.ref ro) (.ref bq) (.ref bp) (.ref dq) (.ref dp) (.ref lv) (.ref sl) ds sd ul 3), (oc7 sh (.ref fa) (nI ft)), (oq fa cF 200 FA), (oc1 fe2 rk2 wd2 tw2 pa2 pb2 (.ref lo2) (.ref lk2) fm2), (oc4 lk2 (kd f0) (st f0) .null gb2 jt2 we2)]) [4, 0, 1, 2, 3] rfl
        have hD := hD.part (cx := [(oc8 x (.ref sh) (.ref lw) (.ref ro) (.ref bq) (.ref bp) (.ref dq) (.ref dp) (.ref lv) (.ref sl) ds sd ul 3), (oc7 sh (.ref fa) (nI ft)), (oq fa cF 200 FA), (oc1 fe2 rk2 wd2 tw2 pa2 pb2 (.ref lo2) (.ref lk2) fm2), (oc4 lk2 (kd f0) (st f0) .null gb2 jt2 we2)]) [4, 0, 1, 2, 3] (by decide) rfl
        have hP : va_P (dC, dI) classes ([(oc8 x (.ref sh) (.ref lw) (.ref ro) (.ref bq) (.ref bp) (.ref dq) (.ref dp) (.ref lv) (.ref sl) ds sd ul 3), (oc7 sh (.ref fa) (nI ft)), (oq fa cF 200 FA), (oc1 fe2 rk2 wd2 tw2 pa2 pb2 (.ref lo2) (.ref lk2) fm2), (oc4 lk2 (kd f0) (st f0) .null gb2 jt2 we2)] ++ va_pl T_1 f) H := hP
        have hD : va_D A ([(oc8 x (.ref sh) (.ref lw) (.ref ro) (.ref bq) (.ref bp) (.ref dq) (.ref dp) (.ref lv) (.ref sl) ds sd ul 3), (oc7 sh (.ref fa) (nI ft)), (oq fa cF 200 FA), (oc1 fe2 rk2 wd2 tw2 pa2 pb2 (.ref lo2) (.ref lk2) fm2), (oc4 lk2 (kd f0) (st f0) .null gb2 jt2 we2)] ++ va_pl T_1 f) := hD
        have hP := pl_back (cs := [(oc1 fe2 rk2 wd2 tw2 pa2 pb2 (.ref lo2) (.ref lk2) fm2), (oc4 lk2 (kd f0) (st f0) .null gb2 jt2 we2)]) (L := L) (f := f) (X := [(oc8 x (.ref sh) (.ref lw) (.ref ro) (.ref bq) (.ref bp) (.ref dq) (.ref dp) (.ref lv) (.ref sl) ds sd ul 3), (oc7 sh (.ref fa) (nI ft)), (oq fa cF 200 FA)]) (by rw [hT_1]; exact (show va_P (dC, dI) classes (([(oc8 x (.ref sh) (.ref lw) (.ref ro) (.ref bq) (.ref bp) (.ref dq) (.ref dp) (.ref lv) (.ref sl) ds sd ul 3), (oc7 sh (.ref fa) (nI ft)), (oq fa cF 200 FA)] ++ [(oc1 fe2 rk2 wd2 tw2 pa2 pb2 (.ref lo2) (.ref lk2) fm2), (oc4 lk2 (kd f0) (st f0) .null gb2 jt2 we2)]) ++ va_pl T_1 f) H from hP)) hc9_1
        have hD : va_D A ([(oc8 x (.ref sh) (.ref lw) (.ref ro) (.ref bq) (.ref bp) (.ref dq) (.ref dp) (.ref lv) (.ref sl) ds sd ul 3), (oc7 sh (.ref fa) (nI ft)), (oq fa cF 200 FA)] ++ va_pl L f) := vaD_ae hD0_1 rfl
        have hP9 := hP.part (cx := [(oc8 x (.ref sh) (.ref lw) (.ref ro) (.ref bq) (.ref bp) (.ref dq) (.ref dp) (.ref lv) (.ref sl) ds sd ul 3), (oc7 sh (.ref fa) (nI ft)), (oq fa cF 200 FA)]) [0, 1, 2] rfl
        have hD9 := hD.part (cx := [(oc8 x (.ref sh) (.ref lw) (.ref ro) (.ref bq) (.ref bp) (.ref dq) (.ref dp) (.ref lv) (.ref sl) ds sd ul 3), (oc7 sh (.ref fa) (nI ft)), (oq fa cF 200 FA)]) [0, 1, 2] (by decide) rfl
        rw [hQ9]
        exact W.zret (ty := .boolean) (v := 0) hx hb hr (rfl) (fun t ht hW => ⟨⟨rfl, ul, 3, by rw [ht]; exact hP9, hD9⟩, hS.F ht⟩) hS.2.2 dX10_grow_53
    · have c_1 : ¬ (st f0).toInt = 1 := zc_ne rfl (by decide) c_1
      refine lv_aload_n hx hb dX10_grow_30 rfl (lv_at hl 1 rfl) ?_
      refine lv_iconst (v := 2) hx hb dX10_grow_31 (by decide) ?_
      have hPc := hP.sub (ws' := [(oc8 x (.ref sh) (.ref lw) (.ref ro) (.ref bq) (.ref bp) (.ref dq) (.ref dp) (.ref lv) (.ref sl) ds sd ul su)]) [0] rfl
      have hDc := hD.sub (ws' := [(oc8 x (.ref sh) (.ref lw) (.ref ro) (.ref bq) (.ref bp) (.ref dq) (.ref dp) (.ref lv) (.ref sl) ds sd ul su)]) [0] (by decide) rfl
      have hFc := va_free (wc := [(oc8 x (.ref sh) (.ref lw) (.ref ro) (.ref bq) (.ref bp) (.ref dq) (.ref dp) (.ref lv) (.ref sl) ds sd ul su)]) hD hS hA [0] rfl
      refine zcall (st1 := [.int 0]) (va_runV (As := [.int 2]) (rest := []) ⟨hx, hb, hml, hown, hts⟩ (k_deny_2 l dC dI cI cZ cF H.size x sh lw ro bq bp dq dp lv sl sd ul su ds ) (cwV 1 hts (zz_gV mw_513 mw_515 mw_4 mw_99 mc_yX10_deny) rfl rfl rfl (by decide +kernel) ⟨Nat.le_of_ble_eq_true rfl, Nat.le_of_ble_eq_true rfl⟩) (zPV2 (q0 := 0) (ci := 8) hPc hDc hK hXN rfl rfl) rfl rfl hl.1 rfl (lv_room (Nat.le_of_ble_eq_true rfl)) dX10_grow_32 ⟨Nat.le_of_ble_eq_true rfl, Nat.le_of_ble_eq_true rfl⟩) hS hFc hFc rfl (fun t H1 locs ht hB hk1 hS => ?_)
      obtain ⟨hP1, hD1⟩ := hB
      rw [ht] at hP1
      obtain ⟨hP, hD⟩ := va_joinQ (wr := [(oc7 sh (.ref fa) (nI ft)), (oq fa cF 200 FA), (oc1 fe2 rk2 wd2 tw2 pa2 pb2 (.ref lo2) (.ref lk2) fm2), (oc4 lk2 (kd f0) (st f0) .null gb2 jt2 we2)]) (w1 := [(oc8 x (.ref sh) (.ref lw) (.ref ro) (.ref bq) (.ref bp) (.ref dq) (.ref dp) (.ref lv) (.ref sl) ds sd ul 2)]) hP hD [0] [1, 2, 3, 4] rfl rfl (by decide) (by decide) hk1 hFc hP1 hD1
      clear hk1 hPc hDc hFc hP1 hD1 ht
      generalize H1 = H at hP hS ⊢
      have hP := hP.part (cx := [(oc8 x (.ref sh) (.ref lw) (.ref ro) (.ref bq) (.ref bp) (.ref dq) (.ref dp) (.ref lv) (.ref sl) ds sd ul 2), (oc7 sh (.ref fa) (nI ft)), (oq fa cF 200 FA), (oc1 fe2 rk2 wd2 tw2 pa2 pb2 (.ref lo2) (.ref lk2) fm2), (oc4 lk2 (kd f0) (st f0) .null gb2 jt2 we2)]) [4, 0, 1, 2, 3] rfl
      have hD := hD.part (cx := [(oc8 x (.ref sh) (.ref lw) (.ref ro) (.ref bq) (.ref bp) (.ref dq) (.ref dp) (.ref lv) (.ref sl) ds sd ul 2), (oc7 sh (.ref fa) (nI ft)), (oq fa cF 200 FA), (oc1 fe2 rk2 wd2 tw2 pa2 pb2 (.ref lo2) (.ref lk2) fm2), (oc4 lk2 (kd f0) (st f0) .null gb2 jt2 we2)]) [4, 0, 1, 2, 3] (by decide) rfl
      have hP : va_P (dC, dI) classes ([(oc8 x (.ref sh) (.ref lw) (.ref ro) (.ref bq) (.ref bp) (.ref dq) (.ref dp) (.ref lv) (.ref sl) ds sd ul 2), (oc7 sh (.ref fa) (nI ft)), (oq fa cF 200 FA), (oc1 fe2 rk2 wd2 tw2 pa2 pb2 (.ref lo2) (.ref lk2) fm2), (oc4 lk2 (kd f0) (st f0) .null gb2 jt2 we2)] ++ va_pl T_1 f) H := hP
      have hD : va_D A ([(oc8 x (.ref sh) (.ref lw) (.ref ro) (.ref bq) (.ref bp) (.ref dq) (.ref dp) (.ref lv) (.ref sl) ds sd ul 2), (oc7 sh (.ref fa) (nI ft)), (oq fa cF 200 FA), (oc1 fe2 rk2 wd2 tw2 pa2 pb2 (.ref lo2) (.ref lk2) fm2), (oc4 lk2 (kd f0) (st f0) .null gb2 jt2 we2)] ++ va_pl T_1 f) := hD
      have hP := pl_back (cs := [(oc1 fe2 rk2 wd2 tw2 pa2 pb2 (.ref lo2) (.ref lk2) fm2), (oc4 lk2 (kd f0) (st f0) .null gb2 jt2 we2)]) (L := L) (f := f) (X := [(oc8 x (.ref sh) (.ref lw) (.ref ro) (.ref bq) (.ref bp) (.ref dq) (.ref dp) (.ref lv) (.ref sl) ds sd ul 2), (oc7 sh (.ref fa) (nI ft)), (oq fa cF 200 FA)]) (by rw [hT_1]; exact (show va_P (dC, dI) classes (([(oc8 x (.ref sh) (.ref lw) (.ref ro) (.ref bq) (.ref bp) (.ref dq) (.ref dp) (.ref lv) (.ref sl) ds sd ul 2), (oc7 sh (.ref fa) (nI ft)), (oq fa cF 200 FA)] ++ [(oc1 fe2 rk2 wd2 tw2 pa2 pb2 (.ref lo2) (.ref lk2) fm2), (oc4 lk2 (kd f0) (st f0) .null gb2 jt2 we2)]) ++ va_pl T_1 f) H from hP)) hc9_1
      have hD : va_D A ([(oc8 x (.ref sh) (.ref lw) (.ref ro) (.ref bq) (.ref bp) (.ref dq) (.ref dp) (.ref lv) (.ref sl) ds sd ul 2), (oc7 sh (.ref fa) (nI ft)), (oq fa cF 200 FA)] ++ va_pl L f) := vaD_ae hD0_1 rfl
      have hP9 := hP.part (cx := [(oc8 x (.ref sh) (.ref lw) (.ref ro) (.ref bq) (.ref bp) (.ref dq) (.ref dp) (.ref lv) (.ref sl) ds sd ul 2), (oc7 sh (.ref fa) (nI ft)), (oq fa cF 200 FA)]) [0, 1, 2] rfl
      have hD9 := hD.part (cx := [(oc8 x (.ref sh) (.ref lw) (.ref ro) (.ref bq) (.ref bp) (.ref dq) (.ref dp) (.ref lv) (.ref sl) ds sd ul 2), (oc7 sh (.ref fa) (nI ft)), (oq fa cF 200 FA)]) [0, 1, 2] (by decide) rfl
      rw [hQ9]
      exact W.zret (ty := .boolean) (v := 0) hx hb hr (rfl) (fun t ht hW => ⟨⟨rfl, ul, 2, by rw [ht]; exact hP9, hD9⟩, hS.F ht⟩) hS.2.2 dX10_grow_35
  · skip
    have hcap2 := hrr2.1
    have hcap3 := hrr2.2.1
    have hc9_1 : inPl L f [(oc1 fe2 rk2 wd2 tw2 pa2 pb2 (.ref lo2) (.ref lk2) fm2), (oc4 lk2 (kd f0) (st f0) (.ref r2) gb2 jt2 we2), (oc6 r2 (.ref rx2) (.ref ry2) (nI (nN (mn f0))) rg2), (oa rx2 cI cap2 U2), (oa ry2 cI cap2 V2)] := ⟨hfe2, hlk2, hr2, hrx2, hry2, trivial⟩
    have hD0_1 := hD
    obtain ⟨hP, hD⟩ := pl_out hP hD [(oc1 fe2 rk2 wd2 tw2 pa2 pb2 (.ref lo2) (.ref lk2) fm2), (oc4 lk2 (kd f0) (st f0) (.ref r2) gb2 jt2 we2), (oc6 r2 (.ref rx2) (.ref ry2) (nI (nN (mn f0))) rg2), (oa rx2 cI cap2 U2), (oa ry2 cI cap2 V2)] hc9_1 (pwR hfe2.2 hlk2.2 hr2.2 hrx2.2 hry2.2 hne2)
    generalize hT_1 : outPl L [(oc1 fe2 rk2 wd2 tw2 pa2 pb2 (.ref lo2) (.ref lk2) fm2), (oc4 lk2 (kd f0) (st f0) (.ref r2) gb2 jt2 we2), (oc6 r2 (.ref rx2) (.ref ry2) (nI (nN (mn f0))) rg2), (oa rx2 cI cap2 U2), (oa ry2 cI cap2 V2)] = T_1 at hP hD
    have hP : va_P (dC, dI) classes ([(oc8 x (.ref sh) (.ref lw) (.ref ro) (.ref bq) (.ref bp) (.ref dq) (.ref dp) (.ref lv) (.ref sl) ds sd ul su), (oc7 sh (.ref fa) (nI ft)), (oq fa cF 200 FA), (oc1 fe2 rk2 wd2 tw2 pa2 pb2 (.ref lo2) (.ref lk2) fm2), (oc4 lk2 (kd f0) (st f0) (.ref r2) gb2 jt2 we2), (oc6 r2 (.ref rx2) (.ref ry2) (nI (nN (mn f0))) rg2), (oa rx2 cI cap2 U2), (oa ry2 cI cap2 V2)] ++ va_pl T_1 f) s.heap := hP
    have hD : va_D A ([(oc8 x (.ref sh) (.ref lw) (.ref ro) (.ref bq) (.ref bp) (.ref dq) (.ref dp) (.ref lv) (.ref sl) ds sd ul su), (oc7 sh (.ref fa) (nI ft)), (oq fa cF 200 FA), (oc1 fe2 rk2 wd2 tw2 pa2 pb2 (.ref lo2) (.ref lk2) fm2), (oc4 lk2 (kd f0) (st f0) (.ref r2) gb2 jt2 we2), (oc6 r2 (.ref rx2) (.ref ry2) (nI (nN (mn f0))) rg2), (oa rx2 cI cap2 U2), (oa ry2 cI cap2 V2)] ++ va_pl T_1 f) := hD
    refine lv_aload_n hx hb dX10_grow_0 rfl (lv_at hl 0 rfl) ?_
    refine va_get (D := (dC, dI)) (ci := 8) (v := .ref sh) (C := RX10) (T := TX10) (N := 13) hx hb hts inX10 hown hK hP 0 rfl rfl 0 (by decide) (hts _ mw_309) (fun _ h9 => h9) rfl dX10_grow_1 ?_
    refine lv_iload_n hx hb dX10_grow_4 rfl (lv_at hl 1 rfl) ?_
    have hPc := hP.sub (ws' := [(oc7 sh (.ref fa) (nI ft)), (oq fa cF 200 FA)]) [1, 2] rfl
    have hDc := hD.sub (ws' := [(oc7 sh (.ref fa) (nI ft)), (oq fa cF 200 FA)]) [1, 2] (by decide) rfl
    have hFc := va_free (wc := [(oc7 sh (.ref fa) (nI ft)), (oq fa cF 200 FA)]) hD hS hA [1, 2] rfl
    refine zcall (st1 := [.ref fe2]) (va_runV (As := [.int (nI f0)]) (rest := []) ⟨hx, hb, hml, hown, hts⟩ (k_Sheet_find l dC dI cI cZ cF s.heap.size sh fa ft FA f0 fe2 (by omega) (by omega) (hFA2)) (cwV 1 hts (zz_gV mw_498 mw_499 mw_500 mw_100 mc_yX8_find) rfl rfl rfl (by decide +kernel) ⟨Nat.le_of_ble_eq_true rfl, Nat.le_of_ble_eq_true rfl⟩) (zPV2 (q0 := 0) (ci := 7) hPc hDc hK hXN rfl rfl) rfl rfl hl.1 rfl (lv_room (Nat.le_of_ble_eq_true rfl)) dX10_grow_5 ⟨Nat.le_of_ble_eq_true rfl, Nat.le_of_ble_eq_true rfl⟩) hS hFc hFc rfl (fun t H1 locs ht hB hk1 hS => ?_)
    obtain ⟨hP1, hD1⟩ := hB
    rw [ht] at hP1
    obtain ⟨hP, hD⟩ := va_joinQ (wr := [(oc8 x (.ref sh) (.ref lw) (.ref ro) (.ref bq) (.ref bp) (.ref dq) (.ref dp) (.ref lv) (.ref sl) ds sd ul su), (oc1 fe2 rk2 wd2 tw2 pa2 pb2 (.ref lo2) (.ref lk2) fm2), (oc4 lk2 (kd f0) (st f0) (.ref r2) gb2 jt2 we2), (oc6 r2 (.ref rx2) (.ref ry2) (nI (nN (mn f0))) rg2), (oa rx2 cI cap2 U2), (oa ry2 cI cap2 V2)]) (w1 := [(oc7 sh (.ref fa) (nI ft)), (oq fa cF 200 FA)]) hP hD [1, 2] [0, 3, 4, 5, 6, 7] rfl rfl (by decide) (by decide) hk1 hFc hP1 hD1
    clear hk1 hPc hDc hFc hP1 hD1 ht
    generalize H1 = H at hP hS ⊢
    have hP := hP.part (cx := [(oc8 x (.ref sh) (.ref lw) (.ref ro) (.ref bq) (.ref bp) (.ref dq) (.ref dp) (.ref lv) (.ref sl) ds sd ul su), (oc7 sh (.ref fa) (nI ft)), (oq fa cF 200 FA), (oc1 fe2 rk2 wd2 tw2 pa2 pb2 (.ref lo2) (.ref lk2) fm2), (oc4 lk2 (kd f0) (st f0) (.ref r2) gb2 jt2 we2), (oc6 r2 (.ref rx2) (.ref ry2) (nI (nN (mn f0))) rg2), (oa rx2 cI cap2 U2), (oa ry2 cI cap2 V2)]) [0, 6, 7, 1, 2, 3, 4, 5] rfl
    have hD := hD.part (cx := [(oc8 x (.ref sh) (.ref lw) (.ref ro) (.ref bq) (.ref bp) (.ref dq) (.ref dp) (.ref lv) (.ref sl) ds sd ul su), (oc7 sh (.ref fa) (nI ft)), (oq fa cF 200 FA), (oc1 fe2 rk2 wd2 tw2 pa2 pb2 (.ref lo2) (.ref lk2) fm2), (oc4 lk2 (kd f0) (st f0) (.ref r2) gb2 jt2 we2), (oc6 r2 (.ref rx2) (.ref ry2) (nI (nN (mn f0))) rg2), (oa rx2 cI cap2 U2), (oa ry2 cI cap2 V2)]) [0, 6, 7, 1, 2, 3, 4, 5] (by decide) rfl
    have hP : va_P (dC, dI) classes ([(oc8 x (.ref sh) (.ref lw) (.ref ro) (.ref bq) (.ref bp) (.ref dq) (.ref dp) (.ref lv) (.ref sl) ds sd ul su), (oc7 sh (.ref fa) (nI ft)), (oq fa cF 200 FA), (oc1 fe2 rk2 wd2 tw2 pa2 pb2 (.ref lo2) (.ref lk2) fm2), (oc4 lk2 (kd f0) (st f0) (.ref r2) gb2 jt2 we2), (oc6 r2 (.ref rx2) (.ref ry2) (nI (nN (mn f0))) rg2), (oa rx2 cI cap2 U2), (oa ry2 cI cap2 V2)] ++ va_pl T_1 f) H := hP
    have hD : va_D A ([(oc8 x (.ref sh) (.ref lw) (.ref ro) (.ref bq) (.ref bp) (.ref dq) (.ref dp) (.ref lv) (.ref sl) ds sd ul su), (oc7 sh (.ref fa) (nI ft)), (oq fa cF 200 FA), (oc1 fe2 rk2 wd2 tw2 pa2 pb2 (.ref lo2) (.ref lk2) fm2), (oc4 lk2 (kd f0) (st f0) (.ref r2) gb2 jt2 we2), (oc6 r2 (.ref rx2) (.ref ry2) (nI (nN (mn f0))) rg2), (oa rx2 cI cap2 U2), (oa ry2 cI cap2 V2)] ++ va_pl T_1 f) := hD
    refine lv_astore_n (lv' := [(2, .ref fe2), (0, .ref x), (1, .int (nI f0))]) hx hb dX10_grow_8 rfl hl (by decide) rfl (fun ls hl => ?_)
    refine lv_aload_n hx hb dX10_grow_9 rfl (lv_at hl 0 rfl) ?_
    refine lv_ifnonnull (tgt := 19) hx hb dX10_grow_10 (by decide) ?_
    refine lv_aload_n hx hb dX10_grow_19 rfl (lv_at hl 0 rfl) ?_
    refine va_get (D := (dC, dI)) (ci := 1) (v := .ref lk2) (C := RX2) (T := TX2) (N := 8) hx hb hts inX2 hown hK hP 3 rfl rfl 6 (by decide) (hts _ mw_433) (fun _ h9 => h9) rfl dX10_grow_20 ?_
    refine va_get (D := (dC, dI)) (ci := 4) (v := .int (st f0)) (C := RX5) (T := TX5) (N := 6) hx hb hts inX5 hown hK hP 4 rfl rfl 1 (by decide) (hts _ mw_385) (fun _ h9 => h9) rfl dX10_grow_23 ?_
    refine lv_iconst (v := 1) hx hb dX10_grow_26 (by decide) ?_
    refine lv_icmp_eq (tgt := 36) hx hb dX10_grow_27 (by decide) (fun c_3 => ?_) (fun c_3 => ?_)
    · have c_3 : (st f0).toInt = 1 := zc_eq rfl (by decide) c_3
      refine lv_aload_n hx hb dX10_grow_36 rfl (lv_at hl 0 rfl) ?_
      refine va_get (D := (dC, dI)) (ci := 1) (v := .ref lk2) (C := RX2) (T := TX2) (N := 8) hx hb hts inX2 hown hK hP 3 rfl rfl 6 (by decide) (hts _ mw_433) (fun _ h9 => h9) rfl dX10_grow_37 ?_
      refine va_get (D := (dC, dI)) (ci := 4) (v := .int (kd f0)) (C := RX5) (T := TX5) (N := 6) hx hb hts inX5 hown hK hP 4 rfl rfl 0 (by decide) (hts _ mw_381) (fun _ h9 => h9) rfl dX10_grow_40 ?_
      refine lv_bipush (v := 6) hx hb dX10_grow_43 (by decide) ?_
      refine lv_icmp_eq (tgt := 54) hx hb dX10_grow_45 (by decide) (fun c_4 => ?_) (fun c_4 => ?_)
      · have c_4 : (kd f0).toInt = 6 := zc_eq rfl (by decide) c_4
        refine lv_aload_n hx hb dX10_grow_54 rfl (lv_at hl 0 rfl) ?_
        refine va_get (D := (dC, dI)) (ci := 1) (v := .ref lk2) (C := RX2) (T := TX2) (N := 8) hx hb hts inX2 hown hK hP 3 rfl rfl 6 (by decide) (hts _ mw_433) (fun _ h9 => h9) rfl dX10_grow_55 ?_
        refine va_get (D := (dC, dI)) (ci := 4) (v := .ref r2) (C := RX5) (T := TX5) (N := 6) hx hb hts inX5 hown hK hP 4 rfl rfl 2 (by decide) (hts _ mw_391) (fun _ h9 => h9) rfl dX10_grow_58 ?_
        refine lv_astore_n (lv' := [(3, .ref r2), (2, .ref fe2), (0, .ref x), (1, .int (nI f0))]) hx hb dX10_grow_61 rfl hl (by decide) rfl (fun ls hl => ?_)
        refine lv_aload_n hx hb dX10_grow_62 rfl (lv_at hl 0 rfl) ?_
        refine lv_ifnonnull (tgt := 72) hx hb dX10_grow_63 (by decide) ?_
        exfalso; omega
      · have c_4 : ¬ (kd f0).toInt = 6 := zc_ne rfl (by decide) c_4
        refine lv_aload_n hx hb dX10_grow_48 rfl (lv_at hl 1 rfl) ?_
        refine lv_iconst (v := 3) hx hb dX10_grow_49 (by decide) ?_
        have hPc := hP.sub (ws' := [(oc8 x (.ref sh) (.ref lw) (.ref ro) (.ref bq) (.ref bp) (.ref dq) (.ref dp) (.ref lv) (.ref sl) ds sd ul su)]) [0] rfl
        have hDc := hD.sub (ws' := [(oc8 x (.ref sh) (.ref lw) (.ref ro) (.ref bq) (.ref bp) (.ref dq) (.ref dp) (.ref lv) (.ref sl) ds sd ul su)]) [0] (by decide) rfl
        have hFc := va_free (wc := [(oc8 x (.ref sh) (.ref lw) (.ref ro) (.ref bq) (.ref bp) (.ref dq) (.ref dp) (.ref lv) (.ref sl) ds sd ul su)]) hD hS hA [0] rfl
        refine zcall (st1 := [.int 0]) (va_runV (As := [.int 3]) (rest := []) ⟨hx, hb, hml, hown, hts⟩ (k_deny_3 l dC dI cI cZ cF H.size x sh lw ro bq bp dq dp lv sl sd ul su ds ) (cwV 1 hts (zz_gV mw_513 mw_515 mw_4 mw_99 mc_yX10_deny) rfl rfl rfl (by decide +kernel) ⟨Nat.le_of_ble_eq_true rfl, Nat.le_of_ble_eq_true rfl⟩) (zPV2 (q0 := 0) (ci := 8) hPc hDc hK hXN rfl rfl) rfl rfl hl.1 rfl (lv_room (Nat.le_of_ble_eq_true rfl)) dX10_grow_50 ⟨Nat.le_of_ble_eq_true rfl, Nat.le_of_ble_eq_true rfl⟩) hS hFc hFc rfl (fun t H1 locs ht hB hk1 hS => ?_)
        obtain ⟨hP1, hD1⟩ := hB
        rw [ht] at hP1
        obtain ⟨hP, hD⟩ := va_joinQ (wr := [(oc7 sh (.ref fa) (nI ft)), (oq fa cF 200 FA), (oc1 fe2 rk2 wd2 tw2 pa2 pb2 (.ref lo2) (.ref lk2) fm2), (oc4 lk2 (kd f0) (st f0) (.ref r2) gb2 jt2 we2), (oc6 r2 (.ref rx2) (.ref ry2) (nI (nN (mn f0))) rg2), (oa rx2 cI cap2 U2), (oa ry2 cI cap2 V2)]) (w1 := [(oc8 x (.ref sh) (.ref lw) (.ref ro) (.ref bq) (.ref bp) (.ref dq) (.ref dp) (.ref lv) (.ref sl) ds sd ul 3)]) hP hD [0] [1, 2, 3, 4, 5, 6, 7] rfl rfl (by decide) (by decide) hk1 hFc hP1 hD1
        clear hk1 hPc hDc hFc hP1 hD1 ht
        generalize H1 = H at hP hS ⊢
        have hP := hP.part (cx := [(oc8 x (.ref sh) (.ref lw) (.ref ro) (.ref bq) (.ref bp) (.ref dq) (.ref dp) (.ref lv) (.ref sl) ds sd ul 3), (oc7 sh (.ref fa) (nI ft)), (oq fa cF 200 FA), (oc1 fe2 rk2 wd2 tw2 pa2 pb2 (.ref lo2) (.ref lk2) fm2), (oc4 lk2 (kd f0) (st f0) (.ref r2) gb2 jt2 we2), (oc6 r2 (.ref rx2) (.ref ry2) (nI (nN (mn f0))) rg2), (oa rx2 cI cap2 U2), (oa ry2 cI cap2 V2)]) [7, 0, 1, 2, 3, 4, 5, 6] rfl
        have hD := hD.part (cx := [(oc8 x (.ref sh) (.ref lw) (.ref ro) (.ref bq) (.ref bp) (.ref dq) (.ref dp) (.ref lv) (.ref sl) ds sd ul 3), (oc7 sh (.ref fa) (nI ft)), (oq fa cF 200 FA), (oc1 fe2 rk2 wd2 tw2 pa2 pb2 (.ref lo2) (.ref lk2) fm2), (oc4 lk2 (kd f0) (st f0) (.ref r2) gb2 jt2 we2), (oc6 r2 (.ref rx2) (.ref ry2) (nI (nN (mn f0))) rg2), (oa rx2 cI cap2 U2), (oa ry2 cI cap2 V2)]) [7, 0, 1, 2, 3, 4, 5, 6] (by decide) rfl
        have hP : va_P (dC, dI) classes ([(oc8 x (.ref sh) (.ref lw) (.ref ro) (.ref bq) (.ref bp) (.ref dq) (.ref dp) (.ref lv) (.ref sl) ds sd ul 3), (oc7 sh (.ref fa) (nI ft)), (oq fa cF 200 FA), (oc1 fe2 rk2 wd2 tw2 pa2 pb2 (.ref lo2) (.ref lk2) fm2), (oc4 lk2 (kd f0) (st f0) (.ref r2) gb2 jt2 we2), (oc6 r2 (.ref rx2) (.ref ry2) (nI (nN (mn f0))) rg2), (oa rx2 cI cap2 U2), (oa ry2 cI cap2 V2)] ++ va_pl T_1 f) H := hP
        have hD : va_D A ([(oc8 x (.ref sh) (.ref lw) (.ref ro) (.ref bq) (.ref bp) (.ref dq) (.ref dp) (.ref lv) (.ref sl) ds sd ul 3), (oc7 sh (.ref fa) (nI ft)), (oq fa cF 200 FA), (oc1 fe2 rk2 wd2 tw2 pa2 pb2 (.ref lo2) (.ref lk2) fm2), (oc4 lk2 (kd f0) (st f0) (.ref r2) gb2 jt2 we2), (oc6 r2 (.ref rx2) (.ref ry2) (nI (nN (mn f0))) rg2), (oa rx2 cI cap2 U2), (oa ry2 cI cap2 V2)] ++ va_pl T_1 f) := hD
        have hP := pl_back (cs := [(oc1 fe2 rk2 wd2 tw2 pa2 pb2 (.ref lo2) (.ref lk2) fm2), (oc4 lk2 (kd f0) (st f0) (.ref r2) gb2 jt2 we2), (oc6 r2 (.ref rx2) (.ref ry2) (nI (nN (mn f0))) rg2), (oa rx2 cI cap2 U2), (oa ry2 cI cap2 V2)]) (L := L) (f := f) (X := [(oc8 x (.ref sh) (.ref lw) (.ref ro) (.ref bq) (.ref bp) (.ref dq) (.ref dp) (.ref lv) (.ref sl) ds sd ul 3), (oc7 sh (.ref fa) (nI ft)), (oq fa cF 200 FA)]) (by rw [hT_1]; exact (show va_P (dC, dI) classes (([(oc8 x (.ref sh) (.ref lw) (.ref ro) (.ref bq) (.ref bp) (.ref dq) (.ref dp) (.ref lv) (.ref sl) ds sd ul 3), (oc7 sh (.ref fa) (nI ft)), (oq fa cF 200 FA)] ++ [(oc1 fe2 rk2 wd2 tw2 pa2 pb2 (.ref lo2) (.ref lk2) fm2), (oc4 lk2 (kd f0) (st f0) (.ref r2) gb2 jt2 we2), (oc6 r2 (.ref rx2) (.ref ry2) (nI (nN (mn f0))) rg2), (oa rx2 cI cap2 U2), (oa ry2 cI cap2 V2)]) ++ va_pl T_1 f) H from hP)) hc9_1
        have hD : va_D A ([(oc8 x (.ref sh) (.ref lw) (.ref ro) (.ref bq) (.ref bp) (.ref dq) (.ref dp) (.ref lv) (.ref sl) ds sd ul 3), (oc7 sh (.ref fa) (nI ft)), (oq fa cF 200 FA)] ++ va_pl L f) := vaD_ae hD0_1 rfl
        have hP9 := hP.part (cx := [(oc8 x (.ref sh) (.ref lw) (.ref ro) (.ref bq) (.ref bp) (.ref dq) (.ref dp) (.ref lv) (.ref sl) ds sd ul 3), (oc7 sh (.ref fa) (nI ft)), (oq fa cF 200 FA)]) [0, 1, 2] rfl
        have hD9 := hD.part (cx := [(oc8 x (.ref sh) (.ref lw) (.ref ro) (.ref bq) (.ref bp) (.ref dq) (.ref dp) (.ref lv) (.ref sl) ds sd ul 3), (oc7 sh (.ref fa) (nI ft)), (oq fa cF 200 FA)]) [0, 1, 2] (by decide) rfl
        rw [hQ9]
        exact W.zret (ty := .boolean) (v := 0) hx hb hr (rfl) (fun t ht hW => ⟨⟨rfl, ul, 3, by rw [ht]; exact hP9, hD9⟩, hS.F ht⟩) hS.2.2 dX10_grow_53
    · have c_3 : ¬ (st f0).toInt = 1 := zc_ne rfl (by decide) c_3
      refine lv_aload_n hx hb dX10_grow_30 rfl (lv_at hl 1 rfl) ?_
      refine lv_iconst (v := 2) hx hb dX10_grow_31 (by decide) ?_
      have hPc := hP.sub (ws' := [(oc8 x (.ref sh) (.ref lw) (.ref ro) (.ref bq) (.ref bp) (.ref dq) (.ref dp) (.ref lv) (.ref sl) ds sd ul su)]) [0] rfl
      have hDc := hD.sub (ws' := [(oc8 x (.ref sh) (.ref lw) (.ref ro) (.ref bq) (.ref bp) (.ref dq) (.ref dp) (.ref lv) (.ref sl) ds sd ul su)]) [0] (by decide) rfl
      have hFc := va_free (wc := [(oc8 x (.ref sh) (.ref lw) (.ref ro) (.ref bq) (.ref bp) (.ref dq) (.ref dp) (.ref lv) (.ref sl) ds sd ul su)]) hD hS hA [0] rfl
      refine zcall (st1 := [.int 0]) (va_runV (As := [.int 2]) (rest := []) ⟨hx, hb, hml, hown, hts⟩ (k_deny_2 l dC dI cI cZ cF H.size x sh lw ro bq bp dq dp lv sl sd ul su ds ) (cwV 1 hts (zz_gV mw_513 mw_515 mw_4 mw_99 mc_yX10_deny) rfl rfl rfl (by decide +kernel) ⟨Nat.le_of_ble_eq_true rfl, Nat.le_of_ble_eq_true rfl⟩) (zPV2 (q0 := 0) (ci := 8) hPc hDc hK hXN rfl rfl) rfl rfl hl.1 rfl (lv_room (Nat.le_of_ble_eq_true rfl)) dX10_grow_32 ⟨Nat.le_of_ble_eq_true rfl, Nat.le_of_ble_eq_true rfl⟩) hS hFc hFc rfl (fun t H1 locs ht hB hk1 hS => ?_)
      obtain ⟨hP1, hD1⟩ := hB
      rw [ht] at hP1
      obtain ⟨hP, hD⟩ := va_joinQ (wr := [(oc7 sh (.ref fa) (nI ft)), (oq fa cF 200 FA), (oc1 fe2 rk2 wd2 tw2 pa2 pb2 (.ref lo2) (.ref lk2) fm2), (oc4 lk2 (kd f0) (st f0) (.ref r2) gb2 jt2 we2), (oc6 r2 (.ref rx2) (.ref ry2) (nI (nN (mn f0))) rg2), (oa rx2 cI cap2 U2), (oa ry2 cI cap2 V2)]) (w1 := [(oc8 x (.ref sh) (.ref lw) (.ref ro) (.ref bq) (.ref bp) (.ref dq) (.ref dp) (.ref lv) (.ref sl) ds sd ul 2)]) hP hD [0] [1, 2, 3, 4, 5, 6, 7] rfl rfl (by decide) (by decide) hk1 hFc hP1 hD1
      clear hk1 hPc hDc hFc hP1 hD1 ht
      generalize H1 = H at hP hS ⊢
      have hP := hP.part (cx := [(oc8 x (.ref sh) (.ref lw) (.ref ro) (.ref bq) (.ref bp) (.ref dq) (.ref dp) (.ref lv) (.ref sl) ds sd ul 2), (oc7 sh (.ref fa) (nI ft)), (oq fa cF 200 FA), (oc1 fe2 rk2 wd2 tw2 pa2 pb2 (.ref lo2) (.ref lk2) fm2), (oc4 lk2 (kd f0) (st f0) (.ref r2) gb2 jt2 we2), (oc6 r2 (.ref rx2) (.ref ry2) (nI (nN (mn f0))) rg2), (oa rx2 cI cap2 U2), (oa ry2 cI cap2 V2)]) [7, 0, 1, 2, 3, 4, 5, 6] rfl
      have hD := hD.part (cx := [(oc8 x (.ref sh) (.ref lw) (.ref ro) (.ref bq) (.ref bp) (.ref dq) (.ref dp) (.ref lv) (.ref sl) ds sd ul 2), (oc7 sh (.ref fa) (nI ft)), (oq fa cF 200 FA), (oc1 fe2 rk2 wd2 tw2 pa2 pb2 (.ref lo2) (.ref lk2) fm2), (oc4 lk2 (kd f0) (st f0) (.ref r2) gb2 jt2 we2), (oc6 r2 (.ref rx2) (.ref ry2) (nI (nN (mn f0))) rg2), (oa rx2 cI cap2 U2), (oa ry2 cI cap2 V2)]) [7, 0, 1, 2, 3, 4, 5, 6] (by decide) rfl
      have hP : va_P (dC, dI) classes ([(oc8 x (.ref sh) (.ref lw) (.ref ro) (.ref bq) (.ref bp) (.ref dq) (.ref dp) (.ref lv) (.ref sl) ds sd ul 2), (oc7 sh (.ref fa) (nI ft)), (oq fa cF 200 FA), (oc1 fe2 rk2 wd2 tw2 pa2 pb2 (.ref lo2) (.ref lk2) fm2), (oc4 lk2 (kd f0) (st f0) (.ref r2) gb2 jt2 we2), (oc6 r2 (.ref rx2) (.ref ry2) (nI (nN (mn f0))) rg2), (oa rx2 cI cap2 U2), (oa ry2 cI cap2 V2)] ++ va_pl T_1 f) H := hP
      have hD : va_D A ([(oc8 x (.ref sh) (.ref lw) (.ref ro) (.ref bq) (.ref bp) (.ref dq) (.ref dp) (.ref lv) (.ref sl) ds sd ul 2), (oc7 sh (.ref fa) (nI ft)), (oq fa cF 200 FA), (oc1 fe2 rk2 wd2 tw2 pa2 pb2 (.ref lo2) (.ref lk2) fm2), (oc4 lk2 (kd f0) (st f0) (.ref r2) gb2 jt2 we2), (oc6 r2 (.ref rx2) (.ref ry2) (nI (nN (mn f0))) rg2), (oa rx2 cI cap2 U2), (oa ry2 cI cap2 V2)] ++ va_pl T_1 f) := hD
      have hP := pl_back (cs := [(oc1 fe2 rk2 wd2 tw2 pa2 pb2 (.ref lo2) (.ref lk2) fm2), (oc4 lk2 (kd f0) (st f0) (.ref r2) gb2 jt2 we2), (oc6 r2 (.ref rx2) (.ref ry2) (nI (nN (mn f0))) rg2), (oa rx2 cI cap2 U2), (oa ry2 cI cap2 V2)]) (L := L) (f := f) (X := [(oc8 x (.ref sh) (.ref lw) (.ref ro) (.ref bq) (.ref bp) (.ref dq) (.ref dp) (.ref lv) (.ref sl) ds sd ul 2), (oc7 sh (.ref fa) (nI ft)), (oq fa cF 200 FA)]) (by rw [hT_1]; exact (show va_P (dC, dI) classes (([(oc8 x (.ref sh) (.ref lw) (.ref ro) (.ref bq) (.ref bp) (.ref dq) (.ref dp) (.ref lv) (.ref sl) ds sd ul 2), (oc7 sh (.ref fa) (nI ft)), (oq fa cF 200 FA)] ++ [(oc1 fe2 rk2 wd2 tw2 pa2 pb2 (.ref lo2) (.ref lk2) fm2), (oc4 lk2 (kd f0) (st f0) (.ref r2) gb2 jt2 we2), (oc6 r2 (.ref rx2) (.ref ry2) (nI (nN (mn f0))) rg2), (oa rx2 cI cap2 U2), (oa ry2 cI cap2 V2)]) ++ va_pl T_1 f) H from hP)) hc9_1
      have hD : va_D A ([(oc8 x (.ref sh) (.ref lw) (.ref ro) (.ref bq) (.ref bp) (.ref dq) (.ref dp) (.ref lv) (.ref sl) ds sd ul 2), (oc7 sh (.ref fa) (nI ft)), (oq fa cF 200 FA)] ++ va_pl L f) := vaD_ae hD0_1 rfl
      have hP9 := hP.part (cx := [(oc8 x (.ref sh) (.ref lw) (.ref ro) (.ref bq) (.ref bp) (.ref dq) (.ref dp) (.ref lv) (.ref sl) ds sd ul 2), (oc7 sh (.ref fa) (nI ft)), (oq fa cF 200 FA)]) [0, 1, 2] rfl
      have hD9 := hD.part (cx := [(oc8 x (.ref sh) (.ref lw) (.ref ro) (.ref bq) (.ref bp) (.ref dq) (.ref dp) (.ref lv) (.ref sl) ds sd ul 2), (oc7 sh (.ref fa) (nI ft)), (oq fa cF 200 FA)]) [0, 1, 2] (by decide) rfl
      rw [hQ9]
      exact W.zret (ty := .boolean) (v := 0) hx hb hr (rfl) (fun t ht hW => ⟨⟨rfl, ul, 2, by rw [ht]; exact hP9, hD9⟩, hS.F ht⟩) hS.2.2 dX10_grow_35
set_option maxHeartbeats 4000000 in
set_option maxRecDepth 100000 in
theorem k_square_r (l : Launch) (dC : Nat → ClassId) (dI : Nat → Nat → Nat) (cI cZ cF : ClassId) (sz : Nat) (x : Nat) (sh : Nat) (lw : Nat) (ro : Nat) (bq : Nat) (bp : Nat) (dq : Nat) (dp : Nat) (lv : Nat) (sl : Nat) (sd : Int32) (ul : Int32) (su : Int32) (ds : Int32) (fa : Nat) (ft : Nat) (FA : Nat → Option Nat) (f0 : Nat) (L : List Nat) (f : Nat → va_E) (kd : Nat → Int32) (st : Nat → Int32) (tn : Nat → Int32) (mn : Nat → Int32) (cx : Nat → Int32) (cy : Nat → Int32) (ms : Int32) (h200 : ft ≤ 200) (hf0 : f0 < ft) (hvw : ∀ q, q < ft → vwO cI L f FA kd st tn mn cx cy q) (hbad : ¬ ((st f0).toInt = 1 ∧ (kd f0).toInt = 5 ∧ 0 ≤ ms.toInt ∧ (tn f0).toInt = 0)) : Met l yX10_square (.code yX10_square cX10_square 5 (some .boolean) :: ws0) ({ frames := 2, cells := 0, slots := 0, locals := 42 } : Room) (va_Pc [.ref x, .int (nI f0), .int ms] (zPre (dC, dI) classes (zTy cI cZ cF) ([(oc8 x (.ref sh) (.ref lw) (.ref ro) (.ref bq) (.ref bp) (.ref dq) (.ref dp) (.ref lv) (.ref sl) ds sd ul su), (oc7 sh (.ref fa) (nI ft)), (oq fa cF 200 FA)] ++ va_pl L f) sz zXN)) (zQ (some (.int 0)) (fun t => ∃ (ul1 : Int32), ∃ (su1 : Int32), va_P (dC, dI) classes ([(oc8 x (.ref sh) (.ref lw) (.ref ro) (.ref bq) (.ref bp) (.ref dq) (.ref dp) (.ref lv) (.ref sl) ds sd ul1 su1), (oc7 sh (.ref fa) (nI ft)), (oq fa cF 200 FA)] ++ va_pl L f) t.heap ∧ va_D (va_A ([(oc8 x (.ref sh) (.ref lw) (.ref ro) (.ref bq) (.ref bp) (.ref dq) (.ref dp) (.ref lv) (.ref sl) ds sd ul su), (oc7 sh (.ref fa) (nI ft)), (oq fa cF 200 FA)] ++ va_pl L f) sz) ([(oc8 x (.ref sh) (.ref lw) (.ref ro) (.ref bq) (.ref bp) (.ref dq) (.ref dp) (.ref lv) (.ref sl) ds sd ul1 su1), (oc7 sh (.ref fa) (nI ft)), (oq fa cF 200 FA)] ++ va_pl L f)) (va_A ([(oc8 x (.ref sh) (.ref lw) (.ref ro) (.ref bq) (.ref bp) (.ref dq) (.ref dp) (.ref lv) (.ref sl) ds sd ul su), (oc7 sh (.ref fa) (nI ft)), (oq fa cF 200 FA)] ++ va_pl L f) sz)) 0 0 (va_A ([(oc8 x (.ref sh) (.ref lw) (.ref ro) (.ref bq) (.ref bp) (.ref dq) (.ref dp) (.ref lv) (.ref sl) ds sd ul su), (oc7 sh (.ref fa) (nI ft)), (oq fa cF 200 FA)] ++ va_pl L f) sz) := by
  refine Met.ofW (cc := cX10_square) (maxL := 5) (ret := (some .boolean)) (by decide) rfl ?_
  intro p e s m args below meth c s₁ B hml hv
  obtain ⟨rfl, hsz, hP, hK, hD0, hXN⟩ := hv
  have hx := B.exec
  have hb := B.bytes
  have hr := B.returns
  have hts0 := atoms_spec (ws := .code yX10_square cX10_square 5 (some .boolean) :: ws0) B.pre
  have hts : ∀ w9 ∈ ws0, w9.before ([.ref x, .int (nI f0), .int ms] : List Value).toArray s = true := fun w9 h => hts0 w9 (List.mem_cons_of_mem _ h)
  have hown : s.vm.findClass "ScaleShop" = some m.cls := findClass_of_methodNamed B.named
  have hlocks := B.notSynchronized
  subst hsz
  have hD := hD0.self (sz := s.heap.size)
  clear hD0
  generalize hAe : va_A ([(oc8 x (.ref sh) (.ref lw) (.ref ro) (.ref bq) (.ref bp) (.ref dq) (.ref dp) (.ref lv) (.ref sl) ds sd ul su), (oc7 sh (.ref fa) (nI ft)), (oq fa cF 200 FA)] ++ va_pl L f) s.heap.size = A at hD ⊢
  have hA : ∀ q : Nat, s.heap.size ≤ q → A q := fun q h => by rw [← hAe]; exact Or.inr h
  clear hAe
  have hS : va_S A s.heap s.heap [] := va_S.rf
  have hP : va_P (dC, dI) classes ([(oc8 x (.ref sh) (.ref lw) (.ref ro) (.ref bq) (.ref bp) (.ref dq) (.ref dp) (.ref lv) (.ref sl) ds sd ul su), (oc7 sh (.ref fa) (nI ft)), (oq fa cF 200 FA)] ++ va_pl L f) s.heap := hP
  obtain ⟨Q9, hQ9⟩ : ∃ Q9 : State → Prop, Q9 = MQ below (zQ (some (.int 0)) (fun t => ∃ (ul1 : Int32), ∃ (su1 : Int32), va_P (dC, dI) classes ([(oc8 x (.ref sh) (.ref lw) (.ref ro) (.ref bq) (.ref bp) (.ref dq) (.ref dp) (.ref lv) (.ref sl) ds sd ul1 su1), (oc7 sh (.ref fa) (nI ft)), (oq fa cF 200 FA)] ++ va_pl L f) t.heap ∧ va_D A ([(oc8 x (.ref sh) (.ref lw) (.ref ro) (.ref bq) (.ref bp) (.ref dq) (.ref dp) (.ref lv) (.ref sl) ds sd ul1 su1), (oc7 sh (.ref fa) (nI ft)), (oq fa cF 200 FA)] ++ va_pl L f)) A) ([.ref x, .int (nI f0), .int ms] : List Value).toArray s 0 0 A := ⟨_, rfl⟩
  rw [← hQ9]
  have hl := lv_entry ([.ref x, .int (nI f0), .int ms]) (n := 5) (Nat.le_of_ble_eq_true rfl)
  rw [lg_entry_eq]
  generalize (lg_sl ([.ref x, .int (nI f0), .int ms]) ++ List.replicate (5 - (lg_sl ([.ref x, .int (nI f0), .int ms])).length) Slot.unset).toArray = ls at hl ⊢
  have hl : lv_has ls 5 [(0, .ref x), (1, .int (nI f0)), (2, .int ms)] := hl
  rcases vw2 (hvw f0 (show f0 < ft by omega)) with ⟨ht2, fe2, lk2, lo2, rk2, wd2, tw2, pa2, pb2, gb2, jt2, we2, fm2, hFA2, hfe2, hlk2⟩ | ⟨ht2, fe2, lk2, lo2, rk2, wd2, tw2, pa2, pb2, gb2, jt2, we2, fm2, r2, rx2, ry2, cap2, U2, V2, rg2, hFA2, hfe2, hlk2, ⟨hr2, hrx2, hry2, hne2⟩, hrr2⟩
  · skip
    have hc9_1 : inPl L f [(oc1 fe2 rk2 wd2 tw2 pa2 pb2 (.ref lo2) (.ref lk2) fm2), (oc4 lk2 (kd f0) (st f0) .null gb2 jt2 we2)] := ⟨hfe2, hlk2, trivial⟩
    have hD0_1 := hD
    obtain ⟨hP, hD⟩ := pl_out hP hD [(oc1 fe2 rk2 wd2 tw2 pa2 pb2 (.ref lo2) (.ref lk2) fm2), (oc4 lk2 (kd f0) (st f0) .null gb2 jt2 we2)] hc9_1 (pwF hfe2.2 hlk2.2)
    generalize hT_1 : outPl L [(oc1 fe2 rk2 wd2 tw2 pa2 pb2 (.ref lo2) (.ref lk2) fm2), (oc4 lk2 (kd f0) (st f0) .null gb2 jt2 we2)] = T_1 at hP hD
    have hP : va_P (dC, dI) classes ([(oc8 x (.ref sh) (.ref lw) (.ref ro) (.ref bq) (.ref bp) (.ref dq) (.ref dp) (.ref lv) (.ref sl) ds sd ul su), (oc7 sh (.ref fa) (nI ft)), (oq fa cF 200 FA), (oc1 fe2 rk2 wd2 tw2 pa2 pb2 (.ref lo2) (.ref lk2) fm2), (oc4 lk2 (kd f0) (st f0) .null gb2 jt2 we2)] ++ va_pl T_1 f) s.heap := hP
    have hD : va_D A ([(oc8 x (.ref sh) (.ref lw) (.ref ro) (.ref bq) (.ref bp) (.ref dq) (.ref dp) (.ref lv) (.ref sl) ds sd ul su), (oc7 sh (.ref fa) (nI ft)), (oq fa cF 200 FA), (oc1 fe2 rk2 wd2 tw2 pa2 pb2 (.ref lo2) (.ref lk2) fm2), (oc4 lk2 (kd f0) (st f0) .null gb2 jt2 we2)] ++ va_pl T_1 f) := hD
    refine lv_aload_n hx hb dX10_square_0 rfl (lv_at hl 0 rfl) ?_
    refine va_get (D := (dC, dI)) (ci := 8) (v := .ref sh) (C := RX10) (T := TX10) (N := 13) hx hb hts inX10 hown hK hP 0 rfl rfl 0 (by decide) (hts _ mw_309) (fun _ h9 => h9) rfl dX10_square_1 ?_
    refine lv_iload_n hx hb dX10_square_4 rfl (lv_at hl 1 rfl) ?_
    have hPc := hP.sub (ws' := [(oc7 sh (.ref fa) (nI ft)), (oq fa cF 200 FA)]) [1, 2] rfl
    have hDc := hD.sub (ws' := [(oc7 sh (.ref fa) (nI ft)), (oq fa cF 200 FA)]) [1, 2] (by decide) rfl
    have hFc := va_free (wc := [(oc7 sh (.ref fa) (nI ft)), (oq fa cF 200 FA)]) hD hS hA [1, 2] rfl
    refine zcall (st1 := [.ref fe2]) (va_runV (As := [.int (nI f0)]) (rest := []) ⟨hx, hb, hml, hown, hts⟩ (k_Sheet_find l dC dI cI cZ cF s.heap.size sh fa ft FA f0 fe2 (by omega) (by omega) (hFA2)) (cwV 1 hts (zz_gV mw_498 mw_499 mw_500 mw_100 mc_yX8_find) rfl rfl rfl (by decide +kernel) ⟨Nat.le_of_ble_eq_true rfl, Nat.le_of_ble_eq_true rfl⟩) (zPV2 (q0 := 0) (ci := 7) hPc hDc hK hXN rfl rfl) rfl rfl hl.1 rfl (lv_room (Nat.le_of_ble_eq_true rfl)) dX10_square_5 ⟨Nat.le_of_ble_eq_true rfl, Nat.le_of_ble_eq_true rfl⟩) hS hFc hFc rfl (fun t H1 locs ht hB hk1 hS => ?_)
    obtain ⟨hP1, hD1⟩ := hB
    rw [ht] at hP1
    obtain ⟨hP, hD⟩ := va_joinQ (wr := [(oc8 x (.ref sh) (.ref lw) (.ref ro) (.ref bq) (.ref bp) (.ref dq) (.ref dp) (.ref lv) (.ref sl) ds sd ul su), (oc1 fe2 rk2 wd2 tw2 pa2 pb2 (.ref lo2) (.ref lk2) fm2), (oc4 lk2 (kd f0) (st f0) .null gb2 jt2 we2)]) (w1 := [(oc7 sh (.ref fa) (nI ft)), (oq fa cF 200 FA)]) hP hD [1, 2] [0, 3, 4] rfl rfl (by decide) (by decide) hk1 hFc hP1 hD1
    clear hk1 hPc hDc hFc hP1 hD1 ht
    generalize H1 = H at hP hS ⊢
    have hP := hP.part (cx := [(oc8 x (.ref sh) (.ref lw) (.ref ro) (.ref bq) (.ref bp) (.ref dq) (.ref dp) (.ref lv) (.ref sl) ds sd ul su), (oc7 sh (.ref fa) (nI ft)), (oq fa cF 200 FA), (oc1 fe2 rk2 wd2 tw2 pa2 pb2 (.ref lo2) (.ref lk2) fm2), (oc4 lk2 (kd f0) (st f0) .null gb2 jt2 we2)]) [0, 3, 4, 1, 2] rfl
    have hD := hD.part (cx := [(oc8 x (.ref sh) (.ref lw) (.ref ro) (.ref bq) (.ref bp) (.ref dq) (.ref dp) (.ref lv) (.ref sl) ds sd ul su), (oc7 sh (.ref fa) (nI ft)), (oq fa cF 200 FA), (oc1 fe2 rk2 wd2 tw2 pa2 pb2 (.ref lo2) (.ref lk2) fm2), (oc4 lk2 (kd f0) (st f0) .null gb2 jt2 we2)]) [0, 3, 4, 1, 2] (by decide) rfl
    have hP : va_P (dC, dI) classes ([(oc8 x (.ref sh) (.ref lw) (.ref ro) (.ref bq) (.ref bp) (.ref dq) (.ref dp) (.ref lv) (.ref sl) ds sd ul su), (oc7 sh (.ref fa) (nI ft)), (oq fa cF 200 FA), (oc1 fe2 rk2 wd2 tw2 pa2 pb2 (.ref lo2) (.ref lk2) fm2), (oc4 lk2 (kd f0) (st f0) .null gb2 jt2 we2)] ++ va_pl T_1 f) H := hP
    have hD : va_D A ([(oc8 x (.ref sh) (.ref lw) (.ref ro) (.ref bq) (.ref bp) (.ref dq) (.ref dp) (.ref lv) (.ref sl) ds sd ul su), (oc7 sh (.ref fa) (nI ft)), (oq fa cF 200 FA), (oc1 fe2 rk2 wd2 tw2 pa2 pb2 (.ref lo2) (.ref lk2) fm2), (oc4 lk2 (kd f0) (st f0) .null gb2 jt2 we2)] ++ va_pl T_1 f) := hD
    refine lv_astore_n (lv' := [(3, .ref fe2), (0, .ref x), (1, .int (nI f0)), (2, .int ms)]) hx hb dX10_square_8 rfl hl (by decide) rfl (fun ls hl => ?_)
    refine lv_aload_n hx hb dX10_square_9 rfl (lv_at hl 0 rfl) ?_
    refine lv_ifnonnull (tgt := 19) hx hb dX10_square_10 (by decide) ?_
    refine lv_aload_n hx hb dX10_square_19 rfl (lv_at hl 0 rfl) ?_
    refine va_get (D := (dC, dI)) (ci := 1) (v := .ref lk2) (C := RX2) (T := TX2) (N := 8) hx hb hts inX2 hown hK hP 3 rfl rfl 6 (by decide) (hts _ mw_433) (fun _ h9 => h9) rfl dX10_square_20 ?_
    refine va_get (D := (dC, dI)) (ci := 4) (v := .int (st f0)) (C := RX5) (T := TX5) (N := 6) hx hb hts inX5 hown hK hP 4 rfl rfl 1 (by decide) (hts _ mw_385) (fun _ h9 => h9) rfl dX10_square_23 ?_
    refine lv_iconst (v := 1) hx hb dX10_square_26 (by decide) ?_
    refine lv_icmp_eq (tgt := 36) hx hb dX10_square_27 (by decide) (fun c_1 => ?_) (fun c_1 => ?_)
    · have c_1 : (st f0).toInt = 1 := zc_eq rfl (by decide) c_1
      refine lv_aload_n hx hb dX10_square_36 rfl (lv_at hl 0 rfl) ?_
      refine va_get (D := (dC, dI)) (ci := 1) (v := .ref lk2) (C := RX2) (T := TX2) (N := 8) hx hb hts inX2 hown hK hP 3 rfl rfl 6 (by decide) (hts _ mw_433) (fun _ h9 => h9) rfl dX10_square_37 ?_
      refine va_get (D := (dC, dI)) (ci := 4) (v := .int (kd f0)) (C := RX5) (T := TX5) (N := 6) hx hb hts inX5 hown hK hP 4 rfl rfl 0 (by decide) (hts _ mw_381) (fun _ h9 => h9) rfl dX10_square_40 ?_
      refine lv_iconst (v := 5) hx hb dX10_square_43 (by decide) ?_
      refine lv_icmp_eq (tgt := 53) hx hb dX10_square_44 (by decide) (fun c_2 => ?_) (fun c_2 => ?_)
      · have c_2 : (kd f0).toInt = 5 := zc_eq rfl (by decide) c_2
        refine lv_iload_n hx hb dX10_square_53 rfl (lv_at hl 3 rfl) ?_
        refine lv_if_ge (tgt := 63) hx hb dX10_square_54 (by decide) (fun c_3 => ?_) (fun c_3 => ?_)
        · have c_3 : 0 ≤ ms.toInt := zc_le (by decide) rfl c_3
          refine lv_aload_n hx hb dX10_square_63 rfl (lv_at hl 0 rfl) ?_
          refine va_get (D := (dC, dI)) (ci := 1) (v := .ref lk2) (C := RX2) (T := TX2) (N := 8) hx hb hts inX2 hown hK hP 3 rfl rfl 6 (by decide) (hts _ mw_433) (fun _ h9 => h9) rfl dX10_square_64 ?_
          refine va_get (D := (dC, dI)) (ci := 4) (v := .null) (C := RX5) (T := TX5) (N := 6) hx hb hts inX5 hown hK hP 4 rfl rfl 2 (by decide) (hts _ mw_391) (fun _ h9 => h9) rfl dX10_square_67 ?_
          refine lv_astoreN (lv' := [(4, .null), (3, .ref fe2), (0, .ref x), (1, .int (nI f0)), (2, .int ms)]) hx hb dX10_square_70 hl (by decide) rfl (fun ls hl => ?_)
          refine lv_aloadN hx hb dX10_square_72 (lv_at hl 0 rfl) ?_
          refine lv_ifnonnullN hx hb dX10_square_74 ?_
          refine lv_aload_n hx hb dX10_square_77 rfl (lv_at hl 2 rfl) ?_
          refine lv_iconst (v := 5) hx hb dX10_square_78 (by decide) ?_
          have hPc := hP.sub (ws' := [(oc8 x (.ref sh) (.ref lw) (.ref ro) (.ref bq) (.ref bp) (.ref dq) (.ref dp) (.ref lv) (.ref sl) ds sd ul su)]) [0] rfl
          have hDc := hD.sub (ws' := [(oc8 x (.ref sh) (.ref lw) (.ref ro) (.ref bq) (.ref bp) (.ref dq) (.ref dp) (.ref lv) (.ref sl) ds sd ul su)]) [0] (by decide) rfl
          have hFc := va_free (wc := [(oc8 x (.ref sh) (.ref lw) (.ref ro) (.ref bq) (.ref bp) (.ref dq) (.ref dp) (.ref lv) (.ref sl) ds sd ul su)]) hD hS hA [0] rfl
          refine zcall (st1 := [.int 0]) (va_runV (As := [.int 5]) (rest := []) ⟨hx, hb, hml, hown, hts⟩ (k_deny_5 l dC dI cI cZ cF H.size x sh lw ro bq bp dq dp lv sl sd ul su ds ) (cwV 1 hts (zz_gV mw_513 mw_515 mw_4 mw_99 mc_yX10_deny) rfl rfl rfl (by decide +kernel) ⟨Nat.le_of_ble_eq_true rfl, Nat.le_of_ble_eq_true rfl⟩) (zPV2 (q0 := 0) (ci := 8) hPc hDc hK hXN rfl rfl) rfl rfl hl.1 rfl (lv_room (Nat.le_of_ble_eq_true rfl)) dX10_square_79 ⟨Nat.le_of_ble_eq_true rfl, Nat.le_of_ble_eq_true rfl⟩) hS hFc hFc rfl (fun t H1 locs ht hB hk1 hS => ?_)
          obtain ⟨hP1, hD1⟩ := hB
          rw [ht] at hP1
          obtain ⟨hP, hD⟩ := va_joinQ (wr := [(oc7 sh (.ref fa) (nI ft)), (oq fa cF 200 FA), (oc1 fe2 rk2 wd2 tw2 pa2 pb2 (.ref lo2) (.ref lk2) fm2), (oc4 lk2 (kd f0) (st f0) .null gb2 jt2 we2)]) (w1 := [(oc8 x (.ref sh) (.ref lw) (.ref ro) (.ref bq) (.ref bp) (.ref dq) (.ref dp) (.ref lv) (.ref sl) ds sd ul 5)]) hP hD [0] [1, 2, 3, 4] rfl rfl (by decide) (by decide) hk1 hFc hP1 hD1
          clear hk1 hPc hDc hFc hP1 hD1 ht
          generalize H1 = H at hP hS ⊢
          have hP := hP.part (cx := [(oc8 x (.ref sh) (.ref lw) (.ref ro) (.ref bq) (.ref bp) (.ref dq) (.ref dp) (.ref lv) (.ref sl) ds sd ul 5), (oc7 sh (.ref fa) (nI ft)), (oq fa cF 200 FA), (oc1 fe2 rk2 wd2 tw2 pa2 pb2 (.ref lo2) (.ref lk2) fm2), (oc4 lk2 (kd f0) (st f0) .null gb2 jt2 we2)]) [4, 0, 1, 2, 3] rfl
          have hD := hD.part (cx := [(oc8 x (.ref sh) (.ref lw) (.ref ro) (.ref bq) (.ref bp) (.ref dq) (.ref dp) (.ref lv) (.ref sl) ds sd ul 5), (oc7 sh (.ref fa) (nI ft)), (oq fa cF 200 FA), (oc1 fe2 rk2 wd2 tw2 pa2 pb2 (.ref lo2) (.ref lk2) fm2), (oc4 lk2 (kd f0) (st f0) .null gb2 jt2 we2)]) [4, 0, 1, 2, 3] (by decide) rfl
          have hP : va_P (dC, dI) classes ([(oc8 x (.ref sh) (.ref lw) (.ref ro) (.ref bq) (.ref bp) (.ref dq) (.ref dp) (.ref lv) (.ref sl) ds sd ul 5), (oc7 sh (.ref fa) (nI ft)), (oq fa cF 200 FA), (oc1 fe2 rk2 wd2 tw2 pa2 pb2 (.ref lo2) (.ref lk2) fm2), (oc4 lk2 (kd f0) (st f0) .null gb2 jt2 we2)] ++ va_pl T_1 f) H := hP
          have hD : va_D A ([(oc8 x (.ref sh) (.ref lw) (.ref ro) (.ref bq) (.ref bp) (.ref dq) (.ref dp) (.ref lv) (.ref sl) ds sd ul 5), (oc7 sh (.ref fa) (nI ft)), (oq fa cF 200 FA), (oc1 fe2 rk2 wd2 tw2 pa2 pb2 (.ref lo2) (.ref lk2) fm2), (oc4 lk2 (kd f0) (st f0) .null gb2 jt2 we2)] ++ va_pl T_1 f) := hD
          have hP := pl_back (cs := [(oc1 fe2 rk2 wd2 tw2 pa2 pb2 (.ref lo2) (.ref lk2) fm2), (oc4 lk2 (kd f0) (st f0) .null gb2 jt2 we2)]) (L := L) (f := f) (X := [(oc8 x (.ref sh) (.ref lw) (.ref ro) (.ref bq) (.ref bp) (.ref dq) (.ref dp) (.ref lv) (.ref sl) ds sd ul 5), (oc7 sh (.ref fa) (nI ft)), (oq fa cF 200 FA)]) (by rw [hT_1]; exact (show va_P (dC, dI) classes (([(oc8 x (.ref sh) (.ref lw) (.ref ro) (.ref bq) (.ref bp) (.ref dq) (.ref dp) (.ref lv) (.ref sl) ds sd ul 5), (oc7 sh (.ref fa) (nI ft)), (oq fa cF 200 FA)] ++ [(oc1 fe2 rk2 wd2 tw2 pa2 pb2 (.ref lo2) (.ref lk2) fm2), (oc4 lk2 (kd f0) (st f0) .null gb2 jt2 we2)]) ++ va_pl T_1 f) H from hP)) hc9_1
          have hD : va_D A ([(oc8 x (.ref sh) (.ref lw) (.ref ro) (.ref bq) (.ref bp) (.ref dq) (.ref dp) (.ref lv) (.ref sl) ds sd ul 5), (oc7 sh (.ref fa) (nI ft)), (oq fa cF 200 FA)] ++ va_pl L f) := vaD_ae hD0_1 rfl
          have hP9 := hP.part (cx := [(oc8 x (.ref sh) (.ref lw) (.ref ro) (.ref bq) (.ref bp) (.ref dq) (.ref dp) (.ref lv) (.ref sl) ds sd ul 5), (oc7 sh (.ref fa) (nI ft)), (oq fa cF 200 FA)]) [0, 1, 2] rfl
          have hD9 := hD.part (cx := [(oc8 x (.ref sh) (.ref lw) (.ref ro) (.ref bq) (.ref bp) (.ref dq) (.ref dp) (.ref lv) (.ref sl) ds sd ul 5), (oc7 sh (.ref fa) (nI ft)), (oq fa cF 200 FA)]) [0, 1, 2] (by decide) rfl
          rw [hQ9]
          exact W.zret (ty := .boolean) (v := 0) hx hb hr (rfl) (fun t ht hW => ⟨⟨rfl, ul, 5, by rw [ht]; exact hP9, hD9⟩, hS.F ht⟩) hS.2.2 dX10_square_82
        · have c_3 : ms.toInt < 0 := zc_nle (by decide) rfl c_3
          refine lv_aload_n hx hb dX10_square_57 rfl (lv_at hl 1 rfl) ?_
          refine lv_iconst (v := 4) hx hb dX10_square_58 (by decide) ?_
          have hPc := hP.sub (ws' := [(oc8 x (.ref sh) (.ref lw) (.ref ro) (.ref bq) (.ref bp) (.ref dq) (.ref dp) (.ref lv) (.ref sl) ds sd ul su)]) [0] rfl
          have hDc := hD.sub (ws' := [(oc8 x (.ref sh) (.ref lw) (.ref ro) (.ref bq) (.ref bp) (.ref dq) (.ref dp) (.ref lv) (.ref sl) ds sd ul su)]) [0] (by decide) rfl
          have hFc := va_free (wc := [(oc8 x (.ref sh) (.ref lw) (.ref ro) (.ref bq) (.ref bp) (.ref dq) (.ref dp) (.ref lv) (.ref sl) ds sd ul su)]) hD hS hA [0] rfl
          refine zcall (st1 := [.int 0]) (va_runV (As := [.int 4]) (rest := []) ⟨hx, hb, hml, hown, hts⟩ (k_deny_4 l dC dI cI cZ cF H.size x sh lw ro bq bp dq dp lv sl sd ul su ds ) (cwV 1 hts (zz_gV mw_513 mw_515 mw_4 mw_99 mc_yX10_deny) rfl rfl rfl (by decide +kernel) ⟨Nat.le_of_ble_eq_true rfl, Nat.le_of_ble_eq_true rfl⟩) (zPV2 (q0 := 0) (ci := 8) hPc hDc hK hXN rfl rfl) rfl rfl hl.1 rfl (lv_room (Nat.le_of_ble_eq_true rfl)) dX10_square_59 ⟨Nat.le_of_ble_eq_true rfl, Nat.le_of_ble_eq_true rfl⟩) hS hFc hFc rfl (fun t H1 locs ht hB hk1 hS => ?_)
          obtain ⟨hP1, hD1⟩ := hB
          rw [ht] at hP1
          obtain ⟨hP, hD⟩ := va_joinQ (wr := [(oc7 sh (.ref fa) (nI ft)), (oq fa cF 200 FA), (oc1 fe2 rk2 wd2 tw2 pa2 pb2 (.ref lo2) (.ref lk2) fm2), (oc4 lk2 (kd f0) (st f0) .null gb2 jt2 we2)]) (w1 := [(oc8 x (.ref sh) (.ref lw) (.ref ro) (.ref bq) (.ref bp) (.ref dq) (.ref dp) (.ref lv) (.ref sl) ds sd ul 4)]) hP hD [0] [1, 2, 3, 4] rfl rfl (by decide) (by decide) hk1 hFc hP1 hD1
          clear hk1 hPc hDc hFc hP1 hD1 ht
          generalize H1 = H at hP hS ⊢
          have hP := hP.part (cx := [(oc8 x (.ref sh) (.ref lw) (.ref ro) (.ref bq) (.ref bp) (.ref dq) (.ref dp) (.ref lv) (.ref sl) ds sd ul 4), (oc7 sh (.ref fa) (nI ft)), (oq fa cF 200 FA), (oc1 fe2 rk2 wd2 tw2 pa2 pb2 (.ref lo2) (.ref lk2) fm2), (oc4 lk2 (kd f0) (st f0) .null gb2 jt2 we2)]) [4, 0, 1, 2, 3] rfl
          have hD := hD.part (cx := [(oc8 x (.ref sh) (.ref lw) (.ref ro) (.ref bq) (.ref bp) (.ref dq) (.ref dp) (.ref lv) (.ref sl) ds sd ul 4), (oc7 sh (.ref fa) (nI ft)), (oq fa cF 200 FA), (oc1 fe2 rk2 wd2 tw2 pa2 pb2 (.ref lo2) (.ref lk2) fm2), (oc4 lk2 (kd f0) (st f0) .null gb2 jt2 we2)]) [4, 0, 1, 2, 3] (by decide) rfl
          have hP : va_P (dC, dI) classes ([(oc8 x (.ref sh) (.ref lw) (.ref ro) (.ref bq) (.ref bp) (.ref dq) (.ref dp) (.ref lv) (.ref sl) ds sd ul 4), (oc7 sh (.ref fa) (nI ft)), (oq fa cF 200 FA), (oc1 fe2 rk2 wd2 tw2 pa2 pb2 (.ref lo2) (.ref lk2) fm2), (oc4 lk2 (kd f0) (st f0) .null gb2 jt2 we2)] ++ va_pl T_1 f) H := hP
          have hD : va_D A ([(oc8 x (.ref sh) (.ref lw) (.ref ro) (.ref bq) (.ref bp) (.ref dq) (.ref dp) (.ref lv) (.ref sl) ds sd ul 4), (oc7 sh (.ref fa) (nI ft)), (oq fa cF 200 FA), (oc1 fe2 rk2 wd2 tw2 pa2 pb2 (.ref lo2) (.ref lk2) fm2), (oc4 lk2 (kd f0) (st f0) .null gb2 jt2 we2)] ++ va_pl T_1 f) := hD
          have hP := pl_back (cs := [(oc1 fe2 rk2 wd2 tw2 pa2 pb2 (.ref lo2) (.ref lk2) fm2), (oc4 lk2 (kd f0) (st f0) .null gb2 jt2 we2)]) (L := L) (f := f) (X := [(oc8 x (.ref sh) (.ref lw) (.ref ro) (.ref bq) (.ref bp) (.ref dq) (.ref dp) (.ref lv) (.ref sl) ds sd ul 4), (oc7 sh (.ref fa) (nI ft)), (oq fa cF 200 FA)]) (by rw [hT_1]; exact (show va_P (dC, dI) classes (([(oc8 x (.ref sh) (.ref lw) (.ref ro) (.ref bq) (.ref bp) (.ref dq) (.ref dp) (.ref lv) (.ref sl) ds sd ul 4), (oc7 sh (.ref fa) (nI ft)), (oq fa cF 200 FA)] ++ [(oc1 fe2 rk2 wd2 tw2 pa2 pb2 (.ref lo2) (.ref lk2) fm2), (oc4 lk2 (kd f0) (st f0) .null gb2 jt2 we2)]) ++ va_pl T_1 f) H from hP)) hc9_1
          have hD : va_D A ([(oc8 x (.ref sh) (.ref lw) (.ref ro) (.ref bq) (.ref bp) (.ref dq) (.ref dp) (.ref lv) (.ref sl) ds sd ul 4), (oc7 sh (.ref fa) (nI ft)), (oq fa cF 200 FA)] ++ va_pl L f) := vaD_ae hD0_1 rfl
          have hP9 := hP.part (cx := [(oc8 x (.ref sh) (.ref lw) (.ref ro) (.ref bq) (.ref bp) (.ref dq) (.ref dp) (.ref lv) (.ref sl) ds sd ul 4), (oc7 sh (.ref fa) (nI ft)), (oq fa cF 200 FA)]) [0, 1, 2] rfl
          have hD9 := hD.part (cx := [(oc8 x (.ref sh) (.ref lw) (.ref ro) (.ref bq) (.ref bp) (.ref dq) (.ref dp) (.ref lv) (.ref sl) ds sd ul 4), (oc7 sh (.ref fa) (nI ft)), (oq fa cF 200 FA)]) [0, 1, 2] (by decide) rfl
          rw [hQ9]
          exact W.zret (ty := .boolean) (v := 0) hx hb hr (rfl) (fun t ht hW => ⟨⟨rfl, ul, 4, by rw [ht]; exact hP9, hD9⟩, hS.F ht⟩) hS.2.2 dX10_square_62
      · have c_2 : ¬ (kd f0).toInt = 5 := zc_ne rfl (by decide) c_2
        refine lv_aload_n hx hb dX10_square_47 rfl (lv_at hl 1 rfl) ?_
        refine lv_iconst (v := 3) hx hb dX10_square_48 (by decide) ?_
        have hPc := hP.sub (ws' := [(oc8 x (.ref sh) (.ref lw) (.ref ro) (.ref bq) (.ref bp) (.ref dq) (.ref dp) (.ref lv) (.ref sl) ds sd ul su)]) [0] rfl
        have hDc := hD.sub (ws' := [(oc8 x (.ref sh) (.ref lw) (.ref ro) (.ref bq) (.ref bp) (.ref dq) (.ref dp) (.ref lv) (.ref sl) ds sd ul su)]) [0] (by decide) rfl
        have hFc := va_free (wc := [(oc8 x (.ref sh) (.ref lw) (.ref ro) (.ref bq) (.ref bp) (.ref dq) (.ref dp) (.ref lv) (.ref sl) ds sd ul su)]) hD hS hA [0] rfl
        refine zcall (st1 := [.int 0]) (va_runV (As := [.int 3]) (rest := []) ⟨hx, hb, hml, hown, hts⟩ (k_deny_3 l dC dI cI cZ cF H.size x sh lw ro bq bp dq dp lv sl sd ul su ds ) (cwV 1 hts (zz_gV mw_513 mw_515 mw_4 mw_99 mc_yX10_deny) rfl rfl rfl (by decide +kernel) ⟨Nat.le_of_ble_eq_true rfl, Nat.le_of_ble_eq_true rfl⟩) (zPV2 (q0 := 0) (ci := 8) hPc hDc hK hXN rfl rfl) rfl rfl hl.1 rfl (lv_room (Nat.le_of_ble_eq_true rfl)) dX10_square_49 ⟨Nat.le_of_ble_eq_true rfl, Nat.le_of_ble_eq_true rfl⟩) hS hFc hFc rfl (fun t H1 locs ht hB hk1 hS => ?_)
        obtain ⟨hP1, hD1⟩ := hB
        rw [ht] at hP1
        obtain ⟨hP, hD⟩ := va_joinQ (wr := [(oc7 sh (.ref fa) (nI ft)), (oq fa cF 200 FA), (oc1 fe2 rk2 wd2 tw2 pa2 pb2 (.ref lo2) (.ref lk2) fm2), (oc4 lk2 (kd f0) (st f0) .null gb2 jt2 we2)]) (w1 := [(oc8 x (.ref sh) (.ref lw) (.ref ro) (.ref bq) (.ref bp) (.ref dq) (.ref dp) (.ref lv) (.ref sl) ds sd ul 3)]) hP hD [0] [1, 2, 3, 4] rfl rfl (by decide) (by decide) hk1 hFc hP1 hD1
        clear hk1 hPc hDc hFc hP1 hD1 ht
        generalize H1 = H at hP hS ⊢
        have hP := hP.part (cx := [(oc8 x (.ref sh) (.ref lw) (.ref ro) (.ref bq) (.ref bp) (.ref dq) (.ref dp) (.ref lv) (.ref sl) ds sd ul 3), (oc7 sh (.ref fa) (nI ft)), (oq fa cF 200 FA), (oc1 fe2 rk2 wd2 tw2 pa2 pb2 (.ref lo2) (.ref lk2) fm2), (oc4 lk2 (kd f0) (st f0) .null gb2 jt2 we2)]) [4, 0, 1, 2, 3] rfl
        have hD := hD.part (cx := [(oc8 x (.ref sh) (.ref lw) (.ref ro) (.ref bq) (.ref bp) (.ref dq) (.ref dp) (.ref lv) (.ref sl) ds sd ul 3), (oc7 sh (.ref fa) (nI ft)), (oq fa cF 200 FA), (oc1 fe2 rk2 wd2 tw2 pa2 pb2 (.ref lo2) (.ref lk2) fm2), (oc4 lk2 (kd f0) (st f0) .null gb2 jt2 we2)]) [4, 0, 1, 2, 3] (by decide) rfl
        have hP : va_P (dC, dI) classes ([(oc8 x (.ref sh) (.ref lw) (.ref ro) (.ref bq) (.ref bp) (.ref dq) (.ref dp) (.ref lv) (.ref sl) ds sd ul 3), (oc7 sh (.ref fa) (nI ft)), (oq fa cF 200 FA), (oc1 fe2 rk2 wd2 tw2 pa2 pb2 (.ref lo2) (.ref lk2) fm2), (oc4 lk2 (kd f0) (st f0) .null gb2 jt2 we2)] ++ va_pl T_1 f) H := hP
        have hD : va_D A ([(oc8 x (.ref sh) (.ref lw) (.ref ro) (.ref bq) (.ref bp) (.ref dq) (.ref dp) (.ref lv) (.ref sl) ds sd ul 3), (oc7 sh (.ref fa) (nI ft)), (oq fa cF 200 FA), (oc1 fe2 rk2 wd2 tw2 pa2 pb2 (.ref lo2) (.ref lk2) fm2), (oc4 lk2 (kd f0) (st f0) .null gb2 jt2 we2)] ++ va_pl T_1 f) := hD
        have hP := pl_back (cs := [(oc1 fe2 rk2 wd2 tw2 pa2 pb2 (.ref lo2) (.ref lk2) fm2), (oc4 lk2 (kd f0) (st f0) .null gb2 jt2 we2)]) (L := L) (f := f) (X := [(oc8 x (.ref sh) (.ref lw) (.ref ro) (.ref bq) (.ref bp) (.ref dq) (.ref dp) (.ref lv) (.ref sl) ds sd ul 3), (oc7 sh (.ref fa) (nI ft)), (oq fa cF 200 FA)]) (by rw [hT_1]; exact (show va_P (dC, dI) classes (([(oc8 x (.ref sh) (.ref lw) (.ref ro) (.ref bq) (.ref bp) (.ref dq) (.ref dp) (.ref lv) (.ref sl) ds sd ul 3), (oc7 sh (.ref fa) (nI ft)), (oq fa cF 200 FA)] ++ [(oc1 fe2 rk2 wd2 tw2 pa2 pb2 (.ref lo2) (.ref lk2) fm2), (oc4 lk2 (kd f0) (st f0) .null gb2 jt2 we2)]) ++ va_pl T_1 f) H from hP)) hc9_1
        have hD : va_D A ([(oc8 x (.ref sh) (.ref lw) (.ref ro) (.ref bq) (.ref bp) (.ref dq) (.ref dp) (.ref lv) (.ref sl) ds sd ul 3), (oc7 sh (.ref fa) (nI ft)), (oq fa cF 200 FA)] ++ va_pl L f) := vaD_ae hD0_1 rfl
        have hP9 := hP.part (cx := [(oc8 x (.ref sh) (.ref lw) (.ref ro) (.ref bq) (.ref bp) (.ref dq) (.ref dp) (.ref lv) (.ref sl) ds sd ul 3), (oc7 sh (.ref fa) (nI ft)), (oq fa cF 200 FA)]) [0, 1, 2] rfl
        have hD9 := hD.part (cx := [(oc8 x (.ref sh) (.ref lw) (.ref ro) (.ref bq) (.ref bp) (.ref dq) (.ref dp) (.ref lv) (.ref sl) ds sd ul 3), (oc7 sh (.ref fa) (nI ft)), (oq fa cF 200 FA)]) [0, 1, 2] (by decide) rfl
        rw [hQ9]
        exact W.zret (ty := .boolean) (v := 0) hx hb hr (rfl) (fun t ht hW => ⟨⟨rfl, ul, 3, by rw [ht]; exact hP9, hD9⟩, hS.F ht⟩) hS.2.2 dX10_square_52
    · have c_1 : ¬ (st f0).toInt = 1 := zc_ne rfl (by decide) c_1
      refine lv_aload_n hx hb dX10_square_30 rfl (lv_at hl 1 rfl) ?_
      refine lv_iconst (v := 2) hx hb dX10_square_31 (by decide) ?_
      have hPc := hP.sub (ws' := [(oc8 x (.ref sh) (.ref lw) (.ref ro) (.ref bq) (.ref bp) (.ref dq) (.ref dp) (.ref lv) (.ref sl) ds sd ul su)]) [0] rfl
      have hDc := hD.sub (ws' := [(oc8 x (.ref sh) (.ref lw) (.ref ro) (.ref bq) (.ref bp) (.ref dq) (.ref dp) (.ref lv) (.ref sl) ds sd ul su)]) [0] (by decide) rfl
      have hFc := va_free (wc := [(oc8 x (.ref sh) (.ref lw) (.ref ro) (.ref bq) (.ref bp) (.ref dq) (.ref dp) (.ref lv) (.ref sl) ds sd ul su)]) hD hS hA [0] rfl
      refine zcall (st1 := [.int 0]) (va_runV (As := [.int 2]) (rest := []) ⟨hx, hb, hml, hown, hts⟩ (k_deny_2 l dC dI cI cZ cF H.size x sh lw ro bq bp dq dp lv sl sd ul su ds ) (cwV 1 hts (zz_gV mw_513 mw_515 mw_4 mw_99 mc_yX10_deny) rfl rfl rfl (by decide +kernel) ⟨Nat.le_of_ble_eq_true rfl, Nat.le_of_ble_eq_true rfl⟩) (zPV2 (q0 := 0) (ci := 8) hPc hDc hK hXN rfl rfl) rfl rfl hl.1 rfl (lv_room (Nat.le_of_ble_eq_true rfl)) dX10_square_32 ⟨Nat.le_of_ble_eq_true rfl, Nat.le_of_ble_eq_true rfl⟩) hS hFc hFc rfl (fun t H1 locs ht hB hk1 hS => ?_)
      obtain ⟨hP1, hD1⟩ := hB
      rw [ht] at hP1
      obtain ⟨hP, hD⟩ := va_joinQ (wr := [(oc7 sh (.ref fa) (nI ft)), (oq fa cF 200 FA), (oc1 fe2 rk2 wd2 tw2 pa2 pb2 (.ref lo2) (.ref lk2) fm2), (oc4 lk2 (kd f0) (st f0) .null gb2 jt2 we2)]) (w1 := [(oc8 x (.ref sh) (.ref lw) (.ref ro) (.ref bq) (.ref bp) (.ref dq) (.ref dp) (.ref lv) (.ref sl) ds sd ul 2)]) hP hD [0] [1, 2, 3, 4] rfl rfl (by decide) (by decide) hk1 hFc hP1 hD1
      clear hk1 hPc hDc hFc hP1 hD1 ht
      generalize H1 = H at hP hS ⊢
      have hP := hP.part (cx := [(oc8 x (.ref sh) (.ref lw) (.ref ro) (.ref bq) (.ref bp) (.ref dq) (.ref dp) (.ref lv) (.ref sl) ds sd ul 2), (oc7 sh (.ref fa) (nI ft)), (oq fa cF 200 FA), (oc1 fe2 rk2 wd2 tw2 pa2 pb2 (.ref lo2) (.ref lk2) fm2), (oc4 lk2 (kd f0) (st f0) .null gb2 jt2 we2)]) [4, 0, 1, 2, 3] rfl
      have hD := hD.part (cx := [(oc8 x (.ref sh) (.ref lw) (.ref ro) (.ref bq) (.ref bp) (.ref dq) (.ref dp) (.ref lv) (.ref sl) ds sd ul 2), (oc7 sh (.ref fa) (nI ft)), (oq fa cF 200 FA), (oc1 fe2 rk2 wd2 tw2 pa2 pb2 (.ref lo2) (.ref lk2) fm2), (oc4 lk2 (kd f0) (st f0) .null gb2 jt2 we2)]) [4, 0, 1, 2, 3] (by decide) rfl
      have hP : va_P (dC, dI) classes ([(oc8 x (.ref sh) (.ref lw) (.ref ro) (.ref bq) (.ref bp) (.ref dq) (.ref dp) (.ref lv) (.ref sl) ds sd ul 2), (oc7 sh (.ref fa) (nI ft)), (oq fa cF 200 FA), (oc1 fe2 rk2 wd2 tw2 pa2 pb2 (.ref lo2) (.ref lk2) fm2), (oc4 lk2 (kd f0) (st f0) .null gb2 jt2 we2)] ++ va_pl T_1 f) H := hP
      have hD : va_D A ([(oc8 x (.ref sh) (.ref lw) (.ref ro) (.ref bq) (.ref bp) (.ref dq) (.ref dp) (.ref lv) (.ref sl) ds sd ul 2), (oc7 sh (.ref fa) (nI ft)), (oq fa cF 200 FA), (oc1 fe2 rk2 wd2 tw2 pa2 pb2 (.ref lo2) (.ref lk2) fm2), (oc4 lk2 (kd f0) (st f0) .null gb2 jt2 we2)] ++ va_pl T_1 f) := hD
      have hP := pl_back (cs := [(oc1 fe2 rk2 wd2 tw2 pa2 pb2 (.ref lo2) (.ref lk2) fm2), (oc4 lk2 (kd f0) (st f0) .null gb2 jt2 we2)]) (L := L) (f := f) (X := [(oc8 x (.ref sh) (.ref lw) (.ref ro) (.ref bq) (.ref bp) (.ref dq) (.ref dp) (.ref lv) (.ref sl) ds sd ul 2), (oc7 sh (.ref fa) (nI ft)), (oq fa cF 200 FA)]) (by rw [hT_1]; exact (show va_P (dC, dI) classes (([(oc8 x (.ref sh) (.ref lw) (.ref ro) (.ref bq) (.ref bp) (.ref dq) (.ref dp) (.ref lv) (.ref sl) ds sd ul 2), (oc7 sh (.ref fa) (nI ft)), (oq fa cF 200 FA)] ++ [(oc1 fe2 rk2 wd2 tw2 pa2 pb2 (.ref lo2) (.ref lk2) fm2), (oc4 lk2 (kd f0) (st f0) .null gb2 jt2 we2)]) ++ va_pl T_1 f) H from hP)) hc9_1
      have hD : va_D A ([(oc8 x (.ref sh) (.ref lw) (.ref ro) (.ref bq) (.ref bp) (.ref dq) (.ref dp) (.ref lv) (.ref sl) ds sd ul 2), (oc7 sh (.ref fa) (nI ft)), (oq fa cF 200 FA)] ++ va_pl L f) := vaD_ae hD0_1 rfl
      have hP9 := hP.part (cx := [(oc8 x (.ref sh) (.ref lw) (.ref ro) (.ref bq) (.ref bp) (.ref dq) (.ref dp) (.ref lv) (.ref sl) ds sd ul 2), (oc7 sh (.ref fa) (nI ft)), (oq fa cF 200 FA)]) [0, 1, 2] rfl
      have hD9 := hD.part (cx := [(oc8 x (.ref sh) (.ref lw) (.ref ro) (.ref bq) (.ref bp) (.ref dq) (.ref dp) (.ref lv) (.ref sl) ds sd ul 2), (oc7 sh (.ref fa) (nI ft)), (oq fa cF 200 FA)]) [0, 1, 2] (by decide) rfl
      rw [hQ9]
      exact W.zret (ty := .boolean) (v := 0) hx hb hr (rfl) (fun t ht hW => ⟨⟨rfl, ul, 2, by rw [ht]; exact hP9, hD9⟩, hS.F ht⟩) hS.2.2 dX10_square_35
  · skip
    have hcap2 := hrr2.1
    have hcap3 := hrr2.2.1
    have hc9_1 : inPl L f [(oc1 fe2 rk2 wd2 tw2 pa2 pb2 (.ref lo2) (.ref lk2) fm2), (oc4 lk2 (kd f0) (st f0) (.ref r2) gb2 jt2 we2), (oc6 r2 (.ref rx2) (.ref ry2) (nI (nN (mn f0))) rg2), (oa rx2 cI cap2 U2), (oa ry2 cI cap2 V2)] := ⟨hfe2, hlk2, hr2, hrx2, hry2, trivial⟩
    have hD0_1 := hD
    obtain ⟨hP, hD⟩ := pl_out hP hD [(oc1 fe2 rk2 wd2 tw2 pa2 pb2 (.ref lo2) (.ref lk2) fm2), (oc4 lk2 (kd f0) (st f0) (.ref r2) gb2 jt2 we2), (oc6 r2 (.ref rx2) (.ref ry2) (nI (nN (mn f0))) rg2), (oa rx2 cI cap2 U2), (oa ry2 cI cap2 V2)] hc9_1 (pwR hfe2.2 hlk2.2 hr2.2 hrx2.2 hry2.2 hne2)
    generalize hT_1 : outPl L [(oc1 fe2 rk2 wd2 tw2 pa2 pb2 (.ref lo2) (.ref lk2) fm2), (oc4 lk2 (kd f0) (st f0) (.ref r2) gb2 jt2 we2), (oc6 r2 (.ref rx2) (.ref ry2) (nI (nN (mn f0))) rg2), (oa rx2 cI cap2 U2), (oa ry2 cI cap2 V2)] = T_1 at hP hD
    have hP : va_P (dC, dI) classes ([(oc8 x (.ref sh) (.ref lw) (.ref ro) (.ref bq) (.ref bp) (.ref dq) (.ref dp) (.ref lv) (.ref sl) ds sd ul su), (oc7 sh (.ref fa) (nI ft)), (oq fa cF 200 FA), (oc1 fe2 rk2 wd2 tw2 pa2 pb2 (.ref lo2) (.ref lk2) fm2), (oc4 lk2 (kd f0) (st f0) (.ref r2) gb2 jt2 we2), (oc6 r2 (.ref rx2) (.ref ry2) (nI (nN (mn f0))) rg2), (oa rx2 cI cap2 U2), (oa ry2 cI cap2 V2)] ++ va_pl T_1 f) s.heap := hP
    have hD : va_D A ([(oc8 x (.ref sh) (.ref lw) (.ref ro) (.ref bq) (.ref bp) (.ref dq) (.ref dp) (.ref lv) (.ref sl) ds sd ul su), (oc7 sh (.ref fa) (nI ft)), (oq fa cF 200 FA), (oc1 fe2 rk2 wd2 tw2 pa2 pb2 (.ref lo2) (.ref lk2) fm2), (oc4 lk2 (kd f0) (st f0) (.ref r2) gb2 jt2 we2), (oc6 r2 (.ref rx2) (.ref ry2) (nI (nN (mn f0))) rg2), (oa rx2 cI cap2 U2), (oa ry2 cI cap2 V2)] ++ va_pl T_1 f) := hD
    refine lv_aload_n hx hb dX10_square_0 rfl (lv_at hl 0 rfl) ?_
    refine va_get (D := (dC, dI)) (ci := 8) (v := .ref sh) (C := RX10) (T := TX10) (N := 13) hx hb hts inX10 hown hK hP 0 rfl rfl 0 (by decide) (hts _ mw_309) (fun _ h9 => h9) rfl dX10_square_1 ?_
    refine lv_iload_n hx hb dX10_square_4 rfl (lv_at hl 1 rfl) ?_
    have hPc := hP.sub (ws' := [(oc7 sh (.ref fa) (nI ft)), (oq fa cF 200 FA)]) [1, 2] rfl
    have hDc := hD.sub (ws' := [(oc7 sh (.ref fa) (nI ft)), (oq fa cF 200 FA)]) [1, 2] (by decide) rfl
    have hFc := va_free (wc := [(oc7 sh (.ref fa) (nI ft)), (oq fa cF 200 FA)]) hD hS hA [1, 2] rfl
    refine zcall (st1 := [.ref fe2]) (va_runV (As := [.int (nI f0)]) (rest := []) ⟨hx, hb, hml, hown, hts⟩ (k_Sheet_find l dC dI cI cZ cF s.heap.size sh fa ft FA f0 fe2 (by omega) (by omega) (hFA2)) (cwV 1 hts (zz_gV mw_498 mw_499 mw_500 mw_100 mc_yX8_find) rfl rfl rfl (by decide +kernel) ⟨Nat.le_of_ble_eq_true rfl, Nat.le_of_ble_eq_true rfl⟩) (zPV2 (q0 := 0) (ci := 7) hPc hDc hK hXN rfl rfl) rfl rfl hl.1 rfl (lv_room (Nat.le_of_ble_eq_true rfl)) dX10_square_5 ⟨Nat.le_of_ble_eq_true rfl, Nat.le_of_ble_eq_true rfl⟩) hS hFc hFc rfl (fun t H1 locs ht hB hk1 hS => ?_)
    obtain ⟨hP1, hD1⟩ := hB
    rw [ht] at hP1
    obtain ⟨hP, hD⟩ := va_joinQ (wr := [(oc8 x (.ref sh) (.ref lw) (.ref ro) (.ref bq) (.ref bp) (.ref dq) (.ref dp) (.ref lv) (.ref sl) ds sd ul su), (oc1 fe2 rk2 wd2 tw2 pa2 pb2 (.ref lo2) (.ref lk2) fm2), (oc4 lk2 (kd f0) (st f0) (.ref r2) gb2 jt2 we2), (oc6 r2 (.ref rx2) (.ref ry2) (nI (nN (mn f0))) rg2), (oa rx2 cI cap2 U2), (oa ry2 cI cap2 V2)]) (w1 := [(oc7 sh (.ref fa) (nI ft)), (oq fa cF 200 FA)]) hP hD [1, 2] [0, 3, 4, 5, 6, 7] rfl rfl (by decide) (by decide) hk1 hFc hP1 hD1
    clear hk1 hPc hDc hFc hP1 hD1 ht
    generalize H1 = H at hP hS ⊢
    have hP := hP.part (cx := [(oc8 x (.ref sh) (.ref lw) (.ref ro) (.ref bq) (.ref bp) (.ref dq) (.ref dp) (.ref lv) (.ref sl) ds sd ul su), (oc7 sh (.ref fa) (nI ft)), (oq fa cF 200 FA), (oc1 fe2 rk2 wd2 tw2 pa2 pb2 (.ref lo2) (.ref lk2) fm2), (oc4 lk2 (kd f0) (st f0) (.ref r2) gb2 jt2 we2), (oc6 r2 (.ref rx2) (.ref ry2) (nI (nN (mn f0))) rg2), (oa rx2 cI cap2 U2), (oa ry2 cI cap2 V2)]) [0, 6, 7, 1, 2, 3, 4, 5] rfl
    have hD := hD.part (cx := [(oc8 x (.ref sh) (.ref lw) (.ref ro) (.ref bq) (.ref bp) (.ref dq) (.ref dp) (.ref lv) (.ref sl) ds sd ul su), (oc7 sh (.ref fa) (nI ft)), (oq fa cF 200 FA), (oc1 fe2 rk2 wd2 tw2 pa2 pb2 (.ref lo2) (.ref lk2) fm2), (oc4 lk2 (kd f0) (st f0) (.ref r2) gb2 jt2 we2), (oc6 r2 (.ref rx2) (.ref ry2) (nI (nN (mn f0))) rg2), (oa rx2 cI cap2 U2), (oa ry2 cI cap2 V2)]) [0, 6, 7, 1, 2, 3, 4, 5] (by decide) rfl
    have hP : va_P (dC, dI) classes ([(oc8 x (.ref sh) (.ref lw) (.ref ro) (.ref bq) (.ref bp) (.ref dq) (.ref dp) (.ref lv) (.ref sl) ds sd ul su), (oc7 sh (.ref fa) (nI ft)), (oq fa cF 200 FA), (oc1 fe2 rk2 wd2 tw2 pa2 pb2 (.ref lo2) (.ref lk2) fm2), (oc4 lk2 (kd f0) (st f0) (.ref r2) gb2 jt2 we2), (oc6 r2 (.ref rx2) (.ref ry2) (nI (nN (mn f0))) rg2), (oa rx2 cI cap2 U2), (oa ry2 cI cap2 V2)] ++ va_pl T_1 f) H := hP
    have hD : va_D A ([(oc8 x (.ref sh) (.ref lw) (.ref ro) (.ref bq) (.ref bp) (.ref dq) (.ref dp) (.ref lv) (.ref sl) ds sd ul su), (oc7 sh (.ref fa) (nI ft)), (oq fa cF 200 FA), (oc1 fe2 rk2 wd2 tw2 pa2 pb2 (.ref lo2) (.ref lk2) fm2), (oc4 lk2 (kd f0) (st f0) (.ref r2) gb2 jt2 we2), (oc6 r2 (.ref rx2) (.ref ry2) (nI (nN (mn f0))) rg2), (oa rx2 cI cap2 U2), (oa ry2 cI cap2 V2)] ++ va_pl T_1 f) := hD
    refine lv_astore_n (lv' := [(3, .ref fe2), (0, .ref x), (1, .int (nI f0)), (2, .int ms)]) hx hb dX10_square_8 rfl hl (by decide) rfl (fun ls hl => ?_)
    refine lv_aload_n hx hb dX10_square_9 rfl (lv_at hl 0 rfl) ?_
    refine lv_ifnonnull (tgt := 19) hx hb dX10_square_10 (by decide) ?_
    refine lv_aload_n hx hb dX10_square_19 rfl (lv_at hl 0 rfl) ?_
    refine va_get (D := (dC, dI)) (ci := 1) (v := .ref lk2) (C := RX2) (T := TX2) (N := 8) hx hb hts inX2 hown hK hP 3 rfl rfl 6 (by decide) (hts _ mw_433) (fun _ h9 => h9) rfl dX10_square_20 ?_
    refine va_get (D := (dC, dI)) (ci := 4) (v := .int (st f0)) (C := RX5) (T := TX5) (N := 6) hx hb hts inX5 hown hK hP 4 rfl rfl 1 (by decide) (hts _ mw_385) (fun _ h9 => h9) rfl dX10_square_23 ?_
    refine lv_iconst (v := 1) hx hb dX10_square_26 (by decide) ?_
    refine lv_icmp_eq (tgt := 36) hx hb dX10_square_27 (by decide) (fun c_4 => ?_) (fun c_4 => ?_)
    · have c_4 : (st f0).toInt = 1 := zc_eq rfl (by decide) c_4
      refine lv_aload_n hx hb dX10_square_36 rfl (lv_at hl 0 rfl) ?_
      refine va_get (D := (dC, dI)) (ci := 1) (v := .ref lk2) (C := RX2) (T := TX2) (N := 8) hx hb hts inX2 hown hK hP 3 rfl rfl 6 (by decide) (hts _ mw_433) (fun _ h9 => h9) rfl dX10_square_37 ?_
      refine va_get (D := (dC, dI)) (ci := 4) (v := .int (kd f0)) (C := RX5) (T := TX5) (N := 6) hx hb hts inX5 hown hK hP 4 rfl rfl 0 (by decide) (hts _ mw_381) (fun _ h9 => h9) rfl dX10_square_40 ?_
      refine lv_iconst (v := 5) hx hb dX10_square_43 (by decide) ?_
      refine lv_icmp_eq (tgt := 53) hx hb dX10_square_44 (by decide) (fun c_5 => ?_) (fun c_5 => ?_)
      · have c_5 : (kd f0).toInt = 5 := zc_eq rfl (by decide) c_5
        refine lv_iload_n hx hb dX10_square_53 rfl (lv_at hl 3 rfl) ?_
        refine lv_if_ge (tgt := 63) hx hb dX10_square_54 (by decide) (fun c_6 => ?_) (fun c_6 => ?_)
        · have c_6 : 0 ≤ ms.toInt := zc_le (by decide) rfl c_6
          refine lv_aload_n hx hb dX10_square_63 rfl (lv_at hl 0 rfl) ?_
          refine va_get (D := (dC, dI)) (ci := 1) (v := .ref lk2) (C := RX2) (T := TX2) (N := 8) hx hb hts inX2 hown hK hP 3 rfl rfl 6 (by decide) (hts _ mw_433) (fun _ h9 => h9) rfl dX10_square_64 ?_
          refine va_get (D := (dC, dI)) (ci := 4) (v := .ref r2) (C := RX5) (T := TX5) (N := 6) hx hb hts inX5 hown hK hP 4 rfl rfl 2 (by decide) (hts _ mw_391) (fun _ h9 => h9) rfl dX10_square_67 ?_
          refine lv_astore (lv' := [(4, .ref r2), (3, .ref fe2), (0, .ref x), (1, .int (nI f0)), (2, .int ms)]) hx hb dX10_square_70 hl (by decide) rfl (fun ls hl => ?_)
          refine lv_aload hx hb dX10_square_72 (lv_at hl 0 rfl) ?_
          refine lv_ifnonnull (tgt := 83) hx hb dX10_square_74 (by decide) ?_
          exfalso; omega
        · have c_6 : ms.toInt < 0 := zc_nle (by decide) rfl c_6
          refine lv_aload_n hx hb dX10_square_57 rfl (lv_at hl 1 rfl) ?_
          refine lv_iconst (v := 4) hx hb dX10_square_58 (by decide) ?_
          have hPc := hP.sub (ws' := [(oc8 x (.ref sh) (.ref lw) (.ref ro) (.ref bq) (.ref bp) (.ref dq) (.ref dp) (.ref lv) (.ref sl) ds sd ul su)]) [0] rfl
          have hDc := hD.sub (ws' := [(oc8 x (.ref sh) (.ref lw) (.ref ro) (.ref bq) (.ref bp) (.ref dq) (.ref dp) (.ref lv) (.ref sl) ds sd ul su)]) [0] (by decide) rfl
          have hFc := va_free (wc := [(oc8 x (.ref sh) (.ref lw) (.ref ro) (.ref bq) (.ref bp) (.ref dq) (.ref dp) (.ref lv) (.ref sl) ds sd ul su)]) hD hS hA [0] rfl
          refine zcall (st1 := [.int 0]) (va_runV (As := [.int 4]) (rest := []) ⟨hx, hb, hml, hown, hts⟩ (k_deny_4 l dC dI cI cZ cF H.size x sh lw ro bq bp dq dp lv sl sd ul su ds ) (cwV 1 hts (zz_gV mw_513 mw_515 mw_4 mw_99 mc_yX10_deny) rfl rfl rfl (by decide +kernel) ⟨Nat.le_of_ble_eq_true rfl, Nat.le_of_ble_eq_true rfl⟩) (zPV2 (q0 := 0) (ci := 8) hPc hDc hK hXN rfl rfl) rfl rfl hl.1 rfl (lv_room (Nat.le_of_ble_eq_true rfl)) dX10_square_59 ⟨Nat.le_of_ble_eq_true rfl, Nat.le_of_ble_eq_true rfl⟩) hS hFc hFc rfl (fun t H1 locs ht hB hk1 hS => ?_)
          obtain ⟨hP1, hD1⟩ := hB
          rw [ht] at hP1
          obtain ⟨hP, hD⟩ := va_joinQ (wr := [(oc7 sh (.ref fa) (nI ft)), (oq fa cF 200 FA), (oc1 fe2 rk2 wd2 tw2 pa2 pb2 (.ref lo2) (.ref lk2) fm2), (oc4 lk2 (kd f0) (st f0) (.ref r2) gb2 jt2 we2), (oc6 r2 (.ref rx2) (.ref ry2) (nI (nN (mn f0))) rg2), (oa rx2 cI cap2 U2), (oa ry2 cI cap2 V2)]) (w1 := [(oc8 x (.ref sh) (.ref lw) (.ref ro) (.ref bq) (.ref bp) (.ref dq) (.ref dp) (.ref lv) (.ref sl) ds sd ul 4)]) hP hD [0] [1, 2, 3, 4, 5, 6, 7] rfl rfl (by decide) (by decide) hk1 hFc hP1 hD1
          clear hk1 hPc hDc hFc hP1 hD1 ht
          generalize H1 = H at hP hS ⊢
          have hP := hP.part (cx := [(oc8 x (.ref sh) (.ref lw) (.ref ro) (.ref bq) (.ref bp) (.ref dq) (.ref dp) (.ref lv) (.ref sl) ds sd ul 4), (oc7 sh (.ref fa) (nI ft)), (oq fa cF 200 FA), (oc1 fe2 rk2 wd2 tw2 pa2 pb2 (.ref lo2) (.ref lk2) fm2), (oc4 lk2 (kd f0) (st f0) (.ref r2) gb2 jt2 we2), (oc6 r2 (.ref rx2) (.ref ry2) (nI (nN (mn f0))) rg2), (oa rx2 cI cap2 U2), (oa ry2 cI cap2 V2)]) [7, 0, 1, 2, 3, 4, 5, 6] rfl
          have hD := hD.part (cx := [(oc8 x (.ref sh) (.ref lw) (.ref ro) (.ref bq) (.ref bp) (.ref dq) (.ref dp) (.ref lv) (.ref sl) ds sd ul 4), (oc7 sh (.ref fa) (nI ft)), (oq fa cF 200 FA), (oc1 fe2 rk2 wd2 tw2 pa2 pb2 (.ref lo2) (.ref lk2) fm2), (oc4 lk2 (kd f0) (st f0) (.ref r2) gb2 jt2 we2), (oc6 r2 (.ref rx2) (.ref ry2) (nI (nN (mn f0))) rg2), (oa rx2 cI cap2 U2), (oa ry2 cI cap2 V2)]) [7, 0, 1, 2, 3, 4, 5, 6] (by decide) rfl
          have hP : va_P (dC, dI) classes ([(oc8 x (.ref sh) (.ref lw) (.ref ro) (.ref bq) (.ref bp) (.ref dq) (.ref dp) (.ref lv) (.ref sl) ds sd ul 4), (oc7 sh (.ref fa) (nI ft)), (oq fa cF 200 FA), (oc1 fe2 rk2 wd2 tw2 pa2 pb2 (.ref lo2) (.ref lk2) fm2), (oc4 lk2 (kd f0) (st f0) (.ref r2) gb2 jt2 we2), (oc6 r2 (.ref rx2) (.ref ry2) (nI (nN (mn f0))) rg2), (oa rx2 cI cap2 U2), (oa ry2 cI cap2 V2)] ++ va_pl T_1 f) H := hP
          have hD : va_D A ([(oc8 x (.ref sh) (.ref lw) (.ref ro) (.ref bq) (.ref bp) (.ref dq) (.ref dp) (.ref lv) (.ref sl) ds sd ul 4), (oc7 sh (.ref fa) (nI ft)), (oq fa cF 200 FA), (oc1 fe2 rk2 wd2 tw2 pa2 pb2 (.ref lo2) (.ref lk2) fm2), (oc4 lk2 (kd f0) (st f0) (.ref r2) gb2 jt2 we2), (oc6 r2 (.ref rx2) (.ref ry2) (nI (nN (mn f0))) rg2), (oa rx2 cI cap2 U2), (oa ry2 cI cap2 V2)] ++ va_pl T_1 f) := hD
          have hP := pl_back (cs := [(oc1 fe2 rk2 wd2 tw2 pa2 pb2 (.ref lo2) (.ref lk2) fm2), (oc4 lk2 (kd f0) (st f0) (.ref r2) gb2 jt2 we2), (oc6 r2 (.ref rx2) (.ref ry2) (nI (nN (mn f0))) rg2), (oa rx2 cI cap2 U2), (oa ry2 cI cap2 V2)]) (L := L) (f := f) (X := [(oc8 x (.ref sh) (.ref lw) (.ref ro) (.ref bq) (.ref bp) (.ref dq) (.ref dp) (.ref lv) (.ref sl) ds sd ul 4), (oc7 sh (.ref fa) (nI ft)), (oq fa cF 200 FA)]) (by rw [hT_1]; exact (show va_P (dC, dI) classes (([(oc8 x (.ref sh) (.ref lw) (.ref ro) (.ref bq) (.ref bp) (.ref dq) (.ref dp) (.ref lv) (.ref sl) ds sd ul 4), (oc7 sh (.ref fa) (nI ft)), (oq fa cF 200 FA)] ++ [(oc1 fe2 rk2 wd2 tw2 pa2 pb2 (.ref lo2) (.ref lk2) fm2), (oc4 lk2 (kd f0) (st f0) (.ref r2) gb2 jt2 we2), (oc6 r2 (.ref rx2) (.ref ry2) (nI (nN (mn f0))) rg2), (oa rx2 cI cap2 U2), (oa ry2 cI cap2 V2)]) ++ va_pl T_1 f) H from hP)) hc9_1
          have hD : va_D A ([(oc8 x (.ref sh) (.ref lw) (.ref ro) (.ref bq) (.ref bp) (.ref dq) (.ref dp) (.ref lv) (.ref sl) ds sd ul 4), (oc7 sh (.ref fa) (nI ft)), (oq fa cF 200 FA)] ++ va_pl L f) := vaD_ae hD0_1 rfl
          have hP9 := hP.part (cx := [(oc8 x (.ref sh) (.ref lw) (.ref ro) (.ref bq) (.ref bp) (.ref dq) (.ref dp) (.ref lv) (.ref sl) ds sd ul 4), (oc7 sh (.ref fa) (nI ft)), (oq fa cF 200 FA)]) [0, 1, 2] rfl
          have hD9 := hD.part (cx := [(oc8 x (.ref sh) (.ref lw) (.ref ro) (.ref bq) (.ref bp) (.ref dq) (.ref dp) (.ref lv) (.ref sl) ds sd ul 4), (oc7 sh (.ref fa) (nI ft)), (oq fa cF 200 FA)]) [0, 1, 2] (by decide) rfl
          rw [hQ9]
          exact W.zret (ty := .boolean) (v := 0) hx hb hr (rfl) (fun t ht hW => ⟨⟨rfl, ul, 4, by rw [ht]; exact hP9, hD9⟩, hS.F ht⟩) hS.2.2 dX10_square_62
      · have c_5 : ¬ (kd f0).toInt = 5 := zc_ne rfl (by decide) c_5
        refine lv_aload_n hx hb dX10_square_47 rfl (lv_at hl 1 rfl) ?_
        refine lv_iconst (v := 3) hx hb dX10_square_48 (by decide) ?_
        have hPc := hP.sub (ws' := [(oc8 x (.ref sh) (.ref lw) (.ref ro) (.ref bq) (.ref bp) (.ref dq) (.ref dp) (.ref lv) (.ref sl) ds sd ul su)]) [0] rfl
        have hDc := hD.sub (ws' := [(oc8 x (.ref sh) (.ref lw) (.ref ro) (.ref bq) (.ref bp) (.ref dq) (.ref dp) (.ref lv) (.ref sl) ds sd ul su)]) [0] (by decide) rfl
        have hFc := va_free (wc := [(oc8 x (.ref sh) (.ref lw) (.ref ro) (.ref bq) (.ref bp) (.ref dq) (.ref dp) (.ref lv) (.ref sl) ds sd ul su)]) hD hS hA [0] rfl
        refine zcall (st1 := [.int 0]) (va_runV (As := [.int 3]) (rest := []) ⟨hx, hb, hml, hown, hts⟩ (k_deny_3 l dC dI cI cZ cF H.size x sh lw ro bq bp dq dp lv sl sd ul su ds ) (cwV 1 hts (zz_gV mw_513 mw_515 mw_4 mw_99 mc_yX10_deny) rfl rfl rfl (by decide +kernel) ⟨Nat.le_of_ble_eq_true rfl, Nat.le_of_ble_eq_true rfl⟩) (zPV2 (q0 := 0) (ci := 8) hPc hDc hK hXN rfl rfl) rfl rfl hl.1 rfl (lv_room (Nat.le_of_ble_eq_true rfl)) dX10_square_49 ⟨Nat.le_of_ble_eq_true rfl, Nat.le_of_ble_eq_true rfl⟩) hS hFc hFc rfl (fun t H1 locs ht hB hk1 hS => ?_)
        obtain ⟨hP1, hD1⟩ := hB
        rw [ht] at hP1
        obtain ⟨hP, hD⟩ := va_joinQ (wr := [(oc7 sh (.ref fa) (nI ft)), (oq fa cF 200 FA), (oc1 fe2 rk2 wd2 tw2 pa2 pb2 (.ref lo2) (.ref lk2) fm2), (oc4 lk2 (kd f0) (st f0) (.ref r2) gb2 jt2 we2), (oc6 r2 (.ref rx2) (.ref ry2) (nI (nN (mn f0))) rg2), (oa rx2 cI cap2 U2), (oa ry2 cI cap2 V2)]) (w1 := [(oc8 x (.ref sh) (.ref lw) (.ref ro) (.ref bq) (.ref bp) (.ref dq) (.ref dp) (.ref lv) (.ref sl) ds sd ul 3)]) hP hD [0] [1, 2, 3, 4, 5, 6, 7] rfl rfl (by decide) (by decide) hk1 hFc hP1 hD1
        clear hk1 hPc hDc hFc hP1 hD1 ht
        generalize H1 = H at hP hS ⊢
        have hP := hP.part (cx := [(oc8 x (.ref sh) (.ref lw) (.ref ro) (.ref bq) (.ref bp) (.ref dq) (.ref dp) (.ref lv) (.ref sl) ds sd ul 3), (oc7 sh (.ref fa) (nI ft)), (oq fa cF 200 FA), (oc1 fe2 rk2 wd2 tw2 pa2 pb2 (.ref lo2) (.ref lk2) fm2), (oc4 lk2 (kd f0) (st f0) (.ref r2) gb2 jt2 we2), (oc6 r2 (.ref rx2) (.ref ry2) (nI (nN (mn f0))) rg2), (oa rx2 cI cap2 U2), (oa ry2 cI cap2 V2)]) [7, 0, 1, 2, 3, 4, 5, 6] rfl
        have hD := hD.part (cx := [(oc8 x (.ref sh) (.ref lw) (.ref ro) (.ref bq) (.ref bp) (.ref dq) (.ref dp) (.ref lv) (.ref sl) ds sd ul 3), (oc7 sh (.ref fa) (nI ft)), (oq fa cF 200 FA), (oc1 fe2 rk2 wd2 tw2 pa2 pb2 (.ref lo2) (.ref lk2) fm2), (oc4 lk2 (kd f0) (st f0) (.ref r2) gb2 jt2 we2), (oc6 r2 (.ref rx2) (.ref ry2) (nI (nN (mn f0))) rg2), (oa rx2 cI cap2 U2), (oa ry2 cI cap2 V2)]) [7, 0, 1, 2, 3, 4, 5, 6] (by decide) rfl
        have hP : va_P (dC, dI) classes ([(oc8 x (.ref sh) (.ref lw) (.ref ro) (.ref bq) (.ref bp) (.ref dq) (.ref dp) (.ref lv) (.ref sl) ds sd ul 3), (oc7 sh (.ref fa) (nI ft)), (oq fa cF 200 FA), (oc1 fe2 rk2 wd2 tw2 pa2 pb2 (.ref lo2) (.ref lk2) fm2), (oc4 lk2 (kd f0) (st f0) (.ref r2) gb2 jt2 we2), (oc6 r2 (.ref rx2) (.ref ry2) (nI (nN (mn f0))) rg2), (oa rx2 cI cap2 U2), (oa ry2 cI cap2 V2)] ++ va_pl T_1 f) H := hP
        have hD : va_D A ([(oc8 x (.ref sh) (.ref lw) (.ref ro) (.ref bq) (.ref bp) (.ref dq) (.ref dp) (.ref lv) (.ref sl) ds sd ul 3), (oc7 sh (.ref fa) (nI ft)), (oq fa cF 200 FA), (oc1 fe2 rk2 wd2 tw2 pa2 pb2 (.ref lo2) (.ref lk2) fm2), (oc4 lk2 (kd f0) (st f0) (.ref r2) gb2 jt2 we2), (oc6 r2 (.ref rx2) (.ref ry2) (nI (nN (mn f0))) rg2), (oa rx2 cI cap2 U2), (oa ry2 cI cap2 V2)] ++ va_pl T_1 f) := hD
        have hP := pl_back (cs := [(oc1 fe2 rk2 wd2 tw2 pa2 pb2 (.ref lo2) (.ref lk2) fm2), (oc4 lk2 (kd f0) (st f0) (.ref r2) gb2 jt2 we2), (oc6 r2 (.ref rx2) (.ref ry2) (nI (nN (mn f0))) rg2), (oa rx2 cI cap2 U2), (oa ry2 cI cap2 V2)]) (L := L) (f := f) (X := [(oc8 x (.ref sh) (.ref lw) (.ref ro) (.ref bq) (.ref bp) (.ref dq) (.ref dp) (.ref lv) (.ref sl) ds sd ul 3), (oc7 sh (.ref fa) (nI ft)), (oq fa cF 200 FA)]) (by rw [hT_1]; exact (show va_P (dC, dI) classes (([(oc8 x (.ref sh) (.ref lw) (.ref ro) (.ref bq) (.ref bp) (.ref dq) (.ref dp) (.ref lv) (.ref sl) ds sd ul 3), (oc7 sh (.ref fa) (nI ft)), (oq fa cF 200 FA)] ++ [(oc1 fe2 rk2 wd2 tw2 pa2 pb2 (.ref lo2) (.ref lk2) fm2), (oc4 lk2 (kd f0) (st f0) (.ref r2) gb2 jt2 we2), (oc6 r2 (.ref rx2) (.ref ry2) (nI (nN (mn f0))) rg2), (oa rx2 cI cap2 U2), (oa ry2 cI cap2 V2)]) ++ va_pl T_1 f) H from hP)) hc9_1
        have hD : va_D A ([(oc8 x (.ref sh) (.ref lw) (.ref ro) (.ref bq) (.ref bp) (.ref dq) (.ref dp) (.ref lv) (.ref sl) ds sd ul 3), (oc7 sh (.ref fa) (nI ft)), (oq fa cF 200 FA)] ++ va_pl L f) := vaD_ae hD0_1 rfl
        have hP9 := hP.part (cx := [(oc8 x (.ref sh) (.ref lw) (.ref ro) (.ref bq) (.ref bp) (.ref dq) (.ref dp) (.ref lv) (.ref sl) ds sd ul 3), (oc7 sh (.ref fa) (nI ft)), (oq fa cF 200 FA)]) [0, 1, 2] rfl
        have hD9 := hD.part (cx := [(oc8 x (.ref sh) (.ref lw) (.ref ro) (.ref bq) (.ref bp) (.ref dq) (.ref dp) (.ref lv) (.ref sl) ds sd ul 3), (oc7 sh (.ref fa) (nI ft)), (oq fa cF 200 FA)]) [0, 1, 2] (by decide) rfl
        rw [hQ9]
        exact W.zret (ty := .boolean) (v := 0) hx hb hr (rfl) (fun t ht hW => ⟨⟨rfl, ul, 3, by rw [ht]; exact hP9, hD9⟩, hS.F ht⟩) hS.2.2 dX10_square_52
    · have c_4 : ¬ (st f0).toInt = 1 := zc_ne rfl (by decide) c_4
      refine lv_aload_n hx hb dX10_square_30 rfl (lv_at hl 1 rfl) ?_
      refine lv_iconst (v := 2) hx hb dX10_square_31 (by decide) ?_
      have hPc := hP.sub (ws' := [(oc8 x (.ref sh) (.ref lw) (.ref ro) (.ref bq) (.ref bp) (.ref dq) (.ref dp) (.ref lv) (.ref sl) ds sd ul su)]) [0] rfl
      have hDc := hD.sub (ws' := [(oc8 x (.ref sh) (.ref lw) (.ref ro) (.ref bq) (.ref bp) (.ref dq) (.ref dp) (.ref lv) (.ref sl) ds sd ul su)]) [0] (by decide) rfl
      have hFc := va_free (wc := [(oc8 x (.ref sh) (.ref lw) (.ref ro) (.ref bq) (.ref bp) (.ref dq) (.ref dp) (.ref lv) (.ref sl) ds sd ul su)]) hD hS hA [0] rfl
      refine zcall (st1 := [.int 0]) (va_runV (As := [.int 2]) (rest := []) ⟨hx, hb, hml, hown, hts⟩ (k_deny_2 l dC dI cI cZ cF H.size x sh lw ro bq bp dq dp lv sl sd ul su ds ) (cwV 1 hts (zz_gV mw_513 mw_515 mw_4 mw_99 mc_yX10_deny) rfl rfl rfl (by decide +kernel) ⟨Nat.le_of_ble_eq_true rfl, Nat.le_of_ble_eq_true rfl⟩) (zPV2 (q0 := 0) (ci := 8) hPc hDc hK hXN rfl rfl) rfl rfl hl.1 rfl (lv_room (Nat.le_of_ble_eq_true rfl)) dX10_square_32 ⟨Nat.le_of_ble_eq_true rfl, Nat.le_of_ble_eq_true rfl⟩) hS hFc hFc rfl (fun t H1 locs ht hB hk1 hS => ?_)
      obtain ⟨hP1, hD1⟩ := hB
      rw [ht] at hP1
      obtain ⟨hP, hD⟩ := va_joinQ (wr := [(oc7 sh (.ref fa) (nI ft)), (oq fa cF 200 FA), (oc1 fe2 rk2 wd2 tw2 pa2 pb2 (.ref lo2) (.ref lk2) fm2), (oc4 lk2 (kd f0) (st f0) (.ref r2) gb2 jt2 we2), (oc6 r2 (.ref rx2) (.ref ry2) (nI (nN (mn f0))) rg2), (oa rx2 cI cap2 U2), (oa ry2 cI cap2 V2)]) (w1 := [(oc8 x (.ref sh) (.ref lw) (.ref ro) (.ref bq) (.ref bp) (.ref dq) (.ref dp) (.ref lv) (.ref sl) ds sd ul 2)]) hP hD [0] [1, 2, 3, 4, 5, 6, 7] rfl rfl (by decide) (by decide) hk1 hFc hP1 hD1
      clear hk1 hPc hDc hFc hP1 hD1 ht
      generalize H1 = H at hP hS ⊢
      have hP := hP.part (cx := [(oc8 x (.ref sh) (.ref lw) (.ref ro) (.ref bq) (.ref bp) (.ref dq) (.ref dp) (.ref lv) (.ref sl) ds sd ul 2), (oc7 sh (.ref fa) (nI ft)), (oq fa cF 200 FA), (oc1 fe2 rk2 wd2 tw2 pa2 pb2 (.ref lo2) (.ref lk2) fm2), (oc4 lk2 (kd f0) (st f0) (.ref r2) gb2 jt2 we2), (oc6 r2 (.ref rx2) (.ref ry2) (nI (nN (mn f0))) rg2), (oa rx2 cI cap2 U2), (oa ry2 cI cap2 V2)]) [7, 0, 1, 2, 3, 4, 5, 6] rfl
      have hD := hD.part (cx := [(oc8 x (.ref sh) (.ref lw) (.ref ro) (.ref bq) (.ref bp) (.ref dq) (.ref dp) (.ref lv) (.ref sl) ds sd ul 2), (oc7 sh (.ref fa) (nI ft)), (oq fa cF 200 FA), (oc1 fe2 rk2 wd2 tw2 pa2 pb2 (.ref lo2) (.ref lk2) fm2), (oc4 lk2 (kd f0) (st f0) (.ref r2) gb2 jt2 we2), (oc6 r2 (.ref rx2) (.ref ry2) (nI (nN (mn f0))) rg2), (oa rx2 cI cap2 U2), (oa ry2 cI cap2 V2)]) [7, 0, 1, 2, 3, 4, 5, 6] (by decide) rfl
      have hP : va_P (dC, dI) classes ([(oc8 x (.ref sh) (.ref lw) (.ref ro) (.ref bq) (.ref bp) (.ref dq) (.ref dp) (.ref lv) (.ref sl) ds sd ul 2), (oc7 sh (.ref fa) (nI ft)), (oq fa cF 200 FA), (oc1 fe2 rk2 wd2 tw2 pa2 pb2 (.ref lo2) (.ref lk2) fm2), (oc4 lk2 (kd f0) (st f0) (.ref r2) gb2 jt2 we2), (oc6 r2 (.ref rx2) (.ref ry2) (nI (nN (mn f0))) rg2), (oa rx2 cI cap2 U2), (oa ry2 cI cap2 V2)] ++ va_pl T_1 f) H := hP
      have hD : va_D A ([(oc8 x (.ref sh) (.ref lw) (.ref ro) (.ref bq) (.ref bp) (.ref dq) (.ref dp) (.ref lv) (.ref sl) ds sd ul 2), (oc7 sh (.ref fa) (nI ft)), (oq fa cF 200 FA), (oc1 fe2 rk2 wd2 tw2 pa2 pb2 (.ref lo2) (.ref lk2) fm2), (oc4 lk2 (kd f0) (st f0) (.ref r2) gb2 jt2 we2), (oc6 r2 (.ref rx2) (.ref ry2) (nI (nN (mn f0))) rg2), (oa rx2 cI cap2 U2), (oa ry2 cI cap2 V2)] ++ va_pl T_1 f) := hD
      have hP := pl_back (cs := [(oc1 fe2 rk2 wd2 tw2 pa2 pb2 (.ref lo2) (.ref lk2) fm2), (oc4 lk2 (kd f0) (st f0) (.ref r2) gb2 jt2 we2), (oc6 r2 (.ref rx2) (.ref ry2) (nI (nN (mn f0))) rg2), (oa rx2 cI cap2 U2), (oa ry2 cI cap2 V2)]) (L := L) (f := f) (X := [(oc8 x (.ref sh) (.ref lw) (.ref ro) (.ref bq) (.ref bp) (.ref dq) (.ref dp) (.ref lv) (.ref sl) ds sd ul 2), (oc7 sh (.ref fa) (nI ft)), (oq fa cF 200 FA)]) (by rw [hT_1]; exact (show va_P (dC, dI) classes (([(oc8 x (.ref sh) (.ref lw) (.ref ro) (.ref bq) (.ref bp) (.ref dq) (.ref dp) (.ref lv) (.ref sl) ds sd ul 2), (oc7 sh (.ref fa) (nI ft)), (oq fa cF 200 FA)] ++ [(oc1 fe2 rk2 wd2 tw2 pa2 pb2 (.ref lo2) (.ref lk2) fm2), (oc4 lk2 (kd f0) (st f0) (.ref r2) gb2 jt2 we2), (oc6 r2 (.ref rx2) (.ref ry2) (nI (nN (mn f0))) rg2), (oa rx2 cI cap2 U2), (oa ry2 cI cap2 V2)]) ++ va_pl T_1 f) H from hP)) hc9_1
      have hD : va_D A ([(oc8 x (.ref sh) (.ref lw) (.ref ro) (.ref bq) (.ref bp) (.ref dq) (.ref dp) (.ref lv) (.ref sl) ds sd ul 2), (oc7 sh (.ref fa) (nI ft)), (oq fa cF 200 FA)] ++ va_pl L f) := vaD_ae hD0_1 rfl
      have hP9 := hP.part (cx := [(oc8 x (.ref sh) (.ref lw) (.ref ro) (.ref bq) (.ref bp) (.ref dq) (.ref dp) (.ref lv) (.ref sl) ds sd ul 2), (oc7 sh (.ref fa) (nI ft)), (oq fa cF 200 FA)]) [0, 1, 2] rfl
      have hD9 := hD.part (cx := [(oc8 x (.ref sh) (.ref lw) (.ref ro) (.ref bq) (.ref bp) (.ref dq) (.ref dp) (.ref lv) (.ref sl) ds sd ul 2), (oc7 sh (.ref fa) (nI ft)), (oq fa cF 200 FA)]) [0, 1, 2] (by decide) rfl
      rw [hQ9]
      exact W.zret (ty := .boolean) (v := 0) hx hb hr (rfl) (fun t ht hW => ⟨⟨rfl, ul, 2, by rw [ht]; exact hP9, hD9⟩, hS.F ht⟩) hS.2.2 dX10_square_35
