set_option maxHeartbeats 4000000 in
set_option maxRecDepth 100000 in
theorem k_M_refuse_7 (l : Launch) (dC : Nat → ClassId) (dI : Nat → Nat → Nat) (cI cZ cF : ClassId) (sz : Nat) (k0 : Nat) (a : Nat → Nat) (I0 : Nat → Int32) (J0 : Nat → Int64) : Met l yX11_refuse (.code yX11_refuse cX11_refuse 2 (some .int) :: ws0) ({ frames := 0, cells := 0, slots := 0, locals := 0 } : Room) (va_Pc [.ref k0, .int 7] (zPre (dC, dI) classes (zTy cI cZ cF) [(om k0 a I0 J0)] sz zXN)) (zQ (some (.int (-1))) (fun t => va_P (dC, dI) classes [(om k0 a (upd (upd I0 14 7) 15 (I0 15 + 1)) J0)] t.heap ∧ va_D (va_A [(om k0 a I0 J0)] sz) [(om k0 a (upd (upd I0 14 7) 15 (I0 15 + 1)) J0)]) (va_A [(om k0 a I0 J0)] sz)) 0 0 (va_A [(om k0 a I0 J0)] sz) := by
  refine Met.ofW (cc := cX11_refuse) (maxL := 2) (ret := (some .int)) (by decide) rfl ?_
  intro p e s m args below meth c s₁ B hml hv
  obtain ⟨rfl, hsz, hP, hK, hD0, hXN⟩ := hv
  have hx := B.exec
  have hb := B.bytes
  have hr := B.returns
  have hts0 := atoms_spec (ws := .code yX11_refuse cX11_refuse 2 (some .int) :: ws0) B.pre
  have hts : ∀ w9 ∈ ws0, w9.before ([.ref k0, .int 7] : List Value).toArray s = true := fun w9 h => hts0 w9 (List.mem_cons_of_mem _ h)
  have hown : s.vm.findClass "ScaleShopModel" = some m.cls := findClass_of_methodNamed B.named
  have hlocks := B.notSynchronized
  subst hsz
  have hD := hD0.self (sz := s.heap.size)
  clear hD0
  generalize hAe : va_A [(om k0 a I0 J0)] s.heap.size = A at hD ⊢
  have hA : ∀ q : Nat, s.heap.size ≤ q → A q := fun q h => by rw [← hAe]; exact Or.inr h
  clear hAe
  have hS : va_S A s.heap s.heap [] := va_S.rf
  have hP : va_P (dC, dI) classes [(om k0 a I0 J0)] s.heap := hP
  obtain ⟨Q9, hQ9⟩ : ∃ Q9 : State → Prop, Q9 = MQ below (zQ (some (.int (-1))) (fun t => va_P (dC, dI) classes [(om k0 a (upd (upd I0 14 7) 15 (I0 15 + 1)) J0)] t.heap ∧ va_D A [(om k0 a (upd (upd I0 14 7) 15 (I0 15 + 1)) J0)]) A) ([.ref k0, .int 7] : List Value).toArray s 0 0 A := ⟨_, rfl⟩
  rw [← hQ9]
  have hl := lv_entry ([.ref k0, .int 7]) (n := 2) (Nat.le_of_ble_eq_true rfl)
  rw [lg_entry_eq]
  generalize (lg_sl ([.ref k0, .int 7]) ++ List.replicate (2 - (lg_sl ([.ref k0, .int 7])).length) Slot.unset).toArray = ls at hl ⊢
  have hl : lv_has ls 2 [(0, .ref k0), (1, .int 7)] := hl
  refine lv_aload_n hx hb dX11_refuse_0 rfl (lv_at hl 0 rfl) ?_
  refine lv_iload_n hx hb dX11_refuse_1 rfl (lv_at hl 1 rfl) ?_
  refine va_put (D := (dC, dI)) (ci := 9) (v := .int 7) (ty := .int) (C := RX11) (T := TX11) (N := 55) hx hb hts inX11 tyX11 tyX11_ok nmX11 hown hK hP hD hS 0 rfl rfl 14 (by decide) (hts _ mw_1173) (fun _ h9 => h9) rfl (by decide +kernel) rfl rfl (Nat.le_of_ble_eq_true rfl) dX11_refuse_2 (fun H locs hP hD hS => ?_)
  have hP : va_P (dC, dI) classes [(om k0 a (upd I0 14 7) J0)] H := hP
  have hD : va_D A [(om k0 a (upd I0 14 7) J0)] := hD
  refine lv_aload_n hx hb dX11_refuse_5 rfl (lv_at hl 0 rfl) ?_
  refine lv_dup hx hb dX11_refuse_6 rfl ?_
  refine va_get (D := (dC, dI)) (ci := 9) (v := .int (I0 15)) (C := RX11) (T := TX11) (N := 55) hx hb hts inX11 hown hK hP 0 rfl rfl 15 (by decide) (hts _ mw_1174) (fun _ h9 => h9) rfl dX11_refuse_7 ?_
  refine lv_iload_n hx hb dX11_refuse_10 rfl (lv_at hl 1 rfl) ?_
  refine lv_bipush (v := 7) hx hb dX11_refuse_11 (by decide) ?_
  refine lv_icmp_ne (tgt := 20) hx hb dX11_refuse_13 (by decide) (fun c_1 => ?_) (fun c_1 => ?_)
  · exact absurd (by decide) c_1
  · refine lv_iconst (v := 1) hx hb dX11_refuse_16 (by decide) ?_
    refine lv_goto (tgt := 21) hx hb dX11_refuse_17 (by decide) ?_
    refine lv_iadd hx hb dX11_refuse_21 ?_
    refine zz_i (v := I0 15 + 1) (rfl) ?_
    refine va_put (D := (dC, dI)) (ci := 9) (v := .int (I0 15 + 1)) (ty := .int) (C := RX11) (T := TX11) (N := 55) hx hb hts inX11 tyX11 tyX11_ok nmX11 hown hK hP hD hS 0 rfl rfl 15 (by decide) (hts _ mw_1174) (fun _ h9 => h9) rfl (by decide +kernel) rfl rfl (Nat.le_of_ble_eq_true rfl) dX11_refuse_22 (fun H locs hP hD hS => ?_)
    have hP : va_P (dC, dI) classes [(om k0 a (upd (upd I0 14 7) 15 (I0 15 + 1)) J0)] H := hP
    have hD : va_D A [(om k0 a (upd (upd I0 14 7) 15 (I0 15 + 1)) J0)] := hD
    refine lv_iconst (v := (-1)) hx hb dX11_refuse_25 (by decide) ?_
    have hP9 := hP.sub (ws' := [(om k0 a (upd (upd I0 14 7) 15 (I0 15 + 1)) J0)]) [0] rfl
    have hD9 := hD.sub (ws' := [(om k0 a (upd (upd I0 14 7) 15 (I0 15 + 1)) J0)]) [0] (by decide) rfl
    rw [hQ9]
    exact W.iret (v := (-1)) hx hb hr (fun t ht hW => ⟨⟨rfl, by rw [ht]; exact hP9, hD9⟩, hS.F ht⟩) hS.2.2 dX11_refuse_26
set_option maxHeartbeats 4000000 in
set_option maxRecDepth 100000 in
theorem k_M_refuse (l : Launch) (dC : Nat → ClassId) (dI : Nat → Nat → Nat) (cI cZ cF : ClassId) (sz : Nat) (k0 : Nat) (a : Nat → Nat) (I0 : Nat → Int32) (J0 : Nat → Int64) (w : Int32) (hw : ¬ w.toInt = 7) : Met l yX11_refuse (.code yX11_refuse cX11_refuse 2 (some .int) :: ws0) ({ frames := 0, cells := 0, slots := 0, locals := 0 } : Room) (va_Pc [.ref k0, .int w] (zPre (dC, dI) classes (zTy cI cZ cF) [(om k0 a I0 J0)] sz zXN)) (zQ (some (.int (-1))) (fun t => va_P (dC, dI) classes [(om k0 a (upd (upd I0 14 w) 15 (I0 15)) J0)] t.heap ∧ va_D (va_A [(om k0 a I0 J0)] sz) [(om k0 a (upd (upd I0 14 w) 15 (I0 15)) J0)]) (va_A [(om k0 a I0 J0)] sz)) 0 0 (va_A [(om k0 a I0 J0)] sz) := by
  refine Met.ofW (cc := cX11_refuse) (maxL := 2) (ret := (some .int)) (by decide) rfl ?_
  intro p e s m args below meth c s₁ B hml hv
  obtain ⟨rfl, hsz, hP, hK, hD0, hXN⟩ := hv
  have hx := B.exec
  have hb := B.bytes
  have hr := B.returns
  have hts0 := atoms_spec (ws := .code yX11_refuse cX11_refuse 2 (some .int) :: ws0) B.pre
  have hts : ∀ w9 ∈ ws0, w9.before ([.ref k0, .int w] : List Value).toArray s = true := fun w9 h => hts0 w9 (List.mem_cons_of_mem _ h)
  have hown : s.vm.findClass "ScaleShopModel" = some m.cls := findClass_of_methodNamed B.named
  have hlocks := B.notSynchronized
  subst hsz
  have hD := hD0.self (sz := s.heap.size)
  clear hD0
  generalize hAe : va_A [(om k0 a I0 J0)] s.heap.size = A at hD ⊢
  have hA : ∀ q : Nat, s.heap.size ≤ q → A q := fun q h => by rw [← hAe]; exact Or.inr h
  clear hAe
  have hS : va_S A s.heap s.heap [] := va_S.rf
  have hP : va_P (dC, dI) classes [(om k0 a I0 J0)] s.heap := hP
  obtain ⟨Q9, hQ9⟩ : ∃ Q9 : State → Prop, Q9 = MQ below (zQ (some (.int (-1))) (fun t => va_P (dC, dI) classes [(om k0 a (upd (upd I0 14 w) 15 (I0 15)) J0)] t.heap ∧ va_D A [(om k0 a (upd (upd I0 14 w) 15 (I0 15)) J0)]) A) ([.ref k0, .int w] : List Value).toArray s 0 0 A := ⟨_, rfl⟩
  rw [← hQ9]
  have hl := lv_entry ([.ref k0, .int w]) (n := 2) (Nat.le_of_ble_eq_true rfl)
  rw [lg_entry_eq]
  generalize (lg_sl ([.ref k0, .int w]) ++ List.replicate (2 - (lg_sl ([.ref k0, .int w])).length) Slot.unset).toArray = ls at hl ⊢
  have hl : lv_has ls 2 [(0, .ref k0), (1, .int w)] := hl
  refine lv_aload_n hx hb dX11_refuse_0 rfl (lv_at hl 0 rfl) ?_
  refine lv_iload_n hx hb dX11_refuse_1 rfl (lv_at hl 1 rfl) ?_
  refine va_put (D := (dC, dI)) (ci := 9) (v := .int w) (ty := .int) (C := RX11) (T := TX11) (N := 55) hx hb hts inX11 tyX11 tyX11_ok nmX11 hown hK hP hD hS 0 rfl rfl 14 (by decide) (hts _ mw_1173) (fun _ h9 => h9) rfl (by decide +kernel) rfl rfl (Nat.le_of_ble_eq_true rfl) dX11_refuse_2 (fun H locs hP hD hS => ?_)
  have hP : va_P (dC, dI) classes [(om k0 a (upd I0 14 w) J0)] H := hP
  have hD : va_D A [(om k0 a (upd I0 14 w) J0)] := hD
  refine lv_aload_n hx hb dX11_refuse_5 rfl (lv_at hl 0 rfl) ?_
  refine lv_dup hx hb dX11_refuse_6 rfl ?_
  refine va_get (D := (dC, dI)) (ci := 9) (v := .int (I0 15)) (C := RX11) (T := TX11) (N := 55) hx hb hts inX11 hown hK hP 0 rfl rfl 15 (by decide) (hts _ mw_1174) (fun _ h9 => h9) rfl dX11_refuse_7 ?_
  refine lv_iload_n hx hb dX11_refuse_10 rfl (lv_at hl 1 rfl) ?_
  refine lv_bipush (v := 7) hx hb dX11_refuse_11 (by decide) ?_
  refine lv_icmp_ne (tgt := 20) hx hb dX11_refuse_13 (by decide) (fun c_1 => ?_) (fun c_1 => ?_)
  · have c_1 : ¬ w.toInt = 7 := zc_ne rfl (by decide) c_1
    refine lv_iconst (v := 0) hx hb dX11_refuse_20 (by decide) ?_
    refine lv_iadd hx hb dX11_refuse_21 ?_
    refine zz_i (v := I0 15) (Int32.add_zero _) ?_
    refine va_put (D := (dC, dI)) (ci := 9) (v := .int (I0 15)) (ty := .int) (C := RX11) (T := TX11) (N := 55) hx hb hts inX11 tyX11 tyX11_ok nmX11 hown hK hP hD hS 0 rfl rfl 15 (by decide) (hts _ mw_1174) (fun _ h9 => h9) rfl (by decide +kernel) rfl rfl (Nat.le_of_ble_eq_true rfl) dX11_refuse_22 (fun H locs hP hD hS => ?_)
    have hP : va_P (dC, dI) classes [(om k0 a (upd (upd I0 14 w) 15 (I0 15)) J0)] H := hP
    have hD : va_D A [(om k0 a (upd (upd I0 14 w) 15 (I0 15)) J0)] := hD
    refine lv_iconst (v := (-1)) hx hb dX11_refuse_25 (by decide) ?_
    have hP9 := hP.sub (ws' := [(om k0 a (upd (upd I0 14 w) 15 (I0 15)) J0)]) [0] rfl
    have hD9 := hD.sub (ws' := [(om k0 a (upd (upd I0 14 w) 15 (I0 15)) J0)]) [0] (by decide) rfl
    rw [hQ9]
    exact W.iret (v := (-1)) hx hb hr (fun t ht hW => ⟨⟨rfl, by rw [ht]; exact hP9, hD9⟩, hS.F ht⟩) hS.2.2 dX11_refuse_26
  · have c_1 : w.toInt = 7 := zc_eq rfl (by decide) c_1
    exfalso; omega
set_option maxHeartbeats 4000000 in
set_option maxRecDepth 100000 in
theorem k_M_no_7 (l : Launch) (dC : Nat → ClassId) (dI : Nat → Nat → Nat) (cI cZ cF : ClassId) (sz : Nat) (k0 : Nat) (a : Nat → Nat) (I0 : Nat → Int32) (J0 : Nat → Int64) : Met l yX11_no (.code yX11_no cX11_no 2 (some .boolean) :: ws0) ({ frames := 1, cells := 0, slots := 0, locals := 21 } : Room) (va_Pc [.ref k0, .int 7] (zPre (dC, dI) classes (zTy cI cZ cF) [(om k0 a I0 J0)] sz zXN)) (zQ (some (.int 0)) (fun t => va_P (dC, dI) classes [(om k0 a (upd (upd I0 14 7) 15 (I0 15 + 1)) J0)] t.heap ∧ va_D (va_A [(om k0 a I0 J0)] sz) [(om k0 a (upd (upd I0 14 7) 15 (I0 15 + 1)) J0)]) (va_A [(om k0 a I0 J0)] sz)) 0 0 (va_A [(om k0 a I0 J0)] sz) := by
  refine Met.ofW (cc := cX11_no) (maxL := 2) (ret := (some .boolean)) (by decide) rfl ?_
  intro p e s m args below meth c s₁ B hml hv
  obtain ⟨rfl, hsz, hP, hK, hD0, hXN⟩ := hv
  have hx := B.exec
  have hb := B.bytes
  have hr := B.returns
  have hts0 := atoms_spec (ws := .code yX11_no cX11_no 2 (some .boolean) :: ws0) B.pre
  have hts : ∀ w9 ∈ ws0, w9.before ([.ref k0, .int 7] : List Value).toArray s = true := fun w9 h => hts0 w9 (List.mem_cons_of_mem _ h)
  have hown : s.vm.findClass "ScaleShopModel" = some m.cls := findClass_of_methodNamed B.named
  have hlocks := B.notSynchronized
  subst hsz
  have hD := hD0.self (sz := s.heap.size)
  clear hD0
  generalize hAe : va_A [(om k0 a I0 J0)] s.heap.size = A at hD ⊢
  have hA : ∀ q : Nat, s.heap.size ≤ q → A q := fun q h => by rw [← hAe]; exact Or.inr h
  clear hAe
  have hS : va_S A s.heap s.heap [] := va_S.rf
  have hP : va_P (dC, dI) classes [(om k0 a I0 J0)] s.heap := hP
  obtain ⟨Q9, hQ9⟩ : ∃ Q9 : State → Prop, Q9 = MQ below (zQ (some (.int 0)) (fun t => va_P (dC, dI) classes [(om k0 a (upd (upd I0 14 7) 15 (I0 15 + 1)) J0)] t.heap ∧ va_D A [(om k0 a (upd (upd I0 14 7) 15 (I0 15 + 1)) J0)]) A) ([.ref k0, .int 7] : List Value).toArray s 0 0 A := ⟨_, rfl⟩
  rw [← hQ9]
  have hl := lv_entry ([.ref k0, .int 7]) (n := 2) (Nat.le_of_ble_eq_true rfl)
  rw [lg_entry_eq]
  generalize (lg_sl ([.ref k0, .int 7]) ++ List.replicate (2 - (lg_sl ([.ref k0, .int 7])).length) Slot.unset).toArray = ls at hl ⊢
  have hl : lv_has ls 2 [(0, .ref k0), (1, .int 7)] := hl
  refine lv_aload_n hx hb dX11_no_0 rfl (lv_at hl 0 rfl) ?_
  refine lv_iload_n hx hb dX11_no_1 rfl (lv_at hl 1 rfl) ?_
  have hPc := hP.sub (ws' := [(om k0 a I0 J0)]) [0] rfl
  have hDc := hD.sub (ws' := [(om k0 a I0 J0)]) [0] (by decide) rfl
  have hFc := va_free (wc := [(om k0 a I0 J0)]) hD hS hA [0] rfl
  refine zcall (st1 := [.int (-1)]) (va_runV (As := [.int 7]) (rest := []) ⟨hx, hb, hml, hown, hts⟩ (k_M_refuse_7 l dC dI cI cZ cF s.heap.size k0 a I0 J0 ) (cwV 1 hts (zz_gV mw_1329 mw_1331 mw_34 mw_110 mc_yX11_refuse) rfl rfl rfl (by decide +kernel) ⟨Nat.le_of_ble_eq_true rfl, Nat.le_of_ble_eq_true rfl⟩) (zPV2 (q0 := 0) (ci := 9) hPc hDc hK hXN rfl rfl) rfl rfl hl.1 rfl (lv_room (Nat.le_of_ble_eq_true rfl)) dX11_no_2 ⟨Nat.le_of_ble_eq_true rfl, Nat.le_of_ble_eq_true rfl⟩) hS hFc hFc rfl (fun t H1 locs ht hB hk1 hS => ?_)
  obtain ⟨hP1, hD1⟩ := hB
  rw [ht] at hP1
  obtain ⟨hP, hD⟩ := va_join (wr := []) (w1 := [(om k0 a (upd (upd I0 14 7) 15 (I0 15 + 1)) J0)]) hP hD [0] [] rfl rfl (by decide) (by decide) hk1 hFc hP1 hD1
  clear hk1 hPc hDc hFc hP1 hD1 ht
  generalize H1 = H at hP hS ⊢
  have hP : va_P (dC, dI) classes [(om k0 a (upd (upd I0 14 7) 15 (I0 15 + 1)) J0)] H := hP
  have hD : va_D A [(om k0 a (upd (upd I0 14 7) 15 (I0 15 + 1)) J0)] := hD
  refine lv_iconst (v := (-1)) hx hb dX11_no_5 (by decide) ?_
  refine lv_icmp_eq (tgt := 13) hx hb dX11_no_6 (by decide) (fun c_1 => ?_) (fun c_1 => ?_)
  · refine lv_iconst (v := 0) hx hb dX11_no_13 (by decide) ?_
    have hP9 := hP.sub (ws' := [(om k0 a (upd (upd I0 14 7) 15 (I0 15 + 1)) J0)]) [0] rfl
    have hD9 := hD.sub (ws' := [(om k0 a (upd (upd I0 14 7) 15 (I0 15 + 1)) J0)]) [0] (by decide) rfl
    rw [hQ9]
    exact W.zret (ty := .boolean) (v := 0) hx hb hr (rfl) (fun t ht hW => ⟨⟨rfl, by rw [ht]; exact hP9, hD9⟩, hS.F ht⟩) hS.2.2 dX11_no_14
  · exact absurd (by decide) c_1
set_option maxHeartbeats 4000000 in
set_option maxRecDepth 100000 in
theorem k_M_no (l : Launch) (dC : Nat → ClassId) (dI : Nat → Nat → Nat) (cI cZ cF : ClassId) (sz : Nat) (k0 : Nat) (a : Nat → Nat) (I0 : Nat → Int32) (J0 : Nat → Int64) (w : Int32) (hw : ¬ w.toInt = 7) : Met l yX11_no (.code yX11_no cX11_no 2 (some .boolean) :: ws0) ({ frames := 1, cells := 0, slots := 0, locals := 21 } : Room) (va_Pc [.ref k0, .int w] (zPre (dC, dI) classes (zTy cI cZ cF) [(om k0 a I0 J0)] sz zXN)) (zQ (some (.int 0)) (fun t => va_P (dC, dI) classes [(om k0 a (upd (upd I0 14 w) 15 (I0 15)) J0)] t.heap ∧ va_D (va_A [(om k0 a I0 J0)] sz) [(om k0 a (upd (upd I0 14 w) 15 (I0 15)) J0)]) (va_A [(om k0 a I0 J0)] sz)) 0 0 (va_A [(om k0 a I0 J0)] sz) := by
  refine Met.ofW (cc := cX11_no) (maxL := 2) (ret := (some .boolean)) (by decide) rfl ?_
  intro p e s m args below meth c s₁ B hml hv
  obtain ⟨rfl, hsz, hP, hK, hD0, hXN⟩ := hv
  have hx := B.exec
  have hb := B.bytes
  have hr := B.returns
  have hts0 := atoms_spec (ws := .code yX11_no cX11_no 2 (some .boolean) :: ws0) B.pre
  have hts : ∀ w9 ∈ ws0, w9.before ([.ref k0, .int w] : List Value).toArray s = true := fun w9 h => hts0 w9 (List.mem_cons_of_mem _ h)
  have hown : s.vm.findClass "ScaleShopModel" = some m.cls := findClass_of_methodNamed B.named
  have hlocks := B.notSynchronized
  subst hsz
  have hD := hD0.self (sz := s.heap.size)
  clear hD0
  generalize hAe : va_A [(om k0 a I0 J0)] s.heap.size = A at hD ⊢
  have hA : ∀ q : Nat, s.heap.size ≤ q → A q := fun q h => by rw [← hAe]; exact Or.inr h
  clear hAe
  have hS : va_S A s.heap s.heap [] := va_S.rf
  have hP : va_P (dC, dI) classes [(om k0 a I0 J0)] s.heap := hP
  obtain ⟨Q9, hQ9⟩ : ∃ Q9 : State → Prop, Q9 = MQ below (zQ (some (.int 0)) (fun t => va_P (dC, dI) classes [(om k0 a (upd (upd I0 14 w) 15 (I0 15)) J0)] t.heap ∧ va_D A [(om k0 a (upd (upd I0 14 w) 15 (I0 15)) J0)]) A) ([.ref k0, .int w] : List Value).toArray s 0 0 A := ⟨_, rfl⟩
  rw [← hQ9]
  have hl := lv_entry ([.ref k0, .int w]) (n := 2) (Nat.le_of_ble_eq_true rfl)
  rw [lg_entry_eq]
  generalize (lg_sl ([.ref k0, .int w]) ++ List.replicate (2 - (lg_sl ([.ref k0, .int w])).length) Slot.unset).toArray = ls at hl ⊢
  have hl : lv_has ls 2 [(0, .ref k0), (1, .int w)] := hl
  refine lv_aload_n hx hb dX11_no_0 rfl (lv_at hl 0 rfl) ?_
  refine lv_iload_n hx hb dX11_no_1 rfl (lv_at hl 1 rfl) ?_
  have hPc := hP.sub (ws' := [(om k0 a I0 J0)]) [0] rfl
  have hDc := hD.sub (ws' := [(om k0 a I0 J0)]) [0] (by decide) rfl
  have hFc := va_free (wc := [(om k0 a I0 J0)]) hD hS hA [0] rfl
  refine zcall (st1 := [.int (-1)]) (va_runV (As := [.int w]) (rest := []) ⟨hx, hb, hml, hown, hts⟩ (k_M_refuse l dC dI cI cZ cF s.heap.size k0 a I0 J0 w (hw)) (cwV 1 hts (zz_gV mw_1329 mw_1331 mw_34 mw_110 mc_yX11_refuse) rfl rfl rfl (by decide +kernel) ⟨Nat.le_of_ble_eq_true rfl, Nat.le_of_ble_eq_true rfl⟩) (zPV2 (q0 := 0) (ci := 9) hPc hDc hK hXN rfl rfl) rfl rfl hl.1 rfl (lv_room (Nat.le_of_ble_eq_true rfl)) dX11_no_2 ⟨Nat.le_of_ble_eq_true rfl, Nat.le_of_ble_eq_true rfl⟩) hS hFc hFc rfl (fun t H1 locs ht hB hk1 hS => ?_)
  obtain ⟨hP1, hD1⟩ := hB
  rw [ht] at hP1
  obtain ⟨hP, hD⟩ := va_join (wr := []) (w1 := [(om k0 a (upd (upd I0 14 w) 15 (I0 15)) J0)]) hP hD [0] [] rfl rfl (by decide) (by decide) hk1 hFc hP1 hD1
  clear hk1 hPc hDc hFc hP1 hD1 ht
  generalize H1 = H at hP hS ⊢
  have hP : va_P (dC, dI) classes [(om k0 a (upd (upd I0 14 w) 15 (I0 15)) J0)] H := hP
  have hD : va_D A [(om k0 a (upd (upd I0 14 w) 15 (I0 15)) J0)] := hD
  refine lv_iconst (v := (-1)) hx hb dX11_no_5 (by decide) ?_
  refine lv_icmp_eq (tgt := 13) hx hb dX11_no_6 (by decide) (fun c_1 => ?_) (fun c_1 => ?_)
  · refine lv_iconst (v := 0) hx hb dX11_no_13 (by decide) ?_
    have hP9 := hP.sub (ws' := [(om k0 a (upd (upd I0 14 w) 15 (I0 15)) J0)]) [0] rfl
    have hD9 := hD.sub (ws' := [(om k0 a (upd (upd I0 14 w) 15 (I0 15)) J0)]) [0] (by decide) rfl
    rw [hQ9]
    exact W.zret (ty := .boolean) (v := 0) hx hb hr (rfl) (fun t ht hW => ⟨⟨rfl, by rw [ht]; exact hP9, hD9⟩, hS.F ht⟩) hS.2.2 dX11_no_14
  · exact absurd (by decide) c_1
set_option maxHeartbeats 4000000 in
set_option maxRecDepth 100000 in
theorem k_M_wrong (l : Launch) (dC : Nat → ClassId) (dI : Nat → Nat → Nat) (cI cZ cF : ClassId) (sz : Nat) (k0 : Nat) (a : Nat → Nat) (I0 : Nat → Int32) (J0 : Nat → Int64) (f : Nat) (ft : Nat) (st : Nat → Int32) (hft : I0 0 = nI ft) (h200 : ft ≤ 200) (hf_t : f < ft) : Met l yX11_wrong (.code yX11_wrong cX11_wrong 2 (some .int) :: ws0) ({ frames := 1, cells := 0, slots := 0, locals := 21 } : Room) (va_Pc [.ref k0, .int (nI f)] (zPre (dC, dI) classes (zTy cI cZ cF) [(om k0 a I0 J0), (oa (a 5) cI 201 st)] sz zXN)) (zQ (some (.int (wrN (st f)))) (fun t => va_P (dC, dI) classes [(om k0 a I0 J0), (oa (a 5) cI 201 st)] t.heap ∧ va_D (va_A [(om k0 a I0 J0), (oa (a 5) cI 201 st)] sz) [(om k0 a I0 J0), (oa (a 5) cI 201 st)]) (va_A [(om k0 a I0 J0), (oa (a 5) cI 201 st)] sz)) 0 0 (va_A [(om k0 a I0 J0), (oa (a 5) cI 201 st)] sz) := by
  refine Met.ofW (cc := cX11_wrong) (maxL := 2) (ret := (some .int)) (by decide) rfl ?_
  intro p e s m args below meth c s₁ B hml hv
  obtain ⟨rfl, hsz, hP, hK, hD0, hXN⟩ := hv
  have hx := B.exec
  have hb := B.bytes
  have hr := B.returns
  have hts0 := atoms_spec (ws := .code yX11_wrong cX11_wrong 2 (some .int) :: ws0) B.pre
  have hts : ∀ w9 ∈ ws0, w9.before ([.ref k0, .int (nI f)] : List Value).toArray s = true := fun w9 h => hts0 w9 (List.mem_cons_of_mem _ h)
  have hown : s.vm.findClass "ScaleShopModel" = some m.cls := findClass_of_methodNamed B.named
  have hlocks := B.notSynchronized
  subst hsz
  have hD := hD0.self (sz := s.heap.size)
  clear hD0
  generalize hAe : va_A [(om k0 a I0 J0), (oa (a 5) cI 201 st)] s.heap.size = A at hD ⊢
  have hA : ∀ q : Nat, s.heap.size ≤ q → A q := fun q h => by rw [← hAe]; exact Or.inr h
  clear hAe
  have hS : va_S A s.heap s.heap [] := va_S.rf
  have hP : va_P (dC, dI) classes [(om k0 a I0 J0), (oa (a 5) cI 201 st)] s.heap := hP
  obtain ⟨Q9, hQ9⟩ : ∃ Q9 : State → Prop, Q9 = MQ below (zQ (some (.int (wrN (st f)))) (fun t => va_P (dC, dI) classes [(om k0 a I0 J0), (oa (a 5) cI 201 st)] t.heap ∧ va_D A [(om k0 a I0 J0), (oa (a 5) cI 201 st)]) A) ([.ref k0, .int (nI f)] : List Value).toArray s 0 0 A := ⟨_, rfl⟩
  rw [← hQ9]
  have hl := lv_entry ([.ref k0, .int (nI f)]) (n := 2) (Nat.le_of_ble_eq_true rfl)
  rw [lg_entry_eq]
  generalize (lg_sl ([.ref k0, .int (nI f)]) ++ List.replicate (2 - (lg_sl ([.ref k0, .int (nI f)])).length) Slot.unset).toArray = ls at hl ⊢
  have hl : lv_has ls 2 [(0, .ref k0), (1, .int (nI f))] := hl
  refine lv_aload_n hx hb dX11_wrong_0 rfl (lv_at hl 0 rfl) ?_
  refine lv_iload_n hx hb dX11_wrong_1 rfl (lv_at hl 1 rfl) ?_
  have hPc := hP.sub (ws' := [(om k0 a I0 J0)]) [0] rfl
  have hDc := hD.sub (ws' := [(om k0 a I0 J0)]) [0] (by decide) rfl
  have hFc := va_free (wc := [(om k0 a I0 J0)]) hD hS hA [0] rfl
  refine zcall (st1 := [.int (pI (f < ft))]) (va_runV (As := [.int (nI f)]) (rest := []) ⟨hx, hb, hml, hown, hts⟩ (k_M_isFeature_n l dC dI cI cZ cF s.heap.size k0 a I0 J0 f ft (by assumption) (by omega) (by omega)) (cwV 1 hts (zz_gV mw_1345 mw_1347 mw_37 mw_110 mc_yX11_isFeature) rfl rfl rfl (by decide +kernel) ⟨Nat.le_of_ble_eq_true rfl, Nat.le_of_ble_eq_true rfl⟩) (zPV2 (q0 := 0) (ci := 9) hPc hDc hK hXN rfl rfl) rfl rfl hl.1 rfl (lv_room (Nat.le_of_ble_eq_true rfl)) dX11_wrong_2 ⟨Nat.le_of_ble_eq_true rfl, Nat.le_of_ble_eq_true rfl⟩) hS hFc hFc rfl (fun t H1 locs ht hB hk1 hS => ?_)
  obtain ⟨hP1, hD1⟩ := hB
  rw [ht] at hP1
  obtain ⟨hP, hD⟩ := va_join (wr := [(oa (a 5) cI 201 st)]) (w1 := [(om k0 a I0 J0)]) hP hD [0] [1] rfl rfl (by decide) (by decide) hk1 hFc hP1 hD1
  clear hk1 hPc hDc hFc hP1 hD1 ht
  generalize H1 = H at hP hS ⊢
  have hP := hP.sub (ws' := [(om k0 a I0 J0), (oa (a 5) cI 201 st)]) [1, 0] rfl
  have hD := hD.sub (ws' := [(om k0 a I0 J0), (oa (a 5) cI 201 st)]) [1, 0] (by decide) rfl
  have hP : va_P (dC, dI) classes [(om k0 a I0 J0), (oa (a 5) cI 201 st)] H := hP
  have hD : va_D A [(om k0 a I0 J0), (oa (a 5) cI 201 st)] := hD
  refine lv_if_ne (tgt := 12) hx hb dX11_wrong_5 (by decide) (fun c_1 => ?_) (fun c_1 => ?_)
  · have c_1 : f < ft := zp_1 c_1
    refine lv_aload_n hx hb dX11_wrong_12 rfl (lv_at hl 0 rfl) ?_
    refine va_get (D := (dC, dI)) (ci := 9) (v := .ref (a 5)) (C := RX11) (T := TX11) (N := 55) hx hb hts inX11 hown hK hP 0 rfl rfl 5 (by decide) (hts _ mw_1164) (fun _ h9 => h9) rfl dX11_wrong_13 ?_
    refine lv_iload_n hx hb dX11_wrong_16 rfl (lv_at hl 1 rfl) ?_
    refine z_iald hx hb hK hP 1 0 rfl rfl (e := f) rfl (by omega) (by omega) dX11_wrong_17 ?_
    refine lv_iconst (v := 1) hx hb dX11_wrong_18 (by decide) ?_
    refine lv_icmp_eq (tgt := 26) hx hb dX11_wrong_19 (by decide) (fun c_2 => ?_) (fun c_2 => ?_)
    · have c_2 : (st f).toInt = 1 := zc_eq rfl (by decide) c_2
      refine lv_iconst (v := 0) hx hb dX11_wrong_26 (by decide) ?_
      have hP9 := hP.sub (ws' := [(om k0 a I0 J0), (oa (a 5) cI 201 st)]) [0, 1] rfl
      have hD9 := hD.sub (ws' := [(om k0 a I0 J0), (oa (a 5) cI 201 st)]) [0, 1] (by decide) rfl
      rw [hQ9]
      exact W.iret (v := 0) hx hb hr (fun t ht hW => ⟨⟨congrArg (fun z => Outcome.returned (some (Value.int z))) (show (0 : Int32) = wrN (st f) from by unfold wrN; first | (rw [if_pos (by omega)]) | (rw [if_neg (by omega)])), by rw [ht]; exact hP9, hD9⟩, hS.F ht⟩) hS.2.2 dX11_wrong_27
    · have c_2 : ¬ (st f).toInt = 1 := zc_ne rfl (by decide) c_2
      refine lv_iconst (v := 2) hx hb dX11_wrong_22 (by decide) ?_
      refine lv_goto (tgt := 27) hx hb dX11_wrong_23 (by decide) ?_
      have hP9 := hP.sub (ws' := [(om k0 a I0 J0), (oa (a 5) cI 201 st)]) [0, 1] rfl
      have hD9 := hD.sub (ws' := [(om k0 a I0 J0), (oa (a 5) cI 201 st)]) [0, 1] (by decide) rfl
      rw [hQ9]
      exact W.iret (v := 2) hx hb hr (fun t ht hW => ⟨⟨congrArg (fun z => Outcome.returned (some (Value.int z))) (show (2 : Int32) = wrN (st f) from by unfold wrN; first | (rw [if_pos (by omega)]) | (rw [if_neg (by omega)])), by rw [ht]; exact hP9, hD9⟩, hS.F ht⟩) hS.2.2 dX11_wrong_27
  · have c_1 : ¬ (f < ft) := zp_0 c_1
    exfalso; omega
set_option maxHeartbeats 4000000 in
set_option maxRecDepth 100000 in
theorem k_M_wrong_x (l : Launch) (dC : Nat → ClassId) (dI : Nat → Nat → Nat) (cI cZ cF : ClassId) (sz : Nat) (k0 : Nat) (a : Nat → Nat) (I0 : Nat → Int32) (J0 : Nat → Int64) (ft : Nat) (v : Int32) (hft : I0 0 = nI ft) (h200 : ft ≤ 200) (hv : ¬ (0 ≤ v.toInt ∧ v.toInt < (ft : Int))) : Met l yX11_wrong (.code yX11_wrong cX11_wrong 2 (some .int) :: ws0) ({ frames := 1, cells := 0, slots := 0, locals := 21 } : Room) (va_Pc [.ref k0, .int v] (zPre (dC, dI) classes (zTy cI cZ cF) [(om k0 a I0 J0)] sz zXN)) (zQ (some (.int 1)) (fun t => va_P (dC, dI) classes [(om k0 a I0 J0)] t.heap ∧ va_D (va_A [(om k0 a I0 J0)] sz) [(om k0 a I0 J0)]) (va_A [(om k0 a I0 J0)] sz)) 0 0 (va_A [(om k0 a I0 J0)] sz) := by
  refine Met.ofW (cc := cX11_wrong) (maxL := 2) (ret := (some .int)) (by decide) rfl ?_
  intro p e s m args below meth c s₁ B hml hv
  obtain ⟨rfl, hsz, hP, hK, hD0, hXN⟩ := hv
  have hx := B.exec
  have hb := B.bytes
  have hr := B.returns
  have hts0 := atoms_spec (ws := .code yX11_wrong cX11_wrong 2 (some .int) :: ws0) B.pre
  have hts : ∀ w9 ∈ ws0, w9.before ([.ref k0, .int v] : List Value).toArray s = true := fun w9 h => hts0 w9 (List.mem_cons_of_mem _ h)
  have hown : s.vm.findClass "ScaleShopModel" = some m.cls := findClass_of_methodNamed B.named
  have hlocks := B.notSynchronized
  subst hsz
  have hD := hD0.self (sz := s.heap.size)
  clear hD0
  generalize hAe : va_A [(om k0 a I0 J0)] s.heap.size = A at hD ⊢
  have hA : ∀ q : Nat, s.heap.size ≤ q → A q := fun q h => by rw [← hAe]; exact Or.inr h
  clear hAe
  have hS : va_S A s.heap s.heap [] := va_S.rf
  have hP : va_P (dC, dI) classes [(om k0 a I0 J0)] s.heap := hP
  obtain ⟨Q9, hQ9⟩ : ∃ Q9 : State → Prop, Q9 = MQ below (zQ (some (.int 1)) (fun t => va_P (dC, dI) classes [(om k0 a I0 J0)] t.heap ∧ va_D A [(om k0 a I0 J0)]) A) ([.ref k0, .int v] : List Value).toArray s 0 0 A := ⟨_, rfl⟩
  rw [← hQ9]
  have hl := lv_entry ([.ref k0, .int v]) (n := 2) (Nat.le_of_ble_eq_true rfl)
  rw [lg_entry_eq]
  generalize (lg_sl ([.ref k0, .int v]) ++ List.replicate (2 - (lg_sl ([.ref k0, .int v])).length) Slot.unset).toArray = ls at hl ⊢
  have hl : lv_has ls 2 [(0, .ref k0), (1, .int v)] := hl
  refine lv_aload_n hx hb dX11_wrong_0 rfl (lv_at hl 0 rfl) ?_
  refine lv_iload_n hx hb dX11_wrong_1 rfl (lv_at hl 1 rfl) ?_
  have hPc := hP.sub (ws' := [(om k0 a I0 J0)]) [0] rfl
  have hDc := hD.sub (ws' := [(om k0 a I0 J0)]) [0] (by decide) rfl
  have hFc := va_free (wc := [(om k0 a I0 J0)]) hD hS hA [0] rfl
  refine zcall (st1 := [.int (pI (0 ≤ v.toInt ∧ v.toInt < (ft : Int)))]) (va_runV (As := [.int v]) (rest := []) ⟨hx, hb, hml, hown, hts⟩ (k_M_isFeature l dC dI cI cZ cF s.heap.size k0 a I0 J0 ft v (by assumption) (by omega)) (cwV 1 hts (zz_gV mw_1345 mw_1347 mw_37 mw_110 mc_yX11_isFeature) rfl rfl rfl (by decide +kernel) ⟨Nat.le_of_ble_eq_true rfl, Nat.le_of_ble_eq_true rfl⟩) (zPV2 (q0 := 0) (ci := 9) hPc hDc hK hXN rfl rfl) rfl rfl hl.1 rfl (lv_room (Nat.le_of_ble_eq_true rfl)) dX11_wrong_2 ⟨Nat.le_of_ble_eq_true rfl, Nat.le_of_ble_eq_true rfl⟩) hS hFc hFc rfl (fun t H1 locs ht hB hk1 hS => ?_)
  obtain ⟨hP1, hD1⟩ := hB
  rw [ht] at hP1
  obtain ⟨hP, hD⟩ := va_join (wr := []) (w1 := [(om k0 a I0 J0)]) hP hD [0] [] rfl rfl (by decide) (by decide) hk1 hFc hP1 hD1
  clear hk1 hPc hDc hFc hP1 hD1 ht
  generalize H1 = H at hP hS ⊢
  have hP : va_P (dC, dI) classes [(om k0 a I0 J0)] H := hP
  have hD : va_D A [(om k0 a I0 J0)] := hD
  refine lv_if_ne (tgt := 12) hx hb dX11_wrong_5 (by decide) (fun c_1 => ?_) (fun c_1 => ?_)
  · have c_1 : 0 ≤ v.toInt ∧ v.toInt < (ft : Int) := zp_1 c_1
    exfalso; exact absurd (by assumption) hv
  · have c_1 : ¬ (0 ≤ v.toInt ∧ v.toInt < (ft : Int)) := zp_0 c_1
    refine lv_iconst (v := 1) hx hb dX11_wrong_8 (by decide) ?_
    refine lv_goto (tgt := 27) hx hb dX11_wrong_9 (by decide) ?_
    have hP9 := hP.sub (ws' := [(om k0 a I0 J0)]) [0] rfl
    have hD9 := hD.sub (ws' := [(om k0 a I0 J0)]) [0] (by decide) rfl
    rw [hQ9]
    exact W.iret (v := 1) hx hb hr (fun t ht hW => ⟨⟨rfl, by rw [ht]; exact hP9, hD9⟩, hS.F ht⟩) hS.2.2 dX11_wrong_27
set_option maxHeartbeats 4000000 in
set_option maxRecDepth 100000 in
theorem k_M_isPlainable (l : Launch) (dC : Nat → ClassId) (dI : Nat → Nat → Nat) (cI cZ cF : ClassId) (sz : Nat) (k0 : Nat) (a : Nat → Nat) (I0 : Nat → Int32) (J0 : Nat → Int64) (f : Nat) (kd : Nat → Int32) (hf_f : f ≤ 200) : Met l yX11_isPlainable (.code yX11_isPlainable cX11_isPlainable 2 (some .boolean) :: ws0) ({ frames := 0, cells := 0, slots := 0, locals := 0 } : Room) (va_Pc [.ref k0, .int (nI f)] (zPre (dC, dI) classes (zTy cI cZ cF) [(om k0 a I0 J0), (oa (a 1) cI 201 kd)] sz zXN)) (zQ (some (.int (pI (¬ (kd f).toInt = 0 ∧ ¬ (kd f).toInt = 6)))) (fun t => va_P (dC, dI) classes [(om k0 a I0 J0), (oa (a 1) cI 201 kd)] t.heap ∧ va_D (va_A [(om k0 a I0 J0), (oa (a 1) cI 201 kd)] sz) [(om k0 a I0 J0), (oa (a 1) cI 201 kd)]) (va_A [(om k0 a I0 J0), (oa (a 1) cI 201 kd)] sz)) 0 0 (va_A [(om k0 a I0 J0), (oa (a 1) cI 201 kd)] sz) := by
  refine Met.ofW (cc := cX11_isPlainable) (maxL := 2) (ret := (some .boolean)) (by decide) rfl ?_
  intro p e s m args below meth c s₁ B hml hv
  obtain ⟨rfl, hsz, hP, hK, hD0, hXN⟩ := hv
  have hx := B.exec
  have hb := B.bytes
  have hr := B.returns
  have hts0 := atoms_spec (ws := .code yX11_isPlainable cX11_isPlainable 2 (some .boolean) :: ws0) B.pre
  have hts : ∀ w9 ∈ ws0, w9.before ([.ref k0, .int (nI f)] : List Value).toArray s = true := fun w9 h => hts0 w9 (List.mem_cons_of_mem _ h)
  have hown : s.vm.findClass "ScaleShopModel" = some m.cls := findClass_of_methodNamed B.named
  have hlocks := B.notSynchronized
  subst hsz
  have hD := hD0.self (sz := s.heap.size)
  clear hD0
  generalize hAe : va_A [(om k0 a I0 J0), (oa (a 1) cI 201 kd)] s.heap.size = A at hD ⊢
  have hA : ∀ q : Nat, s.heap.size ≤ q → A q := fun q h => by rw [← hAe]; exact Or.inr h
  clear hAe
  have hS : va_S A s.heap s.heap [] := va_S.rf
  have hP : va_P (dC, dI) classes [(om k0 a I0 J0), (oa (a 1) cI 201 kd)] s.heap := hP
  obtain ⟨Q9, hQ9⟩ : ∃ Q9 : State → Prop, Q9 = MQ below (zQ (some (.int (pI (¬ (kd f).toInt = 0 ∧ ¬ (kd f).toInt = 6)))) (fun t => va_P (dC, dI) classes [(om k0 a I0 J0), (oa (a 1) cI 201 kd)] t.heap ∧ va_D A [(om k0 a I0 J0), (oa (a 1) cI 201 kd)]) A) ([.ref k0, .int (nI f)] : List Value).toArray s 0 0 A := ⟨_, rfl⟩
  rw [← hQ9]
  have hl := lv_entry ([.ref k0, .int (nI f)]) (n := 2) (Nat.le_of_ble_eq_true rfl)
  rw [lg_entry_eq]
  generalize (lg_sl ([.ref k0, .int (nI f)]) ++ List.replicate (2 - (lg_sl ([.ref k0, .int (nI f)])).length) Slot.unset).toArray = ls at hl ⊢
  have hl : lv_has ls 2 [(0, .ref k0), (1, .int (nI f))] := hl
  refine lv_aload_n hx hb dX11_isPlainable_0 rfl (lv_at hl 0 rfl) ?_
  refine va_get (D := (dC, dI)) (ci := 9) (v := .ref (a 1)) (C := RX11) (T := TX11) (N := 55) hx hb hts inX11 hown hK hP 0 rfl rfl 1 (by decide) (hts _ mw_1160) (fun _ h9 => h9) rfl dX11_isPlainable_1 ?_
  refine lv_iload_n hx hb dX11_isPlainable_4 rfl (lv_at hl 1 rfl) ?_
  refine z_iald hx hb hK hP 1 0 rfl rfl (e := f) rfl (by omega) (by omega) dX11_isPlainable_5 ?_
  refine lv_if_eq (tgt := 24) hx hb dX11_isPlainable_6 (by decide) (fun c_1 => ?_) (fun c_1 => ?_)
  · have c_1 : (kd f).toInt = 0 := zc_eq rfl (by decide) c_1
    refine lv_iconst (v := 0) hx hb dX11_isPlainable_24 (by decide) ?_
    have hP9 := hP.sub (ws' := [(om k0 a I0 J0), (oa (a 1) cI 201 kd)]) [0, 1] rfl
    have hD9 := hD.sub (ws' := [(om k0 a I0 J0), (oa (a 1) cI 201 kd)]) [0, 1] (by decide) rfl
    rw [hQ9]
    exact W.zret (ty := .boolean) (v := 0) hx hb hr (rfl) (fun t ht hW => ⟨⟨congrArg (fun z => Outcome.returned (some (Value.int z))) (show (0 : Int32) = pI (¬ (kd f).toInt = 0 ∧ ¬ (kd f).toInt = 6) from (zp_f (by omega)).symm), by rw [ht]; exact hP9, hD9⟩, hS.F ht⟩) hS.2.2 dX11_isPlainable_25
  · have c_1 : ¬ (kd f).toInt = 0 := zc_ne rfl (by decide) c_1
    refine lv_aload_n hx hb dX11_isPlainable_9 rfl (lv_at hl 0 rfl) ?_
    refine va_get (D := (dC, dI)) (ci := 9) (v := .ref (a 1)) (C := RX11) (T := TX11) (N := 55) hx hb hts inX11 hown hK hP 0 rfl rfl 1 (by decide) (hts _ mw_1160) (fun _ h9 => h9) rfl dX11_isPlainable_10 ?_
    refine lv_iload_n hx hb dX11_isPlainable_13 rfl (lv_at hl 1 rfl) ?_
    refine z_iald hx hb hK hP 1 0 rfl rfl (e := f) rfl (by omega) (by omega) dX11_isPlainable_14 ?_
    refine lv_bipush (v := 6) hx hb dX11_isPlainable_15 (by decide) ?_
    refine lv_icmp_eq (tgt := 24) hx hb dX11_isPlainable_17 (by decide) (fun c_2 => ?_) (fun c_2 => ?_)
    · have c_2 : (kd f).toInt = 6 := zc_eq rfl (by decide) c_2
      refine lv_iconst (v := 0) hx hb dX11_isPlainable_24 (by decide) ?_
      have hP9 := hP.sub (ws' := [(om k0 a I0 J0), (oa (a 1) cI 201 kd)]) [0, 1] rfl
      have hD9 := hD.sub (ws' := [(om k0 a I0 J0), (oa (a 1) cI 201 kd)]) [0, 1] (by decide) rfl
      rw [hQ9]
      exact W.zret (ty := .boolean) (v := 0) hx hb hr (rfl) (fun t ht hW => ⟨⟨congrArg (fun z => Outcome.returned (some (Value.int z))) (show (0 : Int32) = pI (¬ (kd f).toInt = 0 ∧ ¬ (kd f).toInt = 6) from (zp_f (by omega)).symm), by rw [ht]; exact hP9, hD9⟩, hS.F ht⟩) hS.2.2 dX11_isPlainable_25
    · have c_2 : ¬ (kd f).toInt = 6 := zc_ne rfl (by decide) c_2
      refine lv_iconst (v := 1) hx hb dX11_isPlainable_20 (by decide) ?_
      refine lv_goto (tgt := 25) hx hb dX11_isPlainable_21 (by decide) ?_
      have hP9 := hP.sub (ws' := [(om k0 a I0 J0), (oa (a 1) cI 201 kd)]) [0, 1] rfl
      have hD9 := hD.sub (ws' := [(om k0 a I0 J0), (oa (a 1) cI 201 kd)]) [0, 1] (by decide) rfl
      rw [hQ9]
      exact W.zret (ty := .boolean) (v := 1) hx hb hr (rfl) (fun t ht hW => ⟨⟨congrArg (fun z => Outcome.returned (some (Value.int z))) (show (1 : Int32) = pI (¬ (kd f).toInt = 0 ∧ ¬ (kd f).toInt = 6) from (zp_t (by omega)).symm), by rw [ht]; exact hP9, hD9⟩, hS.F ht⟩) hS.2.2 dX11_isPlainable_25
set_option maxHeartbeats 4000000 in
set_option maxRecDepth 100000 in
theorem k_M_gone (l : Launch) (dC : Nat → ClassId) (dI : Nat → Nat → Nat) (cI cZ cF : ClassId) (sz : Nat) (k0 : Nat) (a : Nat → Nat) (I0 : Nat → Int32) (J0 : Nat → Int64) (f : Nat) (w : Int32) (st : Nat → Int32) (gb : Nat → Int32) (it : Nat → Int32) (hf_f : f ≤ 200) : Met l yX11_gone (.code yX11_gone cX11_gone 3 none :: ws0) ({ frames := 0, cells := 0, slots := 0, locals := 0 } : Room) (va_Pc [.ref k0, .int (nI f), .int w] (zPre (dC, dI) classes (zTy cI cZ cF) [(om k0 a I0 J0), (oa (a 5) cI 201 st), (oa (a 7) cI 201 gb), (oa (a 10) cI 201 it)] sz zXN)) (zQ none (fun t => va_P (dC, dI) classes [(om k0 a I0 J0), (oa (a 5) cI 201 (upd st f 2)), (oa (a 7) cI 201 (upd gb f (I0 19 + 1))), (oa (a 10) cI 201 (upd it f w))] t.heap ∧ va_D (va_A [(om k0 a I0 J0), (oa (a 5) cI 201 st), (oa (a 7) cI 201 gb), (oa (a 10) cI 201 it)] sz) [(om k0 a I0 J0), (oa (a 5) cI 201 (upd st f 2)), (oa (a 7) cI 201 (upd gb f (I0 19 + 1))), (oa (a 10) cI 201 (upd it f w))]) (va_A [(om k0 a I0 J0), (oa (a 5) cI 201 st), (oa (a 7) cI 201 gb), (oa (a 10) cI 201 it)] sz)) 0 0 (va_A [(om k0 a I0 J0), (oa (a 5) cI 201 st), (oa (a 7) cI 201 gb), (oa (a 10) cI 201 it)] sz) := by
  refine Met.ofW (cc := cX11_gone) (maxL := 3) (ret := none) (by decide) rfl ?_
  intro p e s m args below meth c s₁ B hml hv
  obtain ⟨rfl, hsz, hP, hK, hD0, hXN⟩ := hv
  have hx := B.exec
  have hb := B.bytes
  have hr := B.returns
  have hts0 := atoms_spec (ws := .code yX11_gone cX11_gone 3 none :: ws0) B.pre
  have hts : ∀ w9 ∈ ws0, w9.before ([.ref k0, .int (nI f), .int w] : List Value).toArray s = true := fun w9 h => hts0 w9 (List.mem_cons_of_mem _ h)
  have hown : s.vm.findClass "ScaleShopModel" = some m.cls := findClass_of_methodNamed B.named
  have hlocks := B.notSynchronized
  subst hsz
  have hD := hD0.self (sz := s.heap.size)
  clear hD0
  generalize hAe : va_A [(om k0 a I0 J0), (oa (a 5) cI 201 st), (oa (a 7) cI 201 gb), (oa (a 10) cI 201 it)] s.heap.size = A at hD ⊢
  have hA : ∀ q : Nat, s.heap.size ≤ q → A q := fun q h => by rw [← hAe]; exact Or.inr h
  clear hAe
  have hS : va_S A s.heap s.heap [] := va_S.rf
  have hP : va_P (dC, dI) classes [(om k0 a I0 J0), (oa (a 5) cI 201 st), (oa (a 7) cI 201 gb), (oa (a 10) cI 201 it)] s.heap := hP
  obtain ⟨Q9, hQ9⟩ : ∃ Q9 : State → Prop, Q9 = MQ below (zQ none (fun t => va_P (dC, dI) classes [(om k0 a I0 J0), (oa (a 5) cI 201 (upd st f 2)), (oa (a 7) cI 201 (upd gb f (I0 19 + 1))), (oa (a 10) cI 201 (upd it f w))] t.heap ∧ va_D A [(om k0 a I0 J0), (oa (a 5) cI 201 (upd st f 2)), (oa (a 7) cI 201 (upd gb f (I0 19 + 1))), (oa (a 10) cI 201 (upd it f w))]) A) ([.ref k0, .int (nI f), .int w] : List Value).toArray s 0 0 A := ⟨_, rfl⟩
  rw [← hQ9]
  have hl := lv_entry ([.ref k0, .int (nI f), .int w]) (n := 3) (Nat.le_of_ble_eq_true rfl)
  rw [lg_entry_eq]
  generalize (lg_sl ([.ref k0, .int (nI f), .int w]) ++ List.replicate (3 - (lg_sl ([.ref k0, .int (nI f), .int w])).length) Slot.unset).toArray = ls at hl ⊢
  have hl : lv_has ls 3 [(0, .ref k0), (1, .int (nI f)), (2, .int w)] := hl
  refine lv_aload_n hx hb dX11_gone_0 rfl (lv_at hl 0 rfl) ?_
  refine va_get (D := (dC, dI)) (ci := 9) (v := .ref (a 5)) (C := RX11) (T := TX11) (N := 55) hx hb hts inX11 hown hK hP 0 rfl rfl 5 (by decide) (hts _ mw_1164) (fun _ h9 => h9) rfl dX11_gone_1 ?_
  refine lv_iload_n hx hb dX11_gone_4 rfl (lv_at hl 1 rfl) ?_
  refine lv_iconst (v := 2) hx hb dX11_gone_5 (by decide) ?_
  refine z_iast hx hb hK hP hD hS 1 0 rfl rfl (e := f) (x := 2) rfl (by omega) (by omega) dX11_gone_6 (fun H locs hP hD hS => ?_)
  have hP : va_P (dC, dI) classes [(om k0 a I0 J0), (oa (a 5) cI 201 (upd st f 2)), (oa (a 7) cI 201 gb), (oa (a 10) cI 201 it)] H := hP
  have hD : va_D A [(om k0 a I0 J0), (oa (a 5) cI 201 (upd st f 2)), (oa (a 7) cI 201 gb), (oa (a 10) cI 201 it)] := hD
  refine lv_aload_n hx hb dX11_gone_7 rfl (lv_at hl 0 rfl) ?_
  refine va_get (D := (dC, dI)) (ci := 9) (v := .ref (a 7)) (C := RX11) (T := TX11) (N := 55) hx hb hts inX11 hown hK hP 0 rfl rfl 7 (by decide) (hts _ mw_1166) (fun _ h9 => h9) rfl dX11_gone_8 ?_
  refine lv_iload_n hx hb dX11_gone_11 rfl (lv_at hl 1 rfl) ?_
  refine lv_aload_n hx hb dX11_gone_12 rfl (lv_at hl 0 rfl) ?_
  refine va_get (D := (dC, dI)) (ci := 9) (v := .int (I0 19)) (C := RX11) (T := TX11) (N := 55) hx hb hts inX11 hown hK hP 0 rfl rfl 19 (by decide) (hts _ mw_1178) (fun _ h9 => h9) rfl dX11_gone_13 ?_
  refine lv_iconst (v := 1) hx hb dX11_gone_16 (by decide) ?_
  refine lv_iadd hx hb dX11_gone_17 ?_
  refine z_iast hx hb hK hP hD hS 2 0 rfl rfl (e := f) (x := (I0 19) + 1) rfl (by omega) (by omega) dX11_gone_18 (fun H locs hP hD hS => ?_)
  have hP : va_P (dC, dI) classes [(om k0 a I0 J0), (oa (a 5) cI 201 (upd st f 2)), (oa (a 7) cI 201 (upd gb f ((I0 19) + 1))), (oa (a 10) cI 201 it)] H := hP
  have hD : va_D A [(om k0 a I0 J0), (oa (a 5) cI 201 (upd st f 2)), (oa (a 7) cI 201 (upd gb f ((I0 19) + 1))), (oa (a 10) cI 201 it)] := hD
  refine lv_aload_n hx hb dX11_gone_19 rfl (lv_at hl 0 rfl) ?_
  refine va_get (D := (dC, dI)) (ci := 9) (v := .ref (a 10)) (C := RX11) (T := TX11) (N := 55) hx hb hts inX11 hown hK hP 0 rfl rfl 10 (by decide) (hts _ mw_1169) (fun _ h9 => h9) rfl dX11_gone_20 ?_
  refine lv_iload_n hx hb dX11_gone_23 rfl (lv_at hl 1 rfl) ?_
  refine lv_iload_n hx hb dX11_gone_24 rfl (lv_at hl 2 rfl) ?_
  refine z_iast hx hb hK hP hD hS 3 0 rfl rfl (e := f) (x := w) rfl (by omega) (by omega) dX11_gone_25 (fun H locs hP hD hS => ?_)
  have hP : va_P (dC, dI) classes [(om k0 a I0 J0), (oa (a 5) cI 201 (upd st f 2)), (oa (a 7) cI 201 (upd gb f ((I0 19) + 1))), (oa (a 10) cI 201 (upd it f w))] H := hP
  have hD : va_D A [(om k0 a I0 J0), (oa (a 5) cI 201 (upd st f 2)), (oa (a 7) cI 201 (upd gb f ((I0 19) + 1))), (oa (a 10) cI 201 (upd it f w))] := hD
  have hP9 := hP.sub (ws' := [(om k0 a I0 J0), (oa (a 5) cI 201 (upd st f 2)), (oa (a 7) cI 201 (upd gb f ((I0 19) + 1))), (oa (a 10) cI 201 (upd it f w))]) [0, 1, 2, 3] rfl
  have hD9 := hD.sub (ws' := [(om k0 a I0 J0), (oa (a 5) cI 201 (upd st f 2)), (oa (a 7) cI 201 (upd gb f ((I0 19) + 1))), (oa (a 10) cI 201 (upd it f w))]) [0, 1, 2, 3] (by decide) rfl
  rw [hQ9]
  exact W.vret hx hb hr (fun t ht hW => ⟨⟨rfl, by rw [ht]; exact hP9, hD9⟩, hS.F ht⟩) hS.2.2 dX11_gone_26
set_option maxHeartbeats 4000000 in
set_option maxRecDepth 100000 in
theorem k_M_settle (l : Launch) (dC : Nat → ClassId) (dI : Nat → Nat → Nat) (cI cZ cF : ClassId) (sz : Nat) (k0 : Nat) (a : Nat → Nat) (I0 : Nat → Int32) (J0 : Nat → Int64) (sa : Nat → Int32) : Met l yX11_settle (.code yX11_settle cX11_settle 1 none :: ws0) ({ frames := 0, cells := 0, slots := 0, locals := 0 } : Room) (va_Pc [.ref k0] (zPre (dC, dI) classes (zTy cI cZ cF) [(om k0 a I0 J0), (oa (a 27) cI 516 sa)] sz zXN)) (zQ none (fun t => va_P (dC, dI) classes [(om k0 a (upd (upd I0 20 0) 21 (I0 19)) J0), (oa (a 27) cI 516 (upd sa 0 0))] t.heap ∧ va_D (va_A [(om k0 a I0 J0), (oa (a 27) cI 516 sa)] sz) [(om k0 a (upd (upd I0 20 0) 21 (I0 19)) J0), (oa (a 27) cI 516 (upd sa 0 0))]) (va_A [(om k0 a I0 J0), (oa (a 27) cI 516 sa)] sz)) 0 0 (va_A [(om k0 a I0 J0), (oa (a 27) cI 516 sa)] sz) := by
  refine Met.ofW (cc := cX11_settle) (maxL := 1) (ret := none) (by decide) rfl ?_
  intro p e s m args below meth c s₁ B hml hv
  obtain ⟨rfl, hsz, hP, hK, hD0, hXN⟩ := hv
  have hx := B.exec
  have hb := B.bytes
  have hr := B.returns
  have hts0 := atoms_spec (ws := .code yX11_settle cX11_settle 1 none :: ws0) B.pre
  have hts : ∀ w9 ∈ ws0, w9.before ([.ref k0] : List Value).toArray s = true := fun w9 h => hts0 w9 (List.mem_cons_of_mem _ h)
  have hown : s.vm.findClass "ScaleShopModel" = some m.cls := findClass_of_methodNamed B.named
  have hlocks := B.notSynchronized
  subst hsz
  have hD := hD0.self (sz := s.heap.size)
  clear hD0
  generalize hAe : va_A [(om k0 a I0 J0), (oa (a 27) cI 516 sa)] s.heap.size = A at hD ⊢
  have hA : ∀ q : Nat, s.heap.size ≤ q → A q := fun q h => by rw [← hAe]; exact Or.inr h
  clear hAe
  have hS : va_S A s.heap s.heap [] := va_S.rf
  have hP : va_P (dC, dI) classes [(om k0 a I0 J0), (oa (a 27) cI 516 sa)] s.heap := hP
  obtain ⟨Q9, hQ9⟩ : ∃ Q9 : State → Prop, Q9 = MQ below (zQ none (fun t => va_P (dC, dI) classes [(om k0 a (upd (upd I0 20 0) 21 (I0 19)) J0), (oa (a 27) cI 516 (upd sa 0 0))] t.heap ∧ va_D A [(om k0 a (upd (upd I0 20 0) 21 (I0 19)) J0), (oa (a 27) cI 516 (upd sa 0 0))]) A) ([.ref k0] : List Value).toArray s 0 0 A := ⟨_, rfl⟩
  rw [← hQ9]
  have hl := lv_entry ([.ref k0]) (n := 1) (Nat.le_of_ble_eq_true rfl)
  rw [lg_entry_eq]
  generalize (lg_sl ([.ref k0]) ++ List.replicate (1 - (lg_sl ([.ref k0])).length) Slot.unset).toArray = ls at hl ⊢
  have hl : lv_has ls 1 [(0, .ref k0)] := hl
  refine lv_aload_n hx hb dX11_settle_0 rfl (lv_at hl 0 rfl) ?_
  refine lv_aload_n hx hb dX11_settle_1 rfl (lv_at hl 0 rfl) ?_
  refine va_get (D := (dC, dI)) (ci := 9) (v := .int (I0 19)) (C := RX11) (T := TX11) (N := 55) hx hb hts inX11 hown hK hP 0 rfl rfl 19 (by decide) (hts _ mw_1178) (fun _ h9 => h9) rfl dX11_settle_2 ?_
  refine va_put (D := (dC, dI)) (ci := 9) (v := .int (I0 19)) (ty := .int) (C := RX11) (T := TX11) (N := 55) hx hb hts inX11 tyX11 tyX11_ok nmX11 hown hK hP hD hS 0 rfl rfl 21 (by decide) (hts _ mw_1180) (fun _ h9 => h9) rfl (by decide +kernel) rfl rfl (Nat.le_of_ble_eq_true rfl) dX11_settle_5 (fun H locs hP hD hS => ?_)
  have hP : va_P (dC, dI) classes [(om k0 a (upd I0 21 (I0 19)) J0), (oa (a 27) cI 516 sa)] H := hP
  have hD : va_D A [(om k0 a (upd I0 21 (I0 19)) J0), (oa (a 27) cI 516 sa)] := hD
  refine lv_aload_n hx hb dX11_settle_8 rfl (lv_at hl 0 rfl) ?_
  refine lv_iconst (v := 0) hx hb dX11_settle_9 (by decide) ?_
  refine va_put (D := (dC, dI)) (ci := 9) (v := .int 0) (ty := .int) (C := RX11) (T := TX11) (N := 55) hx hb hts inX11 tyX11 tyX11_ok nmX11 hown hK hP hD hS 0 rfl rfl 20 (by decide) (hts _ mw_1179) (fun _ h9 => h9) rfl (by decide +kernel) rfl rfl (Nat.le_of_ble_eq_true rfl) dX11_settle_10 (fun H locs hP hD hS => ?_)
  have hP : va_P (dC, dI) classes [(om k0 a (upd (upd I0 20 0) 21 (I0 19)) J0), (oa (a 27) cI 516 sa)] H := hP
  have hD : va_D A [(om k0 a (upd (upd I0 20 0) 21 (I0 19)) J0), (oa (a 27) cI 516 sa)] := hD
  refine lv_aload_n hx hb dX11_settle_13 rfl (lv_at hl 0 rfl) ?_
  refine va_get (D := (dC, dI)) (ci := 9) (v := .ref (a 27)) (C := RX11) (T := TX11) (N := 55) hx hb hts inX11 hown hK hP 0 rfl rfl 27 (by decide) (hts _ mw_1186) (fun _ h9 => h9) rfl dX11_settle_14 ?_
  refine lv_iconst (v := 0) hx hb dX11_settle_17 (by decide) ?_
  refine lv_iconst (v := 0) hx hb dX11_settle_18 (by decide) ?_
  refine z_iast hx hb hK hP hD hS 1 0 rfl rfl (e := 0) (x := 0) rfl (by omega) (by omega) dX11_settle_19 (fun H locs hP hD hS => ?_)
  have hP : va_P (dC, dI) classes [(om k0 a (upd (upd I0 20 0) 21 (I0 19)) J0), (oa (a 27) cI 516 (upd sa 0 0))] H := hP
  have hD : va_D A [(om k0 a (upd (upd I0 20 0) 21 (I0 19)) J0), (oa (a 27) cI 516 (upd sa 0 0))] := hD
  have hP9 := hP.sub (ws' := [(om k0 a (upd (upd I0 20 0) 21 (I0 19)) J0), (oa (a 27) cI 516 (upd sa 0 0))]) [0, 1] rfl
  have hD9 := hD.sub (ws' := [(om k0 a (upd (upd I0 20 0) 21 (I0 19)) J0), (oa (a 27) cI 516 (upd sa 0 0))]) [0, 1] (by decide) rfl
  rw [hQ9]
  exact W.vret hx hb hr (fun t ht hW => ⟨⟨rfl, by rw [ht]; exact hP9, hD9⟩, hS.F ht⟩) hS.2.2 dX11_settle_20
set_option maxHeartbeats 4000000 in
set_option maxRecDepth 100000 in
theorem k_M_begin (l : Launch) (dC : Nat → ClassId) (dI : Nat → Nat → Nat) (cI cZ cF : ClassId) (sz : Nat) (k0 : Nat) (a : Nat → Nat) (I0 : Nat → Int32) (J0 : Nat → Int64) (f : Nat) (k1 : Int32) (k2 : Int32) (k3 : Int32) (k4 : Int32) (kd : Nat → Int32) (rk : Nat → Int32) (wd : Nat → Int32) (tw : Nat → Int32) (st : Nat → Int32) (tn : Nat → Int32) (gb : Nat → Int32) (pa : Nat → Int32) (pb : Nat → Int32) (it : Nat → Int32) (mn : Nat → Int32) (hf_f : f ≤ 200) : Met l yX11_begin (.code yX11_begin cX11_begin 6 none :: ws0) ({ frames := 0, cells := 0, slots := 0, locals := 0 } : Room) (va_Pc [.ref k0, .int (nI f), .int k1, .int k2, .int k3, .int k4] (zPre (dC, dI) classes (zTy cI cZ cF) [(om k0 a I0 J0), (oa (a 1) cI 201 kd), (oa (a 2) cI 201 rk), (oa (a 3) cI 201 wd), (oa (a 4) cI 201 tw), (oa (a 5) cI 201 st), (oa (a 6) cZ 201 tn), (oa (a 7) cI 201 gb), (oa (a 8) cI 201 pa), (oa (a 9) cI 201 pb), (oa (a 10) cI 201 it), (oa (a 11) cI 201 mn)] sz zXN)) (zQ none (fun t => va_P (dC, dI) classes [(om k0 a (upd I0 0 (nI (f + 1))) J0), (oa (a 1) cI 201 (upd kd f k1)), (oa (a 2) cI 201 (upd rk f k2)), (oa (a 3) cI 201 (upd wd f k3)), (oa (a 4) cI 201 (upd tw f k4)), (oa (a 5) cI 201 (upd st f 0)), (oa (a 6) cZ 201 (upd tn f 0)), (oa (a 7) cI 201 (upd gb f 0)), (oa (a 8) cI 201 (upd pa f (-1))), (oa (a 9) cI 201 (upd pb f (-1))), (oa (a 10) cI 201 (upd it f (-1))), (oa (a 11) cI 201 (upd mn f 0))] t.heap ∧ va_D (va_A [(om k0 a I0 J0), (oa (a 1) cI 201 kd), (oa (a 2) cI 201 rk), (oa (a 3) cI 201 wd), (oa (a 4) cI 201 tw), (oa (a 5) cI 201 st), (oa (a 6) cZ 201 tn), (oa (a 7) cI 201 gb), (oa (a 8) cI 201 pa), (oa (a 9) cI 201 pb), (oa (a 10) cI 201 it), (oa (a 11) cI 201 mn)] sz) [(om k0 a (upd I0 0 (nI (f + 1))) J0), (oa (a 1) cI 201 (upd kd f k1)), (oa (a 2) cI 201 (upd rk f k2)), (oa (a 3) cI 201 (upd wd f k3)), (oa (a 4) cI 201 (upd tw f k4)), (oa (a 5) cI 201 (upd st f 0)), (oa (a 6) cZ 201 (upd tn f 0)), (oa (a 7) cI 201 (upd gb f 0)), (oa (a 8) cI 201 (upd pa f (-1))), (oa (a 9) cI 201 (upd pb f (-1))), (oa (a 10) cI 201 (upd it f (-1))), (oa (a 11) cI 201 (upd mn f 0))]) (va_A [(om k0 a I0 J0), (oa (a 1) cI 201 kd), (oa (a 2) cI 201 rk), (oa (a 3) cI 201 wd), (oa (a 4) cI 201 tw), (oa (a 5) cI 201 st), (oa (a 6) cZ 201 tn), (oa (a 7) cI 201 gb), (oa (a 8) cI 201 pa), (oa (a 9) cI 201 pb), (oa (a 10) cI 201 it), (oa (a 11) cI 201 mn)] sz)) 0 0 (va_A [(om k0 a I0 J0), (oa (a 1) cI 201 kd), (oa (a 2) cI 201 rk), (oa (a 3) cI 201 wd), (oa (a 4) cI 201 tw), (oa (a 5) cI 201 st), (oa (a 6) cZ 201 tn), (oa (a 7) cI 201 gb), (oa (a 8) cI 201 pa), (oa (a 9) cI 201 pb), (oa (a 10) cI 201 it), (oa (a 11) cI 201 mn)] sz) := by
  refine Met.ofW (cc := cX11_begin) (maxL := 6) (ret := none) (by decide) rfl ?_
  intro p e s m args below meth c s₁ B hml hv
  obtain ⟨rfl, hsz, hP, hK, hD0, hXN⟩ := hv
  have hx := B.exec
  have hb := B.bytes
  have hr := B.returns
  have hts0 := atoms_spec (ws := .code yX11_begin cX11_begin 6 none :: ws0) B.pre
  have hts : ∀ w9 ∈ ws0, w9.before ([.ref k0, .int (nI f), .int k1, .int k2, .int k3, .int k4] : List Value).toArray s = true := fun w9 h => hts0 w9 (List.mem_cons_of_mem _ h)
  have hown : s.vm.findClass "ScaleShopModel" = some m.cls := findClass_of_methodNamed B.named
  have hlocks := B.notSynchronized
  subst hsz
  have hD := hD0.self (sz := s.heap.size)
  clear hD0
  generalize hAe : va_A [(om k0 a I0 J0), (oa (a 1) cI 201 kd), (oa (a 2) cI 201 rk), (oa (a 3) cI 201 wd), (oa (a 4) cI 201 tw), (oa (a 5) cI 201 st), (oa (a 6) cZ 201 tn), (oa (a 7) cI 201 gb), (oa (a 8) cI 201 pa), (oa (a 9) cI 201 pb), (oa (a 10) cI 201 it), (oa (a 11) cI 201 mn)] s.heap.size = A at hD ⊢
  have hA : ∀ q : Nat, s.heap.size ≤ q → A q := fun q h => by rw [← hAe]; exact Or.inr h
  clear hAe
  have hS : va_S A s.heap s.heap [] := va_S.rf
  have hP : va_P (dC, dI) classes [(om k0 a I0 J0), (oa (a 1) cI 201 kd), (oa (a 2) cI 201 rk), (oa (a 3) cI 201 wd), (oa (a 4) cI 201 tw), (oa (a 5) cI 201 st), (oa (a 6) cZ 201 tn), (oa (a 7) cI 201 gb), (oa (a 8) cI 201 pa), (oa (a 9) cI 201 pb), (oa (a 10) cI 201 it), (oa (a 11) cI 201 mn)] s.heap := hP
  obtain ⟨Q9, hQ9⟩ : ∃ Q9 : State → Prop, Q9 = MQ below (zQ none (fun t => va_P (dC, dI) classes [(om k0 a (upd I0 0 (nI (f + 1))) J0), (oa (a 1) cI 201 (upd kd f k1)), (oa (a 2) cI 201 (upd rk f k2)), (oa (a 3) cI 201 (upd wd f k3)), (oa (a 4) cI 201 (upd tw f k4)), (oa (a 5) cI 201 (upd st f 0)), (oa (a 6) cZ 201 (upd tn f 0)), (oa (a 7) cI 201 (upd gb f 0)), (oa (a 8) cI 201 (upd pa f (-1))), (oa (a 9) cI 201 (upd pb f (-1))), (oa (a 10) cI 201 (upd it f (-1))), (oa (a 11) cI 201 (upd mn f 0))] t.heap ∧ va_D A [(om k0 a (upd I0 0 (nI (f + 1))) J0), (oa (a 1) cI 201 (upd kd f k1)), (oa (a 2) cI 201 (upd rk f k2)), (oa (a 3) cI 201 (upd wd f k3)), (oa (a 4) cI 201 (upd tw f k4)), (oa (a 5) cI 201 (upd st f 0)), (oa (a 6) cZ 201 (upd tn f 0)), (oa (a 7) cI 201 (upd gb f 0)), (oa (a 8) cI 201 (upd pa f (-1))), (oa (a 9) cI 201 (upd pb f (-1))), (oa (a 10) cI 201 (upd it f (-1))), (oa (a 11) cI 201 (upd mn f 0))]) A) ([.ref k0, .int (nI f), .int k1, .int k2, .int k3, .int k4] : List Value).toArray s 0 0 A := ⟨_, rfl⟩
  rw [← hQ9]
  have hl := lv_entry ([.ref k0, .int (nI f), .int k1, .int k2, .int k3, .int k4]) (n := 6) (Nat.le_of_ble_eq_true rfl)
  rw [lg_entry_eq]
  generalize (lg_sl ([.ref k0, .int (nI f), .int k1, .int k2, .int k3, .int k4]) ++ List.replicate (6 - (lg_sl ([.ref k0, .int (nI f), .int k1, .int k2, .int k3, .int k4])).length) Slot.unset).toArray = ls at hl ⊢
  have hl : lv_has ls 6 [(0, .ref k0), (1, .int (nI f)), (2, .int k1), (3, .int k2), (4, .int k3), (5, .int k4)] := hl
  refine lv_aload_n hx hb dX11_begin_0 rfl (lv_at hl 0 rfl) ?_
  refine lv_iload_n hx hb dX11_begin_1 rfl (lv_at hl 1 rfl) ?_
  refine lv_iconst (v := 1) hx hb dX11_begin_2 (by decide) ?_
  refine lv_iadd hx hb dX11_begin_3 ?_
  refine zz_i (v := nI (f + 1)) (nI_add f 1) ?_
  refine va_put (D := (dC, dI)) (ci := 9) (v := .int (nI (f + 1))) (ty := .int) (C := RX11) (T := TX11) (N := 55) hx hb hts inX11 tyX11 tyX11_ok nmX11 hown hK hP hD hS 0 rfl rfl 0 (by decide) (hts _ mw_1159) (fun _ h9 => h9) rfl (by decide +kernel) rfl rfl (Nat.le_of_ble_eq_true rfl) dX11_begin_4 (fun H locs hP hD hS => ?_)
  have hP : va_P (dC, dI) classes [(om k0 a (upd I0 0 (nI (f + 1))) J0), (oa (a 1) cI 201 kd), (oa (a 2) cI 201 rk), (oa (a 3) cI 201 wd), (oa (a 4) cI 201 tw), (oa (a 5) cI 201 st), (oa (a 6) cZ 201 tn), (oa (a 7) cI 201 gb), (oa (a 8) cI 201 pa), (oa (a 9) cI 201 pb), (oa (a 10) cI 201 it), (oa (a 11) cI 201 mn)] H := hP
  have hD : va_D A [(om k0 a (upd I0 0 (nI (f + 1))) J0), (oa (a 1) cI 201 kd), (oa (a 2) cI 201 rk), (oa (a 3) cI 201 wd), (oa (a 4) cI 201 tw), (oa (a 5) cI 201 st), (oa (a 6) cZ 201 tn), (oa (a 7) cI 201 gb), (oa (a 8) cI 201 pa), (oa (a 9) cI 201 pb), (oa (a 10) cI 201 it), (oa (a 11) cI 201 mn)] := hD
  refine lv_aload_n hx hb dX11_begin_7 rfl (lv_at hl 0 rfl) ?_
  refine va_get (D := (dC, dI)) (ci := 9) (v := .ref (a 1)) (C := RX11) (T := TX11) (N := 55) hx hb hts inX11 hown hK hP 0 rfl rfl 1 (by decide) (hts _ mw_1160) (fun _ h9 => h9) rfl dX11_begin_8 ?_
  refine lv_iload_n hx hb dX11_begin_11 rfl (lv_at hl 1 rfl) ?_
  refine lv_iload_n hx hb dX11_begin_12 rfl (lv_at hl 2 rfl) ?_
  refine z_iast hx hb hK hP hD hS 1 0 rfl rfl (e := f) (x := k1) rfl (by omega) (by omega) dX11_begin_13 (fun H locs hP hD hS => ?_)
  have hP : va_P (dC, dI) classes [(om k0 a (upd I0 0 (nI (f + 1))) J0), (oa (a 1) cI 201 (upd kd f k1)), (oa (a 2) cI 201 rk), (oa (a 3) cI 201 wd), (oa (a 4) cI 201 tw), (oa (a 5) cI 201 st), (oa (a 6) cZ 201 tn), (oa (a 7) cI 201 gb), (oa (a 8) cI 201 pa), (oa (a 9) cI 201 pb), (oa (a 10) cI 201 it), (oa (a 11) cI 201 mn)] H := hP
  have hD : va_D A [(om k0 a (upd I0 0 (nI (f + 1))) J0), (oa (a 1) cI 201 (upd kd f k1)), (oa (a 2) cI 201 rk), (oa (a 3) cI 201 wd), (oa (a 4) cI 201 tw), (oa (a 5) cI 201 st), (oa (a 6) cZ 201 tn), (oa (a 7) cI 201 gb), (oa (a 8) cI 201 pa), (oa (a 9) cI 201 pb), (oa (a 10) cI 201 it), (oa (a 11) cI 201 mn)] := hD
  refine lv_aload_n hx hb dX11_begin_14 rfl (lv_at hl 0 rfl) ?_
  refine va_get (D := (dC, dI)) (ci := 9) (v := .ref (a 2)) (C := RX11) (T := TX11) (N := 55) hx hb hts inX11 hown hK hP 0 rfl rfl 2 (by decide) (hts _ mw_1161) (fun _ h9 => h9) rfl dX11_begin_15 ?_
  refine lv_iload_n hx hb dX11_begin_18 rfl (lv_at hl 1 rfl) ?_
  refine lv_iload_n hx hb dX11_begin_19 rfl (lv_at hl 3 rfl) ?_
  refine z_iast hx hb hK hP hD hS 2 0 rfl rfl (e := f) (x := k2) rfl (by omega) (by omega) dX11_begin_20 (fun H locs hP hD hS => ?_)
  have hP : va_P (dC, dI) classes [(om k0 a (upd I0 0 (nI (f + 1))) J0), (oa (a 1) cI 201 (upd kd f k1)), (oa (a 2) cI 201 (upd rk f k2)), (oa (a 3) cI 201 wd), (oa (a 4) cI 201 tw), (oa (a 5) cI 201 st), (oa (a 6) cZ 201 tn), (oa (a 7) cI 201 gb), (oa (a 8) cI 201 pa), (oa (a 9) cI 201 pb), (oa (a 10) cI 201 it), (oa (a 11) cI 201 mn)] H := hP
  have hD : va_D A [(om k0 a (upd I0 0 (nI (f + 1))) J0), (oa (a 1) cI 201 (upd kd f k1)), (oa (a 2) cI 201 (upd rk f k2)), (oa (a 3) cI 201 wd), (oa (a 4) cI 201 tw), (oa (a 5) cI 201 st), (oa (a 6) cZ 201 tn), (oa (a 7) cI 201 gb), (oa (a 8) cI 201 pa), (oa (a 9) cI 201 pb), (oa (a 10) cI 201 it), (oa (a 11) cI 201 mn)] := hD
  refine lv_aload_n hx hb dX11_begin_21 rfl (lv_at hl 0 rfl) ?_
  refine va_get (D := (dC, dI)) (ci := 9) (v := .ref (a 3)) (C := RX11) (T := TX11) (N := 55) hx hb hts inX11 hown hK hP 0 rfl rfl 3 (by decide) (hts _ mw_1162) (fun _ h9 => h9) rfl dX11_begin_22 ?_
  refine lv_iload_n hx hb dX11_begin_25 rfl (lv_at hl 1 rfl) ?_
  refine lv_iload hx hb dX11_begin_26 (lv_at hl 4 rfl) ?_
  refine z_iast hx hb hK hP hD hS 3 0 rfl rfl (e := f) (x := k3) rfl (by omega) (by omega) dX11_begin_28 (fun H locs hP hD hS => ?_)
  have hP : va_P (dC, dI) classes [(om k0 a (upd I0 0 (nI (f + 1))) J0), (oa (a 1) cI 201 (upd kd f k1)), (oa (a 2) cI 201 (upd rk f k2)), (oa (a 3) cI 201 (upd wd f k3)), (oa (a 4) cI 201 tw), (oa (a 5) cI 201 st), (oa (a 6) cZ 201 tn), (oa (a 7) cI 201 gb), (oa (a 8) cI 201 pa), (oa (a 9) cI 201 pb), (oa (a 10) cI 201 it), (oa (a 11) cI 201 mn)] H := hP
  have hD : va_D A [(om k0 a (upd I0 0 (nI (f + 1))) J0), (oa (a 1) cI 201 (upd kd f k1)), (oa (a 2) cI 201 (upd rk f k2)), (oa (a 3) cI 201 (upd wd f k3)), (oa (a 4) cI 201 tw), (oa (a 5) cI 201 st), (oa (a 6) cZ 201 tn), (oa (a 7) cI 201 gb), (oa (a 8) cI 201 pa), (oa (a 9) cI 201 pb), (oa (a 10) cI 201 it), (oa (a 11) cI 201 mn)] := hD
  refine lv_aload_n hx hb dX11_begin_29 rfl (lv_at hl 0 rfl) ?_
  refine va_get (D := (dC, dI)) (ci := 9) (v := .ref (a 4)) (C := RX11) (T := TX11) (N := 55) hx hb hts inX11 hown hK hP 0 rfl rfl 4 (by decide) (hts _ mw_1163) (fun _ h9 => h9) rfl dX11_begin_30 ?_
  refine lv_iload_n hx hb dX11_begin_33 rfl (lv_at hl 1 rfl) ?_
  refine lv_iload hx hb dX11_begin_34 (lv_at hl 5 rfl) ?_
  refine z_iast hx hb hK hP hD hS 4 0 rfl rfl (e := f) (x := k4) rfl (by omega) (by omega) dX11_begin_36 (fun H locs hP hD hS => ?_)
  have hP : va_P (dC, dI) classes [(om k0 a (upd I0 0 (nI (f + 1))) J0), (oa (a 1) cI 201 (upd kd f k1)), (oa (a 2) cI 201 (upd rk f k2)), (oa (a 3) cI 201 (upd wd f k3)), (oa (a 4) cI 201 (upd tw f k4)), (oa (a 5) cI 201 st), (oa (a 6) cZ 201 tn), (oa (a 7) cI 201 gb), (oa (a 8) cI 201 pa), (oa (a 9) cI 201 pb), (oa (a 10) cI 201 it), (oa (a 11) cI 201 mn)] H := hP
  have hD : va_D A [(om k0 a (upd I0 0 (nI (f + 1))) J0), (oa (a 1) cI 201 (upd kd f k1)), (oa (a 2) cI 201 (upd rk f k2)), (oa (a 3) cI 201 (upd wd f k3)), (oa (a 4) cI 201 (upd tw f k4)), (oa (a 5) cI 201 st), (oa (a 6) cZ 201 tn), (oa (a 7) cI 201 gb), (oa (a 8) cI 201 pa), (oa (a 9) cI 201 pb), (oa (a 10) cI 201 it), (oa (a 11) cI 201 mn)] := hD
  refine lv_aload_n hx hb dX11_begin_37 rfl (lv_at hl 0 rfl) ?_
  refine va_get (D := (dC, dI)) (ci := 9) (v := .ref (a 5)) (C := RX11) (T := TX11) (N := 55) hx hb hts inX11 hown hK hP 0 rfl rfl 5 (by decide) (hts _ mw_1164) (fun _ h9 => h9) rfl dX11_begin_38 ?_
  refine lv_iload_n hx hb dX11_begin_41 rfl (lv_at hl 1 rfl) ?_
  refine lv_iconst (v := 0) hx hb dX11_begin_42 (by decide) ?_
  refine z_iast hx hb hK hP hD hS 5 0 rfl rfl (e := f) (x := 0) rfl (by omega) (by omega) dX11_begin_43 (fun H locs hP hD hS => ?_)
  have hP : va_P (dC, dI) classes [(om k0 a (upd I0 0 (nI (f + 1))) J0), (oa (a 1) cI 201 (upd kd f k1)), (oa (a 2) cI 201 (upd rk f k2)), (oa (a 3) cI 201 (upd wd f k3)), (oa (a 4) cI 201 (upd tw f k4)), (oa (a 5) cI 201 (upd st f 0)), (oa (a 6) cZ 201 tn), (oa (a 7) cI 201 gb), (oa (a 8) cI 201 pa), (oa (a 9) cI 201 pb), (oa (a 10) cI 201 it), (oa (a 11) cI 201 mn)] H := hP
  have hD : va_D A [(om k0 a (upd I0 0 (nI (f + 1))) J0), (oa (a 1) cI 201 (upd kd f k1)), (oa (a 2) cI 201 (upd rk f k2)), (oa (a 3) cI 201 (upd wd f k3)), (oa (a 4) cI 201 (upd tw f k4)), (oa (a 5) cI 201 (upd st f 0)), (oa (a 6) cZ 201 tn), (oa (a 7) cI 201 gb), (oa (a 8) cI 201 pa), (oa (a 9) cI 201 pb), (oa (a 10) cI 201 it), (oa (a 11) cI 201 mn)] := hD
  refine lv_aload_n hx hb dX11_begin_44 rfl (lv_at hl 0 rfl) ?_
  refine va_get (D := (dC, dI)) (ci := 9) (v := .ref (a 6)) (C := RX11) (T := TX11) (N := 55) hx hb hts inX11 hown hK hP 0 rfl rfl 6 (by decide) (hts _ mw_1165) (fun _ h9 => h9) rfl dX11_begin_45 ?_
  refine lv_iload_n hx hb dX11_begin_48 rfl (lv_at hl 1 rfl) ?_
  refine lv_iconst (v := 0) hx hb dX11_begin_49 (by decide) ?_
  refine z_zast hx hb hK hP hD hS 6 1 rfl rfl (e := f) (x := 0) rfl (by omega) (by omega) (by decide) dX11_begin_50 (fun H locs hP hD hS => ?_)
  have hP : va_P (dC, dI) classes [(om k0 a (upd I0 0 (nI (f + 1))) J0), (oa (a 1) cI 201 (upd kd f k1)), (oa (a 2) cI 201 (upd rk f k2)), (oa (a 3) cI 201 (upd wd f k3)), (oa (a 4) cI 201 (upd tw f k4)), (oa (a 5) cI 201 (upd st f 0)), (oa (a 6) cZ 201 (upd tn f 0)), (oa (a 7) cI 201 gb), (oa (a 8) cI 201 pa), (oa (a 9) cI 201 pb), (oa (a 10) cI 201 it), (oa (a 11) cI 201 mn)] H := hP
  have hD : va_D A [(om k0 a (upd I0 0 (nI (f + 1))) J0), (oa (a 1) cI 201 (upd kd f k1)), (oa (a 2) cI 201 (upd rk f k2)), (oa (a 3) cI 201 (upd wd f k3)), (oa (a 4) cI 201 (upd tw f k4)), (oa (a 5) cI 201 (upd st f 0)), (oa (a 6) cZ 201 (upd tn f 0)), (oa (a 7) cI 201 gb), (oa (a 8) cI 201 pa), (oa (a 9) cI 201 pb), (oa (a 10) cI 201 it), (oa (a 11) cI 201 mn)] := hD
  refine lv_aload_n hx hb dX11_begin_51 rfl (lv_at hl 0 rfl) ?_
  refine va_get (D := (dC, dI)) (ci := 9) (v := .ref (a 7)) (C := RX11) (T := TX11) (N := 55) hx hb hts inX11 hown hK hP 0 rfl rfl 7 (by decide) (hts _ mw_1166) (fun _ h9 => h9) rfl dX11_begin_52 ?_
  refine lv_iload_n hx hb dX11_begin_55 rfl (lv_at hl 1 rfl) ?_
  refine lv_iconst (v := 0) hx hb dX11_begin_56 (by decide) ?_
  refine z_iast hx hb hK hP hD hS 7 0 rfl rfl (e := f) (x := 0) rfl (by omega) (by omega) dX11_begin_57 (fun H locs hP hD hS => ?_)
  have hP : va_P (dC, dI) classes [(om k0 a (upd I0 0 (nI (f + 1))) J0), (oa (a 1) cI 201 (upd kd f k1)), (oa (a 2) cI 201 (upd rk f k2)), (oa (a 3) cI 201 (upd wd f k3)), (oa (a 4) cI 201 (upd tw f k4)), (oa (a 5) cI 201 (upd st f 0)), (oa (a 6) cZ 201 (upd tn f 0)), (oa (a 7) cI 201 (upd gb f 0)), (oa (a 8) cI 201 pa), (oa (a 9) cI 201 pb), (oa (a 10) cI 201 it), (oa (a 11) cI 201 mn)] H := hP
  have hD : va_D A [(om k0 a (upd I0 0 (nI (f + 1))) J0), (oa (a 1) cI 201 (upd kd f k1)), (oa (a 2) cI 201 (upd rk f k2)), (oa (a 3) cI 201 (upd wd f k3)), (oa (a 4) cI 201 (upd tw f k4)), (oa (a 5) cI 201 (upd st f 0)), (oa (a 6) cZ 201 (upd tn f 0)), (oa (a 7) cI 201 (upd gb f 0)), (oa (a 8) cI 201 pa), (oa (a 9) cI 201 pb), (oa (a 10) cI 201 it), (oa (a 11) cI 201 mn)] := hD
  refine lv_aload_n hx hb dX11_begin_58 rfl (lv_at hl 0 rfl) ?_
  refine va_get (D := (dC, dI)) (ci := 9) (v := .ref (a 8)) (C := RX11) (T := TX11) (N := 55) hx hb hts inX11 hown hK hP 0 rfl rfl 8 (by decide) (hts _ mw_1167) (fun _ h9 => h9) rfl dX11_begin_59 ?_
  refine lv_iload_n hx hb dX11_begin_62 rfl (lv_at hl 1 rfl) ?_
  refine lv_iconst (v := (-1)) hx hb dX11_begin_63 (by decide) ?_
  refine z_iast hx hb hK hP hD hS 8 0 rfl rfl (e := f) (x := (-1)) rfl (by omega) (by omega) dX11_begin_64 (fun H locs hP hD hS => ?_)
  have hP : va_P (dC, dI) classes [(om k0 a (upd I0 0 (nI (f + 1))) J0), (oa (a 1) cI 201 (upd kd f k1)), (oa (a 2) cI 201 (upd rk f k2)), (oa (a 3) cI 201 (upd wd f k3)), (oa (a 4) cI 201 (upd tw f k4)), (oa (a 5) cI 201 (upd st f 0)), (oa (a 6) cZ 201 (upd tn f 0)), (oa (a 7) cI 201 (upd gb f 0)), (oa (a 8) cI 201 (upd pa f (-1))), (oa (a 9) cI 201 pb), (oa (a 10) cI 201 it), (oa (a 11) cI 201 mn)] H := hP
  have hD : va_D A [(om k0 a (upd I0 0 (nI (f + 1))) J0), (oa (a 1) cI 201 (upd kd f k1)), (oa (a 2) cI 201 (upd rk f k2)), (oa (a 3) cI 201 (upd wd f k3)), (oa (a 4) cI 201 (upd tw f k4)), (oa (a 5) cI 201 (upd st f 0)), (oa (a 6) cZ 201 (upd tn f 0)), (oa (a 7) cI 201 (upd gb f 0)), (oa (a 8) cI 201 (upd pa f (-1))), (oa (a 9) cI 201 pb), (oa (a 10) cI 201 it), (oa (a 11) cI 201 mn)] := hD
  refine lv_aload_n hx hb dX11_begin_65 rfl (lv_at hl 0 rfl) ?_
  refine va_get (D := (dC, dI)) (ci := 9) (v := .ref (a 9)) (C := RX11) (T := TX11) (N := 55) hx hb hts inX11 hown hK hP 0 rfl rfl 9 (by decide) (hts _ mw_1168) (fun _ h9 => h9) rfl dX11_begin_66 ?_
  refine lv_iload_n hx hb dX11_begin_69 rfl (lv_at hl 1 rfl) ?_
  refine lv_iconst (v := (-1)) hx hb dX11_begin_70 (by decide) ?_
  refine z_iast hx hb hK hP hD hS 9 0 rfl rfl (e := f) (x := (-1)) rfl (by omega) (by omega) dX11_begin_71 (fun H locs hP hD hS => ?_)
  have hP : va_P (dC, dI) classes [(om k0 a (upd I0 0 (nI (f + 1))) J0), (oa (a 1) cI 201 (upd kd f k1)), (oa (a 2) cI 201 (upd rk f k2)), (oa (a 3) cI 201 (upd wd f k3)), (oa (a 4) cI 201 (upd tw f k4)), (oa (a 5) cI 201 (upd st f 0)), (oa (a 6) cZ 201 (upd tn f 0)), (oa (a 7) cI 201 (upd gb f 0)), (oa (a 8) cI 201 (upd pa f (-1))), (oa (a 9) cI 201 (upd pb f (-1))), (oa (a 10) cI 201 it), (oa (a 11) cI 201 mn)] H := hP
  have hD : va_D A [(om k0 a (upd I0 0 (nI (f + 1))) J0), (oa (a 1) cI 201 (upd kd f k1)), (oa (a 2) cI 201 (upd rk f k2)), (oa (a 3) cI 201 (upd wd f k3)), (oa (a 4) cI 201 (upd tw f k4)), (oa (a 5) cI 201 (upd st f 0)), (oa (a 6) cZ 201 (upd tn f 0)), (oa (a 7) cI 201 (upd gb f 0)), (oa (a 8) cI 201 (upd pa f (-1))), (oa (a 9) cI 201 (upd pb f (-1))), (oa (a 10) cI 201 it), (oa (a 11) cI 201 mn)] := hD
  refine lv_aload_n hx hb dX11_begin_72 rfl (lv_at hl 0 rfl) ?_
  refine va_get (D := (dC, dI)) (ci := 9) (v := .ref (a 10)) (C := RX11) (T := TX11) (N := 55) hx hb hts inX11 hown hK hP 0 rfl rfl 10 (by decide) (hts _ mw_1169) (fun _ h9 => h9) rfl dX11_begin_73 ?_
  refine lv_iload_n hx hb dX11_begin_76 rfl (lv_at hl 1 rfl) ?_
  refine lv_iconst (v := (-1)) hx hb dX11_begin_77 (by decide) ?_
  refine z_iast hx hb hK hP hD hS 10 0 rfl rfl (e := f) (x := (-1)) rfl (by omega) (by omega) dX11_begin_78 (fun H locs hP hD hS => ?_)
  have hP : va_P (dC, dI) classes [(om k0 a (upd I0 0 (nI (f + 1))) J0), (oa (a 1) cI 201 (upd kd f k1)), (oa (a 2) cI 201 (upd rk f k2)), (oa (a 3) cI 201 (upd wd f k3)), (oa (a 4) cI 201 (upd tw f k4)), (oa (a 5) cI 201 (upd st f 0)), (oa (a 6) cZ 201 (upd tn f 0)), (oa (a 7) cI 201 (upd gb f 0)), (oa (a 8) cI 201 (upd pa f (-1))), (oa (a 9) cI 201 (upd pb f (-1))), (oa (a 10) cI 201 (upd it f (-1))), (oa (a 11) cI 201 mn)] H := hP
  have hD : va_D A [(om k0 a (upd I0 0 (nI (f + 1))) J0), (oa (a 1) cI 201 (upd kd f k1)), (oa (a 2) cI 201 (upd rk f k2)), (oa (a 3) cI 201 (upd wd f k3)), (oa (a 4) cI 201 (upd tw f k4)), (oa (a 5) cI 201 (upd st f 0)), (oa (a 6) cZ 201 (upd tn f 0)), (oa (a 7) cI 201 (upd gb f 0)), (oa (a 8) cI 201 (upd pa f (-1))), (oa (a 9) cI 201 (upd pb f (-1))), (oa (a 10) cI 201 (upd it f (-1))), (oa (a 11) cI 201 mn)] := hD
  refine lv_aload_n hx hb dX11_begin_79 rfl (lv_at hl 0 rfl) ?_
  refine va_get (D := (dC, dI)) (ci := 9) (v := .ref (a 11)) (C := RX11) (T := TX11) (N := 55) hx hb hts inX11 hown hK hP 0 rfl rfl 11 (by decide) (hts _ mw_1170) (fun _ h9 => h9) rfl dX11_begin_80 ?_
  refine lv_iload_n hx hb dX11_begin_83 rfl (lv_at hl 1 rfl) ?_
  refine lv_iconst (v := 0) hx hb dX11_begin_84 (by decide) ?_
  refine z_iast hx hb hK hP hD hS 11 0 rfl rfl (e := f) (x := 0) rfl (by omega) (by omega) dX11_begin_85 (fun H locs hP hD hS => ?_)
  have hP : va_P (dC, dI) classes [(om k0 a (upd I0 0 (nI (f + 1))) J0), (oa (a 1) cI 201 (upd kd f k1)), (oa (a 2) cI 201 (upd rk f k2)), (oa (a 3) cI 201 (upd wd f k3)), (oa (a 4) cI 201 (upd tw f k4)), (oa (a 5) cI 201 (upd st f 0)), (oa (a 6) cZ 201 (upd tn f 0)), (oa (a 7) cI 201 (upd gb f 0)), (oa (a 8) cI 201 (upd pa f (-1))), (oa (a 9) cI 201 (upd pb f (-1))), (oa (a 10) cI 201 (upd it f (-1))), (oa (a 11) cI 201 (upd mn f 0))] H := hP
  have hD : va_D A [(om k0 a (upd I0 0 (nI (f + 1))) J0), (oa (a 1) cI 201 (upd kd f k1)), (oa (a 2) cI 201 (upd rk f k2)), (oa (a 3) cI 201 (upd wd f k3)), (oa (a 4) cI 201 (upd tw f k4)), (oa (a 5) cI 201 (upd st f 0)), (oa (a 6) cZ 201 (upd tn f 0)), (oa (a 7) cI 201 (upd gb f 0)), (oa (a 8) cI 201 (upd pa f (-1))), (oa (a 9) cI 201 (upd pb f (-1))), (oa (a 10) cI 201 (upd it f (-1))), (oa (a 11) cI 201 (upd mn f 0))] := hD
  have hP9 := hP.sub (ws' := [(om k0 a (upd I0 0 (nI (f + 1))) J0), (oa (a 1) cI 201 (upd kd f k1)), (oa (a 2) cI 201 (upd rk f k2)), (oa (a 3) cI 201 (upd wd f k3)), (oa (a 4) cI 201 (upd tw f k4)), (oa (a 5) cI 201 (upd st f 0)), (oa (a 6) cZ 201 (upd tn f 0)), (oa (a 7) cI 201 (upd gb f 0)), (oa (a 8) cI 201 (upd pa f (-1))), (oa (a 9) cI 201 (upd pb f (-1))), (oa (a 10) cI 201 (upd it f (-1))), (oa (a 11) cI 201 (upd mn f 0))]) [0, 1, 2, 3, 4, 5, 6, 7, 8, 9, 10, 11] rfl
  have hD9 := hD.sub (ws' := [(om k0 a (upd I0 0 (nI (f + 1))) J0), (oa (a 1) cI 201 (upd kd f k1)), (oa (a 2) cI 201 (upd rk f k2)), (oa (a 3) cI 201 (upd wd f k3)), (oa (a 4) cI 201 (upd tw f k4)), (oa (a 5) cI 201 (upd st f 0)), (oa (a 6) cZ 201 (upd tn f 0)), (oa (a 7) cI 201 (upd gb f 0)), (oa (a 8) cI 201 (upd pa f (-1))), (oa (a 9) cI 201 (upd pb f (-1))), (oa (a 10) cI 201 (upd it f (-1))), (oa (a 11) cI 201 (upd mn f 0))]) [0, 1, 2, 3, 4, 5, 6, 7, 8, 9, 10, 11] (by decide) rfl
  rw [hQ9]
  exact W.vret hx hb hr (fun t ht hW => ⟨⟨rfl, by rw [ht]; exact hP9, hD9⟩, hS.F ht⟩) hS.2.2 dX11_begin_86
