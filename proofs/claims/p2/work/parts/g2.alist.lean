set_option maxHeartbeats 4000000 in
set_option maxRecDepth 100000 in
theorem k_J_checkIndex (l : Launch) (dC : Nat → ClassId) (dI : Nat → Nat → Nat) (cI cZ cF : ClassId) (sz : Nat) (i : Nat) (n : Nat) (hi : i < n) (hn : n < 2147483648) : Met l yJ3_checkIndex_8e157 (.code yJ3_checkIndex_8e157 cJ3_checkIndex_8e157 3 (some .int) :: ws0) ({ frames := 0, cells := 0, slots := 0, locals := 0 } : Room) (va_Pc [.int (nI i), .int (nI n), .null] (zPre (dC, dI) classes (zTy cI cZ cF) [] sz zXN)) (zQ (some (.int (nI i))) (fun t => va_P (dC, dI) classes [] t.heap ∧ va_D (va_A [] sz) []) (va_A [] sz)) 0 0 (va_A [] sz) := by
  refine Met.ofW (cc := cJ3_checkIndex_8e157) (maxL := 3) (ret := (some .int)) (by decide) rfl ?_
  intro p e s m args below meth c s₁ B hml hv
  obtain ⟨rfl, hsz, hP, hK, hD0, hXN⟩ := hv
  have hx := B.exec
  have hb := B.bytes
  have hr := B.returns
  have hts0 := atoms_spec (ws := .code yJ3_checkIndex_8e157 cJ3_checkIndex_8e157 3 (some .int) :: ws0) B.pre
  have hts : ∀ w9 ∈ ws0, w9.before ([.int (nI i), .int (nI n), .null] : List Value).toArray s = true := fun w9 h => hts0 w9 (List.mem_cons_of_mem _ h)
  have hown : s.vm.findClass "jdk/internal/util/Preconditions" = some m.cls := findClass_of_methodNamed B.named
  have hlocks := B.notSynchronized
  subst hsz
  have hD := hD0.self (sz := s.heap.size)
  clear hD0
  generalize hAe : va_A [] s.heap.size = A at hD ⊢
  have hA : ∀ q : Nat, s.heap.size ≤ q → A q := fun q h => by rw [← hAe]; exact Or.inr h
  clear hAe
  have hS : va_S A s.heap s.heap [] := va_S.rf
  have hP : va_P (dC, dI) classes [] s.heap := hP
  obtain ⟨Q9, hQ9⟩ : ∃ Q9 : State → Prop, Q9 = MQ below (zQ (some (.int (nI i))) (fun t => va_P (dC, dI) classes [] t.heap ∧ va_D A []) A) ([.int (nI i), .int (nI n), .null] : List Value).toArray s 0 0 A := ⟨_, rfl⟩
  rw [← hQ9]
  have hl := lv_entry ([.int (nI i), .int (nI n), .null]) (n := 3) (Nat.le_of_ble_eq_true rfl)
  rw [lg_entry_eq]
  generalize (lg_sl ([.int (nI i), .int (nI n), .null]) ++ List.replicate (3 - (lg_sl ([.int (nI i), .int (nI n), .null])).length) Slot.unset).toArray = ls at hl ⊢
  have hl : lv_has ls 3 [(0, .int (nI i)), (1, .int (nI n)), (2, .null)] := hl
  refine lv_iload_n hx hb dJ3_checkIndex_8e157_0 rfl (lv_at hl 0 rfl) ?_
  refine lv_if_lt (tgt := 9) hx hb dJ3_checkIndex_8e157_1 (by decide) (fun c_1 => ?_) (fun c_1 => ?_)
  · have c_1 : ((i : Nat) : Int) < 0 := zc_lt (nI_toInt (by omega)) (by decide) c_1
    exfalso; omega
  · have c_1 : 0 ≤ ((i : Nat) : Int) := zc_nlt (nI_toInt (by omega)) (by decide) c_1
    refine lv_iload_n hx hb dJ3_checkIndex_8e157_4 rfl (lv_at hl 0 rfl) ?_
    refine lv_iload_n hx hb dJ3_checkIndex_8e157_5 rfl (lv_at hl 1 rfl) ?_
    refine lv_icmp_lt (tgt := 16) hx hb dJ3_checkIndex_8e157_6 (by decide) (fun c_2 => ?_) (fun c_2 => ?_)
    · have c_2 : ((i : Nat) : Int) < ((n : Nat) : Int) := zc_lt (nI_toInt (by omega)) (nI_toInt (by omega)) c_2
      refine lv_iload_n hx hb dJ3_checkIndex_8e157_16 rfl (lv_at hl 0 rfl) ?_
      have hP9 := hP.sub (ws' := []) [] rfl
      have hD9 := hD.sub (ws' := []) [] (by decide) rfl
      rw [hQ9]
      exact W.iret (v := nI i) hx hb hr (fun t ht hW => ⟨⟨rfl, by rw [ht]; exact hP9, hD9⟩, hS.F ht⟩) hS.2.2 dJ3_checkIndex_8e157_17
    · have c_2 : ((n : Nat) : Int) ≤ ((i : Nat) : Int) := zc_nlt (nI_toInt (by omega)) (nI_toInt (by omega)) c_2
      exfalso; omega
set_option maxHeartbeats 4000000 in
set_option maxRecDepth 100000 in
theorem k_O_checkIndex (l : Launch) (dC : Nat → ClassId) (dI : Nat → Nat → Nat) (cI cZ cF : ClassId) (sz : Nat) (i : Nat) (n : Nat) (hi : i < n) (hn : n < 2147483648) : Met l yJ15_checkIndex_7cf53 (.code yJ15_checkIndex_7cf53 cJ15_checkIndex_7cf53 2 (some .int) :: ws0) ({ frames := 1, cells := 0, slots := 0, locals := 22 } : Room) (va_Pc [.int (nI i), .int (nI n)] (zPre (dC, dI) classes (zTy cI cZ cF) [] sz zXN)) (zQ (some (.int (nI i))) (fun t => va_P (dC, dI) classes [] t.heap ∧ va_D (va_A [] sz) []) (va_A [] sz)) 0 0 (va_A [] sz) := by
  refine Met.ofW (cc := cJ15_checkIndex_7cf53) (maxL := 2) (ret := (some .int)) (by decide) rfl ?_
  intro p e s m args below meth c s₁ B hml hv
  obtain ⟨rfl, hsz, hP, hK, hD0, hXN⟩ := hv
  have hx := B.exec
  have hb := B.bytes
  have hr := B.returns
  have hts0 := atoms_spec (ws := .code yJ15_checkIndex_7cf53 cJ15_checkIndex_7cf53 2 (some .int) :: ws0) B.pre
  have hts : ∀ w9 ∈ ws0, w9.before ([.int (nI i), .int (nI n)] : List Value).toArray s = true := fun w9 h => hts0 w9 (List.mem_cons_of_mem _ h)
  have hown : s.vm.findClass "java/util/Objects" = some m.cls := findClass_of_methodNamed B.named
  have hlocks := B.notSynchronized
  subst hsz
  have hD := hD0.self (sz := s.heap.size)
  clear hD0
  generalize hAe : va_A [] s.heap.size = A at hD ⊢
  have hA : ∀ q : Nat, s.heap.size ≤ q → A q := fun q h => by rw [← hAe]; exact Or.inr h
  clear hAe
  have hS : va_S A s.heap s.heap [] := va_S.rf
  have hP : va_P (dC, dI) classes [] s.heap := hP
  obtain ⟨Q9, hQ9⟩ : ∃ Q9 : State → Prop, Q9 = MQ below (zQ (some (.int (nI i))) (fun t => va_P (dC, dI) classes [] t.heap ∧ va_D A []) A) ([.int (nI i), .int (nI n)] : List Value).toArray s 0 0 A := ⟨_, rfl⟩
  rw [← hQ9]
  have hl := lv_entry ([.int (nI i), .int (nI n)]) (n := 2) (Nat.le_of_ble_eq_true rfl)
  rw [lg_entry_eq]
  generalize (lg_sl ([.int (nI i), .int (nI n)]) ++ List.replicate (2 - (lg_sl ([.int (nI i), .int (nI n)])).length) Slot.unset).toArray = ls at hl ⊢
  have hl : lv_has ls 2 [(0, .int (nI i)), (1, .int (nI n))] := hl
  refine lv_iload_n hx hb dJ15_checkIndex_7cf53_0 rfl (lv_at hl 0 rfl) ?_
  refine lv_iload_n hx hb dJ15_checkIndex_7cf53_1 rfl (lv_at hl 1 rfl) ?_
  refine lv_null hx hb dJ15_checkIndex_7cf53_2 ?_
  have hPc := hP.sub (ws' := []) [] rfl
  have hDc := hD.sub (ws' := []) [] (by decide) rfl
  have hFc := va_free (wc := []) hD hS hA [] rfl
  refine zcall (st1 := [.int (nI i)]) (va_runS (As := [.int (nI i), .int (nI n), .null]) (rest := []) ⟨hx, hb, hml, hown, hts⟩ (k_J_checkIndex l dC dI cI cZ cF s.heap.size i n (by omega) (by omega)) (va_cwS 3 hts (zz_gS mw_479 mw_480 mw_114 mc_yJ3_checkIndex_8e157) rfl rfl rfl (by decide +kernel) ⟨Nat.le_of_ble_eq_true rfl, Nat.le_of_ble_eq_true rfl⟩) (zPS2 hPc hDc hK hXN) rfl rfl hl.1 rfl (lv_room (Nat.le_of_ble_eq_true rfl)) dJ15_checkIndex_7cf53_3 ⟨Nat.le_of_ble_eq_true rfl, Nat.le_of_ble_eq_true rfl⟩) hS hFc hFc rfl (fun t H1 locs ht hB hk1 hS => ?_)
  obtain ⟨hP1, hD1⟩ := hB
  rw [ht] at hP1
  obtain ⟨hP, hD⟩ := va_join (wr := []) (w1 := []) hP hD [] [] rfl rfl (by decide) (by decide) hk1 hFc hP1 hD1
  clear hk1 hPc hDc hFc hP1 hD1 ht
  generalize H1 = H at hP hS ⊢
  have hP : va_P (dC, dI) classes [] H := hP
  have hD : va_D A [] := hD
  have hP9 := hP.sub (ws' := []) [] rfl
  have hD9 := hD.sub (ws' := []) [] (by decide) rfl
  rw [hQ9]
  exact W.iret (v := nI i) hx hb hr (fun t ht hW => ⟨⟨rfl, by rw [ht]; exact hP9, hD9⟩, hS.F ht⟩) hS.2.2 dJ15_checkIndex_7cf53_6
set_option maxHeartbeats 4000000 in
set_option maxRecDepth 100000 in
theorem k_AL_size (l : Launch) (dC : Nat → ClassId) (dI : Nat → Nat → Nat) (cI cZ cF : ClassId) (sz : Nat) (sl : Nat) (ea : Nat) (n9 : Nat) (mc9 : Int32) : Met l yJx4a65c_size_8abf5 (.code yJx4a65c_size_8abf5 cJx4a65c_size_8abf5 1 (some .int) :: ws0) ({ frames := 0, cells := 0, slots := 0, locals := 0 } : Room) (va_Pc [.ref sl] (zPre (dC, dI) classes (zTy cI cZ cF) [(oc10 sl mc9 (.ref ea) (nI n9))] sz zXN)) (zQ (some (.int (nI n9))) (fun t => va_P (dC, dI) classes [(oc10 sl mc9 (.ref ea) (nI n9))] t.heap ∧ va_D (va_A [(oc10 sl mc9 (.ref ea) (nI n9))] sz) [(oc10 sl mc9 (.ref ea) (nI n9))]) (va_A [(oc10 sl mc9 (.ref ea) (nI n9))] sz)) 0 0 (va_A [(oc10 sl mc9 (.ref ea) (nI n9))] sz) := by
  refine Met.ofW (cc := cJx4a65c_size_8abf5) (maxL := 1) (ret := (some .int)) (by decide) rfl ?_
  intro p e s m args below meth c s₁ B hml hv
  obtain ⟨rfl, hsz, hP, hK, hD0, hXN⟩ := hv
  have hx := B.exec
  have hb := B.bytes
  have hr := B.returns
  have hts0 := atoms_spec (ws := .code yJx4a65c_size_8abf5 cJx4a65c_size_8abf5 1 (some .int) :: ws0) B.pre
  have hts : ∀ w9 ∈ ws0, w9.before ([.ref sl] : List Value).toArray s = true := fun w9 h => hts0 w9 (List.mem_cons_of_mem _ h)
  have hown : s.vm.findClass "java/util/ArrayList" = some m.cls := findClass_of_methodNamed B.named
  have hlocks := B.notSynchronized
  subst hsz
  have hD := hD0.self (sz := s.heap.size)
  clear hD0
  generalize hAe : va_A [(oc10 sl mc9 (.ref ea) (nI n9))] s.heap.size = A at hD ⊢
  have hA : ∀ q : Nat, s.heap.size ≤ q → A q := fun q h => by rw [← hAe]; exact Or.inr h
  clear hAe
  have hS : va_S A s.heap s.heap [] := va_S.rf
  have hP : va_P (dC, dI) classes [(oc10 sl mc9 (.ref ea) (nI n9))] s.heap := hP
  obtain ⟨Q9, hQ9⟩ : ∃ Q9 : State → Prop, Q9 = MQ below (zQ (some (.int (nI n9))) (fun t => va_P (dC, dI) classes [(oc10 sl mc9 (.ref ea) (nI n9))] t.heap ∧ va_D A [(oc10 sl mc9 (.ref ea) (nI n9))]) A) ([.ref sl] : List Value).toArray s 0 0 A := ⟨_, rfl⟩
  rw [← hQ9]
  have hl := lv_entry ([.ref sl]) (n := 1) (Nat.le_of_ble_eq_true rfl)
  rw [lg_entry_eq]
  generalize (lg_sl ([.ref sl]) ++ List.replicate (1 - (lg_sl ([.ref sl])).length) Slot.unset).toArray = ls at hl ⊢
  have hl : lv_has ls 1 [(0, .ref sl)] := hl
  refine lv_aload_n hx hb dJx4a65c_size_8abf5_0 rfl (lv_at hl 0 rfl) ?_
  refine va_get (D := (dC, dI)) (ci := 10) (v := .int (nI n9)) (C := RJx4a65c) (T := TJx4a65c) (N := 3) hx hb hts inJx4a65c hown hK hP 0 rfl rfl 2 (by decide) (hts _ mw_297) (fun _ h9 => h9) rfl dJx4a65c_size_8abf5_1 ?_
  have hP9 := hP.sub (ws' := [(oc10 sl mc9 (.ref ea) (nI n9))]) [0] rfl
  have hD9 := hD.sub (ws' := [(oc10 sl mc9 (.ref ea) (nI n9))]) [0] (by decide) rfl
  rw [hQ9]
  exact W.iret (v := nI n9) hx hb hr (fun t ht hW => ⟨⟨rfl, by rw [ht]; exact hP9, hD9⟩, hS.F ht⟩) hS.2.2 dJx4a65c_size_8abf5_4
set_option maxHeartbeats 4000000 in
set_option maxRecDepth 100000 in
theorem k_AL_elem (l : Launch) (dC : Nat → ClassId) (dI : Nat → Nat → Nat) (cI cZ cF : ClassId) (sz : Nat) (cO : ClassId) (e0 : Nat) (mi : Nat) (sl : Nat) (ea : Nat) (n9 : Nat) (mc9 : Int32) (i : Nat) (cp9 : Nat) (y9 : Nat) (SA : Nat → Option Nat) (hSA : SA i = some y9) (hic : i < cp9) (hcp : cp9 < 2147483648) : Met l yJx4a65c_elementData_915e3 (.code yJx4a65c_elementData_915e3 cJx4a65c_elementData_915e3 2 (some (.object "java/lang/Object")) :: ws0) ({ frames := 0, cells := 0, slots := 0, locals := 0 } : Room) (va_Pc [.ref sl, .int (nI i)] (zPre (dC, dI) classes (zTyO cI cZ cF cO) [(oc10 sl mc9 (.ref ea) (nI n9)), (oq ea cO cp9 SA)] sz (zXL e0 mi (va_A [(oc10 sl mc9 (.ref ea) (nI n9)), (oq ea cO cp9 SA)] sz)))) (zQ (some (.ref y9)) (fun t => va_P (dC, dI) classes [(oc10 sl mc9 (.ref ea) (nI n9)), (oq ea cO cp9 SA)] t.heap ∧ va_D (va_A [(oc10 sl mc9 (.ref ea) (nI n9)), (oq ea cO cp9 SA)] sz) [(oc10 sl mc9 (.ref ea) (nI n9)), (oq ea cO cp9 SA)]) (va_A [(oc10 sl mc9 (.ref ea) (nI n9)), (oq ea cO cp9 SA)] sz)) 0 0 (va_A [(oc10 sl mc9 (.ref ea) (nI n9)), (oq ea cO cp9 SA)] sz) := by
  refine Met.ofW (cc := cJx4a65c_elementData_915e3) (maxL := 2) (ret := (some (.object "java/lang/Object"))) (by decide) rfl ?_
  intro p e s m args below meth c s₁ B hml hv
  obtain ⟨rfl, hsz, hP, hK, hD0, hXL⟩ := hv
  have hx := B.exec
  have hb := B.bytes
  have hr := B.returns
  have hts0 := atoms_spec (ws := .code yJx4a65c_elementData_915e3 cJx4a65c_elementData_915e3 2 (some (.object "java/lang/Object")) :: ws0) B.pre
  have hts : ∀ w9 ∈ ws0, w9.before ([.ref sl, .int (nI i)] : List Value).toArray s = true := fun w9 h => hts0 w9 (List.mem_cons_of_mem _ h)
  have hown : s.vm.findClass "java/util/ArrayList" = some m.cls := findClass_of_methodNamed B.named
  have hlocks := B.notSynchronized
  subst hsz
  have hD := hD0.self (sz := s.heap.size)
  clear hD0
  generalize hAe : va_A [(oc10 sl mc9 (.ref ea) (nI n9)), (oq ea cO cp9 SA)] s.heap.size = A at hD hXL ⊢
  have hA : ∀ q : Nat, s.heap.size ≤ q → A q := fun q h => by rw [← hAe]; exact Or.inr h
  clear hAe
  have hS : va_S A s.heap s.heap [] := va_S.rf
  have hXN := hXL.1
  have hK3 := hK.sub [0, 1, 2] rfl
  have hP : va_P (dC, dI) classes [(oc10 sl mc9 (.ref ea) (nI n9)), (oq ea cO cp9 SA)] s.heap := hP
  obtain ⟨Q9, hQ9⟩ : ∃ Q9 : State → Prop, Q9 = MQ below (zQ (some (.ref y9)) (fun t => va_P (dC, dI) classes [(oc10 sl mc9 (.ref ea) (nI n9)), (oq ea cO cp9 SA)] t.heap ∧ va_D A [(oc10 sl mc9 (.ref ea) (nI n9)), (oq ea cO cp9 SA)]) A) ([.ref sl, .int (nI i)] : List Value).toArray s 0 0 A := ⟨_, rfl⟩
  rw [← hQ9]
  have hl := lv_entry ([.ref sl, .int (nI i)]) (n := 2) (Nat.le_of_ble_eq_true rfl)
  rw [lg_entry_eq]
  generalize (lg_sl ([.ref sl, .int (nI i)]) ++ List.replicate (2 - (lg_sl ([.ref sl, .int (nI i)])).length) Slot.unset).toArray = ls at hl ⊢
  have hl : lv_has ls 2 [(0, .ref sl), (1, .int (nI i))] := hl
  refine lv_aload_n hx hb dJx4a65c_elementData_915e3_0 rfl (lv_at hl 0 rfl) ?_
  refine va_get (D := (dC, dI)) (ci := 10) (v := .ref ea) (C := RJx4a65c) (T := TJx4a65c) (N := 3) hx hb hts inJx4a65c hown hK hP 0 rfl rfl 1 (by decide) (hts _ mw_296) (fun _ h9 => h9) rfl dJx4a65c_elementData_915e3_1 ?_
  refine lv_iload_n hx hb dJx4a65c_elementData_915e3_4 rfl (lv_at hl 1 rfl) ?_
  refine z_aald hx hb hK hP 1 3 rfl rfl (e := i) rfl (by omega) (by omega) (v := .ref y9) (by rw [hSA]; rfl) dJx4a65c_elementData_915e3_5 ?_
  have hP9 := hP.sub (ws' := [(oc10 sl mc9 (.ref ea) (nI n9)), (oq ea cO cp9 SA)]) [0, 1] rfl
  have hD9 := hD.sub (ws' := [(oc10 sl mc9 (.ref ea) (nI n9)), (oq ea cO cp9 SA)]) [0, 1] (by decide) rfl
  rw [hQ9]
  exact W.aret hx hb hr (Or.inl ⟨_, rfl⟩) (Or.inr ⟨_, rfl⟩) (fun t ht hW => ⟨⟨rfl, by rw [ht]; exact hP9, hD9⟩, hS.F ht⟩) hS.2.2 dJx4a65c_elementData_915e3_6
set_option maxHeartbeats 4000000 in
set_option maxRecDepth 100000 in
theorem k_AL_get (l : Launch) (dC : Nat → ClassId) (dI : Nat → Nat → Nat) (cI cZ cF : ClassId) (sz : Nat) (cO : ClassId) (e0 : Nat) (mi : Nat) (sl : Nat) (ea : Nat) (n9 : Nat) (mc9 : Int32) (i : Nat) (cp9 : Nat) (y9 : Nat) (SA : Nat → Option Nat) (hSA : SA i = some y9) (hic : i < cp9) (hcp : cp9 < 2147483648) (hin : i < n9) (hnc : n9 ≤ cp9) : Met l yJx4a65c_get_915e3 (.code yJx4a65c_get_915e3 cJx4a65c_get_915e3 2 (some (.object "java/lang/Object")) :: ws0) ({ frames := 2, cells := 0, slots := 0, locals := 43 } : Room) (va_Pc [.ref sl, .int (nI i)] (zPre (dC, dI) classes (zTyO cI cZ cF cO) [(oc10 sl mc9 (.ref ea) (nI n9)), (oq ea cO cp9 SA)] sz (zXL e0 mi (va_A [(oc10 sl mc9 (.ref ea) (nI n9)), (oq ea cO cp9 SA)] sz)))) (zQ (some (.ref y9)) (fun t => va_P (dC, dI) classes [(oc10 sl mc9 (.ref ea) (nI n9)), (oq ea cO cp9 SA)] t.heap ∧ va_D (va_A [(oc10 sl mc9 (.ref ea) (nI n9)), (oq ea cO cp9 SA)] sz) [(oc10 sl mc9 (.ref ea) (nI n9)), (oq ea cO cp9 SA)]) (va_A [(oc10 sl mc9 (.ref ea) (nI n9)), (oq ea cO cp9 SA)] sz)) 0 0 (va_A [(oc10 sl mc9 (.ref ea) (nI n9)), (oq ea cO cp9 SA)] sz) := by
  refine Met.ofW (cc := cJx4a65c_get_915e3) (maxL := 2) (ret := (some (.object "java/lang/Object"))) (by decide) rfl ?_
  intro p e s m args below meth c s₁ B hml hv
  obtain ⟨rfl, hsz, hP, hK, hD0, hXL⟩ := hv
  have hx := B.exec
  have hb := B.bytes
  have hr := B.returns
  have hts0 := atoms_spec (ws := .code yJx4a65c_get_915e3 cJx4a65c_get_915e3 2 (some (.object "java/lang/Object")) :: ws0) B.pre
  have hts : ∀ w9 ∈ ws0, w9.before ([.ref sl, .int (nI i)] : List Value).toArray s = true := fun w9 h => hts0 w9 (List.mem_cons_of_mem _ h)
  have hown : s.vm.findClass "java/util/ArrayList" = some m.cls := findClass_of_methodNamed B.named
  have hlocks := B.notSynchronized
  subst hsz
  have hD := hD0.self (sz := s.heap.size)
  clear hD0
  generalize hAe : va_A [(oc10 sl mc9 (.ref ea) (nI n9)), (oq ea cO cp9 SA)] s.heap.size = A at hD hXL ⊢
  have hA : ∀ q : Nat, s.heap.size ≤ q → A q := fun q h => by rw [← hAe]; exact Or.inr h
  clear hAe
  have hS : va_S A s.heap s.heap [] := va_S.rf
  have hXN := hXL.1
  have hK3 := hK.sub [0, 1, 2] rfl
  have hP : va_P (dC, dI) classes [(oc10 sl mc9 (.ref ea) (nI n9)), (oq ea cO cp9 SA)] s.heap := hP
  obtain ⟨Q9, hQ9⟩ : ∃ Q9 : State → Prop, Q9 = MQ below (zQ (some (.ref y9)) (fun t => va_P (dC, dI) classes [(oc10 sl mc9 (.ref ea) (nI n9)), (oq ea cO cp9 SA)] t.heap ∧ va_D A [(oc10 sl mc9 (.ref ea) (nI n9)), (oq ea cO cp9 SA)]) A) ([.ref sl, .int (nI i)] : List Value).toArray s 0 0 A := ⟨_, rfl⟩
  rw [← hQ9]
  have hl := lv_entry ([.ref sl, .int (nI i)]) (n := 2) (Nat.le_of_ble_eq_true rfl)
  rw [lg_entry_eq]
  generalize (lg_sl ([.ref sl, .int (nI i)]) ++ List.replicate (2 - (lg_sl ([.ref sl, .int (nI i)])).length) Slot.unset).toArray = ls at hl ⊢
  have hl : lv_has ls 2 [(0, .ref sl), (1, .int (nI i))] := hl
  refine lv_iload_n hx hb dJx4a65c_get_915e3_0 rfl (lv_at hl 1 rfl) ?_
  refine lv_aload_n hx hb dJx4a65c_get_915e3_1 rfl (lv_at hl 0 rfl) ?_
  refine va_get (D := (dC, dI)) (ci := 10) (v := .int (nI n9)) (C := RJx4a65c) (T := TJx4a65c) (N := 3) hx hb hts inJx4a65c hown hK hP 0 rfl rfl 2 (by decide) (hts _ mw_297) (fun _ h9 => h9) rfl dJx4a65c_get_915e3_2 ?_
  have hPc := hP.sub (ws' := []) [] rfl
  have hDc := hD.sub (ws' := []) [] (by decide) rfl
  have hFc := va_free (wc := []) hD hS hA [] rfl
  refine zcall (st1 := [.int (nI i)]) (va_runS (As := [.int (nI i), .int (nI n9)]) (rest := []) ⟨hx, hb, hml, hown, hts⟩ (k_O_checkIndex l dC dI cI cZ cF s.heap.size i n9 (by omega) (by omega)) (va_cwS 2 hts (zz_gS mw_476 mw_477 mw_113 mc_yJ15_checkIndex_7cf53) rfl rfl rfl (by decide +kernel) ⟨Nat.le_of_ble_eq_true rfl, Nat.le_of_ble_eq_true rfl⟩) (zPS2 hPc hDc hK3 hXN) rfl rfl hl.1 rfl (lv_room (Nat.le_of_ble_eq_true rfl)) dJx4a65c_get_915e3_5 ⟨Nat.le_of_ble_eq_true rfl, Nat.le_of_ble_eq_true rfl⟩) hS hFc hFc rfl (fun t H1 locs ht hB hk1 hS => ?_)
  obtain ⟨hP1, hD1⟩ := hB
  rw [ht] at hP1
  obtain ⟨hP, hD⟩ := va_join (wr := [(oc10 sl mc9 (.ref ea) (nI n9)), (oq ea cO cp9 SA)]) (w1 := []) hP hD [] [0, 1] rfl rfl (by decide) (by decide) hk1 hFc hP1 hD1
  clear hk1 hPc hDc hFc hP1 hD1 ht
  generalize H1 = H at hP hS ⊢
  have hP : va_P (dC, dI) classes [(oc10 sl mc9 (.ref ea) (nI n9)), (oq ea cO cp9 SA)] H := hP
  have hD : va_D A [(oc10 sl mc9 (.ref ea) (nI n9)), (oq ea cO cp9 SA)] := hD
  refine lv_pop hx hb dJx4a65c_get_915e3_8 rfl ?_
  refine lv_aload_n hx hb dJx4a65c_get_915e3_9 rfl (lv_at hl 0 rfl) ?_
  refine lv_iload_n hx hb dJx4a65c_get_915e3_10 rfl (lv_at hl 1 rfl) ?_
  have hPc := hP.sub (ws' := [(oc10 sl mc9 (.ref ea) (nI n9)), (oq ea cO cp9 SA)]) [0, 1] rfl
  have hDc := hD.sub (ws' := [(oc10 sl mc9 (.ref ea) (nI n9)), (oq ea cO cp9 SA)]) [0, 1] (by decide) rfl
  have hFc := va_free (wc := [(oc10 sl mc9 (.ref ea) (nI n9)), (oq ea cO cp9 SA)]) hD hS hA [0, 1] rfl
  refine zcall (st1 := [.ref y9]) (va_runV (As := [.int (nI i)]) (rest := []) ⟨hx, hb, hml, hown, hts⟩ (k_AL_elem l dC dI cI cZ cF H.size cO e0 mi sl ea n9 mc9 i cp9 y9 SA (by assumption) (by omega) (by omega)) (cwV 1 hts (zz_gV mw_1036 mw_1037 mw_1038 mw_109 mc_yJx4a65c_elementData_915e3) rfl rfl rfl (by decide +kernel) ⟨Nat.le_of_ble_eq_true rfl, Nat.le_of_ble_eq_true rfl⟩) (zPVL (q0 := 0) (ci := 10) hPc hDc hK hXL hS hFc rfl rfl) rfl rfl hl.1 rfl (lv_room (Nat.le_of_ble_eq_true rfl)) dJx4a65c_get_915e3_11 ⟨Nat.le_of_ble_eq_true rfl, Nat.le_of_ble_eq_true rfl⟩) hS hFc hFc rfl (fun t H1 locs ht hB hk1 hS => ?_)
  obtain ⟨hP1, hD1⟩ := hB
  rw [ht] at hP1
  obtain ⟨hP, hD⟩ := va_join (wr := []) (w1 := [(oc10 sl mc9 (.ref ea) (nI n9)), (oq ea cO cp9 SA)]) hP hD [0, 1] [] rfl rfl (by decide) (by decide) hk1 hFc hP1 hD1
  clear hk1 hPc hDc hFc hP1 hD1 ht
  generalize H1 = H at hP hS ⊢
  have hP : va_P (dC, dI) classes [(oc10 sl mc9 (.ref ea) (nI n9)), (oq ea cO cp9 SA)] H := hP
  have hD : va_D A [(oc10 sl mc9 (.ref ea) (nI n9)), (oq ea cO cp9 SA)] := hD
  have hP9 := hP.sub (ws' := [(oc10 sl mc9 (.ref ea) (nI n9)), (oq ea cO cp9 SA)]) [0, 1] rfl
  have hD9 := hD.sub (ws' := [(oc10 sl mc9 (.ref ea) (nI n9)), (oq ea cO cp9 SA)]) [0, 1] (by decide) rfl
  rw [hQ9]
  exact W.aret hx hb hr (Or.inl ⟨_, rfl⟩) (Or.inr ⟨_, rfl⟩) (fun t ht hW => ⟨⟨rfl, by rw [ht]; exact hP9, hD9⟩, hS.F ht⟩) hS.2.2 dJx4a65c_get_915e3_14
set_option maxHeartbeats 4000000 in
set_option maxRecDepth 100000 in
theorem k_AL_fastRemove (l : Launch) (dC : Nat → ClassId) (dI : Nat → Nat → Nat) (cI cZ cF : ClassId) (sz : Nat) (cO : ClassId) (e0 : Nat) (mi : Nat) (sl : Nat) (ea : Nat) (mc9 : Int32) (i : Nat) (cp9 : Nat) (SA : Nat → Option Nat) (hic : i < cp9) (hcp : cp9 < 2147483648) : Met l yJx4a65c_fastRemove_b59b0 (.code yJx4a65c_fastRemove_b59b0 cJx4a65c_fastRemove_b59b0 4 none :: ws0) ({ frames := 0, cells := 0, slots := 0, locals := 0 } : Room) (va_Pc [.ref sl, .ref ea, .int (nI i)] (zPre (dC, dI) classes (zTyO cI cZ cF cO) [(oc10 sl mc9 (.ref ea) (nI (i + 1))), (oq ea cO cp9 SA)] sz (zXL e0 mi (va_A [(oc10 sl mc9 (.ref ea) (nI (i + 1))), (oq ea cO cp9 SA)] sz)))) (zQ none (fun t => va_P (dC, dI) classes [(oc10 sl (mc9 + 1) (.ref ea) (nI i)), (oq ea cO cp9 (va_up SA i none))] t.heap ∧ va_D (va_A [(oc10 sl mc9 (.ref ea) (nI (i + 1))), (oq ea cO cp9 SA)] sz) [(oc10 sl (mc9 + 1) (.ref ea) (nI i)), (oq ea cO cp9 (va_up SA i none))]) (va_A [(oc10 sl mc9 (.ref ea) (nI (i + 1))), (oq ea cO cp9 SA)] sz)) 0 0 (va_A [(oc10 sl mc9 (.ref ea) (nI (i + 1))), (oq ea cO cp9 SA)] sz) := by
  refine Met.ofW (cc := cJx4a65c_fastRemove_b59b0) (maxL := 4) (ret := none) (by decide) rfl ?_
  intro p e s m args below meth c s₁ B hml hv
  obtain ⟨rfl, hsz, hP, hK, hD0, hXL⟩ := hv
  have hx := B.exec
  have hb := B.bytes
  have hr := B.returns
  have hts0 := atoms_spec (ws := .code yJx4a65c_fastRemove_b59b0 cJx4a65c_fastRemove_b59b0 4 none :: ws0) B.pre
  have hts : ∀ w9 ∈ ws0, w9.before ([.ref sl, .ref ea, .int (nI i)] : List Value).toArray s = true := fun w9 h => hts0 w9 (List.mem_cons_of_mem _ h)
  have hown : s.vm.findClass "java/util/ArrayList" = some m.cls := findClass_of_methodNamed B.named
  have hlocks := B.notSynchronized
  subst hsz
  have hD := hD0.self (sz := s.heap.size)
  clear hD0
  generalize hAe : va_A [(oc10 sl mc9 (.ref ea) (nI (i + 1))), (oq ea cO cp9 SA)] s.heap.size = A at hD hXL ⊢
  have hA : ∀ q : Nat, s.heap.size ≤ q → A q := fun q h => by rw [← hAe]; exact Or.inr h
  clear hAe
  have hS : va_S A s.heap s.heap [] := va_S.rf
  have hXN := hXL.1
  have hK3 := hK.sub [0, 1, 2] rfl
  have hP : va_P (dC, dI) classes [(oc10 sl mc9 (.ref ea) (nI (i + 1))), (oq ea cO cp9 SA)] s.heap := hP
  obtain ⟨Q9, hQ9⟩ : ∃ Q9 : State → Prop, Q9 = MQ below (zQ none (fun t => va_P (dC, dI) classes [(oc10 sl (mc9 + 1) (.ref ea) (nI i)), (oq ea cO cp9 (va_up SA i none))] t.heap ∧ va_D A [(oc10 sl (mc9 + 1) (.ref ea) (nI i)), (oq ea cO cp9 (va_up SA i none))]) A) ([.ref sl, .ref ea, .int (nI i)] : List Value).toArray s 0 0 A := ⟨_, rfl⟩
  rw [← hQ9]
  have hl := lv_entry ([.ref sl, .ref ea, .int (nI i)]) (n := 4) (Nat.le_of_ble_eq_true rfl)
  rw [lg_entry_eq]
  generalize (lg_sl ([.ref sl, .ref ea, .int (nI i)]) ++ List.replicate (4 - (lg_sl ([.ref sl, .ref ea, .int (nI i)])).length) Slot.unset).toArray = ls at hl ⊢
  have hl : lv_has ls 4 [(0, .ref sl), (1, .ref ea), (2, .int (nI i))] := hl
  refine lv_aload_n hx hb dJx4a65c_fastRemove_b59b0_0 rfl (lv_at hl 0 rfl) ?_
  refine lv_dup hx hb dJx4a65c_fastRemove_b59b0_1 rfl ?_
  refine va_get (D := (dC, dI)) (ci := 10) (v := .int mc9) (C := RJx4a65c) (T := TJx4a65c) (N := 3) hx hb hts inJx4a65c hown hK hP 0 rfl rfl 0 (by decide) (hts _ mw_299) (fun x9 h9 => u_same (hts _ mw_same_modCount) x9 h9) rfl dJx4a65c_fastRemove_b59b0_2 ?_
  refine lv_iconst (v := 1) hx hb dJx4a65c_fastRemove_b59b0_5 (by decide) ?_
  refine lv_iadd hx hb dJx4a65c_fastRemove_b59b0_6 ?_
  refine va_put (D := (dC, dI)) (ci := 10) (v := .int (mc9 + 1)) (ty := .int) (C := RJx4a65c) (T := TJx4a65c) (N := 3) hx hb hts inJx4a65c tyJx4a65c tyJx4a65c_ok nmJx4a65c hown hK hP hD hS 0 rfl rfl 0 (by decide) (hts _ mw_299) (fun x9 h9 => u_same (hts _ mw_same_modCount) x9 h9) rfl (by decide +kernel) rfl rfl (Nat.le_of_ble_eq_true rfl) dJx4a65c_fastRemove_b59b0_7 (fun H locs hP hD hS => ?_)
  have hP : va_P (dC, dI) classes [(oc10 sl (mc9 + 1) (.ref ea) (nI (i + 1))), (oq ea cO cp9 SA)] H := hP
  have hD : va_D A [(oc10 sl (mc9 + 1) (.ref ea) (nI (i + 1))), (oq ea cO cp9 SA)] := hD
  refine lv_aload_n hx hb dJx4a65c_fastRemove_b59b0_10 rfl (lv_at hl 0 rfl) ?_
  refine va_get (D := (dC, dI)) (ci := 10) (v := .int (nI (i + 1))) (C := RJx4a65c) (T := TJx4a65c) (N := 3) hx hb hts inJx4a65c hown hK hP 0 rfl rfl 2 (by decide) (hts _ mw_297) (fun _ h9 => h9) rfl dJx4a65c_fastRemove_b59b0_11 ?_
  refine lv_iconst (v := 1) hx hb dJx4a65c_fastRemove_b59b0_14 (by decide) ?_
  refine lv_isub hx hb dJx4a65c_fastRemove_b59b0_15 ?_
  refine zz_i (v := nI ((i + 1) - 1)) (pk_sub (a := i + 1) (b := 1) (by omega)) ?_
  refine zz_i (v := nI i) (zn_eq (by omega)) ?_
  refine lv_dup hx hb dJx4a65c_fastRemove_b59b0_16 rfl ?_
  refine lv_istore_n (lv' := [(3, .int (nI i)), (0, .ref sl), (1, .ref ea), (2, .int (nI i))]) hx hb dJx4a65c_fastRemove_b59b0_17 rfl hl (by decide) rfl (fun ls hl => ?_)
  refine lv_iload_n hx hb dJx4a65c_fastRemove_b59b0_18 rfl (lv_at hl 3 rfl) ?_
  refine lv_icmp_le (tgt := 34) hx hb dJx4a65c_fastRemove_b59b0_19 (by decide) (fun c_1 => ?_) (fun c_1 => ?_)
  · have c_1 : ((i : Nat) : Int) ≤ ((i : Nat) : Int) := zc_le (nI_toInt (by omega)) (nI_toInt (by omega)) c_1
    refine lv_aload_n hx hb dJx4a65c_fastRemove_b59b0_34 rfl (lv_at hl 2 rfl) ?_
    refine lv_aload_n hx hb dJx4a65c_fastRemove_b59b0_35 rfl (lv_at hl 1 rfl) ?_
    refine lv_iload_n hx hb dJx4a65c_fastRemove_b59b0_36 rfl (lv_at hl 0 rfl) ?_
    refine lv_dup_x1 hx hb dJx4a65c_fastRemove_b59b0_37 rfl rfl ?_
    refine va_put (D := (dC, dI)) (ci := 10) (v := .int (nI i)) (ty := .int) (C := RJx4a65c) (T := TJx4a65c) (N := 3) hx hb hts inJx4a65c tyJx4a65c tyJx4a65c_ok nmJx4a65c hown hK hP hD hS 0 rfl rfl 2 (by decide) (hts _ mw_297) (fun _ h9 => h9) rfl (by decide +kernel) rfl rfl (Nat.le_of_ble_eq_true rfl) dJx4a65c_fastRemove_b59b0_38 (fun H locs hP hD hS => ?_)
    have hP : va_P (dC, dI) classes [(oc10 sl (mc9 + 1) (.ref ea) (nI i)), (oq ea cO cp9 SA)] H := hP
    have hD : va_D A [(oc10 sl (mc9 + 1) (.ref ea) (nI i)), (oq ea cO cp9 SA)] := hD
    refine lv_null hx hb dJx4a65c_fastRemove_b59b0_41 ?_
    refine z_aastN hx hb hK hP hD hS 1 3 rfl rfl (e := i) rfl (by omega) (by omega) dJx4a65c_fastRemove_b59b0_42 (fun H locs hP hD hS => ?_)
    have hP : va_P (dC, dI) classes [(oc10 sl (mc9 + 1) (.ref ea) (nI i)), (oq ea cO cp9 (va_up SA i none))] H := hP
    have hD : va_D A [(oc10 sl (mc9 + 1) (.ref ea) (nI i)), (oq ea cO cp9 (va_up SA i none))] := hD
    have hP9 := hP.sub (ws' := [(oc10 sl (mc9 + 1) (.ref ea) (nI i)), (oq ea cO cp9 (va_up SA i none))]) [0, 1] rfl
    have hD9 := hD.sub (ws' := [(oc10 sl (mc9 + 1) (.ref ea) (nI i)), (oq ea cO cp9 (va_up SA i none))]) [0, 1] (by decide) rfl
    rw [hQ9]
    exact W.vret hx hb hr (fun t ht hW => ⟨⟨rfl, by rw [ht]; exact hP9, hD9⟩, hS.F ht⟩) hS.2.2 dJx4a65c_fastRemove_b59b0_43
  · have c_1 : ((i : Nat) : Int) < ((i : Nat) : Int) := zc_nle (nI_toInt (by omega)) (nI_toInt (by omega)) c_1
    exfalso; omega
set_option maxHeartbeats 4000000 in
set_option maxRecDepth 100000 in
theorem k_AL_remove (l : Launch) (dC : Nat → ClassId) (dI : Nat → Nat → Nat) (cI cZ cF : ClassId) (sz : Nat) (cO : ClassId) (e0 : Nat) (mi : Nat) (sl : Nat) (ea : Nat) (mc9 : Int32) (i : Nat) (cp9 : Nat) (y9 : Nat) (SA : Nat → Option Nat) (hSA : SA i = some y9) (hic : i < cp9) (hcp : cp9 < 2147483648) : Met l yJx4a65c_remove_915e3 (.code yJx4a65c_remove_915e3 cJx4a65c_remove_915e3 4 (some (.object "java/lang/Object")) :: ws0) ({ frames := 2, cells := 0, slots := 0, locals := 43 } : Room) (va_Pc [.ref sl, .int (nI i)] (zPre (dC, dI) classes (zTyO cI cZ cF cO) [(oc10 sl mc9 (.ref ea) (nI (i + 1))), (oq ea cO cp9 SA)] sz (zXL e0 mi (va_A [(oc10 sl mc9 (.ref ea) (nI (i + 1))), (oq ea cO cp9 SA)] sz)))) (zQ (some (.ref y9)) (fun t => va_P (dC, dI) classes [(oc10 sl (mc9 + 1) (.ref ea) (nI i)), (oq ea cO cp9 (va_up SA i none))] t.heap ∧ va_D (va_A [(oc10 sl mc9 (.ref ea) (nI (i + 1))), (oq ea cO cp9 SA)] sz) [(oc10 sl (mc9 + 1) (.ref ea) (nI i)), (oq ea cO cp9 (va_up SA i none))]) (va_A [(oc10 sl mc9 (.ref ea) (nI (i + 1))), (oq ea cO cp9 SA)] sz)) 0 0 (va_A [(oc10 sl mc9 (.ref ea) (nI (i + 1))), (oq ea cO cp9 SA)] sz) := by
  refine Met.ofW (cc := cJx4a65c_remove_915e3) (maxL := 4) (ret := (some (.object "java/lang/Object"))) (by decide) rfl ?_
  intro p e s m args below meth c s₁ B hml hv
  obtain ⟨rfl, hsz, hP, hK, hD0, hXL⟩ := hv
  have hx := B.exec
  have hb := B.bytes
  have hr := B.returns
  have hts0 := atoms_spec (ws := .code yJx4a65c_remove_915e3 cJx4a65c_remove_915e3 4 (some (.object "java/lang/Object")) :: ws0) B.pre
  have hts : ∀ w9 ∈ ws0, w9.before ([.ref sl, .int (nI i)] : List Value).toArray s = true := fun w9 h => hts0 w9 (List.mem_cons_of_mem _ h)
  have hown : s.vm.findClass "java/util/ArrayList" = some m.cls := findClass_of_methodNamed B.named
  have hlocks := B.notSynchronized
  subst hsz
  have hD := hD0.self (sz := s.heap.size)
  clear hD0
  generalize hAe : va_A [(oc10 sl mc9 (.ref ea) (nI (i + 1))), (oq ea cO cp9 SA)] s.heap.size = A at hD hXL ⊢
  have hA : ∀ q : Nat, s.heap.size ≤ q → A q := fun q h => by rw [← hAe]; exact Or.inr h
  clear hAe
  have hS : va_S A s.heap s.heap [] := va_S.rf
  have hXN := hXL.1
  have hK3 := hK.sub [0, 1, 2] rfl
  have hP : va_P (dC, dI) classes [(oc10 sl mc9 (.ref ea) (nI (i + 1))), (oq ea cO cp9 SA)] s.heap := hP
  obtain ⟨Q9, hQ9⟩ : ∃ Q9 : State → Prop, Q9 = MQ below (zQ (some (.ref y9)) (fun t => va_P (dC, dI) classes [(oc10 sl (mc9 + 1) (.ref ea) (nI i)), (oq ea cO cp9 (va_up SA i none))] t.heap ∧ va_D A [(oc10 sl (mc9 + 1) (.ref ea) (nI i)), (oq ea cO cp9 (va_up SA i none))]) A) ([.ref sl, .int (nI i)] : List Value).toArray s 0 0 A := ⟨_, rfl⟩
  rw [← hQ9]
  have hl := lv_entry ([.ref sl, .int (nI i)]) (n := 4) (Nat.le_of_ble_eq_true rfl)
  rw [lg_entry_eq]
  generalize (lg_sl ([.ref sl, .int (nI i)]) ++ List.replicate (4 - (lg_sl ([.ref sl, .int (nI i)])).length) Slot.unset).toArray = ls at hl ⊢
  have hl : lv_has ls 4 [(0, .ref sl), (1, .int (nI i))] := hl
  refine lv_iload_n hx hb dJx4a65c_remove_915e3_0 rfl (lv_at hl 1 rfl) ?_
  refine lv_aload_n hx hb dJx4a65c_remove_915e3_1 rfl (lv_at hl 0 rfl) ?_
  refine va_get (D := (dC, dI)) (ci := 10) (v := .int (nI (i + 1))) (C := RJx4a65c) (T := TJx4a65c) (N := 3) hx hb hts inJx4a65c hown hK hP 0 rfl rfl 2 (by decide) (hts _ mw_297) (fun _ h9 => h9) rfl dJx4a65c_remove_915e3_2 ?_
  have hPc := hP.sub (ws' := []) [] rfl
  have hDc := hD.sub (ws' := []) [] (by decide) rfl
  have hFc := va_free (wc := []) hD hS hA [] rfl
  refine zcall (st1 := [.int (nI i)]) (va_runS (As := [.int (nI i), .int (nI (i + 1))]) (rest := []) ⟨hx, hb, hml, hown, hts⟩ (k_O_checkIndex l dC dI cI cZ cF s.heap.size i (i + 1) (by omega) (by omega)) (va_cwS 2 hts (zz_gS mw_476 mw_477 mw_113 mc_yJ15_checkIndex_7cf53) rfl rfl rfl (by decide +kernel) ⟨Nat.le_of_ble_eq_true rfl, Nat.le_of_ble_eq_true rfl⟩) (zPS2 hPc hDc hK3 hXN) rfl rfl hl.1 rfl (lv_room (Nat.le_of_ble_eq_true rfl)) dJx4a65c_remove_915e3_5 ⟨Nat.le_of_ble_eq_true rfl, Nat.le_of_ble_eq_true rfl⟩) hS hFc hFc rfl (fun t H1 locs ht hB hk1 hS => ?_)
  obtain ⟨hP1, hD1⟩ := hB
  rw [ht] at hP1
  obtain ⟨hP, hD⟩ := va_join (wr := [(oc10 sl mc9 (.ref ea) (nI (i + 1))), (oq ea cO cp9 SA)]) (w1 := []) hP hD [] [0, 1] rfl rfl (by decide) (by decide) hk1 hFc hP1 hD1
  clear hk1 hPc hDc hFc hP1 hD1 ht
  generalize H1 = H at hP hS ⊢
  have hP : va_P (dC, dI) classes [(oc10 sl mc9 (.ref ea) (nI (i + 1))), (oq ea cO cp9 SA)] H := hP
  have hD : va_D A [(oc10 sl mc9 (.ref ea) (nI (i + 1))), (oq ea cO cp9 SA)] := hD
  refine lv_pop hx hb dJx4a65c_remove_915e3_8 rfl ?_
  refine lv_aload_n hx hb dJx4a65c_remove_915e3_9 rfl (lv_at hl 0 rfl) ?_
  refine va_get (D := (dC, dI)) (ci := 10) (v := .ref ea) (C := RJx4a65c) (T := TJx4a65c) (N := 3) hx hb hts inJx4a65c hown hK hP 0 rfl rfl 1 (by decide) (hts _ mw_296) (fun _ h9 => h9) rfl dJx4a65c_remove_915e3_10 ?_
  refine lv_astore_n (lv' := [(2, .ref ea), (0, .ref sl), (1, .int (nI i))]) hx hb dJx4a65c_remove_915e3_13 rfl hl (by decide) rfl (fun ls hl => ?_)
  refine lv_aload_n hx hb dJx4a65c_remove_915e3_14 rfl (lv_at hl 0 rfl) ?_
  refine lv_iload_n hx hb dJx4a65c_remove_915e3_15 rfl (lv_at hl 2 rfl) ?_
  refine z_aald hx hb hK hP 1 3 rfl rfl (e := i) rfl (by omega) (by omega) (v := .ref y9) (by rw [hSA]; rfl) dJx4a65c_remove_915e3_16 ?_
  refine lv_astore_n (lv' := [(3, .ref y9), (2, .ref ea), (0, .ref sl), (1, .int (nI i))]) hx hb dJx4a65c_remove_915e3_17 rfl hl (by decide) rfl (fun ls hl => ?_)
  refine lv_aload_n hx hb dJx4a65c_remove_915e3_18 rfl (lv_at hl 2 rfl) ?_
  refine lv_aload_n hx hb dJx4a65c_remove_915e3_19 rfl (lv_at hl 1 rfl) ?_
  refine lv_iload_n hx hb dJx4a65c_remove_915e3_20 rfl (lv_at hl 3 rfl) ?_
  have hPc := hP.sub (ws' := [(oc10 sl mc9 (.ref ea) (nI (i + 1))), (oq ea cO cp9 SA)]) [0, 1] rfl
  have hDc := hD.sub (ws' := [(oc10 sl mc9 (.ref ea) (nI (i + 1))), (oq ea cO cp9 SA)]) [0, 1] (by decide) rfl
  have hFc := va_free (wc := [(oc10 sl mc9 (.ref ea) (nI (i + 1))), (oq ea cO cp9 SA)]) hD hS hA [0, 1] rfl
  refine zcall (st1 := []) (va_runV (As := [.ref ea, .int (nI i)]) (rest := []) ⟨hx, hb, hml, hown, hts⟩ (k_AL_fastRemove l dC dI cI cZ cF H.size cO e0 mi sl ea mc9 i cp9 SA (by omega) (by omega)) (cwV 2 hts (zz_gV mw_482 mw_484 mw_3 mw_109 mc_yJx4a65c_fastRemove_b59b0) rfl rfl rfl (by decide +kernel) ⟨Nat.le_of_ble_eq_true rfl, Nat.le_of_ble_eq_true rfl⟩) (zPVL (q0 := 0) (ci := 10) hPc hDc hK hXL hS hFc rfl rfl) rfl rfl hl.1 rfl (lv_room (Nat.le_of_ble_eq_true rfl)) dJx4a65c_remove_915e3_21 ⟨Nat.le_of_ble_eq_true rfl, Nat.le_of_ble_eq_true rfl⟩) hS hFc hFc rfl (fun t H1 locs ht hB hk1 hS => ?_)
  obtain ⟨hP1, hD1⟩ := hB
  rw [ht] at hP1
  obtain ⟨hP, hD⟩ := va_join (wr := []) (w1 := [(oc10 sl (mc9 + 1) (.ref ea) (nI i)), (oq ea cO cp9 (va_up SA i none))]) hP hD [0, 1] [] rfl rfl (by decide) (by decide) hk1 hFc hP1 hD1
  clear hk1 hPc hDc hFc hP1 hD1 ht
  generalize H1 = H at hP hS ⊢
  have hP : va_P (dC, dI) classes [(oc10 sl (mc9 + 1) (.ref ea) (nI i)), (oq ea cO cp9 (va_up SA i none))] H := hP
  have hD : va_D A [(oc10 sl (mc9 + 1) (.ref ea) (nI i)), (oq ea cO cp9 (va_up SA i none))] := hD
  refine lv_aload_n hx hb dJx4a65c_remove_915e3_24 rfl (lv_at hl 0 rfl) ?_
  have hP9 := hP.sub (ws' := [(oc10 sl (mc9 + 1) (.ref ea) (nI i)), (oq ea cO cp9 (va_up SA i none))]) [0, 1] rfl
  have hD9 := hD.sub (ws' := [(oc10 sl (mc9 + 1) (.ref ea) (nI i)), (oq ea cO cp9 (va_up SA i none))]) [0, 1] (by decide) rfl
  rw [hQ9]
  exact W.aret hx hb hr (Or.inl ⟨_, rfl⟩) (Or.inr ⟨_, rfl⟩) (fun t ht hW => ⟨⟨rfl, by rw [ht]; exact hP9, hD9⟩, hS.F ht⟩) hS.2.2 dJx4a65c_remove_915e3_25
set_option maxHeartbeats 4000000 in
set_option maxRecDepth 100000 in
theorem k_J_newLength (l : Launch) (dC : Nat → ClassId) (dI : Nat → Nat → Nat) (cI cZ cF : ClassId) (sz : Nat) (n : Nat) (a1 : Nat) (b1 : Nat) (h1n : 1 ≤ n) (hn : n ≤ 100000) (ha : a1 ≤ 100000) (hbb : b1 ≤ 100000) : Met l yJ8_newLength_cabcc (.code yJ8_newLength_cabcc cJ8_newLength_cabcc 4 (some .int) :: ws0) ({ frames := 1, cells := 0, slots := 0, locals := 14 } : Room) (va_Pc [.int (nI n), .int (nI a1), .int (nI b1)] (zPre (dC, dI) classes (zTy cI cZ cF) [] sz zXN)) (zQ (some (.int (nI (n + max a1 b1)))) (fun t => va_P (dC, dI) classes [] t.heap ∧ va_D (va_A [] sz) []) (va_A [] sz)) 0 0 (va_A [] sz) := by
  refine Met.ofW (cc := cJ8_newLength_cabcc) (maxL := 4) (ret := (some .int)) (by decide) rfl ?_
  intro p e s m args below meth c s₁ B hml hv
  obtain ⟨rfl, hsz, hP, hK, hD0, hXN⟩ := hv
  have hx := B.exec
  have hb := B.bytes
  have hr := B.returns
  have hts0 := atoms_spec (ws := .code yJ8_newLength_cabcc cJ8_newLength_cabcc 4 (some .int) :: ws0) B.pre
  have hts : ∀ w9 ∈ ws0, w9.before ([.int (nI n), .int (nI a1), .int (nI b1)] : List Value).toArray s = true := fun w9 h => hts0 w9 (List.mem_cons_of_mem _ h)
  have hown : s.vm.findClass "jdk/internal/util/ArraysSupport" = some m.cls := findClass_of_methodNamed B.named
  have hlocks := B.notSynchronized
  subst hsz
  have hD := hD0.self (sz := s.heap.size)
  clear hD0
  generalize hAe : va_A [] s.heap.size = A at hD ⊢
  have hA : ∀ q : Nat, s.heap.size ≤ q → A q := fun q h => by rw [← hAe]; exact Or.inr h
  clear hAe
  have hS : va_S A s.heap s.heap [] := va_S.rf
  have hP : va_P (dC, dI) classes [] s.heap := hP
  obtain ⟨Q9, hQ9⟩ : ∃ Q9 : State → Prop, Q9 = MQ below (zQ (some (.int (nI (n + max a1 b1)))) (fun t => va_P (dC, dI) classes [] t.heap ∧ va_D A []) A) ([.int (nI n), .int (nI a1), .int (nI b1)] : List Value).toArray s 0 0 A := ⟨_, rfl⟩
  rw [← hQ9]
  have hl := lv_entry ([.int (nI n), .int (nI a1), .int (nI b1)]) (n := 4) (Nat.le_of_ble_eq_true rfl)
  rw [lg_entry_eq]
  generalize (lg_sl ([.int (nI n), .int (nI a1), .int (nI b1)]) ++ List.replicate (4 - (lg_sl ([.int (nI n), .int (nI a1), .int (nI b1)])).length) Slot.unset).toArray = ls at hl ⊢
  have hl : lv_has ls 4 [(0, .int (nI n)), (1, .int (nI a1)), (2, .int (nI b1))] := hl
  refine lv_iload_n hx hb dJ8_newLength_cabcc_0 rfl (lv_at hl 0 rfl) ?_
  refine lv_iload_n hx hb dJ8_newLength_cabcc_1 rfl (lv_at hl 1 rfl) ?_
  refine lv_iload_n hx hb dJ8_newLength_cabcc_2 rfl (lv_at hl 2 rfl) ?_
  refine va_mmax hx hb (by rw [hml]; exact hl.1.symm) hown (hts _ mw_826) (hts _ mw_159) (hts _ mw_103) (hts _ mw_maxcode) (Nat.le_of_ble_eq_true rfl) (Nat.le_of_ble_eq_true rfl) (Nat.le_of_ble_eq_true rfl) (Nat.le_of_ble_eq_true rfl) dJ8_newLength_cabcc_3 ?_
  refine lv_topi (fun v_1 ev_1 => ?_)
  have hv_1 : v_1.toInt = max ((a1 : Nat) : Int) ((b1 : Nat) : Int) := zmax (nI_toInt (by omega)) (nI_toInt (by omega)) ev_1
  refine zz_i (v := nI (max a1 b1)) (Int32.toInt_inj.mp (by rw [hv_1, nI_toInt (by omega)]; omega)) ?_
  refine lv_iadd hx hb dJ8_newLength_cabcc_6 ?_
  refine zz_i (v := nI (n + (max a1 b1))) (nI_add n (max a1 b1)) ?_
  refine lv_istore_n (lv' := [(3, .int (nI (n + (max a1 b1)))), (0, .int (nI n)), (1, .int (nI a1)), (2, .int (nI b1))]) hx hb dJ8_newLength_cabcc_7 rfl hl (by decide) rfl (fun ls hl => ?_)
  refine lv_iconst (v := 0) hx hb dJ8_newLength_cabcc_8 (by decide) ?_
  refine lv_iload_n hx hb dJ8_newLength_cabcc_9 rfl (lv_at hl 0 rfl) ?_
  refine lv_icmp_ge (tgt := 21) hx hb dJ8_newLength_cabcc_10 (by decide) (fun c_2 => ?_) (fun c_2 => ?_)
  · have c_2 : ((n + (max a1 b1) : Nat) : Int) ≤ 0 := zc_le (nI_toInt (by omega)) (by decide) c_2
    exfalso; omega
  · have c_2 : 0 < ((n + (max a1 b1) : Nat) : Int) := zc_nle (nI_toInt (by omega)) (by decide) c_2
    refine lv_iload_n hx hb dJ8_newLength_cabcc_13 rfl (lv_at hl 0 rfl) ?_
    refine lv_ldc hx hb hown (hts _ mw_827) dJ8_newLength_cabcc_14 ?_
    refine lv_icmp_gt (tgt := 21) hx hb dJ8_newLength_cabcc_16 (by decide) (fun c_3 => ?_) (fun c_3 => ?_)
    · have c_3 : 2147483639 < ((n + (max a1 b1) : Nat) : Int) := zc_lt (by decide) (nI_toInt (by omega)) c_3
      exfalso; omega
    · have c_3 : ((n + (max a1 b1) : Nat) : Int) ≤ 2147483639 := zc_nlt (by decide) (nI_toInt (by omega)) c_3
      refine lv_iload_n hx hb dJ8_newLength_cabcc_19 rfl (lv_at hl 0 rfl) ?_
      have hP9 := hP.sub (ws' := []) [] rfl
      have hD9 := hD.sub (ws' := []) [] (by decide) rfl
      rw [hQ9]
      exact W.iret (v := nI (n + (max a1 b1))) hx hb hr (fun t ht hW => ⟨⟨rfl, by rw [ht]; exact hP9, hD9⟩, hS.F ht⟩) hS.2.2 dJ8_newLength_cabcc_20
set_option maxHeartbeats 4000000 in
set_option maxRecDepth 100000 in
theorem k_J_copyOf3 (l : Launch) (dC : Nat → ClassId) (dI : Nat → Nat → Nat) (cI cZ cF : ClassId) (sz : Nat) (cO : ClassId) (e0 : Nat) (mi : Nat) (ea : Nat) (n : Nat) (N9 : Nat) (SA : Nat → Option Nat) (L : List Nat) (f : Nat → va_E) (hn10 : 10 ≤ n) (hn : n ≤ 100000) (hel : ∀ i, i < n → ∃ y vs, SA i = some y ∧ y ∈ L ∧ f y = .inr (11, vs)) (hN9 : n ≤ N9 ∧ N9 ≤ 200000) : Met l yJ7_copyOf_6403c (.code yJ7_copyOf_6403c cJ7_copyOf_6403c 4 (some (.array (.object "java/lang/Object"))) :: ws0) ({ frames := 1, cells := 1, slots := N9, locals := 24 } : Room) (va_Pc [.ref ea, .int (nI N9), .ref mi] (zPre (dC, dI) classes (zTyO cI cZ cF cO) ([(oq ea cO n SA)] ++ va_pl L f) sz (zXL e0 mi (va_A ([(oq ea cO n SA)] ++ va_pl L f) sz)))) (zQe (fun v9 t => ∃ (q9 : Nat), v9 = (some (.ref q9)) ∧ va_P (dC, dI) classes ([(oq ea cO n SA), (oq q9 cO N9 (va_cpy SA (fun _ => none) 0 0 n))] ++ va_pl L f) t.heap ∧ va_D (va_A ([(oq ea cO n SA)] ++ va_pl L f) sz) ([(oq ea cO n SA), (oq q9 cO N9 (va_cpy SA (fun _ => none) 0 0 n))] ++ va_pl L f)) (va_A ([(oq ea cO n SA)] ++ va_pl L f) sz)) 1 N9 (va_A ([(oq ea cO n SA)] ++ va_pl L f) sz) := by
  refine Met.ofW (cc := cJ7_copyOf_6403c) (maxL := 4) (ret := (some (.array (.object "java/lang/Object")))) (by decide) rfl ?_
  intro p e s m args below meth c s₁ B hml hv
  obtain ⟨rfl, hsz, hP, hK, hD0, hXL⟩ := hv
  have hx := B.exec
  have hb := B.bytes
  have hr := B.returns
  have hts0 := atoms_spec (ws := .code yJ7_copyOf_6403c cJ7_copyOf_6403c 4 (some (.array (.object "java/lang/Object"))) :: ws0) B.pre
  have hts : ∀ w9 ∈ ws0, w9.before ([.ref ea, .int (nI N9), .ref mi] : List Value).toArray s = true := fun w9 h => hts0 w9 (List.mem_cons_of_mem _ h)
  have hown : s.vm.findClass "java/util/Arrays" = some m.cls := findClass_of_methodNamed B.named
  have hlocks := B.notSynchronized
  subst hsz
  have hD := hD0.self (sz := s.heap.size)
  clear hD0
  generalize hAe : va_A ([(oq ea cO n SA)] ++ va_pl L f) s.heap.size = A at hD hXL ⊢
  have hA : ∀ q : Nat, s.heap.size ≤ q → A q := fun q h => by rw [← hAe]; exact Or.inr h
  clear hAe
  have hS : va_S A s.heap s.heap [] := va_S.rf
  have hXN := hXL.1
  have hK3 := hK.sub [0, 1, 2] rfl
  have hP : va_P (dC, dI) classes ([(oq ea cO n SA)] ++ va_pl L f) s.heap := hP
  obtain ⟨Q9, hQ9⟩ : ∃ Q9 : State → Prop, Q9 = MQ below (zQe (fun v9 t => ∃ (q9 : Nat), v9 = (some (.ref q9)) ∧ va_P (dC, dI) classes ([(oq ea cO n SA), (oq q9 cO N9 (va_cpy SA (fun _ => none) 0 0 n))] ++ va_pl L f) t.heap ∧ va_D A ([(oq ea cO n SA), (oq q9 cO N9 (va_cpy SA (fun _ => none) 0 0 n))] ++ va_pl L f)) A) ([.ref ea, .int (nI N9), .ref mi] : List Value).toArray s 1 N9 A := ⟨_, rfl⟩
  rw [← hQ9]
  have hl := lv_entry ([.ref ea, .int (nI N9), .ref mi]) (n := 4) (Nat.le_of_ble_eq_true rfl)
  rw [lg_entry_eq]
  generalize (lg_sl ([.ref ea, .int (nI N9), .ref mi]) ++ List.replicate (4 - (lg_sl ([.ref ea, .int (nI N9), .ref mi])).length) Slot.unset).toArray = ls at hl ⊢
  have hl : lv_has ls 4 [(0, .ref ea), (1, .int (nI N9)), (2, .ref mi)] := hl
  refine lv_aload_n hx hb dJ7_copyOf_6403c_0 rfl (lv_at hl 2 rfl) ?_
  refine va_ldcM hx hb hown (hts _ mw_854) hXL.2.2.2.1 dJ7_copyOf_6403c_1 ?_
  refine z_acmpne (rx := mi) (ry := mi) (tgt := 13) hx hb dJ7_copyOf_6403c_3 (by decide) (fun c_1 => ?_) (fun c_1 => ?_)
  · have c_1 : ¬ mi = mi := c_1
    exact absurd rfl c_1
  · have c_1 : mi = mi := c_1
    refine lv_iload_n hx hb dJ7_copyOf_6403c_6 rfl (lv_at hl 1 rfl) ?_
    refine z_newq (C := "java/lang/Object") hx hb hown (hts _ mw_856) hXN.2.2.2 hK hP hD hS hA (n := nI N9) (N' := N9) (cA := cO) 3 rfl (nI_pos (by omega)) (nI_clamp (by omega)) (show N9 * 4 ≤ 536870912 by omega) (show 1 ≤ 1 by omega) (show (0 + N9) ≤ N9 by omega) dJ7_copyOf_6403c_7 (fun q9 H hP hD hS => ?_)
    have hP := va_P.swap hP
    have hD := va_D.swap hD
    have hP : va_P (dC, dI) classes ([(oq ea cO n SA), (oq q9 cO N9 (fun _ => none))] ++ va_pl L f) H := hP
    have hD : va_D A ([(oq ea cO n SA), (oq q9 cO N9 (fun _ => none))] ++ va_pl L f) := hD
    refine lv_goto (tgt := 24) hx hb dJ7_copyOf_6403c_10 (by decide) ?_
    refine lv_astore_n (lv' := [(3, .ref q9), (0, .ref ea), (1, .int (nI N9)), (2, .ref mi)]) hx hb dJ7_copyOf_6403c_24 rfl hl (by decide) rfl (fun ls hl => ?_)
    refine lv_aload_n hx hb dJ7_copyOf_6403c_25 rfl (lv_at hl 1 rfl) ?_
    refine lv_iconst (v := 0) hx hb dJ7_copyOf_6403c_26 (by decide) ?_
    refine lv_aload_n hx hb dJ7_copyOf_6403c_27 rfl (lv_at hl 0 rfl) ?_
    refine lv_iconst (v := 0) hx hb dJ7_copyOf_6403c_28 (by decide) ?_
    refine lv_aload_n hx hb dJ7_copyOf_6403c_29 rfl (lv_at hl 1 rfl) ?_
    refine va_alen (v := nI n) hx hb hK hP 0 3 rfl rfl rfl dJ7_copyOf_6403c_30 ?_
    refine lv_iload_n hx hb dJ7_copyOf_6403c_31 rfl (lv_at hl 2 rfl) ?_
    refine va_mmin hx hb (by rw [hml]; exact hl.1.symm) hown (hts _ mw_857) (hts _ mw_858) (hts _ mw_103) (hts _ mw_mincode) (Nat.le_of_ble_eq_true rfl) (Nat.le_of_ble_eq_true rfl) (show 1 ≤ 1 by omega) (show (0 + N9) ≤ N9 by omega) dJ7_copyOf_6403c_32 ?_
    refine lv_topi (fun v_2 ev_2 => ?_)
    have hv_2 : v_2.toInt = min ((n : Nat) : Int) ((N9 : Nat) : Int) := zmin (nI_toInt (by omega)) (nI_toInt (by omega)) ev_2
    refine zz_i (v := nI n) (Int32.toInt_inj.mp (by rw [hv_2, nI_toInt (by omega)]; omega)) ?_
    refine z_copyq hx hb (by rw [hml]; exact hl.1.symm) hown (hts _ mw_860) (hts _ mw_acopy) (hts _ mw_487) (hts _ mw_115) hK hP hD hS 0 1 3 3 rfl rfl rfl rfl (nn := n) (n := nI n) rfl (by omega) (by omega) (by omega) (by omega) (z_elS hK hP hel) (z_asg hXN.2.1) (Nat.le_of_ble_eq_true rfl) (Nat.le_of_ble_eq_true rfl) dJ7_copyOf_6403c_35 (fun H locs hP hD hS => ?_)
    have hP : va_P (dC, dI) classes ([(oq ea cO n SA), (oq q9 cO N9 (va_cpy SA (fun _ => none) 0 0 n))] ++ va_pl L f) H := hP
    have hD : va_D A ([(oq ea cO n SA), (oq q9 cO N9 (va_cpy SA (fun _ => none) 0 0 n))] ++ va_pl L f) := hD
    refine lv_aload_n hx hb dJ7_copyOf_6403c_38 rfl (lv_at hl 0 rfl) ?_
    have hP9 := hP.part (cx := [(oq ea cO n SA), (oq q9 cO N9 (va_cpy SA (fun _ => none) 0 0 n))]) [0, 1] rfl
    have hD9 := hD.part (cx := [(oq ea cO n SA), (oq q9 cO N9 (va_cpy SA (fun _ => none) 0 0 n))]) [0, 1] (by decide) rfl
    refine W.widen (k := 1) (n := N9) (by omega) (by omega) ?_
    rw [hQ9]
    exact W.aret hx hb hr (Or.inr ⟨_, rfl⟩) (Or.inr ⟨_, rfl⟩) (fun t ht hW => ⟨⟨_, rfl, q9, rfl, by rw [ht]; exact hP9, hD9⟩, hS.F ht⟩) hS.2.2 dJ7_copyOf_6403c_39
set_option maxHeartbeats 4000000 in
set_option maxRecDepth 100000 in
theorem k_J_copyOf2 (l : Launch) (dC : Nat → ClassId) (dI : Nat → Nat → Nat) (cI cZ cF : ClassId) (sz : Nat) (cO : ClassId) (e0 : Nat) (mi : Nat) (ea : Nat) (n : Nat) (N9 : Nat) (SA : Nat → Option Nat) (L : List Nat) (f : Nat → va_E) (hn10 : 10 ≤ n) (hn : n ≤ 100000) (hel : ∀ i, i < n → ∃ y vs, SA i = some y ∧ y ∈ L ∧ f y = .inr (11, vs)) (hN9 : n ≤ N9 ∧ N9 ≤ 200000) : Met l yJ7_copyOf_1904c (.code yJ7_copyOf_1904c cJ7_copyOf_1904c 2 (some (.array (.object "java/lang/Object"))) :: ws0) ({ frames := 2, cells := 1, slots := N9, locals := 47 } : Room) (va_Pc [.ref ea, .int (nI N9)] (zPre (dC, dI) classes (zTyO cI cZ cF cO) ([(oq ea cO n SA)] ++ va_pl L f) sz (zXL e0 mi (va_A ([(oq ea cO n SA)] ++ va_pl L f) sz)))) (zQe (fun v9 t => ∃ (q9 : Nat), v9 = (some (.ref q9)) ∧ va_P (dC, dI) classes ([(oq ea cO n SA), (oq q9 cO N9 (va_cpy SA (fun _ => none) 0 0 n))] ++ va_pl L f) t.heap ∧ va_D (va_A ([(oq ea cO n SA)] ++ va_pl L f) sz) ([(oq ea cO n SA), (oq q9 cO N9 (va_cpy SA (fun _ => none) 0 0 n))] ++ va_pl L f)) (va_A ([(oq ea cO n SA)] ++ va_pl L f) sz)) 1 N9 (va_A ([(oq ea cO n SA)] ++ va_pl L f) sz) := by
  refine Met.ofW (cc := cJ7_copyOf_1904c) (maxL := 2) (ret := (some (.array (.object "java/lang/Object")))) (by decide) rfl ?_
  intro p e s m args below meth c s₁ B hml hv
  obtain ⟨rfl, hsz, hP, hK, hD0, hXL⟩ := hv
  have hx := B.exec
  have hb := B.bytes
  have hr := B.returns
  have hts0 := atoms_spec (ws := .code yJ7_copyOf_1904c cJ7_copyOf_1904c 2 (some (.array (.object "java/lang/Object"))) :: ws0) B.pre
  have hts : ∀ w9 ∈ ws0, w9.before ([.ref ea, .int (nI N9)] : List Value).toArray s = true := fun w9 h => hts0 w9 (List.mem_cons_of_mem _ h)
  have hown : s.vm.findClass "java/util/Arrays" = some m.cls := findClass_of_methodNamed B.named
  have hlocks := B.notSynchronized
  subst hsz
  have hD := hD0.self (sz := s.heap.size)
  clear hD0
  generalize hAe : va_A ([(oq ea cO n SA)] ++ va_pl L f) s.heap.size = A at hD hXL ⊢
  have hA : ∀ q : Nat, s.heap.size ≤ q → A q := fun q h => by rw [← hAe]; exact Or.inr h
  clear hAe
  have hS : va_S A s.heap s.heap [] := va_S.rf
  have hXN := hXL.1
  have hK3 := hK.sub [0, 1, 2] rfl
  have hP : va_P (dC, dI) classes ([(oq ea cO n SA)] ++ va_pl L f) s.heap := hP
  obtain ⟨Q9, hQ9⟩ : ∃ Q9 : State → Prop, Q9 = MQ below (zQe (fun v9 t => ∃ (q9 : Nat), v9 = (some (.ref q9)) ∧ va_P (dC, dI) classes ([(oq ea cO n SA), (oq q9 cO N9 (va_cpy SA (fun _ => none) 0 0 n))] ++ va_pl L f) t.heap ∧ va_D A ([(oq ea cO n SA), (oq q9 cO N9 (va_cpy SA (fun _ => none) 0 0 n))] ++ va_pl L f)) A) ([.ref ea, .int (nI N9)] : List Value).toArray s 1 N9 A := ⟨_, rfl⟩
  rw [← hQ9]
  have hl := lv_entry ([.ref ea, .int (nI N9)]) (n := 2) (Nat.le_of_ble_eq_true rfl)
  rw [lg_entry_eq]
  generalize (lg_sl ([.ref ea, .int (nI N9)]) ++ List.replicate (2 - (lg_sl ([.ref ea, .int (nI N9)])).length) Slot.unset).toArray = ls at hl ⊢
  have hl : lv_has ls 2 [(0, .ref ea), (1, .int (nI N9))] := hl
  refine lv_aload_n hx hb dJ7_copyOf_1904c_0 rfl (lv_at hl 0 rfl) ?_
  refine lv_iload_n hx hb dJ7_copyOf_1904c_1 rfl (lv_at hl 1 rfl) ?_
  refine lv_aload_n hx hb dJ7_copyOf_1904c_2 rfl (lv_at hl 0 rfl) ?_
  refine va_getC hx hb (by rw [hml]; exact hl.1.symm) hown (hts _ mw_834) (va_Dc.use hXL.2.2.1) (hts _ mw_getCs) (hts _ mw_835) (hts _ mw_getCn) hXL.2.2.2.1 (z_cellA (q0 := 0) (t0 := 3) hK hP rfl rfl (by decide)) (Nat.le_of_ble_eq_true rfl) (Nat.le_of_ble_eq_true rfl) dJ7_copyOf_1904c_3 ?_
  have hPc := hP.part (cx := [(oq ea cO n SA)]) [0] rfl
  have hDc := hD.part (cx := [(oq ea cO n SA)]) [0] (by decide) rfl
  have hFc := va_freeP (cx := [(oq ea cO n SA)]) hD hS hA [0] rfl
  refine zcalle (va_runS (As := [.ref ea, .int (nI N9), .ref mi]) (rest := []) ⟨hx, hb, hml, hown, hts⟩ (k_J_copyOf3 l dC dI cI cZ cF s.heap.size cO e0 mi ea n N9 SA L f (by omega) (by omega) (by assumption) (by omega)) (va_cwS 3 hts (zz_gS mw_851 mw_852 mw_119 mc_yJ7_copyOf_6403c) rfl rfl rfl (by decide +kernel) ⟨Nat.le_of_ble_eq_true rfl, Nat.le_of_ble_eq_true rfl⟩) (zPSL hPc hDc hK hXL hS hFc) rfl rfl hl.1 rfl (lv_room (Nat.le_of_ble_eq_true rfl)) dJ7_copyOf_1904c_6 ⟨show (0 + 1) ≤ 1 by omega, show (0 + N9) ≤ N9 by omega⟩) hS hFc hFc (fun v9 t H1 locs ht hB hk1 hS => ?_)
  obtain ⟨q9, rfl, hP1, hD1⟩ := hB
  refine W.eq (g2 := F0 m 9 ls [.ref q9]) rfl ?_
  rw [ht] at hP1
  obtain ⟨hP, hD⟩ := va_joinP (wr := []) (rx := [(oq ea cO n SA), (oq q9 cO N9 (va_cpy SA (fun _ => none) 0 0 n))]) hP hD [0] [] rfl rfl (by decide) (by decide) hk1 hFc hP1 hD1
  clear hk1 hPc hDc hFc hP1 hD1 ht
  generalize H1 = H at hP hS ⊢
  have hP : va_P (dC, dI) classes ([(oq ea cO n SA), (oq q9 cO N9 (va_cpy SA (fun _ => none) 0 0 n))] ++ va_pl L f) H := hP
  have hD : va_D A ([(oq ea cO n SA), (oq q9 cO N9 (va_cpy SA (fun _ => none) 0 0 n))] ++ va_pl L f) := hD
  have hP9 := hP.part (cx := [(oq ea cO n SA), (oq q9 cO N9 (va_cpy SA (fun _ => none) 0 0 n))]) [0, 1] rfl
  have hD9 := hD.part (cx := [(oq ea cO n SA), (oq q9 cO N9 (va_cpy SA (fun _ => none) 0 0 n))]) [0, 1] (by decide) rfl
  refine W.widen (k := 1) (n := N9) (by omega) (by omega) ?_
  rw [hQ9]
  exact W.aret hx hb hr (Or.inr ⟨_, rfl⟩) (Or.inr ⟨_, rfl⟩) (fun t ht hW => ⟨⟨_, rfl, q9, rfl, by rw [ht]; exact hP9, hD9⟩, hS.F ht⟩) hS.2.2 dJ7_copyOf_1904c_9
set_option maxHeartbeats 4000000 in
set_option maxRecDepth 100000 in
theorem k_AL_growi_0 (l : Launch) (dC : Nat → ClassId) (dI : Nat → Nat → Nat) (cI cZ cF : ClassId) (sz : Nat) (cO : ClassId) (e0 : Nat) (mi : Nat) (sl : Nat) (m9 : Nat) (mc9 : Int32) (z7 : Int32) (hm9 : m9 ≤ 10) : Met l yJx4a65c_grow_92f84 (.code yJx4a65c_grow_92f84 cJx4a65c_grow_92f84 4 (some (.array (.object "java/lang/Object"))) :: ws0) ({ frames := 1, cells := 1, slots := 10, locals := 14 } : Room) (va_Pc [.ref sl, .int (nI m9)] (zPre (dC, dI) classes (zTyO cI cZ cF cO) [(oc10 sl mc9 (.ref e0) z7)] sz (zXL e0 mi (va_A [(oc10 sl mc9 (.ref e0) z7)] sz)))) (zQe (fun v9 t => ∃ (q9 : Nat), v9 = (some (.ref q9)) ∧ va_P (dC, dI) classes [(oc10 sl mc9 (.ref q9) z7), (oq q9 cO 10 (fun _ => none))] t.heap ∧ va_D (va_A [(oc10 sl mc9 (.ref e0) z7)] sz) [(oc10 sl mc9 (.ref q9) z7), (oq q9 cO 10 (fun _ => none))]) (va_A [(oc10 sl mc9 (.ref e0) z7)] sz)) 1 10 (va_A [(oc10 sl mc9 (.ref e0) z7)] sz) := by
  refine Met.ofW (cc := cJx4a65c_grow_92f84) (maxL := 4) (ret := (some (.array (.object "java/lang/Object")))) (by decide) rfl ?_
  intro p e s m args below meth c s₁ B hml hv
  obtain ⟨rfl, hsz, hP, hK, hD0, hXL⟩ := hv
  have hx := B.exec
  have hb := B.bytes
  have hr := B.returns
  have hts0 := atoms_spec (ws := .code yJx4a65c_grow_92f84 cJx4a65c_grow_92f84 4 (some (.array (.object "java/lang/Object"))) :: ws0) B.pre
  have hts : ∀ w9 ∈ ws0, w9.before ([.ref sl, .int (nI m9)] : List Value).toArray s = true := fun w9 h => hts0 w9 (List.mem_cons_of_mem _ h)
  have hown : s.vm.findClass "java/util/ArrayList" = some m.cls := findClass_of_methodNamed B.named
  have hlocks := B.notSynchronized
  subst hsz
  have hD := hD0.self (sz := s.heap.size)
  clear hD0
  generalize hAe : va_A [(oc10 sl mc9 (.ref e0) z7)] s.heap.size = A at hD hXL ⊢
  have hA : ∀ q : Nat, s.heap.size ≤ q → A q := fun q h => by rw [← hAe]; exact Or.inr h
  clear hAe
  have hS : va_S A s.heap s.heap [] := va_S.rf
  have hXN := hXL.1
  have hK3 := hK.sub [0, 1, 2] rfl
  have hP : va_P (dC, dI) classes [(oc10 sl mc9 (.ref e0) z7)] s.heap := hP
  obtain ⟨Q9, hQ9⟩ : ∃ Q9 : State → Prop, Q9 = MQ below (zQe (fun v9 t => ∃ (q9 : Nat), v9 = (some (.ref q9)) ∧ va_P (dC, dI) classes [(oc10 sl mc9 (.ref q9) z7), (oq q9 cO 10 (fun _ => none))] t.heap ∧ va_D A [(oc10 sl mc9 (.ref q9) z7), (oq q9 cO 10 (fun _ => none))]) A) ([.ref sl, .int (nI m9)] : List Value).toArray s 1 10 A := ⟨_, rfl⟩
  rw [← hQ9]
  have hl := lv_entry ([.ref sl, .int (nI m9)]) (n := 4) (Nat.le_of_ble_eq_true rfl)
  rw [lg_entry_eq]
  generalize (lg_sl ([.ref sl, .int (nI m9)]) ++ List.replicate (4 - (lg_sl ([.ref sl, .int (nI m9)])).length) Slot.unset).toArray = ls at hl ⊢
  have hl : lv_has ls 4 [(0, .ref sl), (1, .int (nI m9))] := hl
  refine lv_aload_n hx hb dJx4a65c_grow_92f84_0 rfl (lv_at hl 0 rfl) ?_
  refine va_get (D := (dC, dI)) (ci := 10) (v := .ref e0) (C := RJx4a65c) (T := TJx4a65c) (N := 3) hx hb hts inJx4a65c hown hK hP 0 rfl rfl 1 (by decide) (hts _ mw_296) (fun _ h9 => h9) rfl dJx4a65c_grow_92f84_1 ?_
  refine z_alen0 hx hb hXL.2.2.2.2 hS dJx4a65c_grow_92f84_4 ?_
  refine lv_istore_n (lv' := [(2, .int 0), (0, .ref sl), (1, .int (nI m9))]) hx hb dJx4a65c_grow_92f84_5 rfl hl (by decide) rfl (fun ls hl => ?_)
  refine lv_iload_n hx hb dJx4a65c_grow_92f84_6 rfl (lv_at hl 0 rfl) ?_
  refine lv_if_gt (tgt := 20) hx hb dJx4a65c_grow_92f84_7 (by decide) (fun c_1 => ?_) (fun c_1 => ?_)
  · exact absurd c_1 (by decide)
  · refine lv_aload_n hx hb dJx4a65c_grow_92f84_10 rfl (lv_at hl 1 rfl) ?_
    refine va_get (D := (dC, dI)) (ci := 10) (v := .ref e0) (C := RJx4a65c) (T := TJx4a65c) (N := 3) hx hb hts inJx4a65c hown hK hP 0 rfl rfl 1 (by decide) (hts _ mw_296) (fun _ h9 => h9) rfl dJx4a65c_grow_92f84_11 ?_
    refine va_gets hx hb hXL.2.1 hS hown (hts _ mw_294) (fun _ h9 => h9) dJx4a65c_grow_92f84_14 ?_
    refine z_acmpeq (rx := e0) (ry := e0) (tgt := 45) hx hb dJx4a65c_grow_92f84_17 (by decide) (fun c_2 => ?_) (fun c_2 => ?_)
    · have c_2 : e0 = e0 := c_2
      refine lv_aload_n hx hb dJx4a65c_grow_92f84_45 rfl (lv_at hl 1 rfl) ?_
      refine lv_bipush (v := 10) hx hb dJx4a65c_grow_92f84_46 (by decide) ?_
      refine lv_iload_n hx hb dJx4a65c_grow_92f84_48 rfl (lv_at hl 2 rfl) ?_
      refine va_mmax hx hb (by rw [hml]; exact hl.1.symm) hown (hts _ mw_861) (hts _ mw_159) (hts _ mw_103) (hts _ mw_maxcode) (Nat.le_of_ble_eq_true rfl) (Nat.le_of_ble_eq_true rfl) (Nat.le_of_ble_eq_true rfl) (Nat.le_of_ble_eq_true rfl) dJx4a65c_grow_92f84_49 ?_
      refine lv_topi (fun v_3 ev_3 => ?_)
      have hv_3 : v_3.toInt = max 10 ((m9 : Nat) : Int) := zmax (by decide) (nI_toInt (by omega)) ev_3
      refine zz_i (v := 10) (Int32.toInt_inj.mp (by rw [hv_3]; show _ = (10 : Int); omega)) ?_
      refine z_newq (C := "java/lang/Object") hx hb hown (hts _ mw_862) hXN.2.2.2 hK hP hD hS hA (n := nI 10) (N' := 10) (cA := cO) 3 rfl (nI_pos (by omega)) (nI_clamp (by omega)) (show 10 * 4 ≤ 536870912 by omega) (show 1 ≤ 1 by omega) (show 10 ≤ 10 by omega) dJx4a65c_grow_92f84_52 (fun q9 H hP hD hS => ?_)
      have hP : va_P (dC, dI) classes [(oc10 sl mc9 (.ref e0) z7), (oq q9 cO 10 (fun _ => none))] H := hP
      have hD : va_D A [(oc10 sl mc9 (.ref e0) z7), (oq q9 cO 10 (fun _ => none))] := hD
      refine lv_dup_x1 hx hb dJx4a65c_grow_92f84_55 rfl rfl ?_
      refine va_put (D := (dC, dI)) (ci := 10) (v := .ref q9) (ty := .array (.object "java/lang/Object")) (C := RJx4a65c) (T := TJx4a65c) (N := 3) hx hb hts inJx4a65c tyJx4a65c tyJx4a65c_ok nmJx4a65c hown hK hP hD hS 0 rfl rfl 1 (by decide) (hts _ mw_296) (fun _ h9 => h9) rfl (by decide +kernel) rfl rfl (Nat.le_of_ble_eq_true rfl) dJx4a65c_grow_92f84_56 (fun H locs hP hD hS => ?_)
      have hP : va_P (dC, dI) classes [(oc10 sl mc9 (.ref q9) z7), (oq q9 cO 10 (fun _ => none))] H := hP
      have hD : va_D A [(oc10 sl mc9 (.ref q9) z7), (oq q9 cO 10 (fun _ => none))] := hD
      have hP9 := hP.sub (ws' := [(oc10 sl mc9 (.ref q9) z7), (oq q9 cO 10 (fun _ => none))]) [0, 1] rfl
      have hD9 := hD.sub (ws' := [(oc10 sl mc9 (.ref q9) z7), (oq q9 cO 10 (fun _ => none))]) [0, 1] (by decide) rfl
      refine W.widen (k := 1) (n := 10) (by omega) (by omega) ?_
      rw [hQ9]
      exact W.aret hx hb hr (Or.inr ⟨_, rfl⟩) (Or.inr ⟨_, rfl⟩) (fun t ht hW => ⟨⟨_, rfl, q9, rfl, by rw [ht]; exact hP9, hD9⟩, hS.F ht⟩) hS.2.2 dJx4a65c_grow_92f84_59
    · have c_2 : ¬ e0 = e0 := c_2
      exact absurd rfl c_2
set_option maxHeartbeats 4000000 in
set_option maxRecDepth 100000 in
theorem k_AL_growi_g (l : Launch) (dC : Nat → ClassId) (dI : Nat → Nat → Nat) (cI cZ cF : ClassId) (sz : Nat) (cO : ClassId) (e0 : Nat) (mi : Nat) (sl : Nat) (ea : Nat) (n : Nat) (mc9 : Int32) (z7 : Int32) (SA : Nat → Option Nat) (L : List Nat) (f : Nat → va_E) (hn10 : 10 ≤ n) (hn : n ≤ 100000) (hel : ∀ i, i < n → ∃ y vs, SA i = some y ∧ y ∈ L ∧ f y = .inr (11, vs)) : Met l yJx4a65c_grow_92f84 (.code yJx4a65c_grow_92f84 cJx4a65c_grow_92f84 4 (some (.array (.object "java/lang/Object"))) :: ws0) ({ frames := 3, cells := 1, slots := n + n / 2, locals := 68 } : Room) (va_Pc [.ref sl, .int (nI (n + 1))] (zPre (dC, dI) classes (zTyO cI cZ cF cO) ([(oc10 sl mc9 (.ref ea) z7), (oq ea cO n SA)] ++ va_pl L f) sz (zXL e0 mi (va_A ([(oc10 sl mc9 (.ref ea) z7), (oq ea cO n SA)] ++ va_pl L f) sz)))) (zQe (fun v9 t => ∃ (q9 : Nat), v9 = (some (.ref q9)) ∧ va_P (dC, dI) classes ([(oc10 sl mc9 (.ref q9) z7), (oq ea cO n SA), (oq q9 cO (n + n / 2) (va_cpy SA (fun _ => none) 0 0 n))] ++ va_pl L f) t.heap ∧ va_D (va_A ([(oc10 sl mc9 (.ref ea) z7), (oq ea cO n SA)] ++ va_pl L f) sz) ([(oc10 sl mc9 (.ref q9) z7), (oq ea cO n SA), (oq q9 cO (n + n / 2) (va_cpy SA (fun _ => none) 0 0 n))] ++ va_pl L f)) (va_A ([(oc10 sl mc9 (.ref ea) z7), (oq ea cO n SA)] ++ va_pl L f) sz)) 1 (n + n / 2) (va_A ([(oc10 sl mc9 (.ref ea) z7), (oq ea cO n SA)] ++ va_pl L f) sz) := by
  refine Met.ofW (cc := cJx4a65c_grow_92f84) (maxL := 4) (ret := (some (.array (.object "java/lang/Object")))) (by decide) rfl ?_
  intro p e s m args below meth c s₁ B hml hv
  obtain ⟨rfl, hsz, hP, hK, hD0, hXL⟩ := hv
  have hx := B.exec
  have hb := B.bytes
  have hr := B.returns
  have hts0 := atoms_spec (ws := .code yJx4a65c_grow_92f84 cJx4a65c_grow_92f84 4 (some (.array (.object "java/lang/Object"))) :: ws0) B.pre
  have hts : ∀ w9 ∈ ws0, w9.before ([.ref sl, .int (nI (n + 1))] : List Value).toArray s = true := fun w9 h => hts0 w9 (List.mem_cons_of_mem _ h)
  have hown : s.vm.findClass "java/util/ArrayList" = some m.cls := findClass_of_methodNamed B.named
  have hlocks := B.notSynchronized
  subst hsz
  have hD := hD0.self (sz := s.heap.size)
  clear hD0
  generalize hAe : va_A ([(oc10 sl mc9 (.ref ea) z7), (oq ea cO n SA)] ++ va_pl L f) s.heap.size = A at hD hXL ⊢
  have hA : ∀ q : Nat, s.heap.size ≤ q → A q := fun q h => by rw [← hAe]; exact Or.inr h
  clear hAe
  have hS : va_S A s.heap s.heap [] := va_S.rf
  have hXN := hXL.1
  have hK3 := hK.sub [0, 1, 2] rfl
  have hP : va_P (dC, dI) classes ([(oc10 sl mc9 (.ref ea) z7), (oq ea cO n SA)] ++ va_pl L f) s.heap := hP
  obtain ⟨Q9, hQ9⟩ : ∃ Q9 : State → Prop, Q9 = MQ below (zQe (fun v9 t => ∃ (q9 : Nat), v9 = (some (.ref q9)) ∧ va_P (dC, dI) classes ([(oc10 sl mc9 (.ref q9) z7), (oq ea cO n SA), (oq q9 cO (n + n / 2) (va_cpy SA (fun _ => none) 0 0 n))] ++ va_pl L f) t.heap ∧ va_D A ([(oc10 sl mc9 (.ref q9) z7), (oq ea cO n SA), (oq q9 cO (n + n / 2) (va_cpy SA (fun _ => none) 0 0 n))] ++ va_pl L f)) A) ([.ref sl, .int (nI (n + 1))] : List Value).toArray s 1 (n + n / 2) A := ⟨_, rfl⟩
  rw [← hQ9]
  have hl := lv_entry ([.ref sl, .int (nI (n + 1))]) (n := 4) (Nat.le_of_ble_eq_true rfl)
  rw [lg_entry_eq]
  generalize (lg_sl ([.ref sl, .int (nI (n + 1))]) ++ List.replicate (4 - (lg_sl ([.ref sl, .int (nI (n + 1))])).length) Slot.unset).toArray = ls at hl ⊢
  have hl : lv_has ls 4 [(0, .ref sl), (1, .int (nI (n + 1)))] := hl
  refine lv_aload_n hx hb dJx4a65c_grow_92f84_0 rfl (lv_at hl 0 rfl) ?_
  refine va_get (D := (dC, dI)) (ci := 10) (v := .ref ea) (C := RJx4a65c) (T := TJx4a65c) (N := 3) hx hb hts inJx4a65c hown hK hP 0 rfl rfl 1 (by decide) (hts _ mw_296) (fun _ h9 => h9) rfl dJx4a65c_grow_92f84_1 ?_
  refine va_alen (v := nI n) hx hb hK hP 1 3 rfl rfl rfl dJx4a65c_grow_92f84_4 ?_
  refine lv_istore_n (lv' := [(2, .int (nI n)), (0, .ref sl), (1, .int (nI (n + 1)))]) hx hb dJx4a65c_grow_92f84_5 rfl hl (by decide) rfl (fun ls hl => ?_)
  refine lv_iload_n hx hb dJx4a65c_grow_92f84_6 rfl (lv_at hl 0 rfl) ?_
  refine lv_if_gt (tgt := 20) hx hb dJx4a65c_grow_92f84_7 (by decide) (fun c_1 => ?_) (fun c_1 => ?_)
  · have c_1 : 0 < ((n : Nat) : Int) := zc_lt (by decide) (nI_toInt (by omega)) c_1
    refine lv_iload_n hx hb dJx4a65c_grow_92f84_20 rfl (lv_at hl 0 rfl) ?_
    refine lv_iload_n hx hb dJx4a65c_grow_92f84_21 rfl (lv_at hl 2 rfl) ?_
    refine lv_iload_n hx hb dJx4a65c_grow_92f84_22 rfl (lv_at hl 0 rfl) ?_
    refine lv_isub hx hb dJx4a65c_grow_92f84_23 ?_
    refine zz_i (v := nI ((n + 1) - n)) (pk_sub (a := n + 1) (b := n) (by omega)) ?_
    refine lv_iload_n hx hb dJx4a65c_grow_92f84_24 rfl (lv_at hl 0 rfl) ?_
    refine lv_iconst (v := 1) hx hb dJx4a65c_grow_92f84_25 (by decide) ?_
    refine lv_ishr hx hb dJx4a65c_grow_92f84_26 ?_
    refine zz_i (v := nI (n / 2)) (zn_shr (by omega)) ?_
    have hPc := hP.sub (ws' := []) [] rfl
    have hDc := hD.sub (ws' := []) [] (by decide) rfl
    have hFc := va_free (wc := []) hD hS hA [] rfl
    refine zcall (st1 := [.int (nI (n + max ((n + 1) - n) (n / 2)))]) (va_runS (As := [.int (nI n), .int (nI ((n + 1) - n)), .int (nI (n / 2))]) (rest := []) ⟨hx, hb, hml, hown, hts⟩ (k_J_newLength l dC dI cI cZ cF s.heap.size n ((n + 1) - n) (n / 2) (by omega) (by omega) (by omega) (by omega)) (va_cwS 3 hts (zz_gS mw_823 mw_824 mw_118 mc_yJ8_newLength_cabcc) rfl rfl rfl (by decide +kernel) ⟨Nat.le_of_ble_eq_true rfl, Nat.le_of_ble_eq_true rfl⟩) (zPS2 hPc hDc hK3 hXN) rfl rfl hl.1 rfl (lv_room (Nat.le_of_ble_eq_true rfl)) dJx4a65c_grow_92f84_27 ⟨show 0 ≤ 1 by omega, show 0 ≤ n + n / 2 by omega⟩) hS hFc hFc rfl (fun t H1 locs ht hB hk1 hS => ?_)
    obtain ⟨hP1, hD1⟩ := hB
    rw [ht] at hP1
    obtain ⟨hP, hD⟩ := va_joinQ (wr := [(oc10 sl mc9 (.ref ea) z7), (oq ea cO n SA)]) (w1 := []) hP hD [] [0, 1] rfl rfl (by decide) (by decide) hk1 hFc hP1 hD1
    clear hk1 hPc hDc hFc hP1 hD1 ht
    generalize H1 = H at hP hS ⊢
    have hP : va_P (dC, dI) classes ([(oc10 sl mc9 (.ref ea) z7), (oq ea cO n SA)] ++ va_pl L f) H := hP
    have hD : va_D A ([(oc10 sl mc9 (.ref ea) z7), (oq ea cO n SA)] ++ va_pl L f) := hD
    refine zz_i (v := nI (n + n / 2)) (zn_eq (by omega)) ?_
    refine lv_istore_n (lv' := [(3, .int (nI (n + n / 2))), (2, .int (nI n)), (0, .ref sl), (1, .int (nI (n + 1)))]) hx hb dJx4a65c_grow_92f84_30 rfl hl (by decide) rfl (fun ls hl => ?_)
    refine lv_aload_n hx hb dJx4a65c_grow_92f84_31 rfl (lv_at hl 2 rfl) ?_
    refine lv_aload_n hx hb dJx4a65c_grow_92f84_32 rfl (lv_at hl 2 rfl) ?_
    refine va_get (D := (dC, dI)) (ci := 10) (v := .ref ea) (C := RJx4a65c) (T := TJx4a65c) (N := 3) hx hb hts inJx4a65c hown hK hP 0 rfl rfl 1 (by decide) (hts _ mw_296) (fun _ h9 => h9) rfl dJx4a65c_grow_92f84_33 ?_
    refine lv_iload_n hx hb dJx4a65c_grow_92f84_36 rfl (lv_at hl 0 rfl) ?_
    have hPc := hP.part (cx := [(oq ea cO n SA)]) [1] rfl
    have hDc := hD.part (cx := [(oq ea cO n SA)]) [1] (by decide) rfl
    have hFc := va_freeP (cx := [(oq ea cO n SA)]) hD hS hA [1] rfl
    refine zcalle (va_runS (As := [.ref ea, .int (nI (n + n / 2))]) (rest := [.ref sl]) ⟨hx, hb, hml, hown, hts⟩ (k_J_copyOf2 l dC dI cI cZ cF H.size cO e0 mi ea n (n + n / 2) SA L f (by omega) (by omega) (by assumption) (by omega)) (va_cwS 2 hts (zz_gS mw_831 mw_832 mw_119 mc_yJ7_copyOf_1904c) rfl rfl rfl (by decide +kernel) ⟨Nat.le_of_ble_eq_true rfl, Nat.le_of_ble_eq_true rfl⟩) (zPSL hPc hDc hK hXL hS hFc) rfl rfl hl.1 rfl (lv_room (Nat.le_of_ble_eq_true rfl)) dJx4a65c_grow_92f84_37 ⟨show (0 + 1) ≤ 1 by omega, show (0 + (n + n / 2)) ≤ n + n / 2 by omega⟩) hS hFc hFc (fun v9 t H1 locs ht hB hk1 hS => ?_)
    obtain ⟨q9, rfl, hP1, hD1⟩ := hB
    refine W.eq (g2 := F0 m 40 ls [.ref q9, .ref sl]) rfl ?_
    rw [ht] at hP1
    obtain ⟨hP, hD⟩ := va_joinP (wr := [(oc10 sl mc9 (.ref ea) z7)]) (rx := [(oq ea cO n SA), (oq q9 cO (n + n / 2) (va_cpy SA (fun _ => none) 0 0 n))]) hP hD [1] [0] rfl rfl (by decide) (by decide) hk1 hFc hP1 hD1
    clear hk1 hPc hDc hFc hP1 hD1 ht
    generalize H1 = H at hP hS ⊢
    have hP : va_P (dC, dI) classes ([(oc10 sl mc9 (.ref ea) z7), (oq ea cO n SA), (oq q9 cO (n + n / 2) (va_cpy SA (fun _ => none) 0 0 n))] ++ va_pl L f) H := hP
    have hD : va_D A ([(oc10 sl mc9 (.ref ea) z7), (oq ea cO n SA), (oq q9 cO (n + n / 2) (va_cpy SA (fun _ => none) 0 0 n))] ++ va_pl L f) := hD
    refine lv_dup_x1 hx hb dJx4a65c_grow_92f84_40 rfl rfl ?_
    refine va_put (D := (dC, dI)) (ci := 10) (v := .ref q9) (ty := .array (.object "java/lang/Object")) (C := RJx4a65c) (T := TJx4a65c) (N := 3) hx hb hts inJx4a65c tyJx4a65c tyJx4a65c_ok nmJx4a65c hown hK hP hD hS 0 rfl rfl 1 (by decide) (hts _ mw_296) (fun _ h9 => h9) rfl (by decide +kernel) rfl rfl (Nat.le_of_ble_eq_true rfl) dJx4a65c_grow_92f84_41 (fun H locs hP hD hS => ?_)
    have hP : va_P (dC, dI) classes ([(oc10 sl mc9 (.ref q9) z7), (oq ea cO n SA), (oq q9 cO (n + n / 2) (va_cpy SA (fun _ => none) 0 0 n))] ++ va_pl L f) H := hP
    have hD : va_D A ([(oc10 sl mc9 (.ref q9) z7), (oq ea cO n SA), (oq q9 cO (n + n / 2) (va_cpy SA (fun _ => none) 0 0 n))] ++ va_pl L f) := hD
    have hP9 := hP.part (cx := [(oc10 sl mc9 (.ref q9) z7), (oq ea cO n SA), (oq q9 cO (n + n / 2) (va_cpy SA (fun _ => none) 0 0 n))]) [0, 1, 2] rfl
    have hD9 := hD.part (cx := [(oc10 sl mc9 (.ref q9) z7), (oq ea cO n SA), (oq q9 cO (n + n / 2) (va_cpy SA (fun _ => none) 0 0 n))]) [0, 1, 2] (by decide) rfl
    refine W.widen (k := 1) (n := n + n / 2) (by omega) (by omega) ?_
    rw [hQ9]
    exact W.aret hx hb hr (Or.inr ⟨_, rfl⟩) (Or.inr ⟨_, rfl⟩) (fun t ht hW => ⟨⟨_, rfl, q9, rfl, by rw [ht]; exact hP9, hD9⟩, hS.F ht⟩) hS.2.2 dJx4a65c_grow_92f84_44
  · have c_1 : ((n : Nat) : Int) ≤ 0 := zc_nlt (by decide) (nI_toInt (by omega)) c_1
    exfalso; omega
set_option maxHeartbeats 4000000 in
set_option maxRecDepth 100000 in
theorem k_AL_grow_0 (l : Launch) (dC : Nat → ClassId) (dI : Nat → Nat → Nat) (cI cZ cF : ClassId) (sz : Nat) (cO : ClassId) (e0 : Nat) (mi : Nat) (sl : Nat) (mc9 : Int32) : Met l yJx4a65c_grow_d5877 (.code yJx4a65c_grow_d5877 cJx4a65c_grow_d5877 1 (some (.array (.object "java/lang/Object"))) :: ws0) ({ frames := 2, cells := 1, slots := 10, locals := 37 } : Room) (va_Pc [.ref sl] (zPre (dC, dI) classes (zTyO cI cZ cF cO) [(oc10 sl mc9 (.ref e0) 0)] sz (zXL e0 mi (va_A [(oc10 sl mc9 (.ref e0) 0)] sz)))) (zQe (fun v9 t => ∃ (q9 : Nat), v9 = (some (.ref q9)) ∧ va_P (dC, dI) classes [(oc10 sl mc9 (.ref q9) 0), (oq q9 cO 10 (fun _ => none))] t.heap ∧ va_D (va_A [(oc10 sl mc9 (.ref e0) 0)] sz) [(oc10 sl mc9 (.ref q9) 0), (oq q9 cO 10 (fun _ => none))]) (va_A [(oc10 sl mc9 (.ref e0) 0)] sz)) 1 10 (va_A [(oc10 sl mc9 (.ref e0) 0)] sz) := by
  refine Met.ofW (cc := cJx4a65c_grow_d5877) (maxL := 1) (ret := (some (.array (.object "java/lang/Object")))) (by decide) rfl ?_
  intro p e s m args below meth c s₁ B hml hv
  obtain ⟨rfl, hsz, hP, hK, hD0, hXL⟩ := hv
  have hx := B.exec
  have hb := B.bytes
  have hr := B.returns
  have hts0 := atoms_spec (ws := .code yJx4a65c_grow_d5877 cJx4a65c_grow_d5877 1 (some (.array (.object "java/lang/Object"))) :: ws0) B.pre
  have hts : ∀ w9 ∈ ws0, w9.before ([.ref sl] : List Value).toArray s = true := fun w9 h => hts0 w9 (List.mem_cons_of_mem _ h)
  have hown : s.vm.findClass "java/util/ArrayList" = some m.cls := findClass_of_methodNamed B.named
  have hlocks := B.notSynchronized
  subst hsz
  have hD := hD0.self (sz := s.heap.size)
  clear hD0
  generalize hAe : va_A [(oc10 sl mc9 (.ref e0) 0)] s.heap.size = A at hD hXL ⊢
  have hA : ∀ q : Nat, s.heap.size ≤ q → A q := fun q h => by rw [← hAe]; exact Or.inr h
  clear hAe
  have hS : va_S A s.heap s.heap [] := va_S.rf
  have hXN := hXL.1
  have hK3 := hK.sub [0, 1, 2] rfl
  have hP : va_P (dC, dI) classes [(oc10 sl mc9 (.ref e0) 0)] s.heap := hP
  obtain ⟨Q9, hQ9⟩ : ∃ Q9 : State → Prop, Q9 = MQ below (zQe (fun v9 t => ∃ (q9 : Nat), v9 = (some (.ref q9)) ∧ va_P (dC, dI) classes [(oc10 sl mc9 (.ref q9) 0), (oq q9 cO 10 (fun _ => none))] t.heap ∧ va_D A [(oc10 sl mc9 (.ref q9) 0), (oq q9 cO 10 (fun _ => none))]) A) ([.ref sl] : List Value).toArray s 1 10 A := ⟨_, rfl⟩
  rw [← hQ9]
  have hl := lv_entry ([.ref sl]) (n := 1) (Nat.le_of_ble_eq_true rfl)
  rw [lg_entry_eq]
  generalize (lg_sl ([.ref sl]) ++ List.replicate (1 - (lg_sl ([.ref sl])).length) Slot.unset).toArray = ls at hl ⊢
  have hl : lv_has ls 1 [(0, .ref sl)] := hl
  refine lv_aload_n hx hb dJx4a65c_grow_d5877_0 rfl (lv_at hl 0 rfl) ?_
  refine lv_aload_n hx hb dJx4a65c_grow_d5877_1 rfl (lv_at hl 0 rfl) ?_
  refine va_get (D := (dC, dI)) (ci := 10) (v := .int 0) (C := RJx4a65c) (T := TJx4a65c) (N := 3) hx hb hts inJx4a65c hown hK hP 0 rfl rfl 2 (by decide) (hts _ mw_297) (fun _ h9 => h9) rfl dJx4a65c_grow_d5877_2 ?_
  refine lv_iconst (v := 1) hx hb dJx4a65c_grow_d5877_5 (by decide) ?_
  refine lv_iadd hx hb dJx4a65c_grow_d5877_6 ?_
  refine zz_i (v := 1) (by decide) ?_
  have hPc := hP.sub (ws' := [(oc10 sl mc9 (.ref e0) 0)]) [0] rfl
  have hDc := hD.sub (ws' := [(oc10 sl mc9 (.ref e0) 0)]) [0] (by decide) rfl
  have hFc := va_free (wc := [(oc10 sl mc9 (.ref e0) 0)]) hD hS hA [0] rfl
  refine zcalle (va_runV (As := [.int 1]) (rest := []) ⟨hx, hb, hml, hown, hts⟩ (k_AL_growi_0 l dC dI cI cZ cF s.heap.size cO e0 mi sl 1 mc9 0 (by omega)) (cwV 1 hts (zz_gV mw_819 mw_821 mw_23 mw_109 mc_yJx4a65c_grow_92f84) rfl rfl rfl (by decide +kernel) ⟨Nat.le_of_ble_eq_true rfl, Nat.le_of_ble_eq_true rfl⟩) (zPVL (q0 := 0) (ci := 10) hPc hDc hK hXL hS hFc rfl rfl) rfl rfl hl.1 rfl (lv_room (Nat.le_of_ble_eq_true rfl)) dJx4a65c_grow_d5877_7 ⟨show (0 + 1) ≤ 1 by omega, show (0 + 10) ≤ 10 by omega⟩) hS hFc hFc (fun v9 t H1 locs ht hB hk1 hS => ?_)
  obtain ⟨q9, rfl, hP1, hD1⟩ := hB
  refine W.eq (g2 := F0 m 10 ls [.ref q9]) rfl ?_
  rw [ht] at hP1
  obtain ⟨hP, hD⟩ := va_join (wr := []) (w1 := [(oc10 sl mc9 (.ref q9) 0), (oq q9 cO 10 (fun _ => none))]) hP hD [0] [] rfl rfl (by decide) (by decide) hk1 hFc hP1 hD1
  clear hk1 hPc hDc hFc hP1 hD1 ht
  generalize H1 = H at hP hS ⊢
  have hP : va_P (dC, dI) classes [(oc10 sl mc9 (.ref q9) 0), (oq q9 cO 10 (fun _ => none))] H := hP
  have hD : va_D A [(oc10 sl mc9 (.ref q9) 0), (oq q9 cO 10 (fun _ => none))] := hD
  have hP9 := hP.sub (ws' := [(oc10 sl mc9 (.ref q9) 0), (oq q9 cO 10 (fun _ => none))]) [0, 1] rfl
  have hD9 := hD.sub (ws' := [(oc10 sl mc9 (.ref q9) 0), (oq q9 cO 10 (fun _ => none))]) [0, 1] (by decide) rfl
  refine W.widen (k := 1) (n := 10) (by omega) (by omega) ?_
  rw [hQ9]
  exact W.aret hx hb hr (Or.inr ⟨_, rfl⟩) (Or.inr ⟨_, rfl⟩) (fun t ht hW => ⟨⟨_, rfl, q9, rfl, by rw [ht]; exact hP9, hD9⟩, hS.F ht⟩) hS.2.2 dJx4a65c_grow_d5877_10
set_option maxHeartbeats 4000000 in
set_option maxRecDepth 100000 in
theorem k_AL_grow_g (l : Launch) (dC : Nat → ClassId) (dI : Nat → Nat → Nat) (cI cZ cF : ClassId) (sz : Nat) (cO : ClassId) (e0 : Nat) (mi : Nat) (sl : Nat) (ea : Nat) (n : Nat) (mc9 : Int32) (SA : Nat → Option Nat) (L : List Nat) (f : Nat → va_E) (hn10 : 10 ≤ n) (hn : n ≤ 100000) (hel : ∀ i, i < n → ∃ y vs, SA i = some y ∧ y ∈ L ∧ f y = .inr (11, vs)) : Met l yJx4a65c_grow_d5877 (.code yJx4a65c_grow_d5877 cJx4a65c_grow_d5877 1 (some (.array (.object "java/lang/Object"))) :: ws0) ({ frames := 4, cells := 1, slots := n + n / 2, locals := 91 } : Room) (va_Pc [.ref sl] (zPre (dC, dI) classes (zTyO cI cZ cF cO) ([(oc10 sl mc9 (.ref ea) (nI n)), (oq ea cO n SA)] ++ va_pl L f) sz (zXL e0 mi (va_A ([(oc10 sl mc9 (.ref ea) (nI n)), (oq ea cO n SA)] ++ va_pl L f) sz)))) (zQe (fun v9 t => ∃ (q9 : Nat), v9 = (some (.ref q9)) ∧ va_P (dC, dI) classes ([(oc10 sl mc9 (.ref q9) (nI n)), (oq ea cO n SA), (oq q9 cO (n + n / 2) (va_cpy SA (fun _ => none) 0 0 n))] ++ va_pl L f) t.heap ∧ va_D (va_A ([(oc10 sl mc9 (.ref ea) (nI n)), (oq ea cO n SA)] ++ va_pl L f) sz) ([(oc10 sl mc9 (.ref q9) (nI n)), (oq ea cO n SA), (oq q9 cO (n + n / 2) (va_cpy SA (fun _ => none) 0 0 n))] ++ va_pl L f)) (va_A ([(oc10 sl mc9 (.ref ea) (nI n)), (oq ea cO n SA)] ++ va_pl L f) sz)) 1 (n + n / 2) (va_A ([(oc10 sl mc9 (.ref ea) (nI n)), (oq ea cO n SA)] ++ va_pl L f) sz) := by
  refine Met.ofW (cc := cJx4a65c_grow_d5877) (maxL := 1) (ret := (some (.array (.object "java/lang/Object")))) (by decide) rfl ?_
  intro p e s m args below meth c s₁ B hml hv
  obtain ⟨rfl, hsz, hP, hK, hD0, hXL⟩ := hv
  have hx := B.exec
  have hb := B.bytes
  have hr := B.returns
  have hts0 := atoms_spec (ws := .code yJx4a65c_grow_d5877 cJx4a65c_grow_d5877 1 (some (.array (.object "java/lang/Object"))) :: ws0) B.pre
  have hts : ∀ w9 ∈ ws0, w9.before ([.ref sl] : List Value).toArray s = true := fun w9 h => hts0 w9 (List.mem_cons_of_mem _ h)
  have hown : s.vm.findClass "java/util/ArrayList" = some m.cls := findClass_of_methodNamed B.named
  have hlocks := B.notSynchronized
  subst hsz
  have hD := hD0.self (sz := s.heap.size)
  clear hD0
  generalize hAe : va_A ([(oc10 sl mc9 (.ref ea) (nI n)), (oq ea cO n SA)] ++ va_pl L f) s.heap.size = A at hD hXL ⊢
  have hA : ∀ q : Nat, s.heap.size ≤ q → A q := fun q h => by rw [← hAe]; exact Or.inr h
  clear hAe
  have hS : va_S A s.heap s.heap [] := va_S.rf
  have hXN := hXL.1
  have hK3 := hK.sub [0, 1, 2] rfl
  have hP : va_P (dC, dI) classes ([(oc10 sl mc9 (.ref ea) (nI n)), (oq ea cO n SA)] ++ va_pl L f) s.heap := hP
  obtain ⟨Q9, hQ9⟩ : ∃ Q9 : State → Prop, Q9 = MQ below (zQe (fun v9 t => ∃ (q9 : Nat), v9 = (some (.ref q9)) ∧ va_P (dC, dI) classes ([(oc10 sl mc9 (.ref q9) (nI n)), (oq ea cO n SA), (oq q9 cO (n + n / 2) (va_cpy SA (fun _ => none) 0 0 n))] ++ va_pl L f) t.heap ∧ va_D A ([(oc10 sl mc9 (.ref q9) (nI n)), (oq ea cO n SA), (oq q9 cO (n + n / 2) (va_cpy SA (fun _ => none) 0 0 n))] ++ va_pl L f)) A) ([.ref sl] : List Value).toArray s 1 (n + n / 2) A := ⟨_, rfl⟩
  rw [← hQ9]
  have hl := lv_entry ([.ref sl]) (n := 1) (Nat.le_of_ble_eq_true rfl)
  rw [lg_entry_eq]
  generalize (lg_sl ([.ref sl]) ++ List.replicate (1 - (lg_sl ([.ref sl])).length) Slot.unset).toArray = ls at hl ⊢
  have hl : lv_has ls 1 [(0, .ref sl)] := hl
  refine lv_aload_n hx hb dJx4a65c_grow_d5877_0 rfl (lv_at hl 0 rfl) ?_
  refine lv_aload_n hx hb dJx4a65c_grow_d5877_1 rfl (lv_at hl 0 rfl) ?_
  refine va_get (D := (dC, dI)) (ci := 10) (v := .int (nI n)) (C := RJx4a65c) (T := TJx4a65c) (N := 3) hx hb hts inJx4a65c hown hK hP 0 rfl rfl 2 (by decide) (hts _ mw_297) (fun _ h9 => h9) rfl dJx4a65c_grow_d5877_2 ?_
  refine lv_iconst (v := 1) hx hb dJx4a65c_grow_d5877_5 (by decide) ?_
  refine lv_iadd hx hb dJx4a65c_grow_d5877_6 ?_
  refine zz_i (v := nI (n + 1)) (nI_add n 1) ?_
  have hPc := hP.part (cx := [(oc10 sl mc9 (.ref ea) (nI n)), (oq ea cO n SA)]) [0, 1] rfl
  have hDc := hD.part (cx := [(oc10 sl mc9 (.ref ea) (nI n)), (oq ea cO n SA)]) [0, 1] (by decide) rfl
  have hFc := va_freeP (cx := [(oc10 sl mc9 (.ref ea) (nI n)), (oq ea cO n SA)]) hD hS hA [0, 1] rfl
  refine zcalle (va_runV (As := [.int (nI (n + 1))]) (rest := []) ⟨hx, hb, hml, hown, hts⟩ (k_AL_growi_g l dC dI cI cZ cF s.heap.size cO e0 mi sl ea n mc9 (nI n) SA L f (by omega) (by omega) (by assumption)) (cwV 1 hts (zz_gV mw_819 mw_821 mw_23 mw_109 mc_yJx4a65c_grow_92f84) rfl rfl rfl (by decide +kernel) ⟨Nat.le_of_ble_eq_true rfl, Nat.le_of_ble_eq_true rfl⟩) (zPVL (q0 := 0) (ci := 10) hPc hDc hK hXL hS hFc rfl rfl) rfl rfl hl.1 rfl (lv_room (Nat.le_of_ble_eq_true rfl)) dJx4a65c_grow_d5877_7 ⟨show (0 + 1) ≤ 1 by omega, show (0 + (n + n / 2)) ≤ n + n / 2 by omega⟩) hS hFc hFc (fun v9 t H1 locs ht hB hk1 hS => ?_)
  obtain ⟨q9, rfl, hP1, hD1⟩ := hB
  refine W.eq (g2 := F0 m 10 ls [.ref q9]) rfl ?_
  rw [ht] at hP1
  obtain ⟨hP, hD⟩ := va_joinP (wr := []) (rx := [(oc10 sl mc9 (.ref q9) (nI n)), (oq ea cO n SA), (oq q9 cO (n + n / 2) (va_cpy SA (fun _ => none) 0 0 n))]) hP hD [0, 1] [] rfl rfl (by decide) (by decide) hk1 hFc hP1 hD1
  clear hk1 hPc hDc hFc hP1 hD1 ht
  generalize H1 = H at hP hS ⊢
  have hP : va_P (dC, dI) classes ([(oc10 sl mc9 (.ref q9) (nI n)), (oq ea cO n SA), (oq q9 cO (n + n / 2) (va_cpy SA (fun _ => none) 0 0 n))] ++ va_pl L f) H := hP
  have hD : va_D A ([(oc10 sl mc9 (.ref q9) (nI n)), (oq ea cO n SA), (oq q9 cO (n + n / 2) (va_cpy SA (fun _ => none) 0 0 n))] ++ va_pl L f) := hD
  have hP9 := hP.part (cx := [(oc10 sl mc9 (.ref q9) (nI n)), (oq ea cO n SA), (oq q9 cO (n + n / 2) (va_cpy SA (fun _ => none) 0 0 n))]) [0, 1, 2] rfl
  have hD9 := hD.part (cx := [(oc10 sl mc9 (.ref q9) (nI n)), (oq ea cO n SA), (oq q9 cO (n + n / 2) (va_cpy SA (fun _ => none) 0 0 n))]) [0, 1, 2] (by decide) rfl
  refine W.widen (k := 1) (n := n + n / 2) (by omega) (by omega) ?_
  rw [hQ9]
  exact W.aret hx hb hr (Or.inr ⟨_, rfl⟩) (Or.inr ⟨_, rfl⟩) (fun t ht hW => ⟨⟨_, rfl, q9, rfl, by rw [ht]; exact hP9, hD9⟩, hS.F ht⟩) hS.2.2 dJx4a65c_grow_d5877_10
set_option maxHeartbeats 4000000 in
set_option maxRecDepth 100000 in
theorem k_AL_add3_0 (l : Launch) (dC : Nat → ClassId) (dI : Nat → Nat → Nat) (cI cZ cF : ClassId) (sz : Nat) (cO : ClassId) (e0 : Nat) (mi : Nat) (sl : Nat) (mc9 : Int32) (sp : Nat) (g1 : Int32) (g2 : Int32) (g3 : Int32) (md9 : Value) (ch9 : Value) : Met l yJx4a65c_add_72be8 (.code yJx4a65c_add_72be8 cJx4a65c_add_72be8 4 none :: ws0) ({ frames := 3, cells := 1, slots := 10, locals := 57 } : Room) (va_Pc [.ref sl, .ref sp, .ref e0, .int 0] (zPre (dC, dI) classes (zTyO cI cZ cF cO) [(oc10 sl mc9 (.ref e0) 0), (oc11 sp g1 g2 g3 md9 ch9)] sz (zXL e0 mi (va_A [(oc10 sl mc9 (.ref e0) 0), (oc11 sp g1 g2 g3 md9 ch9)] sz)))) (zQ none (fun t => ∃ (q9 : Nat), va_P (dC, dI) classes [(oc10 sl mc9 (.ref q9) (nI 1)), (oc11 sp g1 g2 g3 md9 ch9), (oq q9 cO 10 (va_up (fun _ => none) 0 (some sp)))] t.heap ∧ va_D (va_A [(oc10 sl mc9 (.ref e0) 0), (oc11 sp g1 g2 g3 md9 ch9)] sz) [(oc10 sl mc9 (.ref q9) (nI 1)), (oc11 sp g1 g2 g3 md9 ch9), (oq q9 cO 10 (va_up (fun _ => none) 0 (some sp)))]) (va_A [(oc10 sl mc9 (.ref e0) 0), (oc11 sp g1 g2 g3 md9 ch9)] sz)) 1 10 (va_A [(oc10 sl mc9 (.ref e0) 0), (oc11 sp g1 g2 g3 md9 ch9)] sz) := by
  refine Met.ofW (cc := cJx4a65c_add_72be8) (maxL := 4) (ret := none) (by decide) rfl ?_
  intro p e s m args below meth c s₁ B hml hv
  obtain ⟨rfl, hsz, hP, hK, hD0, hXL⟩ := hv
  have hx := B.exec
  have hb := B.bytes
  have hr := B.returns
  have hts0 := atoms_spec (ws := .code yJx4a65c_add_72be8 cJx4a65c_add_72be8 4 none :: ws0) B.pre
  have hts : ∀ w9 ∈ ws0, w9.before ([.ref sl, .ref sp, .ref e0, .int 0] : List Value).toArray s = true := fun w9 h => hts0 w9 (List.mem_cons_of_mem _ h)
  have hown : s.vm.findClass "java/util/ArrayList" = some m.cls := findClass_of_methodNamed B.named
  have hlocks := B.notSynchronized
  subst hsz
  have hD := hD0.self (sz := s.heap.size)
  clear hD0
  generalize hAe : va_A [(oc10 sl mc9 (.ref e0) 0), (oc11 sp g1 g2 g3 md9 ch9)] s.heap.size = A at hD hXL ⊢
  have hA : ∀ q : Nat, s.heap.size ≤ q → A q := fun q h => by rw [← hAe]; exact Or.inr h
  clear hAe
  have hS : va_S A s.heap s.heap [] := va_S.rf
  have hXN := hXL.1
  have hK3 := hK.sub [0, 1, 2] rfl
  have hP : va_P (dC, dI) classes [(oc10 sl mc9 (.ref e0) 0), (oc11 sp g1 g2 g3 md9 ch9)] s.heap := hP
  obtain ⟨Q9, hQ9⟩ : ∃ Q9 : State → Prop, Q9 = MQ below (zQ none (fun t => ∃ (q9 : Nat), va_P (dC, dI) classes [(oc10 sl mc9 (.ref q9) (nI 1)), (oc11 sp g1 g2 g3 md9 ch9), (oq q9 cO 10 (va_up (fun _ => none) 0 (some sp)))] t.heap ∧ va_D A [(oc10 sl mc9 (.ref q9) (nI 1)), (oc11 sp g1 g2 g3 md9 ch9), (oq q9 cO 10 (va_up (fun _ => none) 0 (some sp)))]) A) ([.ref sl, .ref sp, .ref e0, .int 0] : List Value).toArray s 1 10 A := ⟨_, rfl⟩
  rw [← hQ9]
  have hl := lv_entry ([.ref sl, .ref sp, .ref e0, .int 0]) (n := 4) (Nat.le_of_ble_eq_true rfl)
  rw [lg_entry_eq]
  generalize (lg_sl ([.ref sl, .ref sp, .ref e0, .int 0]) ++ List.replicate (4 - (lg_sl ([.ref sl, .ref sp, .ref e0, .int 0])).length) Slot.unset).toArray = ls at hl ⊢
  have hl : lv_has ls 4 [(0, .ref sl), (1, .ref sp), (2, .ref e0), (3, .int 0)] := hl
  refine lv_iload_n hx hb dJx4a65c_add_72be8_0 rfl (lv_at hl 3 rfl) ?_
  refine lv_aload_n hx hb dJx4a65c_add_72be8_1 rfl (lv_at hl 2 rfl) ?_
  refine z_alen0 hx hb hXL.2.2.2.2 hS dJx4a65c_add_72be8_2 ?_
  refine lv_icmp_ne (tgt := 11) hx hb dJx4a65c_add_72be8_3 (by decide) (fun c_1 => ?_) (fun c_1 => ?_)
  · exact absurd (by decide) c_1
  · refine lv_aload_n hx hb dJx4a65c_add_72be8_6 rfl (lv_at hl 0 rfl) ?_
    have hPc := hP.sub (ws' := [(oc10 sl mc9 (.ref e0) 0)]) [0] rfl
    have hDc := hD.sub (ws' := [(oc10 sl mc9 (.ref e0) 0)]) [0] (by decide) rfl
    have hFc := va_free (wc := [(oc10 sl mc9 (.ref e0) 0)]) hD hS hA [0] rfl
    refine zcalle (va_runV (As := []) (rest := []) ⟨hx, hb, hml, hown, hts⟩ (k_AL_grow_0 l dC dI cI cZ cF s.heap.size cO e0 mi sl mc9 ) (cwV 0 hts (zz_gV mw_815 mw_817 mw_22 mw_109 mc_yJx4a65c_grow_d5877) rfl rfl rfl (by decide +kernel) ⟨Nat.le_of_ble_eq_true rfl, Nat.le_of_ble_eq_true rfl⟩) (zPVL (q0 := 0) (ci := 10) hPc hDc hK hXL hS hFc rfl rfl) rfl rfl hl.1 rfl (lv_room (Nat.le_of_ble_eq_true rfl)) dJx4a65c_add_72be8_7 ⟨show (0 + 1) ≤ 1 by omega, show (0 + 10) ≤ 10 by omega⟩) hS hFc hFc (fun v9 t H1 locs ht hB hk1 hS => ?_)
    obtain ⟨q9, rfl, hP1, hD1⟩ := hB
    refine W.eq (g2 := F0 m 10 ls [.ref q9]) rfl ?_
    rw [ht] at hP1
    obtain ⟨hP, hD⟩ := va_join (wr := [(oc11 sp g1 g2 g3 md9 ch9)]) (w1 := [(oc10 sl mc9 (.ref q9) 0), (oq q9 cO 10 (fun _ => none))]) hP hD [0] [1] rfl rfl (by decide) (by decide) hk1 hFc hP1 hD1
    clear hk1 hPc hDc hFc hP1 hD1 ht
    generalize H1 = H at hP hS ⊢
    have hP : va_P (dC, dI) classes [(oc11 sp g1 g2 g3 md9 ch9), (oc10 sl mc9 (.ref q9) 0), (oq q9 cO 10 (fun _ => none))] H := hP
    have hD : va_D A [(oc11 sp g1 g2 g3 md9 ch9), (oc10 sl mc9 (.ref q9) 0), (oq q9 cO 10 (fun _ => none))] := hD
    refine lv_astore_n (lv' := [(2, .ref q9), (0, .ref sl), (1, .ref sp), (3, .int 0)]) hx hb dJx4a65c_add_72be8_10 rfl hl (by decide) rfl (fun ls hl => ?_)
    refine lv_aload_n hx hb dJx4a65c_add_72be8_11 rfl (lv_at hl 0 rfl) ?_
    refine lv_iload_n hx hb dJx4a65c_add_72be8_12 rfl (lv_at hl 3 rfl) ?_
    refine lv_aload_n hx hb dJx4a65c_add_72be8_13 rfl (lv_at hl 2 rfl) ?_
    refine z_aastO hx hb hK hP hD hS 2 3 0 11 rfl rfl hXN.2.1 rfl rfl (e := 0) rfl (by omega) (by omega) dJx4a65c_add_72be8_14 (fun H locs hP hD hS => ?_)
    have hP : va_P (dC, dI) classes [(oc11 sp g1 g2 g3 md9 ch9), (oc10 sl mc9 (.ref q9) 0), (oq q9 cO 10 (va_up (fun _ => none) 0 (some sp)))] H := hP
    have hD : va_D A [(oc11 sp g1 g2 g3 md9 ch9), (oc10 sl mc9 (.ref q9) 0), (oq q9 cO 10 (va_up (fun _ => none) 0 (some sp)))] := hD
    refine lv_aload_n hx hb dJx4a65c_add_72be8_15 rfl (lv_at hl 1 rfl) ?_
    refine lv_iload_n hx hb dJx4a65c_add_72be8_16 rfl (lv_at hl 3 rfl) ?_
    refine lv_iconst (v := 1) hx hb dJx4a65c_add_72be8_17 (by decide) ?_
    refine lv_iadd hx hb dJx4a65c_add_72be8_18 ?_
    refine zz_i (v := 1) (by decide) ?_
    refine zz_i (v := nI 1) (by decide) ?_
    refine va_put (D := (dC, dI)) (ci := 10) (v := .int (nI 1)) (ty := .int) (C := RJx4a65c) (T := TJx4a65c) (N := 3) hx hb hts inJx4a65c tyJx4a65c tyJx4a65c_ok nmJx4a65c hown hK hP hD hS 1 rfl rfl 2 (by decide) (hts _ mw_297) (fun _ h9 => h9) rfl (by decide +kernel) rfl rfl (Nat.le_of_ble_eq_true rfl) dJx4a65c_add_72be8_19 (fun H locs hP hD hS => ?_)
    have hP : va_P (dC, dI) classes [(oc11 sp g1 g2 g3 md9 ch9), (oc10 sl mc9 (.ref q9) (nI 1)), (oq q9 cO 10 (va_up (fun _ => none) 0 (some sp)))] H := hP
    have hD : va_D A [(oc11 sp g1 g2 g3 md9 ch9), (oc10 sl mc9 (.ref q9) (nI 1)), (oq q9 cO 10 (va_up (fun _ => none) 0 (some sp)))] := hD
    have hP9 := hP.sub (ws' := [(oc10 sl mc9 (.ref q9) (nI 1)), (oc11 sp g1 g2 g3 md9 ch9), (oq q9 cO 10 (va_up (fun _ => none) 0 (some sp)))]) [1, 0, 2] rfl
    have hD9 := hD.sub (ws' := [(oc10 sl mc9 (.ref q9) (nI 1)), (oc11 sp g1 g2 g3 md9 ch9), (oq q9 cO 10 (va_up (fun _ => none) 0 (some sp)))]) [1, 0, 2] (by decide) rfl
    refine W.widen (k := 1) (n := 10) (by omega) (by omega) ?_
    rw [hQ9]
    exact W.vret hx hb hr (fun t ht hW => ⟨⟨rfl, q9, by rw [ht]; exact hP9, hD9⟩, hS.F ht⟩) hS.2.2 dJx4a65c_add_72be8_22
set_option maxHeartbeats 4000000 in
set_option maxRecDepth 100000 in
theorem k_AL_add3_r (l : Launch) (dC : Nat → ClassId) (dI : Nat → Nat → Nat) (cI cZ cF : ClassId) (sz : Nat) (cO : ClassId) (e0 : Nat) (mi : Nat) (sl : Nat) (ea : Nat) (n9 : Nat) (mc9 : Int32) (cp9 : Nat) (SA : Nat → Option Nat) (sp : Nat) (g1 : Int32) (g2 : Int32) (g3 : Int32) (md9 : Value) (ch9 : Value) (hnc : n9 < cp9) (hcp : cp9 < 2147483648) : Met l yJx4a65c_add_72be8 (.code yJx4a65c_add_72be8 cJx4a65c_add_72be8 4 none :: ws0) ({ frames := 0, cells := 0, slots := 0, locals := 0 } : Room) (va_Pc [.ref sl, .ref sp, .ref ea, .int (nI n9)] (zPre (dC, dI) classes (zTyO cI cZ cF cO) [(oc10 sl mc9 (.ref ea) (nI n9)), (oc11 sp g1 g2 g3 md9 ch9), (oq ea cO cp9 SA)] sz (zXL e0 mi (va_A [(oc10 sl mc9 (.ref ea) (nI n9)), (oc11 sp g1 g2 g3 md9 ch9), (oq ea cO cp9 SA)] sz)))) (zQ none (fun t => va_P (dC, dI) classes [(oc10 sl mc9 (.ref ea) (nI (n9 + 1))), (oc11 sp g1 g2 g3 md9 ch9), (oq ea cO cp9 (va_up SA n9 (some sp)))] t.heap ∧ va_D (va_A [(oc10 sl mc9 (.ref ea) (nI n9)), (oc11 sp g1 g2 g3 md9 ch9), (oq ea cO cp9 SA)] sz) [(oc10 sl mc9 (.ref ea) (nI (n9 + 1))), (oc11 sp g1 g2 g3 md9 ch9), (oq ea cO cp9 (va_up SA n9 (some sp)))]) (va_A [(oc10 sl mc9 (.ref ea) (nI n9)), (oc11 sp g1 g2 g3 md9 ch9), (oq ea cO cp9 SA)] sz)) 0 0 (va_A [(oc10 sl mc9 (.ref ea) (nI n9)), (oc11 sp g1 g2 g3 md9 ch9), (oq ea cO cp9 SA)] sz) := by
  refine Met.ofW (cc := cJx4a65c_add_72be8) (maxL := 4) (ret := none) (by decide) rfl ?_
  intro p e s m args below meth c s₁ B hml hv
  obtain ⟨rfl, hsz, hP, hK, hD0, hXL⟩ := hv
  have hx := B.exec
  have hb := B.bytes
  have hr := B.returns
  have hts0 := atoms_spec (ws := .code yJx4a65c_add_72be8 cJx4a65c_add_72be8 4 none :: ws0) B.pre
  have hts : ∀ w9 ∈ ws0, w9.before ([.ref sl, .ref sp, .ref ea, .int (nI n9)] : List Value).toArray s = true := fun w9 h => hts0 w9 (List.mem_cons_of_mem _ h)
  have hown : s.vm.findClass "java/util/ArrayList" = some m.cls := findClass_of_methodNamed B.named
  have hlocks := B.notSynchronized
  subst hsz
  have hD := hD0.self (sz := s.heap.size)
  clear hD0
  generalize hAe : va_A [(oc10 sl mc9 (.ref ea) (nI n9)), (oc11 sp g1 g2 g3 md9 ch9), (oq ea cO cp9 SA)] s.heap.size = A at hD hXL ⊢
  have hA : ∀ q : Nat, s.heap.size ≤ q → A q := fun q h => by rw [← hAe]; exact Or.inr h
  clear hAe
  have hS : va_S A s.heap s.heap [] := va_S.rf
  have hXN := hXL.1
  have hK3 := hK.sub [0, 1, 2] rfl
  have hP : va_P (dC, dI) classes [(oc10 sl mc9 (.ref ea) (nI n9)), (oc11 sp g1 g2 g3 md9 ch9), (oq ea cO cp9 SA)] s.heap := hP
  obtain ⟨Q9, hQ9⟩ : ∃ Q9 : State → Prop, Q9 = MQ below (zQ none (fun t => va_P (dC, dI) classes [(oc10 sl mc9 (.ref ea) (nI (n9 + 1))), (oc11 sp g1 g2 g3 md9 ch9), (oq ea cO cp9 (va_up SA n9 (some sp)))] t.heap ∧ va_D A [(oc10 sl mc9 (.ref ea) (nI (n9 + 1))), (oc11 sp g1 g2 g3 md9 ch9), (oq ea cO cp9 (va_up SA n9 (some sp)))]) A) ([.ref sl, .ref sp, .ref ea, .int (nI n9)] : List Value).toArray s 0 0 A := ⟨_, rfl⟩
  rw [← hQ9]
  have hl := lv_entry ([.ref sl, .ref sp, .ref ea, .int (nI n9)]) (n := 4) (Nat.le_of_ble_eq_true rfl)
  rw [lg_entry_eq]
  generalize (lg_sl ([.ref sl, .ref sp, .ref ea, .int (nI n9)]) ++ List.replicate (4 - (lg_sl ([.ref sl, .ref sp, .ref ea, .int (nI n9)])).length) Slot.unset).toArray = ls at hl ⊢
  have hl : lv_has ls 4 [(0, .ref sl), (1, .ref sp), (2, .ref ea), (3, .int (nI n9))] := hl
  refine lv_iload_n hx hb dJx4a65c_add_72be8_0 rfl (lv_at hl 3 rfl) ?_
  refine lv_aload_n hx hb dJx4a65c_add_72be8_1 rfl (lv_at hl 2 rfl) ?_
  refine va_alen (v := nI cp9) hx hb hK hP 2 3 rfl rfl rfl dJx4a65c_add_72be8_2 ?_
  refine lv_icmp_ne (tgt := 11) hx hb dJx4a65c_add_72be8_3 (by decide) (fun c_1 => ?_) (fun c_1 => ?_)
  · have c_1 : ¬ ((n9 : Nat) : Int) = ((cp9 : Nat) : Int) := zc_ne (nI_toInt (by omega)) (nI_toInt (by omega)) c_1
    refine lv_aload_n hx hb dJx4a65c_add_72be8_11 rfl (lv_at hl 2 rfl) ?_
    refine lv_iload_n hx hb dJx4a65c_add_72be8_12 rfl (lv_at hl 3 rfl) ?_
    refine lv_aload_n hx hb dJx4a65c_add_72be8_13 rfl (lv_at hl 1 rfl) ?_
    refine z_aastO hx hb hK hP hD hS 2 3 1 11 rfl rfl hXN.2.1 rfl rfl (e := n9) rfl (by omega) (by omega) dJx4a65c_add_72be8_14 (fun H locs hP hD hS => ?_)
    have hP : va_P (dC, dI) classes [(oc10 sl mc9 (.ref ea) (nI n9)), (oc11 sp g1 g2 g3 md9 ch9), (oq ea cO cp9 (va_up SA n9 (some sp)))] H := hP
    have hD : va_D A [(oc10 sl mc9 (.ref ea) (nI n9)), (oc11 sp g1 g2 g3 md9 ch9), (oq ea cO cp9 (va_up SA n9 (some sp)))] := hD
    refine lv_aload_n hx hb dJx4a65c_add_72be8_15 rfl (lv_at hl 0 rfl) ?_
    refine lv_iload_n hx hb dJx4a65c_add_72be8_16 rfl (lv_at hl 3 rfl) ?_
    refine lv_iconst (v := 1) hx hb dJx4a65c_add_72be8_17 (by decide) ?_
    refine lv_iadd hx hb dJx4a65c_add_72be8_18 ?_
    refine zz_i (v := nI (n9 + 1)) (nI_add n9 1) ?_
    refine va_put (D := (dC, dI)) (ci := 10) (v := .int (nI (n9 + 1))) (ty := .int) (C := RJx4a65c) (T := TJx4a65c) (N := 3) hx hb hts inJx4a65c tyJx4a65c tyJx4a65c_ok nmJx4a65c hown hK hP hD hS 0 rfl rfl 2 (by decide) (hts _ mw_297) (fun _ h9 => h9) rfl (by decide +kernel) rfl rfl (Nat.le_of_ble_eq_true rfl) dJx4a65c_add_72be8_19 (fun H locs hP hD hS => ?_)
    have hP : va_P (dC, dI) classes [(oc10 sl mc9 (.ref ea) (nI (n9 + 1))), (oc11 sp g1 g2 g3 md9 ch9), (oq ea cO cp9 (va_up SA n9 (some sp)))] H := hP
    have hD : va_D A [(oc10 sl mc9 (.ref ea) (nI (n9 + 1))), (oc11 sp g1 g2 g3 md9 ch9), (oq ea cO cp9 (va_up SA n9 (some sp)))] := hD
    have hP9 := hP.sub (ws' := [(oc10 sl mc9 (.ref ea) (nI (n9 + 1))), (oc11 sp g1 g2 g3 md9 ch9), (oq ea cO cp9 (va_up SA n9 (some sp)))]) [0, 1, 2] rfl
    have hD9 := hD.sub (ws' := [(oc10 sl mc9 (.ref ea) (nI (n9 + 1))), (oc11 sp g1 g2 g3 md9 ch9), (oq ea cO cp9 (va_up SA n9 (some sp)))]) [0, 1, 2] (by decide) rfl
    rw [hQ9]
    exact W.vret hx hb hr (fun t ht hW => ⟨⟨rfl, by rw [ht]; exact hP9, hD9⟩, hS.F ht⟩) hS.2.2 dJx4a65c_add_72be8_22
  · have c_1 : ((n9 : Nat) : Int) = ((cp9 : Nat) : Int) := zc_eq (nI_toInt (by omega)) (nI_toInt (by omega)) c_1
    exfalso; omega
set_option maxHeartbeats 4000000 in
set_option maxRecDepth 100000 in
theorem k_AL_add3_g (l : Launch) (dC : Nat → ClassId) (dI : Nat → Nat → Nat) (cI cZ cF : ClassId) (sz : Nat) (cO : ClassId) (e0 : Nat) (mi : Nat) (sl : Nat) (ea : Nat) (n : Nat) (mc9 : Int32) (SA : Nat → Option Nat) (sp : Nat) (g1 : Int32) (g2 : Int32) (g3 : Int32) (md9 : Value) (ch9 : Value) (L : List Nat) (f : Nat → va_E) (hn10 : 10 ≤ n) (hn : n ≤ 100000) (hel : ∀ i, i < n → ∃ y vs, SA i = some y ∧ y ∈ L ∧ f y = .inr (11, vs)) : Met l yJx4a65c_add_72be8 (.code yJx4a65c_add_72be8 cJx4a65c_add_72be8 4 none :: ws0) ({ frames := 5, cells := 1, slots := n + n / 2, locals := 111 } : Room) (va_Pc [.ref sl, .ref sp, .ref ea, .int (nI n)] (zPre (dC, dI) classes (zTyO cI cZ cF cO) ([(oc10 sl mc9 (.ref ea) (nI n)), (oc11 sp g1 g2 g3 md9 ch9), (oq ea cO n SA)] ++ va_pl L f) sz (zXL e0 mi (va_A ([(oc10 sl mc9 (.ref ea) (nI n)), (oc11 sp g1 g2 g3 md9 ch9), (oq ea cO n SA)] ++ va_pl L f) sz)))) (zQ none (fun t => ∃ (q9 : Nat), va_P (dC, dI) classes ([(oc10 sl mc9 (.ref q9) (nI (n + 1))), (oc11 sp g1 g2 g3 md9 ch9), (oq ea cO n SA), (oq q9 cO (n + n / 2) (va_up (va_cpy SA (fun _ => none) 0 0 n) n (some sp)))] ++ va_pl L f) t.heap ∧ va_D (va_A ([(oc10 sl mc9 (.ref ea) (nI n)), (oc11 sp g1 g2 g3 md9 ch9), (oq ea cO n SA)] ++ va_pl L f) sz) ([(oc10 sl mc9 (.ref q9) (nI (n + 1))), (oc11 sp g1 g2 g3 md9 ch9), (oq ea cO n SA), (oq q9 cO (n + n / 2) (va_up (va_cpy SA (fun _ => none) 0 0 n) n (some sp)))] ++ va_pl L f)) (va_A ([(oc10 sl mc9 (.ref ea) (nI n)), (oc11 sp g1 g2 g3 md9 ch9), (oq ea cO n SA)] ++ va_pl L f) sz)) 1 (n + n / 2) (va_A ([(oc10 sl mc9 (.ref ea) (nI n)), (oc11 sp g1 g2 g3 md9 ch9), (oq ea cO n SA)] ++ va_pl L f) sz) := by
  refine Met.ofW (cc := cJx4a65c_add_72be8) (maxL := 4) (ret := none) (by decide) rfl ?_
  intro p e s m args below meth c s₁ B hml hv
  obtain ⟨rfl, hsz, hP, hK, hD0, hXL⟩ := hv
  have hx := B.exec
  have hb := B.bytes
  have hr := B.returns
  have hts0 := atoms_spec (ws := .code yJx4a65c_add_72be8 cJx4a65c_add_72be8 4 none :: ws0) B.pre
  have hts : ∀ w9 ∈ ws0, w9.before ([.ref sl, .ref sp, .ref ea, .int (nI n)] : List Value).toArray s = true := fun w9 h => hts0 w9 (List.mem_cons_of_mem _ h)
  have hown : s.vm.findClass "java/util/ArrayList" = some m.cls := findClass_of_methodNamed B.named
  have hlocks := B.notSynchronized
  subst hsz
  have hD := hD0.self (sz := s.heap.size)
  clear hD0
  generalize hAe : va_A ([(oc10 sl mc9 (.ref ea) (nI n)), (oc11 sp g1 g2 g3 md9 ch9), (oq ea cO n SA)] ++ va_pl L f) s.heap.size = A at hD hXL ⊢
  have hA : ∀ q : Nat, s.heap.size ≤ q → A q := fun q h => by rw [← hAe]; exact Or.inr h
  clear hAe
  have hS : va_S A s.heap s.heap [] := va_S.rf
  have hXN := hXL.1
  have hK3 := hK.sub [0, 1, 2] rfl
  have hP : va_P (dC, dI) classes ([(oc10 sl mc9 (.ref ea) (nI n)), (oc11 sp g1 g2 g3 md9 ch9), (oq ea cO n SA)] ++ va_pl L f) s.heap := hP
  obtain ⟨Q9, hQ9⟩ : ∃ Q9 : State → Prop, Q9 = MQ below (zQ none (fun t => ∃ (q9 : Nat), va_P (dC, dI) classes ([(oc10 sl mc9 (.ref q9) (nI (n + 1))), (oc11 sp g1 g2 g3 md9 ch9), (oq ea cO n SA), (oq q9 cO (n + n / 2) (va_up (va_cpy SA (fun _ => none) 0 0 n) n (some sp)))] ++ va_pl L f) t.heap ∧ va_D A ([(oc10 sl mc9 (.ref q9) (nI (n + 1))), (oc11 sp g1 g2 g3 md9 ch9), (oq ea cO n SA), (oq q9 cO (n + n / 2) (va_up (va_cpy SA (fun _ => none) 0 0 n) n (some sp)))] ++ va_pl L f)) A) ([.ref sl, .ref sp, .ref ea, .int (nI n)] : List Value).toArray s 1 (n + n / 2) A := ⟨_, rfl⟩
  rw [← hQ9]
  have hl := lv_entry ([.ref sl, .ref sp, .ref ea, .int (nI n)]) (n := 4) (Nat.le_of_ble_eq_true rfl)
  rw [lg_entry_eq]
  generalize (lg_sl ([.ref sl, .ref sp, .ref ea, .int (nI n)]) ++ List.replicate (4 - (lg_sl ([.ref sl, .ref sp, .ref ea, .int (nI n)])).length) Slot.unset).toArray = ls at hl ⊢
  have hl : lv_has ls 4 [(0, .ref sl), (1, .ref sp), (2, .ref ea), (3, .int (nI n))] := hl
  refine lv_iload_n hx hb dJx4a65c_add_72be8_0 rfl (lv_at hl 3 rfl) ?_
  refine lv_aload_n hx hb dJx4a65c_add_72be8_1 rfl (lv_at hl 2 rfl) ?_
  refine va_alen (v := nI n) hx hb hK hP 2 3 rfl rfl rfl dJx4a65c_add_72be8_2 ?_
  refine lv_icmp_ne (tgt := 11) hx hb dJx4a65c_add_72be8_3 (by decide) (fun c_1 => ?_) (fun c_1 => ?_)
  · have c_1 : ¬ ((n : Nat) : Int) = ((n : Nat) : Int) := zc_ne (nI_toInt (by omega)) (nI_toInt (by omega)) c_1
    exfalso; omega
  · have c_1 : ((n : Nat) : Int) = ((n : Nat) : Int) := zc_eq (nI_toInt (by omega)) (nI_toInt (by omega)) c_1
    refine lv_aload_n hx hb dJx4a65c_add_72be8_6 rfl (lv_at hl 0 rfl) ?_
    have hPc := hP.part (cx := [(oc10 sl mc9 (.ref ea) (nI n)), (oq ea cO n SA)]) [0, 2] rfl
    have hDc := hD.part (cx := [(oc10 sl mc9 (.ref ea) (nI n)), (oq ea cO n SA)]) [0, 2] (by decide) rfl
    have hFc := va_freeP (cx := [(oc10 sl mc9 (.ref ea) (nI n)), (oq ea cO n SA)]) hD hS hA [0, 2] rfl
    refine zcalle (va_runV (As := []) (rest := []) ⟨hx, hb, hml, hown, hts⟩ (k_AL_grow_g l dC dI cI cZ cF s.heap.size cO e0 mi sl ea n mc9 SA L f (by omega) (by omega) (by assumption)) (cwV 0 hts (zz_gV mw_815 mw_817 mw_22 mw_109 mc_yJx4a65c_grow_d5877) rfl rfl rfl (by decide +kernel) ⟨Nat.le_of_ble_eq_true rfl, Nat.le_of_ble_eq_true rfl⟩) (zPVL (q0 := 0) (ci := 10) hPc hDc hK hXL hS hFc rfl rfl) rfl rfl hl.1 rfl (lv_room (Nat.le_of_ble_eq_true rfl)) dJx4a65c_add_72be8_7 ⟨show (0 + 1) ≤ 1 by omega, show (0 + (n + n / 2)) ≤ n + n / 2 by omega⟩) hS hFc hFc (fun v9 t H1 locs ht hB hk1 hS => ?_)
    obtain ⟨q9, rfl, hP1, hD1⟩ := hB
    refine W.eq (g2 := F0 m 10 ls [.ref q9]) rfl ?_
    rw [ht] at hP1
    obtain ⟨hP, hD⟩ := va_joinP (wr := [(oc11 sp g1 g2 g3 md9 ch9)]) (rx := [(oc10 sl mc9 (.ref q9) (nI n)), (oq ea cO n SA), (oq q9 cO (n + n / 2) (va_cpy SA (fun _ => none) 0 0 n))]) hP hD [0, 2] [1] rfl rfl (by decide) (by decide) hk1 hFc hP1 hD1
    clear hk1 hPc hDc hFc hP1 hD1 ht
    generalize H1 = H at hP hS ⊢
    have hP : va_P (dC, dI) classes ([(oc11 sp g1 g2 g3 md9 ch9), (oc10 sl mc9 (.ref q9) (nI n)), (oq ea cO n SA), (oq q9 cO (n + n / 2) (va_cpy SA (fun _ => none) 0 0 n))] ++ va_pl L f) H := hP
    have hD : va_D A ([(oc11 sp g1 g2 g3 md9 ch9), (oc10 sl mc9 (.ref q9) (nI n)), (oq ea cO n SA), (oq q9 cO (n + n / 2) (va_cpy SA (fun _ => none) 0 0 n))] ++ va_pl L f) := hD
    refine lv_astore_n (lv' := [(2, .ref q9), (0, .ref sl), (1, .ref sp), (3, .int (nI n))]) hx hb dJx4a65c_add_72be8_10 rfl hl (by decide) rfl (fun ls hl => ?_)
    refine lv_aload_n hx hb dJx4a65c_add_72be8_11 rfl (lv_at hl 0 rfl) ?_
    refine lv_iload_n hx hb dJx4a65c_add_72be8_12 rfl (lv_at hl 3 rfl) ?_
    refine lv_aload_n hx hb dJx4a65c_add_72be8_13 rfl (lv_at hl 2 rfl) ?_
    refine z_aastO hx hb hK hP hD hS 3 3 0 11 rfl rfl hXN.2.1 rfl rfl (e := n) rfl (by omega) (by omega) dJx4a65c_add_72be8_14 (fun H locs hP hD hS => ?_)
    have hP : va_P (dC, dI) classes ([(oc11 sp g1 g2 g3 md9 ch9), (oc10 sl mc9 (.ref q9) (nI n)), (oq ea cO n SA), (oq q9 cO (n + n / 2) (va_up (va_cpy SA (fun _ => none) 0 0 n) n (some sp)))] ++ va_pl L f) H := hP
    have hD : va_D A ([(oc11 sp g1 g2 g3 md9 ch9), (oc10 sl mc9 (.ref q9) (nI n)), (oq ea cO n SA), (oq q9 cO (n + n / 2) (va_up (va_cpy SA (fun _ => none) 0 0 n) n (some sp)))] ++ va_pl L f) := hD
    refine lv_aload_n hx hb dJx4a65c_add_72be8_15 rfl (lv_at hl 1 rfl) ?_
    refine lv_iload_n hx hb dJx4a65c_add_72be8_16 rfl (lv_at hl 3 rfl) ?_
    refine lv_iconst (v := 1) hx hb dJx4a65c_add_72be8_17 (by decide) ?_
    refine lv_iadd hx hb dJx4a65c_add_72be8_18 ?_
    refine zz_i (v := nI (n + 1)) (nI_add n 1) ?_
    refine va_put (D := (dC, dI)) (ci := 10) (v := .int (nI (n + 1))) (ty := .int) (C := RJx4a65c) (T := TJx4a65c) (N := 3) hx hb hts inJx4a65c tyJx4a65c tyJx4a65c_ok nmJx4a65c hown hK hP hD hS 1 rfl rfl 2 (by decide) (hts _ mw_297) (fun _ h9 => h9) rfl (by decide +kernel) rfl rfl (Nat.le_of_ble_eq_true rfl) dJx4a65c_add_72be8_19 (fun H locs hP hD hS => ?_)
    have hP : va_P (dC, dI) classes ([(oc11 sp g1 g2 g3 md9 ch9), (oc10 sl mc9 (.ref q9) (nI (n + 1))), (oq ea cO n SA), (oq q9 cO (n + n / 2) (va_up (va_cpy SA (fun _ => none) 0 0 n) n (some sp)))] ++ va_pl L f) H := hP
    have hD : va_D A ([(oc11 sp g1 g2 g3 md9 ch9), (oc10 sl mc9 (.ref q9) (nI (n + 1))), (oq ea cO n SA), (oq q9 cO (n + n / 2) (va_up (va_cpy SA (fun _ => none) 0 0 n) n (some sp)))] ++ va_pl L f) := hD
    have hP9 := hP.part (cx := [(oc10 sl mc9 (.ref q9) (nI (n + 1))), (oc11 sp g1 g2 g3 md9 ch9), (oq ea cO n SA), (oq q9 cO (n + n / 2) (va_up (va_cpy SA (fun _ => none) 0 0 n) n (some sp)))]) [1, 0, 2, 3] rfl
    have hD9 := hD.part (cx := [(oc10 sl mc9 (.ref q9) (nI (n + 1))), (oc11 sp g1 g2 g3 md9 ch9), (oq ea cO n SA), (oq q9 cO (n + n / 2) (va_up (va_cpy SA (fun _ => none) 0 0 n) n (some sp)))]) [1, 0, 2, 3] (by decide) rfl
    refine W.widen (k := 1) (n := n + n / 2) (by omega) (by omega) ?_
    rw [hQ9]
    exact W.vret hx hb hr (fun t ht hW => ⟨⟨rfl, q9, by rw [ht]; exact hP9, hD9⟩, hS.F ht⟩) hS.2.2 dJx4a65c_add_72be8_22
set_option maxHeartbeats 4000000 in
set_option maxRecDepth 100000 in
theorem k_AL_add_0 (l : Launch) (dC : Nat → ClassId) (dI : Nat → Nat → Nat) (cI cZ cF : ClassId) (sz : Nat) (cO : ClassId) (e0 : Nat) (mi : Nat) (sl : Nat) (mc9 : Int32) (sp : Nat) (g1 : Int32) (g2 : Int32) (g3 : Int32) (md9 : Value) (ch9 : Value) : Met l yJx4a65c_add_9ea2d (.code yJx4a65c_add_9ea2d cJx4a65c_add_9ea2d 2 (some .boolean) :: ws0) ({ frames := 4, cells := 1, slots := 10, locals := 80 } : Room) (va_Pc [.ref sl, .ref sp] (zPre (dC, dI) classes (zTyO cI cZ cF cO) [(oc10 sl mc9 (.ref e0) 0), (oc11 sp g1 g2 g3 md9 ch9)] sz (zXL e0 mi (va_A [(oc10 sl mc9 (.ref e0) 0), (oc11 sp g1 g2 g3 md9 ch9)] sz)))) (zQ (some (.int 1)) (fun t => ∃ (q9 : Nat), va_P (dC, dI) classes [(oc10 sl (mc9 + 1) (.ref q9) (nI 1)), (oc11 sp g1 g2 g3 md9 ch9), (oq q9 cO 10 (va_up (fun _ => none) 0 (some sp)))] t.heap ∧ va_D (va_A [(oc10 sl mc9 (.ref e0) 0), (oc11 sp g1 g2 g3 md9 ch9)] sz) [(oc10 sl (mc9 + 1) (.ref q9) (nI 1)), (oc11 sp g1 g2 g3 md9 ch9), (oq q9 cO 10 (va_up (fun _ => none) 0 (some sp)))]) (va_A [(oc10 sl mc9 (.ref e0) 0), (oc11 sp g1 g2 g3 md9 ch9)] sz)) 1 10 (va_A [(oc10 sl mc9 (.ref e0) 0), (oc11 sp g1 g2 g3 md9 ch9)] sz) := by
  refine Met.ofW (cc := cJx4a65c_add_9ea2d) (maxL := 2) (ret := (some .boolean)) (by decide) rfl ?_
  intro p e s m args below meth c s₁ B hml hv
  obtain ⟨rfl, hsz, hP, hK, hD0, hXL⟩ := hv
  have hx := B.exec
  have hb := B.bytes
  have hr := B.returns
  have hts0 := atoms_spec (ws := .code yJx4a65c_add_9ea2d cJx4a65c_add_9ea2d 2 (some .boolean) :: ws0) B.pre
  have hts : ∀ w9 ∈ ws0, w9.before ([.ref sl, .ref sp] : List Value).toArray s = true := fun w9 h => hts0 w9 (List.mem_cons_of_mem _ h)
  have hown : s.vm.findClass "java/util/ArrayList" = some m.cls := findClass_of_methodNamed B.named
  have hlocks := B.notSynchronized
  subst hsz
  have hD := hD0.self (sz := s.heap.size)
  clear hD0
  generalize hAe : va_A [(oc10 sl mc9 (.ref e0) 0), (oc11 sp g1 g2 g3 md9 ch9)] s.heap.size = A at hD hXL ⊢
  have hA : ∀ q : Nat, s.heap.size ≤ q → A q := fun q h => by rw [← hAe]; exact Or.inr h
  clear hAe
  have hS : va_S A s.heap s.heap [] := va_S.rf
  have hXN := hXL.1
  have hK3 := hK.sub [0, 1, 2] rfl
  have hP : va_P (dC, dI) classes [(oc10 sl mc9 (.ref e0) 0), (oc11 sp g1 g2 g3 md9 ch9)] s.heap := hP
  obtain ⟨Q9, hQ9⟩ : ∃ Q9 : State → Prop, Q9 = MQ below (zQ (some (.int 1)) (fun t => ∃ (q9 : Nat), va_P (dC, dI) classes [(oc10 sl (mc9 + 1) (.ref q9) (nI 1)), (oc11 sp g1 g2 g3 md9 ch9), (oq q9 cO 10 (va_up (fun _ => none) 0 (some sp)))] t.heap ∧ va_D A [(oc10 sl (mc9 + 1) (.ref q9) (nI 1)), (oc11 sp g1 g2 g3 md9 ch9), (oq q9 cO 10 (va_up (fun _ => none) 0 (some sp)))]) A) ([.ref sl, .ref sp] : List Value).toArray s 1 10 A := ⟨_, rfl⟩
  rw [← hQ9]
  have hl := lv_entry ([.ref sl, .ref sp]) (n := 2) (Nat.le_of_ble_eq_true rfl)
  rw [lg_entry_eq]
  generalize (lg_sl ([.ref sl, .ref sp]) ++ List.replicate (2 - (lg_sl ([.ref sl, .ref sp])).length) Slot.unset).toArray = ls at hl ⊢
  have hl : lv_has ls 2 [(0, .ref sl), (1, .ref sp)] := hl
  refine lv_aload_n hx hb dJx4a65c_add_9ea2d_0 rfl (lv_at hl 0 rfl) ?_
  refine lv_dup hx hb dJx4a65c_add_9ea2d_1 rfl ?_
  refine va_get (D := (dC, dI)) (ci := 10) (v := .int mc9) (C := RJx4a65c) (T := TJx4a65c) (N := 3) hx hb hts inJx4a65c hown hK hP 0 rfl rfl 0 (by decide) (hts _ mw_299) (fun x9 h9 => u_same (hts _ mw_same_modCount) x9 h9) rfl dJx4a65c_add_9ea2d_2 ?_
  refine lv_iconst (v := 1) hx hb dJx4a65c_add_9ea2d_5 (by decide) ?_
  refine lv_iadd hx hb dJx4a65c_add_9ea2d_6 ?_
  refine va_put (D := (dC, dI)) (ci := 10) (v := .int (mc9 + 1)) (ty := .int) (C := RJx4a65c) (T := TJx4a65c) (N := 3) hx hb hts inJx4a65c tyJx4a65c tyJx4a65c_ok nmJx4a65c hown hK hP hD hS 0 rfl rfl 0 (by decide) (hts _ mw_299) (fun x9 h9 => u_same (hts _ mw_same_modCount) x9 h9) rfl (by decide +kernel) rfl rfl (Nat.le_of_ble_eq_true rfl) dJx4a65c_add_9ea2d_7 (fun H locs hP hD hS => ?_)
  have hP : va_P (dC, dI) classes [(oc10 sl (mc9 + 1) (.ref e0) 0), (oc11 sp g1 g2 g3 md9 ch9)] H := hP
  have hD : va_D A [(oc10 sl (mc9 + 1) (.ref e0) 0), (oc11 sp g1 g2 g3 md9 ch9)] := hD
  refine lv_aload_n hx hb dJx4a65c_add_9ea2d_10 rfl (lv_at hl 0 rfl) ?_
  refine lv_aload_n hx hb dJx4a65c_add_9ea2d_11 rfl (lv_at hl 1 rfl) ?_
  refine lv_aload_n hx hb dJx4a65c_add_9ea2d_12 rfl (lv_at hl 0 rfl) ?_
  refine va_get (D := (dC, dI)) (ci := 10) (v := .ref e0) (C := RJx4a65c) (T := TJx4a65c) (N := 3) hx hb hts inJx4a65c hown hK hP 0 rfl rfl 1 (by decide) (hts _ mw_296) (fun _ h9 => h9) rfl dJx4a65c_add_9ea2d_13 ?_
  refine lv_aload_n hx hb dJx4a65c_add_9ea2d_16 rfl (lv_at hl 0 rfl) ?_
  refine va_get (D := (dC, dI)) (ci := 10) (v := .int 0) (C := RJx4a65c) (T := TJx4a65c) (N := 3) hx hb hts inJx4a65c hown hK hP 0 rfl rfl 2 (by decide) (hts _ mw_297) (fun _ h9 => h9) rfl dJx4a65c_add_9ea2d_17 ?_
  have hPc := hP.sub (ws' := [(oc10 sl (mc9 + 1) (.ref e0) 0), (oc11 sp g1 g2 g3 md9 ch9)]) [0, 1] rfl
  have hDc := hD.sub (ws' := [(oc10 sl (mc9 + 1) (.ref e0) 0), (oc11 sp g1 g2 g3 md9 ch9)]) [0, 1] (by decide) rfl
  have hFc := va_free (wc := [(oc10 sl (mc9 + 1) (.ref e0) 0), (oc11 sp g1 g2 g3 md9 ch9)]) hD hS hA [0, 1] rfl
  refine zcall (st1 := []) (va_runV (As := [.ref sp, .ref e0, .int 0]) (rest := []) ⟨hx, hb, hml, hown, hts⟩ (k_AL_add3_0 l dC dI cI cZ cF H.size cO e0 mi sl (mc9 + 1) sp g1 g2 g3 md9 ch9 ) (cwV 3 hts (zz_gV mw_811 mw_813 mw_21 mw_109 mc_yJx4a65c_add_72be8) rfl rfl rfl (by decide +kernel) ⟨Nat.le_of_ble_eq_true rfl, Nat.le_of_ble_eq_true rfl⟩) (zPVL (q0 := 0) (ci := 10) hPc hDc hK hXL hS hFc rfl rfl) rfl rfl hl.1 rfl (lv_room (Nat.le_of_ble_eq_true rfl)) dJx4a65c_add_9ea2d_20 ⟨show (0 + 1) ≤ 1 by omega, show (0 + 10) ≤ 10 by omega⟩) hS hFc hFc rfl (fun t H1 locs ht hB hk1 hS => ?_)
  obtain ⟨q9, hP1, hD1⟩ := hB
  rw [ht] at hP1
  obtain ⟨hP, hD⟩ := va_join (wr := []) (w1 := [(oc10 sl (mc9 + 1) (.ref q9) (nI 1)), (oc11 sp g1 g2 g3 md9 ch9), (oq q9 cO 10 (va_up (fun _ => none) 0 (some sp)))]) hP hD [0, 1] [] rfl rfl (by decide) (by decide) hk1 hFc hP1 hD1
  clear hk1 hPc hDc hFc hP1 hD1 ht
  generalize H1 = H at hP hS ⊢
  have hP : va_P (dC, dI) classes [(oc10 sl (mc9 + 1) (.ref q9) (nI 1)), (oc11 sp g1 g2 g3 md9 ch9), (oq q9 cO 10 (va_up (fun _ => none) 0 (some sp)))] H := hP
  have hD : va_D A [(oc10 sl (mc9 + 1) (.ref q9) (nI 1)), (oc11 sp g1 g2 g3 md9 ch9), (oq q9 cO 10 (va_up (fun _ => none) 0 (some sp)))] := hD
  refine lv_iconst (v := 1) hx hb dJx4a65c_add_9ea2d_23 (by decide) ?_
  have hP9 := hP.sub (ws' := [(oc10 sl (mc9 + 1) (.ref q9) (nI 1)), (oc11 sp g1 g2 g3 md9 ch9), (oq q9 cO 10 (va_up (fun _ => none) 0 (some sp)))]) [0, 1, 2] rfl
  have hD9 := hD.sub (ws' := [(oc10 sl (mc9 + 1) (.ref q9) (nI 1)), (oc11 sp g1 g2 g3 md9 ch9), (oq q9 cO 10 (va_up (fun _ => none) 0 (some sp)))]) [0, 1, 2] (by decide) rfl
  refine W.widen (k := 1) (n := 10) (by omega) (by omega) ?_
  rw [hQ9]
  exact W.zret (ty := .boolean) (v := 1) hx hb hr (rfl) (fun t ht hW => ⟨⟨rfl, q9, by rw [ht]; exact hP9, hD9⟩, hS.F ht⟩) hS.2.2 dJx4a65c_add_9ea2d_24
set_option maxHeartbeats 4000000 in
set_option maxRecDepth 100000 in
theorem k_AL_add_r (l : Launch) (dC : Nat → ClassId) (dI : Nat → Nat → Nat) (cI cZ cF : ClassId) (sz : Nat) (cO : ClassId) (e0 : Nat) (mi : Nat) (sl : Nat) (ea : Nat) (n9 : Nat) (mc9 : Int32) (cp9 : Nat) (SA : Nat → Option Nat) (sp : Nat) (g1 : Int32) (g2 : Int32) (g3 : Int32) (md9 : Value) (ch9 : Value) (hnc : n9 < cp9) (hcp : cp9 < 2147483648) : Met l yJx4a65c_add_9ea2d (.code yJx4a65c_add_9ea2d cJx4a65c_add_9ea2d 2 (some .boolean) :: ws0) ({ frames := 1, cells := 0, slots := 0, locals := 23 } : Room) (va_Pc [.ref sl, .ref sp] (zPre (dC, dI) classes (zTyO cI cZ cF cO) [(oc10 sl mc9 (.ref ea) (nI n9)), (oc11 sp g1 g2 g3 md9 ch9), (oq ea cO cp9 SA)] sz (zXL e0 mi (va_A [(oc10 sl mc9 (.ref ea) (nI n9)), (oc11 sp g1 g2 g3 md9 ch9), (oq ea cO cp9 SA)] sz)))) (zQ (some (.int 1)) (fun t => va_P (dC, dI) classes [(oc10 sl (mc9 + 1) (.ref ea) (nI (n9 + 1))), (oc11 sp g1 g2 g3 md9 ch9), (oq ea cO cp9 (va_up SA n9 (some sp)))] t.heap ∧ va_D (va_A [(oc10 sl mc9 (.ref ea) (nI n9)), (oc11 sp g1 g2 g3 md9 ch9), (oq ea cO cp9 SA)] sz) [(oc10 sl (mc9 + 1) (.ref ea) (nI (n9 + 1))), (oc11 sp g1 g2 g3 md9 ch9), (oq ea cO cp9 (va_up SA n9 (some sp)))]) (va_A [(oc10 sl mc9 (.ref ea) (nI n9)), (oc11 sp g1 g2 g3 md9 ch9), (oq ea cO cp9 SA)] sz)) 0 0 (va_A [(oc10 sl mc9 (.ref ea) (nI n9)), (oc11 sp g1 g2 g3 md9 ch9), (oq ea cO cp9 SA)] sz) := by
  refine Met.ofW (cc := cJx4a65c_add_9ea2d) (maxL := 2) (ret := (some .boolean)) (by decide) rfl ?_
  intro p e s m args below meth c s₁ B hml hv
  obtain ⟨rfl, hsz, hP, hK, hD0, hXL⟩ := hv
  have hx := B.exec
  have hb := B.bytes
  have hr := B.returns
  have hts0 := atoms_spec (ws := .code yJx4a65c_add_9ea2d cJx4a65c_add_9ea2d 2 (some .boolean) :: ws0) B.pre
  have hts : ∀ w9 ∈ ws0, w9.before ([.ref sl, .ref sp] : List Value).toArray s = true := fun w9 h => hts0 w9 (List.mem_cons_of_mem _ h)
  have hown : s.vm.findClass "java/util/ArrayList" = some m.cls := findClass_of_methodNamed B.named
  have hlocks := B.notSynchronized
  subst hsz
  have hD := hD0.self (sz := s.heap.size)
  clear hD0
  generalize hAe : va_A [(oc10 sl mc9 (.ref ea) (nI n9)), (oc11 sp g1 g2 g3 md9 ch9), (oq ea cO cp9 SA)] s.heap.size = A at hD hXL ⊢
  have hA : ∀ q : Nat, s.heap.size ≤ q → A q := fun q h => by rw [← hAe]; exact Or.inr h
  clear hAe
  have hS : va_S A s.heap s.heap [] := va_S.rf
  have hXN := hXL.1
  have hK3 := hK.sub [0, 1, 2] rfl
  have hP : va_P (dC, dI) classes [(oc10 sl mc9 (.ref ea) (nI n9)), (oc11 sp g1 g2 g3 md9 ch9), (oq ea cO cp9 SA)] s.heap := hP
  obtain ⟨Q9, hQ9⟩ : ∃ Q9 : State → Prop, Q9 = MQ below (zQ (some (.int 1)) (fun t => va_P (dC, dI) classes [(oc10 sl (mc9 + 1) (.ref ea) (nI (n9 + 1))), (oc11 sp g1 g2 g3 md9 ch9), (oq ea cO cp9 (va_up SA n9 (some sp)))] t.heap ∧ va_D A [(oc10 sl (mc9 + 1) (.ref ea) (nI (n9 + 1))), (oc11 sp g1 g2 g3 md9 ch9), (oq ea cO cp9 (va_up SA n9 (some sp)))]) A) ([.ref sl, .ref sp] : List Value).toArray s 0 0 A := ⟨_, rfl⟩
  rw [← hQ9]
  have hl := lv_entry ([.ref sl, .ref sp]) (n := 2) (Nat.le_of_ble_eq_true rfl)
  rw [lg_entry_eq]
  generalize (lg_sl ([.ref sl, .ref sp]) ++ List.replicate (2 - (lg_sl ([.ref sl, .ref sp])).length) Slot.unset).toArray = ls at hl ⊢
  have hl : lv_has ls 2 [(0, .ref sl), (1, .ref sp)] := hl
  refine lv_aload_n hx hb dJx4a65c_add_9ea2d_0 rfl (lv_at hl 0 rfl) ?_
  refine lv_dup hx hb dJx4a65c_add_9ea2d_1 rfl ?_
  refine va_get (D := (dC, dI)) (ci := 10) (v := .int mc9) (C := RJx4a65c) (T := TJx4a65c) (N := 3) hx hb hts inJx4a65c hown hK hP 0 rfl rfl 0 (by decide) (hts _ mw_299) (fun x9 h9 => u_same (hts _ mw_same_modCount) x9 h9) rfl dJx4a65c_add_9ea2d_2 ?_
  refine lv_iconst (v := 1) hx hb dJx4a65c_add_9ea2d_5 (by decide) ?_
  refine lv_iadd hx hb dJx4a65c_add_9ea2d_6 ?_
  refine va_put (D := (dC, dI)) (ci := 10) (v := .int (mc9 + 1)) (ty := .int) (C := RJx4a65c) (T := TJx4a65c) (N := 3) hx hb hts inJx4a65c tyJx4a65c tyJx4a65c_ok nmJx4a65c hown hK hP hD hS 0 rfl rfl 0 (by decide) (hts _ mw_299) (fun x9 h9 => u_same (hts _ mw_same_modCount) x9 h9) rfl (by decide +kernel) rfl rfl (Nat.le_of_ble_eq_true rfl) dJx4a65c_add_9ea2d_7 (fun H locs hP hD hS => ?_)
  have hP : va_P (dC, dI) classes [(oc10 sl (mc9 + 1) (.ref ea) (nI n9)), (oc11 sp g1 g2 g3 md9 ch9), (oq ea cO cp9 SA)] H := hP
  have hD : va_D A [(oc10 sl (mc9 + 1) (.ref ea) (nI n9)), (oc11 sp g1 g2 g3 md9 ch9), (oq ea cO cp9 SA)] := hD
  refine lv_aload_n hx hb dJx4a65c_add_9ea2d_10 rfl (lv_at hl 0 rfl) ?_
  refine lv_aload_n hx hb dJx4a65c_add_9ea2d_11 rfl (lv_at hl 1 rfl) ?_
  refine lv_aload_n hx hb dJx4a65c_add_9ea2d_12 rfl (lv_at hl 0 rfl) ?_
  refine va_get (D := (dC, dI)) (ci := 10) (v := .ref ea) (C := RJx4a65c) (T := TJx4a65c) (N := 3) hx hb hts inJx4a65c hown hK hP 0 rfl rfl 1 (by decide) (hts _ mw_296) (fun _ h9 => h9) rfl dJx4a65c_add_9ea2d_13 ?_
  refine lv_aload_n hx hb dJx4a65c_add_9ea2d_16 rfl (lv_at hl 0 rfl) ?_
  refine va_get (D := (dC, dI)) (ci := 10) (v := .int (nI n9)) (C := RJx4a65c) (T := TJx4a65c) (N := 3) hx hb hts inJx4a65c hown hK hP 0 rfl rfl 2 (by decide) (hts _ mw_297) (fun _ h9 => h9) rfl dJx4a65c_add_9ea2d_17 ?_
  have hPc := hP.sub (ws' := [(oc10 sl (mc9 + 1) (.ref ea) (nI n9)), (oc11 sp g1 g2 g3 md9 ch9), (oq ea cO cp9 SA)]) [0, 1, 2] rfl
  have hDc := hD.sub (ws' := [(oc10 sl (mc9 + 1) (.ref ea) (nI n9)), (oc11 sp g1 g2 g3 md9 ch9), (oq ea cO cp9 SA)]) [0, 1, 2] (by decide) rfl
  have hFc := va_free (wc := [(oc10 sl (mc9 + 1) (.ref ea) (nI n9)), (oc11 sp g1 g2 g3 md9 ch9), (oq ea cO cp9 SA)]) hD hS hA [0, 1, 2] rfl
  refine zcall (st1 := []) (va_runV (As := [.ref sp, .ref ea, .int (nI n9)]) (rest := []) ⟨hx, hb, hml, hown, hts⟩ (k_AL_add3_r l dC dI cI cZ cF H.size cO e0 mi sl ea n9 (mc9 + 1) cp9 SA sp g1 g2 g3 md9 ch9 (by omega) (by omega)) (cwV 3 hts (zz_gV mw_811 mw_813 mw_21 mw_109 mc_yJx4a65c_add_72be8) rfl rfl rfl (by decide +kernel) ⟨Nat.le_of_ble_eq_true rfl, Nat.le_of_ble_eq_true rfl⟩) (zPVL (q0 := 0) (ci := 10) hPc hDc hK hXL hS hFc rfl rfl) rfl rfl hl.1 rfl (lv_room (Nat.le_of_ble_eq_true rfl)) dJx4a65c_add_9ea2d_20 ⟨Nat.le_of_ble_eq_true rfl, Nat.le_of_ble_eq_true rfl⟩) hS hFc hFc rfl (fun t H1 locs ht hB hk1 hS => ?_)
  obtain ⟨hP1, hD1⟩ := hB
  rw [ht] at hP1
  obtain ⟨hP, hD⟩ := va_join (wr := []) (w1 := [(oc10 sl (mc9 + 1) (.ref ea) (nI (n9 + 1))), (oc11 sp g1 g2 g3 md9 ch9), (oq ea cO cp9 (va_up SA n9 (some sp)))]) hP hD [0, 1, 2] [] rfl rfl (by decide) (by decide) hk1 hFc hP1 hD1
  clear hk1 hPc hDc hFc hP1 hD1 ht
  generalize H1 = H at hP hS ⊢
  have hP : va_P (dC, dI) classes [(oc10 sl (mc9 + 1) (.ref ea) (nI (n9 + 1))), (oc11 sp g1 g2 g3 md9 ch9), (oq ea cO cp9 (va_up SA n9 (some sp)))] H := hP
  have hD : va_D A [(oc10 sl (mc9 + 1) (.ref ea) (nI (n9 + 1))), (oc11 sp g1 g2 g3 md9 ch9), (oq ea cO cp9 (va_up SA n9 (some sp)))] := hD
  refine lv_iconst (v := 1) hx hb dJx4a65c_add_9ea2d_23 (by decide) ?_
  have hP9 := hP.sub (ws' := [(oc10 sl (mc9 + 1) (.ref ea) (nI (n9 + 1))), (oc11 sp g1 g2 g3 md9 ch9), (oq ea cO cp9 (va_up SA n9 (some sp)))]) [0, 1, 2] rfl
  have hD9 := hD.sub (ws' := [(oc10 sl (mc9 + 1) (.ref ea) (nI (n9 + 1))), (oc11 sp g1 g2 g3 md9 ch9), (oq ea cO cp9 (va_up SA n9 (some sp)))]) [0, 1, 2] (by decide) rfl
  rw [hQ9]
  exact W.zret (ty := .boolean) (v := 1) hx hb hr (rfl) (fun t ht hW => ⟨⟨rfl, by rw [ht]; exact hP9, hD9⟩, hS.F ht⟩) hS.2.2 dJx4a65c_add_9ea2d_24
set_option maxHeartbeats 4000000 in
set_option maxRecDepth 100000 in
theorem k_AL_add_g (l : Launch) (dC : Nat → ClassId) (dI : Nat → Nat → Nat) (cI cZ cF : ClassId) (sz : Nat) (cO : ClassId) (e0 : Nat) (mi : Nat) (sl : Nat) (ea : Nat) (n : Nat) (mc9 : Int32) (SA : Nat → Option Nat) (sp : Nat) (g1 : Int32) (g2 : Int32) (g3 : Int32) (md9 : Value) (ch9 : Value) (L : List Nat) (f : Nat → va_E) (hn10 : 10 ≤ n) (hn : n ≤ 100000) (hel : ∀ i, i < n → ∃ y vs, SA i = some y ∧ y ∈ L ∧ f y = .inr (11, vs)) : Met l yJx4a65c_add_9ea2d (.code yJx4a65c_add_9ea2d cJx4a65c_add_9ea2d 2 (some .boolean) :: ws0) ({ frames := 6, cells := 1, slots := n + n / 2, locals := 134 } : Room) (va_Pc [.ref sl, .ref sp] (zPre (dC, dI) classes (zTyO cI cZ cF cO) ([(oc10 sl mc9 (.ref ea) (nI n)), (oc11 sp g1 g2 g3 md9 ch9), (oq ea cO n SA)] ++ va_pl L f) sz (zXL e0 mi (va_A ([(oc10 sl mc9 (.ref ea) (nI n)), (oc11 sp g1 g2 g3 md9 ch9), (oq ea cO n SA)] ++ va_pl L f) sz)))) (zQ (some (.int 1)) (fun t => ∃ (q9 : Nat), va_P (dC, dI) classes ([(oc10 sl (mc9 + 1) (.ref q9) (nI (n + 1))), (oc11 sp g1 g2 g3 md9 ch9), (oq ea cO n SA), (oq q9 cO (n + n / 2) (va_up (va_cpy SA (fun _ => none) 0 0 n) n (some sp)))] ++ va_pl L f) t.heap ∧ va_D (va_A ([(oc10 sl mc9 (.ref ea) (nI n)), (oc11 sp g1 g2 g3 md9 ch9), (oq ea cO n SA)] ++ va_pl L f) sz) ([(oc10 sl (mc9 + 1) (.ref q9) (nI (n + 1))), (oc11 sp g1 g2 g3 md9 ch9), (oq ea cO n SA), (oq q9 cO (n + n / 2) (va_up (va_cpy SA (fun _ => none) 0 0 n) n (some sp)))] ++ va_pl L f)) (va_A ([(oc10 sl mc9 (.ref ea) (nI n)), (oc11 sp g1 g2 g3 md9 ch9), (oq ea cO n SA)] ++ va_pl L f) sz)) 1 (n + n / 2) (va_A ([(oc10 sl mc9 (.ref ea) (nI n)), (oc11 sp g1 g2 g3 md9 ch9), (oq ea cO n SA)] ++ va_pl L f) sz) := by
  refine Met.ofW (cc := cJx4a65c_add_9ea2d) (maxL := 2) (ret := (some .boolean)) (by decide) rfl ?_
  intro p e s m args below meth c s₁ B hml hv
  obtain ⟨rfl, hsz, hP, hK, hD0, hXL⟩ := hv
  have hx := B.exec
  have hb := B.bytes
  have hr := B.returns
  have hts0 := atoms_spec (ws := .code yJx4a65c_add_9ea2d cJx4a65c_add_9ea2d 2 (some .boolean) :: ws0) B.pre
  have hts : ∀ w9 ∈ ws0, w9.before ([.ref sl, .ref sp] : List Value).toArray s = true := fun w9 h => hts0 w9 (List.mem_cons_of_mem _ h)
  have hown : s.vm.findClass "java/util/ArrayList" = some m.cls := findClass_of_methodNamed B.named
  have hlocks := B.notSynchronized
  subst hsz
  have hD := hD0.self (sz := s.heap.size)
  clear hD0
  generalize hAe : va_A ([(oc10 sl mc9 (.ref ea) (nI n)), (oc11 sp g1 g2 g3 md9 ch9), (oq ea cO n SA)] ++ va_pl L f) s.heap.size = A at hD hXL ⊢
  have hA : ∀ q : Nat, s.heap.size ≤ q → A q := fun q h => by rw [← hAe]; exact Or.inr h
  clear hAe
  have hS : va_S A s.heap s.heap [] := va_S.rf
  have hXN := hXL.1
  have hK3 := hK.sub [0, 1, 2] rfl
  have hP : va_P (dC, dI) classes ([(oc10 sl mc9 (.ref ea) (nI n)), (oc11 sp g1 g2 g3 md9 ch9), (oq ea cO n SA)] ++ va_pl L f) s.heap := hP
  obtain ⟨Q9, hQ9⟩ : ∃ Q9 : State → Prop, Q9 = MQ below (zQ (some (.int 1)) (fun t => ∃ (q9 : Nat), va_P (dC, dI) classes ([(oc10 sl (mc9 + 1) (.ref q9) (nI (n + 1))), (oc11 sp g1 g2 g3 md9 ch9), (oq ea cO n SA), (oq q9 cO (n + n / 2) (va_up (va_cpy SA (fun _ => none) 0 0 n) n (some sp)))] ++ va_pl L f) t.heap ∧ va_D A ([(oc10 sl (mc9 + 1) (.ref q9) (nI (n + 1))), (oc11 sp g1 g2 g3 md9 ch9), (oq ea cO n SA), (oq q9 cO (n + n / 2) (va_up (va_cpy SA (fun _ => none) 0 0 n) n (some sp)))] ++ va_pl L f)) A) ([.ref sl, .ref sp] : List Value).toArray s 1 (n + n / 2) A := ⟨_, rfl⟩
  rw [← hQ9]
  have hl := lv_entry ([.ref sl, .ref sp]) (n := 2) (Nat.le_of_ble_eq_true rfl)
  rw [lg_entry_eq]
  generalize (lg_sl ([.ref sl, .ref sp]) ++ List.replicate (2 - (lg_sl ([.ref sl, .ref sp])).length) Slot.unset).toArray = ls at hl ⊢
  have hl : lv_has ls 2 [(0, .ref sl), (1, .ref sp)] := hl
  refine lv_aload_n hx hb dJx4a65c_add_9ea2d_0 rfl (lv_at hl 0 rfl) ?_
  refine lv_dup hx hb dJx4a65c_add_9ea2d_1 rfl ?_
  refine va_get (D := (dC, dI)) (ci := 10) (v := .int mc9) (C := RJx4a65c) (T := TJx4a65c) (N := 3) hx hb hts inJx4a65c hown hK hP 0 rfl rfl 0 (by decide) (hts _ mw_299) (fun x9 h9 => u_same (hts _ mw_same_modCount) x9 h9) rfl dJx4a65c_add_9ea2d_2 ?_
  refine lv_iconst (v := 1) hx hb dJx4a65c_add_9ea2d_5 (by decide) ?_
  refine lv_iadd hx hb dJx4a65c_add_9ea2d_6 ?_
  refine va_put (D := (dC, dI)) (ci := 10) (v := .int (mc9 + 1)) (ty := .int) (C := RJx4a65c) (T := TJx4a65c) (N := 3) hx hb hts inJx4a65c tyJx4a65c tyJx4a65c_ok nmJx4a65c hown hK hP hD hS 0 rfl rfl 0 (by decide) (hts _ mw_299) (fun x9 h9 => u_same (hts _ mw_same_modCount) x9 h9) rfl (by decide +kernel) rfl rfl (Nat.le_of_ble_eq_true rfl) dJx4a65c_add_9ea2d_7 (fun H locs hP hD hS => ?_)
  have hP : va_P (dC, dI) classes ([(oc10 sl (mc9 + 1) (.ref ea) (nI n)), (oc11 sp g1 g2 g3 md9 ch9), (oq ea cO n SA)] ++ va_pl L f) H := hP
  have hD : va_D A ([(oc10 sl (mc9 + 1) (.ref ea) (nI n)), (oc11 sp g1 g2 g3 md9 ch9), (oq ea cO n SA)] ++ va_pl L f) := hD
  refine lv_aload_n hx hb dJx4a65c_add_9ea2d_10 rfl (lv_at hl 0 rfl) ?_
  refine lv_aload_n hx hb dJx4a65c_add_9ea2d_11 rfl (lv_at hl 1 rfl) ?_
  refine lv_aload_n hx hb dJx4a65c_add_9ea2d_12 rfl (lv_at hl 0 rfl) ?_
  refine va_get (D := (dC, dI)) (ci := 10) (v := .ref ea) (C := RJx4a65c) (T := TJx4a65c) (N := 3) hx hb hts inJx4a65c hown hK hP 0 rfl rfl 1 (by decide) (hts _ mw_296) (fun _ h9 => h9) rfl dJx4a65c_add_9ea2d_13 ?_
  refine lv_aload_n hx hb dJx4a65c_add_9ea2d_16 rfl (lv_at hl 0 rfl) ?_
  refine va_get (D := (dC, dI)) (ci := 10) (v := .int (nI n)) (C := RJx4a65c) (T := TJx4a65c) (N := 3) hx hb hts inJx4a65c hown hK hP 0 rfl rfl 2 (by decide) (hts _ mw_297) (fun _ h9 => h9) rfl dJx4a65c_add_9ea2d_17 ?_
  have hPc := hP.part (cx := [(oc10 sl (mc9 + 1) (.ref ea) (nI n)), (oc11 sp g1 g2 g3 md9 ch9), (oq ea cO n SA)]) [0, 1, 2] rfl
  have hDc := hD.part (cx := [(oc10 sl (mc9 + 1) (.ref ea) (nI n)), (oc11 sp g1 g2 g3 md9 ch9), (oq ea cO n SA)]) [0, 1, 2] (by decide) rfl
  have hFc := va_freeP (cx := [(oc10 sl (mc9 + 1) (.ref ea) (nI n)), (oc11 sp g1 g2 g3 md9 ch9), (oq ea cO n SA)]) hD hS hA [0, 1, 2] rfl
  refine zcall (st1 := []) (va_runV (As := [.ref sp, .ref ea, .int (nI n)]) (rest := []) ⟨hx, hb, hml, hown, hts⟩ (k_AL_add3_g l dC dI cI cZ cF H.size cO e0 mi sl ea n (mc9 + 1) SA sp g1 g2 g3 md9 ch9 L f (by omega) (by omega) (by assumption)) (cwV 3 hts (zz_gV mw_811 mw_813 mw_21 mw_109 mc_yJx4a65c_add_72be8) rfl rfl rfl (by decide +kernel) ⟨Nat.le_of_ble_eq_true rfl, Nat.le_of_ble_eq_true rfl⟩) (zPVL (q0 := 0) (ci := 10) hPc hDc hK hXL hS hFc rfl rfl) rfl rfl hl.1 rfl (lv_room (Nat.le_of_ble_eq_true rfl)) dJx4a65c_add_9ea2d_20 ⟨show (0 + 1) ≤ 1 by omega, show (0 + (n + n / 2)) ≤ n + n / 2 by omega⟩) hS hFc hFc rfl (fun t H1 locs ht hB hk1 hS => ?_)
  obtain ⟨q9, hP1, hD1⟩ := hB
  rw [ht] at hP1
  obtain ⟨hP, hD⟩ := va_joinP (wr := []) (rx := [(oc10 sl (mc9 + 1) (.ref q9) (nI (n + 1))), (oc11 sp g1 g2 g3 md9 ch9), (oq ea cO n SA), (oq q9 cO (n + n / 2) (va_up (va_cpy SA (fun _ => none) 0 0 n) n (some sp)))]) hP hD [0, 1, 2] [] rfl rfl (by decide) (by decide) hk1 hFc hP1 hD1
  clear hk1 hPc hDc hFc hP1 hD1 ht
  generalize H1 = H at hP hS ⊢
  have hP : va_P (dC, dI) classes ([(oc10 sl (mc9 + 1) (.ref q9) (nI (n + 1))), (oc11 sp g1 g2 g3 md9 ch9), (oq ea cO n SA), (oq q9 cO (n + n / 2) (va_up (va_cpy SA (fun _ => none) 0 0 n) n (some sp)))] ++ va_pl L f) H := hP
  have hD : va_D A ([(oc10 sl (mc9 + 1) (.ref q9) (nI (n + 1))), (oc11 sp g1 g2 g3 md9 ch9), (oq ea cO n SA), (oq q9 cO (n + n / 2) (va_up (va_cpy SA (fun _ => none) 0 0 n) n (some sp)))] ++ va_pl L f) := hD
  refine lv_iconst (v := 1) hx hb dJx4a65c_add_9ea2d_23 (by decide) ?_
  have hP9 := hP.part (cx := [(oc10 sl (mc9 + 1) (.ref q9) (nI (n + 1))), (oc11 sp g1 g2 g3 md9 ch9), (oq ea cO n SA), (oq q9 cO (n + n / 2) (va_up (va_cpy SA (fun _ => none) 0 0 n) n (some sp)))]) [0, 1, 2, 3] rfl
  have hD9 := hD.part (cx := [(oc10 sl (mc9 + 1) (.ref q9) (nI (n + 1))), (oc11 sp g1 g2 g3 md9 ch9), (oq ea cO n SA), (oq q9 cO (n + n / 2) (va_up (va_cpy SA (fun _ => none) 0 0 n) n (some sp)))]) [0, 1, 2, 3] (by decide) rfl
  refine W.widen (k := 1) (n := n + n / 2) (by omega) (by omega) ?_
  rw [hQ9]
  exact W.zret (ty := .boolean) (v := 1) hx hb hr (rfl) (fun t ht hW => ⟨⟨rfl, q9, by rw [ht]; exact hP9, hD9⟩, hS.F ht⟩) hS.2.2 dJx4a65c_add_9ea2d_24
