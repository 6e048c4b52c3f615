set_option maxHeartbeats 4000000 in
set_option maxRecDepth 100000 in
theorem k_M_isRing (l : Launch) (dC : Nat → ClassId) (dI : Nat → Nat → Nat) (cI cZ cF : ClassId) (sz : Nat) (k0 : Nat) (a : Nat → Nat) (I0 : Nat → Int32) (J0 : Nat → Int64) (f : Nat) (kd : Nat → Int32) (hf_f : f ≤ 200) : Met l yX11_isRing (.code yX11_isRing cX11_isRing 2 (some .boolean) :: ws0) ({ frames := 0, cells := 0, slots := 0, locals := 0 } : Room) (va_Pc [.ref k0, .int (nI f)] (zPre (dC, dI) classes (zTy cI cZ cF) [(om k0 a I0 J0), (oa (a 1) cI 201 kd)] sz zXN)) (zQ (some (.int (pI (5 ≤ (kd f).toInt)))) (fun t => va_P (dC, dI) classes [(om k0 a I0 J0), (oa (a 1) cI 201 kd)] t.heap ∧ va_D (va_A [(om k0 a I0 J0), (oa (a 1) cI 201 kd)] sz) [(om k0 a I0 J0), (oa (a 1) cI 201 kd)]) (va_A [(om k0 a I0 J0), (oa (a 1) cI 201 kd)] sz)) 0 0 (va_A [(om k0 a I0 J0), (oa (a 1) cI 201 kd)] sz) := by
  refine Met.ofW (cc := cX11_isRing) (maxL := 2) (ret := (some .boolean)) (by decide) rfl ?_
  intro p e s m args below meth c s₁ B hml hv
  obtain ⟨rfl, hsz, hP, hK, hD0, hXN⟩ := hv
  have hx := B.exec
  have hb := B.bytes
  have hr := B.returns
  have hts0 := atoms_spec (ws := .code yX11_isRing cX11_isRing 2 (some .boolean) :: ws0) B.pre
  have hts : ∀ w9 ∈ ws0, w9.before ([.ref k0, .int (nI f)] : List Value).toArray s = true := fun w9 h => hts0 w9 (List.mem_cons_of_mem _ h)
  have hown : s.vm.findClass "ScaleShopModel" = some m.cls := findClass_of_methodNamed B.named
  have hlocks := B.notSynchronized
  subst hsz
  have hD := hD0.self (sz := s.heap.size)
  clear hD0
  generalize hAe : va_A [(om k0 a I0 J0), (oa (a 1) cI 201 kd)] s.heap.size = A at hD ⊢
  have hA : ∀ q : Nat, s.heap.size ≤ q → A q := fun q h => by rw [← hAe]; exact Or.inr h
  clear hAe
  have hS : va_S A s.heap s.heap [] := va_S.rf
  have hP : va_P (dC, dI) classes [(om k0 a I0 J0), (oa (a 1) cI 201 kd)] s.heap := hP
  obtain ⟨Q9, hQ9⟩ : ∃ Q9 : State → Prop, Q9 = MQ below (zQ (some (.int (pI (5 ≤ (kd f).toInt)))) (fun t => va_P (dC, dI) classes [(om k0 a I0 J0), (oa (a 1) cI 201 kd)] t.heap ∧ va_D A [(om k0 a I0 J0), (oa (a 1) cI 201 kd)]) A) ([.ref k0, .int (nI f)] : List Value).toArray s 0 0 A := ⟨_, rfl⟩
  rw [← hQ9]
  have hl := lv_entry ([.ref k0, .int (nI f)]) (n := 2) (Nat.le_of_ble_eq_true rfl)
  rw [lg_entry_eq]
  generalize (lg_sl ([.ref k0, .int (nI f)]) ++ List.replicate (2 - (lg_sl ([.ref k0, .int (nI f)])).length) Slot.unset).toArray = ls at hl ⊢
  have hl : lv_has ls 2 [(0, .ref k0), (1, .int (nI f))] := hl
  refine lv_aload_n hx hb dX11_isRing_0 rfl (lv_at hl 0 rfl) ?_
  refine va_get (D := (dC, dI)) (ci := 9) (v := .ref (a 1)) (C := RX11) (T := TX11) (N := 55) hx hb hts inX11 hown hK hP 0 rfl rfl 1 (by decide) (hts _ mw_1160) (fun _ h9 => h9) rfl dX11_isRing_1 ?_
  refine lv_iload_n hx hb dX11_isRing_4 rfl (lv_at hl 1 rfl) ?_
  refine z_iald hx hb hK hP 1 0 rfl rfl (e := f) rfl (by omega) (by omega) dX11_isRing_5 ?_
  refine lv_iconst (v := 5) hx hb dX11_isRing_6 (by decide) ?_
  refine lv_icmp_lt (tgt := 14) hx hb dX11_isRing_7 (by decide) (fun c_1 => ?_) (fun c_1 => ?_)
  · have c_1 : (kd f).toInt < 5 := zc_lt rfl (by decide) c_1
    refine lv_iconst (v := 0) hx hb dX11_isRing_14 (by decide) ?_
    have hP9 := hP.sub (ws' := [(om k0 a I0 J0), (oa (a 1) cI 201 kd)]) [0, 1] rfl
    have hD9 := hD.sub (ws' := [(om k0 a I0 J0), (oa (a 1) cI 201 kd)]) [0, 1] (by decide) rfl
    rw [hQ9]
    exact W.zret (ty := .boolean) (v := 0) hx hb hr (rfl) (fun t ht hW => ⟨⟨congrArg (fun z => Outcome.returned (some (Value.int z))) (show (0 : Int32) = pI (5 ≤ (kd f).toInt) from (zp_f (by omega)).symm), by rw [ht]; exact hP9, hD9⟩, hS.F ht⟩) hS.2.2 dX11_isRing_15
  · have c_1 : 5 ≤ (kd f).toInt := zc_nlt rfl (by decide) c_1
    refine lv_iconst (v := 1) hx hb dX11_isRing_10 (by decide) ?_
    refine lv_goto (tgt := 15) hx hb dX11_isRing_11 (by decide) ?_
    have hP9 := hP.sub (ws' := [(om k0 a I0 J0), (oa (a 1) cI 201 kd)]) [0, 1] rfl
    have hD9 := hD.sub (ws' := [(om k0 a I0 J0), (oa (a 1) cI 201 kd)]) [0, 1] (by decide) rfl
    rw [hQ9]
    exact W.zret (ty := .boolean) (v := 1) hx hb hr (rfl) (fun t ht hW => ⟨⟨congrArg (fun z => Outcome.returned (some (Value.int z))) (show (1 : Int32) = pI (5 ≤ (kd f).toInt) from (zp_t (by omega)).symm), by rw [ht]; exact hP9, hD9⟩, hS.F ht⟩) hS.2.2 dX11_isRing_15
set_option maxHeartbeats 4000000 in
set_option maxRecDepth 100000 in
theorem k_M_edgesOf (l : Launch) (dC : Nat → ClassId) (dI : Nat → Nat → Nat) (cI cZ cF : ClassId) (sz : Nat) (k0 : Nat) (a : Nat → Nat) (I0 : Nat → Int32) (J0 : Nat → Int64) (f : Nat) (n : Nat) (kd : Nat → Int32) (mn : Nat → Int32) (hf_f : f ≤ 200) (hm_f : mn f = nI n) (hn_f : 1 ≤ n ∧ n ≤ 40) : Met l yX11_edgesOf (.code yX11_edgesOf cX11_edgesOf 2 (some .int) :: ws0) ({ frames := 1, cells := 0, slots := 0, locals := 21 } : Room) (va_Pc [.ref k0, .int (nI f)] (zPre (dC, dI) classes (zTy cI cZ cF) [(om k0 a I0 J0), (oa (a 1) cI 201 kd), (oa (a 11) cI 201 mn)] sz zXN)) (zQ (some (.int (nI (eO (kd f).toInt n)))) (fun t => va_P (dC, dI) classes [(om k0 a I0 J0), (oa (a 1) cI 201 kd), (oa (a 11) cI 201 mn)] t.heap ∧ va_D (va_A [(om k0 a I0 J0), (oa (a 1) cI 201 kd), (oa (a 11) cI 201 mn)] sz) [(om k0 a I0 J0), (oa (a 1) cI 201 kd), (oa (a 11) cI 201 mn)]) (va_A [(om k0 a I0 J0), (oa (a 1) cI 201 kd), (oa (a 11) cI 201 mn)] sz)) 0 0 (va_A [(om k0 a I0 J0), (oa (a 1) cI 201 kd), (oa (a 11) cI 201 mn)] sz) := by
  refine Met.ofW (cc := cX11_edgesOf) (maxL := 2) (ret := (some .int)) (by decide) rfl ?_
  intro p e s m args below meth c s₁ B hml hv
  obtain ⟨rfl, hsz, hP, hK, hD0, hXN⟩ := hv
  have hx := B.exec
  have hb := B.bytes
  have hr := B.returns
  have hts0 := atoms_spec (ws := .code yX11_edgesOf cX11_edgesOf 2 (some .int) :: ws0) B.pre
  have hts : ∀ w9 ∈ ws0, w9.before ([.ref k0, .int (nI f)] : List Value).toArray s = true := fun w9 h => hts0 w9 (List.mem_cons_of_mem _ h)
  have hown : s.vm.findClass "ScaleShopModel" = some m.cls := findClass_of_methodNamed B.named
  have hlocks := B.notSynchronized
  subst hsz
  have hD := hD0.self (sz := s.heap.size)
  clear hD0
  generalize hAe : va_A [(om k0 a I0 J0), (oa (a 1) cI 201 kd), (oa (a 11) cI 201 mn)] s.heap.size = A at hD ⊢
  have hA : ∀ q : Nat, s.heap.size ≤ q → A q := fun q h => by rw [← hAe]; exact Or.inr h
  clear hAe
  have hS : va_S A s.heap s.heap [] := va_S.rf
  have hP : va_P (dC, dI) classes [(om k0 a I0 J0), (oa (a 1) cI 201 kd), (oa (a 11) cI 201 mn)] s.heap := hP
  obtain ⟨Q9, hQ9⟩ : ∃ Q9 : State → Prop, Q9 = MQ below (zQ (some (.int (nI (eO (kd f).toInt n)))) (fun t => va_P (dC, dI) classes [(om k0 a I0 J0), (oa (a 1) cI 201 kd), (oa (a 11) cI 201 mn)] t.heap ∧ va_D A [(om k0 a I0 J0), (oa (a 1) cI 201 kd), (oa (a 11) cI 201 mn)]) A) ([.ref k0, .int (nI f)] : List Value).toArray s 0 0 A := ⟨_, rfl⟩
  rw [← hQ9]
  have hl := lv_entry ([.ref k0, .int (nI f)]) (n := 2) (Nat.le_of_ble_eq_true rfl)
  rw [lg_entry_eq]
  generalize (lg_sl ([.ref k0, .int (nI f)]) ++ List.replicate (2 - (lg_sl ([.ref k0, .int (nI f)])).length) Slot.unset).toArray = ls at hl ⊢
  have hl : lv_has ls 2 [(0, .ref k0), (1, .int (nI f))] := hl
  refine lv_aload_n hx hb dX11_edgesOf_0 rfl (lv_at hl 0 rfl) ?_
  refine va_get (D := (dC, dI)) (ci := 9) (v := .ref (a 1)) (C := RX11) (T := TX11) (N := 55) hx hb hts inX11 hown hK hP 0 rfl rfl 1 (by decide) (hts _ mw_1160) (fun _ h9 => h9) rfl dX11_edgesOf_1 ?_
  refine lv_iload_n hx hb dX11_edgesOf_4 rfl (lv_at hl 1 rfl) ?_
  refine z_iald hx hb hK hP 1 0 rfl rfl (e := f) rfl (by omega) (by omega) dX11_edgesOf_5 ?_
  refine lv_if_ne (tgt := 13) hx hb dX11_edgesOf_6 (by decide) (fun c_1 => ?_) (fun c_1 => ?_)
  · have c_1 : ¬ (kd f).toInt = 0 := zc_ne rfl (by decide) c_1
    refine lv_aload_n hx hb dX11_edgesOf_13 rfl (lv_at hl 0 rfl) ?_
    refine lv_iload_n hx hb dX11_edgesOf_14 rfl (lv_at hl 1 rfl) ?_
    have hPc := hP.sub (ws' := [(om k0 a I0 J0), (oa (a 1) cI 201 kd)]) [0, 1] rfl
    have hDc := hD.sub (ws' := [(om k0 a I0 J0), (oa (a 1) cI 201 kd)]) [0, 1] (by decide) rfl
    have hFc := va_free (wc := [(om k0 a I0 J0), (oa (a 1) cI 201 kd)]) hD hS hA [0, 1] rfl
    refine zcall (st1 := [.int (pI (5 ≤ (kd f).toInt))]) (va_runV (As := [.int (nI f)]) (rest := []) ⟨hx, hb, hml, hown, hts⟩ (k_M_isRing l dC dI cI cZ cF s.heap.size k0 a I0 J0 f kd (by omega)) (cwV 1 hts (zz_gV mw_1365 mw_1367 mw_40 mw_110 mc_yX11_isRing) rfl rfl rfl (by decide +kernel) ⟨Nat.le_of_ble_eq_true rfl, Nat.le_of_ble_eq_true rfl⟩) (zPV2 (q0 := 0) (ci := 9) hPc hDc hK hXN rfl rfl) rfl rfl hl.1 rfl (lv_room (Nat.le_of_ble_eq_true rfl)) dX11_edgesOf_15 ⟨Nat.le_of_ble_eq_true rfl, Nat.le_of_ble_eq_true rfl⟩) hS hFc hFc rfl (fun t H1 locs ht hB hk1 hS => ?_)
    obtain ⟨hP1, hD1⟩ := hB
    rw [ht] at hP1
    obtain ⟨hP, hD⟩ := va_join (wr := [(oa (a 11) cI 201 mn)]) (w1 := [(om k0 a I0 J0), (oa (a 1) cI 201 kd)]) hP hD [0, 1] [2] rfl rfl (by decide) (by decide) hk1 hFc hP1 hD1
    clear hk1 hPc hDc hFc hP1 hD1 ht
    generalize H1 = H at hP hS ⊢
    have hP := hP.sub (ws' := [(om k0 a I0 J0), (oa (a 1) cI 201 kd), (oa (a 11) cI 201 mn)]) [1, 2, 0] rfl
    have hD := hD.sub (ws' := [(om k0 a I0 J0), (oa (a 1) cI 201 kd), (oa (a 11) cI 201 mn)]) [1, 2, 0] (by decide) rfl
    have hP : va_P (dC, dI) classes [(om k0 a I0 J0), (oa (a 1) cI 201 kd), (oa (a 11) cI 201 mn)] H := hP
    have hD : va_D A [(om k0 a I0 J0), (oa (a 1) cI 201 kd), (oa (a 11) cI 201 mn)] := hD
    refine lv_if_eq (tgt := 30) hx hb dX11_edgesOf_18 (by decide) (fun c_2 => ?_) (fun c_2 => ?_)
    · have c_2 : ¬ (5 ≤ (kd f).toInt) := zp_0 c_2
      refine lv_aload_n hx hb dX11_edgesOf_30 rfl (lv_at hl 0 rfl) ?_
      refine va_get (D := (dC, dI)) (ci := 9) (v := .ref (a 11)) (C := RX11) (T := TX11) (N := 55) hx hb hts inX11 hown hK hP 0 rfl rfl 11 (by decide) (hts _ mw_1170) (fun _ h9 => h9) rfl dX11_edgesOf_31 ?_
      refine lv_iload_n hx hb dX11_edgesOf_34 rfl (lv_at hl 1 rfl) ?_
      refine z_iald hx hb hK hP 2 0 rfl rfl (e := f) rfl (by omega) (by omega) dX11_edgesOf_35 ?_
      refine zz_i (v := nI n) (hm_f) ?_
      refine lv_iconst (v := 1) hx hb dX11_edgesOf_36 (by decide) ?_
      refine lv_isub hx hb dX11_edgesOf_37 ?_
      refine zz_i (v := nI (n - 1)) (pk_sub (a := n) (b := 1) (by omega)) ?_
      have hP9 := hP.sub (ws' := [(om k0 a I0 J0), (oa (a 1) cI 201 kd), (oa (a 11) cI 201 mn)]) [0, 1, 2] rfl
      have hD9 := hD.sub (ws' := [(om k0 a I0 J0), (oa (a 1) cI 201 kd), (oa (a 11) cI 201 mn)]) [0, 1, 2] (by decide) rfl
      rw [hQ9]
      exact W.iret (v := nI (n - 1)) hx hb hr (fun t ht hW => ⟨⟨congrArg (fun z => Outcome.returned (some (Value.int z))) (show (nI (n - 1) : Int32) = nI (eO (kd f).toInt n) from zn_eq (by unfold eO; split <;> (try split) <;> omega)), by rw [ht]; exact hP9, hD9⟩, hS.F ht⟩) hS.2.2 dX11_edgesOf_38
    · have c_2 : 5 ≤ (kd f).toInt := zp_1 c_2
      refine lv_aload_n hx hb dX11_edgesOf_21 rfl (lv_at hl 0 rfl) ?_
      refine va_get (D := (dC, dI)) (ci := 9) (v := .ref (a 11)) (C := RX11) (T := TX11) (N := 55) hx hb hts inX11 hown hK hP 0 rfl rfl 11 (by decide) (hts _ mw_1170) (fun _ h9 => h9) rfl dX11_edgesOf_22 ?_
      refine lv_iload_n hx hb dX11_edgesOf_25 rfl (lv_at hl 1 rfl) ?_
      refine z_iald hx hb hK hP 2 0 rfl rfl (e := f) rfl (by omega) (by omega) dX11_edgesOf_26 ?_
      refine zz_i (v := nI n) (hm_f) ?_
      refine lv_goto (tgt := 38) hx hb dX11_edgesOf_27 (by decide) ?_
      have hP9 := hP.sub (ws' := [(om k0 a I0 J0), (oa (a 1) cI 201 kd), (oa (a 11) cI 201 mn)]) [0, 1, 2] rfl
      have hD9 := hD.sub (ws' := [(om k0 a I0 J0), (oa (a 1) cI 201 kd), (oa (a 11) cI 201 mn)]) [0, 1, 2] (by decide) rfl
      rw [hQ9]
      exact W.iret (v := nI n) hx hb hr (fun t ht hW => ⟨⟨congrArg (fun z => Outcome.returned (some (Value.int z))) (show (nI n : Int32) = nI (eO (kd f).toInt n) from zn_eq (by unfold eO; split <;> (try split) <;> omega)), by rw [ht]; exact hP9, hD9⟩, hS.F ht⟩) hS.2.2 dX11_edgesOf_38
  · have c_1 : (kd f).toInt = 0 := zc_eq rfl (by decide) c_1
    refine lv_iconst (v := 1) hx hb dX11_edgesOf_9 (by decide) ?_
    refine lv_goto (tgt := 38) hx hb dX11_edgesOf_10 (by decide) ?_
    have hP9 := hP.sub (ws' := [(om k0 a I0 J0), (oa (a 1) cI 201 kd), (oa (a 11) cI 201 mn)]) [0, 1, 2] rfl
    have hD9 := hD.sub (ws' := [(om k0 a I0 J0), (oa (a 1) cI 201 kd), (oa (a 11) cI 201 mn)]) [0, 1, 2] (by decide) rfl
    rw [hQ9]
    exact W.iret (v := 1) hx hb hr (fun t ht hW => ⟨⟨congrArg (fun z => Outcome.returned (some (Value.int z))) (show (1 : Int32) = nI (eO (kd f).toInt n) from zn_eq (by unfold eO; split <;> (try split) <;> omega)), by rw [ht]; exact hP9, hD9⟩, hS.F ht⟩) hS.2.2 dX11_edgesOf_38
set_option maxHeartbeats 4000000 in
set_option maxRecDepth 100000 in
theorem k_M_edge (l : Launch) (dC : Nat → ClassId) (dI : Nat → Nat → Nat) (cI cZ cF : ClassId) (sz : Nat) (k0 : Nat) (a : Nat → Nat) (I0 : Nat → Int32) (J0 : Nat → Int64) (f : Nat) (n : Nat) (k : Nat) (q : Nat) (mn : Nat → Int32) (cx : Nat → Int32) (cy : Nat → Int32) (S0 : Nat → Int32) (hf_f : f ≤ 200) (hm_f : mn f = nI n) (hn_f : 1 ≤ n ∧ n ≤ 40) (hk : k < n) (hq : q ≤ 4) : Met l yX11_edge (.code yX11_edge cX11_edge 6 none :: ws0) ({ frames := 0, cells := 0, slots := 0, locals := 0 } : Room) (va_Pc [.ref k0, .int (nI f), .int (nI k), .int (nI q)] (zPre (dC, dI) classes (zTy cI cZ cF) [(om k0 a I0 J0), (oa (a 11) cI 201 mn), (oa (a 12) cI 8040 cx), (oa (a 13) cI 8040 cy), (oa (a 32) cI 8 S0)] sz zXN)) (zQ none (fun t => ∃ (S1 : Nat → Int32), (S1 q = cx (40 * f + k)) ∧ (S1 (q + 1) = cy (40 * f + k)) ∧ (S1 (q + 2) = cx (40 * f + nxt n k)) ∧ (S1 (q + 3) = cy (40 * f + nxt n k)) ∧ (∀ j, (j < q ∨ q + 4 ≤ j) → S1 j = S0 j) ∧ va_P (dC, dI) classes [(om k0 a I0 J0), (oa (a 11) cI 201 mn), (oa (a 12) cI 8040 cx), (oa (a 13) cI 8040 cy), (oa (a 32) cI 8 S1)] t.heap ∧ va_D (va_A [(om k0 a I0 J0), (oa (a 11) cI 201 mn), (oa (a 12) cI 8040 cx), (oa (a 13) cI 8040 cy), (oa (a 32) cI 8 S0)] sz) [(om k0 a I0 J0), (oa (a 11) cI 201 mn), (oa (a 12) cI 8040 cx), (oa (a 13) cI 8040 cy), (oa (a 32) cI 8 S1)]) (va_A [(om k0 a I0 J0), (oa (a 11) cI 201 mn), (oa (a 12) cI 8040 cx), (oa (a 13) cI 8040 cy), (oa (a 32) cI 8 S0)] sz)) 0 0 (va_A [(om k0 a I0 J0), (oa (a 11) cI 201 mn), (oa (a 12) cI 8040 cx), (oa (a 13) cI 8040 cy), (oa (a 32) cI 8 S0)] sz) := by
  refine Met.ofW (cc := cX11_edge) (maxL := 6) (ret := none) (by decide) rfl ?_
  intro p e s m args below meth c s₁ B hml hv
  obtain ⟨rfl, hsz, hP, hK, hD0, hXN⟩ := hv
  have hx := B.exec
  have hb := B.bytes
  have hr := B.returns
  have hts0 := atoms_spec (ws := .code yX11_edge cX11_edge 6 none :: ws0) B.pre
  have hts : ∀ w9 ∈ ws0, w9.before ([.ref k0, .int (nI f), .int (nI k), .int (nI q)] : List Value).toArray s = true := fun w9 h => hts0 w9 (List.mem_cons_of_mem _ h)
  have hown : s.vm.findClass "ScaleShopModel" = some m.cls := findClass_of_methodNamed B.named
  have hlocks := B.notSynchronized
  subst hsz
  have hD := hD0.self (sz := s.heap.size)
  clear hD0
  generalize hAe : va_A [(om k0 a I0 J0), (oa (a 11) cI 201 mn), (oa (a 12) cI 8040 cx), (oa (a 13) cI 8040 cy), (oa (a 32) cI 8 S0)] s.heap.size = A at hD ⊢
  have hA : ∀ q : Nat, s.heap.size ≤ q → A q := fun q h => by rw [← hAe]; exact Or.inr h
  clear hAe
  have hS : va_S A s.heap s.heap [] := va_S.rf
  have hP : va_P (dC, dI) classes [(om k0 a I0 J0), (oa (a 11) cI 201 mn), (oa (a 12) cI 8040 cx), (oa (a 13) cI 8040 cy), (oa (a 32) cI 8 S0)] s.heap := hP
  obtain ⟨Q9, hQ9⟩ : ∃ Q9 : State → Prop, Q9 = MQ below (zQ none (fun t => ∃ (S1 : Nat → Int32), (S1 q = cx (40 * f + k)) ∧ (S1 (q + 1) = cy (40 * f + k)) ∧ (S1 (q + 2) = cx (40 * f + nxt n k)) ∧ (S1 (q + 3) = cy (40 * f + nxt n k)) ∧ (∀ j, (j < q ∨ q + 4 ≤ j) → S1 j = S0 j) ∧ va_P (dC, dI) classes [(om k0 a I0 J0), (oa (a 11) cI 201 mn), (oa (a 12) cI 8040 cx), (oa (a 13) cI 8040 cy), (oa (a 32) cI 8 S1)] t.heap ∧ va_D A [(om k0 a I0 J0), (oa (a 11) cI 201 mn), (oa (a 12) cI 8040 cx), (oa (a 13) cI 8040 cy), (oa (a 32) cI 8 S1)]) A) ([.ref k0, .int (nI f), .int (nI k), .int (nI q)] : List Value).toArray s 0 0 A := ⟨_, rfl⟩
  rw [← hQ9]
  have hl := lv_entry ([.ref k0, .int (nI f), .int (nI k), .int (nI q)]) (n := 6) (Nat.le_of_ble_eq_true rfl)
  rw [lg_entry_eq]
  generalize (lg_sl ([.ref k0, .int (nI f), .int (nI k), .int (nI q)]) ++ List.replicate (6 - (lg_sl ([.ref k0, .int (nI f), .int (nI k), .int (nI q)])).length) Slot.unset).toArray = ls at hl ⊢
  have hl : lv_has ls 6 [(0, .ref k0), (1, .int (nI f)), (2, .int (nI k)), (3, .int (nI q))] := hl
  refine lv_bipush (v := 40) hx hb dX11_edge_0 (by decide) ?_
  refine lv_iload_n hx hb dX11_edge_2 rfl (lv_at hl 1 rfl) ?_
  refine lv_imul hx hb dX11_edge_3 ?_
  refine zz_i (v := nI (40 * f)) (pk_mul 40 f) ?_
  refine lv_iload_n hx hb dX11_edge_4 rfl (lv_at hl 2 rfl) ?_
  refine lv_iadd hx hb dX11_edge_5 ?_
  refine zz_i (v := nI (40 * f + k)) (nI_add (40 * f) k) ?_
  refine lv_istore (lv' := [(4, .int (nI (40 * f + k))), (0, .ref k0), (1, .int (nI f)), (2, .int (nI k)), (3, .int (nI q))]) hx hb dX11_edge_6 hl (by decide) rfl (fun ls hl => ?_)
  refine lv_bipush (v := 40) hx hb dX11_edge_8 (by decide) ?_
  refine lv_iload_n hx hb dX11_edge_10 rfl (lv_at hl 2 rfl) ?_
  refine lv_imul hx hb dX11_edge_11 ?_
  refine zz_i (v := nI (40 * f)) (pk_mul 40 f) ?_
  refine lv_iload_n hx hb dX11_edge_12 rfl (lv_at hl 3 rfl) ?_
  refine lv_iconst (v := 1) hx hb dX11_edge_13 (by decide) ?_
  refine lv_iadd hx hb dX11_edge_14 ?_
  refine zz_i (v := nI (k + 1)) (nI_add k 1) ?_
  refine lv_aload_n hx hb dX11_edge_15 rfl (lv_at hl 1 rfl) ?_
  refine va_get (D := (dC, dI)) (ci := 9) (v := .ref (a 11)) (C := RX11) (T := TX11) (N := 55) hx hb hts inX11 hown hK hP 0 rfl rfl 11 (by decide) (hts _ mw_1170) (fun _ h9 => h9) rfl dX11_edge_16 ?_
  refine lv_iload_n hx hb dX11_edge_19 rfl (lv_at hl 2 rfl) ?_
  refine z_iald hx hb hK hP 1 0 rfl rfl (e := f) rfl (by omega) (by omega) dX11_edge_20 ?_
  refine zz_i (v := nI n) (hm_f) ?_
  have hj_1 : W p l e ((headSpec (.code yX11_edge cX11_edge 6 none :: ws0) ({ frames := 0, cells := 0, slots := 0, locals := 0 } : Room)).room) s m ([.ref k0, .int (nI f), .int (nI k), .int (nI q)] : List Value).toArray below meth c s.heap [] 0 0 Q9 (F0 m 31 ls [.int (nI (nxt n k)), .int (nI (40 * f))]) := by
    have hnk := nxt_lt (n := n) (i := k) (by omega)
    refine lv_iadd hx hb dX11_edge_31 ?_
    refine zz_i (v := nI (40 * f + (nxt n k))) (nI_add (40 * f) (nxt n k)) ?_
    refine lv_istore (lv' := [(5, .int (nI (40 * f + (nxt n k)))), (4, .int (nI (40 * f + k))), (0, .ref k0), (1, .int (nI f)), (2, .int (nI k)), (3, .int (nI q))]) hx hb dX11_edge_32 hl (by decide) rfl (fun ls hl => ?_)
    refine lv_aload_n hx hb dX11_edge_34 rfl (lv_at hl 2 rfl) ?_
    refine va_get (D := (dC, dI)) (ci := 9) (v := .ref (a 32)) (C := RX11) (T := TX11) (N := 55) hx hb hts inX11 hown hK hP 0 rfl rfl 32 (by decide) (hts _ mw_1191) (fun _ h9 => h9) rfl dX11_edge_35 ?_
    refine lv_iload_n hx hb dX11_edge_38 rfl (lv_at hl 5 rfl) ?_
    refine lv_aload_n hx hb dX11_edge_39 rfl (lv_at hl 2 rfl) ?_
    refine va_get (D := (dC, dI)) (ci := 9) (v := .ref (a 12)) (C := RX11) (T := TX11) (N := 55) hx hb hts inX11 hown hK hP 0 rfl rfl 12 (by decide) (hts _ mw_1171) (fun _ h9 => h9) rfl dX11_edge_40 ?_
    refine lv_iload hx hb dX11_edge_43 (lv_at hl 1 rfl) ?_
    refine z_iald hx hb hK hP 2 0 rfl rfl (e := 40 * f + k) rfl (by omega) (by omega) dX11_edge_45 ?_
    refine z_iast hx hb hK hP hD hS 4 0 rfl rfl (e := q) (x := cx (40 * f + k)) rfl (by omega) (by omega) dX11_edge_46 (fun H locs hP hD hS => ?_)
    have hP : va_P (dC, dI) classes [(om k0 a I0 J0), (oa (a 11) cI 201 mn), (oa (a 12) cI 8040 cx), (oa (a 13) cI 8040 cy), (oa (a 32) cI 8 (upd S0 q (cx (40 * f + k))))] H := hP
    have hD : va_D A [(om k0 a I0 J0), (oa (a 11) cI 201 mn), (oa (a 12) cI 8040 cx), (oa (a 13) cI 8040 cy), (oa (a 32) cI 8 (upd S0 q (cx (40 * f + k))))] := hD
    refine lv_aload_n hx hb dX11_edge_47 rfl (lv_at hl 2 rfl) ?_
    refine va_get (D := (dC, dI)) (ci := 9) (v := .ref (a 32)) (C := RX11) (T := TX11) (N := 55) hx hb hts inX11 hown hK hP 0 rfl rfl 32 (by decide) (hts _ mw_1191) (fun _ h9 => h9) rfl dX11_edge_48 ?_
    refine lv_iload_n hx hb dX11_edge_51 rfl (lv_at hl 5 rfl) ?_
    refine lv_iconst (v := 1) hx hb dX11_edge_52 (by decide) ?_
    refine lv_iadd hx hb dX11_edge_53 ?_
    refine zz_i (v := nI (q + 1)) (nI_add q 1) ?_
    refine lv_aload_n hx hb dX11_edge_54 rfl (lv_at hl 2 rfl) ?_
    refine va_get (D := (dC, dI)) (ci := 9) (v := .ref (a 13)) (C := RX11) (T := TX11) (N := 55) hx hb hts inX11 hown hK hP 0 rfl rfl 13 (by decide) (hts _ mw_1172) (fun _ h9 => h9) rfl dX11_edge_55 ?_
    refine lv_iload hx hb dX11_edge_58 (lv_at hl 1 rfl) ?_
    refine z_iald hx hb hK hP 3 0 rfl rfl (e := 40 * f + k) rfl (by omega) (by omega) dX11_edge_60 ?_
    refine z_iast hx hb hK hP hD hS 4 0 rfl rfl (e := q + 1) (x := cy (40 * f + k)) rfl (by omega) (by omega) dX11_edge_61 (fun H locs hP hD hS => ?_)
    have hP : va_P (dC, dI) classes [(om k0 a I0 J0), (oa (a 11) cI 201 mn), (oa (a 12) cI 8040 cx), (oa (a 13) cI 8040 cy), (oa (a 32) cI 8 (upd (upd S0 q (cx (40 * f + k))) (q + 1) (cy (40 * f + k))))] H := hP
    have hD : va_D A [(om k0 a I0 J0), (oa (a 11) cI 201 mn), (oa (a 12) cI 8040 cx), (oa (a 13) cI 8040 cy), (oa (a 32) cI 8 (upd (upd S0 q (cx (40 * f + k))) (q + 1) (cy (40 * f + k))))] := hD
    refine lv_aload_n hx hb dX11_edge_62 rfl (lv_at hl 2 rfl) ?_
    refine va_get (D := (dC, dI)) (ci := 9) (v := .ref (a 32)) (C := RX11) (T := TX11) (N := 55) hx hb hts inX11 hown hK hP 0 rfl rfl 32 (by decide) (hts _ mw_1191) (fun _ h9 => h9) rfl dX11_edge_63 ?_
    refine lv_iload_n hx hb dX11_edge_66 rfl (lv_at hl 5 rfl) ?_
    refine lv_iconst (v := 2) hx hb dX11_edge_67 (by decide) ?_
    refine lv_iadd hx hb dX11_edge_68 ?_
    refine zz_i (v := nI (q + 2)) (nI_add q 2) ?_
    refine lv_aload_n hx hb dX11_edge_69 rfl (lv_at hl 2 rfl) ?_
    refine va_get (D := (dC, dI)) (ci := 9) (v := .ref (a 12)) (C := RX11) (T := TX11) (N := 55) hx hb hts inX11 hown hK hP 0 rfl rfl 12 (by decide) (hts _ mw_1171) (fun _ h9 => h9) rfl dX11_edge_70 ?_
    refine lv_iload hx hb dX11_edge_73 (lv_at hl 0 rfl) ?_
    refine z_iald hx hb hK hP 2 0 rfl rfl (e := 40 * f + (nxt n k)) rfl (by omega) (by omega) dX11_edge_75 ?_
    refine z_iast hx hb hK hP hD hS 4 0 rfl rfl (e := q + 2) (x := cx (40 * f + (nxt n k))) rfl (by omega) (by omega) dX11_edge_76 (fun H locs hP hD hS => ?_)
    have hP : va_P (dC, dI) classes [(om k0 a I0 J0), (oa (a 11) cI 201 mn), (oa (a 12) cI 8040 cx), (oa (a 13) cI 8040 cy), (oa (a 32) cI 8 (upd (upd (upd S0 q (cx (40 * f + k))) (q + 1) (cy (40 * f + k))) (q + 2) (cx (40 * f + (nxt n k)))))] H := hP
    have hD : va_D A [(om k0 a I0 J0), (oa (a 11) cI 201 mn), (oa (a 12) cI 8040 cx), (oa (a 13) cI 8040 cy), (oa (a 32) cI 8 (upd (upd (upd S0 q (cx (40 * f + k))) (q + 1) (cy (40 * f + k))) (q + 2) (cx (40 * f + (nxt n k)))))] := hD
    refine lv_aload_n hx hb dX11_edge_77 rfl (lv_at hl 2 rfl) ?_
    refine va_get (D := (dC, dI)) (ci := 9) (v := .ref (a 32)) (C := RX11) (T := TX11) (N := 55) hx hb hts inX11 hown hK hP 0 rfl rfl 32 (by decide) (hts _ mw_1191) (fun _ h9 => h9) rfl dX11_edge_78 ?_
    refine lv_iload_n hx hb dX11_edge_81 rfl (lv_at hl 5 rfl) ?_
    refine lv_iconst (v := 3) hx hb dX11_edge_82 (by decide) ?_
    refine lv_iadd hx hb dX11_edge_83 ?_
    refine zz_i (v := nI (q + 3)) (nI_add q 3) ?_
    refine lv_aload_n hx hb dX11_edge_84 rfl (lv_at hl 2 rfl) ?_
    refine va_get (D := (dC, dI)) (ci := 9) (v := .ref (a 13)) (C := RX11) (T := TX11) (N := 55) hx hb hts inX11 hown hK hP 0 rfl rfl 13 (by decide) (hts _ mw_1172) (fun _ h9 => h9) rfl dX11_edge_85 ?_
    refine lv_iload hx hb dX11_edge_88 (lv_at hl 0 rfl) ?_
    refine z_iald hx hb hK hP 3 0 rfl rfl (e := 40 * f + (nxt n k)) rfl (by omega) (by omega) dX11_edge_90 ?_
    refine z_iast hx hb hK hP hD hS 4 0 rfl rfl (e := q + 3) (x := cy (40 * f + (nxt n k))) rfl (by omega) (by omega) dX11_edge_91 (fun H locs hP hD hS => ?_)
    have hP : va_P (dC, dI) classes [(om k0 a I0 J0), (oa (a 11) cI 201 mn), (oa (a 12) cI 8040 cx), (oa (a 13) cI 8040 cy), (oa (a 32) cI 8 (upd (upd (upd (upd S0 q (cx (40 * f + k))) (q + 1) (cy (40 * f + k))) (q + 2) (cx (40 * f + (nxt n k)))) (q + 3) (cy (40 * f + (nxt n k)))))] H := hP
    have hD : va_D A [(om k0 a I0 J0), (oa (a 11) cI 201 mn), (oa (a 12) cI 8040 cx), (oa (a 13) cI 8040 cy), (oa (a 32) cI 8 (upd (upd (upd (upd S0 q (cx (40 * f + k))) (q + 1) (cy (40 * f + k))) (q + 2) (cx (40 * f + (nxt n k)))) (q + 3) (cy (40 * f + (nxt n k)))))] := hD
    have hP9 := hP.sub (ws' := [(om k0 a I0 J0), (oa (a 11) cI 201 mn), (oa (a 12) cI 8040 cx), (oa (a 13) cI 8040 cy), (oa (a 32) cI 8 (upd (upd (upd (upd S0 q (cx (40 * f + k))) (q + 1) (cy (40 * f + k))) (q + 2) (cx (40 * f + (nxt n k)))) (q + 3) (cy (40 * f + (nxt n k)))))]) [0, 1, 2, 3, 4] rfl
    have hD9 := hD.sub (ws' := [(om k0 a I0 J0), (oa (a 11) cI 201 mn), (oa (a 12) cI 8040 cx), (oa (a 13) cI 8040 cy), (oa (a 32) cI 8 (upd (upd (upd (upd S0 q (cx (40 * f + k))) (q + 1) (cy (40 * f + k))) (q + 2) (cx (40 * f + (nxt n k)))) (q + 3) (cy (40 * f + (nxt n k)))))]) [0, 1, 2, 3, 4] (by decide) rfl
    rw [hQ9]
    exact W.vret hx hb hr (fun t ht hW => ⟨⟨rfl, (upd (upd (upd (upd S0 q (cx (40 * f + k))) (q + 1) (cy (40 * f + k))) (q + 2) (cx (40 * f + (nxt n k)))) (q + 3) (cy (40 * f + (nxt n k)))), (by simp [upd]), (by simp [upd]), (by simp [upd]), (by simp [upd]), (by intro j hj; simp only [upd]; rw [if_neg (by omega), if_neg (by omega), if_neg (by omega), if_neg (by omega)]), by rw [ht]; exact hP9, hD9⟩, hS.F ht⟩) hS.2.2 dX11_edge_92
  refine lv_icmp_ne (tgt := 28) hx hb dX11_edge_21 (by decide) (fun c_2 => ?_) (fun c_2 => ?_)
  · have c_2 : ¬ ((k + 1 : Nat) : Int) = ((n : Nat) : Int) := zc_ne (nI_toInt (by omega)) (nI_toInt (by omega)) c_2
    refine lv_iload_n hx hb dX11_edge_28 rfl (lv_at hl 3 rfl) ?_
    refine lv_iconst (v := 1) hx hb dX11_edge_29 (by decide) ?_
    refine lv_iadd hx hb dX11_edge_30 ?_
    refine zz_i (v := nI (k + 1)) (nI_add k 1) ?_
    refine zz_i (v := nI (nxt n k)) (by first | (rw [nxt, if_pos (by omega)]) | (rw [nxt, if_neg (by omega)]; first | done | rfl)) ?_
    exact hj_1 
  · have c_2 : ((k + 1 : Nat) : Int) = ((n : Nat) : Int) := zc_eq (nI_toInt (by omega)) (nI_toInt (by omega)) c_2
    refine lv_iconst (v := 0) hx hb dX11_edge_24 (by decide) ?_
    refine lv_goto (tgt := 31) hx hb dX11_edge_25 (by decide) ?_
    refine zz_i (v := nI (nxt n k)) (by first | (rw [nxt, if_pos (by omega)]) | (rw [nxt, if_neg (by omega)]; first | done | rfl)) ?_
    exact hj_1 
set_option maxHeartbeats 4000000 in
set_option maxRecDepth 100000 in
theorem k_M_isMet (l : Launch) (dC : Nat → ClassId) (dI : Nat → Nat → Nat) (cI cZ cF : ClassId) (sz : Nat) (k0 : Nat) (a : Nat → Nat) (I0 : Nat → Int32) (J0 : Nat → Int64) (f : Nat) (n : Nat) (g : Nat) (m2 : Nat) (kd : Nat → Int32) (mn : Nat → Int32) (cx : Nat → Int32) (cy : Nat → Int32) (S0 : Nat → Int32) (hf_f : f ≤ 200) (hm_f : mn f = nI n) (hn_f : 1 ≤ n ∧ n ≤ 40) (hp_f : pls n (cF40 cx f) (cF40 cy f)) (hf_g : g ≤ 200) (hm_g : mn g = nI m2) (hn_g : 1 ≤ m2 ∧ m2 ≤ 40) (hp_g : pls m2 (cF40 cx g) (cF40 cy g)) : Met l yX11_isMet (.code yX11_isMet cX11_isMet 5 (some .boolean) :: ws0) ({ frames := 3, cells := 0, slots := 0, locals := 81 } : Room) (va_Pc [.ref k0, .int (nI f), .int (nI g)] (zPre (dC, dI) classes (zTy cI cZ cF) [(om k0 a I0 J0), (oa (a 1) cI 201 kd), (oa (a 11) cI 201 mn), (oa (a 12) cI 8040 cx), (oa (a 13) cI 8040 cy), (oa (a 32) cI 8 S0)] sz zXN)) (zQ (some (.int (pI (∃ i, i < eO (kd f).toInt n ∧ ∃ j, j < eO (kd g).toInt m2 ∧ eMt n (cF40 cx f) (cF40 cy f) i m2 (cF40 cx g) (cF40 cy g) j)))) (fun t => ∃ (S1 : Nat → Int32), va_P (dC, dI) classes [(om k0 a I0 J0), (oa (a 1) cI 201 kd), (oa (a 11) cI 201 mn), (oa (a 12) cI 8040 cx), (oa (a 13) cI 8040 cy), (oa (a 32) cI 8 S1)] t.heap ∧ va_D (va_A [(om k0 a I0 J0), (oa (a 1) cI 201 kd), (oa (a 11) cI 201 mn), (oa (a 12) cI 8040 cx), (oa (a 13) cI 8040 cy), (oa (a 32) cI 8 S0)] sz) [(om k0 a I0 J0), (oa (a 1) cI 201 kd), (oa (a 11) cI 201 mn), (oa (a 12) cI 8040 cx), (oa (a 13) cI 8040 cy), (oa (a 32) cI 8 S1)]) (va_A [(om k0 a I0 J0), (oa (a 1) cI 201 kd), (oa (a 11) cI 201 mn), (oa (a 12) cI 8040 cx), (oa (a 13) cI 8040 cy), (oa (a 32) cI 8 S0)] sz)) 0 0 (va_A [(om k0 a I0 J0), (oa (a 1) cI 201 kd), (oa (a 11) cI 201 mn), (oa (a 12) cI 8040 cx), (oa (a 13) cI 8040 cy), (oa (a 32) cI 8 S0)] sz) := by
  refine Met.ofW (cc := cX11_isMet) (maxL := 5) (ret := (some .boolean)) (by decide) rfl ?_
  intro p e s m args below meth c s₁ B hml hv
  obtain ⟨rfl, hsz, hP, hK, hD0, hXN⟩ := hv
  have hx := B.exec
  have hb := B.bytes
  have hr := B.returns
  have hts0 := atoms_spec (ws := .code yX11_isMet cX11_isMet 5 (some .boolean) :: ws0) B.pre
  have hts : ∀ w9 ∈ ws0, w9.before ([.ref k0, .int (nI f), .int (nI g)] : List Value).toArray s = true := fun w9 h => hts0 w9 (List.mem_cons_of_mem _ h)
  have hown : s.vm.findClass "ScaleShopModel" = some m.cls := findClass_of_methodNamed B.named
  have hlocks := B.notSynchronized
  subst hsz
  have hD := hD0.self (sz := s.heap.size)
  clear hD0
  generalize hAe : va_A [(om k0 a I0 J0), (oa (a 1) cI 201 kd), (oa (a 11) cI 201 mn), (oa (a 12) cI 8040 cx), (oa (a 13) cI 8040 cy), (oa (a 32) cI 8 S0)] s.heap.size = A at hD ⊢
  have hA : ∀ q : Nat, s.heap.size ≤ q → A q := fun q h => by rw [← hAe]; exact Or.inr h
  clear hAe
  have hS : va_S A s.heap s.heap [] := va_S.rf
  have hP : va_P (dC, dI) classes [(om k0 a I0 J0), (oa (a 1) cI 201 kd), (oa (a 11) cI 201 mn), (oa (a 12) cI 8040 cx), (oa (a 13) cI 8040 cy), (oa (a 32) cI 8 S0)] s.heap := hP
  obtain ⟨Q9, hQ9⟩ : ∃ Q9 : State → Prop, Q9 = MQ below (zQ (some (.int (pI (∃ i, i < eO (kd f).toInt n ∧ ∃ j, j < eO (kd g).toInt m2 ∧ eMt n (cF40 cx f) (cF40 cy f) i m2 (cF40 cx g) (cF40 cy g) j)))) (fun t => ∃ (S1 : Nat → Int32), va_P (dC, dI) classes [(om k0 a I0 J0), (oa (a 1) cI 201 kd), (oa (a 11) cI 201 mn), (oa (a 12) cI 8040 cx), (oa (a 13) cI 8040 cy), (oa (a 32) cI 8 S1)] t.heap ∧ va_D A [(om k0 a I0 J0), (oa (a 1) cI 201 kd), (oa (a 11) cI 201 mn), (oa (a 12) cI 8040 cx), (oa (a 13) cI 8040 cy), (oa (a 32) cI 8 S1)]) A) ([.ref k0, .int (nI f), .int (nI g)] : List Value).toArray s 0 0 A := ⟨_, rfl⟩
  rw [← hQ9]
  have hl := lv_entry ([.ref k0, .int (nI f), .int (nI g)]) (n := 5) (Nat.le_of_ble_eq_true rfl)
  rw [lg_entry_eq]
  generalize (lg_sl ([.ref k0, .int (nI f), .int (nI g)]) ++ List.replicate (5 - (lg_sl ([.ref k0, .int (nI f), .int (nI g)])).length) Slot.unset).toArray = ls at hl ⊢
  have hl : lv_has ls 5 [(0, .ref k0), (1, .int (nI f)), (2, .int (nI g))] := hl
  have hef := eO_le (k := (kd f).toInt) hn_f.1
  have heg := eO_le (k := (kd g).toInt) hn_g.1
  refine lv_iconst (v := 0) hx hb dX11_isMet_0 (by decide) ?_
  refine lv_istore_n (lv' := [(3, .int 0), (0, .ref k0), (1, .int (nI f)), (2, .int (nI g))]) hx hb dX11_isMet_1 rfl hl (by decide) rfl (fun ls hl => ?_)
  have hl_2 : ∀ (n9 : Nat) (i : Nat) (S1 : Nat → Int32) (H : Heap) (locs : List Loc) (ls : Array Slot), eO (kd f).toInt n - i < n9 → (i ≤ eO (kd f).toInt n) → (∀ k, k < i → ∀ j, j < eO (kd g).toInt m2 → ¬ eMt n (cF40 cx f) (cF40 cy f) k m2 (cF40 cx g) (cF40 cy g) j) → va_P (dC, dI) classes [(om k0 a I0 J0), (oa (a 1) cI 201 kd), (oa (a 11) cI 201 mn), (oa (a 12) cI 8040 cx), (oa (a 13) cI 8040 cy), (oa (a 32) cI 8 S1)] H → va_D A [(om k0 a I0 J0), (oa (a 1) cI 201 kd), (oa (a 11) cI 201 mn), (oa (a 12) cI 8040 cx), (oa (a 13) cI 8040 cy), (oa (a 32) cI 8 S1)] → va_S A s.heap H locs → lv_has ls 5 [(3, .int (nI i)), (0, .ref k0), (1, .int (nI f)), (2, .int (nI g))] → W p l e ((headSpec (.code yX11_isMet cX11_isMet 5 (some .boolean) :: ws0) ({ frames := 3, cells := 0, slots := 0, locals := 81 } : Room)).room) s m ([.ref k0, .int (nI f), .int (nI g)] : List Value).toArray below meth c H locs 0 0 Q9 (F0 m 2 ls []) := by
    intro n9
    induction n9 with
    | zero => intro i S1 H locs ls hm; exact absurd hm (Nat.not_lt_zero _)
    | succ n9 ih_2 =>
      intro i S1 H locs ls hm hi hno hP hD hS hl
      refine lv_iload_n hx hb dX11_isMet_2 rfl (lv_at hl 0 rfl) ?_
      refine lv_aload_n hx hb dX11_isMet_3 rfl (lv_at hl 1 rfl) ?_
      refine lv_iload_n hx hb dX11_isMet_4 rfl (lv_at hl 2 rfl) ?_
      have hPc := hP.sub (ws' := [(om k0 a I0 J0), (oa (a 1) cI 201 kd), (oa (a 11) cI 201 mn)]) [0, 1, 2] rfl
      have hDc := hD.sub (ws' := [(om k0 a I0 J0), (oa (a 1) cI 201 kd), (oa (a 11) cI 201 mn)]) [0, 1, 2] (by decide) rfl
      have hFc := va_free (wc := [(om k0 a I0 J0), (oa (a 1) cI 201 kd), (oa (a 11) cI 201 mn)]) hD hS hA [0, 1, 2] rfl
      refine zcall (st1 := [.int (nI (eO (kd f).toInt n)), .int (nI i)]) (va_runV (As := [.int (nI f)]) (rest := [.int (nI i)]) ⟨hx, hb, hml, hown, hts⟩ (k_M_edgesOf l dC dI cI cZ cF H.size k0 a I0 J0 f n kd mn (by omega) (by assumption) (by omega)) (cwV 1 hts (zz_gV mw_1369 mw_1371 mw_41 mw_110 mc_yX11_edgesOf) rfl rfl rfl (by decide +kernel) ⟨Nat.le_of_ble_eq_true rfl, Nat.le_of_ble_eq_true rfl⟩) (zPV2 (q0 := 0) (ci := 9) hPc hDc hK hXN rfl rfl) rfl rfl hl.1 rfl (lv_room (Nat.le_of_ble_eq_true rfl)) dX11_isMet_5 ⟨Nat.le_of_ble_eq_true rfl, Nat.le_of_ble_eq_true rfl⟩) hS hFc hFc rfl (fun t H1 locs ht hB hk1 hS => ?_)
      obtain ⟨hP1, hD1⟩ := hB
      rw [ht] at hP1
      obtain ⟨hP, hD⟩ := va_join (wr := [(oa (a 12) cI 8040 cx), (oa (a 13) cI 8040 cy), (oa (a 32) cI 8 S1)]) (w1 := [(om k0 a I0 J0), (oa (a 1) cI 201 kd), (oa (a 11) cI 201 mn)]) hP hD [0, 1, 2] [3, 4, 5] rfl rfl (by decide) (by decide) hk1 hFc hP1 hD1
      clear hk1 hPc hDc hFc hP1 hD1 ht
      generalize H1 = H at hP hS ⊢
      have hP := hP.sub (ws' := [(om k0 a I0 J0), (oa (a 1) cI 201 kd), (oa (a 11) cI 201 mn), (oa (a 12) cI 8040 cx), (oa (a 13) cI 8040 cy), (oa (a 32) cI 8 S1)]) [3, 4, 5, 0, 1, 2] rfl
      have hD := hD.sub (ws' := [(om k0 a I0 J0), (oa (a 1) cI 201 kd), (oa (a 11) cI 201 mn), (oa (a 12) cI 8040 cx), (oa (a 13) cI 8040 cy), (oa (a 32) cI 8 S1)]) [3, 4, 5, 0, 1, 2] (by decide) rfl
      have hP : va_P (dC, dI) classes [(om k0 a I0 J0), (oa (a 1) cI 201 kd), (oa (a 11) cI 201 mn), (oa (a 12) cI 8040 cx), (oa (a 13) cI 8040 cy), (oa (a 32) cI 8 S1)] H := hP
      have hD : va_D A [(om k0 a I0 J0), (oa (a 1) cI 201 kd), (oa (a 11) cI 201 mn), (oa (a 12) cI 8040 cx), (oa (a 13) cI 8040 cy), (oa (a 32) cI 8 S1)] := hD
      refine lv_icmp_ge (tgt := 63) hx hb dX11_isMet_8 (by decide) (fun c_1 => ?_) (fun c_1 => ?_)
      · have c_1 : ((eO (kd f).toInt n : Nat) : Int) ≤ ((i : Nat) : Int) := zc_le (nI_toInt (by omega)) (nI_toInt (by omega)) c_1
        refine lv_iconst (v := 0) hx hb dX11_isMet_63 (by decide) ?_
        have hP9 := hP.sub (ws' := [(om k0 a I0 J0), (oa (a 1) cI 201 kd), (oa (a 11) cI 201 mn), (oa (a 12) cI 8040 cx), (oa (a 13) cI 8040 cy), (oa (a 32) cI 8 S1)]) [0, 1, 2, 3, 4, 5] rfl
        have hD9 := hD.sub (ws' := [(om k0 a I0 J0), (oa (a 1) cI 201 kd), (oa (a 11) cI 201 mn), (oa (a 12) cI 8040 cx), (oa (a 13) cI 8040 cy), (oa (a 32) cI 8 S1)]) [0, 1, 2, 3, 4, 5] (by decide) rfl
        rw [hQ9]
        exact W.zret (ty := .boolean) (v := 0) hx hb hr (rfl) (fun t ht hW => ⟨⟨congrArg (fun z => Outcome.returned (some (Value.int z))) (show (0 : Int32) = pI (∃ i, i < eO (kd f).toInt n ∧ ∃ j, j < eO (kd g).toInt m2 ∧ eMt n (cF40 cx f) (cF40 cy f) i m2 (cF40 cx g) (cF40 cy g) j) from (zp_f (fun ⟨k, hk, j, hj, h⟩ => hno k (by omega) j hj h)).symm), S1, by rw [ht]; exact hP9, hD9⟩, hS.F ht⟩) hS.2.2 dX11_isMet_64
      · have c_1 : ((i : Nat) : Int) < ((eO (kd f).toInt n : Nat) : Int) := zc_nle (nI_toInt (by omega)) (nI_toInt (by omega)) c_1
        have hin9 : i < n := (by omega)
        have hnx := nxt_lt (n := n) (i := i) (by omega)
        refine lv_aload_n hx hb dX11_isMet_11 rfl (lv_at hl 1 rfl) ?_
        refine lv_iload_n hx hb dX11_isMet_12 rfl (lv_at hl 2 rfl) ?_
        refine lv_iload_n hx hb dX11_isMet_13 rfl (lv_at hl 0 rfl) ?_
        refine lv_iconst (v := 0) hx hb dX11_isMet_14 (by decide) ?_
        have hPc := hP.sub (ws' := [(om k0 a I0 J0), (oa (a 11) cI 201 mn), (oa (a 12) cI 8040 cx), (oa (a 13) cI 8040 cy), (oa (a 32) cI 8 S1)]) [0, 2, 3, 4, 5] rfl
        have hDc := hD.sub (ws' := [(om k0 a I0 J0), (oa (a 11) cI 201 mn), (oa (a 12) cI 8040 cx), (oa (a 13) cI 8040 cy), (oa (a 32) cI 8 S1)]) [0, 2, 3, 4, 5] (by decide) rfl
        have hFc := va_free (wc := [(om k0 a I0 J0), (oa (a 11) cI 201 mn), (oa (a 12) cI 8040 cx), (oa (a 13) cI 8040 cy), (oa (a 32) cI 8 S1)]) hD hS hA [0, 2, 3, 4, 5] rfl
        refine zcall (st1 := []) (va_runV (As := [.int (nI f), .int (nI i), .int 0]) (rest := []) ⟨hx, hb, hml, hown, hts⟩ (k_M_edge l dC dI cI cZ cF H.size k0 a I0 J0 f n i 0 mn cx cy S1 (by omega) (by assumption) (by omega) (by omega) (by omega)) (cwV 3 hts (zz_gV mw_1373 mw_1375 mw_42 mw_110 mc_yX11_edge) rfl rfl rfl (by decide +kernel) ⟨Nat.le_of_ble_eq_true rfl, Nat.le_of_ble_eq_true rfl⟩) (zPV2 (q0 := 0) (ci := 9) hPc hDc hK hXN rfl rfl) rfl rfl hl.1 rfl (lv_room (Nat.le_of_ble_eq_true rfl)) dX11_isMet_15 ⟨Nat.le_of_ble_eq_true rfl, Nat.le_of_ble_eq_true rfl⟩) hS hFc hFc rfl (fun t H1 locs ht hB hk1 hS => ?_)
        obtain ⟨S2, t0, t1, t2, t3, tr, hP1, hD1⟩ := hB
        rw [ht] at hP1
        obtain ⟨hP, hD⟩ := va_join (wr := [(oa (a 1) cI 201 kd)]) (w1 := [(om k0 a I0 J0), (oa (a 11) cI 201 mn), (oa (a 12) cI 8040 cx), (oa (a 13) cI 8040 cy), (oa (a 32) cI 8 S2)]) hP hD [0, 2, 3, 4, 5] [1] rfl rfl (by decide) (by decide) hk1 hFc hP1 hD1
        clear hk1 hPc hDc hFc hP1 hD1 ht
        generalize H1 = H at hP hS ⊢
        have hP := hP.sub (ws' := [(om k0 a I0 J0), (oa (a 1) cI 201 kd), (oa (a 11) cI 201 mn), (oa (a 12) cI 8040 cx), (oa (a 13) cI 8040 cy), (oa (a 32) cI 8 S2)]) [1, 0, 2, 3, 4, 5] rfl
        have hD := hD.sub (ws' := [(om k0 a I0 J0), (oa (a 1) cI 201 kd), (oa (a 11) cI 201 mn), (oa (a 12) cI 8040 cx), (oa (a 13) cI 8040 cy), (oa (a 32) cI 8 S2)]) [1, 0, 2, 3, 4, 5] (by decide) rfl
        have hP : va_P (dC, dI) classes [(om k0 a I0 J0), (oa (a 1) cI 201 kd), (oa (a 11) cI 201 mn), (oa (a 12) cI 8040 cx), (oa (a 13) cI 8040 cy), (oa (a 32) cI 8 S2)] H := hP
        have hD : va_D A [(om k0 a I0 J0), (oa (a 1) cI 201 kd), (oa (a 11) cI 201 mn), (oa (a 12) cI 8040 cx), (oa (a 13) cI 8040 cy), (oa (a 32) cI 8 S2)] := hD
        refine lv_iconst (v := 0) hx hb dX11_isMet_18 (by decide) ?_
        refine lv_istore (lv' := [(4, .int 0), (3, .int (nI i)), (0, .ref k0), (1, .int (nI f)), (2, .int (nI g))]) hx hb dX11_isMet_19 hl (by decide) rfl (fun ls hl => ?_)
        have hl_21 : ∀ (n9 : Nat) (j : Nat) (S2 : Nat → Int32) (H : Heap) (locs : List Loc) (ls : Array Slot), eO (kd g).toInt m2 - j < n9 → (j ≤ eO (kd g).toInt m2) → (S2 0 = cx (40 * f + i)) → (S2 1 = cy (40 * f + i)) → (S2 2 = cx (40 * f + nxt n i)) → (S2 3 = cy (40 * f + nxt n i)) → (∀ k, k < j → ¬ eMt n (cF40 cx f) (cF40 cy f) i m2 (cF40 cx g) (cF40 cy g) k) → va_P (dC, dI) classes [(om k0 a I0 J0), (oa (a 1) cI 201 kd), (oa (a 11) cI 201 mn), (oa (a 12) cI 8040 cx), (oa (a 13) cI 8040 cy), (oa (a 32) cI 8 S2)] H → va_D A [(om k0 a I0 J0), (oa (a 1) cI 201 kd), (oa (a 11) cI 201 mn), (oa (a 12) cI 8040 cx), (oa (a 13) cI 8040 cy), (oa (a 32) cI 8 S2)] → va_S A s.heap H locs → lv_has ls 5 [(4, .int (nI j)), (3, .int (nI i)), (0, .ref k0), (1, .int (nI f)), (2, .int (nI g))] → W p l e ((headSpec (.code yX11_isMet cX11_isMet 5 (some .boolean) :: ws0) ({ frames := 3, cells := 0, slots := 0, locals := 81 } : Room)).room) s m ([.ref k0, .int (nI f), .int (nI g)] : List Value).toArray below meth c H locs 0 0 Q9 (F0 m 21 ls []) := by
          intro n9
          induction n9 with
          | zero => intro j S2 H locs ls hm; exact absurd hm (Nat.not_lt_zero _)
          | succ n9 ih_21 =>
            intro j S2 H locs ls hm hj g0 g1 g2 g3 hno2 hP hD hS hl
            refine lv_iload hx hb dX11_isMet_21 (lv_at hl 0 rfl) ?_
            refine lv_aload_n hx hb dX11_isMet_23 rfl (lv_at hl 2 rfl) ?_
            refine lv_iload_n hx hb dX11_isMet_24 rfl (lv_at hl 4 rfl) ?_
            have hPc := hP.sub (ws' := [(om k0 a I0 J0), (oa (a 1) cI 201 kd), (oa (a 11) cI 201 mn)]) [0, 1, 2] rfl
            have hDc := hD.sub (ws' := [(om k0 a I0 J0), (oa (a 1) cI 201 kd), (oa (a 11) cI 201 mn)]) [0, 1, 2] (by decide) rfl
            have hFc := va_free (wc := [(om k0 a I0 J0), (oa (a 1) cI 201 kd), (oa (a 11) cI 201 mn)]) hD hS hA [0, 1, 2] rfl
            refine zcall (st1 := [.int (nI (eO (kd g).toInt m2)), .int (nI j)]) (va_runV (As := [.int (nI g)]) (rest := [.int (nI j)]) ⟨hx, hb, hml, hown, hts⟩ (k_M_edgesOf l dC dI cI cZ cF H.size k0 a I0 J0 g m2 kd mn (by omega) (by assumption) (by omega)) (cwV 1 hts (zz_gV mw_1369 mw_1371 mw_41 mw_110 mc_yX11_edgesOf) rfl rfl rfl (by decide +kernel) ⟨Nat.le_of_ble_eq_true rfl, Nat.le_of_ble_eq_true rfl⟩) (zPV2 (q0 := 0) (ci := 9) hPc hDc hK hXN rfl rfl) rfl rfl hl.1 rfl (lv_room (Nat.le_of_ble_eq_true rfl)) dX11_isMet_25 ⟨Nat.le_of_ble_eq_true rfl, Nat.le_of_ble_eq_true rfl⟩) hS hFc hFc rfl (fun t H1 locs ht hB hk1 hS => ?_)
            obtain ⟨hP1, hD1⟩ := hB
            rw [ht] at hP1
            obtain ⟨hP, hD⟩ := va_join (wr := [(oa (a 12) cI 8040 cx), (oa (a 13) cI 8040 cy), (oa (a 32) cI 8 S2)]) (w1 := [(om k0 a I0 J0), (oa (a 1) cI 201 kd), (oa (a 11) cI 201 mn)]) hP hD [0, 1, 2] [3, 4, 5] rfl rfl (by decide) (by decide) hk1 hFc hP1 hD1
            clear hk1 hPc hDc hFc hP1 hD1 ht
            generalize H1 = H at hP hS ⊢
            have hP := hP.sub (ws' := [(om k0 a I0 J0), (oa (a 1) cI 201 kd), (oa (a 11) cI 201 mn), (oa (a 12) cI 8040 cx), (oa (a 13) cI 8040 cy), (oa (a 32) cI 8 S2)]) [3, 4, 5, 0, 1, 2] rfl
            have hD := hD.sub (ws' := [(om k0 a I0 J0), (oa (a 1) cI 201 kd), (oa (a 11) cI 201 mn), (oa (a 12) cI 8040 cx), (oa (a 13) cI 8040 cy), (oa (a 32) cI 8 S2)]) [3, 4, 5, 0, 1, 2] (by decide) rfl
            have hP : va_P (dC, dI) classes [(om k0 a I0 J0), (oa (a 1) cI 201 kd), (oa (a 11) cI 201 mn), (oa (a 12) cI 8040 cx), (oa (a 13) cI 8040 cy), (oa (a 32) cI 8 S2)] H := hP
            have hD : va_D A [(om k0 a I0 J0), (oa (a 1) cI 201 kd), (oa (a 11) cI 201 mn), (oa (a 12) cI 8040 cx), (oa (a 13) cI 8040 cy), (oa (a 32) cI 8 S2)] := hD
            refine lv_icmp_ge (tgt := 57) hx hb dX11_isMet_28 (by decide) (fun c_2 => ?_) (fun c_2 => ?_)
            · have c_2 : ((eO (kd g).toInt m2 : Nat) : Int) ≤ ((j : Nat) : Int) := zc_le (nI_toInt (by omega)) (nI_toInt (by omega)) c_2
              refine lv_iinc (v := nI (i + 1)) (lv' := [(3, .int (nI (i + 1))), (4, .int (nI j)), (0, .ref k0), (1, .int (nI f)), (2, .int (nI g))]) hx hb dX11_isMet_57 hl (k := 1) rfl (nI_add i 1) (by decide) rfl (fun ls hl => ?_)
              refine lv_goto (tgt := 2) hx hb dX11_isMet_60 (by decide) ?_
              exact ih_2 (i + 1) S2 H locs ls (by omega) (by omega) (by intro k hk; rcases Nat.lt_or_ge k i with h | h; exact hno k h; intro j2 hj2; rw [show k = i by omega]; exact hno2 j2 (by omega)) hP hD hS (lv_sub hl [0, 2, 3, 4] rfl)
            · have c_2 : ((j : Nat) : Int) < ((eO (kd g).toInt m2 : Nat) : Int) := zc_nle (nI_toInt (by omega)) (nI_toInt (by omega)) c_2
              have hjm : j < m2 := (by omega)
              have hnj := nxt_lt (n := m2) (i := j) (by omega)
              refine lv_aload_n hx hb dX11_isMet_31 rfl (lv_at hl 2 rfl) ?_
              refine lv_iload_n hx hb dX11_isMet_32 rfl (lv_at hl 4 rfl) ?_
              refine lv_iload hx hb dX11_isMet_33 (lv_at hl 0 rfl) ?_
              refine lv_iconst (v := 4) hx hb dX11_isMet_35 (by decide) ?_
              have hPc := hP.sub (ws' := [(om k0 a I0 J0), (oa (a 11) cI 201 mn), (oa (a 12) cI 8040 cx), (oa (a 13) cI 8040 cy), (oa (a 32) cI 8 S2)]) [0, 2, 3, 4, 5] rfl
              have hDc := hD.sub (ws' := [(om k0 a I0 J0), (oa (a 11) cI 201 mn), (oa (a 12) cI 8040 cx), (oa (a 13) cI 8040 cy), (oa (a 32) cI 8 S2)]) [0, 2, 3, 4, 5] (by decide) rfl
              have hFc := va_free (wc := [(om k0 a I0 J0), (oa (a 11) cI 201 mn), (oa (a 12) cI 8040 cx), (oa (a 13) cI 8040 cy), (oa (a 32) cI 8 S2)]) hD hS hA [0, 2, 3, 4, 5] rfl
              refine zcall (st1 := []) (va_runV (As := [.int (nI g), .int (nI j), .int 4]) (rest := []) ⟨hx, hb, hml, hown, hts⟩ (k_M_edge l dC dI cI cZ cF H.size k0 a I0 J0 g m2 j 4 mn cx cy S2 (by omega) (by assumption) (by omega) (by omega) (by omega)) (cwV 3 hts (zz_gV mw_1373 mw_1375 mw_42 mw_110 mc_yX11_edge) rfl rfl rfl (by decide +kernel) ⟨Nat.le_of_ble_eq_true rfl, Nat.le_of_ble_eq_true rfl⟩) (zPV2 (q0 := 0) (ci := 9) hPc hDc hK hXN rfl rfl) rfl rfl hl.1 rfl (lv_room (Nat.le_of_ble_eq_true rfl)) dX11_isMet_36 ⟨Nat.le_of_ble_eq_true rfl, Nat.le_of_ble_eq_true rfl⟩) hS hFc hFc rfl (fun t H1 locs ht hB hk1 hS => ?_)
              obtain ⟨S3, u0, u1, u2, u3, ur, hP1, hD1⟩ := hB
              rw [ht] at hP1
              obtain ⟨hP, hD⟩ := va_join (wr := [(oa (a 1) cI 201 kd)]) (w1 := [(om k0 a I0 J0), (oa (a 11) cI 201 mn), (oa (a 12) cI 8040 cx), (oa (a 13) cI 8040 cy), (oa (a 32) cI 8 S3)]) hP hD [0, 2, 3, 4, 5] [1] rfl rfl (by decide) (by decide) hk1 hFc hP1 hD1
              clear hk1 hPc hDc hFc hP1 hD1 ht
              generalize H1 = H at hP hS ⊢
              have hP := hP.sub (ws' := [(om k0 a I0 J0), (oa (a 1) cI 201 kd), (oa (a 11) cI 201 mn), (oa (a 12) cI 8040 cx), (oa (a 13) cI 8040 cy), (oa (a 32) cI 8 S3)]) [1, 0, 2, 3, 4, 5] rfl
              have hD := hD.sub (ws' := [(om k0 a I0 J0), (oa (a 1) cI 201 kd), (oa (a 11) cI 201 mn), (oa (a 12) cI 8040 cx), (oa (a 13) cI 8040 cy), (oa (a 32) cI 8 S3)]) [1, 0, 2, 3, 4, 5] (by decide) rfl
              have hP : va_P (dC, dI) classes [(om k0 a I0 J0), (oa (a 1) cI 201 kd), (oa (a 11) cI 201 mn), (oa (a 12) cI 8040 cx), (oa (a 13) cI 8040 cy), (oa (a 32) cI 8 S3)] H := hP
              have hD : va_D A [(om k0 a I0 J0), (oa (a 1) cI 201 kd), (oa (a 11) cI 201 mn), (oa (a 12) cI 8040 cx), (oa (a 13) cI 8040 cy), (oa (a 32) cI 8 S3)] := hD
              have v0 : S3 0 = cF40 cx f i := (ur 0 (by omega)).trans g0
              have v1 : S3 1 = cF40 cy f i := (ur 1 (by omega)).trans g1
              have v2 : S3 2 = cF40 cx f (nxt n i) := (ur 2 (by omega)).trans g2
              have v3 : S3 3 = cF40 cy f (nxt n i) := (ur 3 (by omega)).trans g3
              have v4 : S3 4 = cF40 cx g j := u0
              have v5 : S3 5 = cF40 cy g j := u1
              have v6 : S3 6 = cF40 cx g (nxt m2 j) := u2
              have v7 : S3 7 = cF40 cy g (nxt m2 j) := u3
              have hs3 := sPl (S := S3) (by rw [v0]; exact (hp_f i hin9).1) (by rw [v1]; exact (hp_f i hin9).2) (by rw [v2]; exact (hp_f _ hnx).1) (by rw [v3]; exact (hp_f _ hnx).2) (by rw [v4]; exact (hp_g j hjm).1) (by rw [v5]; exact (hp_g j hjm).2) (by rw [v6]; exact (hp_g _ hnj).1) (by rw [v7]; exact (hp_g _ hnj).2)
              refine lv_aload_n hx hb dX11_isMet_39 rfl (lv_at hl 2 rfl) ?_
              refine va_get (D := (dC, dI)) (ci := 9) (v := .ref (a 32)) (C := RX11) (T := TX11) (N := 55) hx hb hts inX11 hown hK hP 0 rfl rfl 32 (by decide) (hts _ mw_1191) (fun _ h9 => h9) rfl dX11_isMet_40 ?_
              have hPc := hP.sub (ws' := [(oa (a 32) cI 8 S3)]) [5] rfl
              have hDc := hD.sub (ws' := [(oa (a 32) cI 8 S3)]) [5] (by decide) rfl
              have hFc := va_free (wc := [(oa (a 32) cI 8 S3)]) hD hS hA [5] rfl
              refine zcall (st1 := [.int (pI (mtC (S3 0).toInt (S3 1).toInt (S3 2).toInt (S3 3).toInt (S3 4).toInt (S3 5).toInt (S3 6).toInt (S3 7).toInt))]) (va_runS (As := [.ref (a 32)]) (rest := []) ⟨hx, hb, hml, hown, hts⟩ (k_M_touch l dC dI cI cZ cF H.size (a 32) S3 (hs3)) (va_cwS 1 hts (zz_gS mw_1388 mw_1389 mw_110 mc_yX11_touch) rfl rfl rfl (by decide +kernel) ⟨Nat.le_of_ble_eq_true rfl, Nat.le_of_ble_eq_true rfl⟩) (zPS2 hPc hDc hK hXN) rfl rfl hl.1 rfl (lv_room (Nat.le_of_ble_eq_true rfl)) dX11_isMet_43 ⟨Nat.le_of_ble_eq_true rfl, Nat.le_of_ble_eq_true rfl⟩) hS hFc hFc rfl (fun t H1 locs ht hB hk1 hS => ?_)
              obtain ⟨hP1, hD1⟩ := hB
              rw [ht] at hP1
              obtain ⟨hP, hD⟩ := va_join (wr := [(om k0 a I0 J0), (oa (a 1) cI 201 kd), (oa (a 11) cI 201 mn), (oa (a 12) cI 8040 cx), (oa (a 13) cI 8040 cy)]) (w1 := [(oa (a 32) cI 8 S3)]) hP hD [5] [0, 1, 2, 3, 4] rfl rfl (by decide) (by decide) hk1 hFc hP1 hD1
              clear hk1 hPc hDc hFc hP1 hD1 ht
              generalize H1 = H at hP hS ⊢
              have hP : va_P (dC, dI) classes [(om k0 a I0 J0), (oa (a 1) cI 201 kd), (oa (a 11) cI 201 mn), (oa (a 12) cI 8040 cx), (oa (a 13) cI 8040 cy), (oa (a 32) cI 8 S3)] H := hP
              have hD : va_D A [(om k0 a I0 J0), (oa (a 1) cI 201 kd), (oa (a 11) cI 201 mn), (oa (a 12) cI 8040 cx), (oa (a 13) cI 8040 cy), (oa (a 32) cI 8 S3)] := hD
              refine zz_i (v := pI (eMt n (cF40 cx f) (cF40 cy f) i m2 (cF40 cx g) (cF40 cy g) j)) (zp_iff (met_of v0 v1 v2 v3 v4 v5 v6 v7)) ?_
              refine lv_if_eq (tgt := 51) hx hb dX11_isMet_46 (by decide) (fun c_3 => ?_) (fun c_3 => ?_)
              · have c_3 : ¬ (eMt n (cF40 cx f) (cF40 cy f) i m2 (cF40 cx g) (cF40 cy g) j) := zp_0 c_3
                refine lv_iinc (v := nI (j + 1)) (lv' := [(4, .int (nI (j + 1))), (3, .int (nI i)), (0, .ref k0), (1, .int (nI f)), (2, .int (nI g))]) hx hb dX11_isMet_51 hl (k := 0) rfl (nI_add j 1) (by decide) rfl (fun ls hl => ?_)
                refine lv_goto (tgt := 21) hx hb dX11_isMet_54 (by decide) ?_
                exact ih_21 (j + 1) S3 H locs ls (by omega) (by omega) (by rw [ur _ (by omega)]; exact g0) (by rw [ur _ (by omega)]; exact g1) (by rw [ur _ (by omega)]; exact g2) (by rw [ur _ (by omega)]; exact g3) (by intro k hk; rcases Nat.lt_or_ge k j with h | h; exact hno2 k h; rw [show k = j by omega]; assumption) hP hD hS (lv_sub hl [0, 1, 2, 3, 4] rfl)
              · have c_3 : eMt n (cF40 cx f) (cF40 cy f) i m2 (cF40 cx g) (cF40 cy g) j := zp_1 c_3
                refine lv_iconst (v := 1) hx hb dX11_isMet_49 (by decide) ?_
                have hP9 := hP.sub (ws' := [(om k0 a I0 J0), (oa (a 1) cI 201 kd), (oa (a 11) cI 201 mn), (oa (a 12) cI 8040 cx), (oa (a 13) cI 8040 cy), (oa (a 32) cI 8 S3)]) [0, 1, 2, 3, 4, 5] rfl
                have hD9 := hD.sub (ws' := [(om k0 a I0 J0), (oa (a 1) cI 201 kd), (oa (a 11) cI 201 mn), (oa (a 12) cI 8040 cx), (oa (a 13) cI 8040 cy), (oa (a 32) cI 8 S3)]) [0, 1, 2, 3, 4, 5] (by decide) rfl
                rw [hQ9]
                exact W.zret (ty := .boolean) (v := 1) hx hb hr (rfl) (fun t ht hW => ⟨⟨congrArg (fun z => Outcome.returned (some (Value.int z))) (show (1 : Int32) = pI (∃ i, i < eO (kd f).toInt n ∧ ∃ j, j < eO (kd g).toInt m2 ∧ eMt n (cF40 cx f) (cF40 cy f) i m2 (cF40 cx g) (cF40 cy g) j) from (zp_t (⟨i, by omega, j, by omega, by assumption⟩)).symm), S3, by rw [ht]; exact hP9, hD9⟩, hS.F ht⟩) hS.2.2 dX11_isMet_50
        exact hl_21 _ 0 S2 H locs ls (Nat.lt_succ_self _) (by omega) (by assumption) (by assumption) (by assumption) (by assumption) (by intro k hk; omega) hP hD hS (lv_sub hl [0, 1, 2, 3, 4] rfl)
  exact hl_2 _ 0 S0 s.heap [] ls (Nat.lt_succ_self _) (by omega) (by intro k hk; omega) hP hD hS (lv_sub hl [0, 1, 2, 3] rfl)
set_option maxHeartbeats 4000000 in
set_option maxRecDepth 100000 in
theorem k_M_isOnSet (l : Launch) (dC : Nat → ClassId) (dI : Nat → Nat → Nat) (cI cZ cF : ClassId) (sz : Nat) (k0 : Nat) (a : Nat → Nat) (I0 : Nat → Int32) (J0 : Nat → Int64) (f : Nat) (n : Nat) (kd : Nat → Int32) (mn : Nat → Int32) (cx : Nat → Int32) (cy : Nat → Int32) (S0 : Nat → Int32) (px : Int32) (py : Int32) (hf_f : f ≤ 200) (hm_f : mn f = nI n) (hn_f : 1 ≤ n ∧ n ≤ 40) (hp_f : pls n (cF40 cx f) (cF40 cy f)) (hpx : pl px) (hpy : pl py) : Met l yX11_isOnSet (.code yX11_isOnSet cX11_isOnSet 5 (some .boolean) :: ws0) ({ frames := 2, cells := 0, slots := 0, locals := 56 } : Room) (va_Pc [.ref k0, .int (nI f), .int px, .int py] (zPre (dC, dI) classes (zTy cI cZ cF) [(om k0 a I0 J0), (oa (a 1) cI 201 kd), (oa (a 11) cI 201 mn), (oa (a 12) cI 8040 cx), (oa (a 13) cI 8040 cy), (oa (a 32) cI 8 S0)] sz zXN)) (zQ (some (.int (pI (∃ i, i < eO (kd f).toInt n ∧ eOn n (cF40 cx f) (cF40 cy f) i px.toInt py.toInt)))) (fun t => ∃ (S1 : Nat → Int32), va_P (dC, dI) classes [(om k0 a I0 J0), (oa (a 1) cI 201 kd), (oa (a 11) cI 201 mn), (oa (a 12) cI 8040 cx), (oa (a 13) cI 8040 cy), (oa (a 32) cI 8 S1)] t.heap ∧ va_D (va_A [(om k0 a I0 J0), (oa (a 1) cI 201 kd), (oa (a 11) cI 201 mn), (oa (a 12) cI 8040 cx), (oa (a 13) cI 8040 cy), (oa (a 32) cI 8 S0)] sz) [(om k0 a I0 J0), (oa (a 1) cI 201 kd), (oa (a 11) cI 201 mn), (oa (a 12) cI 8040 cx), (oa (a 13) cI 8040 cy), (oa (a 32) cI 8 S1)]) (va_A [(om k0 a I0 J0), (oa (a 1) cI 201 kd), (oa (a 11) cI 201 mn), (oa (a 12) cI 8040 cx), (oa (a 13) cI 8040 cy), (oa (a 32) cI 8 S0)] sz)) 0 0 (va_A [(om k0 a I0 J0), (oa (a 1) cI 201 kd), (oa (a 11) cI 201 mn), (oa (a 12) cI 8040 cx), (oa (a 13) cI 8040 cy), (oa (a 32) cI 8 S0)] sz) := by
  refine Met.ofW (cc := cX11_isOnSet) (maxL := 5) (ret := (some .boolean)) (by decide) rfl ?_
  intro p e s m args below meth c s₁ B hml hv
  obtain ⟨rfl, hsz, hP, hK, hD0, hXN⟩ := hv
  have hx := B.exec
  have hb := B.bytes
  have hr := B.returns
  have hts0 := atoms_spec (ws := .code yX11_isOnSet cX11_isOnSet 5 (some .boolean) :: ws0) B.pre
  have hts : ∀ w9 ∈ ws0, w9.before ([.ref k0, .int (nI f), .int px, .int py] : List Value).toArray s = true := fun w9 h => hts0 w9 (List.mem_cons_of_mem _ h)
  have hown : s.vm.findClass "ScaleShopModel" = some m.cls := findClass_of_methodNamed B.named
  have hlocks := B.notSynchronized
  subst hsz
  have hD := hD0.self (sz := s.heap.size)
  clear hD0
  generalize hAe : va_A [(om k0 a I0 J0), (oa (a 1) cI 201 kd), (oa (a 11) cI 201 mn), (oa (a 12) cI 8040 cx), (oa (a 13) cI 8040 cy), (oa (a 32) cI 8 S0)] s.heap.size = A at hD ⊢
  have hA : ∀ q : Nat, s.heap.size ≤ q → A q := fun q h => by rw [← hAe]; exact Or.inr h
  clear hAe
  have hS : va_S A s.heap s.heap [] := va_S.rf
  have hP : va_P (dC, dI) classes [(om k0 a I0 J0), (oa (a 1) cI 201 kd), (oa (a 11) cI 201 mn), (oa (a 12) cI 8040 cx), (oa (a 13) cI 8040 cy), (oa (a 32) cI 8 S0)] s.heap := hP
  obtain ⟨Q9, hQ9⟩ : ∃ Q9 : State → Prop, Q9 = MQ below (zQ (some (.int (pI (∃ i, i < eO (kd f).toInt n ∧ eOn n (cF40 cx f) (cF40 cy f) i px.toInt py.toInt)))) (fun t => ∃ (S1 : Nat → Int32), va_P (dC, dI) classes [(om k0 a I0 J0), (oa (a 1) cI 201 kd), (oa (a 11) cI 201 mn), (oa (a 12) cI 8040 cx), (oa (a 13) cI 8040 cy), (oa (a 32) cI 8 S1)] t.heap ∧ va_D A [(om k0 a I0 J0), (oa (a 1) cI 201 kd), (oa (a 11) cI 201 mn), (oa (a 12) cI 8040 cx), (oa (a 13) cI 8040 cy), (oa (a 32) cI 8 S1)]) A) ([.ref k0, .int (nI f), .int px, .int py] : List Value).toArray s 0 0 A := ⟨_, rfl⟩
  rw [← hQ9]
  have hl := lv_entry ([.ref k0, .int (nI f), .int px, .int py]) (n := 5) (Nat.le_of_ble_eq_true rfl)
  rw [lg_entry_eq]
  generalize (lg_sl ([.ref k0, .int (nI f), .int px, .int py]) ++ List.replicate (5 - (lg_sl ([.ref k0, .int (nI f), .int px, .int py])).length) Slot.unset).toArray = ls at hl ⊢
  have hl : lv_has ls 5 [(0, .ref k0), (1, .int (nI f)), (2, .int px), (3, .int py)] := hl
  have hef := eO_le (k := (kd f).toInt) hn_f.1
  refine lv_iconst (v := 0) hx hb dX11_isOnSet_0 (by decide) ?_
  refine lv_istore (lv' := [(4, .int 0), (0, .ref k0), (1, .int (nI f)), (2, .int px), (3, .int py)]) hx hb dX11_isOnSet_1 hl (by decide) rfl (fun ls hl => ?_)
  have hl_3 : ∀ (n9 : Nat) (i : Nat) (S1 : Nat → Int32) (H : Heap) (locs : List Loc) (ls : Array Slot), eO (kd f).toInt n - i < n9 → (i ≤ eO (kd f).toInt n) → (∀ k, k < i → ¬ eOn n (cF40 cx f) (cF40 cy f) k px.toInt py.toInt) → va_P (dC, dI) classes [(om k0 a I0 J0), (oa (a 1) cI 201 kd), (oa (a 11) cI 201 mn), (oa (a 12) cI 8040 cx), (oa (a 13) cI 8040 cy), (oa (a 32) cI 8 S1)] H → va_D A [(om k0 a I0 J0), (oa (a 1) cI 201 kd), (oa (a 11) cI 201 mn), (oa (a 12) cI 8040 cx), (oa (a 13) cI 8040 cy), (oa (a 32) cI 8 S1)] → va_S A s.heap H locs → lv_has ls 5 [(4, .int (nI i)), (0, .ref k0), (1, .int (nI f)), (2, .int px), (3, .int py)] → W p l e ((headSpec (.code yX11_isOnSet cX11_isOnSet 5 (some .boolean) :: ws0) ({ frames := 2, cells := 0, slots := 0, locals := 56 } : Room)).room) s m ([.ref k0, .int (nI f), .int px, .int py] : List Value).toArray below meth c H locs 0 0 Q9 (F0 m 3 ls []) := by
    intro n9
    induction n9 with
    | zero => intro i S1 H locs ls hm; exact absurd hm (Nat.not_lt_zero _)
    | succ n9 ih_3 =>
      intro i S1 H locs ls hm hi hno hP hD hS hl
      refine lv_iload hx hb dX11_isOnSet_3 (lv_at hl 0 rfl) ?_
      refine lv_aload_n hx hb dX11_isOnSet_5 rfl (lv_at hl 1 rfl) ?_
      refine lv_iload_n hx hb dX11_isOnSet_6 rfl (lv_at hl 2 rfl) ?_
      have hPc := hP.sub (ws' := [(om k0 a I0 J0), (oa (a 1) cI 201 kd), (oa (a 11) cI 201 mn)]) [0, 1, 2] rfl
      have hDc := hD.sub (ws' := [(om k0 a I0 J0), (oa (a 1) cI 201 kd), (oa (a 11) cI 201 mn)]) [0, 1, 2] (by decide) rfl
      have hFc := va_free (wc := [(om k0 a I0 J0), (oa (a 1) cI 201 kd), (oa (a 11) cI 201 mn)]) hD hS hA [0, 1, 2] rfl
      refine zcall (st1 := [.int (nI (eO (kd f).toInt n)), .int (nI i)]) (va_runV (As := [.int (nI f)]) (rest := [.int (nI i)]) ⟨hx, hb, hml, hown, hts⟩ (k_M_edgesOf l dC dI cI cZ cF H.size k0 a I0 J0 f n kd mn (by omega) (by assumption) (by omega)) (cwV 1 hts (zz_gV mw_1369 mw_1371 mw_41 mw_110 mc_yX11_edgesOf) rfl rfl rfl (by decide +kernel) ⟨Nat.le_of_ble_eq_true rfl, Nat.le_of_ble_eq_true rfl⟩) (zPV2 (q0 := 0) (ci := 9) hPc hDc hK hXN rfl rfl) rfl rfl hl.1 rfl (lv_room (Nat.le_of_ble_eq_true rfl)) dX11_isOnSet_7 ⟨Nat.le_of_ble_eq_true rfl, Nat.le_of_ble_eq_true rfl⟩) hS hFc hFc rfl (fun t H1 locs ht hB hk1 hS => ?_)
      obtain ⟨hP1, hD1⟩ := hB
      rw [ht] at hP1
      obtain ⟨hP, hD⟩ := va_join (wr := [(oa (a 12) cI 8040 cx), (oa (a 13) cI 8040 cy), (oa (a 32) cI 8 S1)]) (w1 := [(om k0 a I0 J0), (oa (a 1) cI 201 kd), (oa (a 11) cI 201 mn)]) hP hD [0, 1, 2] [3, 4, 5] rfl rfl (by decide) (by decide) hk1 hFc hP1 hD1
      clear hk1 hPc hDc hFc hP1 hD1 ht
      generalize H1 = H at hP hS ⊢
      have hP := hP.sub (ws' := [(om k0 a I0 J0), (oa (a 1) cI 201 kd), (oa (a 11) cI 201 mn), (oa (a 12) cI 8040 cx), (oa (a 13) cI 8040 cy), (oa (a 32) cI 8 S1)]) [3, 4, 5, 0, 1, 2] rfl
      have hD := hD.sub (ws' := [(om k0 a I0 J0), (oa (a 1) cI 201 kd), (oa (a 11) cI 201 mn), (oa (a 12) cI 8040 cx), (oa (a 13) cI 8040 cy), (oa (a 32) cI 8 S1)]) [3, 4, 5, 0, 1, 2] (by decide) rfl
      have hP : va_P (dC, dI) classes [(om k0 a I0 J0), (oa (a 1) cI 201 kd), (oa (a 11) cI 201 mn), (oa (a 12) cI 8040 cx), (oa (a 13) cI 8040 cy), (oa (a 32) cI 8 S1)] H := hP
      have hD : va_D A [(om k0 a I0 J0), (oa (a 1) cI 201 kd), (oa (a 11) cI 201 mn), (oa (a 12) cI 8040 cx), (oa (a 13) cI 8040 cy), (oa (a 32) cI 8 S1)] := hD
      refine lv_icmp_ge (tgt := 61) hx hb dX11_isOnSet_10 (by decide) (fun c_1 => ?_) (fun c_1 => ?_)
      · have c_1 : ((eO (kd f).toInt n : Nat) : Int) ≤ ((i : Nat) : Int) := zc_le (nI_toInt (by omega)) (nI_toInt (by omega)) c_1
        refine lv_iconst (v := 0) hx hb dX11_isOnSet_61 (by decide) ?_
        have hP9 := hP.sub (ws' := [(om k0 a I0 J0), (oa (a 1) cI 201 kd), (oa (a 11) cI 201 mn), (oa (a 12) cI 8040 cx), (oa (a 13) cI 8040 cy), (oa (a 32) cI 8 S1)]) [0, 1, 2, 3, 4, 5] rfl
        have hD9 := hD.sub (ws' := [(om k0 a I0 J0), (oa (a 1) cI 201 kd), (oa (a 11) cI 201 mn), (oa (a 12) cI 8040 cx), (oa (a 13) cI 8040 cy), (oa (a 32) cI 8 S1)]) [0, 1, 2, 3, 4, 5] (by decide) rfl
        rw [hQ9]
        exact W.zret (ty := .boolean) (v := 0) hx hb hr (rfl) (fun t ht hW => ⟨⟨congrArg (fun z => Outcome.returned (some (Value.int z))) (show (0 : Int32) = pI (∃ i, i < eO (kd f).toInt n ∧ eOn n (cF40 cx f) (cF40 cy f) i px.toInt py.toInt) from (zp_f (fun ⟨k, hk, h⟩ => hno k (by omega) h)).symm), S1, by rw [ht]; exact hP9, hD9⟩, hS.F ht⟩) hS.2.2 dX11_isOnSet_62
      · have c_1 : ((i : Nat) : Int) < ((eO (kd f).toInt n : Nat) : Int) := zc_nle (nI_toInt (by omega)) (nI_toInt (by omega)) c_1
        have hin9 : i < n := (by omega)
        have hnx := nxt_lt (n := n) (i := i) (by omega)
        refine lv_aload_n hx hb dX11_isOnSet_13 rfl (lv_at hl 1 rfl) ?_
        refine lv_iload_n hx hb dX11_isOnSet_14 rfl (lv_at hl 2 rfl) ?_
        refine lv_iload hx hb dX11_isOnSet_15 (lv_at hl 0 rfl) ?_
        refine lv_iconst (v := 0) hx hb dX11_isOnSet_17 (by decide) ?_
        have hPc := hP.sub (ws' := [(om k0 a I0 J0), (oa (a 11) cI 201 mn), (oa (a 12) cI 8040 cx), (oa (a 13) cI 8040 cy), (oa (a 32) cI 8 S1)]) [0, 2, 3, 4, 5] rfl
        have hDc := hD.sub (ws' := [(om k0 a I0 J0), (oa (a 11) cI 201 mn), (oa (a 12) cI 8040 cx), (oa (a 13) cI 8040 cy), (oa (a 32) cI 8 S1)]) [0, 2, 3, 4, 5] (by decide) rfl
        have hFc := va_free (wc := [(om k0 a I0 J0), (oa (a 11) cI 201 mn), (oa (a 12) cI 8040 cx), (oa (a 13) cI 8040 cy), (oa (a 32) cI 8 S1)]) hD hS hA [0, 2, 3, 4, 5] rfl
        refine zcall (st1 := []) (va_runV (As := [.int (nI f), .int (nI i), .int 0]) (rest := []) ⟨hx, hb, hml, hown, hts⟩ (k_M_edge l dC dI cI cZ cF H.size k0 a I0 J0 f n i 0 mn cx cy S1 (by omega) (by assumption) (by omega) (by omega) (by omega)) (cwV 3 hts (zz_gV mw_1373 mw_1375 mw_42 mw_110 mc_yX11_edge) rfl rfl rfl (by decide +kernel) ⟨Nat.le_of_ble_eq_true rfl, Nat.le_of_ble_eq_true rfl⟩) (zPV2 (q0 := 0) (ci := 9) hPc hDc hK hXN rfl rfl) rfl rfl hl.1 rfl (lv_room (Nat.le_of_ble_eq_true rfl)) dX11_isOnSet_18 ⟨Nat.le_of_ble_eq_true rfl, Nat.le_of_ble_eq_true rfl⟩) hS hFc hFc rfl (fun t H1 locs ht hB hk1 hS => ?_)
        obtain ⟨S2, t0, t1, t2, t3, tr, hP1, hD1⟩ := hB
        rw [ht] at hP1
        obtain ⟨hP, hD⟩ := va_join (wr := [(oa (a 1) cI 201 kd)]) (w1 := [(om k0 a I0 J0), (oa (a 11) cI 201 mn), (oa (a 12) cI 8040 cx), (oa (a 13) cI 8040 cy), (oa (a 32) cI 8 S2)]) hP hD [0, 2, 3, 4, 5] [1] rfl rfl (by decide) (by decide) hk1 hFc hP1 hD1
        clear hk1 hPc hDc hFc hP1 hD1 ht
        generalize H1 = H at hP hS ⊢
        have hP := hP.sub (ws' := [(om k0 a I0 J0), (oa (a 1) cI 201 kd), (oa (a 11) cI 201 mn), (oa (a 12) cI 8040 cx), (oa (a 13) cI 8040 cy), (oa (a 32) cI 8 S2)]) [1, 0, 2, 3, 4, 5] rfl
        have hD := hD.sub (ws' := [(om k0 a I0 J0), (oa (a 1) cI 201 kd), (oa (a 11) cI 201 mn), (oa (a 12) cI 8040 cx), (oa (a 13) cI 8040 cy), (oa (a 32) cI 8 S2)]) [1, 0, 2, 3, 4, 5] (by decide) rfl
        have hP : va_P (dC, dI) classes [(om k0 a I0 J0), (oa (a 1) cI 201 kd), (oa (a 11) cI 201 mn), (oa (a 12) cI 8040 cx), (oa (a 13) cI 8040 cy), (oa (a 32) cI 8 S2)] H := hP
        have hD : va_D A [(om k0 a I0 J0), (oa (a 1) cI 201 kd), (oa (a 11) cI 201 mn), (oa (a 12) cI 8040 cx), (oa (a 13) cI 8040 cy), (oa (a 32) cI 8 S2)] := hD
        have v0 : S2 0 = cF40 cx f i := t0
        have v1 : S2 1 = cF40 cy f i := t1
        have v2 : S2 2 = cF40 cx f (nxt n i) := t2
        have v3 : S2 3 = cF40 cy f (nxt n i) := t3
        refine lv_aload_n hx hb dX11_isOnSet_21 rfl (lv_at hl 1 rfl) ?_
        refine va_get (D := (dC, dI)) (ci := 9) (v := .ref (a 32)) (C := RX11) (T := TX11) (N := 55) hx hb hts inX11 hown hK hP 0 rfl rfl 32 (by decide) (hts _ mw_1191) (fun _ h9 => h9) rfl dX11_isOnSet_22 ?_
        refine lv_iconst (v := 0) hx hb dX11_isOnSet_25 (by decide) ?_
        refine z_iald hx hb hK hP 5 0 rfl rfl (e := 0) rfl (by omega) (by omega) dX11_isOnSet_26 ?_
        refine lv_aload_n hx hb dX11_isOnSet_27 rfl (lv_at hl 1 rfl) ?_
        refine va_get (D := (dC, dI)) (ci := 9) (v := .ref (a 32)) (C := RX11) (T := TX11) (N := 55) hx hb hts inX11 hown hK hP 0 rfl rfl 32 (by decide) (hts _ mw_1191) (fun _ h9 => h9) rfl dX11_isOnSet_28 ?_
        refine lv_iconst (v := 1) hx hb dX11_isOnSet_31 (by decide) ?_
        refine z_iald hx hb hK hP 5 0 rfl rfl (e := 1) rfl (by omega) (by omega) dX11_isOnSet_32 ?_
        refine lv_aload_n hx hb dX11_isOnSet_33 rfl (lv_at hl 1 rfl) ?_
        refine va_get (D := (dC, dI)) (ci := 9) (v := .ref (a 32)) (C := RX11) (T := TX11) (N := 55) hx hb hts inX11 hown hK hP 0 rfl rfl 32 (by decide) (hts _ mw_1191) (fun _ h9 => h9) rfl dX11_isOnSet_34 ?_
        refine lv_iconst (v := 2) hx hb dX11_isOnSet_37 (by decide) ?_
        refine z_iald hx hb hK hP 5 0 rfl rfl (e := 2) rfl (by omega) (by omega) dX11_isOnSet_38 ?_
        refine lv_aload_n hx hb dX11_isOnSet_39 rfl (lv_at hl 1 rfl) ?_
        refine va_get (D := (dC, dI)) (ci := 9) (v := .ref (a 32)) (C := RX11) (T := TX11) (N := 55) hx hb hts inX11 hown hK hP 0 rfl rfl 32 (by decide) (hts _ mw_1191) (fun _ h9 => h9) rfl dX11_isOnSet_40 ?_
        refine lv_iconst (v := 3) hx hb dX11_isOnSet_43 (by decide) ?_
        refine z_iald hx hb hK hP 5 0 rfl rfl (e := 3) rfl (by omega) (by omega) dX11_isOnSet_44 ?_
        refine lv_iload_n hx hb dX11_isOnSet_45 rfl (lv_at hl 3 rfl) ?_
        refine lv_iload_n hx hb dX11_isOnSet_46 rfl (lv_at hl 4 rfl) ?_
        have hPc := hP.sub (ws' := []) [] rfl
        have hDc := hD.sub (ws' := []) [] (by decide) rfl
        have hFc := va_free (wc := []) hD hS hA [] rfl
        refine zcall (st1 := [.int (pI (onS (S2 0).toInt (S2 1).toInt (S2 2).toInt (S2 3).toInt px.toInt py.toInt))]) (va_runS (As := [.int (S2 0), .int (S2 1), .int (S2 2), .int (S2 3), .int px, .int py]) (rest := []) ⟨hx, hb, hml, hown, hts⟩ (k_M_isOn l dC dI cI cZ cF H.size (S2 0) (S2 1) (S2 2) (S2 3) px py (by rw [v0]; exact (hp_f i hin9).1) (by rw [v1]; exact (hp_f i hin9).2) (by rw [v2]; exact (hp_f _ hnx).1) (by rw [v3]; exact (hp_f _ hnx).2) (hpx) (hpy)) (va_cwS 6 hts (zz_gS mw_1394 mw_1395 mw_110 mc_yX11_isOn) rfl rfl rfl (by decide +kernel) ⟨Nat.le_of_ble_eq_true rfl, Nat.le_of_ble_eq_true rfl⟩) (zPS2 hPc hDc hK hXN) rfl rfl hl.1 rfl (lv_room (Nat.le_of_ble_eq_true rfl)) dX11_isOnSet_47 ⟨Nat.le_of_ble_eq_true rfl, Nat.le_of_ble_eq_true rfl⟩) hS hFc hFc rfl (fun t H1 locs ht hB hk1 hS => ?_)
        obtain ⟨hP1, hD1⟩ := hB
        rw [ht] at hP1
        obtain ⟨hP, hD⟩ := va_join (wr := [(om k0 a I0 J0), (oa (a 1) cI 201 kd), (oa (a 11) cI 201 mn), (oa (a 12) cI 8040 cx), (oa (a 13) cI 8040 cy), (oa (a 32) cI 8 S2)]) (w1 := []) hP hD [] [0, 1, 2, 3, 4, 5] rfl rfl (by decide) (by decide) hk1 hFc hP1 hD1
        clear hk1 hPc hDc hFc hP1 hD1 ht
        generalize H1 = H at hP hS ⊢
        have hP : va_P (dC, dI) classes [(om k0 a I0 J0), (oa (a 1) cI 201 kd), (oa (a 11) cI 201 mn), (oa (a 12) cI 8040 cx), (oa (a 13) cI 8040 cy), (oa (a 32) cI 8 S2)] H := hP
        have hD : va_D A [(om k0 a I0 J0), (oa (a 1) cI 201 kd), (oa (a 11) cI 201 mn), (oa (a 12) cI 8040 cx), (oa (a 13) cI 8040 cy), (oa (a 32) cI 8 S2)] := hD
        refine zz_i (v := pI (eOn n (cF40 cx f) (cF40 cy f) i px.toInt py.toInt)) (zp_iff (on_of v0 v1 v2 v3)) ?_
        refine lv_if_eq (tgt := 55) hx hb dX11_isOnSet_50 (by decide) (fun c_2 => ?_) (fun c_2 => ?_)
        · have c_2 : ¬ (eOn n (cF40 cx f) (cF40 cy f) i px.toInt py.toInt) := zp_0 c_2
          refine lv_iinc (v := nI (i + 1)) (lv' := [(4, .int (nI (i + 1))), (0, .ref k0), (1, .int (nI f)), (2, .int px), (3, .int py)]) hx hb dX11_isOnSet_55 hl (k := 0) rfl (nI_add i 1) (by decide) rfl (fun ls hl => ?_)
          refine lv_goto (tgt := 3) hx hb dX11_isOnSet_58 (by decide) ?_
          exact ih_3 (i + 1) S2 H locs ls (by omega) (by omega) (by intro k hk; rcases Nat.lt_or_ge k i with h | h; exact hno k h; rw [show k = i by omega]; assumption) hP hD hS (lv_sub hl [0, 1, 2, 3, 4] rfl)
        · have c_2 : eOn n (cF40 cx f) (cF40 cy f) i px.toInt py.toInt := zp_1 c_2
          refine lv_iconst (v := 1) hx hb dX11_isOnSet_53 (by decide) ?_
          have hP9 := hP.sub (ws' := [(om k0 a I0 J0), (oa (a 1) cI 201 kd), (oa (a 11) cI 201 mn), (oa (a 12) cI 8040 cx), (oa (a 13) cI 8040 cy), (oa (a 32) cI 8 S2)]) [0, 1, 2, 3, 4, 5] rfl
          have hD9 := hD.sub (ws' := [(om k0 a I0 J0), (oa (a 1) cI 201 kd), (oa (a 11) cI 201 mn), (oa (a 12) cI 8040 cx), (oa (a 13) cI 8040 cy), (oa (a 32) cI 8 S2)]) [0, 1, 2, 3, 4, 5] (by decide) rfl
          rw [hQ9]
          exact W.zret (ty := .boolean) (v := 1) hx hb hr (rfl) (fun t ht hW => ⟨⟨congrArg (fun z => Outcome.returned (some (Value.int z))) (show (1 : Int32) = pI (∃ i, i < eO (kd f).toInt n ∧ eOn n (cF40 cx f) (cF40 cy f) i px.toInt py.toInt) from (zp_t (⟨i, by omega, by assumption⟩)).symm), S2, by rw [ht]; exact hP9, hD9⟩, hS.F ht⟩) hS.2.2 dX11_isOnSet_54
  exact hl_3 _ 0 S0 s.heap [] ls (Nat.lt_succ_self _) (by omega) (by intro k hk; omega) hP hD hS (lv_sub hl [0, 1, 2, 3, 4] rfl)
