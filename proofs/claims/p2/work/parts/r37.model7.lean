set_option maxHeartbeats 4000000 in
set_option maxRecDepth 100000 in
theorem k_M_isAhead (l : Launch) (dC : Nat → ClassId) (dI : Nat → Nat → Nat) (cI cZ cF : ClassId) (sz : Nat) (k0 : Nat) (a : Nat → Nat) (I0 : Nat → Int32) (J0 : Nat → Int64) (ex : Int32) (ey : Int32) (px : Int32) (py : Int32) (S0 : Nat → Int32) (hs : ∀ k, k < 8 → pl (S0 k)) (k1 : pl ex) (k2 : pl ey) (hpx : pl px) (hpy : pl py) : Met l yX11_isAhead (.code yX11_isAhead cX11_isAhead 5 (some .boolean) :: ws0) ({ frames := 0, cells := 0, slots := 0, locals := 0 } : Room) (va_Pc [.ref k0, .int ex, .int ey, .int px, .int py] (zPre (dC, dI) classes (zTy cI cZ cF) [(om k0 a I0 J0), (oa (a 32) cI 8 S0)] sz zXN)) (zQ (some (.int (pI (0 < dt ex.toInt ey.toInt px.toInt py.toInt (S0 2).toInt (S0 3).toInt)))) (fun t => va_P (dC, dI) classes [(om k0 a I0 J0), (oa (a 32) cI 8 S0)] t.heap ∧ va_D (va_A [(om k0 a I0 J0), (oa (a 32) cI 8 S0)] sz) [(om k0 a I0 J0), (oa (a 32) cI 8 S0)]) (va_A [(om k0 a I0 J0), (oa (a 32) cI 8 S0)] sz)) 0 0 (va_A [(om k0 a I0 J0), (oa (a 32) cI 8 S0)] sz) := by
  refine Met.ofW (cc := cX11_isAhead) (maxL := 5) (ret := (some .boolean)) (by decide) rfl ?_
  intro p e s m args below meth c s₁ B hml hv
  obtain ⟨rfl, hsz, hP, hK, hD0, hXN⟩ := hv
  have hx := B.exec
  have hb := B.bytes
  have hr := B.returns
  have hts0 := atoms_spec (ws := .code yX11_isAhead cX11_isAhead 5 (some .boolean) :: ws0) B.pre
  have hts : ∀ w9 ∈ ws0, w9.before ([.ref k0, .int ex, .int ey, .int px, .int py] : List Value).toArray s = true := fun w9 h => hts0 w9 (List.mem_cons_of_mem _ h)
  have hown : s.vm.findClass "ScaleShopModel" = some m.cls := findClass_of_methodNamed B.named
  have hlocks := B.notSynchronized
  subst hsz
  have hD := hD0.self (sz := s.heap.size)
  clear hD0
  generalize hAe : va_A [(om k0 a I0 J0), (oa (a 32) cI 8 S0)] s.heap.size = A at hD ⊢
  have hA : ∀ q : Nat, s.heap.size ≤ q → A q := fun q h => by rw [← hAe]; exact Or.inr h
  clear hAe
  have hS : va_S A s.heap s.heap [] := va_S.rf
  have hP : va_P (dC, dI) classes [(om k0 a I0 J0), (oa (a 32) cI 8 S0)] s.heap := hP
  obtain ⟨Q9, hQ9⟩ : ∃ Q9 : State → Prop, Q9 = MQ below (zQ (some (.int (pI (0 < dt ex.toInt ey.toInt px.toInt py.toInt (S0 2).toInt (S0 3).toInt)))) (fun t => va_P (dC, dI) classes [(om k0 a I0 J0), (oa (a 32) cI 8 S0)] t.heap ∧ va_D A [(om k0 a I0 J0), (oa (a 32) cI 8 S0)]) A) ([.ref k0, .int ex, .int ey, .int px, .int py] : List Value).toArray s 0 0 A := ⟨_, rfl⟩
  rw [← hQ9]
  have hl := lv_entry ([.ref k0, .int ex, .int ey, .int px, .int py]) (n := 5) (Nat.le_of_ble_eq_true rfl)
  rw [lg_entry_eq]
  generalize (lg_sl ([.ref k0, .int ex, .int ey, .int px, .int py]) ++ List.replicate (5 - (lg_sl ([.ref k0, .int ex, .int ey, .int px, .int py])).length) Slot.unset).toArray = ls at hl ⊢
  have hl : lv_has ls 5 [(0, .ref k0), (1, .int ex), (2, .int ey), (3, .int px), (4, .int py)] := hl
  have hB1 := mlB k1 hpx (hs 2 (by omega)) hpx
  have hB2 := mlB k2 hpy (hs 3 (by omega)) hpy
  refine lv_iload_n hx hb dX11_isAhead_0 rfl (lv_at hl 1 rfl) ?_
  refine lv_iload_n hx hb dX11_isAhead_1 rfl (lv_at hl 3 rfl) ?_
  refine lv_isub hx hb dX11_isAhead_2 ?_
  refine lv_i2l (v := (ex - px).toInt64) hx hb dX11_isAhead_3 (rfl) ?_
  refine lv_aload_n hx hb dX11_isAhead_4 rfl (lv_at hl 0 rfl) ?_
  refine va_get (D := (dC, dI)) (ci := 9) (v := .ref (a 32)) (C := RX11) (T := TX11) (N := 55) hx hb hts inX11 hown hK hP 0 rfl rfl 32 (by decide) (hts _ mw_1191) (fun _ h9 => h9) rfl dX11_isAhead_5 ?_
  refine lv_iconst (v := 2) hx hb dX11_isAhead_8 (by decide) ?_
  refine z_iald hx hb hK hP 1 0 rfl rfl (e := 2) rfl (by omega) (by omega) dX11_isAhead_9 ?_
  refine lv_iload_n hx hb dX11_isAhead_10 rfl (lv_at hl 3 rfl) ?_
  refine lv_isub hx hb dX11_isAhead_11 ?_
  refine lv_i2l (v := ((S0 2) - px).toInt64) hx hb dX11_isAhead_12 (rfl) ?_
  refine lv_lmul hx hb dX11_isAhead_13 ?_
  refine zz_l (v := jI ((ex.toInt - px.toInt) * ((S0 2).toInt - px.toInt))) (mlL k1 hpx (hs 2 (by omega)) hpx) ?_
  refine lv_iload_n hx hb dX11_isAhead_14 rfl (lv_at hl 2 rfl) ?_
  refine lv_iload hx hb dX11_isAhead_15 (lv_at hl 4 rfl) ?_
  refine lv_isub hx hb dX11_isAhead_17 ?_
  refine lv_i2l (v := (ey - py).toInt64) hx hb dX11_isAhead_18 (rfl) ?_
  refine lv_aload_n hx hb dX11_isAhead_19 rfl (lv_at hl 0 rfl) ?_
  refine va_get (D := (dC, dI)) (ci := 9) (v := .ref (a 32)) (C := RX11) (T := TX11) (N := 55) hx hb hts inX11 hown hK hP 0 rfl rfl 32 (by decide) (hts _ mw_1191) (fun _ h9 => h9) rfl dX11_isAhead_20 ?_
  refine lv_iconst (v := 3) hx hb dX11_isAhead_23 (by decide) ?_
  refine z_iald hx hb hK hP 1 0 rfl rfl (e := 3) rfl (by omega) (by omega) dX11_isAhead_24 ?_
  refine lv_iload hx hb dX11_isAhead_25 (lv_at hl 4 rfl) ?_
  refine lv_isub hx hb dX11_isAhead_27 ?_
  refine lv_i2l (v := ((S0 3) - py).toInt64) hx hb dX11_isAhead_28 (rfl) ?_
  refine lv_lmul hx hb dX11_isAhead_29 ?_
  refine zz_l (v := jI ((ey.toInt - py.toInt) * ((S0 3).toInt - py.toInt))) (mlL k2 hpy (hs 3 (by omega)) hpy) ?_
  refine lv_ladd hx hb dX11_isAhead_30 ?_
  refine zz_l (v := jI ((ex.toInt - px.toInt) * ((S0 2).toInt - px.toInt) + (ey.toInt - py.toInt) * ((S0 3).toInt - py.toInt))) (jI_add (by omega) (by omega)) ?_
  refine lv_lconst (v := 0) hx hb dX11_isAhead_31 (by decide) ?_
  refine W.lcmp hx hb dX11_isAhead_32 ?_
  refine lv_if_le (tgt := 40) hx hb dX11_isAhead_33 (by decide) (fun c_1 => ?_) (fun c_1 => ?_)
  · have c_1 : ((ex.toInt - px.toInt) * ((S0 2).toInt - px.toInt) + (ey.toInt - py.toInt) * ((S0 3).toInt - py.toInt)) ≤ 0 := zl_le (jI_toInt (by omega)) (by decide) c_1
    refine lv_iconst (v := 0) hx hb dX11_isAhead_40 (by decide) ?_
    have hP9 := hP.sub (ws' := [(om k0 a I0 J0), (oa (a 32) cI 8 S0)]) [0, 1] rfl
    have hD9 := hD.sub (ws' := [(om k0 a I0 J0), (oa (a 32) cI 8 S0)]) [0, 1] (by decide) rfl
    rw [hQ9]
    exact W.zret (ty := .boolean) (v := 0) hx hb hr (rfl) (fun t ht hW => ⟨⟨congrArg (fun z => Outcome.returned (some (Value.int z))) (show (0 : Int32) = pI (0 < dt ex.toInt ey.toInt px.toInt py.toInt (S0 2).toInt (S0 3).toInt) from (zp_f (by unfold dt; omega)).symm), by rw [ht]; exact hP9, hD9⟩, hS.F ht⟩) hS.2.2 dX11_isAhead_41
  · have c_1 : 0 < ((ex.toInt - px.toInt) * ((S0 2).toInt - px.toInt) + (ey.toInt - py.toInt) * ((S0 3).toInt - py.toInt)) := zl_nle (jI_toInt (by omega)) (by decide) c_1
    refine lv_iconst (v := 1) hx hb dX11_isAhead_36 (by decide) ?_
    refine lv_goto (tgt := 41) hx hb dX11_isAhead_37 (by decide) ?_
    have hP9 := hP.sub (ws' := [(om k0 a I0 J0), (oa (a 32) cI 8 S0)]) [0, 1] rfl
    have hD9 := hD.sub (ws' := [(om k0 a I0 J0), (oa (a 32) cI 8 S0)]) [0, 1] (by decide) rfl
    rw [hQ9]
    exact W.zret (ty := .boolean) (v := 1) hx hb hr (rfl) (fun t ht hW => ⟨⟨congrArg (fun z => Outcome.returned (some (Value.int z))) (show (1 : Int32) = pI (0 < dt ex.toInt ey.toInt px.toInt py.toInt (S0 2).toInt (S0 3).toInt) from (zp_t (by unfold dt; omega)).symm), by rw [ht]; exact hP9, hD9⟩, hS.F ht⟩) hS.2.2 dX11_isAhead_41
set_option maxHeartbeats 4000000 in
set_option maxRecDepth 100000 in
theorem k_M_isOnlyAt (l : Launch) (dC : Nat → ClassId) (dI : Nat → Nat → Nat) (cI cZ cF : ClassId) (sz : Nat) (k0 : Nat) (a : Nat → Nat) (I0 : Nat → Int32) (J0 : Nat → Int64) (px : Int32) (py : Int32) (S0 : Nat → Int32) (hs : ∀ k, k < 8 → pl (S0 k)) (hpx : pl px) (hpy : pl py) : Met l yX11_isOnlyAt (.code yX11_isOnlyAt cX11_isOnlyAt 5 (some .boolean) :: ws0) ({ frames := 2, cells := 0, slots := 0, locals := 56 } : Room) (va_Pc [.ref k0, .int px, .int py] (zPre (dC, dI) classes (zTy cI cZ cF) [(om k0 a I0 J0), (oa (a 32) cI 8 S0)] sz zXN)) (zQ (some (.int (pI (oAt (S0 0).toInt (S0 1).toInt (S0 2).toInt (S0 3).toInt (S0 4).toInt (S0 5).toInt (S0 6).toInt (S0 7).toInt px.toInt py.toInt)))) (fun t => va_P (dC, dI) classes [(om k0 a I0 J0), (oa (a 32) cI 8 S0)] t.heap ∧ va_D (va_A [(om k0 a I0 J0), (oa (a 32) cI 8 S0)] sz) [(om k0 a I0 J0), (oa (a 32) cI 8 S0)]) (va_A [(om k0 a I0 J0), (oa (a 32) cI 8 S0)] sz)) 0 0 (va_A [(om k0 a I0 J0), (oa (a 32) cI 8 S0)] sz) := by
  refine Met.ofW (cc := cX11_isOnlyAt) (maxL := 5) (ret := (some .boolean)) (by decide) rfl ?_
  intro p e s m args below meth c s₁ B hml hv
  obtain ⟨rfl, hsz, hP, hK, hD0, hXN⟩ := hv
  have hx := B.exec
  have hb := B.bytes
  have hr := B.returns
  have hts0 := atoms_spec (ws := .code yX11_isOnlyAt cX11_isOnlyAt 5 (some .boolean) :: ws0) B.pre
  have hts : ∀ w9 ∈ ws0, w9.before ([.ref k0, .int px, .int py] : List Value).toArray s = true := fun w9 h => hts0 w9 (List.mem_cons_of_mem _ h)
  have hown : s.vm.findClass "ScaleShopModel" = some m.cls := findClass_of_methodNamed B.named
  have hlocks := B.notSynchronized
  subst hsz
  have hD := hD0.self (sz := s.heap.size)
  clear hD0
  generalize hAe : va_A [(om k0 a I0 J0), (oa (a 32) cI 8 S0)] s.heap.size = A at hD ⊢
  have hA : ∀ q : Nat, s.heap.size ≤ q → A q := fun q h => by rw [← hAe]; exact Or.inr h
  clear hAe
  have hS : va_S A s.heap s.heap [] := va_S.rf
  have hP : va_P (dC, dI) classes [(om k0 a I0 J0), (oa (a 32) cI 8 S0)] s.heap := hP
  obtain ⟨Q9, hQ9⟩ : ∃ Q9 : State → Prop, Q9 = MQ below (zQ (some (.int (pI (oAt (S0 0).toInt (S0 1).toInt (S0 2).toInt (S0 3).toInt (S0 4).toInt (S0 5).toInt (S0 6).toInt (S0 7).toInt px.toInt py.toInt)))) (fun t => va_P (dC, dI) classes [(om k0 a I0 J0), (oa (a 32) cI 8 S0)] t.heap ∧ va_D A [(om k0 a I0 J0), (oa (a 32) cI 8 S0)]) A) ([.ref k0, .int px, .int py] : List Value).toArray s 0 0 A := ⟨_, rfl⟩
  rw [← hQ9]
  have hl := lv_entry ([.ref k0, .int px, .int py]) (n := 5) (Nat.le_of_ble_eq_true rfl)
  rw [lg_entry_eq]
  generalize (lg_sl ([.ref k0, .int px, .int py]) ++ List.replicate (5 - (lg_sl ([.ref k0, .int px, .int py])).length) Slot.unset).toArray = ls at hl ⊢
  have hl : lv_has ls 5 [(0, .ref k0), (1, .int px), (2, .int py)] := hl
  have hB1 := mlB (hs 2 (by omega)) (hs 0 (by omega)) (hs 7 (by omega)) (hs 5 (by omega))
  have hB2 := mlB (hs 3 (by omega)) (hs 1 (by omega)) (hs 6 (by omega)) (hs 4 (by omega))
  refine lv_aload_n hx hb dX11_isOnlyAt_0 rfl (lv_at hl 0 rfl) ?_
  refine va_get (D := (dC, dI)) (ci := 9) (v := .ref (a 32)) (C := RX11) (T := TX11) (N := 55) hx hb hts inX11 hown hK hP 0 rfl rfl 32 (by decide) (hts _ mw_1191) (fun _ h9 => h9) rfl dX11_isOnlyAt_1 ?_
  refine lv_iconst (v := 4) hx hb dX11_isOnlyAt_4 (by decide) ?_
  refine z_iald hx hb hK hP 1 0 rfl rfl (e := 4) rfl (by omega) (by omega) dX11_isOnlyAt_5 ?_
  refine lv_aload_n hx hb dX11_isOnlyAt_6 rfl (lv_at hl 0 rfl) ?_
  refine va_get (D := (dC, dI)) (ci := 9) (v := .ref (a 32)) (C := RX11) (T := TX11) (N := 55) hx hb hts inX11 hown hK hP 0 rfl rfl 32 (by decide) (hts _ mw_1191) (fun _ h9 => h9) rfl dX11_isOnlyAt_7 ?_
  refine lv_iconst (v := 5) hx hb dX11_isOnlyAt_10 (by decide) ?_
  refine z_iald hx hb hK hP 1 0 rfl rfl (e := 5) rfl (by omega) (by omega) dX11_isOnlyAt_11 ?_
  refine lv_aload_n hx hb dX11_isOnlyAt_12 rfl (lv_at hl 0 rfl) ?_
  refine va_get (D := (dC, dI)) (ci := 9) (v := .ref (a 32)) (C := RX11) (T := TX11) (N := 55) hx hb hts inX11 hown hK hP 0 rfl rfl 32 (by decide) (hts _ mw_1191) (fun _ h9 => h9) rfl dX11_isOnlyAt_13 ?_
  refine lv_bipush (v := 6) hx hb dX11_isOnlyAt_16 (by decide) ?_
  refine z_iald hx hb hK hP 1 0 rfl rfl (e := 6) rfl (by omega) (by omega) dX11_isOnlyAt_18 ?_
  refine lv_aload_n hx hb dX11_isOnlyAt_19 rfl (lv_at hl 0 rfl) ?_
  refine va_get (D := (dC, dI)) (ci := 9) (v := .ref (a 32)) (C := RX11) (T := TX11) (N := 55) hx hb hts inX11 hown hK hP 0 rfl rfl 32 (by decide) (hts _ mw_1191) (fun _ h9 => h9) rfl dX11_isOnlyAt_20 ?_
  refine lv_bipush (v := 7) hx hb dX11_isOnlyAt_23 (by decide) ?_
  refine z_iald hx hb hK hP 1 0 rfl rfl (e := 7) rfl (by omega) (by omega) dX11_isOnlyAt_25 ?_
  refine lv_iload_n hx hb dX11_isOnlyAt_26 rfl (lv_at hl 1 rfl) ?_
  refine lv_iload_n hx hb dX11_isOnlyAt_27 rfl (lv_at hl 2 rfl) ?_
  have hPc := hP.sub (ws' := []) [] rfl
  have hDc := hD.sub (ws' := []) [] (by decide) rfl
  have hFc := va_free (wc := []) hD hS hA [] rfl
  refine zcall (st1 := [.int (pI (onS (S0 4).toInt (S0 5).toInt (S0 6).toInt (S0 7).toInt px.toInt py.toInt))]) (va_runS (As := [.int (S0 4), .int (S0 5), .int (S0 6), .int (S0 7), .int px, .int py]) (rest := []) ⟨hx, hb, hml, hown, hts⟩ (k_M_isOn l dC dI cI cZ cF s.heap.size (S0 4) (S0 5) (S0 6) (S0 7) px py ((hs 4 (by omega))) ((hs 5 (by omega))) ((hs 6 (by omega))) ((hs 7 (by omega))) (hpx) (hpy)) (va_cwS 6 hts (zz_gS mw_1394 mw_1395 mw_110 mc_yX11_isOn) rfl rfl rfl (by decide +kernel) ⟨Nat.le_of_ble_eq_true rfl, Nat.le_of_ble_eq_true rfl⟩) (zPS2 hPc hDc hK hXN) rfl rfl hl.1 rfl (lv_room (Nat.le_of_ble_eq_true rfl)) dX11_isOnlyAt_28 ⟨Nat.le_of_ble_eq_true rfl, Nat.le_of_ble_eq_true rfl⟩) hS hFc hFc rfl (fun t H1 locs ht hB hk1 hS => ?_)
  obtain ⟨hP1, hD1⟩ := hB
  rw [ht] at hP1
  obtain ⟨hP, hD⟩ := va_join (wr := [(om k0 a I0 J0), (oa (a 32) cI 8 S0)]) (w1 := []) hP hD [] [0, 1] rfl rfl (by decide) (by decide) hk1 hFc hP1 hD1
  clear hk1 hPc hDc hFc hP1 hD1 ht
  generalize H1 = H at hP hS ⊢
  have hP : va_P (dC, dI) classes [(om k0 a I0 J0), (oa (a 32) cI 8 S0)] H := hP
  have hD : va_D A [(om k0 a I0 J0), (oa (a 32) cI 8 S0)] := hD
  refine lv_if_ne (tgt := 36) hx hb dX11_isOnlyAt_31 (by decide) (fun c_1 => ?_) (fun c_1 => ?_)
  · have c_1 : onS (S0 4).toInt (S0 5).toInt (S0 6).toInt (S0 7).toInt px.toInt py.toInt := zp_1 c_1
    have hj_2 : (¬ ((S0 0).toInt = (S0 2).toInt ∧ (S0 1).toInt = (S0 3).toInt) ∧ ¬ ((S0 4).toInt = (S0 6).toInt ∧ (S0 5).toInt = (S0 7).toInt)) → W p l e ((headSpec (.code yX11_isOnlyAt cX11_isOnlyAt 5 (some .boolean) :: ws0) ({ frames := 2, cells := 0, slots := 0, locals := 56 } : Room)).room) s m ([.ref k0, .int px, .int py] : List Value).toArray below meth c H locs 0 0 Q9 (F0 m 100 ls []) := by
      intro hne
      refine lv_aload_n hx hb dX11_isOnlyAt_100 rfl (lv_at hl 0 rfl) ?_
      refine va_get (D := (dC, dI)) (ci := 9) (v := .ref (a 32)) (C := RX11) (T := TX11) (N := 55) hx hb hts inX11 hown hK hP 0 rfl rfl 32 (by decide) (hts _ mw_1191) (fun _ h9 => h9) rfl dX11_isOnlyAt_101 ?_
      refine lv_iconst (v := 2) hx hb dX11_isOnlyAt_104 (by decide) ?_
      refine z_iald hx hb hK hP 1 0 rfl rfl (e := 2) rfl (by omega) (by omega) dX11_isOnlyAt_105 ?_
      refine lv_aload_n hx hb dX11_isOnlyAt_106 rfl (lv_at hl 0 rfl) ?_
      refine va_get (D := (dC, dI)) (ci := 9) (v := .ref (a 32)) (C := RX11) (T := TX11) (N := 55) hx hb hts inX11 hown hK hP 0 rfl rfl 32 (by decide) (hts _ mw_1191) (fun _ h9 => h9) rfl dX11_isOnlyAt_107 ?_
      refine lv_iconst (v := 0) hx hb dX11_isOnlyAt_110 (by decide) ?_
      refine z_iald hx hb hK hP 1 0 rfl rfl (e := 0) rfl (by omega) (by omega) dX11_isOnlyAt_111 ?_
      refine lv_isub hx hb dX11_isOnlyAt_112 ?_
      refine lv_i2l (v := ((S0 2) - (S0 0)).toInt64) hx hb dX11_isOnlyAt_113 (rfl) ?_
      refine lv_aload_n hx hb dX11_isOnlyAt_114 rfl (lv_at hl 0 rfl) ?_
      refine va_get (D := (dC, dI)) (ci := 9) (v := .ref (a 32)) (C := RX11) (T := TX11) (N := 55) hx hb hts inX11 hown hK hP 0 rfl rfl 32 (by decide) (hts _ mw_1191) (fun _ h9 => h9) rfl dX11_isOnlyAt_115 ?_
      refine lv_bipush (v := 7) hx hb dX11_isOnlyAt_118 (by decide) ?_
      refine z_iald hx hb hK hP 1 0 rfl rfl (e := 7) rfl (by omega) (by omega) dX11_isOnlyAt_120 ?_
      refine lv_aload_n hx hb dX11_isOnlyAt_121 rfl (lv_at hl 0 rfl) ?_
      refine va_get (D := (dC, dI)) (ci := 9) (v := .ref (a 32)) (C := RX11) (T := TX11) (N := 55) hx hb hts inX11 hown hK hP 0 rfl rfl 32 (by decide) (hts _ mw_1191) (fun _ h9 => h9) rfl dX11_isOnlyAt_122 ?_
      refine lv_iconst (v := 5) hx hb dX11_isOnlyAt_125 (by decide) ?_
      refine z_iald hx hb hK hP 1 0 rfl rfl (e := 5) rfl (by omega) (by omega) dX11_isOnlyAt_126 ?_
      refine lv_isub hx hb dX11_isOnlyAt_127 ?_
      refine lv_i2l (v := ((S0 7) - (S0 5)).toInt64) hx hb dX11_isOnlyAt_128 (rfl) ?_
      refine lv_lmul hx hb dX11_isOnlyAt_129 ?_
      refine zz_l (v := jI (((S0 2).toInt - (S0 0).toInt) * ((S0 7).toInt - (S0 5).toInt))) (mlL (hs 2 (by omega)) (hs 0 (by omega)) (hs 7 (by omega)) (hs 5 (by omega))) ?_
      refine lv_aload_n hx hb dX11_isOnlyAt_130 rfl (lv_at hl 0 rfl) ?_
      refine va_get (D := (dC, dI)) (ci := 9) (v := .ref (a 32)) (C := RX11) (T := TX11) (N := 55) hx hb hts inX11 hown hK hP 0 rfl rfl 32 (by decide) (hts _ mw_1191) (fun _ h9 => h9) rfl dX11_isOnlyAt_131 ?_
      refine lv_iconst (v := 3) hx hb dX11_isOnlyAt_134 (by decide) ?_
      refine z_iald hx hb hK hP 1 0 rfl rfl (e := 3) rfl (by omega) (by omega) dX11_isOnlyAt_135 ?_
      refine lv_aload_n hx hb dX11_isOnlyAt_136 rfl (lv_at hl 0 rfl) ?_
      refine va_get (D := (dC, dI)) (ci := 9) (v := .ref (a 32)) (C := RX11) (T := TX11) (N := 55) hx hb hts inX11 hown hK hP 0 rfl rfl 32 (by decide) (hts _ mw_1191) (fun _ h9 => h9) rfl dX11_isOnlyAt_137 ?_
      refine lv_iconst (v := 1) hx hb dX11_isOnlyAt_140 (by decide) ?_
      refine z_iald hx hb hK hP 1 0 rfl rfl (e := 1) rfl (by omega) (by omega) dX11_isOnlyAt_141 ?_
      refine lv_isub hx hb dX11_isOnlyAt_142 ?_
      refine lv_i2l (v := ((S0 3) - (S0 1)).toInt64) hx hb dX11_isOnlyAt_143 (rfl) ?_
      refine lv_aload_n hx hb dX11_isOnlyAt_144 rfl (lv_at hl 0 rfl) ?_
      refine va_get (D := (dC, dI)) (ci := 9) (v := .ref (a 32)) (C := RX11) (T := TX11) (N := 55) hx hb hts inX11 hown hK hP 0 rfl rfl 32 (by decide) (hts _ mw_1191) (fun _ h9 => h9) rfl dX11_isOnlyAt_145 ?_
      refine lv_bipush (v := 6) hx hb dX11_isOnlyAt_148 (by decide) ?_
      refine z_iald hx hb hK hP 1 0 rfl rfl (e := 6) rfl (by omega) (by omega) dX11_isOnlyAt_150 ?_
      refine lv_aload_n hx hb dX11_isOnlyAt_151 rfl (lv_at hl 0 rfl) ?_
      refine va_get (D := (dC, dI)) (ci := 9) (v := .ref (a 32)) (C := RX11) (T := TX11) (N := 55) hx hb hts inX11 hown hK hP 0 rfl rfl 32 (by decide) (hts _ mw_1191) (fun _ h9 => h9) rfl dX11_isOnlyAt_152 ?_
      refine lv_iconst (v := 4) hx hb dX11_isOnlyAt_155 (by decide) ?_
      refine z_iald hx hb hK hP 1 0 rfl rfl (e := 4) rfl (by omega) (by omega) dX11_isOnlyAt_156 ?_
      refine lv_isub hx hb dX11_isOnlyAt_157 ?_
      refine lv_i2l (v := ((S0 6) - (S0 4)).toInt64) hx hb dX11_isOnlyAt_158 (rfl) ?_
      refine lv_lmul hx hb dX11_isOnlyAt_159 ?_
      refine zz_l (v := jI (((S0 3).toInt - (S0 1).toInt) * ((S0 6).toInt - (S0 4).toInt))) (mlL (hs 3 (by omega)) (hs 1 (by omega)) (hs 6 (by omega)) (hs 4 (by omega))) ?_
      refine lv_lsub hx hb dX11_isOnlyAt_160 ?_
      refine zz_l (v := jI (((S0 2).toInt - (S0 0).toInt) * ((S0 7).toInt - (S0 5).toInt) - ((S0 3).toInt - (S0 1).toInt) * ((S0 6).toInt - (S0 4).toInt))) (jI_sub (by omega) (by omega)) ?_
      refine lv_lstore_n (lv' := [(3, .long (jI (((S0 2).toInt - (S0 0).toInt) * ((S0 7).toInt - (S0 5).toInt) - ((S0 3).toInt - (S0 1).toInt) * ((S0 6).toInt - (S0 4).toInt)))), (0, .ref k0), (1, .int px), (2, .int py)]) hx hb dX11_isOnlyAt_161 rfl hl (by decide) rfl (fun ls hl => ?_)
      refine lv_lload_n hx hb dX11_isOnlyAt_162 rfl (lv_at hl 0 rfl) ?_
      refine lv_lconst (v := 0) hx hb dX11_isOnlyAt_163 (by decide) ?_
      refine W.lcmp hx hb dX11_isOnlyAt_164 ?_
      refine lv_if_eq (tgt := 170) hx hb dX11_isOnlyAt_165 (by decide) (fun c_3 => ?_) (fun c_3 => ?_)
      · have c_3 : (((S0 2).toInt - (S0 0).toInt) * ((S0 7).toInt - (S0 5).toInt) - ((S0 3).toInt - (S0 1).toInt) * ((S0 6).toInt - (S0 4).toInt)) = 0 := zl_eq (jI_toInt (by omega)) (by decide) c_3
        refine lv_aload_n hx hb dX11_isOnlyAt_170 rfl (lv_at hl 1 rfl) ?_
        refine lv_aload_n hx hb dX11_isOnlyAt_171 rfl (lv_at hl 1 rfl) ?_
        refine va_get (D := (dC, dI)) (ci := 9) (v := .ref (a 32)) (C := RX11) (T := TX11) (N := 55) hx hb hts inX11 hown hK hP 0 rfl rfl 32 (by decide) (hts _ mw_1191) (fun _ h9 => h9) rfl dX11_isOnlyAt_172 ?_
        refine lv_iconst (v := 4) hx hb dX11_isOnlyAt_175 (by decide) ?_
        refine z_iald hx hb hK hP 1 0 rfl rfl (e := 4) rfl (by omega) (by omega) dX11_isOnlyAt_176 ?_
        refine lv_aload_n hx hb dX11_isOnlyAt_177 rfl (lv_at hl 1 rfl) ?_
        refine va_get (D := (dC, dI)) (ci := 9) (v := .ref (a 32)) (C := RX11) (T := TX11) (N := 55) hx hb hts inX11 hown hK hP 0 rfl rfl 32 (by decide) (hts _ mw_1191) (fun _ h9 => h9) rfl dX11_isOnlyAt_178 ?_
        refine lv_iconst (v := 5) hx hb dX11_isOnlyAt_181 (by decide) ?_
        refine z_iald hx hb hK hP 1 0 rfl rfl (e := 5) rfl (by omega) (by omega) dX11_isOnlyAt_182 ?_
        refine lv_iload_n hx hb dX11_isOnlyAt_183 rfl (lv_at hl 2 rfl) ?_
        refine lv_iload_n hx hb dX11_isOnlyAt_184 rfl (lv_at hl 3 rfl) ?_
        have hPc := hP.sub (ws' := [(om k0 a I0 J0), (oa (a 32) cI 8 S0)]) [0, 1] rfl
        have hDc := hD.sub (ws' := [(om k0 a I0 J0), (oa (a 32) cI 8 S0)]) [0, 1] (by decide) rfl
        have hFc := va_free (wc := [(om k0 a I0 J0), (oa (a 32) cI 8 S0)]) hD hS hA [0, 1] rfl
        refine zcall (st1 := [.int (pI (0 < dt (S0 4).toInt (S0 5).toInt px.toInt py.toInt (S0 2).toInt (S0 3).toInt))]) (va_runV (As := [.int (S0 4), .int (S0 5), .int px, .int py]) (rest := []) ⟨hx, hb, hml, hown, hts⟩ (k_M_isAhead l dC dI cI cZ cF H.size k0 a I0 J0 (S0 4) (S0 5) px py S0 (by assumption) ((hs 4 (by omega))) ((hs 5 (by omega))) (by assumption) (by assumption)) (cwV 4 hts (zz_gV mw_1514 mw_1516 mw_72 mw_110 mc_yX11_isAhead) rfl rfl rfl (by decide +kernel) ⟨Nat.le_of_ble_eq_true rfl, Nat.le_of_ble_eq_true rfl⟩) (zPV2 (q0 := 0) (ci := 9) hPc hDc hK hXN rfl rfl) rfl rfl hl.1 rfl (lv_room (Nat.le_of_ble_eq_true rfl)) dX11_isOnlyAt_185 ⟨Nat.le_of_ble_eq_true rfl, Nat.le_of_ble_eq_true rfl⟩) hS hFc hFc rfl (fun t H1 locs ht hB hk1 hS => ?_)
        obtain ⟨hP1, hD1⟩ := hB
        rw [ht] at hP1
        obtain ⟨hP, hD⟩ := va_join (wr := []) (w1 := [(om k0 a I0 J0), (oa (a 32) cI 8 S0)]) hP hD [0, 1] [] rfl rfl (by decide) (by decide) hk1 hFc hP1 hD1
        clear hk1 hPc hDc hFc hP1 hD1 ht
        generalize H1 = H at hP hS ⊢
        have hP : va_P (dC, dI) classes [(om k0 a I0 J0), (oa (a 32) cI 8 S0)] H := hP
        have hD : va_D A [(om k0 a I0 J0), (oa (a 32) cI 8 S0)] := hD
        refine lv_if_ne (tgt := 218) hx hb dX11_isOnlyAt_188 (by decide) (fun c_4 => ?_) (fun c_4 => ?_)
        · have c_4 : 0 < dt (S0 4).toInt (S0 5).toInt px.toInt py.toInt (S0 2).toInt (S0 3).toInt := zp_1 c_4
          refine lv_iconst (v := 0) hx hb dX11_isOnlyAt_218 (by decide) ?_
          have hP9 := hP.sub (ws' := [(om k0 a I0 J0), (oa (a 32) cI 8 S0)]) [0, 1] rfl
          have hD9 := hD.sub (ws' := [(om k0 a I0 J0), (oa (a 32) cI 8 S0)]) [0, 1] (by decide) rfl
          rw [hQ9]
          exact W.zret (ty := .boolean) (v := 0) hx hb hr (rfl) (fun t ht hW => ⟨⟨congrArg (fun z => Outcome.returned (some (Value.int z))) (show (0 : Int32) = pI (oAt (S0 0).toInt (S0 1).toInt (S0 2).toInt (S0 3).toInt (S0 4).toInt (S0 5).toInt (S0 6).toInt (S0 7).toInt px.toInt py.toInt) from (zp_f (by unfold oAt; first | exact ⟨by assumption, Or.inr (Or.inr (Or.inr ⟨by assumption, by assumption⟩))⟩ | exact fun h => h.2.elim (fun h => hne.1 h) (fun h => h.elim (fun h => hne.2 h) (fun h => h.elim (fun h => h (by assumption)) (fun h => (by first | exact h.1 (by assumption) | exact h.2 (by assumption))))))).symm), by rw [ht]; exact hP9, hD9⟩, hS.F ht⟩) hS.2.2 dX11_isOnlyAt_219
        · have c_4 : ¬ (0 < dt (S0 4).toInt (S0 5).toInt px.toInt py.toInt (S0 2).toInt (S0 3).toInt) := zp_0 c_4
          refine lv_aload_n hx hb dX11_isOnlyAt_191 rfl (lv_at hl 1 rfl) ?_
          refine lv_aload_n hx hb dX11_isOnlyAt_192 rfl (lv_at hl 1 rfl) ?_
          refine va_get (D := (dC, dI)) (ci := 9) (v := .ref (a 32)) (C := RX11) (T := TX11) (N := 55) hx hb hts inX11 hown hK hP 0 rfl rfl 32 (by decide) (hts _ mw_1191) (fun _ h9 => h9) rfl dX11_isOnlyAt_193 ?_
          refine lv_bipush (v := 6) hx hb dX11_isOnlyAt_196 (by decide) ?_
          refine z_iald hx hb hK hP 1 0 rfl rfl (e := 6) rfl (by omega) (by omega) dX11_isOnlyAt_198 ?_
          refine lv_aload_n hx hb dX11_isOnlyAt_199 rfl (lv_at hl 1 rfl) ?_
          refine va_get (D := (dC, dI)) (ci := 9) (v := .ref (a 32)) (C := RX11) (T := TX11) (N := 55) hx hb hts inX11 hown hK hP 0 rfl rfl 32 (by decide) (hts _ mw_1191) (fun _ h9 => h9) rfl dX11_isOnlyAt_200 ?_
          refine lv_bipush (v := 7) hx hb dX11_isOnlyAt_203 (by decide) ?_
          refine z_iald hx hb hK hP 1 0 rfl rfl (e := 7) rfl (by omega) (by omega) dX11_isOnlyAt_205 ?_
          refine lv_iload_n hx hb dX11_isOnlyAt_206 rfl (lv_at hl 2 rfl) ?_
          refine lv_iload_n hx hb dX11_isOnlyAt_207 rfl (lv_at hl 3 rfl) ?_
          have hPc := hP.sub (ws' := [(om k0 a I0 J0), (oa (a 32) cI 8 S0)]) [0, 1] rfl
          have hDc := hD.sub (ws' := [(om k0 a I0 J0), (oa (a 32) cI 8 S0)]) [0, 1] (by decide) rfl
          have hFc := va_free (wc := [(om k0 a I0 J0), (oa (a 32) cI 8 S0)]) hD hS hA [0, 1] rfl
          refine zcall (st1 := [.int (pI (0 < dt (S0 6).toInt (S0 7).toInt px.toInt py.toInt (S0 2).toInt (S0 3).toInt))]) (va_runV (As := [.int (S0 6), .int (S0 7), .int px, .int py]) (rest := []) ⟨hx, hb, hml, hown, hts⟩ (k_M_isAhead l dC dI cI cZ cF H.size k0 a I0 J0 (S0 6) (S0 7) px py S0 (by assumption) ((hs 6 (by omega))) ((hs 7 (by omega))) (by assumption) (by assumption)) (cwV 4 hts (zz_gV mw_1514 mw_1516 mw_72 mw_110 mc_yX11_isAhead) rfl rfl rfl (by decide +kernel) ⟨Nat.le_of_ble_eq_true rfl, Nat.le_of_ble_eq_true rfl⟩) (zPV2 (q0 := 0) (ci := 9) hPc hDc hK hXN rfl rfl) rfl rfl hl.1 rfl (lv_room (Nat.le_of_ble_eq_true rfl)) dX11_isOnlyAt_208 ⟨Nat.le_of_ble_eq_true rfl, Nat.le_of_ble_eq_true rfl⟩) hS hFc hFc rfl (fun t H1 locs ht hB hk1 hS => ?_)
          obtain ⟨hP1, hD1⟩ := hB
          rw [ht] at hP1
          obtain ⟨hP, hD⟩ := va_join (wr := []) (w1 := [(om k0 a I0 J0), (oa (a 32) cI 8 S0)]) hP hD [0, 1] [] rfl rfl (by decide) (by decide) hk1 hFc hP1 hD1
          clear hk1 hPc hDc hFc hP1 hD1 ht
          generalize H1 = H at hP hS ⊢
          have hP : va_P (dC, dI) classes [(om k0 a I0 J0), (oa (a 32) cI 8 S0)] H := hP
          have hD : va_D A [(om k0 a I0 J0), (oa (a 32) cI 8 S0)] := hD
          refine lv_if_ne (tgt := 218) hx hb dX11_isOnlyAt_211 (by decide) (fun c_5 => ?_) (fun c_5 => ?_)
          · have c_5 : 0 < dt (S0 6).toInt (S0 7).toInt px.toInt py.toInt (S0 2).toInt (S0 3).toInt := zp_1 c_5
            refine lv_iconst (v := 0) hx hb dX11_isOnlyAt_218 (by decide) ?_
            have hP9 := hP.sub (ws' := [(om k0 a I0 J0), (oa (a 32) cI 8 S0)]) [0, 1] rfl
            have hD9 := hD.sub (ws' := [(om k0 a I0 J0), (oa (a 32) cI 8 S0)]) [0, 1] (by decide) rfl
            rw [hQ9]
            exact W.zret (ty := .boolean) (v := 0) hx hb hr (rfl) (fun t ht hW => ⟨⟨congrArg (fun z => Outcome.returned (some (Value.int z))) (show (0 : Int32) = pI (oAt (S0 0).toInt (S0 1).toInt (S0 2).toInt (S0 3).toInt (S0 4).toInt (S0 5).toInt (S0 6).toInt (S0 7).toInt px.toInt py.toInt) from (zp_f (by unfold oAt; first | exact ⟨by assumption, Or.inr (Or.inr (Or.inr ⟨by assumption, by assumption⟩))⟩ | exact fun h => h.2.elim (fun h => hne.1 h) (fun h => h.elim (fun h => hne.2 h) (fun h => h.elim (fun h => h (by assumption)) (fun h => (by first | exact h.1 (by assumption) | exact h.2 (by assumption))))))).symm), by rw [ht]; exact hP9, hD9⟩, hS.F ht⟩) hS.2.2 dX11_isOnlyAt_219
          · have c_5 : ¬ (0 < dt (S0 6).toInt (S0 7).toInt px.toInt py.toInt (S0 2).toInt (S0 3).toInt) := zp_0 c_5
            refine lv_iconst (v := 1) hx hb dX11_isOnlyAt_214 (by decide) ?_
            refine lv_goto (tgt := 219) hx hb dX11_isOnlyAt_215 (by decide) ?_
            have hP9 := hP.sub (ws' := [(om k0 a I0 J0), (oa (a 32) cI 8 S0)]) [0, 1] rfl
            have hD9 := hD.sub (ws' := [(om k0 a I0 J0), (oa (a 32) cI 8 S0)]) [0, 1] (by decide) rfl
            rw [hQ9]
            exact W.zret (ty := .boolean) (v := 1) hx hb hr (rfl) (fun t ht hW => ⟨⟨congrArg (fun z => Outcome.returned (some (Value.int z))) (show (1 : Int32) = pI (oAt (S0 0).toInt (S0 1).toInt (S0 2).toInt (S0 3).toInt (S0 4).toInt (S0 5).toInt (S0 6).toInt (S0 7).toInt px.toInt py.toInt) from (zp_t (by unfold oAt; first | exact ⟨by assumption, Or.inr (Or.inr (Or.inr ⟨by assumption, by assumption⟩))⟩ | exact fun h => h.2.elim (fun h => hne.1 h) (fun h => h.elim (fun h => hne.2 h) (fun h => h.elim (fun h => h (by assumption)) (fun h => (by first | exact h.1 (by assumption) | exact h.2 (by assumption))))))).symm), by rw [ht]; exact hP9, hD9⟩, hS.F ht⟩) hS.2.2 dX11_isOnlyAt_219
      · have c_3 : ¬ (((S0 2).toInt - (S0 0).toInt) * ((S0 7).toInt - (S0 5).toInt) - ((S0 3).toInt - (S0 1).toInt) * ((S0 6).toInt - (S0 4).toInt)) = 0 := zl_ne (jI_toInt (by omega)) (by decide) c_3
        refine lv_iconst (v := 1) hx hb dX11_isOnlyAt_168 (by decide) ?_
        have hP9 := hP.sub (ws' := [(om k0 a I0 J0), (oa (a 32) cI 8 S0)]) [0, 1] rfl
        have hD9 := hD.sub (ws' := [(om k0 a I0 J0), (oa (a 32) cI 8 S0)]) [0, 1] (by decide) rfl
        rw [hQ9]
        exact W.zret (ty := .boolean) (v := 1) hx hb hr (rfl) (fun t ht hW => ⟨⟨congrArg (fun z => Outcome.returned (some (Value.int z))) (show (1 : Int32) = pI (oAt (S0 0).toInt (S0 1).toInt (S0 2).toInt (S0 3).toInt (S0 4).toInt (S0 5).toInt (S0 6).toInt (S0 7).toInt px.toInt py.toInt) from (zp_t (by unfold oAt; exact ⟨by assumption, Or.inr (Or.inr (Or.inl (by assumption)))⟩)).symm), by rw [ht]; exact hP9, hD9⟩, hS.F ht⟩) hS.2.2 dX11_isOnlyAt_169
    refine lv_aload_n hx hb dX11_isOnlyAt_36 rfl (lv_at hl 0 rfl) ?_
    refine va_get (D := (dC, dI)) (ci := 9) (v := .ref (a 32)) (C := RX11) (T := TX11) (N := 55) hx hb hts inX11 hown hK hP 0 rfl rfl 32 (by decide) (hts _ mw_1191) (fun _ h9 => h9) rfl dX11_isOnlyAt_37 ?_
    refine lv_iconst (v := 0) hx hb dX11_isOnlyAt_40 (by decide) ?_
    refine z_iald hx hb hK hP 1 0 rfl rfl (e := 0) rfl (by omega) (by omega) dX11_isOnlyAt_41 ?_
    refine lv_aload_n hx hb dX11_isOnlyAt_42 rfl (lv_at hl 0 rfl) ?_
    refine va_get (D := (dC, dI)) (ci := 9) (v := .ref (a 32)) (C := RX11) (T := TX11) (N := 55) hx hb hts inX11 hown hK hP 0 rfl rfl 32 (by decide) (hts _ mw_1191) (fun _ h9 => h9) rfl dX11_isOnlyAt_43 ?_
    refine lv_iconst (v := 2) hx hb dX11_isOnlyAt_46 (by decide) ?_
    refine z_iald hx hb hK hP 1 0 rfl rfl (e := 2) rfl (by omega) (by omega) dX11_isOnlyAt_47 ?_
    refine lv_icmp_ne (tgt := 66) hx hb dX11_isOnlyAt_48 (by decide) (fun c_6 => ?_) (fun c_6 => ?_)
    · have c_6 : ¬ (S0 0).toInt = (S0 2).toInt := zc_ne rfl rfl c_6
      refine lv_aload_n hx hb dX11_isOnlyAt_66 rfl (lv_at hl 0 rfl) ?_
      refine va_get (D := (dC, dI)) (ci := 9) (v := .ref (a 32)) (C := RX11) (T := TX11) (N := 55) hx hb hts inX11 hown hK hP 0 rfl rfl 32 (by decide) (hts _ mw_1191) (fun _ h9 => h9) rfl dX11_isOnlyAt_67 ?_
      refine lv_iconst (v := 4) hx hb dX11_isOnlyAt_70 (by decide) ?_
      refine z_iald hx hb hK hP 1 0 rfl rfl (e := 4) rfl (by omega) (by omega) dX11_isOnlyAt_71 ?_
      refine lv_aload_n hx hb dX11_isOnlyAt_72 rfl (lv_at hl 0 rfl) ?_
      refine va_get (D := (dC, dI)) (ci := 9) (v := .ref (a 32)) (C := RX11) (T := TX11) (N := 55) hx hb hts inX11 hown hK hP 0 rfl rfl 32 (by decide) (hts _ mw_1191) (fun _ h9 => h9) rfl dX11_isOnlyAt_73 ?_
      refine lv_bipush (v := 6) hx hb dX11_isOnlyAt_76 (by decide) ?_
      refine z_iald hx hb hK hP 1 0 rfl rfl (e := 6) rfl (by omega) (by omega) dX11_isOnlyAt_78 ?_
      refine lv_icmp_ne (tgt := 100) hx hb dX11_isOnlyAt_79 (by decide) (fun c_7 => ?_) (fun c_7 => ?_)
      · have c_7 : ¬ (S0 4).toInt = (S0 6).toInt := zc_ne rfl rfl c_7
        exact hj_2 (by omega)
      · have c_7 : (S0 4).toInt = (S0 6).toInt := zc_eq rfl rfl c_7
        refine lv_aload_n hx hb dX11_isOnlyAt_82 rfl (lv_at hl 0 rfl) ?_
        refine va_get (D := (dC, dI)) (ci := 9) (v := .ref (a 32)) (C := RX11) (T := TX11) (N := 55) hx hb hts inX11 hown hK hP 0 rfl rfl 32 (by decide) (hts _ mw_1191) (fun _ h9 => h9) rfl dX11_isOnlyAt_83 ?_
        refine lv_iconst (v := 5) hx hb dX11_isOnlyAt_86 (by decide) ?_
        refine z_iald hx hb hK hP 1 0 rfl rfl (e := 5) rfl (by omega) (by omega) dX11_isOnlyAt_87 ?_
        refine lv_aload_n hx hb dX11_isOnlyAt_88 rfl (lv_at hl 0 rfl) ?_
        refine va_get (D := (dC, dI)) (ci := 9) (v := .ref (a 32)) (C := RX11) (T := TX11) (N := 55) hx hb hts inX11 hown hK hP 0 rfl rfl 32 (by decide) (hts _ mw_1191) (fun _ h9 => h9) rfl dX11_isOnlyAt_89 ?_
        refine lv_bipush (v := 7) hx hb dX11_isOnlyAt_92 (by decide) ?_
        refine z_iald hx hb hK hP 1 0 rfl rfl (e := 7) rfl (by omega) (by omega) dX11_isOnlyAt_94 ?_
        refine lv_icmp_ne (tgt := 100) hx hb dX11_isOnlyAt_95 (by decide) (fun c_8 => ?_) (fun c_8 => ?_)
        · have c_8 : ¬ (S0 5).toInt = (S0 7).toInt := zc_ne rfl rfl c_8
          exact hj_2 (by omega)
        · have c_8 : (S0 5).toInt = (S0 7).toInt := zc_eq rfl rfl c_8
          refine lv_iconst (v := 1) hx hb dX11_isOnlyAt_98 (by decide) ?_
          have hP9 := hP.sub (ws' := [(om k0 a I0 J0), (oa (a 32) cI 8 S0)]) [0, 1] rfl
          have hD9 := hD.sub (ws' := [(om k0 a I0 J0), (oa (a 32) cI 8 S0)]) [0, 1] (by decide) rfl
          rw [hQ9]
          exact W.zret (ty := .boolean) (v := 1) hx hb hr (rfl) (fun t ht hW => ⟨⟨congrArg (fun z => Outcome.returned (some (Value.int z))) (show (1 : Int32) = pI (oAt (S0 0).toInt (S0 1).toInt (S0 2).toInt (S0 3).toInt (S0 4).toInt (S0 5).toInt (S0 6).toInt (S0 7).toInt px.toInt py.toInt) from (zp_t (by unfold oAt; exact ⟨by assumption, by omega⟩)).symm), by rw [ht]; exact hP9, hD9⟩, hS.F ht⟩) hS.2.2 dX11_isOnlyAt_99
    · have c_6 : (S0 0).toInt = (S0 2).toInt := zc_eq rfl rfl c_6
      refine lv_aload_n hx hb dX11_isOnlyAt_51 rfl (lv_at hl 0 rfl) ?_
      refine va_get (D := (dC, dI)) (ci := 9) (v := .ref (a 32)) (C := RX11) (T := TX11) (N := 55) hx hb hts inX11 hown hK hP 0 rfl rfl 32 (by decide) (hts _ mw_1191) (fun _ h9 => h9) rfl dX11_isOnlyAt_52 ?_
      refine lv_iconst (v := 1) hx hb dX11_isOnlyAt_55 (by decide) ?_
      refine z_iald hx hb hK hP 1 0 rfl rfl (e := 1) rfl (by omega) (by omega) dX11_isOnlyAt_56 ?_
      refine lv_aload_n hx hb dX11_isOnlyAt_57 rfl (lv_at hl 0 rfl) ?_
      refine va_get (D := (dC, dI)) (ci := 9) (v := .ref (a 32)) (C := RX11) (T := TX11) (N := 55) hx hb hts inX11 hown hK hP 0 rfl rfl 32 (by decide) (hts _ mw_1191) (fun _ h9 => h9) rfl dX11_isOnlyAt_58 ?_
      refine lv_iconst (v := 3) hx hb dX11_isOnlyAt_61 (by decide) ?_
      refine z_iald hx hb hK hP 1 0 rfl rfl (e := 3) rfl (by omega) (by omega) dX11_isOnlyAt_62 ?_
      refine lv_icmp_eq (tgt := 98) hx hb dX11_isOnlyAt_63 (by decide) (fun c_9 => ?_) (fun c_9 => ?_)
      · have c_9 : (S0 1).toInt = (S0 3).toInt := zc_eq rfl rfl c_9
        refine lv_iconst (v := 1) hx hb dX11_isOnlyAt_98 (by decide) ?_
        have hP9 := hP.sub (ws' := [(om k0 a I0 J0), (oa (a 32) cI 8 S0)]) [0, 1] rfl
        have hD9 := hD.sub (ws' := [(om k0 a I0 J0), (oa (a 32) cI 8 S0)]) [0, 1] (by decide) rfl
        rw [hQ9]
        exact W.zret (ty := .boolean) (v := 1) hx hb hr (rfl) (fun t ht hW => ⟨⟨congrArg (fun z => Outcome.returned (some (Value.int z))) (show (1 : Int32) = pI (oAt (S0 0).toInt (S0 1).toInt (S0 2).toInt (S0 3).toInt (S0 4).toInt (S0 5).toInt (S0 6).toInt (S0 7).toInt px.toInt py.toInt) from (zp_t (by unfold oAt; exact ⟨by assumption, by omega⟩)).symm), by rw [ht]; exact hP9, hD9⟩, hS.F ht⟩) hS.2.2 dX11_isOnlyAt_99
      · have c_9 : ¬ (S0 1).toInt = (S0 3).toInt := zc_ne rfl rfl c_9
        refine lv_aload_n hx hb dX11_isOnlyAt_66 rfl (lv_at hl 0 rfl) ?_
        refine va_get (D := (dC, dI)) (ci := 9) (v := .ref (a 32)) (C := RX11) (T := TX11) (N := 55) hx hb hts inX11 hown hK hP 0 rfl rfl 32 (by decide) (hts _ mw_1191) (fun _ h9 => h9) rfl dX11_isOnlyAt_67 ?_
        refine lv_iconst (v := 4) hx hb dX11_isOnlyAt_70 (by decide) ?_
        refine z_iald hx hb hK hP 1 0 rfl rfl (e := 4) rfl (by omega) (by omega) dX11_isOnlyAt_71 ?_
        refine lv_aload_n hx hb dX11_isOnlyAt_72 rfl (lv_at hl 0 rfl) ?_
        refine va_get (D := (dC, dI)) (ci := 9) (v := .ref (a 32)) (C := RX11) (T := TX11) (N := 55) hx hb hts inX11 hown hK hP 0 rfl rfl 32 (by decide) (hts _ mw_1191) (fun _ h9 => h9) rfl dX11_isOnlyAt_73 ?_
        refine lv_bipush (v := 6) hx hb dX11_isOnlyAt_76 (by decide) ?_
        refine z_iald hx hb hK hP 1 0 rfl rfl (e := 6) rfl (by omega) (by omega) dX11_isOnlyAt_78 ?_
        refine lv_icmp_ne (tgt := 100) hx hb dX11_isOnlyAt_79 (by decide) (fun c_10 => ?_) (fun c_10 => ?_)
        · have c_10 : ¬ (S0 4).toInt = (S0 6).toInt := zc_ne rfl rfl c_10
          exact hj_2 (by omega)
        · have c_10 : (S0 4).toInt = (S0 6).toInt := zc_eq rfl rfl c_10
          refine lv_aload_n hx hb dX11_isOnlyAt_82 rfl (lv_at hl 0 rfl) ?_
          refine va_get (D := (dC, dI)) (ci := 9) (v := .ref (a 32)) (C := RX11) (T := TX11) (N := 55) hx hb hts inX11 hown hK hP 0 rfl rfl 32 (by decide) (hts _ mw_1191) (fun _ h9 => h9) rfl dX11_isOnlyAt_83 ?_
          refine lv_iconst (v := 5) hx hb dX11_isOnlyAt_86 (by decide) ?_
          refine z_iald hx hb hK hP 1 0 rfl rfl (e := 5) rfl (by omega) (by omega) dX11_isOnlyAt_87 ?_
          refine lv_aload_n hx hb dX11_isOnlyAt_88 rfl (lv_at hl 0 rfl) ?_
          refine va_get (D := (dC, dI)) (ci := 9) (v := .ref (a 32)) (C := RX11) (T := TX11) (N := 55) hx hb hts inX11 hown hK hP 0 rfl rfl 32 (by decide) (hts _ mw_1191) (fun _ h9 => h9) rfl dX11_isOnlyAt_89 ?_
          refine lv_bipush (v := 7) hx hb dX11_isOnlyAt_92 (by decide) ?_
          refine z_iald hx hb hK hP 1 0 rfl rfl (e := 7) rfl (by omega) (by omega) dX11_isOnlyAt_94 ?_
          refine lv_icmp_ne (tgt := 100) hx hb dX11_isOnlyAt_95 (by decide) (fun c_11 => ?_) (fun c_11 => ?_)
          · have c_11 : ¬ (S0 5).toInt = (S0 7).toInt := zc_ne rfl rfl c_11
            exact hj_2 (by omega)
          · have c_11 : (S0 5).toInt = (S0 7).toInt := zc_eq rfl rfl c_11
            refine lv_iconst (v := 1) hx hb dX11_isOnlyAt_98 (by decide) ?_
            have hP9 := hP.sub (ws' := [(om k0 a I0 J0), (oa (a 32) cI 8 S0)]) [0, 1] rfl
            have hD9 := hD.sub (ws' := [(om k0 a I0 J0), (oa (a 32) cI 8 S0)]) [0, 1] (by decide) rfl
            rw [hQ9]
            exact W.zret (ty := .boolean) (v := 1) hx hb hr (rfl) (fun t ht hW => ⟨⟨congrArg (fun z => Outcome.returned (some (Value.int z))) (show (1 : Int32) = pI (oAt (S0 0).toInt (S0 1).toInt (S0 2).toInt (S0 3).toInt (S0 4).toInt (S0 5).toInt (S0 6).toInt (S0 7).toInt px.toInt py.toInt) from (zp_t (by unfold oAt; exact ⟨by assumption, by omega⟩)).symm), by rw [ht]; exact hP9, hD9⟩, hS.F ht⟩) hS.2.2 dX11_isOnlyAt_99
  · have c_1 : ¬ (onS (S0 4).toInt (S0 5).toInt (S0 6).toInt (S0 7).toInt px.toInt py.toInt) := zp_0 c_1
    refine lv_iconst (v := 0) hx hb dX11_isOnlyAt_34 (by decide) ?_
    have hP9 := hP.sub (ws' := [(om k0 a I0 J0), (oa (a 32) cI 8 S0)]) [0, 1] rfl
    have hD9 := hD.sub (ws' := [(om k0 a I0 J0), (oa (a 32) cI 8 S0)]) [0, 1] (by decide) rfl
    rw [hQ9]
    exact W.zret (ty := .boolean) (v := 0) hx hb hr (rfl) (fun t ht hW => ⟨⟨congrArg (fun z => Outcome.returned (some (Value.int z))) (show (0 : Int32) = pI (oAt (S0 0).toInt (S0 1).toInt (S0 2).toInt (S0 3).toInt (S0 4).toInt (S0 5).toInt (S0 6).toInt (S0 7).toInt px.toInt py.toInt) from (zp_f (fun h => absurd h.1 (by assumption))).symm), by rw [ht]; exact hP9, hD9⟩, hS.F ht⟩) hS.2.2 dX11_isOnlyAt_35
