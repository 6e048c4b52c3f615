set_option maxHeartbeats 4000000 in
set_option maxRecDepth 100000 in
theorem k_M_isWithin (l : Launch) (dC : Nat → ClassId) (dI : Nat → Nat → Nat) (cI cZ cF : ClassId) (sz : Nat) (ta : Nat) (T0 : Nat → Int32) (px : Int32) (py : Int32) (ht : ∀ k, k < 6 → pl (T0 k)) (hpx : pl px) (hpy : pl py) : Met l yX11_isWithin (.code yX11_isWithin cX11_isWithin 6 (some .boolean) :: ws0) ({ frames := 2, cells := 0, slots := 0, locals := 56 } : Room) (va_Pc [.ref ta, .int px, .int py] (zPre (dC, dI) classes (zTy cI cZ cF) [(oa ta cI 6 T0)] sz zXN)) (zQ (some (.int (pI (wtM (T0 0).toInt (T0 1).toInt (T0 2).toInt (T0 3).toInt (T0 4).toInt (T0 5).toInt px.toInt py.toInt)))) (fun t => va_P (dC, dI) classes [(oa ta cI 6 T0)] t.heap ∧ va_D (va_A [(oa ta cI 6 T0)] sz) [(oa ta cI 6 T0)]) (va_A [(oa ta cI 6 T0)] sz)) 0 0 (va_A [(oa ta cI 6 T0)] sz) := by
  refine Met.ofW (cc := cX11_isWithin) (maxL := 6) (ret := (some .boolean)) (by decide) rfl ?_
  intro p e s m args below meth c s₁ B hml hv
  obtain ⟨rfl, hsz, hP, hK, hD0, hXN⟩ := hv
  have hx := B.exec
  have hb := B.bytes
  have hr := B.returns
  have hts0 := atoms_spec (ws := .code yX11_isWithin cX11_isWithin 6 (some .boolean) :: ws0) B.pre
  have hts : ∀ w9 ∈ ws0, w9.before ([.ref ta, .int px, .int py] : List Value).toArray s = true := fun w9 h => hts0 w9 (List.mem_cons_of_mem _ h)
  have hown : s.vm.findClass "ScaleShopModel" = some m.cls := findClass_of_methodNamed B.named
  have hlocks := B.notSynchronized
  subst hsz
  have hD := hD0.self (sz := s.heap.size)
  clear hD0
  generalize hAe : va_A [(oa ta cI 6 T0)] s.heap.size = A at hD ⊢
  have hA : ∀ q : Nat, s.heap.size ≤ q → A q := fun q h => by rw [← hAe]; exact Or.inr h
  clear hAe
  have hS : va_S A s.heap s.heap [] := va_S.rf
  have hP : va_P (dC, dI) classes [(oa ta cI 6 T0)] s.heap := hP
  obtain ⟨Q9, hQ9⟩ : ∃ Q9 : State → Prop, Q9 = MQ below (zQ (some (.int (pI (wtM (T0 0).toInt (T0 1).toInt (T0 2).toInt (T0 3).toInt (T0 4).toInt (T0 5).toInt px.toInt py.toInt)))) (fun t => va_P (dC, dI) classes [(oa ta cI 6 T0)] t.heap ∧ va_D A [(oa ta cI 6 T0)]) A) ([.ref ta, .int px, .int py] : List Value).toArray s 0 0 A := ⟨_, rfl⟩
  rw [← hQ9]
  have hl := lv_entry ([.ref ta, .int px, .int py]) (n := 6) (Nat.le_of_ble_eq_true rfl)
  rw [lg_entry_eq]
  generalize (lg_sl ([.ref ta, .int px, .int py]) ++ List.replicate (6 - (lg_sl ([.ref ta, .int px, .int py])).length) Slot.unset).toArray = ls at hl ⊢
  have hl : lv_has ls 6 [(0, .ref ta), (1, .int px), (2, .int py)] := hl
  have hB0 := crBp (ht 0 (by omega)) (ht 1 (by omega)) (ht 2 (by omega)) (ht 3 (by omega)) hpx hpy
  have hB1 := crBp (ht 2 (by omega)) (ht 3 (by omega)) (ht 4 (by omega)) (ht 5 (by omega)) hpx hpy
  have hB2 := crBp (ht 4 (by omega)) (ht 5 (by omega)) (ht 0 (by omega)) (ht 1 (by omega)) hpx hpy
  have hB3 := crBp (ht 0 (by omega)) (ht 1 (by omega)) (ht 2 (by omega)) (ht 3 (by omega)) (ht 4 (by omega)) (ht 5 (by omega))
  have hg0 := sg_s (cr (T0 0).toInt (T0 1).toInt (T0 2).toInt (T0 3).toInt px.toInt py.toInt)
  have hg1 := sg_s (cr (T0 2).toInt (T0 3).toInt (T0 4).toInt (T0 5).toInt px.toInt py.toInt)
  have hg2 := sg_s (cr (T0 4).toInt (T0 5).toInt (T0 0).toInt (T0 1).toInt px.toInt py.toInt)
  refine lv_aload_n hx hb dX11_isWithin_0 rfl (lv_at hl 0 rfl) ?_
  refine lv_iconst (v := 0) hx hb dX11_isWithin_1 (by decide) ?_
  refine z_iald hx hb hK hP 0 0 rfl rfl (e := 0) rfl (by omega) (by omega) dX11_isWithin_2 ?_
  refine lv_i2l (v := (T0 0).toInt64) hx hb dX11_isWithin_3 (rfl) ?_
  refine lv_aload_n hx hb dX11_isWithin_4 rfl (lv_at hl 0 rfl) ?_
  refine lv_iconst (v := 1) hx hb dX11_isWithin_5 (by decide) ?_
  refine z_iald hx hb hK hP 0 0 rfl rfl (e := 1) rfl (by omega) (by omega) dX11_isWithin_6 ?_
  refine lv_i2l (v := (T0 1).toInt64) hx hb dX11_isWithin_7 (rfl) ?_
  refine lv_aload_n hx hb dX11_isWithin_8 rfl (lv_at hl 0 rfl) ?_
  refine lv_iconst (v := 2) hx hb dX11_isWithin_9 (by decide) ?_
  refine z_iald hx hb hK hP 0 0 rfl rfl (e := 2) rfl (by omega) (by omega) dX11_isWithin_10 ?_
  refine lv_i2l (v := (T0 2).toInt64) hx hb dX11_isWithin_11 (rfl) ?_
  refine lv_aload_n hx hb dX11_isWithin_12 rfl (lv_at hl 0 rfl) ?_
  refine lv_iconst (v := 3) hx hb dX11_isWithin_13 (by decide) ?_
  refine z_iald hx hb hK hP 0 0 rfl rfl (e := 3) rfl (by omega) (by omega) dX11_isWithin_14 ?_
  refine lv_i2l (v := (T0 3).toInt64) hx hb dX11_isWithin_15 (rfl) ?_
  refine lv_iload_n hx hb dX11_isWithin_16 rfl (lv_at hl 1 rfl) ?_
  refine lv_i2l (v := px.toInt64) hx hb dX11_isWithin_17 (rfl) ?_
  refine lv_iload_n hx hb dX11_isWithin_18 rfl (lv_at hl 2 rfl) ?_
  refine lv_i2l (v := py.toInt64) hx hb dX11_isWithin_19 (rfl) ?_
  have hPc := hP.sub (ws' := []) [] rfl
  have hDc := hD.sub (ws' := []) [] (by decide) rfl
  have hFc := va_free (wc := []) hD hS hA [] rfl
  refine zcall (st1 := [.long (jI (cr (T0 0).toInt (T0 1).toInt (T0 2).toInt (T0 3).toInt px.toInt py.toInt))]) (va_runS (As := [.long ((T0 0).toInt64), .long ((T0 1).toInt64), .long ((T0 2).toInt64), .long ((T0 3).toInt64), .long px.toInt64, .long py.toInt64]) (rest := []) ⟨hx, hb, hml, hown, hts⟩ (k_M_cross l dC dI cI cZ cF s.heap.size (T0 0) (T0 1) (T0 2) (T0 3) px py (by first | exact ht _ (by omega) | assumption) (by first | exact ht _ (by omega) | assumption) (by first | exact ht _ (by omega) | assumption) (by first | exact ht _ (by omega) | assumption) (by first | exact ht _ (by omega) | assumption) (by first | exact ht _ (by omega) | assumption)) (va_cwS 6 hts (zz_gS mw_1381 mw_1382 mw_110 mc_yX11_cross) rfl rfl rfl (by decide +kernel) ⟨Nat.le_of_ble_eq_true rfl, Nat.le_of_ble_eq_true rfl⟩) (zPS2 hPc hDc hK hXN) rfl rfl hl.1 rfl (lv_room (Nat.le_of_ble_eq_true rfl)) dX11_isWithin_20 ⟨Nat.le_of_ble_eq_true rfl, Nat.le_of_ble_eq_true rfl⟩) hS hFc hFc rfl (fun t H1 locs ht hB hk1 hS => ?_)
  obtain ⟨hP1, hD1⟩ := hB
  rw [ht] at hP1
  obtain ⟨hP, hD⟩ := va_join (wr := [(oa ta cI 6 T0)]) (w1 := []) hP hD [] [0] rfl rfl (by decide) (by decide) hk1 hFc hP1 hD1
  clear hk1 hPc hDc hFc hP1 hD1 ht
  generalize H1 = H at hP hS ⊢
  have hP : va_P (dC, dI) classes [(oa ta cI 6 T0)] H := hP
  have hD : va_D A [(oa ta cI 6 T0)] := hD
  have hPc := hP.sub (ws' := []) [] rfl
  have hDc := hD.sub (ws' := []) [] (by decide) rfl
  have hFc := va_free (wc := []) hD hS hA [] rfl
  refine zcall (st1 := [.int (iI (sg (cr (T0 0).toInt (T0 1).toInt (T0 2).toInt (T0 3).toInt px.toInt py.toInt)))]) (va_runS (As := [.long (jI (cr (T0 0).toInt (T0 1).toInt (T0 2).toInt (T0 3).toInt px.toInt py.toInt))]) (rest := []) ⟨hx, hb, hml, hown, hts⟩ (k_M_signOf l dC dI cI cZ cF H.size (cr (T0 0).toInt (T0 1).toInt (T0 2).toInt (T0 3).toInt px.toInt py.toInt) (by omega)) (va_cwS 1 hts (zz_gS mw_1391 mw_1392 mw_110 mc_yX11_signOf) rfl rfl rfl (by decide +kernel) ⟨Nat.le_of_ble_eq_true rfl, Nat.le_of_ble_eq_true rfl⟩) (zPS2 hPc hDc hK hXN) rfl rfl hl.1 rfl (lv_room (Nat.le_of_ble_eq_true rfl)) dX11_isWithin_23 ⟨Nat.le_of_ble_eq_true rfl, Nat.le_of_ble_eq_true rfl⟩) hS hFc hFc rfl (fun t H1 locs ht hB hk1 hS => ?_)
  obtain ⟨hP1, hD1⟩ := hB
  rw [ht] at hP1
  obtain ⟨hP, hD⟩ := va_join (wr := [(oa ta cI 6 T0)]) (w1 := []) hP hD [] [0] rfl rfl (by decide) (by decide) hk1 hFc hP1 hD1
  clear hk1 hPc hDc hFc hP1 hD1 ht
  generalize H1 = H at hP hS ⊢
  have hP : va_P (dC, dI) classes [(oa ta cI 6 T0)] H := hP
  have hD : va_D A [(oa ta cI 6 T0)] := hD
  refine lv_istore_n (lv' := [(3, .int (iI (sg (cr (T0 0).toInt (T0 1).toInt (T0 2).toInt (T0 3).toInt px.toInt py.toInt)))), (0, .ref ta), (1, .int px), (2, .int py)]) hx hb dX11_isWithin_26 rfl hl (by decide) rfl (fun ls hl => ?_)
  refine lv_aload_n hx hb dX11_isWithin_27 rfl (lv_at hl 1 rfl) ?_
  refine lv_iconst (v := 2) hx hb dX11_isWithin_28 (by decide) ?_
  refine z_iald hx hb hK hP 0 0 rfl rfl (e := 2) rfl (by omega) (by omega) dX11_isWithin_29 ?_
  refine lv_i2l (v := (T0 2).toInt64) hx hb dX11_isWithin_30 (rfl) ?_
  refine lv_aload_n hx hb dX11_isWithin_31 rfl (lv_at hl 1 rfl) ?_
  refine lv_iconst (v := 3) hx hb dX11_isWithin_32 (by decide) ?_
  refine z_iald hx hb hK hP 0 0 rfl rfl (e := 3) rfl (by omega) (by omega) dX11_isWithin_33 ?_
  refine lv_i2l (v := (T0 3).toInt64) hx hb dX11_isWithin_34 (rfl) ?_
  refine lv_aload_n hx hb dX11_isWithin_35 rfl (lv_at hl 1 rfl) ?_
  refine lv_iconst (v := 4) hx hb dX11_isWithin_36 (by decide) ?_
  refine z_iald hx hb hK hP 0 0 rfl rfl (e := 4) rfl (by omega) (by omega) dX11_isWithin_37 ?_
  refine lv_i2l (v := (T0 4).toInt64) hx hb dX11_isWithin_38 (rfl) ?_
  refine lv_aload_n hx hb dX11_isWithin_39 rfl (lv_at hl 1 rfl) ?_
  refine lv_iconst (v := 5) hx hb dX11_isWithin_40 (by decide) ?_
  refine z_iald hx hb hK hP 0 0 rfl rfl (e := 5) rfl (by omega) (by omega) dX11_isWithin_41 ?_
  refine lv_i2l (v := (T0 5).toInt64) hx hb dX11_isWithin_42 (rfl) ?_
  refine lv_iload_n hx hb dX11_isWithin_43 rfl (lv_at hl 2 rfl) ?_
  refine lv_i2l (v := px.toInt64) hx hb dX11_isWithin_44 (rfl) ?_
  refine lv_iload_n hx hb dX11_isWithin_45 rfl (lv_at hl 3 rfl) ?_
  refine lv_i2l (v := py.toInt64) hx hb dX11_isWithin_46 (rfl) ?_
  have hPc := hP.sub (ws' := []) [] rfl
  have hDc := hD.sub (ws' := []) [] (by decide) rfl
  have hFc := va_free (wc := []) hD hS hA [] rfl
  refine zcall (st1 := [.long (jI (cr (T0 2).toInt (T0 3).toInt (T0 4).toInt (T0 5).toInt px.toInt py.toInt))]) (va_runS (As := [.long ((T0 2).toInt64), .long ((T0 3).toInt64), .long ((T0 4).toInt64), .long ((T0 5).toInt64), .long px.toInt64, .long py.toInt64]) (rest := []) ⟨hx, hb, hml, hown, hts⟩ (k_M_cross l dC dI cI cZ cF H.size (T0 2) (T0 3) (T0 4) (T0 5) px py (by first | exact ht _ (by omega) | assumption) (by first | exact ht _ (by omega) | assumption) (by first | exact ht _ (by omega) | assumption) (by first | exact ht _ (by omega) | assumption) (by first | exact ht _ (by omega) | assumption) (by first | exact ht _ (by omega) | assumption)) (va_cwS 6 hts (zz_gS mw_1381 mw_1382 mw_110 mc_yX11_cross) rfl rfl rfl (by decide +kernel) ⟨Nat.le_of_ble_eq_true rfl, Nat.le_of_ble_eq_true rfl⟩) (zPS2 hPc hDc hK hXN) rfl rfl hl.1 rfl (lv_room (Nat.le_of_ble_eq_true rfl)) dX11_isWithin_47 ⟨Nat.le_of_ble_eq_true rfl, Nat.le_of_ble_eq_true rfl⟩) hS hFc hFc rfl (fun t H1 locs ht hB hk1 hS => ?_)
  obtain ⟨hP1, hD1⟩ := hB
  rw [ht] at hP1
  obtain ⟨hP, hD⟩ := va_join (wr := [(oa ta cI 6 T0)]) (w1 := []) hP hD [] [0] rfl rfl (by decide) (by decide) hk1 hFc hP1 hD1
  clear hk1 hPc hDc hFc hP1 hD1 ht
  generalize H1 = H at hP hS ⊢
  have hP : va_P (dC, dI) classes [(oa ta cI 6 T0)] H := hP
  have hD : va_D A [(oa ta cI 6 T0)] := hD
  have hPc := hP.sub (ws' := []) [] rfl
  have hDc := hD.sub (ws' := []) [] (by decide) rfl
  have hFc := va_free (wc := []) hD hS hA [] rfl
  refine zcall (st1 := [.int (iI (sg (cr (T0 2).toInt (T0 3).toInt (T0 4).toInt (T0 5).toInt px.toInt py.toInt)))]) (va_runS (As := [.long (jI (cr (T0 2).toInt (T0 3).toInt (T0 4).toInt (T0 5).toInt px.toInt py.toInt))]) (rest := []) ⟨hx, hb, hml, hown, hts⟩ (k_M_signOf l dC dI cI cZ cF H.size (cr (T0 2).toInt (T0 3).toInt (T0 4).toInt (T0 5).toInt px.toInt py.toInt) (by omega)) (va_cwS 1 hts (zz_gS mw_1391 mw_1392 mw_110 mc_yX11_signOf) rfl rfl rfl (by decide +kernel) ⟨Nat.le_of_ble_eq_true rfl, Nat.le_of_ble_eq_true rfl⟩) (zPS2 hPc hDc hK hXN) rfl rfl hl.1 rfl (lv_room (Nat.le_of_ble_eq_true rfl)) dX11_isWithin_50 ⟨Nat.le_of_ble_eq_true rfl, Nat.le_of_ble_eq_true rfl⟩) hS hFc hFc rfl (fun t H1 locs ht hB hk1 hS => ?_)
  obtain ⟨hP1, hD1⟩ := hB
  rw [ht] at hP1
  obtain ⟨hP, hD⟩ := va_join (wr := [(oa ta cI 6 T0)]) (w1 := []) hP hD [] [0] rfl rfl (by decide) (by decide) hk1 hFc hP1 hD1
  clear hk1 hPc hDc hFc hP1 hD1 ht
  generalize H1 = H at hP hS ⊢
  have hP : va_P (dC, dI) classes [(oa ta cI 6 T0)] H := hP
  have hD : va_D A [(oa ta cI 6 T0)] := hD
  refine lv_istore (lv' := [(4, .int (iI (sg (cr (T0 2).toInt (T0 3).toInt (T0 4).toInt (T0 5).toInt px.toInt py.toInt)))), (3, .int (iI (sg (cr (T0 0).toInt (T0 1).toInt (T0 2).toInt (T0 3).toInt px.toInt py.toInt)))), (0, .ref ta), (1, .int px), (2, .int py)]) hx hb dX11_isWithin_53 hl (by decide) rfl (fun ls hl => ?_)
  refine lv_aload_n hx hb dX11_isWithin_55 rfl (lv_at hl 2 rfl) ?_
  refine lv_iconst (v := 4) hx hb dX11_isWithin_56 (by decide) ?_
  refine z_iald hx hb hK hP 0 0 rfl rfl (e := 4) rfl (by omega) (by omega) dX11_isWithin_57 ?_
  refine lv_i2l (v := (T0 4).toInt64) hx hb dX11_isWithin_58 (rfl) ?_
  refine lv_aload_n hx hb dX11_isWithin_59 rfl (lv_at hl 2 rfl) ?_
  refine lv_iconst (v := 5) hx hb dX11_isWithin_60 (by decide) ?_
  refine z_iald hx hb hK hP 0 0 rfl rfl (e := 5) rfl (by omega) (by omega) dX11_isWithin_61 ?_
  refine lv_i2l (v := (T0 5).toInt64) hx hb dX11_isWithin_62 (rfl) ?_
  refine lv_aload_n hx hb dX11_isWithin_63 rfl (lv_at hl 2 rfl) ?_
  refine lv_iconst (v := 0) hx hb dX11_isWithin_64 (by decide) ?_
  refine z_iald hx hb hK hP 0 0 rfl rfl (e := 0) rfl (by omega) (by omega) dX11_isWithin_65 ?_
  refine lv_i2l (v := (T0 0).toInt64) hx hb dX11_isWithin_66 (rfl) ?_
  refine lv_aload_n hx hb dX11_isWithin_67 rfl (lv_at hl 2 rfl) ?_
  refine lv_iconst (v := 1) hx hb dX11_isWithin_68 (by decide) ?_
  refine z_iald hx hb hK hP 0 0 rfl rfl (e := 1) rfl (by omega) (by omega) dX11_isWithin_69 ?_
  refine lv_i2l (v := (T0 1).toInt64) hx hb dX11_isWithin_70 (rfl) ?_
  refine lv_iload_n hx hb dX11_isWithin_71 rfl (lv_at hl 3 rfl) ?_
  refine lv_i2l (v := px.toInt64) hx hb dX11_isWithin_72 (rfl) ?_
  refine lv_iload_n hx hb dX11_isWithin_73 rfl (lv_at hl 4 rfl) ?_
  refine lv_i2l (v := py.toInt64) hx hb dX11_isWithin_74 (rfl) ?_
  have hPc := hP.sub (ws' := []) [] rfl
  have hDc := hD.sub (ws' := []) [] (by decide) rfl
  have hFc := va_free (wc := []) hD hS hA [] rfl
  refine zcall (st1 := [.long (jI (cr (T0 4).toInt (T0 5).toInt (T0 0).toInt (T0 1).toInt px.toInt py.toInt))]) (va_runS (As := [.long ((T0 4).toInt64), .long ((T0 5).toInt64), .long ((T0 0).toInt64), .long ((T0 1).toInt64), .long px.toInt64, .long py.toInt64]) (rest := []) ⟨hx, hb, hml, hown, hts⟩ (k_M_cross l dC dI cI cZ cF H.size (T0 4) (T0 5) (T0 0) (T0 1) px py (by first | exact ht _ (by omega) | assumption) (by first | exact ht _ (by omega) | assumption) (by first | exact ht _ (by omega) | assumption) (by first | exact ht _ (by omega) | assumption) (by first | exact ht _ (by omega) | assumption) (by first | exact ht _ (by omega) | assumption)) (va_cwS 6 hts (zz_gS mw_1381 mw_1382 mw_110 mc_yX11_cross) rfl rfl rfl (by decide +kernel) ⟨Nat.le_of_ble_eq_true rfl, Nat.le_of_ble_eq_true rfl⟩) (zPS2 hPc hDc hK hXN) rfl rfl hl.1 rfl (lv_room (Nat.le_of_ble_eq_true rfl)) dX11_isWithin_75 ⟨Nat.le_of_ble_eq_true rfl, Nat.le_of_ble_eq_true rfl⟩) hS hFc hFc rfl (fun t H1 locs ht hB hk1 hS => ?_)
  obtain ⟨hP1, hD1⟩ := hB
  rw [ht] at hP1
  obtain ⟨hP, hD⟩ := va_join (wr := [(oa ta cI 6 T0)]) (w1 := []) hP hD [] [0] rfl rfl (by decide) (by decide) hk1 hFc hP1 hD1
  clear hk1 hPc hDc hFc hP1 hD1 ht
  generalize H1 = H at hP hS ⊢
  have hP : va_P (dC, dI) classes [(oa ta cI 6 T0)] H := hP
  have hD : va_D A [(oa ta cI 6 T0)] := hD
  have hPc := hP.sub (ws' := []) [] rfl
  have hDc := hD.sub (ws' := []) [] (by decide) rfl
  have hFc := va_free (wc := []) hD hS hA [] rfl
  refine zcall (st1 := [.int (iI (sg (cr (T0 4).toInt (T0 5).toInt (T0 0).toInt (T0 1).toInt px.toInt py.toInt)))]) (va_runS (As := [.long (jI (cr (T0 4).toInt (T0 5).toInt (T0 0).toInt (T0 1).toInt px.toInt py.toInt))]) (rest := []) ⟨hx, hb, hml, hown, hts⟩ (k_M_signOf l dC dI cI cZ cF H.size (cr (T0 4).toInt (T0 5).toInt (T0 0).toInt (T0 1).toInt px.toInt py.toInt) (by omega)) (va_cwS 1 hts (zz_gS mw_1391 mw_1392 mw_110 mc_yX11_signOf) rfl rfl rfl (by decide +kernel) ⟨Nat.le_of_ble_eq_true rfl, Nat.le_of_ble_eq_true rfl⟩) (zPS2 hPc hDc hK hXN) rfl rfl hl.1 rfl (lv_room (Nat.le_of_ble_eq_true rfl)) dX11_isWithin_78 ⟨Nat.le_of_ble_eq_true rfl, Nat.le_of_ble_eq_true rfl⟩) hS hFc hFc rfl (fun t H1 locs ht hB hk1 hS => ?_)
  obtain ⟨hP1, hD1⟩ := hB
  rw [ht] at hP1
  obtain ⟨hP, hD⟩ := va_join (wr := [(oa ta cI 6 T0)]) (w1 := []) hP hD [] [0] rfl rfl (by decide) (by decide) hk1 hFc hP1 hD1
  clear hk1 hPc hDc hFc hP1 hD1 ht
  generalize H1 = H at hP hS ⊢
  have hP : va_P (dC, dI) classes [(oa ta cI 6 T0)] H := hP
  have hD : va_D A [(oa ta cI 6 T0)] := hD
  refine lv_istore (lv' := [(5, .int (iI (sg (cr (T0 4).toInt (T0 5).toInt (T0 0).toInt (T0 1).toInt px.toInt py.toInt)))), (4, .int (iI (sg (cr (T0 2).toInt (T0 3).toInt (T0 4).toInt (T0 5).toInt px.toInt py.toInt)))), (3, .int (iI (sg (cr (T0 0).toInt (T0 1).toInt (T0 2).toInt (T0 3).toInt px.toInt py.toInt)))), (0, .ref ta), (1, .int px), (2, .int py)]) hx hb dX11_isWithin_81 hl (by decide) rfl (fun ls hl => ?_)
  refine lv_aload_n hx hb dX11_isWithin_83 rfl (lv_at hl 3 rfl) ?_
  refine lv_iconst (v := 0) hx hb dX11_isWithin_84 (by decide) ?_
  refine z_iald hx hb hK hP 0 0 rfl rfl (e := 0) rfl (by omega) (by omega) dX11_isWithin_85 ?_
  refine lv_i2l (v := (T0 0).toInt64) hx hb dX11_isWithin_86 (rfl) ?_
  refine lv_aload_n hx hb dX11_isWithin_87 rfl (lv_at hl 3 rfl) ?_
  refine lv_iconst (v := 1) hx hb dX11_isWithin_88 (by decide) ?_
  refine z_iald hx hb hK hP 0 0 rfl rfl (e := 1) rfl (by omega) (by omega) dX11_isWithin_89 ?_
  refine lv_i2l (v := (T0 1).toInt64) hx hb dX11_isWithin_90 (rfl) ?_
  refine lv_aload_n hx hb dX11_isWithin_91 rfl (lv_at hl 3 rfl) ?_
  refine lv_iconst (v := 2) hx hb dX11_isWithin_92 (by decide) ?_
  refine z_iald hx hb hK hP 0 0 rfl rfl (e := 2) rfl (by omega) (by omega) dX11_isWithin_93 ?_
  refine lv_i2l (v := (T0 2).toInt64) hx hb dX11_isWithin_94 (rfl) ?_
  refine lv_aload_n hx hb dX11_isWithin_95 rfl (lv_at hl 3 rfl) ?_
  refine lv_iconst (v := 3) hx hb dX11_isWithin_96 (by decide) ?_
  refine z_iald hx hb hK hP 0 0 rfl rfl (e := 3) rfl (by omega) (by omega) dX11_isWithin_97 ?_
  refine lv_i2l (v := (T0 3).toInt64) hx hb dX11_isWithin_98 (rfl) ?_
  refine lv_aload_n hx hb dX11_isWithin_99 rfl (lv_at hl 3 rfl) ?_
  refine lv_iconst (v := 4) hx hb dX11_isWithin_100 (by decide) ?_
  refine z_iald hx hb hK hP 0 0 rfl rfl (e := 4) rfl (by omega) (by omega) dX11_isWithin_101 ?_
  refine lv_i2l (v := (T0 4).toInt64) hx hb dX11_isWithin_102 (rfl) ?_
  refine lv_aload_n hx hb dX11_isWithin_103 rfl (lv_at hl 3 rfl) ?_
  refine lv_iconst (v := 5) hx hb dX11_isWithin_104 (by decide) ?_
  refine z_iald hx hb hK hP 0 0 rfl rfl (e := 5) rfl (by omega) (by omega) dX11_isWithin_105 ?_
  refine lv_i2l (v := (T0 5).toInt64) hx hb dX11_isWithin_106 (rfl) ?_
  have hPc := hP.sub (ws' := []) [] rfl
  have hDc := hD.sub (ws' := []) [] (by decide) rfl
  have hFc := va_free (wc := []) hD hS hA [] rfl
  refine zcall (st1 := [.long (jI (cr (T0 0).toInt (T0 1).toInt (T0 2).toInt (T0 3).toInt (T0 4).toInt (T0 5).toInt))]) (va_runS (As := [.long ((T0 0).toInt64), .long ((T0 1).toInt64), .long ((T0 2).toInt64), .long ((T0 3).toInt64), .long ((T0 4).toInt64), .long ((T0 5).toInt64)]) (rest := []) ⟨hx, hb, hml, hown, hts⟩ (k_M_cross l dC dI cI cZ cF H.size (T0 0) (T0 1) (T0 2) (T0 3) (T0 4) (T0 5) (by first | exact ht _ (by omega) | assumption) (by first | exact ht _ (by omega) | assumption) (by first | exact ht _ (by omega) | assumption) (by first | exact ht _ (by omega) | assumption) (by first | exact ht _ (by omega) | assumption) (by first | exact ht _ (by omega) | assumption)) (va_cwS 6 hts (zz_gS mw_1381 mw_1382 mw_110 mc_yX11_cross) rfl rfl rfl (by decide +kernel) ⟨Nat.le_of_ble_eq_true rfl, Nat.le_of_ble_eq_true rfl⟩) (zPS2 hPc hDc hK hXN) rfl rfl hl.1 rfl (lv_room (Nat.le_of_ble_eq_true rfl)) dX11_isWithin_107 ⟨Nat.le_of_ble_eq_true rfl, Nat.le_of_ble_eq_true rfl⟩) hS hFc hFc rfl (fun t H1 locs ht hB hk1 hS => ?_)
  obtain ⟨hP1, hD1⟩ := hB
  rw [ht] at hP1
  obtain ⟨hP, hD⟩ := va_join (wr := [(oa ta cI 6 T0)]) (w1 := []) hP hD [] [0] rfl rfl (by decide) (by decide) hk1 hFc hP1 hD1
  clear hk1 hPc hDc hFc hP1 hD1 ht
  generalize H1 = H at hP hS ⊢
  have hP : va_P (dC, dI) classes [(oa ta cI 6 T0)] H := hP
  have hD : va_D A [(oa ta cI 6 T0)] := hD
  refine lv_lconst (v := 0) hx hb dX11_isWithin_110 (by decide) ?_
  refine W.lcmp hx hb dX11_isWithin_111 ?_
  refine lv_if_ne (tgt := 181) hx hb dX11_isWithin_112 (by decide) (fun c_1 => ?_) (fun c_1 => ?_)
  · have c_1 : ¬ (cr (T0 0).toInt (T0 1).toInt (T0 2).toInt (T0 3).toInt (T0 4).toInt (T0 5).toInt) = 0 := zl_ne (jI_toInt (by omega)) (by decide) c_1
    refine lv_iload_n hx hb dX11_isWithin_181 rfl (lv_at hl 2 rfl) ?_
    refine lv_if_lt (tgt := 195) hx hb dX11_isWithin_182 (by decide) (fun c_2 => ?_) (fun c_2 => ?_)
    · have c_2 : (sg (cr (T0 0).toInt (T0 1).toInt (T0 2).toInt (T0 3).toInt px.toInt py.toInt)) < 0 := zc_lt (iI_toInt (by omega)) (by decide) c_2
      refine lv_iload_n hx hb dX11_isWithin_195 rfl (lv_at hl 2 rfl) ?_
      refine lv_if_gt (tgt := 213) hx hb dX11_isWithin_196 (by decide) (fun c_3 => ?_) (fun c_3 => ?_)
      · have c_3 : 0 < (sg (cr (T0 0).toInt (T0 1).toInt (T0 2).toInt (T0 3).toInt px.toInt py.toInt)) := zc_lt (by decide) (iI_toInt (by omega)) c_3
        refine lv_iconst (v := 0) hx hb dX11_isWithin_213 (by decide) ?_
        have hP9 := hP.sub (ws' := [(oa ta cI 6 T0)]) [0] rfl
        have hD9 := hD.sub (ws' := [(oa ta cI 6 T0)]) [0] (by decide) rfl
        rw [hQ9]
        exact W.zret (ty := .boolean) (v := 0) hx hb hr (rfl) (fun t ht hW => ⟨⟨congrArg (fun z => Outcome.returned (some (Value.int z))) (show (0 : Int32) = pI (wtM (T0 0).toInt (T0 1).toInt (T0 2).toInt (T0 3).toInt (T0 4).toInt (T0 5).toInt px.toInt py.toInt) from (zp_f (by unfold wtM; omega)).symm), by rw [ht]; exact hP9, hD9⟩, hS.F ht⟩) hS.2.2 dX11_isWithin_214
      · have c_3 : (sg (cr (T0 0).toInt (T0 1).toInt (T0 2).toInt (T0 3).toInt px.toInt py.toInt)) ≤ 0 := zc_nlt (by decide) (iI_toInt (by omega)) c_3
        refine lv_iload hx hb dX11_isWithin_199 (lv_at hl 1 rfl) ?_
        refine lv_if_gt (tgt := 213) hx hb dX11_isWithin_201 (by decide) (fun c_4 => ?_) (fun c_4 => ?_)
        · have c_4 : 0 < (sg (cr (T0 2).toInt (T0 3).toInt (T0 4).toInt (T0 5).toInt px.toInt py.toInt)) := zc_lt (by decide) (iI_toInt (by omega)) c_4
          refine lv_iconst (v := 0) hx hb dX11_isWithin_213 (by decide) ?_
          have hP9 := hP.sub (ws' := [(oa ta cI 6 T0)]) [0] rfl
          have hD9 := hD.sub (ws' := [(oa ta cI 6 T0)]) [0] (by decide) rfl
          rw [hQ9]
          exact W.zret (ty := .boolean) (v := 0) hx hb hr (rfl) (fun t ht hW => ⟨⟨congrArg (fun z => Outcome.returned (some (Value.int z))) (show (0 : Int32) = pI (wtM (T0 0).toInt (T0 1).toInt (T0 2).toInt (T0 3).toInt (T0 4).toInt (T0 5).toInt px.toInt py.toInt) from (zp_f (by unfold wtM; omega)).symm), by rw [ht]; exact hP9, hD9⟩, hS.F ht⟩) hS.2.2 dX11_isWithin_214
        · have c_4 : (sg (cr (T0 2).toInt (T0 3).toInt (T0 4).toInt (T0 5).toInt px.toInt py.toInt)) ≤ 0 := zc_nlt (by decide) (iI_toInt (by omega)) c_4
          refine lv_iload hx hb dX11_isWithin_204 (lv_at hl 0 rfl) ?_
          refine lv_if_gt (tgt := 213) hx hb dX11_isWithin_206 (by decide) (fun c_5 => ?_) (fun c_5 => ?_)
          · have c_5 : 0 < (sg (cr (T0 4).toInt (T0 5).toInt (T0 0).toInt (T0 1).toInt px.toInt py.toInt)) := zc_lt (by decide) (iI_toInt (by omega)) c_5
            refine lv_iconst (v := 0) hx hb dX11_isWithin_213 (by decide) ?_
            have hP9 := hP.sub (ws' := [(oa ta cI 6 T0)]) [0] rfl
            have hD9 := hD.sub (ws' := [(oa ta cI 6 T0)]) [0] (by decide) rfl
            rw [hQ9]
            exact W.zret (ty := .boolean) (v := 0) hx hb hr (rfl) (fun t ht hW => ⟨⟨congrArg (fun z => Outcome.returned (some (Value.int z))) (show (0 : Int32) = pI (wtM (T0 0).toInt (T0 1).toInt (T0 2).toInt (T0 3).toInt (T0 4).toInt (T0 5).toInt px.toInt py.toInt) from (zp_f (by unfold wtM; omega)).symm), by rw [ht]; exact hP9, hD9⟩, hS.F ht⟩) hS.2.2 dX11_isWithin_214
          · have c_5 : (sg (cr (T0 4).toInt (T0 5).toInt (T0 0).toInt (T0 1).toInt px.toInt py.toInt)) ≤ 0 := zc_nlt (by decide) (iI_toInt (by omega)) c_5
            refine lv_iconst (v := 1) hx hb dX11_isWithin_209 (by decide) ?_
            refine lv_goto (tgt := 214) hx hb dX11_isWithin_210 (by decide) ?_
            have hP9 := hP.sub (ws' := [(oa ta cI 6 T0)]) [0] rfl
            have hD9 := hD.sub (ws' := [(oa ta cI 6 T0)]) [0] (by decide) rfl
            rw [hQ9]
            exact W.zret (ty := .boolean) (v := 1) hx hb hr (rfl) (fun t ht hW => ⟨⟨congrArg (fun z => Outcome.returned (some (Value.int z))) (show (1 : Int32) = pI (wtM (T0 0).toInt (T0 1).toInt (T0 2).toInt (T0 3).toInt (T0 4).toInt (T0 5).toInt px.toInt py.toInt) from (zp_t (by unfold wtM; omega)).symm), by rw [ht]; exact hP9, hD9⟩, hS.F ht⟩) hS.2.2 dX11_isWithin_214
    · have c_2 : 0 ≤ (sg (cr (T0 0).toInt (T0 1).toInt (T0 2).toInt (T0 3).toInt px.toInt py.toInt)) := zc_nlt (iI_toInt (by omega)) (by decide) c_2
      refine lv_iload hx hb dX11_isWithin_185 (lv_at hl 1 rfl) ?_
      refine lv_if_lt (tgt := 195) hx hb dX11_isWithin_187 (by decide) (fun c_6 => ?_) (fun c_6 => ?_)
      · have c_6 : (sg (cr (T0 2).toInt (T0 3).toInt (T0 4).toInt (T0 5).toInt px.toInt py.toInt)) < 0 := zc_lt (iI_toInt (by omega)) (by decide) c_6
        refine lv_iload_n hx hb dX11_isWithin_195 rfl (lv_at hl 2 rfl) ?_
        refine lv_if_gt (tgt := 213) hx hb dX11_isWithin_196 (by decide) (fun c_7 => ?_) (fun c_7 => ?_)
        · have c_7 : 0 < (sg (cr (T0 0).toInt (T0 1).toInt (T0 2).toInt (T0 3).toInt px.toInt py.toInt)) := zc_lt (by decide) (iI_toInt (by omega)) c_7
          refine lv_iconst (v := 0) hx hb dX11_isWithin_213 (by decide) ?_
          have hP9 := hP.sub (ws' := [(oa ta cI 6 T0)]) [0] rfl
          have hD9 := hD.sub (ws' := [(oa ta cI 6 T0)]) [0] (by decide) rfl
          rw [hQ9]
          exact W.zret (ty := .boolean) (v := 0) hx hb hr (rfl) (fun t ht hW => ⟨⟨congrArg (fun z => Outcome.returned (some (Value.int z))) (show (0 : Int32) = pI (wtM (T0 0).toInt (T0 1).toInt (T0 2).toInt (T0 3).toInt (T0 4).toInt (T0 5).toInt px.toInt py.toInt) from (zp_f (by unfold wtM; omega)).symm), by rw [ht]; exact hP9, hD9⟩, hS.F ht⟩) hS.2.2 dX11_isWithin_214
        · have c_7 : (sg (cr (T0 0).toInt (T0 1).toInt (T0 2).toInt (T0 3).toInt px.toInt py.toInt)) ≤ 0 := zc_nlt (by decide) (iI_toInt (by omega)) c_7
          refine lv_iload hx hb dX11_isWithin_199 (lv_at hl 1 rfl) ?_
          refine lv_if_gt (tgt := 213) hx hb dX11_isWithin_201 (by decide) (fun c_8 => ?_) (fun c_8 => ?_)
          · have c_8 : 0 < (sg (cr (T0 2).toInt (T0 3).toInt (T0 4).toInt (T0 5).toInt px.toInt py.toInt)) := zc_lt (by decide) (iI_toInt (by omega)) c_8
            refine lv_iconst (v := 0) hx hb dX11_isWithin_213 (by decide) ?_
            have hP9 := hP.sub (ws' := [(oa ta cI 6 T0)]) [0] rfl
            have hD9 := hD.sub (ws' := [(oa ta cI 6 T0)]) [0] (by decide) rfl
            rw [hQ9]
            exact W.zret (ty := .boolean) (v := 0) hx hb hr (rfl) (fun t ht hW => ⟨⟨congrArg (fun z => Outcome.returned (some (Value.int z))) (show (0 : Int32) = pI (wtM (T0 0).toInt (T0 1).toInt (T0 2).toInt (T0 3).toInt (T0 4).toInt (T0 5).toInt px.toInt py.toInt) from (zp_f (by unfold wtM; omega)).symm), by rw [ht]; exact hP9, hD9⟩, hS.F ht⟩) hS.2.2 dX11_isWithin_214
          · have c_8 : (sg (cr (T0 2).toInt (T0 3).toInt (T0 4).toInt (T0 5).toInt px.toInt py.toInt)) ≤ 0 := zc_nlt (by decide) (iI_toInt (by omega)) c_8
            refine lv_iload hx hb dX11_isWithin_204 (lv_at hl 0 rfl) ?_
            refine lv_if_gt (tgt := 213) hx hb dX11_isWithin_206 (by decide) (fun c_9 => ?_) (fun c_9 => ?_)
            · have c_9 : 0 < (sg (cr (T0 4).toInt (T0 5).toInt (T0 0).toInt (T0 1).toInt px.toInt py.toInt)) := zc_lt (by decide) (iI_toInt (by omega)) c_9
              refine lv_iconst (v := 0) hx hb dX11_isWithin_213 (by decide) ?_
              have hP9 := hP.sub (ws' := [(oa ta cI 6 T0)]) [0] rfl
              have hD9 := hD.sub (ws' := [(oa ta cI 6 T0)]) [0] (by decide) rfl
              rw [hQ9]
              exact W.zret (ty := .boolean) (v := 0) hx hb hr (rfl) (fun t ht hW => ⟨⟨congrArg (fun z => Outcome.returned (some (Value.int z))) (show (0 : Int32) = pI (wtM (T0 0).toInt (T0 1).toInt (T0 2).toInt (T0 3).toInt (T0 4).toInt (T0 5).toInt px.toInt py.toInt) from (zp_f (by unfold wtM; omega)).symm), by rw [ht]; exact hP9, hD9⟩, hS.F ht⟩) hS.2.2 dX11_isWithin_214
            · have c_9 : (sg (cr (T0 4).toInt (T0 5).toInt (T0 0).toInt (T0 1).toInt px.toInt py.toInt)) ≤ 0 := zc_nlt (by decide) (iI_toInt (by omega)) c_9
              refine lv_iconst (v := 1) hx hb dX11_isWithin_209 (by decide) ?_
              refine lv_goto (tgt := 214) hx hb dX11_isWithin_210 (by decide) ?_
              have hP9 := hP.sub (ws' := [(oa ta cI 6 T0)]) [0] rfl
              have hD9 := hD.sub (ws' := [(oa ta cI 6 T0)]) [0] (by decide) rfl
              rw [hQ9]
              exact W.zret (ty := .boolean) (v := 1) hx hb hr (rfl) (fun t ht hW => ⟨⟨congrArg (fun z => Outcome.returned (some (Value.int z))) (show (1 : Int32) = pI (wtM (T0 0).toInt (T0 1).toInt (T0 2).toInt (T0 3).toInt (T0 4).toInt (T0 5).toInt px.toInt py.toInt) from (zp_t (by unfold wtM; omega)).symm), by rw [ht]; exact hP9, hD9⟩, hS.F ht⟩) hS.2.2 dX11_isWithin_214
      · have c_6 : 0 ≤ (sg (cr (T0 2).toInt (T0 3).toInt (T0 4).toInt (T0 5).toInt px.toInt py.toInt)) := zc_nlt (iI_toInt (by omega)) (by decide) c_6
        refine lv_iload hx hb dX11_isWithin_190 (lv_at hl 0 rfl) ?_
        refine lv_if_ge (tgt := 209) hx hb dX11_isWithin_192 (by decide) (fun c_10 => ?_) (fun c_10 => ?_)
        · have c_10 : 0 ≤ (sg (cr (T0 4).toInt (T0 5).toInt (T0 0).toInt (T0 1).toInt px.toInt py.toInt)) := zc_le (by decide) (iI_toInt (by omega)) c_10
          refine lv_iconst (v := 1) hx hb dX11_isWithin_209 (by decide) ?_
          refine lv_goto (tgt := 214) hx hb dX11_isWithin_210 (by decide) ?_
          have hP9 := hP.sub (ws' := [(oa ta cI 6 T0)]) [0] rfl
          have hD9 := hD.sub (ws' := [(oa ta cI 6 T0)]) [0] (by decide) rfl
          rw [hQ9]
          exact W.zret (ty := .boolean) (v := 1) hx hb hr (rfl) (fun t ht hW => ⟨⟨congrArg (fun z => Outcome.returned (some (Value.int z))) (show (1 : Int32) = pI (wtM (T0 0).toInt (T0 1).toInt (T0 2).toInt (T0 3).toInt (T0 4).toInt (T0 5).toInt px.toInt py.toInt) from (zp_t (by unfold wtM; omega)).symm), by rw [ht]; exact hP9, hD9⟩, hS.F ht⟩) hS.2.2 dX11_isWithin_214
        · have c_10 : (sg (cr (T0 4).toInt (T0 5).toInt (T0 0).toInt (T0 1).toInt px.toInt py.toInt)) < 0 := zc_nle (by decide) (iI_toInt (by omega)) c_10
          refine lv_iload_n hx hb dX11_isWithin_195 rfl (lv_at hl 2 rfl) ?_
          refine lv_if_gt (tgt := 213) hx hb dX11_isWithin_196 (by decide) (fun c_11 => ?_) (fun c_11 => ?_)
          · have c_11 : 0 < (sg (cr (T0 0).toInt (T0 1).toInt (T0 2).toInt (T0 3).toInt px.toInt py.toInt)) := zc_lt (by decide) (iI_toInt (by omega)) c_11
            refine lv_iconst (v := 0) hx hb dX11_isWithin_213 (by decide) ?_
            have hP9 := hP.sub (ws' := [(oa ta cI 6 T0)]) [0] rfl
            have hD9 := hD.sub (ws' := [(oa ta cI 6 T0)]) [0] (by decide) rfl
            rw [hQ9]
            exact W.zret (ty := .boolean) (v := 0) hx hb hr (rfl) (fun t ht hW => ⟨⟨congrArg (fun z => Outcome.returned (some (Value.int z))) (show (0 : Int32) = pI (wtM (T0 0).toInt (T0 1).toInt (T0 2).toInt (T0 3).toInt (T0 4).toInt (T0 5).toInt px.toInt py.toInt) from (zp_f (by unfold wtM; omega)).symm), by rw [ht]; exact hP9, hD9⟩, hS.F ht⟩) hS.2.2 dX11_isWithin_214
          · have c_11 : (sg (cr (T0 0).toInt (T0 1).toInt (T0 2).toInt (T0 3).toInt px.toInt py.toInt)) ≤ 0 := zc_nlt (by decide) (iI_toInt (by omega)) c_11
            refine lv_iload hx hb dX11_isWithin_199 (lv_at hl 1 rfl) ?_
            refine lv_if_gt (tgt := 213) hx hb dX11_isWithin_201 (by decide) (fun c_12 => ?_) (fun c_12 => ?_)
            · have c_12 : 0 < (sg (cr (T0 2).toInt (T0 3).toInt (T0 4).toInt (T0 5).toInt px.toInt py.toInt)) := zc_lt (by decide) (iI_toInt (by omega)) c_12
              refine lv_iconst (v := 0) hx hb dX11_isWithin_213 (by decide) ?_
              have hP9 := hP.sub (ws' := [(oa ta cI 6 T0)]) [0] rfl
              have hD9 := hD.sub (ws' := [(oa ta cI 6 T0)]) [0] (by decide) rfl
              rw [hQ9]
              exact W.zret (ty := .boolean) (v := 0) hx hb hr (rfl) (fun t ht hW => ⟨⟨congrArg (fun z => Outcome.returned (some (Value.int z))) (show (0 : Int32) = pI (wtM (T0 0).toInt (T0 1).toInt (T0 2).toInt (T0 3).toInt (T0 4).toInt (T0 5).toInt px.toInt py.toInt) from (zp_f (by unfold wtM; omega)).symm), by rw [ht]; exact hP9, hD9⟩, hS.F ht⟩) hS.2.2 dX11_isWithin_214
            · have c_12 : (sg (cr (T0 2).toInt (T0 3).toInt (T0 4).toInt (T0 5).toInt px.toInt py.toInt)) ≤ 0 := zc_nlt (by decide) (iI_toInt (by omega)) c_12
              refine lv_iload hx hb dX11_isWithin_204 (lv_at hl 0 rfl) ?_
              refine lv_if_gt (tgt := 213) hx hb dX11_isWithin_206 (by decide) (fun c_13 => ?_) (fun c_13 => ?_)
              · have c_13 : 0 < (sg (cr (T0 4).toInt (T0 5).toInt (T0 0).toInt (T0 1).toInt px.toInt py.toInt)) := zc_lt (by decide) (iI_toInt (by omega)) c_13
                refine lv_iconst (v := 0) hx hb dX11_isWithin_213 (by decide) ?_
                have hP9 := hP.sub (ws' := [(oa ta cI 6 T0)]) [0] rfl
                have hD9 := hD.sub (ws' := [(oa ta cI 6 T0)]) [0] (by decide) rfl
                rw [hQ9]
                exact W.zret (ty := .boolean) (v := 0) hx hb hr (rfl) (fun t ht hW => ⟨⟨congrArg (fun z => Outcome.returned (some (Value.int z))) (show (0 : Int32) = pI (wtM (T0 0).toInt (T0 1).toInt (T0 2).toInt (T0 3).toInt (T0 4).toInt (T0 5).toInt px.toInt py.toInt) from (zp_f (by unfold wtM; omega)).symm), by rw [ht]; exact hP9, hD9⟩, hS.F ht⟩) hS.2.2 dX11_isWithin_214
              · have c_13 : (sg (cr (T0 4).toInt (T0 5).toInt (T0 0).toInt (T0 1).toInt px.toInt py.toInt)) ≤ 0 := zc_nlt (by decide) (iI_toInt (by omega)) c_13
                refine lv_iconst (v := 1) hx hb dX11_isWithin_209 (by decide) ?_
                refine lv_goto (tgt := 214) hx hb dX11_isWithin_210 (by decide) ?_
                have hP9 := hP.sub (ws' := [(oa ta cI 6 T0)]) [0] rfl
                have hD9 := hD.sub (ws' := [(oa ta cI 6 T0)]) [0] (by decide) rfl
                rw [hQ9]
                exact W.zret (ty := .boolean) (v := 1) hx hb hr (rfl) (fun t ht hW => ⟨⟨congrArg (fun z => Outcome.returned (some (Value.int z))) (show (1 : Int32) = pI (wtM (T0 0).toInt (T0 1).toInt (T0 2).toInt (T0 3).toInt (T0 4).toInt (T0 5).toInt px.toInt py.toInt) from (zp_t (by unfold wtM; omega)).symm), by rw [ht]; exact hP9, hD9⟩, hS.F ht⟩) hS.2.2 dX11_isWithin_214
  · have c_1 : (cr (T0 0).toInt (T0 1).toInt (T0 2).toInt (T0 3).toInt (T0 4).toInt (T0 5).toInt) = 0 := zl_eq (jI_toInt (by omega)) (by decide) c_1
    refine lv_aload_n hx hb dX11_isWithin_115 rfl (lv_at hl 3 rfl) ?_
    refine lv_iconst (v := 0) hx hb dX11_isWithin_116 (by decide) ?_
    refine z_iald hx hb hK hP 0 0 rfl rfl (e := 0) rfl (by omega) (by omega) dX11_isWithin_117 ?_
    refine lv_aload_n hx hb dX11_isWithin_118 rfl (lv_at hl 3 rfl) ?_
    refine lv_iconst (v := 1) hx hb dX11_isWithin_119 (by decide) ?_
    refine z_iald hx hb hK hP 0 0 rfl rfl (e := 1) rfl (by omega) (by omega) dX11_isWithin_120 ?_
    refine lv_aload_n hx hb dX11_isWithin_121 rfl (lv_at hl 3 rfl) ?_
    refine lv_iconst (v := 2) hx hb dX11_isWithin_122 (by decide) ?_
    refine z_iald hx hb hK hP 0 0 rfl rfl (e := 2) rfl (by omega) (by omega) dX11_isWithin_123 ?_
    refine lv_aload_n hx hb dX11_isWithin_124 rfl (lv_at hl 3 rfl) ?_
    refine lv_iconst (v := 3) hx hb dX11_isWithin_125 (by decide) ?_
    refine z_iald hx hb hK hP 0 0 rfl rfl (e := 3) rfl (by omega) (by omega) dX11_isWithin_126 ?_
    refine lv_iload_n hx hb dX11_isWithin_127 rfl (lv_at hl 4 rfl) ?_
    refine lv_iload_n hx hb dX11_isWithin_128 rfl (lv_at hl 5 rfl) ?_
    have hPc := hP.sub (ws' := []) [] rfl
    have hDc := hD.sub (ws' := []) [] (by decide) rfl
    have hFc := va_free (wc := []) hD hS hA [] rfl
    refine zcall (st1 := [.int (pI (onS (T0 0).toInt (T0 1).toInt (T0 2).toInt (T0 3).toInt px.toInt py.toInt))]) (va_runS (As := [.int (T0 0), .int (T0 1), .int (T0 2), .int (T0 3), .int px, .int py]) (rest := []) ⟨hx, hb, hml, hown, hts⟩ (k_M_isOn l dC dI cI cZ cF H.size (T0 0) (T0 1) (T0 2) (T0 3) px py (by first | exact ht _ (by omega) | assumption) (by first | exact ht _ (by omega) | assumption) (by first | exact ht _ (by omega) | assumption) (by first | exact ht _ (by omega) | assumption) (by first | exact ht _ (by omega) | assumption) (by first | exact ht _ (by omega) | assumption)) (va_cwS 6 hts (zz_gS mw_1394 mw_1395 mw_110 mc_yX11_isOn) rfl rfl rfl (by decide +kernel) ⟨Nat.le_of_ble_eq_true rfl, Nat.le_of_ble_eq_true rfl⟩) (zPS2 hPc hDc hK hXN) rfl rfl hl.1 rfl (lv_room (Nat.le_of_ble_eq_true rfl)) dX11_isWithin_129 ⟨Nat.le_of_ble_eq_true rfl, Nat.le_of_ble_eq_true rfl⟩) hS hFc hFc rfl (fun t H1 locs ht hB hk1 hS => ?_)
    obtain ⟨hP1, hD1⟩ := hB
    rw [ht] at hP1
    obtain ⟨hP, hD⟩ := va_join (wr := [(oa ta cI 6 T0)]) (w1 := []) hP hD [] [0] rfl rfl (by decide) (by decide) hk1 hFc hP1 hD1
    clear hk1 hPc hDc hFc hP1 hD1 ht
    generalize H1 = H at hP hS ⊢
    have hP : va_P (dC, dI) classes [(oa ta cI 6 T0)] H := hP
    have hD : va_D A [(oa ta cI 6 T0)] := hD
    refine lv_if_ne (tgt := 175) hx hb dX11_isWithin_132 (by decide) (fun c_14 => ?_) (fun c_14 => ?_)
    · have c_14 : onS (T0 0).toInt (T0 1).toInt (T0 2).toInt (T0 3).toInt px.toInt py.toInt := zp_1 c_14
      refine lv_iconst (v := 1) hx hb dX11_isWithin_175 (by decide) ?_
      refine lv_goto (tgt := 180) hx hb dX11_isWithin_176 (by decide) ?_
      have hP9 := hP.sub (ws' := [(oa ta cI 6 T0)]) [0] rfl
      have hD9 := hD.sub (ws' := [(oa ta cI 6 T0)]) [0] (by decide) rfl
      rw [hQ9]
      exact W.zret (ty := .boolean) (v := 1) hx hb hr (rfl) (fun t ht hW => ⟨⟨congrArg (fun z => Outcome.returned (some (Value.int z))) (show (1 : Int32) = pI (wtM (T0 0).toInt (T0 1).toInt (T0 2).toInt (T0 3).toInt (T0 4).toInt (T0 5).toInt px.toInt py.toInt) from (zp_t (by unfold wtM; first | exact Or.inl ⟨by assumption, by simp only [*, true_or, or_true]⟩ | (intro h; rcases h with ⟨_, h | h | h⟩ | ⟨h, _⟩ <;> contradiction))).symm), by rw [ht]; exact hP9, hD9⟩, hS.F ht⟩) hS.2.2 dX11_isWithin_180
    · have c_14 : ¬ (onS (T0 0).toInt (T0 1).toInt (T0 2).toInt (T0 3).toInt px.toInt py.toInt) := zp_0 c_14
      refine lv_aload_n hx hb dX11_isWithin_135 rfl (lv_at hl 3 rfl) ?_
      refine lv_iconst (v := 2) hx hb dX11_isWithin_136 (by decide) ?_
      refine z_iald hx hb hK hP 0 0 rfl rfl (e := 2) rfl (by omega) (by omega) dX11_isWithin_137 ?_
      refine lv_aload_n hx hb dX11_isWithin_138 rfl (lv_at hl 3 rfl) ?_
      refine lv_iconst (v := 3) hx hb dX11_isWithin_139 (by decide) ?_
      refine z_iald hx hb hK hP 0 0 rfl rfl (e := 3) rfl (by omega) (by omega) dX11_isWithin_140 ?_
      refine lv_aload_n hx hb dX11_isWithin_141 rfl (lv_at hl 3 rfl) ?_
      refine lv_iconst (v := 4) hx hb dX11_isWithin_142 (by decide) ?_
      refine z_iald hx hb hK hP 0 0 rfl rfl (e := 4) rfl (by omega) (by omega) dX11_isWithin_143 ?_
      refine lv_aload_n hx hb dX11_isWithin_144 rfl (lv_at hl 3 rfl) ?_
      refine lv_iconst (v := 5) hx hb dX11_isWithin_145 (by decide) ?_
      refine z_iald hx hb hK hP 0 0 rfl rfl (e := 5) rfl (by omega) (by omega) dX11_isWithin_146 ?_
      refine lv_iload_n hx hb dX11_isWithin_147 rfl (lv_at hl 4 rfl) ?_
      refine lv_iload_n hx hb dX11_isWithin_148 rfl (lv_at hl 5 rfl) ?_
      have hPc := hP.sub (ws' := []) [] rfl
      have hDc := hD.sub (ws' := []) [] (by decide) rfl
      have hFc := va_free (wc := []) hD hS hA [] rfl
      refine zcall (st1 := [.int (pI (onS (T0 2).toInt (T0 3).toInt (T0 4).toInt (T0 5).toInt px.toInt py.toInt))]) (va_runS (As := [.int (T0 2), .int (T0 3), .int (T0 4), .int (T0 5), .int px, .int py]) (rest := []) ⟨hx, hb, hml, hown, hts⟩ (k_M_isOn l dC dI cI cZ cF H.size (T0 2) (T0 3) (T0 4) (T0 5) px py (by first | exact ht _ (by omega) | assumption) (by first | exact ht _ (by omega) | assumption) (by first | exact ht _ (by omega) | assumption) (by first | exact ht _ (by omega) | assumption) (by first | exact ht _ (by omega) | assumption) (by first | exact ht _ (by omega) | assumption)) (va_cwS 6 hts (zz_gS mw_1394 mw_1395 mw_110 mc_yX11_isOn) rfl rfl rfl (by decide +kernel) ⟨Nat.le_of_ble_eq_true rfl, Nat.le_of_ble_eq_true rfl⟩) (zPS2 hPc hDc hK hXN) rfl rfl hl.1 rfl (lv_room (Nat.le_of_ble_eq_true rfl)) dX11_isWithin_149 ⟨Nat.le_of_ble_eq_true rfl, Nat.le_of_ble_eq_true rfl⟩) hS hFc hFc rfl (fun t H1 locs ht hB hk1 hS => ?_)
      obtain ⟨hP1, hD1⟩ := hB
      rw [ht] at hP1
      obtain ⟨hP, hD⟩ := va_join (wr := [(oa ta cI 6 T0)]) (w1 := []) hP hD [] [0] rfl rfl (by decide) (by decide) hk1 hFc hP1 hD1
      clear hk1 hPc hDc hFc hP1 hD1 ht
      generalize H1 = H at hP hS ⊢
      have hP : va_P (dC, dI) classes [(oa ta cI 6 T0)] H := hP
      have hD : va_D A [(oa ta cI 6 T0)] := hD
      refine lv_if_ne (tgt := 175) hx hb dX11_isWithin_152 (by decide) (fun c_15 => ?_) (fun c_15 => ?_)
      · have c_15 : onS (T0 2).toInt (T0 3).toInt (T0 4).toInt (T0 5).toInt px.toInt py.toInt := zp_1 c_15
        refine lv_iconst (v := 1) hx hb dX11_isWithin_175 (by decide) ?_
        refine lv_goto (tgt := 180) hx hb dX11_isWithin_176 (by decide) ?_
        have hP9 := hP.sub (ws' := [(oa ta cI 6 T0)]) [0] rfl
        have hD9 := hD.sub (ws' := [(oa ta cI 6 T0)]) [0] (by decide) rfl
        rw [hQ9]
        exact W.zret (ty := .boolean) (v := 1) hx hb hr (rfl) (fun t ht hW => ⟨⟨congrArg (fun z => Outcome.returned (some (Value.int z))) (show (1 : Int32) = pI (wtM (T0 0).toInt (T0 1).toInt (T0 2).toInt (T0 3).toInt (T0 4).toInt (T0 5).toInt px.toInt py.toInt) from (zp_t (by unfold wtM; first | exact Or.inl ⟨by assumption, by simp only [*, true_or, or_true]⟩ | (intro h; rcases h with ⟨_, h | h | h⟩ | ⟨h, _⟩ <;> contradiction))).symm), by rw [ht]; exact hP9, hD9⟩, hS.F ht⟩) hS.2.2 dX11_isWithin_180
      · have c_15 : ¬ (onS (T0 2).toInt (T0 3).toInt (T0 4).toInt (T0 5).toInt px.toInt py.toInt) := zp_0 c_15
        refine lv_aload_n hx hb dX11_isWithin_155 rfl (lv_at hl 3 rfl) ?_
        refine lv_iconst (v := 4) hx hb dX11_isWithin_156 (by decide) ?_
        refine z_iald hx hb hK hP 0 0 rfl rfl (e := 4) rfl (by omega) (by omega) dX11_isWithin_157 ?_
        refine lv_aload_n hx hb dX11_isWithin_158 rfl (lv_at hl 3 rfl) ?_
        refine lv_iconst (v := 5) hx hb dX11_isWithin_159 (by decide) ?_
        refine z_iald hx hb hK hP 0 0 rfl rfl (e := 5) rfl (by omega) (by omega) dX11_isWithin_160 ?_
        refine lv_aload_n hx hb dX11_isWithin_161 rfl (lv_at hl 3 rfl) ?_
        refine lv_iconst (v := 0) hx hb dX11_isWithin_162 (by decide) ?_
        refine z_iald hx hb hK hP 0 0 rfl rfl (e := 0) rfl (by omega) (by omega) dX11_isWithin_163 ?_
        refine lv_aload_n hx hb dX11_isWithin_164 rfl (lv_at hl 3 rfl) ?_
        refine lv_iconst (v := 1) hx hb dX11_isWithin_165 (by decide) ?_
        refine z_iald hx hb hK hP 0 0 rfl rfl (e := 1) rfl (by omega) (by omega) dX11_isWithin_166 ?_
        refine lv_iload_n hx hb dX11_isWithin_167 rfl (lv_at hl 4 rfl) ?_
        refine lv_iload_n hx hb dX11_isWithin_168 rfl (lv_at hl 5 rfl) ?_
        have hPc := hP.sub (ws' := []) [] rfl
        have hDc := hD.sub (ws' := []) [] (by decide) rfl
        have hFc := va_free (wc := []) hD hS hA [] rfl
        refine zcall (st1 := [.int (pI (onS (T0 4).toInt (T0 5).toInt (T0 0).toInt (T0 1).toInt px.toInt py.toInt))]) (va_runS (As := [.int (T0 4), .int (T0 5), .int (T0 0), .int (T0 1), .int px, .int py]) (rest := []) ⟨hx, hb, hml, hown, hts⟩ (k_M_isOn l dC dI cI cZ cF H.size (T0 4) (T0 5) (T0 0) (T0 1) px py (by first | exact ht _ (by omega) | assumption) (by first | exact ht _ (by omega) | assumption) (by first | exact ht _ (by omega) | assumption) (by first | exact ht _ (by omega) | assumption) (by first | exact ht _ (by omega) | assumption) (by first | exact ht _ (by omega) | assumption)) (va_cwS 6 hts (zz_gS mw_1394 mw_1395 mw_110 mc_yX11_isOn) rfl rfl rfl (by decide +kernel) ⟨Nat.le_of_ble_eq_true rfl, Nat.le_of_ble_eq_true rfl⟩) (zPS2 hPc hDc hK hXN) rfl rfl hl.1 rfl (lv_room (Nat.le_of_ble_eq_true rfl)) dX11_isWithin_169 ⟨Nat.le_of_ble_eq_true rfl, Nat.le_of_ble_eq_true rfl⟩) hS hFc hFc rfl (fun t H1 locs ht hB hk1 hS => ?_)
        obtain ⟨hP1, hD1⟩ := hB
        rw [ht] at hP1
        obtain ⟨hP, hD⟩ := va_join (wr := [(oa ta cI 6 T0)]) (w1 := []) hP hD [] [0] rfl rfl (by decide) (by decide) hk1 hFc hP1 hD1
        clear hk1 hPc hDc hFc hP1 hD1 ht
        generalize H1 = H at hP hS ⊢
        have hP : va_P (dC, dI) classes [(oa ta cI 6 T0)] H := hP
        have hD : va_D A [(oa ta cI 6 T0)] := hD
        refine lv_if_eq (tgt := 179) hx hb dX11_isWithin_172 (by decide) (fun c_16 => ?_) (fun c_16 => ?_)
        · have c_16 : ¬ (onS (T0 4).toInt (T0 5).toInt (T0 0).toInt (T0 1).toInt px.toInt py.toInt) := zp_0 c_16
          refine lv_iconst (v := 0) hx hb dX11_isWithin_179 (by decide) ?_
          have hP9 := hP.sub (ws' := [(oa ta cI 6 T0)]) [0] rfl
          have hD9 := hD.sub (ws' := [(oa ta cI 6 T0)]) [0] (by decide) rfl
          rw [hQ9]
          exact W.zret (ty := .boolean) (v := 0) hx hb hr (rfl) (fun t ht hW => ⟨⟨congrArg (fun z => Outcome.returned (some (Value.int z))) (show (0 : Int32) = pI (wtM (T0 0).toInt (T0 1).toInt (T0 2).toInt (T0 3).toInt (T0 4).toInt (T0 5).toInt px.toInt py.toInt) from (zp_f (by unfold wtM; first | exact Or.inl ⟨by assumption, by simp only [*, true_or, or_true]⟩ | (intro h; rcases h with ⟨_, h | h | h⟩ | ⟨h, _⟩ <;> contradiction))).symm), by rw [ht]; exact hP9, hD9⟩, hS.F ht⟩) hS.2.2 dX11_isWithin_180
        · have c_16 : onS (T0 4).toInt (T0 5).toInt (T0 0).toInt (T0 1).toInt px.toInt py.toInt := zp_1 c_16
          refine lv_iconst (v := 1) hx hb dX11_isWithin_175 (by decide) ?_
          refine lv_goto (tgt := 180) hx hb dX11_isWithin_176 (by decide) ?_
          have hP9 := hP.sub (ws' := [(oa ta cI 6 T0)]) [0] rfl
          have hD9 := hD.sub (ws' := [(oa ta cI 6 T0)]) [0] (by decide) rfl
          rw [hQ9]
          exact W.zret (ty := .boolean) (v := 1) hx hb hr (rfl) (fun t ht hW => ⟨⟨congrArg (fun z => Outcome.returned (some (Value.int z))) (show (1 : Int32) = pI (wtM (T0 0).toInt (T0 1).toInt (T0 2).toInt (T0 3).toInt (T0 4).toInt (T0 5).toInt px.toInt py.toInt) from (zp_t (by unfold wtM; first | exact Or.inl ⟨by assumption, by simp only [*, true_or, or_true]⟩ | (intro h; rcases h with ⟨_, h | h | h⟩ | ⟨h, _⟩ <;> contradiction))).symm), by rw [ht]; exact hP9, hD9⟩, hS.F ht⟩) hS.2.2 dX11_isWithin_180
set_option maxHeartbeats 4000000 in
set_option maxRecDepth 100000 in
theorem k_M_take (l : Launch) (dC : Nat → ClassId) (dI : Nat → Nat → Nat) (cI cZ cF : ClassId) (sz : Nat) (k0 : Nat) (a : Nat → Nat) (I0 : Nat → Int32) (J0 : Nat → Int64) (f : Nat) (n : Nat) (mn : Nat → Int32) (cx : Nat → Int32) (cy : Nat → Int32) (P0 : Nat → Int32) (Q0 : Nat → Int32) (hf_f : f ≤ 200) (hm_f : mn f = nI n) (hn_f : n ≤ 40) : Met l yX11_take (.code yX11_take cX11_take 3 none :: ws0) ({ frames := 0, cells := 0, slots := 0, locals := 0 } : Room) (va_Pc [.ref k0, .int (nI f)] (zPre (dC, dI) classes (zTy cI cZ cF) [(om k0 a I0 J0), (oa (a 11) cI 201 mn), (oa (a 12) cI 8040 cx), (oa (a 13) cI 8040 cy), (oa (a 29) cI 42 P0), (oa (a 30) cI 42 Q0)] sz zXN)) (zQ none (fun t => ∃ (P1 : Nat → Int32), ∃ (Q1 : Nat → Int32), (∀ j, j < n → P1 j = cx (40 * f + j) ∧ Q1 j = cy (40 * f + j)) ∧ va_P (dC, dI) classes [(om k0 a (upd I0 31 (nI n)) J0), (oa (a 11) cI 201 mn), (oa (a 12) cI 8040 cx), (oa (a 13) cI 8040 cy), (oa (a 29) cI 42 P1), (oa (a 30) cI 42 Q1)] t.heap ∧ va_D (va_A [(om k0 a I0 J0), (oa (a 11) cI 201 mn), (oa (a 12) cI 8040 cx), (oa (a 13) cI 8040 cy), (oa (a 29) cI 42 P0), (oa (a 30) cI 42 Q0)] sz) [(om k0 a (upd I0 31 (nI n)) J0), (oa (a 11) cI 201 mn), (oa (a 12) cI 8040 cx), (oa (a 13) cI 8040 cy), (oa (a 29) cI 42 P1), (oa (a 30) cI 42 Q1)]) (va_A [(om k0 a I0 J0), (oa (a 11) cI 201 mn), (oa (a 12) cI 8040 cx), (oa (a 13) cI 8040 cy), (oa (a 29) cI 42 P0), (oa (a 30) cI 42 Q0)] sz)) 0 0 (va_A [(om k0 a I0 J0), (oa (a 11) cI 201 mn), (oa (a 12) cI 8040 cx), (oa (a 13) cI 8040 cy), (oa (a 29) cI 42 P0), (oa (a 30) cI 42 Q0)] sz) := by
  refine Met.ofW (cc := cX11_take) (maxL := 3) (ret := none) (by decide) rfl ?_
  intro p e s m args below meth c s₁ B hml hv
  obtain ⟨rfl, hsz, hP, hK, hD0, hXN⟩ := hv
  have hx := B.exec
  have hb := B.bytes
  have hr := B.returns
  have hts0 := atoms_spec (ws := .code yX11_take cX11_take 3 none :: ws0) B.pre
  have hts : ∀ w9 ∈ ws0, w9.before ([.ref k0, .int (nI f)] : List Value).toArray s = true := fun w9 h => hts0 w9 (List.mem_cons_of_mem _ h)
  have hown : s.vm.findClass "ScaleShopModel" = some m.cls := findClass_of_methodNamed B.named
  have hlocks := B.notSynchronized
  subst hsz
  have hD := hD0.self (sz := s.heap.size)
  clear hD0
  generalize hAe : va_A [(om k0 a I0 J0), (oa (a 11) cI 201 mn), (oa (a 12) cI 8040 cx), (oa (a 13) cI 8040 cy), (oa (a 29) cI 42 P0), (oa (a 30) cI 42 Q0)] s.heap.size = A at hD ⊢
  have hA : ∀ q : Nat, s.heap.size ≤ q → A q := fun q h => by rw [← hAe]; exact Or.inr h
  clear hAe
  have hS : va_S A s.heap s.heap [] := va_S.rf
  have hP : va_P (dC, dI) classes [(om k0 a I0 J0), (oa (a 11) cI 201 mn), (oa (a 12) cI 8040 cx), (oa (a 13) cI 8040 cy), (oa (a 29) cI 42 P0), (oa (a 30) cI 42 Q0)] s.heap := hP
  obtain ⟨Q9, hQ9⟩ : ∃ Q9 : State → Prop, Q9 = MQ below (zQ none (fun t => ∃ (P1 : Nat → Int32), ∃ (Q1 : Nat → Int32), (∀ j, j < n → P1 j = cx (40 * f + j) ∧ Q1 j = cy (40 * f + j)) ∧ va_P (dC, dI) classes [(om k0 a (upd I0 31 (nI n)) J0), (oa (a 11) cI 201 mn), (oa (a 12) cI 8040 cx), (oa (a 13) cI 8040 cy), (oa (a 29) cI 42 P1), (oa (a 30) cI 42 Q1)] t.heap ∧ va_D A [(om k0 a (upd I0 31 (nI n)) J0), (oa (a 11) cI 201 mn), (oa (a 12) cI 8040 cx), (oa (a 13) cI 8040 cy), (oa (a 29) cI 42 P1), (oa (a 30) cI 42 Q1)]) A) ([.ref k0, .int (nI f)] : List Value).toArray s 0 0 A := ⟨_, rfl⟩
  rw [← hQ9]
  have hl := lv_entry ([.ref k0, .int (nI f)]) (n := 3) (Nat.le_of_ble_eq_true rfl)
  rw [lg_entry_eq]
  generalize (lg_sl ([.ref k0, .int (nI f)]) ++ List.replicate (3 - (lg_sl ([.ref k0, .int (nI f)])).length) Slot.unset).toArray = ls at hl ⊢
  have hl : lv_has ls 3 [(0, .ref k0), (1, .int (nI f))] := hl
  refine lv_aload_n hx hb dX11_take_0 rfl (lv_at hl 0 rfl) ?_
  refine lv_aload_n hx hb dX11_take_1 rfl (lv_at hl 0 rfl) ?_
  refine va_get (D := (dC, dI)) (ci := 9) (v := .ref (a 11)) (C := RX11) (T := TX11) (N := 55) hx hb hts inX11 hown hK hP 0 rfl rfl 11 (by decide) (hts _ mw_1170) (fun _ h9 => h9) rfl dX11_take_2 ?_
  refine lv_iload_n hx hb dX11_take_5 rfl (lv_at hl 1 rfl) ?_
  refine z_iald hx hb hK hP 1 0 rfl rfl (e := f) rfl (by omega) (by omega) dX11_take_6 ?_
  refine zz_i (v := nI n) (hm_f) ?_
  refine va_put (D := (dC, dI)) (ci := 9) (v := .int (nI n)) (ty := .int) (C := RX11) (T := TX11) (N := 55) hx hb hts inX11 tyX11 tyX11_ok nmX11 hown hK hP hD hS 0 rfl rfl 31 (by decide) (hts _ mw_1190) (fun _ h9 => h9) rfl (by decide +kernel) rfl rfl (Nat.le_of_ble_eq_true rfl) dX11_take_7 (fun H locs hP hD hS => ?_)
  have hP : va_P (dC, dI) classes [(om k0 a (upd I0 31 (nI n)) J0), (oa (a 11) cI 201 mn), (oa (a 12) cI 8040 cx), (oa (a 13) cI 8040 cy), (oa (a 29) cI 42 P0), (oa (a 30) cI 42 Q0)] H := hP
  have hD : va_D A [(om k0 a (upd I0 31 (nI n)) J0), (oa (a 11) cI 201 mn), (oa (a 12) cI 8040 cx), (oa (a 13) cI 8040 cy), (oa (a 29) cI 42 P0), (oa (a 30) cI 42 Q0)] := hD
  refine lv_iconst (v := 0) hx hb dX11_take_10 (by decide) ?_
  refine lv_istore_n (lv' := [(2, .int 0), (0, .ref k0), (1, .int (nI f))]) hx hb dX11_take_11 rfl hl (by decide) rfl (fun ls hl => ?_)
  have hl_12 : ∀ (n9 : Nat) (k : Nat) (P1 : Nat → Int32) (Q1 : Nat → Int32) (H : Heap) (locs : List Loc) (ls : Array Slot), n - k < n9 → (k ≤ n) → (∀ j, j < k → P1 j = cx (40 * f + j) ∧ Q1 j = cy (40 * f + j)) → va_P (dC, dI) classes [(om k0 a (upd I0 31 (nI n)) J0), (oa (a 11) cI 201 mn), (oa (a 12) cI 8040 cx), (oa (a 13) cI 8040 cy), (oa (a 29) cI 42 P1), (oa (a 30) cI 42 Q1)] H → va_D A [(om k0 a (upd I0 31 (nI n)) J0), (oa (a 11) cI 201 mn), (oa (a 12) cI 8040 cx), (oa (a 13) cI 8040 cy), (oa (a 29) cI 42 P1), (oa (a 30) cI 42 Q1)] → va_S A s.heap H locs → lv_has ls 3 [(2, .int (nI k)), (0, .ref k0), (1, .int (nI f))] → W p l e ((headSpec (.code yX11_take cX11_take 3 none :: ws0) ({ frames := 0, cells := 0, slots := 0, locals := 0 } : Room)).room) s m ([.ref k0, .int (nI f)] : List Value).toArray below meth c H locs 0 0 Q9 (F0 m 12 ls []) := by
    intro n9
    induction n9 with
    | zero => intro k P1 Q1 H locs ls hm; exact absurd hm (Nat.not_lt_zero _)
    | succ n9 ih_12 =>
      intro k P1 Q1 H locs ls hm hk hall hP hD hS hl
      refine lv_iload_n hx hb dX11_take_12 rfl (lv_at hl 0 rfl) ?_
      refine lv_aload_n hx hb dX11_take_13 rfl (lv_at hl 1 rfl) ?_
      refine va_get (D := (dC, dI)) (ci := 9) (v := .int (nI n)) (C := RX11) (T := TX11) (N := 55) hx hb hts inX11 hown hK hP 0 rfl rfl 31 (by decide) (hts _ mw_1190) (fun _ h9 => h9) rfl dX11_take_14 ?_
      refine lv_icmp_ge (tgt := 60) hx hb dX11_take_17 (by decide) (fun c_1 => ?_) (fun c_1 => ?_)
      · have c_1 : ((n : Nat) : Int) ≤ ((k : Nat) : Int) := zc_le (nI_toInt (by omega)) (nI_toInt (by omega)) c_1
        have hP9 := hP.sub (ws' := [(om k0 a (upd I0 31 (nI n)) J0), (oa (a 11) cI 201 mn), (oa (a 12) cI 8040 cx), (oa (a 13) cI 8040 cy), (oa (a 29) cI 42 P1), (oa (a 30) cI 42 Q1)]) [0, 1, 2, 3, 4, 5] rfl
        have hD9 := hD.sub (ws' := [(om k0 a (upd I0 31 (nI n)) J0), (oa (a 11) cI 201 mn), (oa (a 12) cI 8040 cx), (oa (a 13) cI 8040 cy), (oa (a 29) cI 42 P1), (oa (a 30) cI 42 Q1)]) [0, 1, 2, 3, 4, 5] (by decide) rfl
        rw [hQ9]
        exact W.vret hx hb hr (fun t ht hW => ⟨⟨rfl, P1, Q1, (fun j hj => hall j (by omega)), by rw [ht]; exact hP9, hD9⟩, hS.F ht⟩) hS.2.2 dX11_take_60
      · have c_1 : ((k : Nat) : Int) < ((n : Nat) : Int) := zc_nle (nI_toInt (by omega)) (nI_toInt (by omega)) c_1
        refine lv_aload_n hx hb dX11_take_20 rfl (lv_at hl 1 rfl) ?_
        refine va_get (D := (dC, dI)) (ci := 9) (v := .ref (a 29)) (C := RX11) (T := TX11) (N := 55) hx hb hts inX11 hown hK hP 0 rfl rfl 29 (by decide) (hts _ mw_1188) (fun _ h9 => h9) rfl dX11_take_21 ?_
        refine lv_iload_n hx hb dX11_take_24 rfl (lv_at hl 0 rfl) ?_
        refine lv_aload_n hx hb dX11_take_25 rfl (lv_at hl 1 rfl) ?_
        refine va_get (D := (dC, dI)) (ci := 9) (v := .ref (a 12)) (C := RX11) (T := TX11) (N := 55) hx hb hts inX11 hown hK hP 0 rfl rfl 12 (by decide) (hts _ mw_1171) (fun _ h9 => h9) rfl dX11_take_26 ?_
        refine lv_bipush (v := 40) hx hb dX11_take_29 (by decide) ?_
        refine lv_iload_n hx hb dX11_take_31 rfl (lv_at hl 2 rfl) ?_
        refine lv_imul hx hb dX11_take_32 ?_
        refine zz_i (v := nI (40 * f)) (pk_mul 40 f) ?_
        refine lv_iload_n hx hb dX11_take_33 rfl (lv_at hl 0 rfl) ?_
        refine lv_iadd hx hb dX11_take_34 ?_
        refine zz_i (v := nI (40 * f + k)) (nI_add (40 * f) k) ?_
        refine z_iald hx hb hK hP 2 0 rfl rfl (e := 40 * f + k) rfl (by omega) (by omega) dX11_take_35 ?_
        refine z_iast hx hb hK hP hD hS 4 0 rfl rfl (e := k) (x := cx (40 * f + k)) rfl (by omega) (by omega) dX11_take_36 (fun H locs hP hD hS => ?_)
        have hP : va_P (dC, dI) classes [(om k0 a (upd I0 31 (nI n)) J0), (oa (a 11) cI 201 mn), (oa (a 12) cI 8040 cx), (oa (a 13) cI 8040 cy), (oa (a 29) cI 42 (upd P1 k (cx (40 * f + k)))), (oa (a 30) cI 42 Q1)] H := hP
        have hD : va_D A [(om k0 a (upd I0 31 (nI n)) J0), (oa (a 11) cI 201 mn), (oa (a 12) cI 8040 cx), (oa (a 13) cI 8040 cy), (oa (a 29) cI 42 (upd P1 k (cx (40 * f + k)))), (oa (a 30) cI 42 Q1)] := hD
        refine lv_aload_n hx hb dX11_take_37 rfl (lv_at hl 1 rfl) ?_
        refine va_get (D := (dC, dI)) (ci := 9) (v := .ref (a 30)) (C := RX11) (T := TX11) (N := 55) hx hb hts inX11 hown hK hP 0 rfl rfl 30 (by decide) (hts _ mw_1189) (fun _ h9 => h9) rfl dX11_take_38 ?_
        refine lv_iload_n hx hb dX11_take_41 rfl (lv_at hl 0 rfl) ?_
        refine lv_aload_n hx hb dX11_take_42 rfl (lv_at hl 1 rfl) ?_
        refine va_get (D := (dC, dI)) (ci := 9) (v := .ref (a 13)) (C := RX11) (T := TX11) (N := 55) hx hb hts inX11 hown hK hP 0 rfl rfl 13 (by decide) (hts _ mw_1172) (fun _ h9 => h9) rfl dX11_take_43 ?_
        refine lv_bipush (v := 40) hx hb dX11_take_46 (by decide) ?_
        refine lv_iload_n hx hb dX11_take_48 rfl (lv_at hl 2 rfl) ?_
        refine lv_imul hx hb dX11_take_49 ?_
        refine zz_i (v := nI (40 * f)) (pk_mul 40 f) ?_
        refine lv_iload_n hx hb dX11_take_50 rfl (lv_at hl 0 rfl) ?_
        refine lv_iadd hx hb dX11_take_51 ?_
        refine zz_i (v := nI (40 * f + k)) (nI_add (40 * f) k) ?_
        refine z_iald hx hb hK hP 3 0 rfl rfl (e := 40 * f + k) rfl (by omega) (by omega) dX11_take_52 ?_
        refine z_iast hx hb hK hP hD hS 5 0 rfl rfl (e := k) (x := cy (40 * f + k)) rfl (by omega) (by omega) dX11_take_53 (fun H locs hP hD hS => ?_)
        have hP : va_P (dC, dI) classes [(om k0 a (upd I0 31 (nI n)) J0), (oa (a 11) cI 201 mn), (oa (a 12) cI 8040 cx), (oa (a 13) cI 8040 cy), (oa (a 29) cI 42 (upd P1 k (cx (40 * f + k)))), (oa (a 30) cI 42 (upd Q1 k (cy (40 * f + k))))] H := hP
        have hD : va_D A [(om k0 a (upd I0 31 (nI n)) J0), (oa (a 11) cI 201 mn), (oa (a 12) cI 8040 cx), (oa (a 13) cI 8040 cy), (oa (a 29) cI 42 (upd P1 k (cx (40 * f + k)))), (oa (a 30) cI 42 (upd Q1 k (cy (40 * f + k))))] := hD
        refine lv_iinc (v := nI (k + 1)) (lv' := [(2, .int (nI (k + 1))), (0, .ref k0), (1, .int (nI f))]) hx hb dX11_take_54 hl (k := 0) rfl (nI_add k 1) (by decide) rfl (fun ls hl => ?_)
        refine lv_goto (tgt := 12) hx hb dX11_take_57 (by decide) ?_
        exact ih_12 (k + 1) (upd P1 k (cx (40 * f + k))) (upd Q1 k (cy (40 * f + k))) H locs ls (by omega) (by omega) (by intro j hj; rcases Nat.lt_or_ge j k with h | h; simp only [upd, if_neg (show j ≠ k by omega)]; exact hall j h; rw [show j = k by omega]; simp only [upd, if_true]; first | exact ⟨rfl, rfl⟩ | exact ⟨trivial, trivial⟩) hP hD hS (lv_sub hl [0, 1, 2] rfl)
  exact hl_12 _ 0 P0 Q0 H locs ls (Nat.lt_succ_self _) (by omega) (by intro j hj; omega) hP hD hS (lv_sub hl [0, 1, 2] rfl)
set_option maxHeartbeats 4000000 in
set_option maxRecDepth 100000 in
theorem k_M_moves (l : Launch) (dC : Nat → ClassId) (dI : Nat → Nat → Nat) (cI cZ cF : ClassId) (sz : Nat) (k0 : Nat) (a : Nat → Nat) (I0 : Nat → Int32) (J0 : Nat → Int64) (f : Nat) (on : Nat) (cx : Nat → Int32) (cy : Nat → Int32) (ox : Nat → Int32) (oy : Nat → Int32) (hf_f : f ≤ 200) (hon : I0 35 = nI on) (ho40 : on ≤ 40) : Met l yX11_moves (.code yX11_moves cX11_moves 3 (some .boolean) :: ws0) ({ frames := 0, cells := 0, slots := 0, locals := 0 } : Room) (va_Pc [.ref k0, .int (nI f)] (zPre (dC, dI) classes (zTy cI cZ cF) [(om k0 a I0 J0), (oa (a 12) cI 8040 cx), (oa (a 13) cI 8040 cy), (oa (a 33) cI 42 ox), (oa (a 34) cI 42 oy)] sz zXN)) (zQ (some (.int (pI (∃ k, k < on ∧ ¬ ((cx (40 * f + k)).toInt = (ox k).toInt ∧ (cy (40 * f + k)).toInt = (oy k).toInt))))) (fun t => va_P (dC, dI) classes [(om k0 a I0 J0), (oa (a 12) cI 8040 cx), (oa (a 13) cI 8040 cy), (oa (a 33) cI 42 ox), (oa (a 34) cI 42 oy)] t.heap ∧ va_D (va_A [(om k0 a I0 J0), (oa (a 12) cI 8040 cx), (oa (a 13) cI 8040 cy), (oa (a 33) cI 42 ox), (oa (a 34) cI 42 oy)] sz) [(om k0 a I0 J0), (oa (a 12) cI 8040 cx), (oa (a 13) cI 8040 cy), (oa (a 33) cI 42 ox), (oa (a 34) cI 42 oy)]) (va_A [(om k0 a I0 J0), (oa (a 12) cI 8040 cx), (oa (a 13) cI 8040 cy), (oa (a 33) cI 42 ox), (oa (a 34) cI 42 oy)] sz)) 0 0 (va_A [(om k0 a I0 J0), (oa (a 12) cI 8040 cx), (oa (a 13) cI 8040 cy), (oa (a 33) cI 42 ox), (oa (a 34) cI 42 oy)] sz) := by
  refine Met.ofW (cc := cX11_moves) (maxL := 3) (ret := (some .boolean)) (by decide) rfl ?_
  intro p e s m args below meth c s₁ B hml hv
  obtain ⟨rfl, hsz, hP, hK, hD0, hXN⟩ := hv
  have hx := B.exec
  have hb := B.bytes
  have hr := B.returns
  have hts0 := atoms_spec (ws := .code yX11_moves cX11_moves 3 (some .boolean) :: ws0) B.pre
  have hts : ∀ w9 ∈ ws0, w9.before ([.ref k0, .int (nI f)] : List Value).toArray s = true := fun w9 h => hts0 w9 (List.mem_cons_of_mem _ h)
  have hown : s.vm.findClass "ScaleShopModel" = some m.cls := findClass_of_methodNamed B.named
  have hlocks := B.notSynchronized
  subst hsz
  have hD := hD0.self (sz := s.heap.size)
  clear hD0
  generalize hAe : va_A [(om k0 a I0 J0), (oa (a 12) cI 8040 cx), (oa (a 13) cI 8040 cy), (oa (a 33) cI 42 ox), (oa (a 34) cI 42 oy)] s.heap.size = A at hD ⊢
  have hA : ∀ q : Nat, s.heap.size ≤ q → A q := fun q h => by rw [← hAe]; exact Or.inr h
  clear hAe
  have hS : va_S A s.heap s.heap [] := va_S.rf
  have hP : va_P (dC, dI) classes [(om k0 a I0 J0), (oa (a 12) cI 8040 cx), (oa (a 13) cI 8040 cy), (oa (a 33) cI 42 ox), (oa (a 34) cI 42 oy)] s.heap := hP
  obtain ⟨Q9, hQ9⟩ : ∃ Q9 : State → Prop, Q9 = MQ below (zQ (some (.int (pI (∃ k, k < on ∧ ¬ ((cx (40 * f + k)).toInt = (ox k).toInt ∧ (cy (40 * f + k)).toInt = (oy k).toInt))))) (fun t => va_P (dC, dI) classes [(om k0 a I0 J0), (oa (a 12) cI 8040 cx), (oa (a 13) cI 8040 cy), (oa (a 33) cI 42 ox), (oa (a 34) cI 42 oy)] t.heap ∧ va_D A [(om k0 a I0 J0), (oa (a 12) cI 8040 cx), (oa (a 13) cI 8040 cy), (oa (a 33) cI 42 ox), (oa (a 34) cI 42 oy)]) A) ([.ref k0, .int (nI f)] : List Value).toArray s 0 0 A := ⟨_, rfl⟩
  rw [← hQ9]
  have hl := lv_entry ([.ref k0, .int (nI f)]) (n := 3) (Nat.le_of_ble_eq_true rfl)
  rw [lg_entry_eq]
  generalize (lg_sl ([.ref k0, .int (nI f)]) ++ List.replicate (3 - (lg_sl ([.ref k0, .int (nI f)])).length) Slot.unset).toArray = ls at hl ⊢
  have hl : lv_has ls 3 [(0, .ref k0), (1, .int (nI f))] := hl
  refine lv_iconst (v := 0) hx hb dX11_moves_0 (by decide) ?_
  refine lv_istore_n (lv' := [(2, .int 0), (0, .ref k0), (1, .int (nI f))]) hx hb dX11_moves_1 rfl hl (by decide) rfl (fun ls hl => ?_)
  have hl_2 : ∀ (n9 : Nat) (k : Nat) (H : Heap) (locs : List Loc) (ls : Array Slot), on - k < n9 → (k ≤ on) → (∀ j, j < k → (cx (40 * f + j)).toInt = (ox j).toInt ∧ (cy (40 * f + j)).toInt = (oy j).toInt) → va_P (dC, dI) classes [(om k0 a I0 J0), (oa (a 12) cI 8040 cx), (oa (a 13) cI 8040 cy), (oa (a 33) cI 42 ox), (oa (a 34) cI 42 oy)] H → va_D A [(om k0 a I0 J0), (oa (a 12) cI 8040 cx), (oa (a 13) cI 8040 cy), (oa (a 33) cI 42 ox), (oa (a 34) cI 42 oy)] → va_S A s.heap H locs → lv_has ls 3 [(2, .int (nI k)), (0, .ref k0), (1, .int (nI f))] → W p l e ((headSpec (.code yX11_moves cX11_moves 3 (some .boolean) :: ws0) ({ frames := 0, cells := 0, slots := 0, locals := 0 } : Room)).room) s m ([.ref k0, .int (nI f)] : List Value).toArray below meth c H locs 0 0 Q9 (F0 m 2 ls []) := by
    intro n9
    induction n9 with
    | zero => intro k H locs ls hm; exact absurd hm (Nat.not_lt_zero _)
    | succ n9 ih_2 =>
      intro k H locs ls hm hk hall hP hD hS hl
      refine lv_iload_n hx hb dX11_moves_2 rfl (lv_at hl 0 rfl) ?_
      refine lv_aload_n hx hb dX11_moves_3 rfl (lv_at hl 1 rfl) ?_
      refine va_get (D := (dC, dI)) (ci := 9) (v := .int (I0 35)) (C := RX11) (T := TX11) (N := 55) hx hb hts inX11 hown hK hP 0 rfl rfl 35 (by decide) (hts _ mw_1194) (fun _ h9 => h9) rfl dX11_moves_4 ?_
      refine zz_i (v := nI on) (hon) ?_
      refine lv_icmp_ge (tgt := 58) hx hb dX11_moves_7 (by decide) (fun c_1 => ?_) (fun c_1 => ?_)
      · have c_1 : ((on : Nat) : Int) ≤ ((k : Nat) : Int) := zc_le (nI_toInt (by omega)) (nI_toInt (by omega)) c_1
        refine lv_iconst (v := 0) hx hb dX11_moves_58 (by decide) ?_
        have hP9 := hP.sub (ws' := [(om k0 a I0 J0), (oa (a 12) cI 8040 cx), (oa (a 13) cI 8040 cy), (oa (a 33) cI 42 ox), (oa (a 34) cI 42 oy)]) [0, 1, 2, 3, 4] rfl
        have hD9 := hD.sub (ws' := [(om k0 a I0 J0), (oa (a 12) cI 8040 cx), (oa (a 13) cI 8040 cy), (oa (a 33) cI 42 ox), (oa (a 34) cI 42 oy)]) [0, 1, 2, 3, 4] (by decide) rfl
        rw [hQ9]
        exact W.zret (ty := .boolean) (v := 0) hx hb hr (rfl) (fun t ht hW => ⟨⟨congrArg (fun z => Outcome.returned (some (Value.int z))) (show (0 : Int32) = pI (∃ k, k < on ∧ ¬ ((cx (40 * f + k)).toInt = (ox k).toInt ∧ (cy (40 * f + k)).toInt = (oy k).toInt)) from (zp_f (by first | exact ⟨k, by omega, by omega⟩ | exact fun ⟨j, hj, h⟩ => h (hall j (by omega)))).symm), by rw [ht]; exact hP9, hD9⟩, hS.F ht⟩) hS.2.2 dX11_moves_59
      · have c_1 : ((k : Nat) : Int) < ((on : Nat) : Int) := zc_nle (nI_toInt (by omega)) (nI_toInt (by omega)) c_1
        refine lv_aload_n hx hb dX11_moves_10 rfl (lv_at hl 1 rfl) ?_
        refine va_get (D := (dC, dI)) (ci := 9) (v := .ref (a 12)) (C := RX11) (T := TX11) (N := 55) hx hb hts inX11 hown hK hP 0 rfl rfl 12 (by decide) (hts _ mw_1171) (fun _ h9 => h9) rfl dX11_moves_11 ?_
        refine lv_bipush (v := 40) hx hb dX11_moves_14 (by decide) ?_
        refine lv_iload_n hx hb dX11_moves_16 rfl (lv_at hl 2 rfl) ?_
        refine lv_imul hx hb dX11_moves_17 ?_
        refine zz_i (v := nI (40 * f)) (pk_mul 40 f) ?_
        refine lv_iload_n hx hb dX11_moves_18 rfl (lv_at hl 0 rfl) ?_
        refine lv_iadd hx hb dX11_moves_19 ?_
        refine zz_i (v := nI (40 * f + k)) (nI_add (40 * f) k) ?_
        refine z_iald hx hb hK hP 1 0 rfl rfl (e := 40 * f + k) rfl (by omega) (by omega) dX11_moves_20 ?_
        refine lv_aload_n hx hb dX11_moves_21 rfl (lv_at hl 1 rfl) ?_
        refine va_get (D := (dC, dI)) (ci := 9) (v := .ref (a 33)) (C := RX11) (T := TX11) (N := 55) hx hb hts inX11 hown hK hP 0 rfl rfl 33 (by decide) (hts _ mw_1192) (fun _ h9 => h9) rfl dX11_moves_22 ?_
        refine lv_iload_n hx hb dX11_moves_25 rfl (lv_at hl 0 rfl) ?_
        refine z_iald hx hb hK hP 3 0 rfl rfl (e := k) rfl (by omega) (by omega) dX11_moves_26 ?_
        refine lv_icmp_ne (tgt := 50) hx hb dX11_moves_27 (by decide) (fun c_2 => ?_) (fun c_2 => ?_)
        · have c_2 : ¬ (cx (40 * f + k)).toInt = (ox k).toInt := zc_ne rfl rfl c_2
          refine lv_iconst (v := 1) hx hb dX11_moves_50 (by decide) ?_
          have hP9 := hP.sub (ws' := [(om k0 a I0 J0), (oa (a 12) cI 8040 cx), (oa (a 13) cI 8040 cy), (oa (a 33) cI 42 ox), (oa (a 34) cI 42 oy)]) [0, 1, 2, 3, 4] rfl
          have hD9 := hD.sub (ws' := [(om k0 a I0 J0), (oa (a 12) cI 8040 cx), (oa (a 13) cI 8040 cy), (oa (a 33) cI 42 ox), (oa (a 34) cI 42 oy)]) [0, 1, 2, 3, 4] (by decide) rfl
          rw [hQ9]
          exact W.zret (ty := .boolean) (v := 1) hx hb hr (rfl) (fun t ht hW => ⟨⟨congrArg (fun z => Outcome.returned (some (Value.int z))) (show (1 : Int32) = pI (∃ k, k < on ∧ ¬ ((cx (40 * f + k)).toInt = (ox k).toInt ∧ (cy (40 * f + k)).toInt = (oy k).toInt)) from (zp_t (by first | exact ⟨k, by omega, by omega⟩ | exact fun ⟨j, hj, h⟩ => h (hall j (by omega)))).symm), by rw [ht]; exact hP9, hD9⟩, hS.F ht⟩) hS.2.2 dX11_moves_51
        · have c_2 : (cx (40 * f + k)).toInt = (ox k).toInt := zc_eq rfl rfl c_2
          refine lv_aload_n hx hb dX11_moves_30 rfl (lv_at hl 1 rfl) ?_
          refine va_get (D := (dC, dI)) (ci := 9) (v := .ref (a 13)) (C := RX11) (T := TX11) (N := 55) hx hb hts inX11 hown hK hP 0 rfl rfl 13 (by decide) (hts _ mw_1172) (fun _ h9 => h9) rfl dX11_moves_31 ?_
          refine lv_bipush (v := 40) hx hb dX11_moves_34 (by decide) ?_
          refine lv_iload_n hx hb dX11_moves_36 rfl (lv_at hl 2 rfl) ?_
          refine lv_imul hx hb dX11_moves_37 ?_
          refine zz_i (v := nI (40 * f)) (pk_mul 40 f) ?_
          refine lv_iload_n hx hb dX11_moves_38 rfl (lv_at hl 0 rfl) ?_
          refine lv_iadd hx hb dX11_moves_39 ?_
          refine zz_i (v := nI (40 * f + k)) (nI_add (40 * f) k) ?_
          refine z_iald hx hb hK hP 2 0 rfl rfl (e := 40 * f + k) rfl (by omega) (by omega) dX11_moves_40 ?_
          refine lv_aload_n hx hb dX11_moves_41 rfl (lv_at hl 1 rfl) ?_
          refine va_get (D := (dC, dI)) (ci := 9) (v := .ref (a 34)) (C := RX11) (T := TX11) (N := 55) hx hb hts inX11 hown hK hP 0 rfl rfl 34 (by decide) (hts _ mw_1193) (fun _ h9 => h9) rfl dX11_moves_42 ?_
          refine lv_iload_n hx hb dX11_moves_45 rfl (lv_at hl 0 rfl) ?_
          refine z_iald hx hb hK hP 4 0 rfl rfl (e := k) rfl (by omega) (by omega) dX11_moves_46 ?_
          refine lv_icmp_eq (tgt := 52) hx hb dX11_moves_47 (by decide) (fun c_3 => ?_) (fun c_3 => ?_)
          · have c_3 : (cy (40 * f + k)).toInt = (oy k).toInt := zc_eq rfl rfl c_3
            refine lv_iinc (v := nI (k + 1)) (lv' := [(2, .int (nI (k + 1))), (0, .ref k0), (1, .int (nI f))]) hx hb dX11_moves_52 hl (k := 0) rfl (nI_add k 1) (by decide) rfl (fun ls hl => ?_)
            refine lv_goto (tgt := 2) hx hb dX11_moves_55 (by decide) ?_
            exact ih_2 (k + 1) H locs ls (by omega) (by omega) (by intro j hj; rcases Nat.lt_or_ge j k with h | h; exact hall j h; rw [show j = k by omega]; omega) hP hD hS (lv_sub hl [0, 1, 2] rfl)
          · have c_3 : ¬ (cy (40 * f + k)).toInt = (oy k).toInt := zc_ne rfl rfl c_3
            refine lv_iconst (v := 1) hx hb dX11_moves_50 (by decide) ?_
            have hP9 := hP.sub (ws' := [(om k0 a I0 J0), (oa (a 12) cI 8040 cx), (oa (a 13) cI 8040 cy), (oa (a 33) cI 42 ox), (oa (a 34) cI 42 oy)]) [0, 1, 2, 3, 4] rfl
            have hD9 := hD.sub (ws' := [(om k0 a I0 J0), (oa (a 12) cI 8040 cx), (oa (a 13) cI 8040 cy), (oa (a 33) cI 42 ox), (oa (a 34) cI 42 oy)]) [0, 1, 2, 3, 4] (by decide) rfl
            rw [hQ9]
            exact W.zret (ty := .boolean) (v := 1) hx hb hr (rfl) (fun t ht hW => ⟨⟨congrArg (fun z => Outcome.returned (some (Value.int z))) (show (1 : Int32) = pI (∃ k, k < on ∧ ¬ ((cx (40 * f + k)).toInt = (ox k).toInt ∧ (cy (40 * f + k)).toInt = (oy k).toInt)) from (zp_t (by first | exact ⟨k, by omega, by omega⟩ | exact fun ⟨j, hj, h⟩ => h (hall j (by omega)))).symm), by rw [ht]; exact hP9, hD9⟩, hS.F ht⟩) hS.2.2 dX11_moves_51
  exact hl_2 _ 0 s.heap [] ls (Nat.lt_succ_self _) (by omega) (by intro j hj; omega) hP hD hS (lv_sub hl [0, 1, 2] rfl)
set_option maxHeartbeats 4000000 in
set_option maxRecDepth 100000 in
theorem k_M_area (l : Launch) (dC : Nat → ClassId) (dI : Nat → Nat → Nat) (cI cZ cF : ClassId) (sz : Nat) (k0 : Nat) (a : Nat → Nat) (I0 : Nat → Int32) (J0 : Nat → Int64) (f : Nat) (n : Nat) (mn : Nat → Int32) (cx : Nat → Int32) (cy : Nat → Int32) (S0 : Nat → Int32) (hf_f : f ≤ 200) (hm_f : mn f = nI n) (hn_f : 1 ≤ n ∧ n ≤ 40) (hp_f : pls n (cF40 cx f) (cF40 cy f)) : Met l yX11_area (.code yX11_area cX11_area 5 (some .long) :: ws0) ({ frames := 1, cells := 0, slots := 0, locals := 25 } : Room) (va_Pc [.ref k0, .int (nI f)] (zPre (dC, dI) classes (zTy cI cZ cF) [(om k0 a I0 J0), (oa (a 11) cI 201 mn), (oa (a 12) cI 8040 cx), (oa (a 13) cI 8040 cy), (oa (a 32) cI 8 S0)] sz zXN)) (zQ (some (.long (jI ((Int.natAbs (ar2 n (cF40 cx f) (cF40 cy f) n) : Nat) : Int)))) (fun t => ∃ (S1 : Nat → Int32), va_P (dC, dI) classes [(om k0 a I0 J0), (oa (a 11) cI 201 mn), (oa (a 12) cI 8040 cx), (oa (a 13) cI 8040 cy), (oa (a 32) cI 8 S1)] t.heap ∧ va_D (va_A [(om k0 a I0 J0), (oa (a 11) cI 201 mn), (oa (a 12) cI 8040 cx), (oa (a 13) cI 8040 cy), (oa (a 32) cI 8 S0)] sz) [(om k0 a I0 J0), (oa (a 11) cI 201 mn), (oa (a 12) cI 8040 cx), (oa (a 13) cI 8040 cy), (oa (a 32) cI 8 S1)]) (va_A [(om k0 a I0 J0), (oa (a 11) cI 201 mn), (oa (a 12) cI 8040 cx), (oa (a 13) cI 8040 cy), (oa (a 32) cI 8 S0)] sz)) 0 0 (va_A [(om k0 a I0 J0), (oa (a 11) cI 201 mn), (oa (a 12) cI 8040 cx), (oa (a 13) cI 8040 cy), (oa (a 32) cI 8 S0)] sz) := by
  refine Met.ofW (cc := cX11_area) (maxL := 5) (ret := (some .long)) (by decide) rfl ?_
  intro p e s m args below meth c s₁ B hml hv
  obtain ⟨rfl, hsz, hP, hK, hD0, hXN⟩ := hv
  have hx := B.exec
  have hb := B.bytes
  have hr := B.returns
  have hts0 := atoms_spec (ws := .code yX11_area cX11_area 5 (some .long) :: ws0) B.pre
  have hts : ∀ w9 ∈ ws0, w9.before ([.ref k0, .int (nI f)] : List Value).toArray s = true := fun w9 h => hts0 w9 (List.mem_cons_of_mem _ h)
  have hown : s.vm.findClass "ScaleShopModel" = some m.cls := findClass_of_methodNamed B.named
  have hlocks := B.notSynchronized
  subst hsz
  have hD := hD0.self (sz := s.heap.size)
  clear hD0
  generalize hAe : va_A [(om k0 a I0 J0), (oa (a 11) cI 201 mn), (oa (a 12) cI 8040 cx), (oa (a 13) cI 8040 cy), (oa (a 32) cI 8 S0)] s.heap.size = A at hD ⊢
  have hA : ∀ q : Nat, s.heap.size ≤ q → A q := fun q h => by rw [← hAe]; exact Or.inr h
  clear hAe
  have hS : va_S A s.heap s.heap [] := va_S.rf
  have hP : va_P (dC, dI) classes [(om k0 a I0 J0), (oa (a 11) cI 201 mn), (oa (a 12) cI 8040 cx), (oa (a 13) cI 8040 cy), (oa (a 32) cI 8 S0)] s.heap := hP
  obtain ⟨Q9, hQ9⟩ : ∃ Q9 : State → Prop, Q9 = MQ below (zQ (some (.long (jI ((Int.natAbs (ar2 n (cF40 cx f) (cF40 cy f) n) : Nat) : Int)))) (fun t => ∃ (S1 : Nat → Int32), va_P (dC, dI) classes [(om k0 a I0 J0), (oa (a 11) cI 201 mn), (oa (a 12) cI 8040 cx), (oa (a 13) cI 8040 cy), (oa (a 32) cI 8 S1)] t.heap ∧ va_D A [(om k0 a I0 J0), (oa (a 11) cI 201 mn), (oa (a 12) cI 8040 cx), (oa (a 13) cI 8040 cy), (oa (a 32) cI 8 S1)]) A) ([.ref k0, .int (nI f)] : List Value).toArray s 0 0 A := ⟨_, rfl⟩
  rw [← hQ9]
  have hl := lv_entry ([.ref k0, .int (nI f)]) (n := 5) (Nat.le_of_ble_eq_true rfl)
  rw [lg_entry_eq]
  generalize (lg_sl ([.ref k0, .int (nI f)]) ++ List.replicate (5 - (lg_sl ([.ref k0, .int (nI f)])).length) Slot.unset).toArray = ls at hl ⊢
  have hl : lv_has ls 5 [(0, .ref k0), (1, .int (nI f))] := hl
  refine lv_lconst (v := 0) hx hb dX11_area_0 (by decide) ?_
  refine lv_lstore_n (lv' := [(2, .long 0), (0, .ref k0), (1, .int (nI f))]) hx hb dX11_area_1 rfl hl (by decide) rfl (fun ls hl => ?_)
  refine lv_iconst (v := 0) hx hb dX11_area_2 (by decide) ?_
  refine lv_istore (lv' := [(4, .int 0), (2, .long 0), (0, .ref k0), (1, .int (nI f))]) hx hb dX11_area_3 hl (by decide) rfl (fun ls hl => ?_)
  have hl_5 : ∀ (n9 : Nat) (i : Nat) (S1 : Nat → Int32) (H : Heap) (locs : List Loc) (ls : Array Slot), n - i < n9 → (i ≤ n) → va_P (dC, dI) classes [(om k0 a I0 J0), (oa (a 11) cI 201 mn), (oa (a 12) cI 8040 cx), (oa (a 13) cI 8040 cy), (oa (a 32) cI 8 S1)] H → va_D A [(om k0 a I0 J0), (oa (a 11) cI 201 mn), (oa (a 12) cI 8040 cx), (oa (a 13) cI 8040 cy), (oa (a 32) cI 8 S1)] → va_S A s.heap H locs → lv_has ls 5 [(4, .int (nI i)), (2, .long (jI (ar2 n (cF40 cx f) (cF40 cy f) i))), (0, .ref k0), (1, .int (nI f))] → W p l e ((headSpec (.code yX11_area cX11_area 5 (some .long) :: ws0) ({ frames := 1, cells := 0, slots := 0, locals := 25 } : Room)).room) s m ([.ref k0, .int (nI f)] : List Value).toArray below meth c H locs 0 0 Q9 (F0 m 5 ls []) := by
    intro n9
    induction n9 with
    | zero => intro i S1 H locs ls hm; exact absurd hm (Nat.not_lt_zero _)
    | succ n9 ih_5 =>
      intro i S1 H locs ls hm hi hP hD hS hl
      have hB := ar2B hp_f i hi
      refine lv_iload hx hb dX11_area_5 (lv_at hl 0 rfl) ?_
      refine lv_aload_n hx hb dX11_area_7 rfl (lv_at hl 2 rfl) ?_
      refine va_get (D := (dC, dI)) (ci := 9) (v := .ref (a 11)) (C := RX11) (T := TX11) (N := 55) hx hb hts inX11 hown hK hP 0 rfl rfl 11 (by decide) (hts _ mw_1170) (fun _ h9 => h9) rfl dX11_area_8 ?_
      refine lv_iload_n hx hb dX11_area_11 rfl (lv_at hl 3 rfl) ?_
      refine z_iald hx hb hK hP 1 0 rfl rfl (e := f) rfl (by omega) (by omega) dX11_area_12 ?_
      refine zz_i (v := nI n) (hm_f) ?_
      refine lv_icmp_ge (tgt := 64) hx hb dX11_area_13 (by decide) (fun c_1 => ?_) (fun c_1 => ?_)
      · have c_1 : ((n : Nat) : Int) ≤ ((i : Nat) : Int) := zc_le (nI_toInt (by omega)) (nI_toInt (by omega)) c_1
        refine lv_lload_n hx hb dX11_area_64 rfl (lv_at hl 1 rfl) ?_
        refine lv_lconst (v := 0) hx hb dX11_area_65 (by decide) ?_
        refine W.lcmp hx hb dX11_area_66 ?_
        refine lv_if_ge (tgt := 75) hx hb dX11_area_67 (by decide) (fun c_2 => ?_) (fun c_2 => ?_)
        · have c_2 : 0 ≤ (ar2 n (cF40 cx f) (cF40 cy f) i) := zl_ge (jI_toInt (by omega)) (by decide) c_2
          refine lv_lload_n hx hb dX11_area_75 rfl (lv_at hl 1 rfl) ?_
          have hP9 := hP.sub (ws' := [(om k0 a I0 J0), (oa (a 11) cI 201 mn), (oa (a 12) cI 8040 cx), (oa (a 13) cI 8040 cy), (oa (a 32) cI 8 S1)]) [0, 1, 2, 3, 4] rfl
          have hD9 := hD.sub (ws' := [(om k0 a I0 J0), (oa (a 11) cI 201 mn), (oa (a 12) cI 8040 cx), (oa (a 13) cI 8040 cy), (oa (a 32) cI 8 S1)]) [0, 1, 2, 3, 4] (by decide) rfl
          rw [hQ9]
          exact W.lret (v := jI (ar2 n (cF40 cx f) (cF40 cy f) i)) hx hb hr (fun t ht hW => ⟨⟨congrArg (fun z => Outcome.returned (some (Value.long z))) (show (jI (ar2 n (cF40 cx f) (cF40 cy f) i) : Int64) = jI ((Int.natAbs (ar2 n (cF40 cx f) (cF40 cy f) n) : Nat) : Int) from by obtain rfl : i = n := (by omega); first | (rw [jI_neg (by omega)]; congr 1; omega) | (congr 1; omega)), S1, by rw [ht]; exact hP9, hD9⟩, hS.F ht⟩) hS.2.2 dX11_area_76
        · have c_2 : (ar2 n (cF40 cx f) (cF40 cy f) i) < 0 := zl_nge (jI_toInt (by omega)) (by decide) c_2
          refine lv_lload_n hx hb dX11_area_70 rfl (lv_at hl 1 rfl) ?_
          refine lv_lneg hx hb dX11_area_71 ?_
          refine lv_goto (tgt := 76) hx hb dX11_area_72 (by decide) ?_
          have hP9 := hP.sub (ws' := [(om k0 a I0 J0), (oa (a 11) cI 201 mn), (oa (a 12) cI 8040 cx), (oa (a 13) cI 8040 cy), (oa (a 32) cI 8 S1)]) [0, 1, 2, 3, 4] rfl
          have hD9 := hD.sub (ws' := [(om k0 a I0 J0), (oa (a 11) cI 201 mn), (oa (a 12) cI 8040 cx), (oa (a 13) cI 8040 cy), (oa (a 32) cI 8 S1)]) [0, 1, 2, 3, 4] (by decide) rfl
          rw [hQ9]
          exact W.lret (v := -(jI (ar2 n (cF40 cx f) (cF40 cy f) i))) hx hb hr (fun t ht hW => ⟨⟨congrArg (fun z => Outcome.returned (some (Value.long z))) (show (-(jI (ar2 n (cF40 cx f) (cF40 cy f) i)) : Int64) = jI ((Int.natAbs (ar2 n (cF40 cx f) (cF40 cy f) n) : Nat) : Int) from by obtain rfl : i = n := (by omega); first | (rw [jI_neg (by omega)]; congr 1; omega) | (congr 1; omega)), S1, by rw [ht]; exact hP9, hD9⟩, hS.F ht⟩) hS.2.2 dX11_area_76
      · have c_1 : ((i : Nat) : Int) < ((n : Nat) : Int) := zc_nle (nI_toInt (by omega)) (nI_toInt (by omega)) c_1
        have hin9 : i < n := (by omega)
        have hnx := nxt_lt (n := n) (i := i) (by omega)
        have hq1 := xyB (hp_f i hin9).1 (hp_f _ hnx).2
        have hq2 := xyB (hp_f _ hnx).1 (hp_f i hin9).2
        refine lv_aload_n hx hb dX11_area_16 rfl (lv_at hl 2 rfl) ?_
        refine lv_iload_n hx hb dX11_area_17 rfl (lv_at hl 3 rfl) ?_
        refine lv_iload hx hb dX11_area_18 (lv_at hl 0 rfl) ?_
        refine lv_iconst (v := 0) hx hb dX11_area_20 (by decide) ?_
        have hPc := hP.sub (ws' := [(om k0 a I0 J0), (oa (a 11) cI 201 mn), (oa (a 12) cI 8040 cx), (oa (a 13) cI 8040 cy), (oa (a 32) cI 8 S1)]) [0, 1, 2, 3, 4] rfl
        have hDc := hD.sub (ws' := [(om k0 a I0 J0), (oa (a 11) cI 201 mn), (oa (a 12) cI 8040 cx), (oa (a 13) cI 8040 cy), (oa (a 32) cI 8 S1)]) [0, 1, 2, 3, 4] (by decide) rfl
        have hFc := va_free (wc := [(om k0 a I0 J0), (oa (a 11) cI 201 mn), (oa (a 12) cI 8040 cx), (oa (a 13) cI 8040 cy), (oa (a 32) cI 8 S1)]) hD hS hA [0, 1, 2, 3, 4] rfl
        refine zcall (st1 := []) (va_runV (As := [.int (nI f), .int (nI i), .int 0]) (rest := []) ⟨hx, hb, hml, hown, hts⟩ (k_M_edge l dC dI cI cZ cF H.size k0 a I0 J0 f n i 0 mn cx cy S1 (by omega) (by assumption) (by omega) (by omega) (by omega)) (cwV 3 hts (zz_gV mw_1373 mw_1375 mw_42 mw_110 mc_yX11_edge) rfl rfl rfl (by decide +kernel) ⟨Nat.le_of_ble_eq_true rfl, Nat.le_of_ble_eq_true rfl⟩) (zPV2 (q0 := 0) (ci := 9) hPc hDc hK hXN rfl rfl) rfl rfl hl.1 rfl (lv_room (Nat.le_of_ble_eq_true rfl)) dX11_area_21 ⟨Nat.le_of_ble_eq_true rfl, Nat.le_of_ble_eq_true rfl⟩) hS hFc hFc rfl (fun t H1 locs ht hB hk1 hS => ?_)
        obtain ⟨S2, t0, t1, t2, t3, tr, hP1, hD1⟩ := hB
        rw [ht] at hP1
        obtain ⟨hP, hD⟩ := va_join (wr := []) (w1 := [(om k0 a I0 J0), (oa (a 11) cI 201 mn), (oa (a 12) cI 8040 cx), (oa (a 13) cI 8040 cy), (oa (a 32) cI 8 S2)]) hP hD [0, 1, 2, 3, 4] [] rfl rfl (by decide) (by decide) hk1 hFc hP1 hD1
        clear hk1 hPc hDc hFc hP1 hD1 ht
        generalize H1 = H at hP hS ⊢
        have hP : va_P (dC, dI) classes [(om k0 a I0 J0), (oa (a 11) cI 201 mn), (oa (a 12) cI 8040 cx), (oa (a 13) cI 8040 cy), (oa (a 32) cI 8 S2)] H := hP
        have hD : va_D A [(om k0 a I0 J0), (oa (a 11) cI 201 mn), (oa (a 12) cI 8040 cx), (oa (a 13) cI 8040 cy), (oa (a 32) cI 8 S2)] := hD
        have v0 : S2 0 = cF40 cx f i := t0
        have v1 : S2 1 = cF40 cy f i := t1
        have v2 : S2 2 = cF40 cx f (nxt n i) := t2
        have v3 : S2 3 = cF40 cy f (nxt n i) := t3
        refine lv_lload_n hx hb dX11_area_24 rfl (lv_at hl 1 rfl) ?_
        refine lv_aload_n hx hb dX11_area_25 rfl (lv_at hl 2 rfl) ?_
        refine va_get (D := (dC, dI)) (ci := 9) (v := .ref (a 32)) (C := RX11) (T := TX11) (N := 55) hx hb hts inX11 hown hK hP 0 rfl rfl 32 (by decide) (hts _ mw_1191) (fun _ h9 => h9) rfl dX11_area_26 ?_
        refine lv_iconst (v := 0) hx hb dX11_area_29 (by decide) ?_
        refine z_iald hx hb hK hP 4 0 rfl rfl (e := 0) rfl (by omega) (by omega) dX11_area_30 ?_
        refine zz_i (v := cF40 cx f i) (v0) ?_
        refine lv_i2l (v := (cF40 cx f i).toInt64) hx hb dX11_area_31 (rfl) ?_
        refine lv_aload_n hx hb dX11_area_32 rfl (lv_at hl 2 rfl) ?_
        refine va_get (D := (dC, dI)) (ci := 9) (v := .ref (a 32)) (C := RX11) (T := TX11) (N := 55) hx hb hts inX11 hown hK hP 0 rfl rfl 32 (by decide) (hts _ mw_1191) (fun _ h9 => h9) rfl dX11_area_33 ?_
        refine lv_iconst (v := 3) hx hb dX11_area_36 (by decide) ?_
        refine z_iald hx hb hK hP 4 0 rfl rfl (e := 3) rfl (by omega) (by omega) dX11_area_37 ?_
        refine zz_i (v := cF40 cy f (nxt n i)) (v3) ?_
        refine lv_i2l (v := (cF40 cy f (nxt n i)).toInt64) hx hb dX11_area_38 (rfl) ?_
        refine lv_lmul hx hb dX11_area_39 ?_
        refine lv_aload_n hx hb dX11_area_40 rfl (lv_at hl 2 rfl) ?_
        refine va_get (D := (dC, dI)) (ci := 9) (v := .ref (a 32)) (C := RX11) (T := TX11) (N := 55) hx hb hts inX11 hown hK hP 0 rfl rfl 32 (by decide) (hts _ mw_1191) (fun _ h9 => h9) rfl dX11_area_41 ?_
        refine lv_iconst (v := 2) hx hb dX11_area_44 (by decide) ?_
        refine z_iald hx hb hK hP 4 0 rfl rfl (e := 2) rfl (by omega) (by omega) dX11_area_45 ?_
        refine zz_i (v := cF40 cx f (nxt n i)) (v2) ?_
        refine lv_i2l (v := (cF40 cx f (nxt n i)).toInt64) hx hb dX11_area_46 (rfl) ?_
        refine lv_aload_n hx hb dX11_area_47 rfl (lv_at hl 2 rfl) ?_
        refine va_get (D := (dC, dI)) (ci := 9) (v := .ref (a 32)) (C := RX11) (T := TX11) (N := 55) hx hb hts inX11 hown hK hP 0 rfl rfl 32 (by decide) (hts _ mw_1191) (fun _ h9 => h9) rfl dX11_area_48 ?_
        refine lv_iconst (v := 1) hx hb dX11_area_51 (by decide) ?_
        refine z_iald hx hb hK hP 4 0 rfl rfl (e := 1) rfl (by omega) (by omega) dX11_area_52 ?_
        refine zz_i (v := cF40 cy f i) (v1) ?_
        refine lv_i2l (v := (cF40 cy f i).toInt64) hx hb dX11_area_53 (rfl) ?_
        refine lv_lmul hx hb dX11_area_54 ?_
        refine lv_lsub hx hb dX11_area_55 ?_
        refine zz_l (v := jI ((cF40 cx f i).toInt * (cF40 cy f (nxt n i)).toInt - (cF40 cx f (nxt n i)).toInt * (cF40 cy f i).toInt)) (xyL (hp_f i hin9).1 (hp_f _ hnx).2 (hp_f _ hnx).1 (hp_f i hin9).2) ?_
        refine lv_ladd hx hb dX11_area_56 ?_
        refine zz_l (v := jI (ar2 n (cF40 cx f) (cF40 cy f) i + ((cF40 cx f i).toInt * (cF40 cy f (nxt n i)).toInt - (cF40 cx f (nxt n i)).toInt * (cF40 cy f i).toInt))) (jI_add (by omega) (by omega)) ?_
        refine lv_lstore_n (lv' := [(2, .long (jI (ar2 n (cF40 cx f) (cF40 cy f) i + ((cF40 cx f i).toInt * (cF40 cy f (nxt n i)).toInt - (cF40 cx f (nxt n i)).toInt * (cF40 cy f i).toInt)))), (4, .int (nI i)), (0, .ref k0), (1, .int (nI f))]) hx hb dX11_area_57 rfl hl (by decide) rfl (fun ls hl => ?_)
        refine lv_iinc (v := nI (i + 1)) (lv' := [(4, .int (nI (i + 1))), (2, .long (jI (ar2 n (cF40 cx f) (cF40 cy f) i + ((cF40 cx f i).toInt * (cF40 cy f (nxt n i)).toInt - (cF40 cx f (nxt n i)).toInt * (cF40 cy f i).toInt)))), (0, .ref k0), (1, .int (nI f))]) hx hb dX11_area_58 hl (k := 1) rfl (nI_add i 1) (by decide) rfl (fun ls hl => ?_)
        refine lv_goto (tgt := 5) hx hb dX11_area_61 (by decide) ?_
        have hl9 := lv_sub hl [0, 1, 2, 3] rfl
        have e9_2 : jI (ar2 n (cF40 cx f) (cF40 cy f) (i + 1)) = (jI (ar2 n (cF40 cx f) (cF40 cy f) i + ((cF40 cx f i).toInt * (cF40 cy f (nxt n i)).toInt - (cF40 cx f (nxt n i)).toInt * (cF40 cy f i).toInt)) : Int64) := by rfl
        have hl9 : lv_has ls 5 [(4, .int (nI (i + 1))), (2, .long (jI (ar2 n (cF40 cx f) (cF40 cy f) (i + 1)))), (0, .ref k0), (1, .int (nI f))] := by rw [e9_2]; exact hl9
        exact ih_5 (i + 1) S2 H locs ls (by omega) (by omega) hP hD hS hl9
  have e9_2 : jI (ar2 n (cF40 cx f) (cF40 cy f) 0) = (0 : Int64) := by rfl
  have hl9 : lv_has ls 5 [(4, .int (nI 0)), (2, .long (jI (ar2 n (cF40 cx f) (cF40 cy f) 0))), (0, .ref k0), (1, .int (nI f))] := by rw [e9_2]; exact lv_sub hl [0, 1, 2, 3] rfl
  exact hl_5 _ 0 S0 s.heap [] ls (Nat.lt_succ_self _) (by omega) hP hD hS hl9
