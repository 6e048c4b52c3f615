section
set_option maxHeartbeats 4000000 in
set_option maxRecDepth 100000 in
theorem k_M_isAhead (l : Launch) (dC : Nat → ClassId) (dI : Nat → Nat → Nat) (cI cZ cF : ClassId) (sz : Nat) (k0 : Nat) (a : Nat → Nat) (I0 : Nat → Int32) (J0 : Nat → Int64) (ex : Int32) (ey : Int32) (px : Int32) (py : Int32) (S0 : Nat → Int32) (hs : ∀ k, k < 8 → pl (S0 k)) (k1 : pl ex) (k2 : pl ey) (hpx : pl px) (hpy : pl py) : zM l yX11_isAhead cX11_isAhead 5 (some .boolean) ({ frames := 0, cells := 0, slots := 0, locals := 0 } : Room) [.ref k0, .int ex, .int ey, .int px, .int py] (dC, dI) (zTy cI cZ cF) [(om k0 a I0 J0), (oa (a 32) cI 8 S0)] sz (some (.int (pI (0 < dt ex.toInt ey.toInt px.toInt py.toInt (S0 2).toInt (S0 3).toInt)))) (fun A t => zPD (dC, dI) classes A [(om k0 a I0 J0), (oa (a 32) cI 8 S0)] t.heap) 0 0 := by
  refine zIn (own := "ScaleShopModel") (loc := [(0, .ref k0), (1, .int ex), (2, .int ey), (3, .int px), (4, .int py)]) rfl rfl rfl rfl (fun p e s m below meth c hx hb hr hts hown hlocks hml hnm9 A hA hS hP hD hK hXN Q9 hQ9 ls hl => ?_)
  have hB1 := mlB k1 hpx (hs 2 (by omega)) hpx
  have hB2 := mlB k2 hpy (hs 3 (by omega)) hpy
  refine lv_iload_n hx hb dX11_isAhead_0 rfl (lv_at hl 1 rfl) ?_
  refine lv_iload_n hx hb dX11_isAhead_1 rfl (lv_at hl 3 rfl) ?_
  refine lv_isub hx hb dX11_isAhead_2 ?_
  refine lv_i2l (v := (ex - px).toInt64) hx hb dX11_isAhead_3 (rfl) ?_
  refine lv_aload_n hx hb dX11_isAhead_4 rfl (lv_at hl 0 rfl) ?_
  refine va_get (D := (dC, dI)) (ci := 9) (v := .ref (a 32)) (C := RX11) (T := TX11) (N := 55) hx hb hts inX11 hown hK hP 0 rfl rfl 32 (Nat.le_of_ble_eq_true rfl) (hts _ mw_1191) (fun _ h9 => h9) rfl dX11_isAhead_5 ?_
  refine lv_iconst (v := 2) hx hb dX11_isAhead_8 rfl ?_
  refine z_iald hx hb hK hP 1 0 rfl rfl (e := 2) rfl (Nat.le_of_ble_eq_true rfl) (Nat.le_of_ble_eq_true rfl) dX11_isAhead_9 ?_
  refine lv_iload_n hx hb dX11_isAhead_10 rfl (lv_at hl 3 rfl) ?_
  refine lv_isub hx hb dX11_isAhead_11 ?_
  refine lv_i2l (v := ((S0 2) - px).toInt64) hx hb dX11_isAhead_12 (rfl) ?_
  refine lv_lmul hx hb dX11_isAhead_13 ?_
  refine zz_l (v := jI ((ex.toInt - px.toInt) * ((S0 2).toInt - px.toInt))) (mlL k1 hpx (hs 2 (by omega)) hpx) ?_
  refine lv_iload_n hx hb dX11_isAhead_14 rfl (lv_at hl 2 rfl) ?_
  refine lv_iload hx hb dX11_isAhead_15 (lv_at hl 4 rfl) ?_
  refine lv_isub hx hb dX11_isAhead_17 ?_
  refine lv_i2l (v := (ey - py).toInt64) hx hb dX11_isAhead_18 (rfl) ?_
  refine lv_aload_n hx hb dX11_isAhead_19 rfl (lv_at hl 0 rfl) ?_
  refine va_get (D := (dC, dI)) (ci := 9) (v := .ref (a 32)) (C := RX11) (T := TX11) (N := 55) hx hb hts inX11 hown hK hP 0 rfl rfl 32 (Nat.le_of_ble_eq_true rfl) (hts _ mw_1191) (fun _ h9 => h9) rfl dX11_isAhead_20 ?_
  refine lv_iconst (v := 3) hx hb dX11_isAhead_23 rfl ?_
  refine z_iald hx hb hK hP 1 0 rfl rfl (e := 3) rfl (Nat.le_of_ble_eq_true rfl) (Nat.le_of_ble_eq_true rfl) dX11_isAhead_24 ?_
  refine lv_iload hx hb dX11_isAhead_25 (lv_at hl 4 rfl) ?_
  refine lv_isub hx hb dX11_isAhead_27 ?_
  refine lv_i2l (v := ((S0 3) - py).toInt64) hx hb dX11_isAhead_28 (rfl) ?_
  refine lv_lmul hx hb dX11_isAhead_29 ?_
  refine zz_l (v := jI ((ey.toInt - py.toInt) * ((S0 3).toInt - py.toInt))) (mlL k2 hpy (hs 3 (by omega)) hpy) ?_
  refine lv_ladd hx hb dX11_isAhead_30 ?_
  refine zz_l (v := jI ((ex.toInt - px.toInt) * ((S0 2).toInt - px.toInt) + (ey.toInt - py.toInt) * ((S0 3).toInt - py.toInt))) (jI_add (by omega) (by omega)) ?_
  refine lv_lconst (v := 0) hx hb dX11_isAhead_31 rfl ?_
  refine W.lcmp hx hb dX11_isAhead_32 ?_
  refine lv_if_le (tgt := 40) hx hb dX11_isAhead_33 rfl (fun c_1 => ?_) (fun c_1 => ?_)
  · have c_1 : ((ex.toInt - px.toInt) * ((S0 2).toInt - px.toInt) + (ey.toInt - py.toInt) * ((S0 3).toInt - py.toInt)) ≤ 0 := zl_le (jI_toInt (by omega)) rfl c_1
    refine lv_iconst (v := 0) hx hb dX11_isAhead_40 rfl ?_
    obtain ⟨hP9, hD9⟩ := zu_sub (wc := [_, _]) hP hD [true, true] rfl rfl
    rw [hQ9]
    exact W.zret (ty := .boolean) (v := 0) hx hb hr (rfl) (fun t ht hW => ⟨⟨congrArg (fun z => Outcome.returned (some (Value.int z))) (show (0 : Int32) = pI (0 < dt ex.toInt ey.toInt px.toInt py.toInt (S0 2).toInt (S0 3).toInt) from (zp_f (by unfold dt; omega)).symm), by rw [ht]; exact hP9, hD9⟩, hS.F ht⟩) hS.2.2 dX11_isAhead_41
  · have c_1 : 0 < ((ex.toInt - px.toInt) * ((S0 2).toInt - px.toInt) + (ey.toInt - py.toInt) * ((S0 3).toInt - py.toInt)) := zl_nle (jI_toInt (by omega)) rfl c_1
    refine lv_iconst (v := 1) hx hb dX11_isAhead_36 rfl ?_
    refine lv_goto (tgt := 41) hx hb dX11_isAhead_37 rfl ?_
    obtain ⟨hP9, hD9⟩ := zu_sub (wc := [_, _]) hP hD [true, true] rfl rfl
    rw [hQ9]
    exact W.zret (ty := .boolean) (v := 1) hx hb hr (rfl) (fun t ht hW => ⟨⟨congrArg (fun z => Outcome.returned (some (Value.int z))) (show (1 : Int32) = pI (0 < dt ex.toInt ey.toInt px.toInt py.toInt (S0 2).toInt (S0 3).toInt) from (zp_t (by unfold dt; omega)).symm), by rw [ht]; exact hP9, hD9⟩, hS.F ht⟩) hS.2.2 dX11_isAhead_41
set_option maxHeartbeats 4000000 in
set_option maxRecDepth 100000 in
theorem k_M_isOnlyAt (l : Launch) (dC : Nat → ClassId) (dI : Nat → Nat → Nat) (cI cZ cF : ClassId) (sz : Nat) (k0 : Nat) (a : Nat → Nat) (I0 : Nat → Int32) (J0 : Nat → Int64) (px : Int32) (py : Int32) (S0 : Nat → Int32) (hs : ∀ k, k < 8 → pl (S0 k)) (hpx : pl px) (hpy : pl py) : zM l yX11_isOnlyAt cX11_isOnlyAt 5 (some .boolean) ({ frames := 2, cells := 0, slots := 0, locals := 56 } : Room) [.ref k0, .int px, .int py] (dC, dI) (zTy cI cZ cF) [(om k0 a I0 J0), (oa (a 32) cI 8 S0)] sz (some (.int (pI (oAt (S0 0).toInt (S0 1).toInt (S0 2).toInt (S0 3).toInt (S0 4).toInt (S0 5).toInt (S0 6).toInt (S0 7).toInt px.toInt py.toInt)))) (fun A t => zPD (dC, dI) classes A [(om k0 a I0 J0), (oa (a 32) cI 8 S0)] t.heap) 0 0 := by
  refine zIn (own := "ScaleShopModel") (loc := [(0, .ref k0), (1, .int px), (2, .int py)]) rfl rfl rfl rfl (fun p e s m below meth c hx hb hr hts hown hlocks hml hnm9 A hA hS hP hD hK hXN Q9 hQ9 ls hl => ?_)
  have hB1 := mlB (hs 2 (by omega)) (hs 0 (by omega)) (hs 7 (by omega)) (hs 5 (by omega))
  have hB2 := mlB (hs 3 (by omega)) (hs 1 (by omega)) (hs 6 (by omega)) (hs 4 (by omega))
  refine lv_aload_n hx hb dX11_isOnlyAt_0 rfl (lv_at hl 0 rfl) ?_
  refine va_get (D := (dC, dI)) (ci := 9) (v := .ref (a 32)) (C := RX11) (T := TX11) (N := 55) hx hb hts inX11 hown hK hP 0 rfl rfl 32 (Nat.le_of_ble_eq_true rfl) (hts _ mw_1191) (fun _ h9 => h9) rfl dX11_isOnlyAt_1 ?_
  refine lv_iconst (v := 4) hx hb dX11_isOnlyAt_4 rfl ?_
  refine z_iald hx hb hK hP 1 0 rfl rfl (e := 4) rfl (Nat.le_of_ble_eq_true rfl) (Nat.le_of_ble_eq_true rfl) dX11_isOnlyAt_5 ?_
  refine lv_aload_n hx hb dX11_isOnlyAt_6 rfl (lv_at hl 0 rfl) ?_
  refine va_get (D := (dC, dI)) (ci := 9) (v := .ref (a 32)) (C := RX11) (T := TX11) (N := 55) hx hb hts inX11 hown hK hP 0 rfl rfl 32 (Nat.le_of_ble_eq_true rfl) (hts _ mw_1191) (fun _ h9 => h9) rfl dX11_isOnlyAt_7 ?_
  refine lv_iconst (v := 5) hx hb dX11_isOnlyAt_10 rfl ?_
  refine z_iald hx hb hK hP 1 0 rfl rfl (e := 5) rfl (Nat.le_of_ble_eq_true rfl) (Nat.le_of_ble_eq_true rfl) dX11_isOnlyAt_11 ?_
  refine lv_aload_n hx hb dX11_isOnlyAt_12 rfl (lv_at hl 0 rfl) ?_
  refine va_get (D := (dC, dI)) (ci := 9) (v := .ref (a 32)) (C := RX11) (T := TX11) (N := 55) hx hb hts inX11 hown hK hP 0 rfl rfl 32 (Nat.le_of_ble_eq_true rfl) (hts _ mw_1191) (fun _ h9 => h9) rfl dX11_isOnlyAt_13 ?_
  refine lv_bipush (v := 6) hx hb dX11_isOnlyAt_16 rfl ?_
  refine z_iald hx hb hK hP 1 0 rfl rfl (e := 6) rfl (Nat.le_of_ble_eq_true rfl) (Nat.le_of_ble_eq_true rfl) dX11_isOnlyAt_18 ?_
  refine lv_aload_n hx hb dX11_isOnlyAt_19 rfl (lv_at hl 0 rfl) ?_
  refine va_get (D := (dC, dI)) (ci := 9) (v := .ref (a 32)) (C := RX11) (T := TX11) (N := 55) hx hb hts inX11 hown hK hP 0 rfl rfl 32 (Nat.le_of_ble_eq_true rfl) (hts _ mw_1191) (fun _ h9 => h9) rfl dX11_isOnlyAt_20 ?_
  refine lv_bipush (v := 7) hx hb dX11_isOnlyAt_23 rfl ?_
  refine z_iald hx hb hK hP 1 0 rfl rfl (e := 7) rfl (Nat.le_of_ble_eq_true rfl) (Nat.le_of_ble_eq_true rfl) dX11_isOnlyAt_25 ?_
  refine lv_iload_n hx hb dX11_isOnlyAt_26 rfl (lv_at hl 1 rfl) ?_
  refine lv_iload_n hx hb dX11_isOnlyAt_27 rfl (lv_at hl 2 rfl) ?_
  obtain ⟨hPc, hDc, hFc, hI1⟩ := zi_sub (wc := []) hP hD hS hA [] rfl rfl
  refine zcall (st1 := [.int (pI (onS (S0 4).toInt (S0 5).toInt (S0 6).toInt (S0 7).toInt px.toInt py.toInt))]) (va_runS (As := [.int (S0 4), .int (S0 5), .int (S0 6), .int (S0 7), .int px, .int py]) (rest := []) ⟨hx, hb, hml, hown, hts⟩ (k_M_isOn l dC dI cI cZ cF s.heap.size (S0 4) (S0 5) (S0 6) (S0 7) px py ((hs 4 (by first | with_reducible assumption | omega))) ((hs 5 (by first | with_reducible assumption | omega))) ((hs 6 (by first | with_reducible assumption | omega))) ((hs 7 (by first | with_reducible assumption | omega))) (hpx) (hpy)) (csS_164 hts rfl rfl ⟨Nat.le_of_ble_eq_true rfl, Nat.le_of_ble_eq_true rfl⟩) (zPS2 hPc hDc hK hXN) rfl rfl hl.1 rfl (lv_room (Nat.le_of_ble_eq_true rfl)) dX11_isOnlyAt_28 ⟨Nat.le_of_ble_eq_true rfl, Nat.le_of_ble_eq_true rfl⟩) hS hFc hFc rfl (fun t H locs ht hB hk1 hS => ?_)
  obtain ⟨hP1, hD1⟩ := hB
  rw [ht] at hP1
  replace hP := z0 hP hD hk1 hP1 hI1
  clear hk1 hPc hDc hFc hP1 hD1 ht hI1
  refine lv_if_ne (tgt := 36) hx hb dX11_isOnlyAt_31 rfl (fun c_1 => ?_) (fun c_1 => ?_)
  · have c_1 : onS (S0 4).toInt (S0 5).toInt (S0 6).toInt (S0 7).toInt px.toInt py.toInt := zp_1 c_1
    have hj_2 : (¬ ((S0 0).toInt = (S0 2).toInt ∧ (S0 1).toInt = (S0 3).toInt) ∧ ¬ ((S0 4).toInt = (S0 6).toInt ∧ (S0 5).toInt = (S0 7).toInt)) → W p l e ({ frames := 2, cells := 0, slots := 0, locals := 56 } : Room) s m ([.ref k0, .int px, .int py] : List Value).toArray below meth c H locs 0 0 Q9 (F0 m 100 ls []) := by
      intro hne
      refine lv_aload_n hx hb dX11_isOnlyAt_100 rfl (lv_at hl 0 rfl) ?_
      refine va_get (D := (dC, dI)) (ci := 9) (v := .ref (a 32)) (C := RX11) (T := TX11) (N := 55) hx hb hts inX11 hown hK hP 0 rfl rfl 32 (Nat.le_of_ble_eq_true rfl) (hts _ mw_1191) (fun _ h9 => h9) rfl dX11_isOnlyAt_101 ?_
      refine lv_iconst (v := 2) hx hb dX11_isOnlyAt_104 rfl ?_
      refine z_iald hx hb hK hP 1 0 rfl rfl (e := 2) rfl (Nat.le_of_ble_eq_true rfl) (Nat.le_of_ble_eq_true rfl) dX11_isOnlyAt_105 ?_
      refine lv_aload_n hx hb dX11_isOnlyAt_106 rfl (lv_at hl 0 rfl) ?_
      refine va_get (D := (dC, dI)) (ci := 9) (v := .ref (a 32)) (C := RX11) (T := TX11) (N := 55) hx hb hts inX11 hown hK hP 0 rfl rfl 32 (Nat.le_of_ble_eq_true rfl) (hts _ mw_1191) (fun _ h9 => h9) rfl dX11_isOnlyAt_107 ?_
      refine lv_iconst (v := 0) hx hb dX11_isOnlyAt_110 rfl ?_
      refine z_iald hx hb hK hP 1 0 rfl rfl (e := 0) rfl (Nat.le_of_ble_eq_true rfl) (Nat.le_of_ble_eq_true rfl) dX11_isOnlyAt_111 ?_
      refine lv_isub hx hb dX11_isOnlyAt_112 ?_
      refine lv_i2l (v := ((S0 2) - (S0 0)).toInt64) hx hb dX11_isOnlyAt_113 (rfl) ?_
      refine lv_aload_n hx hb dX11_isOnlyAt_114 rfl (lv_at hl 0 rfl) ?_
      refine va_get (D := (dC, dI)) (ci := 9) (v := .ref (a 32)) (C := RX11) (T := TX11) (N := 55) hx hb hts inX11 hown hK hP 0 rfl rfl 32 (Nat.le_of_ble_eq_true rfl) (hts _ mw_1191) (fun _ h9 => h9) rfl dX11_isOnlyAt_115 ?_
      refine lv_bipush (v := 7) hx hb dX11_isOnlyAt_118 rfl ?_
      refine z_iald hx hb hK hP 1 0 rfl rfl (e := 7) rfl (Nat.le_of_ble_eq_true rfl) (Nat.le_of_ble_eq_true rfl) dX11_isOnlyAt_120 ?_
      refine lv_aload_n hx hb dX11_isOnlyAt_121 rfl (lv_at hl 0 rfl) ?_
      refine va_get (D := (dC, dI)) (ci := 9) (v := .ref (a 32)) (C := RX11) (T := TX11) (N := 55) hx hb hts inX11 hown hK hP 0 rfl rfl 32 (Nat.le_of_ble_eq_true rfl) (hts _ mw_1191) (fun _ h9 => h9) rfl dX11_isOnlyAt_122 ?_
      refine lv_iconst (v := 5) hx hb dX11_isOnlyAt_125 rfl ?_
      refine z_iald hx hb hK hP 1 0 rfl rfl (e := 5) rfl (Nat.le_of_ble_eq_true rfl) (Nat.le_of_ble_eq_true rfl) dX11_isOnlyAt_126 ?_
      refine lv_isub hx hb dX11_isOnlyAt_127 ?_
      refine lv_i2l (v := ((S0 7) - (S0 5)).toInt64) hx hb dX11_isOnlyAt_128 (rfl) ?_
      refine lv_lmul hx hb dX11_isOnlyAt_129 ?_
      refine zz_l (v := jI (((S0 2).toInt - (S0 0).toInt) * ((S0 7).toInt - (S0 5).toInt))) (mlL (hs 2 (by omega)) (hs 0 (by omega)) (hs 7 (by omega)) (hs 5 (by omega))) ?_
      refine lv_aload_n hx hb dX11_isOnlyAt_130 rfl (lv_at hl 0 rfl) ?_
      refine va_get (D := (dC, dI)) (ci := 9) (v := .ref (a 32)) (C := RX11) (T := TX11) (N := 55) hx hb hts inX11 hown hK hP 0 rfl rfl 32 (Nat.le_of_ble_eq_true rfl) (hts _ mw_1191) (fun _ h9 => h9) rfl dX11_isOnlyAt_131 ?_
      refine lv_iconst (v := 3) hx hb dX11_isOnlyAt_134 rfl ?_
      refine z_iald hx hb hK hP 1 0 rfl rfl (e := 3) rfl (Nat.le_of_ble_eq_true rfl) (Nat.le_of_ble_eq_true rfl) dX11_isOnlyAt_135 ?_
      refine lv_aload_n hx hb dX11_isOnlyAt_136 rfl (lv_at hl 0 rfl) ?_
      refine va_get (D := (dC, dI)) (ci := 9) (v := .ref (a 32)) (C := RX11) (T := TX11) (N := 55) hx hb hts inX11 hown hK hP 0 rfl rfl 32 (Nat.le_of_ble_eq_true rfl) (hts _ mw_1191) (fun _ h9 => h9) rfl dX11_isOnlyAt_137 ?_
      refine lv_iconst (v := 1) hx hb dX11_isOnlyAt_140 rfl ?_
      refine z_iald hx hb hK hP 1 0 rfl rfl (e := 1) rfl (Nat.le_of_ble_eq_true rfl) (Nat.le_of_ble_eq_true rfl) dX11_isOnlyAt_141 ?_
      refine lv_isub hx hb dX11_isOnlyAt_142 ?_
      refine lv_i2l (v := ((S0 3) - (S0 1)).toInt64) hx hb dX11_isOnlyAt_143 (rfl) ?_
      refine lv_aload_n hx hb dX11_isOnlyAt_144 rfl (lv_at hl 0 rfl) ?_
      refine va_get (D := (dC, dI)) (ci := 9) (v := .ref (a 32)) (C := RX11) (T := TX11) (N := 55) hx hb hts inX11 hown hK hP 0 rfl rfl 32 (Nat.le_of_ble_eq_true rfl) (hts _ mw_1191) (fun _ h9 => h9) rfl dX11_isOnlyAt_145 ?_
      refine lv_bipush (v := 6) hx hb dX11_isOnlyAt_148 rfl ?_
      refine z_iald hx hb hK hP 1 0 rfl rfl (e := 6) rfl (Nat.le_of_ble_eq_true rfl) (Nat.le_of_ble_eq_true rfl) dX11_isOnlyAt_150 ?_
      refine lv_aload_n hx hb dX11_isOnlyAt_151 rfl (lv_at hl 0 rfl) ?_
      refine va_get (D := (dC, dI)) (ci := 9) (v := .ref (a 32)) (C := RX11) (T := TX11) (N := 55) hx hb hts inX11 hown hK hP 0 rfl rfl 32 (Nat.le_of_ble_eq_true rfl) (hts _ mw_1191) (fun _ h9 => h9) rfl dX11_isOnlyAt_152 ?_
      refine lv_iconst (v := 4) hx hb dX11_isOnlyAt_155 rfl ?_
      refine z_iald hx hb hK hP 1 0 rfl rfl (e := 4) rfl (Nat.le_of_ble_eq_true rfl) (Nat.le_of_ble_eq_true rfl) dX11_isOnlyAt_156 ?_
      refine lv_isub hx hb dX11_isOnlyAt_157 ?_
      refine lv_i2l (v := ((S0 6) - (S0 4)).toInt64) hx hb dX11_isOnlyAt_158 (rfl) ?_
      refine lv_lmul hx hb dX11_isOnlyAt_159 ?_
      refine zz_l (v := jI (((S0 3).toInt - (S0 1).toInt) * ((S0 6).toInt - (S0 4).toInt))) (mlL (hs 3 (by omega)) (hs 1 (by omega)) (hs 6 (by omega)) (hs 4 (by omega))) ?_
      refine lv_lsub hx hb dX11_isOnlyAt_160 ?_
      refine zz_l (v := jI (((S0 2).toInt - (S0 0).toInt) * ((S0 7).toInt - (S0 5).toInt) - ((S0 3).toInt - (S0 1).toInt) * ((S0 6).toInt - (S0 4).toInt))) (jI_sub (by omega) (by omega)) ?_
      refine lv_lstore_n (lv' := [(3, .long (jI (((S0 2).toInt - (S0 0).toInt) * ((S0 7).toInt - (S0 5).toInt) - ((S0 3).toInt - (S0 1).toInt) * ((S0 6).toInt - (S0 4).toInt)))), (0, .ref k0), (1, .int px), (2, .int py)]) hx hb dX11_isOnlyAt_161 rfl hl (Nat.le_of_ble_eq_true rfl) rfl (fun ls hl => ?_)
      refine lv_lload_n hx hb dX11_isOnlyAt_162 rfl (lv_at hl 0 rfl) ?_
      refine lv_lconst (v := 0) hx hb dX11_isOnlyAt_163 rfl ?_
      refine W.lcmp hx hb dX11_isOnlyAt_164 ?_
      refine lv_if_eq (tgt := 170) hx hb dX11_isOnlyAt_165 rfl (fun c_3 => ?_) (fun c_3 => ?_)
      · have c_3 : (((S0 2).toInt - (S0 0).toInt) * ((S0 7).toInt - (S0 5).toInt) - ((S0 3).toInt - (S0 1).toInt) * ((S0 6).toInt - (S0 4).toInt)) = 0 := zl_eq (jI_toInt (by omega)) rfl c_3
        refine lv_aload_n hx hb dX11_isOnlyAt_170 rfl (lv_at hl 1 rfl) ?_
        refine lv_aload_n hx hb dX11_isOnlyAt_171 rfl (lv_at hl 1 rfl) ?_
        refine va_get (D := (dC, dI)) (ci := 9) (v := .ref (a 32)) (C := RX11) (T := TX11) (N := 55) hx hb hts inX11 hown hK hP 0 rfl rfl 32 (Nat.le_of_ble_eq_true rfl) (hts _ mw_1191) (fun _ h9 => h9) rfl dX11_isOnlyAt_172 ?_
        refine lv_iconst (v := 4) hx hb dX11_isOnlyAt_175 rfl ?_
        refine z_iald hx hb hK hP 1 0 rfl rfl (e := 4) rfl (Nat.le_of_ble_eq_true rfl) (Nat.le_of_ble_eq_true rfl) dX11_isOnlyAt_176 ?_
        refine lv_aload_n hx hb dX11_isOnlyAt_177 rfl (lv_at hl 1 rfl) ?_
        refine va_get (D := (dC, dI)) (ci := 9) (v := .ref (a 32)) (C := RX11) (T := TX11) (N := 55) hx hb hts inX11 hown hK hP 0 rfl rfl 32 (Nat.le_of_ble_eq_true rfl) (hts _ mw_1191) (fun _ h9 => h9) rfl dX11_isOnlyAt_178 ?_
        refine lv_iconst (v := 5) hx hb dX11_isOnlyAt_181 rfl ?_
        refine z_iald hx hb hK hP 1 0 rfl rfl (e := 5) rfl (Nat.le_of_ble_eq_true rfl) (Nat.le_of_ble_eq_true rfl) dX11_isOnlyAt_182 ?_
        refine lv_iload_n hx hb dX11_isOnlyAt_183 rfl (lv_at hl 2 rfl) ?_
        refine lv_iload_n hx hb dX11_isOnlyAt_184 rfl (lv_at hl 3 rfl) ?_
        obtain ⟨hPc, hDc, hFc, hI1⟩ := zi_sub (wc := [_, _]) hP hD hS hA [0, 1] rfl rfl
        refine zcall (st1 := [.int (pI (0 < dt (S0 4).toInt (S0 5).toInt px.toInt py.toInt (S0 2).toInt (S0 3).toInt))]) (va_runV (As := [.int (S0 4), .int (S0 5), .int px, .int py]) (rest := []) ⟨hx, hb, hml, hown, hts⟩ (k_M_isAhead l dC dI cI cZ cF H.size k0 a I0 J0 (S0 4) (S0 5) px py S0 (by first | with_reducible assumption | assumption) ((hs 4 (by first | with_reducible assumption | omega))) ((hs 5 (by first | with_reducible assumption | omega))) (by first | with_reducible assumption | assumption) (by first | with_reducible assumption | assumption)) (csV_176 hts rfl rfl ⟨Nat.le_of_ble_eq_true rfl, Nat.le_of_ble_eq_true rfl⟩) (zPV2 (q0 := 0) (ci := 9) hPc hDc hK hXN rfl rfl) rfl rfl hl.1 rfl (lv_room (Nat.le_of_ble_eq_true rfl)) dX11_isOnlyAt_185 ⟨Nat.le_of_ble_eq_true rfl, Nat.le_of_ble_eq_true rfl⟩) hS hFc hFc rfl (fun t H locs ht hB hk1 hS => ?_)
        obtain ⟨hP1, hD1⟩ := hB
        rw [ht] at hP1
        replace hP := z0 hP hD hk1 hP1 hI1
        clear hk1 hPc hDc hFc hP1 hD1 ht hI1
        refine lv_if_ne (tgt := 218) hx hb dX11_isOnlyAt_188 rfl (fun c_4 => ?_) (fun c_4 => ?_)
        · have c_4 : 0 < dt (S0 4).toInt (S0 5).toInt px.toInt py.toInt (S0 2).toInt (S0 3).toInt := zp_1 c_4
          refine lv_iconst (v := 0) hx hb dX11_isOnlyAt_218 rfl ?_
          obtain ⟨hP9, hD9⟩ := zu_sub (wc := [_, _]) hP hD [true, true] rfl rfl
          rw [hQ9]
          exact W.zret (ty := .boolean) (v := 0) hx hb hr (rfl) (fun t ht hW => ⟨⟨congrArg (fun z => Outcome.returned (some (Value.int z))) (show (0 : Int32) = pI (oAt (S0 0).toInt (S0 1).toInt (S0 2).toInt (S0 3).toInt (S0 4).toInt (S0 5).toInt (S0 6).toInt (S0 7).toInt px.toInt py.toInt) from (zp_f (by unfold oAt; first | exact ⟨by assumption, Or.inr (Or.inr (Or.inr ⟨by assumption, by assumption⟩))⟩ | exact fun h => h.2.elim (fun h => hne.1 h) (fun h => h.elim (fun h => hne.2 h) (fun h => h.elim (fun h => h (by first | with_reducible assumption | assumption)) (fun h => (by first | exact h.1 (by first | with_reducible assumption | assumption) | exact h.2 (by first | with_reducible assumption | assumption))))))).symm), by rw [ht]; exact hP9, hD9⟩, hS.F ht⟩) hS.2.2 dX11_isOnlyAt_219
        · have c_4 : ¬ (0 < dt (S0 4).toInt (S0 5).toInt px.toInt py.toInt (S0 2).toInt (S0 3).toInt) := zp_0 c_4
          refine lv_aload_n hx hb dX11_isOnlyAt_191 rfl (lv_at hl 1 rfl) ?_
          refine lv_aload_n hx hb dX11_isOnlyAt_192 rfl (lv_at hl 1 rfl) ?_
          refine va_get (D := (dC, dI)) (ci := 9) (v := .ref (a 32)) (C := RX11) (T := TX11) (N := 55) hx hb hts inX11 hown hK hP 0 rfl rfl 32 (Nat.le_of_ble_eq_true rfl) (hts _ mw_1191) (fun _ h9 => h9) rfl dX11_isOnlyAt_193 ?_
          refine lv_bipush (v := 6) hx hb dX11_isOnlyAt_196 rfl ?_
          refine z_iald hx hb hK hP 1 0 rfl rfl (e := 6) rfl (Nat.le_of_ble_eq_true rfl) (Nat.le_of_ble_eq_true rfl) dX11_isOnlyAt_198 ?_
          refine lv_aload_n hx hb dX11_isOnlyAt_199 rfl (lv_at hl 1 rfl) ?_
          refine va_get (D := (dC, dI)) (ci := 9) (v := .ref (a 32)) (C := RX11) (T := TX11) (N := 55) hx hb hts inX11 hown hK hP 0 rfl rfl 32 (Nat.le_of_ble_eq_true rfl) (hts _ mw_1191) (fun _ h9 => h9) rfl dX11_isOnlyAt_200 ?_
          refine lv_bipush (v := 7) hx hb dX11_isOnlyAt_203 rfl ?_
          refine z_iald hx hb hK hP 1 0 rfl rfl (e := 7) rfl (Nat.le_of_ble_eq_true rfl) (Nat.le_of_ble_eq_true rfl) dX11_isOnlyAt_205 ?_
          refine lv_iload_n hx hb dX11_isOnlyAt_206 rfl (lv_at hl 2 rfl) ?_
          refine lv_iload_n hx hb dX11_isOnlyAt_207 rfl (lv_at hl 3 rfl) ?_
          obtain ⟨hPc, hDc, hFc, hI1⟩ := zi_sub (wc := [_, _]) hP hD hS hA [0, 1] rfl rfl
          refine zcall (st1 := [.int (pI (0 < dt (S0 6).toInt (S0 7).toInt px.toInt py.toInt (S0 2).toInt (S0 3).toInt))]) (va_runV (As := [.int (S0 6), .int (S0 7), .int px, .int py]) (rest := []) ⟨hx, hb, hml, hown, hts⟩ (k_M_isAhead l dC dI cI cZ cF H.size k0 a I0 J0 (S0 6) (S0 7) px py S0 (by first | with_reducible assumption | assumption) ((hs 6 (by first | with_reducible assumption | omega))) ((hs 7 (by first | with_reducible assumption | omega))) (by first | with_reducible assumption | assumption) (by first | with_reducible assumption | assumption)) (csV_176 hts rfl rfl ⟨Nat.le_of_ble_eq_true rfl, Nat.le_of_ble_eq_true rfl⟩) (zPV2 (q0 := 0) (ci := 9) hPc hDc hK hXN rfl rfl) rfl rfl hl.1 rfl (lv_room (Nat.le_of_ble_eq_true rfl)) dX11_isOnlyAt_208 ⟨Nat.le_of_ble_eq_true rfl, Nat.le_of_ble_eq_true rfl⟩) hS hFc hFc rfl (fun t H locs ht hB hk1 hS => ?_)
          obtain ⟨hP1, hD1⟩ := hB
          rw [ht] at hP1
          replace hP := z0 hP hD hk1 hP1 hI1
          clear hk1 hPc hDc hFc hP1 hD1 ht hI1
          refine lv_if_ne (tgt := 218) hx hb dX11_isOnlyAt_211 rfl (fun c_5 => ?_) (fun c_5 => ?_)
          · have c_5 : 0 < dt (S0 6).toInt (S0 7).toInt px.toInt py.toInt (S0 2).toInt (S0 3).toInt := zp_1 c_5
            refine lv_iconst (v := 0) hx hb dX11_isOnlyAt_218 rfl ?_
            obtain ⟨hP9, hD9⟩ := zu_sub (wc := [_, _]) hP hD [true, true] rfl rfl
            rw [hQ9]
            exact W.zret (ty := .boolean) (v := 0) hx hb hr (rfl) (fun t ht hW => ⟨⟨congrArg (fun z => Outcome.returned (some (Value.int z))) (show (0 : Int32) = pI (oAt (S0 0).toInt (S0 1).toInt (S0 2).toInt (S0 3).toInt (S0 4).toInt (S0 5).toInt (S0 6).toInt (S0 7).toInt px.toInt py.toInt) from (zp_f (by unfold oAt; first | exact ⟨by assumption, Or.inr (Or.inr (Or.inr ⟨by assumption, by assumption⟩))⟩ | exact fun h => h.2.elim (fun h => hne.1 h) (fun h => h.elim (fun h => hne.2 h) (fun h => h.elim (fun h => h (by first | with_reducible assumption | assumption)) (fun h => (by first | exact h.1 (by first | with_reducible assumption | assumption) | exact h.2 (by first | with_reducible assumption | assumption))))))).symm), by rw [ht]; exact hP9, hD9⟩, hS.F ht⟩) hS.2.2 dX11_isOnlyAt_219
          · have c_5 : ¬ (0 < dt (S0 6).toInt (S0 7).toInt px.toInt py.toInt (S0 2).toInt (S0 3).toInt) := zp_0 c_5
            refine lv_iconst (v := 1) hx hb dX11_isOnlyAt_214 rfl ?_
            refine lv_goto (tgt := 219) hx hb dX11_isOnlyAt_215 rfl ?_
            obtain ⟨hP9, hD9⟩ := zu_sub (wc := [_, _]) hP hD [true, true] rfl rfl
            rw [hQ9]
            exact W.zret (ty := .boolean) (v := 1) hx hb hr (rfl) (fun t ht hW => ⟨⟨congrArg (fun z => Outcome.returned (some (Value.int z))) (show (1 : Int32) = pI (oAt (S0 0).toInt (S0 1).toInt (S0 2).toInt (S0 3).toInt (S0 4).toInt (S0 5).toInt (S0 6).toInt (S0 7).toInt px.toInt py.toInt) from (zp_t (by unfold oAt; first | exact ⟨by assumption, Or.inr (Or.inr (Or.inr ⟨by assumption, by assumption⟩))⟩ | exact fun h => h.2.elim (fun h => hne.1 h) (fun h => h.elim (fun h => hne.2 h) (fun h => h.elim (fun h => h (by first | with_reducible assumption | assumption)) (fun h => (by first | exact h.1 (by first | with_reducible assumption | assumption) | exact h.2 (by first | with_reducible assumption | assumption))))))).symm), by rw [ht]; exact hP9, hD9⟩, hS.F ht⟩) hS.2.2 dX11_isOnlyAt_219
      · have c_3 : ¬ (((S0 2).toInt - (S0 0).toInt) * ((S0 7).toInt - (S0 5).toInt) - ((S0 3).toInt - (S0 1).toInt) * ((S0 6).toInt - (S0 4).toInt)) = 0 := zl_ne (jI_toInt (by omega)) rfl c_3
        refine lv_iconst (v := 1) hx hb dX11_isOnlyAt_168 rfl ?_
        obtain ⟨hP9, hD9⟩ := zu_sub (wc := [_, _]) hP hD [true, true] rfl rfl
        rw [hQ9]
        exact W.zret (ty := .boolean) (v := 1) hx hb hr (rfl) (fun t ht hW => ⟨⟨congrArg (fun z => Outcome.returned (some (Value.int z))) (show (1 : Int32) = pI (oAt (S0 0).toInt (S0 1).toInt (S0 2).toInt (S0 3).toInt (S0 4).toInt (S0 5).toInt (S0 6).toInt (S0 7).toInt px.toInt py.toInt) from (zp_t (by unfold oAt; exact ⟨by assumption, Or.inr (Or.inr (Or.inl (by first | with_reducible assumption | assumption)))⟩)).symm), by rw [ht]; exact hP9, hD9⟩, hS.F ht⟩) hS.2.2 dX11_isOnlyAt_169
    refine lv_aload_n hx hb dX11_isOnlyAt_36 rfl (lv_at hl 0 rfl) ?_
    refine va_get (D := (dC, dI)) (ci := 9) (v := .ref (a 32)) (C := RX11) (T := TX11) (N := 55) hx hb hts inX11 hown hK hP 0 rfl rfl 32 (Nat.le_of_ble_eq_true rfl) (hts _ mw_1191) (fun _ h9 => h9) rfl dX11_isOnlyAt_37 ?_
    refine lv_iconst (v := 0) hx hb dX11_isOnlyAt_40 rfl ?_
    refine z_iald hx hb hK hP 1 0 rfl rfl (e := 0) rfl (Nat.le_of_ble_eq_true rfl) (Nat.le_of_ble_eq_true rfl) dX11_isOnlyAt_41 ?_
    refine lv_aload_n hx hb dX11_isOnlyAt_42 rfl (lv_at hl 0 rfl) ?_
    refine va_get (D := (dC, dI)) (ci := 9) (v := .ref (a 32)) (C := RX11) (T := TX11) (N := 55) hx hb hts inX11 hown hK hP 0 rfl rfl 32 (Nat.le_of_ble_eq_true rfl) (hts _ mw_1191) (fun _ h9 => h9) rfl dX11_isOnlyAt_43 ?_
    refine lv_iconst (v := 2) hx hb dX11_isOnlyAt_46 rfl ?_
    refine z_iald hx hb hK hP 1 0 rfl rfl (e := 2) rfl (Nat.le_of_ble_eq_true rfl) (Nat.le_of_ble_eq_true rfl) dX11_isOnlyAt_47 ?_
    refine lv_icmp_ne (tgt := 66) hx hb dX11_isOnlyAt_48 rfl (fun c_6 => ?_) (fun c_6 => ?_)
    · have c_6 : ¬ (S0 0).toInt = (S0 2).toInt := zc_ne rfl rfl c_6
      refine lv_aload_n hx hb dX11_isOnlyAt_66 rfl (lv_at hl 0 rfl) ?_
      refine va_get (D := (dC, dI)) (ci := 9) (v := .ref (a 32)) (C := RX11) (T := TX11) (N := 55) hx hb hts inX11 hown hK hP 0 rfl rfl 32 (Nat.le_of_ble_eq_true rfl) (hts _ mw_1191) (fun _ h9 => h9) rfl dX11_isOnlyAt_67 ?_
      refine lv_iconst (v := 4) hx hb dX11_isOnlyAt_70 rfl ?_
      refine z_iald hx hb hK hP 1 0 rfl rfl (e := 4) rfl (Nat.le_of_ble_eq_true rfl) (Nat.le_of_ble_eq_true rfl) dX11_isOnlyAt_71 ?_
      refine lv_aload_n hx hb dX11_isOnlyAt_72 rfl (lv_at hl 0 rfl) ?_
      refine va_get (D := (dC, dI)) (ci := 9) (v := .ref (a 32)) (C := RX11) (T := TX11) (N := 55) hx hb hts inX11 hown hK hP 0 rfl rfl 32 (Nat.le_of_ble_eq_true rfl) (hts _ mw_1191) (fun _ h9 => h9) rfl dX11_isOnlyAt_73 ?_
      refine lv_bipush (v := 6) hx hb dX11_isOnlyAt_76 rfl ?_
      refine z_iald hx hb hK hP 1 0 rfl rfl (e := 6) rfl (Nat.le_of_ble_eq_true rfl) (Nat.le_of_ble_eq_true rfl) dX11_isOnlyAt_78 ?_
      refine lv_icmp_ne (tgt := 100) hx hb dX11_isOnlyAt_79 rfl (fun c_7 => ?_) (fun c_7 => ?_)
      · have c_7 : ¬ (S0 4).toInt = (S0 6).toInt := zc_ne rfl rfl c_7
        exact hj_2 (by omega)
      · have c_7 : (S0 4).toInt = (S0 6).toInt := zc_eq rfl rfl c_7
        refine lv_aload_n hx hb dX11_isOnlyAt_82 rfl (lv_at hl 0 rfl) ?_
        refine va_get (D := (dC, dI)) (ci := 9) (v := .ref (a 32)) (C := RX11) (T := TX11) (N := 55) hx hb hts inX11 hown hK hP 0 rfl rfl 32 (Nat.le_of_ble_eq_true rfl) (hts _ mw_1191) (fun _ h9 => h9) rfl dX11_isOnlyAt_83 ?_
        refine lv_iconst (v := 5) hx hb dX11_isOnlyAt_86 rfl ?_
        refine z_iald hx hb hK hP 1 0 rfl rfl (e := 5) rfl (Nat.le_of_ble_eq_true rfl) (Nat.le_of_ble_eq_true rfl) dX11_isOnlyAt_87 ?_
        refine lv_aload_n hx hb dX11_isOnlyAt_88 rfl (lv_at hl 0 rfl) ?_
        refine va_get (D := (dC, dI)) (ci := 9) (v := .ref (a 32)) (C := RX11) (T := TX11) (N := 55) hx hb hts inX11 hown hK hP 0 rfl rfl 32 (Nat.le_of_ble_eq_true rfl) (hts _ mw_1191) (fun _ h9 => h9) rfl dX11_isOnlyAt_89 ?_
        refine lv_bipush (v := 7) hx hb dX11_isOnlyAt_92 rfl ?_
        refine z_iald hx hb hK hP 1 0 rfl rfl (e := 7) rfl (Nat.le_of_ble_eq_true rfl) (Nat.le_of_ble_eq_true rfl) dX11_isOnlyAt_94 ?_
        refine lv_icmp_ne (tgt := 100) hx hb dX11_isOnlyAt_95 rfl (fun c_8 => ?_) (fun c_8 => ?_)
        · have c_8 : ¬ (S0 5).toInt = (S0 7).toInt := zc_ne rfl rfl c_8
          exact hj_2 (by omega)
        · have c_8 : (S0 5).toInt = (S0 7).toInt := zc_eq rfl rfl c_8
          refine lv_iconst (v := 1) hx hb dX11_isOnlyAt_98 rfl ?_
          obtain ⟨hP9, hD9⟩ := zu_sub (wc := [_, _]) hP hD [true, true] rfl rfl
          rw [hQ9]
          exact W.zret (ty := .boolean) (v := 1) hx hb hr (rfl) (fun t ht hW => ⟨⟨congrArg (fun z => Outcome.returned (some (Value.int z))) (show (1 : Int32) = pI (oAt (S0 0).toInt (S0 1).toInt (S0 2).toInt (S0 3).toInt (S0 4).toInt (S0 5).toInt (S0 6).toInt (S0 7).toInt px.toInt py.toInt) from (zp_t (by unfold oAt; exact ⟨by assumption, by omega⟩)).symm), by rw [ht]; exact hP9, hD9⟩, hS.F ht⟩) hS.2.2 dX11_isOnlyAt_99
    · have c_6 : (S0 0).toInt = (S0 2).toInt := zc_eq rfl rfl c_6
      refine lv_aload_n hx hb dX11_isOnlyAt_51 rfl (lv_at hl 0 rfl) ?_
      refine va_get (D := (dC, dI)) (ci := 9) (v := .ref (a 32)) (C := RX11) (T := TX11) (N := 55) hx hb hts inX11 hown hK hP 0 rfl rfl 32 (Nat.le_of_ble_eq_true rfl) (hts _ mw_1191) (fun _ h9 => h9) rfl dX11_isOnlyAt_52 ?_
      refine lv_iconst (v := 1) hx hb dX11_isOnlyAt_55 rfl ?_
      refine z_iald hx hb hK hP 1 0 rfl rfl (e := 1) rfl (Nat.le_of_ble_eq_true rfl) (Nat.le_of_ble_eq_true rfl) dX11_isOnlyAt_56 ?_
      refine lv_aload_n hx hb dX11_isOnlyAt_57 rfl (lv_at hl 0 rfl) ?_
      refine va_get (D := (dC, dI)) (ci := 9) (v := .ref (a 32)) (C := RX11) (T := TX11) (N := 55) hx hb hts inX11 hown hK hP 0 rfl rfl 32 (Nat.le_of_ble_eq_true rfl) (hts _ mw_1191) (fun _ h9 => h9) rfl dX11_isOnlyAt_58 ?_
      refine lv_iconst (v := 3) hx hb dX11_isOnlyAt_61 rfl ?_
      refine z_iald hx hb hK hP 1 0 rfl rfl (e := 3) rfl (Nat.le_of_ble_eq_true rfl) (Nat.le_of_ble_eq_true rfl) dX11_isOnlyAt_62 ?_
      refine lv_icmp_eq (tgt := 98) hx hb dX11_isOnlyAt_63 rfl (fun c_9 => ?_) (fun c_9 => ?_)
      · have c_9 : (S0 1).toInt = (S0 3).toInt := zc_eq rfl rfl c_9
        refine lv_iconst (v := 1) hx hb dX11_isOnlyAt_98 rfl ?_
        obtain ⟨hP9, hD9⟩ := zu_sub (wc := [_, _]) hP hD [true, true] rfl rfl
        rw [hQ9]
        exact W.zret (ty := .boolean) (v := 1) hx hb hr (rfl) (fun t ht hW => ⟨⟨congrArg (fun z => Outcome.returned (some (Value.int z))) (show (1 : Int32) = pI (oAt (S0 0).toInt (S0 1).toInt (S0 2).toInt (S0 3).toInt (S0 4).toInt (S0 5).toInt (S0 6).toInt (S0 7).toInt px.toInt py.toInt) from (zp_t (by unfold oAt; exact ⟨by assumption, by omega⟩)).symm), by rw [ht]; exact hP9, hD9⟩, hS.F ht⟩) hS.2.2 dX11_isOnlyAt_99
      · have c_9 : ¬ (S0 1).toInt = (S0 3).toInt := zc_ne rfl rfl c_9
        refine lv_aload_n hx hb dX11_isOnlyAt_66 rfl (lv_at hl 0 rfl) ?_
        refine va_get (D := (dC, dI)) (ci := 9) (v := .ref (a 32)) (C := RX11) (T := TX11) (N := 55) hx hb hts inX11 hown hK hP 0 rfl rfl 32 (Nat.le_of_ble_eq_true rfl) (hts _ mw_1191) (fun _ h9 => h9) rfl dX11_isOnlyAt_67 ?_
        refine lv_iconst (v := 4) hx hb dX11_isOnlyAt_70 rfl ?_
        refine z_iald hx hb hK hP 1 0 rfl rfl (e := 4) rfl (Nat.le_of_ble_eq_true rfl) (Nat.le_of_ble_eq_true rfl) dX11_isOnlyAt_71 ?_
        refine lv_aload_n hx hb dX11_isOnlyAt_72 rfl (lv_at hl 0 rfl) ?_
        refine va_get (D := (dC, dI)) (ci := 9) (v := .ref (a 32)) (C := RX11) (T := TX11) (N := 55) hx hb hts inX11 hown hK hP 0 rfl rfl 32 (Nat.le_of_ble_eq_true rfl) (hts _ mw_1191) (fun _ h9 => h9) rfl dX11_isOnlyAt_73 ?_
        refine lv_bipush (v := 6) hx hb dX11_isOnlyAt_76 rfl ?_
        refine z_iald hx hb hK hP 1 0 rfl rfl (e := 6) rfl (Nat.le_of_ble_eq_true rfl) (Nat.le_of_ble_eq_true rfl) dX11_isOnlyAt_78 ?_
        refine lv_icmp_ne (tgt := 100) hx hb dX11_isOnlyAt_79 rfl (fun c_10 => ?_) (fun c_10 => ?_)
        · have c_10 : ¬ (S0 4).toInt = (S0 6).toInt := zc_ne rfl rfl c_10
          exact hj_2 (by omega)
        · have c_10 : (S0 4).toInt = (S0 6).toInt := zc_eq rfl rfl c_10
          refine lv_aload_n hx hb dX11_isOnlyAt_82 rfl (lv_at hl 0 rfl) ?_
          refine va_get (D := (dC, dI)) (ci := 9) (v := .ref (a 32)) (C := RX11) (T := TX11) (N := 55) hx hb hts inX11 hown hK hP 0 rfl rfl 32 (Nat.le_of_ble_eq_true rfl) (hts _ mw_1191) (fun _ h9 => h9) rfl dX11_isOnlyAt_83 ?_
          refine lv_iconst (v := 5) hx hb dX11_isOnlyAt_86 rfl ?_
          refine z_iald hx hb hK hP 1 0 rfl rfl (e := 5) rfl (Nat.le_of_ble_eq_true rfl) (Nat.le_of_ble_eq_true rfl) dX11_isOnlyAt_87 ?_
          refine lv_aload_n hx hb dX11_isOnlyAt_88 rfl (lv_at hl 0 rfl) ?_
          refine va_get (D := (dC, dI)) (ci := 9) (v := .ref (a 32)) (C := RX11) (T := TX11) (N := 55) hx hb hts inX11 hown hK hP 0 rfl rfl 32 (Nat.le_of_ble_eq_true rfl) (hts _ mw_1191) (fun _ h9 => h9) rfl dX11_isOnlyAt_89 ?_
          refine lv_bipush (v := 7) hx hb dX11_isOnlyAt_92 rfl ?_
          refine z_iald hx hb hK hP 1 0 rfl rfl (e := 7) rfl (Nat.le_of_ble_eq_true rfl) (Nat.le_of_ble_eq_true rfl) dX11_isOnlyAt_94 ?_
          refine lv_icmp_ne (tgt := 100) hx hb dX11_isOnlyAt_95 rfl (fun c_11 => ?_) (fun c_11 => ?_)
          · have c_11 : ¬ (S0 5).toInt = (S0 7).toInt := zc_ne rfl rfl c_11
            exact hj_2 (by omega)
          · have c_11 : (S0 5).toInt = (S0 7).toInt := zc_eq rfl rfl c_11
            refine lv_iconst (v := 1) hx hb dX11_isOnlyAt_98 rfl ?_
            obtain ⟨hP9, hD9⟩ := zu_sub (wc := [_, _]) hP hD [true, true] rfl rfl
            rw [hQ9]
            exact W.zret (ty := .boolean) (v := 1) hx hb hr (rfl) (fun t ht hW => ⟨⟨congrArg (fun z => Outcome.returned (some (Value.int z))) (show (1 : Int32) = pI (oAt (S0 0).toInt (S0 1).toInt (S0 2).toInt (S0 3).toInt (S0 4).toInt (S0 5).toInt (S0 6).toInt (S0 7).toInt px.toInt py.toInt) from (zp_t (by unfold oAt; exact ⟨by assumption, by omega⟩)).symm), by rw [ht]; exact hP9, hD9⟩, hS.F ht⟩) hS.2.2 dX11_isOnlyAt_99
  · have c_1 : ¬ (onS (S0 4).toInt (S0 5).toInt (S0 6).toInt (S0 7).toInt px.toInt py.toInt) := zp_0 c_1
    refine lv_iconst (v := 0) hx hb dX11_isOnlyAt_34 rfl ?_
    obtain ⟨hP9, hD9⟩ := zu_sub (wc := [_, _]) hP hD [true, true] rfl rfl
    rw [hQ9]
    exact W.zret (ty := .boolean) (v := 0) hx hb hr (rfl) (fun t ht hW => ⟨⟨congrArg (fun z => Outcome.returned (some (Value.int z))) (show (0 : Int32) = pI (oAt (S0 0).toInt (S0 1).toInt (S0 2).toInt (S0 3).toInt (S0 4).toInt (S0 5).toInt (S0 6).toInt (S0 7).toInt px.toInt py.toInt) from (zp_f (fun h => absurd h.1 (by first | with_reducible assumption | assumption))).symm), by rw [ht]; exact hP9, hD9⟩, hS.F ht⟩) hS.2.2 dX11_isOnlyAt_35
end
section
set_option maxHeartbeats 4000000 in
set_option maxRecDepth 100000 in
theorem k_M_isFreeWay (l : Launch) (dC : Nat → ClassId) (dI : Nat → Nat → Nat) (cI cZ cF : ClassId) (sz : Nat) (k0 : Nat) (a : Nat → Nat) (I0 : Nat → Int32) (J0 : Nat → Int64) (f : Nat) (g : Nat) (m2 : Nat) (kd : Nat → Int32) (mn : Nat → Int32) (cx : Nat → Int32) (cy : Nat → Int32) (S0 : Nat → Int32) (ox : Nat → Int32) (oy : Nat → Int32) (hf_f : f ≤ 200) (k1 : pl (ox 0)) (k2 : pl (oy 0)) (k3 : pl (cx (40 * f))) (k4 : pl (cy (40 * f))) (hf_g : g ≤ 200) (hm_g : mn g = nI m2) (hn_g : 1 ≤ m2 ∧ m2 ≤ 40) (hp_g : pls m2 (cF40 cx g) (cF40 cy g)) : zM l yX11_isFreeWay cX11_isFreeWay 8 (some .boolean) ({ frames := 3, cells := 0, slots := 0, locals := 81 } : Room) [.ref k0, .int (nI f), .int (nI g)] (dC, dI) (zTy cI cZ cF) [(om k0 a I0 J0), (oa (a 1) cI 201 kd), (oa (a 11) cI 201 mn), (oa (a 12) cI 8040 cx), (oa (a 13) cI 8040 cy), (oa (a 32) cI 8 S0), (oa (a 33) cI 42 ox), (oa (a 34) cI 42 oy)] sz (some (.int (pI (∀ k, k < eO (kd g).toInt m2 → fWy (ox 0).toInt (oy 0).toInt (cx (40 * f)).toInt (cy (40 * f)).toInt m2 (cF40 cx g) (cF40 cy g) k)))) (fun A t => ∃ (S1 : Nat → Int32), zPD (dC, dI) classes A [(om k0 a I0 J0), (oa (a 1) cI 201 kd), (oa (a 11) cI 201 mn), (oa (a 12) cI 8040 cx), (oa (a 13) cI 8040 cy), (oa (a 32) cI 8 S1), (oa (a 33) cI 42 ox), (oa (a 34) cI 42 oy)] t.heap) 0 0 := by
  refine zIn (own := "ScaleShopModel") (loc := [(0, .ref k0), (1, .int (nI f)), (2, .int (nI g))]) rfl rfl rfl rfl (fun p e s m below meth c hx hb hr hts hown hlocks hml hnm9 A hA hS hP hD hK hXN Q9 hQ9 ls hl => ?_)
  have heg := eO_le (k := (kd g).toInt) hn_g.1
  refine lv_aload_n hx hb dX11_isFreeWay_0 rfl (lv_at hl 0 rfl) ?_
  refine va_get (D := (dC, dI)) (ci := 9) (v := .ref (a 33)) (C := RX11) (T := TX11) (N := 55) hx hb hts inX11 hown hK hP 0 rfl rfl 33 (Nat.le_of_ble_eq_true rfl) (hts _ mw_1192) (fun _ h9 => h9) rfl dX11_isFreeWay_1 ?_
  refine lv_iconst (v := 0) hx hb dX11_isFreeWay_4 rfl ?_
  refine z_iald hx hb hK hP 6 0 rfl rfl (e := 0) rfl (Nat.le_of_ble_eq_true rfl) (Nat.le_of_ble_eq_true rfl) dX11_isFreeWay_5 ?_
  refine lv_istore_n (lv' := [(3, .int (ox 0)), (0, .ref k0), (1, .int (nI f)), (2, .int (nI g))]) hx hb dX11_isFreeWay_6 rfl hl (Nat.le_of_ble_eq_true rfl) rfl (fun ls hl => ?_)
  refine lv_aload_n hx hb dX11_isFreeWay_7 rfl (lv_at hl 1 rfl) ?_
  refine va_get (D := (dC, dI)) (ci := 9) (v := .ref (a 34)) (C := RX11) (T := TX11) (N := 55) hx hb hts inX11 hown hK hP 0 rfl rfl 34 (Nat.le_of_ble_eq_true rfl) (hts _ mw_1193) (fun _ h9 => h9) rfl dX11_isFreeWay_8 ?_
  refine lv_iconst (v := 0) hx hb dX11_isFreeWay_11 rfl ?_
  refine z_iald hx hb hK hP 7 0 rfl rfl (e := 0) rfl (Nat.le_of_ble_eq_true rfl) (Nat.le_of_ble_eq_true rfl) dX11_isFreeWay_12 ?_
  refine lv_istore (lv' := [(4, .int (oy 0)), (3, .int (ox 0)), (0, .ref k0), (1, .int (nI f)), (2, .int (nI g))]) hx hb dX11_isFreeWay_13 hl (Nat.le_of_ble_eq_true rfl) rfl (fun ls hl => ?_)
  refine lv_aload_n hx hb dX11_isFreeWay_15 rfl (lv_at hl 2 rfl) ?_
  refine va_get (D := (dC, dI)) (ci := 9) (v := .ref (a 12)) (C := RX11) (T := TX11) (N := 55) hx hb hts inX11 hown hK hP 0 rfl rfl 12 (Nat.le_of_ble_eq_true rfl) (hts _ mw_1171) (fun _ h9 => h9) rfl dX11_isFreeWay_16 ?_
  refine lv_bipush (v := 40) hx hb dX11_isFreeWay_19 rfl ?_
  refine lv_iload_n hx hb dX11_isFreeWay_21 rfl (lv_at hl 3 rfl) ?_
  refine lv_imul hx hb dX11_isFreeWay_22 ?_
  refine zz_i (v := nI (40 * f)) (pk_mul 40 f) ?_
  have b9_1 : 40 * f < 8040 := by omega
  refine z_iald hx hb hK hP 3 0 rfl rfl (e := 40 * f) rfl b9_1 (Nat.le_of_ble_eq_true rfl) dX11_isFreeWay_23 ?_
  refine lv_istore (lv' := [(5, .int (cx (40 * f))), (4, .int (oy 0)), (3, .int (ox 0)), (0, .ref k0), (1, .int (nI f)), (2, .int (nI g))]) hx hb dX11_isFreeWay_24 hl (Nat.le_of_ble_eq_true rfl) rfl (fun ls hl => ?_)
  refine lv_aload_n hx hb dX11_isFreeWay_26 rfl (lv_at hl 3 rfl) ?_
  refine va_get (D := (dC, dI)) (ci := 9) (v := .ref (a 13)) (C := RX11) (T := TX11) (N := 55) hx hb hts inX11 hown hK hP 0 rfl rfl 13 (Nat.le_of_ble_eq_true rfl) (hts _ mw_1172) (fun _ h9 => h9) rfl dX11_isFreeWay_27 ?_
  refine lv_bipush (v := 40) hx hb dX11_isFreeWay_30 rfl ?_
  refine lv_iload_n hx hb dX11_isFreeWay_32 rfl (lv_at hl 4 rfl) ?_
  refine lv_imul hx hb dX11_isFreeWay_33 ?_
  refine zz_i (v := nI (40 * f)) (pk_mul 40 f) ?_
  refine z_iald hx hb hK hP 4 0 rfl rfl (e := 40 * f) rfl b9_1 (Nat.le_of_ble_eq_true rfl) dX11_isFreeWay_34 ?_
  refine lv_istore (lv' := [(6, .int (cy (40 * f))), (5, .int (cx (40 * f))), (4, .int (oy 0)), (3, .int (ox 0)), (0, .ref k0), (1, .int (nI f)), (2, .int (nI g))]) hx hb dX11_isFreeWay_35 hl (Nat.le_of_ble_eq_true rfl) rfl (fun ls hl => ?_)
  refine lv_iconst (v := 0) hx hb dX11_isFreeWay_37 rfl ?_
  refine lv_istore (lv' := [(7, .int 0), (6, .int (cy (40 * f))), (5, .int (cx (40 * f))), (4, .int (oy 0)), (3, .int (ox 0)), (0, .ref k0), (1, .int (nI f)), (2, .int (nI g))]) hx hb dX11_isFreeWay_38 hl (Nat.le_of_ble_eq_true rfl) rfl (fun ls hl => ?_)
  have hl_40 : ∀ (n9 : Nat) (k : Nat) (S1 : Nat → Int32) (H : Heap) (locs : List Loc) (ls : Array Slot), eO (kd g).toInt m2 - k < n9 → (k ≤ eO (kd g).toInt m2) → (∀ j, j < k → fWy (ox 0).toInt (oy 0).toInt (cx (40 * f)).toInt (cy (40 * f)).toInt m2 (cF40 cx g) (cF40 cy g) j) → va_P (dC, dI) classes [(om k0 a I0 J0), (oa (a 1) cI 201 kd), (oa (a 11) cI 201 mn), (oa (a 12) cI 8040 cx), (oa (a 13) cI 8040 cy), (oa (a 32) cI 8 S1), (oa (a 33) cI 42 ox), (oa (a 34) cI 42 oy)] H → va_D A [(om k0 a I0 J0), (oa (a 1) cI 201 kd), (oa (a 11) cI 201 mn), (oa (a 12) cI 8040 cx), (oa (a 13) cI 8040 cy), (oa (a 32) cI 8 S1), (oa (a 33) cI 42 ox), (oa (a 34) cI 42 oy)] → va_S A s.heap H locs → lv_has ls 8 [(7, .int (nI k)), (6, .int (cy (40 * f))), (5, .int (cx (40 * f))), (4, .int (oy 0)), (3, .int (ox 0)), (0, .ref k0), (1, .int (nI f)), (2, .int (nI g))] → W p l e ({ frames := 3, cells := 0, slots := 0, locals := 81 } : Room) s m ([.ref k0, .int (nI f), .int (nI g)] : List Value).toArray below meth c H locs 0 0 Q9 (F0 m 40 ls []) := by
    intro n9
    induction n9 with
    | zero => intro k S1 H locs ls hm; exact absurd hm (Nat.not_lt_zero _)
    | succ n9 ih_40 =>
      intro k S1 H locs ls hm hk hall hP hD hS hl
      refine lv_iload hx hb dX11_isFreeWay_40 (lv_at hl 0 rfl) ?_
      refine lv_aload_n hx hb dX11_isFreeWay_42 rfl (lv_at hl 5 rfl) ?_
      refine lv_iload_n hx hb dX11_isFreeWay_43 rfl (lv_at hl 7 rfl) ?_
      obtain ⟨hPc, hDc, hFc, hI1⟩ := zi_sub (wc := [_, _, _]) hP hD hS hA [0, 1, 2] rfl rfl
      refine zcall (st1 := [.int (nI (eO (kd g).toInt m2)), .int (nI k)]) (va_runV (As := [.int (nI g)]) (rest := [.int (nI k)]) ⟨hx, hb, hml, hown, hts⟩ (k_M_edgesOf l dC dI cI cZ cF H.size k0 a I0 J0 g m2 kd mn (by first | with_reducible assumption | omega) (by first | with_reducible assumption | assumption) (by first | with_reducible assumption | omega)) (csV_166 hts rfl rfl ⟨Nat.le_of_ble_eq_true rfl, Nat.le_of_ble_eq_true rfl⟩) (zPV2 (q0 := 0) (ci := 9) hPc hDc hK hXN rfl rfl) rfl rfl hl.1 rfl (lv_room (Nat.le_of_ble_eq_true rfl)) dX11_isFreeWay_44 ⟨Nat.le_of_ble_eq_true rfl, Nat.le_of_ble_eq_true rfl⟩) hS hFc hFc rfl (fun t H locs ht hB hk1 hS => ?_)
      obtain ⟨hP1, hD1⟩ := hB
      rw [ht] at hP1
      replace hP := z0 hP hD hk1 hP1 hI1
      clear hk1 hPc hDc hFc hP1 hD1 ht hI1
      have b9_3 : zlt (k) := show k < 2147483648 by omega
      have b9_4 : zlt ((eO (kd g).toInt m2)) := show (eO (kd g).toInt m2) < 2147483648 by omega
      refine lv_icmp_ge (tgt := 117) hx hb dX11_isFreeWay_47 rfl (fun c_2 => ?_) (fun c_2 => ?_)
      · have c_2 : ((eO (kd g).toInt m2 : Nat) : Int) ≤ ((k : Nat) : Int) := zc_le (nI_toInt b9_4) (nI_toInt b9_3) c_2
        refine lv_iconst (v := 1) hx hb dX11_isFreeWay_117 rfl ?_
        obtain ⟨hP9, hD9⟩ := zu_sub (wc := [_, _, _, _, _, _, _, _]) hP hD [true, true, true, true, true, true, true, true] rfl rfl
        rw [hQ9]
        exact W.zret (ty := .boolean) (v := 1) hx hb hr (rfl) (fun t ht hW => ⟨⟨congrArg (fun z => Outcome.returned (some (Value.int z))) (show (1 : Int32) = pI (∀ k, k < eO (kd g).toInt m2 → fWy (ox 0).toInt (oy 0).toInt (cx (40 * f)).toInt (cy (40 * f)).toInt m2 (cF40 cx g) (cF40 cy g) k) from (zp_t (fun j hj => hall j (by omega))).symm), S1, by rw [ht]; exact hP9, hD9⟩, hS.F ht⟩) hS.2.2 dX11_isFreeWay_118
      · have c_2 : ((k : Nat) : Int) < ((eO (kd g).toInt m2 : Nat) : Int) := zc_nle (nI_toInt b9_4) (nI_toInt b9_3) c_2
        have hk9 : k < m2 := (by omega)
        have hnk := nxt_lt (n := m2) (i := k) (by omega)
        refine lv_aload_n hx hb dX11_isFreeWay_50 rfl (lv_at hl 5 rfl) ?_
        refine lv_iload_n hx hb dX11_isFreeWay_51 rfl (lv_at hl 7 rfl) ?_
        refine lv_iload hx hb dX11_isFreeWay_52 (lv_at hl 0 rfl) ?_
        refine lv_iconst (v := 4) hx hb dX11_isFreeWay_54 rfl ?_
        obtain ⟨hPc, hDc, hFc⟩ := zo_sub (wc := [_, _, _, _, _]) hP hD hS hA [0, 2, 3, 4, 5] (by decide +kernel) rfl
        refine zcall (st1 := []) (va_runV (As := [.int (nI g), .int (nI k), .int 4]) (rest := []) ⟨hx, hb, hml, hown, hts⟩ (k_M_edge l dC dI cI cZ cF H.size k0 a I0 J0 g m2 k 4 mn cx cy S1 (by first | with_reducible assumption | omega) (by first | with_reducible assumption | assumption) (by first | with_reducible assumption | omega) (by first | with_reducible assumption | omega) (by first | with_reducible assumption | omega)) (csV_167 hts rfl rfl ⟨Nat.le_of_ble_eq_true rfl, Nat.le_of_ble_eq_true rfl⟩) (zPV2 (q0 := 0) (ci := 9) hPc hDc hK hXN rfl rfl) rfl rfl hl.1 rfl (lv_room (Nat.le_of_ble_eq_true rfl)) dX11_isFreeWay_55 ⟨Nat.le_of_ble_eq_true rfl, Nat.le_of_ble_eq_true rfl⟩) hS hFc hFc rfl (fun t H locs ht hB hk1 hS => ?_)
        obtain ⟨S2, u0, u1, u2, u3, ur, hP1, hD1⟩ := hB
        rw [ht] at hP1
        obtain ⟨hP, hD⟩ := zn (W2 := [_, _, _, _, _, (oa (a 32) cI 8 S2), _, _]) hP hD hk1 hFc hP1 hD1 [0, 2, 3, 4, 5] zl_145 zl_145 [0, 2, 3, 4, 5] (by decide +kernel) rfl rfl rfl rfl rfl
        clear hk1 hPc hDc hFc hP1 hD1 ht
        refine lv_aload_n hx hb dX11_isFreeWay_58 rfl (lv_at hl 5 rfl) ?_
        refine va_get (D := (dC, dI)) (ci := 9) (v := .ref (a 32)) (C := RX11) (T := TX11) (N := 55) hx hb hts inX11 hown hK hP 0 rfl rfl 32 (Nat.le_of_ble_eq_true rfl) (hts _ mw_1191) (fun _ h9 => h9) rfl dX11_isFreeWay_59 ?_
        refine lv_iconst (v := 0) hx hb dX11_isFreeWay_62 rfl ?_
        refine lv_iload_n hx hb dX11_isFreeWay_63 rfl (lv_at hl 4 rfl) ?_
        refine z_iast hx hb hK hP hD hS 5 0 rfl rfl (e := 0) (x := ox 0) rfl (Nat.le_of_ble_eq_true rfl) (Nat.le_of_ble_eq_true rfl) dX11_isFreeWay_64 (fun H locs hP hD hS => ?_)
        obtain ⟨hP, hD⟩ := zre (W2 := [_, _, _, _, _, (oa (a 32) cI 8 (upd S2 0 (ox 0))), _, _]) hP hD rfl
        refine lv_aload_n hx hb dX11_isFreeWay_65 rfl (lv_at hl 5 rfl) ?_
        refine va_get (D := (dC, dI)) (ci := 9) (v := .ref (a 32)) (C := RX11) (T := TX11) (N := 55) hx hb hts inX11 hown hK hP 0 rfl rfl 32 (Nat.le_of_ble_eq_true rfl) (hts _ mw_1191) (fun _ h9 => h9) rfl dX11_isFreeWay_66 ?_
        refine lv_iconst (v := 1) hx hb dX11_isFreeWay_69 rfl ?_
        refine lv_iload hx hb dX11_isFreeWay_70 (lv_at hl 3 rfl) ?_
        refine z_iast hx hb hK hP hD hS 5 0 rfl rfl (e := 1) (x := oy 0) rfl (Nat.le_of_ble_eq_true rfl) (Nat.le_of_ble_eq_true rfl) dX11_isFreeWay_72 (fun H locs hP hD hS => ?_)
        obtain ⟨hP, hD⟩ := zre (W2 := [_, _, _, _, _, (oa (a 32) cI 8 (upd (upd S2 0 (ox 0)) 1 (oy 0))), _, _]) hP hD rfl
        refine lv_aload_n hx hb dX11_isFreeWay_73 rfl (lv_at hl 5 rfl) ?_
        refine va_get (D := (dC, dI)) (ci := 9) (v := .ref (a 32)) (C := RX11) (T := TX11) (N := 55) hx hb hts inX11 hown hK hP 0 rfl rfl 32 (Nat.le_of_ble_eq_true rfl) (hts _ mw_1191) (fun _ h9 => h9) rfl dX11_isFreeWay_74 ?_
        refine lv_iconst (v := 2) hx hb dX11_isFreeWay_77 rfl ?_
        refine lv_iload hx hb dX11_isFreeWay_78 (lv_at hl 2 rfl) ?_
        refine z_iast hx hb hK hP hD hS 5 0 rfl rfl (e := 2) (x := cx (40 * f)) rfl (Nat.le_of_ble_eq_true rfl) (Nat.le_of_ble_eq_true rfl) dX11_isFreeWay_80 (fun H locs hP hD hS => ?_)
        obtain ⟨hP, hD⟩ := zre (W2 := [_, _, _, _, _, (oa (a 32) cI 8 (upd (upd (upd S2 0 (ox 0)) 1 (oy 0)) 2 (cx (40 * f)))), _, _]) hP hD rfl
        refine lv_aload_n hx hb dX11_isFreeWay_81 rfl (lv_at hl 5 rfl) ?_
        refine va_get (D := (dC, dI)) (ci := 9) (v := .ref (a 32)) (C := RX11) (T := TX11) (N := 55) hx hb hts inX11 hown hK hP 0 rfl rfl 32 (Nat.le_of_ble_eq_true rfl) (hts _ mw_1191) (fun _ h9 => h9) rfl dX11_isFreeWay_82 ?_
        refine lv_iconst (v := 3) hx hb dX11_isFreeWay_85 rfl ?_
        refine lv_iload hx hb dX11_isFreeWay_86 (lv_at hl 1 rfl) ?_
        refine z_iast hx hb hK hP hD hS 5 0 rfl rfl (e := 3) (x := cy (40 * f)) rfl (Nat.le_of_ble_eq_true rfl) (Nat.le_of_ble_eq_true rfl) dX11_isFreeWay_88 (fun H locs hP hD hS => ?_)
        obtain ⟨hP, hD⟩ := zre (W2 := [_, _, _, _, _, (oa (a 32) cI 8 (upd (upd (upd (upd S2 0 (ox 0)) 1 (oy 0)) 2 (cx (40 * f))) 3 (cy (40 * f)))), _, _]) hP hD rfl
        have w4 : (upd (upd (upd (upd S2 0 (ox 0)) 1 (oy 0)) 2 (cx (40 * f))) 3 (cy (40 * f))) 4 = cF40 cx g k := u0
        have w5 : (upd (upd (upd (upd S2 0 (ox 0)) 1 (oy 0)) 2 (cx (40 * f))) 3 (cy (40 * f))) 5 = cF40 cy g k := u1
        have w6 : (upd (upd (upd (upd S2 0 (ox 0)) 1 (oy 0)) 2 (cx (40 * f))) 3 (cy (40 * f))) 6 = cF40 cx g (nxt m2 k) := u2
        have w7 : (upd (upd (upd (upd S2 0 (ox 0)) 1 (oy 0)) 2 (cx (40 * f))) 3 (cy (40 * f))) 7 = cF40 cy g (nxt m2 k) := u3
        have hs3 := sPl (S := upd (upd (upd (upd S2 0 (ox 0)) 1 (oy 0)) 2 (cx (40 * f))) 3 (cy (40 * f))) k1 k2 k3 k4 (by rw [w4]; exact (hp_g k hk9).1) (by rw [w5]; exact (hp_g k hk9).2) (by rw [w6]; exact (hp_g _ hnk).1) (by rw [w7]; exact (hp_g _ hnk).2)
        refine lv_aload_n hx hb dX11_isFreeWay_89 rfl (lv_at hl 5 rfl) ?_
        refine va_get (D := (dC, dI)) (ci := 9) (v := .ref (a 32)) (C := RX11) (T := TX11) (N := 55) hx hb hts inX11 hown hK hP 0 rfl rfl 32 (Nat.le_of_ble_eq_true rfl) (hts _ mw_1191) (fun _ h9 => h9) rfl dX11_isFreeWay_90 ?_
        obtain ⟨hPc, hDc, hFc, hI1⟩ := zi_sub (wc := [_]) hP hD hS hA [5] rfl rfl
        refine zcall (st1 := [.int (pI (mtC ((upd (upd (upd (upd S2 0 (ox 0)) 1 (oy 0)) 2 (cx (40 * f))) 3 (cy (40 * f))) 0).toInt ((upd (upd (upd (upd S2 0 (ox 0)) 1 (oy 0)) 2 (cx (40 * f))) 3 (cy (40 * f))) 1).toInt ((upd (upd (upd (upd S2 0 (ox 0)) 1 (oy 0)) 2 (cx (40 * f))) 3 (cy (40 * f))) 2).toInt ((upd (upd (upd (upd S2 0 (ox 0)) 1 (oy 0)) 2 (cx (40 * f))) 3 (cy (40 * f))) 3).toInt ((upd (upd (upd (upd S2 0 (ox 0)) 1 (oy 0)) 2 (cx (40 * f))) 3 (cy (40 * f))) 4).toInt ((upd (upd (upd (upd S2 0 (ox 0)) 1 (oy 0)) 2 (cx (40 * f))) 3 (cy (40 * f))) 5).toInt ((upd (upd (upd (upd S2 0 (ox 0)) 1 (oy 0)) 2 (cx (40 * f))) 3 (cy (40 * f))) 6).toInt ((upd (upd (upd (upd S2 0 (ox 0)) 1 (oy 0)) 2 (cx (40 * f))) 3 (cy (40 * f))) 7).toInt))]) (va_runS (As := [.ref (a 32)]) (rest := []) ⟨hx, hb, hml, hown, hts⟩ (k_M_touch l dC dI cI cZ cF H.size (a 32) (upd (upd (upd (upd S2 0 (ox 0)) 1 (oy 0)) 2 (cx (40 * f))) 3 (cy (40 * f))) (hs3)) (csS_168 hts rfl rfl ⟨Nat.le_of_ble_eq_true rfl, Nat.le_of_ble_eq_true rfl⟩) (zPS2 hPc hDc hK hXN) rfl rfl hl.1 rfl (lv_room (Nat.le_of_ble_eq_true rfl)) dX11_isFreeWay_93 ⟨Nat.le_of_ble_eq_true rfl, Nat.le_of_ble_eq_true rfl⟩) hS hFc hFc rfl (fun t H locs ht hB hk1 hS => ?_)
        obtain ⟨hP1, hD1⟩ := hB
        rw [ht] at hP1
        replace hP := z0 hP hD hk1 hP1 hI1
        clear hk1 hPc hDc hFc hP1 hD1 ht hI1
        refine zz_i (v := pI (mtC (ox 0).toInt (oy 0).toInt (cx (40 * f)).toInt (cy (40 * f)).toInt (cF40 cx g k).toInt (cF40 cy g k).toInt (cF40 cx g (nxt m2 k)).toInt (cF40 cy g (nxt m2 k)).toInt)) (zp_iff (mt_cg (S := upd (upd (upd (upd S2 0 (ox 0)) 1 (oy 0)) 2 (cx (40 * f))) 3 (cy (40 * f))) rfl rfl rfl rfl w4 w5 w6 w7)) ?_
        refine lv_if_eq (tgt := 111) hx hb dX11_isFreeWay_96 rfl (fun c_5 => ?_) (fun c_5 => ?_)
        · have c_5 : ¬ (mtC (ox 0).toInt (oy 0).toInt (cx (40 * f)).toInt (cy (40 * f)).toInt (cF40 cx g k).toInt (cF40 cy g k).toInt (cF40 cx g (nxt m2 k)).toInt (cF40 cy g (nxt m2 k)).toInt) := zp_0 c_5
          refine lv_iinc (v := nI (k + 1)) (lv' := [(7, .int (nI (k + 1))), (6, .int (cy (40 * f))), (5, .int (cx (40 * f))), (4, .int (oy 0)), (3, .int (ox 0)), (0, .ref k0), (1, .int (nI f)), (2, .int (nI g))]) hx hb dX11_isFreeWay_111 hl (k := 0) rfl (nI_add k 1) (Nat.le_of_ble_eq_true rfl) rfl (fun ls hl => ?_)
          refine lv_goto (tgt := 40) hx hb dX11_isFreeWay_114 rfl ?_
          exact ih_40 (k + 1) (upd (upd (upd (upd S2 0 (ox 0)) 1 (oy 0)) 2 (cx (40 * f))) 3 (cy (40 * f))) H locs ls (by first | with_reducible assumption | omega) (by first | with_reducible assumption | omega) (by intro j hj; rcases Nat.lt_or_ge j k with h | h; exact hall j h; rw [show j = k by omega]; unfold fWy; first | exact fun h => absurd h (by first | with_reducible assumption | assumption) | exact fun _ => (by first | with_reducible assumption | assumption)) hP hD hS (lv_sub hl [0, 1, 2, 3, 4, 5, 6, 7] rfl)
        · have c_5 : mtC (ox 0).toInt (oy 0).toInt (cx (40 * f)).toInt (cy (40 * f)).toInt (cF40 cx g k).toInt (cF40 cy g k).toInt (cF40 cx g (nxt m2 k)).toInt (cF40 cy g (nxt m2 k)).toInt := zp_1 c_5
          refine lv_aload_n hx hb dX11_isFreeWay_99 rfl (lv_at hl 5 rfl) ?_
          refine lv_iload_n hx hb dX11_isFreeWay_100 rfl (lv_at hl 4 rfl) ?_
          refine lv_iload hx hb dX11_isFreeWay_101 (lv_at hl 3 rfl) ?_
          obtain ⟨hPc, hDc, hFc, hI1⟩ := zi_sub (wc := [_, _]) hP hD hS hA [0, 5] rfl rfl
          refine zcall (st1 := [.int (pI (oAt ((upd (upd (upd (upd S2 0 (ox 0)) 1 (oy 0)) 2 (cx (40 * f))) 3 (cy (40 * f))) 0).toInt ((upd (upd (upd (upd S2 0 (ox 0)) 1 (oy 0)) 2 (cx (40 * f))) 3 (cy (40 * f))) 1).toInt ((upd (upd (upd (upd S2 0 (ox 0)) 1 (oy 0)) 2 (cx (40 * f))) 3 (cy (40 * f))) 2).toInt ((upd (upd (upd (upd S2 0 (ox 0)) 1 (oy 0)) 2 (cx (40 * f))) 3 (cy (40 * f))) 3).toInt ((upd (upd (upd (upd S2 0 (ox 0)) 1 (oy 0)) 2 (cx (40 * f))) 3 (cy (40 * f))) 4).toInt ((upd (upd (upd (upd S2 0 (ox 0)) 1 (oy 0)) 2 (cx (40 * f))) 3 (cy (40 * f))) 5).toInt ((upd (upd (upd (upd S2 0 (ox 0)) 1 (oy 0)) 2 (cx (40 * f))) 3 (cy (40 * f))) 6).toInt ((upd (upd (upd (upd S2 0 (ox 0)) 1 (oy 0)) 2 (cx (40 * f))) 3 (cy (40 * f))) 7).toInt (ox 0).toInt (oy 0).toInt))]) (va_runV (As := [.int (ox 0), .int (oy 0)]) (rest := []) ⟨hx, hb, hml, hown, hts⟩ (k_M_isOnlyAt l dC dI cI cZ cF H.size k0 a I0 J0 (ox 0) (oy 0) (upd (upd (upd (upd S2 0 (ox 0)) 1 (oy 0)) 2 (cx (40 * f))) 3 (cy (40 * f))) (hs3) (k1) (k2)) (csV_177 hts rfl rfl ⟨Nat.le_of_ble_eq_true rfl, Nat.le_of_ble_eq_true rfl⟩) (zPV2 (q0 := 0) (ci := 9) hPc hDc hK hXN rfl rfl) rfl rfl hl.1 rfl (lv_room (Nat.le_of_ble_eq_true rfl)) dX11_isFreeWay_103 ⟨Nat.le_of_ble_eq_true rfl, Nat.le_of_ble_eq_true rfl⟩) hS hFc hFc rfl (fun t H locs ht hB hk1 hS => ?_)
          obtain ⟨hP1, hD1⟩ := hB
          rw [ht] at hP1
          replace hP := z0 hP hD hk1 hP1 hI1
          clear hk1 hPc hDc hFc hP1 hD1 ht hI1
          refine zz_i (v := pI (oAt (ox 0).toInt (oy 0).toInt (cx (40 * f)).toInt (cy (40 * f)).toInt (cF40 cx g k).toInt (cF40 cy g k).toInt (cF40 cx g (nxt m2 k)).toInt (cF40 cy g (nxt m2 k)).toInt (ox 0).toInt (oy 0).toInt)) (zp_iff (oa_cg (S := upd (upd (upd (upd S2 0 (ox 0)) 1 (oy 0)) 2 (cx (40 * f))) 3 (cy (40 * f))) rfl rfl rfl rfl w4 w5 w6 w7)) ?_
          refine lv_if_ne (tgt := 111) hx hb dX11_isFreeWay_106 rfl (fun c_6 => ?_) (fun c_6 => ?_)
          · have c_6 : oAt (ox 0).toInt (oy 0).toInt (cx (40 * f)).toInt (cy (40 * f)).toInt (cF40 cx g k).toInt (cF40 cy g k).toInt (cF40 cx g (nxt m2 k)).toInt (cF40 cy g (nxt m2 k)).toInt (ox 0).toInt (oy 0).toInt := zp_1 c_6
            refine lv_iinc (v := nI (k + 1)) (lv' := [(7, .int (nI (k + 1))), (6, .int (cy (40 * f))), (5, .int (cx (40 * f))), (4, .int (oy 0)), (3, .int (ox 0)), (0, .ref k0), (1, .int (nI f)), (2, .int (nI g))]) hx hb dX11_isFreeWay_111 hl (k := 0) rfl (nI_add k 1) (Nat.le_of_ble_eq_true rfl) rfl (fun ls hl => ?_)
            refine lv_goto (tgt := 40) hx hb dX11_isFreeWay_114 rfl ?_
            exact ih_40 (k + 1) (upd (upd (upd (upd S2 0 (ox 0)) 1 (oy 0)) 2 (cx (40 * f))) 3 (cy (40 * f))) H locs ls (by first | with_reducible assumption | omega) (by first | with_reducible assumption | omega) (by intro j hj; rcases Nat.lt_or_ge j k with h | h; exact hall j h; rw [show j = k by omega]; unfold fWy; first | exact fun h => absurd h (by first | with_reducible assumption | assumption) | exact fun _ => (by first | with_reducible assumption | assumption)) hP hD hS (lv_sub hl [0, 1, 2, 3, 4, 5, 6, 7] rfl)
          · have c_6 : ¬ (oAt (ox 0).toInt (oy 0).toInt (cx (40 * f)).toInt (cy (40 * f)).toInt (cF40 cx g k).toInt (cF40 cy g k).toInt (cF40 cx g (nxt m2 k)).toInt (cF40 cy g (nxt m2 k)).toInt (ox 0).toInt (oy 0).toInt) := zp_0 c_6
            refine lv_iconst (v := 0) hx hb dX11_isFreeWay_109 rfl ?_
            obtain ⟨hP9, hD9⟩ := zu_sub (wc := [_, _, _, _, _, _, _, _]) hP hD [true, true, true, true, true, true, true, true] rfl rfl
            rw [hQ9]
            exact W.zret (ty := .boolean) (v := 0) hx hb hr (rfl) (fun t ht hW => ⟨⟨congrArg (fun z => Outcome.returned (some (Value.int z))) (show (0 : Int32) = pI (∀ k, k < eO (kd g).toInt m2 → fWy (ox 0).toInt (oy 0).toInt (cx (40 * f)).toInt (cy (40 * f)).toInt m2 (cF40 cx g) (cF40 cy g) k) from (zp_f (fun h => absurd (h k (by omega) (by first | with_reducible assumption | assumption)) (by first | with_reducible assumption | assumption))).symm), (upd (upd (upd (upd S2 0 (ox 0)) 1 (oy 0)) 2 (cx (40 * f))) 3 (cy (40 * f))), by rw [ht]; exact hP9, hD9⟩, hS.F ht⟩) hS.2.2 dX11_isFreeWay_110
  exact hl_40 _ 0 S0 s.heap [] ls (Nat.lt_succ_self _) (by first | with_reducible assumption | omega) (by intro j hj; omega) hP hD hS (lv_sub hl [0, 1, 2, 3, 4, 5, 6, 7] rfl)
set_option maxHeartbeats 4000000 in
set_option maxRecDepth 100000 in
theorem k_M_isFeature_n (l : Launch) (dC : Nat → ClassId) (dI : Nat → Nat → Nat) (cI cZ cF : ClassId) (sz : Nat) (k0 : Nat) (a : Nat → Nat) (I0 : Nat → Int32) (J0 : Nat → Int64) (f : Nat) (ft : Nat) (hft : I0 0 = nI ft) (h200 : ft ≤ 200) (hf31 : f < 2147483648) : zM l yX11_isFeature cX11_isFeature 2 (some .boolean) ({ frames := 0, cells := 0, slots := 0, locals := 0 } : Room) [.ref k0, .int (nI f)] (dC, dI) (zTy cI cZ cF) [(om k0 a I0 J0)] sz (some (.int (pI (f < ft)))) (fun A t => zPD (dC, dI) classes A [(om k0 a I0 J0)] t.heap) 0 0 := by
  refine zIn (own := "ScaleShopModel") (loc := [(0, .ref k0), (1, .int (nI f))]) rfl rfl rfl rfl (fun p e s m below meth c hx hb hr hts hown hlocks hml hnm9 A hA hS hP hD hK hXN Q9 hQ9 ls hl => ?_)
  refine lv_iload_n hx hb dX11_isFeature_0 rfl (lv_at hl 1 rfl) ?_
  have b9_2 : zlt (f) := show f < 2147483648 by omega
  refine lv_if_lt (tgt := 16) hx hb dX11_isFeature_1 rfl (fun c_1 => ?_) (fun c_1 => ?_)
  · have c_1 : ((f : Nat) : Int) < 0 := zc_lt (nI_toInt b9_2) rfl c_1
    exfalso; omega
  · have c_1 : 0 ≤ ((f : Nat) : Int) := zc_nlt (nI_toInt b9_2) rfl c_1
    refine lv_iload_n hx hb dX11_isFeature_4 rfl (lv_at hl 1 rfl) ?_
    refine lv_aload_n hx hb dX11_isFeature_5 rfl (lv_at hl 0 rfl) ?_
    refine va_get (D := (dC, dI)) (ci := 9) (v := .int (I0 0)) (C := RX11) (T := TX11) (N := 55) hx hb hts inX11 hown hK hP 0 rfl rfl 0 (Nat.le_of_ble_eq_true rfl) (hts _ mw_1159) (fun _ h9 => h9) rfl dX11_isFeature_6 ?_
    refine zz_i (v := nI ft) (hft) ?_
    have b9_4 : zlt (ft) := show ft < 2147483648 by omega
    refine lv_icmp_ge (tgt := 16) hx hb dX11_isFeature_9 rfl (fun c_3 => ?_) (fun c_3 => ?_)
    · have c_3 : ((ft : Nat) : Int) ≤ ((f : Nat) : Int) := zc_le (nI_toInt b9_4) (nI_toInt b9_2) c_3
      refine lv_iconst (v := 0) hx hb dX11_isFeature_16 rfl ?_
      obtain ⟨hP9, hD9⟩ := zu_sub (wc := [_]) hP hD [true] rfl rfl
      rw [hQ9]
      exact W.zret (ty := .boolean) (v := 0) hx hb hr (rfl) (fun t ht hW => ⟨⟨congrArg (fun z => Outcome.returned (some (Value.int z))) (show (0 : Int32) = pI (f < ft) from (zp_f (by omega)).symm), by rw [ht]; exact hP9, hD9⟩, hS.F ht⟩) hS.2.2 dX11_isFeature_17
    · have c_3 : ((f : Nat) : Int) < ((ft : Nat) : Int) := zc_nle (nI_toInt b9_4) (nI_toInt b9_2) c_3
      refine lv_iconst (v := 1) hx hb dX11_isFeature_12 rfl ?_
      refine lv_goto (tgt := 17) hx hb dX11_isFeature_13 rfl ?_
      obtain ⟨hP9, hD9⟩ := zu_sub (wc := [_]) hP hD [true] rfl rfl
      rw [hQ9]
      exact W.zret (ty := .boolean) (v := 1) hx hb hr (rfl) (fun t ht hW => ⟨⟨congrArg (fun z => Outcome.returned (some (Value.int z))) (show (1 : Int32) = pI (f < ft) from (zp_t (by omega)).symm), by rw [ht]; exact hP9, hD9⟩, hS.F ht⟩) hS.2.2 dX11_isFeature_17
set_option maxHeartbeats 4000000 in
set_option maxRecDepth 100000 in
theorem k_M_isFeature (l : Launch) (dC : Nat → ClassId) (dI : Nat → Nat → Nat) (cI cZ cF : ClassId) (sz : Nat) (k0 : Nat) (a : Nat → Nat) (I0 : Nat → Int32) (J0 : Nat → Int64) (ft : Nat) (v : Int32) (hft : I0 0 = nI ft) (h200 : ft ≤ 200) : zM l yX11_isFeature cX11_isFeature 2 (some .boolean) ({ frames := 0, cells := 0, slots := 0, locals := 0 } : Room) [.ref k0, .int v] (dC, dI) (zTy cI cZ cF) [(om k0 a I0 J0)] sz (some (.int (pI (0 ≤ v.toInt ∧ v.toInt < (ft : Int))))) (fun A t => zPD (dC, dI) classes A [(om k0 a I0 J0)] t.heap) 0 0 := by
  refine zIn (own := "ScaleShopModel") (loc := [(0, .ref k0), (1, .int v)]) rfl rfl rfl rfl (fun p e s m below meth c hx hb hr hts hown hlocks hml hnm9 A hA hS hP hD hK hXN Q9 hQ9 ls hl => ?_)
  refine lv_iload_n hx hb dX11_isFeature_0 rfl (lv_at hl 1 rfl) ?_
  refine lv_if_lt (tgt := 16) hx hb dX11_isFeature_1 rfl (fun c_1 => ?_) (fun c_1 => ?_)
  · have c_1 : v.toInt < 0 := zc_lt rfl rfl c_1
    refine lv_iconst (v := 0) hx hb dX11_isFeature_16 rfl ?_
    obtain ⟨hP9, hD9⟩ := zu_sub (wc := [_]) hP hD [true] rfl rfl
    rw [hQ9]
    exact W.zret (ty := .boolean) (v := 0) hx hb hr (rfl) (fun t ht hW => ⟨⟨congrArg (fun z => Outcome.returned (some (Value.int z))) (show (0 : Int32) = pI (0 ≤ v.toInt ∧ v.toInt < (ft : Int)) from (zp_f (by omega)).symm), by rw [ht]; exact hP9, hD9⟩, hS.F ht⟩) hS.2.2 dX11_isFeature_17
  · have c_1 : 0 ≤ v.toInt := zc_nlt rfl rfl c_1
    refine lv_iload_n hx hb dX11_isFeature_4 rfl (lv_at hl 1 rfl) ?_
    refine lv_aload_n hx hb dX11_isFeature_5 rfl (lv_at hl 0 rfl) ?_
    refine va_get (D := (dC, dI)) (ci := 9) (v := .int (I0 0)) (C := RX11) (T := TX11) (N := 55) hx hb hts inX11 hown hK hP 0 rfl rfl 0 (Nat.le_of_ble_eq_true rfl) (hts _ mw_1159) (fun _ h9 => h9) rfl dX11_isFeature_6 ?_
    refine zz_i (v := nI ft) (hft) ?_
    have b9_3 : zlt (ft) := show ft < 2147483648 by omega
    refine lv_icmp_ge (tgt := 16) hx hb dX11_isFeature_9 rfl (fun c_2 => ?_) (fun c_2 => ?_)
    · have c_2 : ((ft : Nat) : Int) ≤ v.toInt := zc_le (nI_toInt b9_3) rfl c_2
      refine lv_iconst (v := 0) hx hb dX11_isFeature_16 rfl ?_
      obtain ⟨hP9, hD9⟩ := zu_sub (wc := [_]) hP hD [true] rfl rfl
      rw [hQ9]
      exact W.zret (ty := .boolean) (v := 0) hx hb hr (rfl) (fun t ht hW => ⟨⟨congrArg (fun z => Outcome.returned (some (Value.int z))) (show (0 : Int32) = pI (0 ≤ v.toInt ∧ v.toInt < (ft : Int)) from (zp_f (by omega)).symm), by rw [ht]; exact hP9, hD9⟩, hS.F ht⟩) hS.2.2 dX11_isFeature_17
    · have c_2 : v.toInt < ((ft : Nat) : Int) := zc_nle (nI_toInt b9_3) rfl c_2
      refine lv_iconst (v := 1) hx hb dX11_isFeature_12 rfl ?_
      refine lv_goto (tgt := 17) hx hb dX11_isFeature_13 rfl ?_
      obtain ⟨hP9, hD9⟩ := zu_sub (wc := [_]) hP hD [true] rfl rfl
      rw [hQ9]
      exact W.zret (ty := .boolean) (v := 1) hx hb hr (rfl) (fun t ht hW => ⟨⟨congrArg (fun z => Outcome.returned (some (Value.int z))) (show (1 : Int32) = pI (0 ≤ v.toInt ∧ v.toInt < (ft : Int)) from (zp_t (by omega)).symm), by rw [ht]; exact hP9, hD9⟩, hS.F ht⟩) hS.2.2 dX11_isFeature_17
set_option maxHeartbeats 4000000 in
set_option maxRecDepth 100000 in
theorem k_M_is_n (l : Launch) (dC : Nat → ClassId) (dI : Nat → Nat → Nat) (cI cZ cF : ClassId) (sz : Nat) (k0 : Nat) (a : Nat → Nat) (I0 : Nat → Int32) (J0 : Nat → Int64) (f : Nat) (ft : Nat) (st : Nat → Int32) (tn : Nat → Int32) (hft : I0 0 = nI ft) (h200 : ft ≤ 200) (hf31 : f < 2147483648) : zM l yX11_is cX11_is 2 (some .boolean) ({ frames := 1, cells := 0, slots := 0, locals := 21 } : Room) [.ref k0, .int (nI f)] (dC, dI) (zTy cI cZ cF) [(om k0 a I0 J0), (oa (a 5) cI 201 st), (oa (a 6) cZ 201 tn)] sz (some (.int (pI (f < ft ∧ (st f).toInt = 1 ∧ (tn f).toInt = 0)))) (fun A t => zPD (dC, dI) classes A [(om k0 a I0 J0), (oa (a 5) cI 201 st), (oa (a 6) cZ 201 tn)] t.heap) 0 0 := by
  refine zIn (own := "ScaleShopModel") (loc := [(0, .ref k0), (1, .int (nI f))]) rfl rfl rfl rfl (fun p e s m below meth c hx hb hr hts hown hlocks hml hnm9 A hA hS hP hD hK hXN Q9 hQ9 ls hl => ?_)
  refine lv_aload_n hx hb dX11_is_0 rfl (lv_at hl 0 rfl) ?_
  refine lv_iload_n hx hb dX11_is_1 rfl (lv_at hl 1 rfl) ?_
  obtain ⟨hPc, hDc, hFc, hI1⟩ := zi_sub (wc := [_]) hP hD hS hA [0] rfl rfl
  refine zcall (st1 := [.int (pI (f < ft))]) (va_runV (As := [.int (nI f)]) (rest := []) ⟨hx, hb, hml, hown, hts⟩ (k_M_isFeature_n l dC dI cI cZ cF s.heap.size k0 a I0 J0 f ft (by first | with_reducible assumption | assumption) (by first | with_reducible assumption | omega) (by first | with_reducible assumption | omega)) (csV_178 hts rfl rfl ⟨Nat.le_of_ble_eq_true rfl, Nat.le_of_ble_eq_true rfl⟩) (zPV2 (q0 := 0) (ci := 9) hPc hDc hK hXN rfl rfl) rfl rfl hl.1 rfl (lv_room (Nat.le_of_ble_eq_true rfl)) dX11_is_2 ⟨Nat.le_of_ble_eq_true rfl, Nat.le_of_ble_eq_true rfl⟩) hS hFc hFc rfl (fun t H locs ht hB hk1 hS => ?_)
  obtain ⟨hP1, hD1⟩ := hB
  rw [ht] at hP1
  replace hP := z0 hP hD hk1 hP1 hI1
  clear hk1 hPc hDc hFc hP1 hD1 ht hI1
  refine lv_if_eq (tgt := 31) hx hb dX11_is_5 rfl (fun c_1 => ?_) (fun c_1 => ?_)
  · have c_1 : ¬ (f < ft) := zp_0 c_1
    refine lv_iconst (v := 0) hx hb dX11_is_31 rfl ?_
    obtain ⟨hP9, hD9⟩ := zu_sub (wc := [_, _, _]) hP hD [true, true, true] rfl rfl
    rw [hQ9]
    exact W.zret (ty := .boolean) (v := 0) hx hb hr (rfl) (fun t ht hW => ⟨⟨congrArg (fun z => Outcome.returned (some (Value.int z))) (show (0 : Int32) = pI (f < ft ∧ (st f).toInt = 1 ∧ (tn f).toInt = 0) from (zp_f (by omega)).symm), by rw [ht]; exact hP9, hD9⟩, hS.F ht⟩) hS.2.2 dX11_is_32
  · have c_1 : f < ft := zp_1 c_1
    refine lv_aload_n hx hb dX11_is_8 rfl (lv_at hl 0 rfl) ?_
    refine va_get (D := (dC, dI)) (ci := 9) (v := .ref (a 5)) (C := RX11) (T := TX11) (N := 55) hx hb hts inX11 hown hK hP 0 rfl rfl 5 (Nat.le_of_ble_eq_true rfl) (hts _ mw_1164) (fun _ h9 => h9) rfl dX11_is_9 ?_
    refine lv_iload_n hx hb dX11_is_12 rfl (lv_at hl 1 rfl) ?_
    have b9_2 : f < 201 := by omega
    refine z_iald hx hb hK hP 1 0 rfl rfl (e := f) rfl b9_2 (Nat.le_of_ble_eq_true rfl) dX11_is_13 ?_
    refine lv_iconst (v := 1) hx hb dX11_is_14 rfl ?_
    refine lv_icmp_ne (tgt := 31) hx hb dX11_is_15 rfl (fun c_3 => ?_) (fun c_3 => ?_)
    · have c_3 : ¬ (st f).toInt = 1 := zc_ne rfl rfl c_3
      refine lv_iconst (v := 0) hx hb dX11_is_31 rfl ?_
      obtain ⟨hP9, hD9⟩ := zu_sub (wc := [_, _, _]) hP hD [true, true, true] rfl rfl
      rw [hQ9]
      exact W.zret (ty := .boolean) (v := 0) hx hb hr (rfl) (fun t ht hW => ⟨⟨congrArg (fun z => Outcome.returned (some (Value.int z))) (show (0 : Int32) = pI (f < ft ∧ (st f).toInt = 1 ∧ (tn f).toInt = 0) from (zp_f (by omega)).symm), by rw [ht]; exact hP9, hD9⟩, hS.F ht⟩) hS.2.2 dX11_is_32
    · have c_3 : (st f).toInt = 1 := zc_eq rfl rfl c_3
      refine lv_aload_n hx hb dX11_is_18 rfl (lv_at hl 0 rfl) ?_
      refine va_get (D := (dC, dI)) (ci := 9) (v := .ref (a 6)) (C := RX11) (T := TX11) (N := 55) hx hb hts inX11 hown hK hP 0 rfl rfl 6 (Nat.le_of_ble_eq_true rfl) (hts _ mw_1165) (fun _ h9 => h9) rfl dX11_is_19 ?_
      refine lv_iload_n hx hb dX11_is_22 rfl (lv_at hl 1 rfl) ?_
      refine z_zald hx hb hK hP 2 1 rfl rfl (e := f) rfl b9_2 (Nat.le_of_ble_eq_true rfl) dX11_is_23 ?_
      refine lv_if_ne (tgt := 31) hx hb dX11_is_24 rfl (fun c_4 => ?_) (fun c_4 => ?_)
      · have c_4 : ¬ (tn f).toInt = 0 := zc_ne rfl rfl c_4
        refine lv_iconst (v := 0) hx hb dX11_is_31 rfl ?_
        obtain ⟨hP9, hD9⟩ := zu_sub (wc := [_, _, _]) hP hD [true, true, true] rfl rfl
        rw [hQ9]
        exact W.zret (ty := .boolean) (v := 0) hx hb hr (rfl) (fun t ht hW => ⟨⟨congrArg (fun z => Outcome.returned (some (Value.int z))) (show (0 : Int32) = pI (f < ft ∧ (st f).toInt = 1 ∧ (tn f).toInt = 0) from (zp_f (by omega)).symm), by rw [ht]; exact hP9, hD9⟩, hS.F ht⟩) hS.2.2 dX11_is_32
      · have c_4 : (tn f).toInt = 0 := zc_eq rfl rfl c_4
        refine lv_iconst (v := 1) hx hb dX11_is_27 rfl ?_
        refine lv_goto (tgt := 32) hx hb dX11_is_28 rfl ?_
        obtain ⟨hP9, hD9⟩ := zu_sub (wc := [_, _, _]) hP hD [true, true, true] rfl rfl
        rw [hQ9]
        exact W.zret (ty := .boolean) (v := 1) hx hb hr (rfl) (fun t ht hW => ⟨⟨congrArg (fun z => Outcome.returned (some (Value.int z))) (show (1 : Int32) = pI (f < ft ∧ (st f).toInt = 1 ∧ (tn f).toInt = 0) from (zp_t (by omega)).symm), by rw [ht]; exact hP9, hD9⟩, hS.F ht⟩) hS.2.2 dX11_is_32
end
section
set_option maxHeartbeats 4000000 in
set_option maxRecDepth 100000 in
theorem k_M_forgetNew (l : Launch) (dC : Nat → ClassId) (dI : Nat → Nat → Nat) (cI cZ cF : ClassId) (sz : Nat) (k0 : Nat) (a : Nat → Nat) (I0 : Nat → Int32) (J0 : Nat → Int64) (f : Nat) (on : Nat) (kd : Nat → Int32) (mn : Nat → Int32) (cx : Nat → Int32) (cy : Nat → Int32) (ox : Nat → Int32) (oy : Nat → Int32) (hf_f : f ≤ 200) (hon : I0 35 = nI on) (ho40 : on ≤ 40) : zM l yX11_forgetNew cX11_forgetNew 3 none ({ frames := 0, cells := 0, slots := 0, locals := 0 } : Room) [.ref k0, .int (nI f)] (dC, dI) (zTy cI cZ cF) [(om k0 a I0 J0), (oa (a 1) cI 201 kd), (oa (a 11) cI 201 mn), (oa (a 12) cI 8040 cx), (oa (a 13) cI 8040 cy), (oa (a 33) cI 42 ox), (oa (a 34) cI 42 oy)] sz none (fun A t => ∃ (cx1 : Nat → Int32), ∃ (cy1 : Nat → Int32), (∀ j, j < on → cx1 (40 * f + j) = ox j ∧ cy1 (40 * f + j) = oy j) ∧ (∀ j, (j < 40 * f ∨ 40 * f + on ≤ j) → cx1 j = cx j ∧ cy1 j = cy j) ∧ zPD (dC, dI) classes A [(om k0 a I0 J0), (oa (a 1) cI 201 (upd kd f (I0 36))), (oa (a 11) cI 201 (upd mn f (nI on))), (oa (a 12) cI 8040 cx1), (oa (a 13) cI 8040 cy1), (oa (a 33) cI 42 ox), (oa (a 34) cI 42 oy)] t.heap) 0 0 := by
  refine zIn (own := "ScaleShopModel") (loc := [(0, .ref k0), (1, .int (nI f))]) rfl rfl rfl rfl (fun p e s m below meth c hx hb hr hts hown hlocks hml hnm9 A hA hS hP hD hK hXN Q9 hQ9 ls hl => ?_)
  refine lv_aload_n hx hb dX11_forgetNew_0 rfl (lv_at hl 0 rfl) ?_
  refine va_get (D := (dC, dI)) (ci := 9) (v := .ref (a 11)) (C := RX11) (T := TX11) (N := 55) hx hb hts inX11 hown hK hP 0 rfl rfl 11 (Nat.le_of_ble_eq_true rfl) (hts _ mw_1170) (fun _ h9 => h9) rfl dX11_forgetNew_1 ?_
  refine lv_iload_n hx hb dX11_forgetNew_4 rfl (lv_at hl 1 rfl) ?_
  refine lv_aload_n hx hb dX11_forgetNew_5 rfl (lv_at hl 0 rfl) ?_
  refine va_get (D := (dC, dI)) (ci := 9) (v := .int (I0 35)) (C := RX11) (T := TX11) (N := 55) hx hb hts inX11 hown hK hP 0 rfl rfl 35 (Nat.le_of_ble_eq_true rfl) (hts _ mw_1194) (fun _ h9 => h9) rfl dX11_forgetNew_6 ?_
  refine zz_i (v := nI on) (hon) ?_
  have b9_1 : f < 201 := by omega
  refine z_iast hx hb hK hP hD hS 2 0 rfl rfl (e := f) (x := nI on) rfl b9_1 (Nat.le_of_ble_eq_true rfl) dX11_forgetNew_9 (fun H locs hP hD hS => ?_)
  obtain ⟨hP, hD⟩ := zre (W2 := [_, _, (oa (a 11) cI 201 (upd mn f (nI on))), _, _, _, _]) hP hD rfl
  refine lv_aload_n hx hb dX11_forgetNew_10 rfl (lv_at hl 0 rfl) ?_
  refine va_get (D := (dC, dI)) (ci := 9) (v := .ref (a 1)) (C := RX11) (T := TX11) (N := 55) hx hb hts inX11 hown hK hP 0 rfl rfl 1 (Nat.le_of_ble_eq_true rfl) (hts _ mw_1160) (fun _ h9 => h9) rfl dX11_forgetNew_11 ?_
  refine lv_iload_n hx hb dX11_forgetNew_14 rfl (lv_at hl 1 rfl) ?_
  refine lv_aload_n hx hb dX11_forgetNew_15 rfl (lv_at hl 0 rfl) ?_
  refine va_get (D := (dC, dI)) (ci := 9) (v := .int (I0 36)) (C := RX11) (T := TX11) (N := 55) hx hb hts inX11 hown hK hP 0 rfl rfl 36 (Nat.le_of_ble_eq_true rfl) (hts _ mw_1195) (fun _ h9 => h9) rfl dX11_forgetNew_16 ?_
  refine z_iast hx hb hK hP hD hS 1 0 rfl rfl (e := f) (x := I0 36) rfl b9_1 (Nat.le_of_ble_eq_true rfl) dX11_forgetNew_19 (fun H locs hP hD hS => ?_)
  obtain ⟨hP, hD⟩ := zre (W2 := [_, (oa (a 1) cI 201 (upd kd f (I0 36))), _, _, _, _, _]) hP hD rfl
  refine lv_iconst (v := 0) hx hb dX11_forgetNew_20 rfl ?_
  refine lv_istore_n (lv' := [(2, .int 0), (0, .ref k0), (1, .int (nI f))]) hx hb dX11_forgetNew_21 rfl hl (Nat.le_of_ble_eq_true rfl) rfl (fun ls hl => ?_)
  have hl_22 : ∀ (n9 : Nat) (k : Nat) (cx1 : Nat → Int32) (cy1 : Nat → Int32) (H : Heap) (locs : List Loc) (ls : Array Slot), on - k < n9 → (k ≤ on) → (∀ j, j < k → cx1 (40 * f + j) = ox j ∧ cy1 (40 * f + j) = oy j) → (∀ j, (j < 40 * f ∨ 40 * f + k ≤ j) → cx1 j = cx j ∧ cy1 j = cy j) → va_P (dC, dI) classes [(om k0 a I0 J0), (oa (a 1) cI 201 (upd kd f (I0 36))), (oa (a 11) cI 201 (upd mn f (nI on))), (oa (a 12) cI 8040 cx1), (oa (a 13) cI 8040 cy1), (oa (a 33) cI 42 ox), (oa (a 34) cI 42 oy)] H → va_D A [(om k0 a I0 J0), (oa (a 1) cI 201 (upd kd f (I0 36))), (oa (a 11) cI 201 (upd mn f (nI on))), (oa (a 12) cI 8040 cx1), (oa (a 13) cI 8040 cy1), (oa (a 33) cI 42 ox), (oa (a 34) cI 42 oy)] → va_S A s.heap H locs → lv_has ls 3 [(2, .int (nI k)), (0, .ref k0), (1, .int (nI f))] → W p l e ({ frames := 0, cells := 0, slots := 0, locals := 0 } : Room) s m ([.ref k0, .int (nI f)] : List Value).toArray below meth c H locs 0 0 Q9 (F0 m 22 ls []) := by
    intro n9
    induction n9 with
    | zero => intro k cx1 cy1 H locs ls hm; exact absurd hm (Nat.not_lt_zero _)
    | succ n9 ih_22 =>
      intro k cx1 cy1 H locs ls hm hk hall hrst hP hD hS hl
      refine lv_iload_n hx hb dX11_forgetNew_22 rfl (lv_at hl 0 rfl) ?_
      refine lv_aload_n hx hb dX11_forgetNew_23 rfl (lv_at hl 1 rfl) ?_
      refine va_get (D := (dC, dI)) (ci := 9) (v := .int (I0 35)) (C := RX11) (T := TX11) (N := 55) hx hb hts inX11 hown hK hP 0 rfl rfl 35 (Nat.le_of_ble_eq_true rfl) (hts _ mw_1194) (fun _ h9 => h9) rfl dX11_forgetNew_24 ?_
      refine zz_i (v := nI on) (hon) ?_
      have b9_3 : zlt (k) := show k < 2147483648 by omega
      have b9_4 : zlt (on) := show on < 2147483648 by omega
      refine lv_icmp_ge (tgt := 70) hx hb dX11_forgetNew_27 rfl (fun c_2 => ?_) (fun c_2 => ?_)
      · have c_2 : ((on : Nat) : Int) ≤ ((k : Nat) : Int) := zc_le (nI_toInt b9_4) (nI_toInt b9_3) c_2
        obtain ⟨hP9, hD9⟩ := zu_sub (wc := [_, _, _, _, _, _, _]) hP hD [true, true, true, true, true, true, true] rfl rfl
        rw [hQ9]
        exact W.vret hx hb hr (fun t ht hW => ⟨⟨rfl, cx1, cy1, (fun j hj => hall j (by omega)), (fun j hj => hrst j (by omega)), by rw [ht]; exact hP9, hD9⟩, hS.F ht⟩) hS.2.2 dX11_forgetNew_70
      · have c_2 : ((k : Nat) : Int) < ((on : Nat) : Int) := zc_nle (nI_toInt b9_4) (nI_toInt b9_3) c_2
        refine lv_aload_n hx hb dX11_forgetNew_30 rfl (lv_at hl 1 rfl) ?_
        refine va_get (D := (dC, dI)) (ci := 9) (v := .ref (a 12)) (C := RX11) (T := TX11) (N := 55) hx hb hts inX11 hown hK hP 0 rfl rfl 12 (Nat.le_of_ble_eq_true rfl) (hts _ mw_1171) (fun _ h9 => h9) rfl dX11_forgetNew_31 ?_
        refine lv_bipush (v := 40) hx hb dX11_forgetNew_34 rfl ?_
        refine lv_iload_n hx hb dX11_forgetNew_36 rfl (lv_at hl 2 rfl) ?_
        refine lv_imul hx hb dX11_forgetNew_37 ?_
        refine zz_i (v := nI (40 * f)) (pk_mul 40 f) ?_
        refine lv_iload_n hx hb dX11_forgetNew_38 rfl (lv_at hl 0 rfl) ?_
        refine lv_iadd hx hb dX11_forgetNew_39 ?_
        refine zz_i (v := nI (40 * f + k)) (nI_add (40 * f) k) ?_
        refine lv_aload_n hx hb dX11_forgetNew_40 rfl (lv_at hl 1 rfl) ?_
        refine va_get (D := (dC, dI)) (ci := 9) (v := .ref (a 33)) (C := RX11) (T := TX11) (N := 55) hx hb hts inX11 hown hK hP 0 rfl rfl 33 (Nat.le_of_ble_eq_true rfl) (hts _ mw_1192) (fun _ h9 => h9) rfl dX11_forgetNew_41 ?_
        refine lv_iload_n hx hb dX11_forgetNew_44 rfl (lv_at hl 0 rfl) ?_
        have b9_5 : k < 42 := by omega
        refine z_iald hx hb hK hP 5 0 rfl rfl (e := k) rfl b9_5 (Nat.le_of_ble_eq_true rfl) dX11_forgetNew_45 ?_
        have b9_6 : 40 * f + k < 8040 := by omega
        refine z_iast hx hb hK hP hD hS 3 0 rfl rfl (e := 40 * f + k) (x := ox k) rfl b9_6 (Nat.le_of_ble_eq_true rfl) dX11_forgetNew_46 (fun H locs hP hD hS => ?_)
        obtain ⟨hP, hD⟩ := zre (W2 := [_, _, _, (oa (a 12) cI 8040 (upd cx1 (40 * f + k) (ox k))), _, _, _]) hP hD rfl
        refine lv_aload_n hx hb dX11_forgetNew_47 rfl (lv_at hl 1 rfl) ?_
        refine va_get (D := (dC, dI)) (ci := 9) (v := .ref (a 13)) (C := RX11) (T := TX11) (N := 55) hx hb hts inX11 hown hK hP 0 rfl rfl 13 (Nat.le_of_ble_eq_true rfl) (hts _ mw_1172) (fun _ h9 => h9) rfl dX11_forgetNew_48 ?_
        refine lv_bipush (v := 40) hx hb dX11_forgetNew_51 rfl ?_
        refine lv_iload_n hx hb dX11_forgetNew_53 rfl (lv_at hl 2 rfl) ?_
        refine lv_imul hx hb dX11_forgetNew_54 ?_
        refine zz_i (v := nI (40 * f)) (pk_mul 40 f) ?_
        refine lv_iload_n hx hb dX11_forgetNew_55 rfl (lv_at hl 0 rfl) ?_
        refine lv_iadd hx hb dX11_forgetNew_56 ?_
        refine zz_i (v := nI (40 * f + k)) (nI_add (40 * f) k) ?_
        refine lv_aload_n hx hb dX11_forgetNew_57 rfl (lv_at hl 1 rfl) ?_
        refine va_get (D := (dC, dI)) (ci := 9) (v := .ref (a 34)) (C := RX11) (T := TX11) (N := 55) hx hb hts inX11 hown hK hP 0 rfl rfl 34 (Nat.le_of_ble_eq_true rfl) (hts _ mw_1193) (fun _ h9 => h9) rfl dX11_forgetNew_58 ?_
        refine lv_iload_n hx hb dX11_forgetNew_61 rfl (lv_at hl 0 rfl) ?_
        refine z_iald hx hb hK hP 6 0 rfl rfl (e := k) rfl b9_5 (Nat.le_of_ble_eq_true rfl) dX11_forgetNew_62 ?_
        refine z_iast hx hb hK hP hD hS 4 0 rfl rfl (e := 40 * f + k) (x := oy k) rfl b9_6 (Nat.le_of_ble_eq_true rfl) dX11_forgetNew_63 (fun H locs hP hD hS => ?_)
        obtain ⟨hP, hD⟩ := zre (W2 := [_, _, _, _, (oa (a 13) cI 8040 (upd cy1 (40 * f + k) (oy k))), _, _]) hP hD rfl
        refine lv_iinc (v := nI (k + 1)) (lv' := [(2, .int (nI (k + 1))), (0, .ref k0), (1, .int (nI f))]) hx hb dX11_forgetNew_64 hl (k := 0) rfl (nI_add k 1) (Nat.le_of_ble_eq_true rfl) rfl (fun ls hl => ?_)
        refine lv_goto (tgt := 22) hx hb dX11_forgetNew_67 rfl ?_
        exact ih_22 (k + 1) (upd cx1 (40 * f + k) (ox k)) (upd cy1 (40 * f + k) (oy k)) H locs ls (by first | with_reducible assumption | omega) (by first | with_reducible assumption | omega) (by intro j hj; rcases Nat.lt_or_ge j k with h | h; simp only [upd, if_neg (show 40 * f + j ≠ 40 * f + k by omega)]; exact hall j h; rw [show j = k by omega]; simp only [upd, if_true]; first | exact ⟨rfl, rfl⟩ | exact ⟨trivial, trivial⟩) (by intro j hj; simp only [upd, if_neg (show j ≠ 40 * f + k by omega)]; exact hrst j (by first | with_reducible assumption | omega)) hP hD hS (lv_sub hl [0, 1, 2] rfl)
  exact hl_22 _ 0 cx cy H locs ls (Nat.lt_succ_self _) (by first | with_reducible assumption | omega) (by intro j hj; omega) (by intro j hj; exact ⟨rfl, rfl⟩) hP hD hS (lv_sub hl [0, 1, 2] rfl)
set_option maxHeartbeats 4000000 in
set_option maxRecDepth 100000 in
theorem k_M_give (l : Launch) (dC : Nat → ClassId) (dI : Nat → Nat → Nat) (cI cZ cF : ClassId) (sz : Nat) (k0 : Nat) (a : Nat → Nat) (I0 : Nat → Int32) (J0 : Nat → Int64) (f : Nat) (pn : Nat) (mn : Nat → Int32) (cx : Nat → Int32) (cy : Nat → Int32) (P0 : Nat → Int32) (Q0 : Nat → Int32) (hf_f : f ≤ 200) (hpn : I0 31 = nI pn) (hp40 : pn ≤ 40) : zM l yX11_give cX11_give 3 none ({ frames := 0, cells := 0, slots := 0, locals := 0 } : Room) [.ref k0, .int (nI f)] (dC, dI) (zTy cI cZ cF) [(om k0 a I0 J0), (oa (a 11) cI 201 mn), (oa (a 12) cI 8040 cx), (oa (a 13) cI 8040 cy), (oa (a 29) cI 42 P0), (oa (a 30) cI 42 Q0)] sz none (fun A t => ∃ (cx1 : Nat → Int32), ∃ (cy1 : Nat → Int32), (∀ j, j < pn → cx1 (40 * f + j) = P0 j ∧ cy1 (40 * f + j) = Q0 j) ∧ (∀ j, (j < 40 * f ∨ 40 * f + pn ≤ j) → cx1 j = cx j ∧ cy1 j = cy j) ∧ zPD (dC, dI) classes A [(om k0 a I0 J0), (oa (a 11) cI 201 (upd mn f (nI pn))), (oa (a 12) cI 8040 cx1), (oa (a 13) cI 8040 cy1), (oa (a 29) cI 42 P0), (oa (a 30) cI 42 Q0)] t.heap) 0 0 := by
  refine zIn (own := "ScaleShopModel") (loc := [(0, .ref k0), (1, .int (nI f))]) rfl rfl rfl rfl (fun p e s m below meth c hx hb hr hts hown hlocks hml hnm9 A hA hS hP hD hK hXN Q9 hQ9 ls hl => ?_)
  refine lv_aload_n hx hb dX11_give_0 rfl (lv_at hl 0 rfl) ?_
  refine va_get (D := (dC, dI)) (ci := 9) (v := .ref (a 11)) (C := RX11) (T := TX11) (N := 55) hx hb hts inX11 hown hK hP 0 rfl rfl 11 (Nat.le_of_ble_eq_true rfl) (hts _ mw_1170) (fun _ h9 => h9) rfl dX11_give_1 ?_
  refine lv_iload_n hx hb dX11_give_4 rfl (lv_at hl 1 rfl) ?_
  refine lv_aload_n hx hb dX11_give_5 rfl (lv_at hl 0 rfl) ?_
  refine va_get (D := (dC, dI)) (ci := 9) (v := .int (I0 31)) (C := RX11) (T := TX11) (N := 55) hx hb hts inX11 hown hK hP 0 rfl rfl 31 (Nat.le_of_ble_eq_true rfl) (hts _ mw_1190) (fun _ h9 => h9) rfl dX11_give_6 ?_
  refine zz_i (v := nI pn) (hpn) ?_
  have b9_1 : f < 201 := by omega
  refine z_iast hx hb hK hP hD hS 1 0 rfl rfl (e := f) (x := nI pn) rfl b9_1 (Nat.le_of_ble_eq_true rfl) dX11_give_9 (fun H locs hP hD hS => ?_)
  obtain ⟨hP, hD⟩ := zre (W2 := [_, (oa (a 11) cI 201 (upd mn f (nI pn))), _, _, _, _]) hP hD rfl
  refine lv_iconst (v := 0) hx hb dX11_give_10 rfl ?_
  refine lv_istore_n (lv' := [(2, .int 0), (0, .ref k0), (1, .int (nI f))]) hx hb dX11_give_11 rfl hl (Nat.le_of_ble_eq_true rfl) rfl (fun ls hl => ?_)
  have hl_12 : ∀ (n9 : Nat) (k : Nat) (cx1 : Nat → Int32) (cy1 : Nat → Int32) (H : Heap) (locs : List Loc) (ls : Array Slot), pn - k < n9 → (k ≤ pn) → (∀ j, j < k → cx1 (40 * f + j) = P0 j ∧ cy1 (40 * f + j) = Q0 j) → (∀ j, (j < 40 * f ∨ 40 * f + k ≤ j) → cx1 j = cx j ∧ cy1 j = cy j) → va_P (dC, dI) classes [(om k0 a I0 J0), (oa (a 11) cI 201 (upd mn f (nI pn))), (oa (a 12) cI 8040 cx1), (oa (a 13) cI 8040 cy1), (oa (a 29) cI 42 P0), (oa (a 30) cI 42 Q0)] H → va_D A [(om k0 a I0 J0), (oa (a 11) cI 201 (upd mn f (nI pn))), (oa (a 12) cI 8040 cx1), (oa (a 13) cI 8040 cy1), (oa (a 29) cI 42 P0), (oa (a 30) cI 42 Q0)] → va_S A s.heap H locs → lv_has ls 3 [(2, .int (nI k)), (0, .ref k0), (1, .int (nI f))] → W p l e ({ frames := 0, cells := 0, slots := 0, locals := 0 } : Room) s m ([.ref k0, .int (nI f)] : List Value).toArray below meth c H locs 0 0 Q9 (F0 m 12 ls []) := by
    intro n9
    induction n9 with
    | zero => intro k cx1 cy1 H locs ls hm; exact absurd hm (Nat.not_lt_zero _)
    | succ n9 ih_12 =>
      intro k cx1 cy1 H locs ls hm hk hall hrst hP hD hS hl
      refine lv_iload_n hx hb dX11_give_12 rfl (lv_at hl 0 rfl) ?_
      refine lv_aload_n hx hb dX11_give_13 rfl (lv_at hl 1 rfl) ?_
      refine va_get (D := (dC, dI)) (ci := 9) (v := .int (I0 31)) (C := RX11) (T := TX11) (N := 55) hx hb hts inX11 hown hK hP 0 rfl rfl 31 (Nat.le_of_ble_eq_true rfl) (hts _ mw_1190) (fun _ h9 => h9) rfl dX11_give_14 ?_
      refine zz_i (v := nI pn) (hpn) ?_
      have b9_3 : zlt (k) := show k < 2147483648 by omega
      have b9_4 : zlt (pn) := show pn < 2147483648 by omega
      refine lv_icmp_ge (tgt := 60) hx hb dX11_give_17 rfl (fun c_2 => ?_) (fun c_2 => ?_)
      · have c_2 : ((pn : Nat) : Int) ≤ ((k : Nat) : Int) := zc_le (nI_toInt b9_4) (nI_toInt b9_3) c_2
        obtain ⟨hP9, hD9⟩ := zu_sub (wc := [_, _, _, _, _, _]) hP hD [true, true, true, true, true, true] rfl rfl
        rw [hQ9]
        exact W.vret hx hb hr (fun t ht hW => ⟨⟨rfl, cx1, cy1, (fun j hj => hall j (by omega)), (fun j hj => hrst j (by omega)), by rw [ht]; exact hP9, hD9⟩, hS.F ht⟩) hS.2.2 dX11_give_60
      · have c_2 : ((k : Nat) : Int) < ((pn : Nat) : Int) := zc_nle (nI_toInt b9_4) (nI_toInt b9_3) c_2
        refine lv_aload_n hx hb dX11_give_20 rfl (lv_at hl 1 rfl) ?_
        refine va_get (D := (dC, dI)) (ci := 9) (v := .ref (a 12)) (C := RX11) (T := TX11) (N := 55) hx hb hts inX11 hown hK hP 0 rfl rfl 12 (Nat.le_of_ble_eq_true rfl) (hts _ mw_1171) (fun _ h9 => h9) rfl dX11_give_21 ?_
        refine lv_bipush (v := 40) hx hb dX11_give_24 rfl ?_
        refine lv_iload_n hx hb dX11_give_26 rfl (lv_at hl 2 rfl) ?_
        refine lv_imul hx hb dX11_give_27 ?_
        refine zz_i (v := nI (40 * f)) (pk_mul 40 f) ?_
        refine lv_iload_n hx hb dX11_give_28 rfl (lv_at hl 0 rfl) ?_
        refine lv_iadd hx hb dX11_give_29 ?_
        refine zz_i (v := nI (40 * f + k)) (nI_add (40 * f) k) ?_
        refine lv_aload_n hx hb dX11_give_30 rfl (lv_at hl 1 rfl) ?_
        refine va_get (D := (dC, dI)) (ci := 9) (v := .ref (a 29)) (C := RX11) (T := TX11) (N := 55) hx hb hts inX11 hown hK hP 0 rfl rfl 29 (Nat.le_of_ble_eq_true rfl) (hts _ mw_1188) (fun _ h9 => h9) rfl dX11_give_31 ?_
        refine lv_iload_n hx hb dX11_give_34 rfl (lv_at hl 0 rfl) ?_
        have b9_5 : k < 42 := by omega
        refine z_iald hx hb hK hP 4 0 rfl rfl (e := k) rfl b9_5 (Nat.le_of_ble_eq_true rfl) dX11_give_35 ?_
        have b9_6 : 40 * f + k < 8040 := by omega
        refine z_iast hx hb hK hP hD hS 2 0 rfl rfl (e := 40 * f + k) (x := P0 k) rfl b9_6 (Nat.le_of_ble_eq_true rfl) dX11_give_36 (fun H locs hP hD hS => ?_)
        obtain ⟨hP, hD⟩ := zre (W2 := [_, _, (oa (a 12) cI 8040 (upd cx1 (40 * f + k) (P0 k))), _, _, _]) hP hD rfl
        refine lv_aload_n hx hb dX11_give_37 rfl (lv_at hl 1 rfl) ?_
        refine va_get (D := (dC, dI)) (ci := 9) (v := .ref (a 13)) (C := RX11) (T := TX11) (N := 55) hx hb hts inX11 hown hK hP 0 rfl rfl 13 (Nat.le_of_ble_eq_true rfl) (hts _ mw_1172) (fun _ h9 => h9) rfl dX11_give_38 ?_
        refine lv_bipush (v := 40) hx hb dX11_give_41 rfl ?_
        refine lv_iload_n hx hb dX11_give_43 rfl (lv_at hl 2 rfl) ?_
        refine lv_imul hx hb dX11_give_44 ?_
        refine zz_i (v := nI (40 * f)) (pk_mul 40 f) ?_
        refine lv_iload_n hx hb dX11_give_45 rfl (lv_at hl 0 rfl) ?_
        refine lv_iadd hx hb dX11_give_46 ?_
        refine zz_i (v := nI (40 * f + k)) (nI_add (40 * f) k) ?_
        refine lv_aload_n hx hb dX11_give_47 rfl (lv_at hl 1 rfl) ?_
        refine va_get (D := (dC, dI)) (ci := 9) (v := .ref (a 30)) (C := RX11) (T := TX11) (N := 55) hx hb hts inX11 hown hK hP 0 rfl rfl 30 (Nat.le_of_ble_eq_true rfl) (hts _ mw_1189) (fun _ h9 => h9) rfl dX11_give_48 ?_
        refine lv_iload_n hx hb dX11_give_51 rfl (lv_at hl 0 rfl) ?_
        refine z_iald hx hb hK hP 5 0 rfl rfl (e := k) rfl b9_5 (Nat.le_of_ble_eq_true rfl) dX11_give_52 ?_
        refine z_iast hx hb hK hP hD hS 3 0 rfl rfl (e := 40 * f + k) (x := Q0 k) rfl b9_6 (Nat.le_of_ble_eq_true rfl) dX11_give_53 (fun H locs hP hD hS => ?_)
        obtain ⟨hP, hD⟩ := zre (W2 := [_, _, _, (oa (a 13) cI 8040 (upd cy1 (40 * f + k) (Q0 k))), _, _]) hP hD rfl
        refine lv_iinc (v := nI (k + 1)) (lv' := [(2, .int (nI (k + 1))), (0, .ref k0), (1, .int (nI f))]) hx hb dX11_give_54 hl (k := 0) rfl (nI_add k 1) (Nat.le_of_ble_eq_true rfl) rfl (fun ls hl => ?_)
        refine lv_goto (tgt := 12) hx hb dX11_give_57 rfl ?_
        exact ih_12 (k + 1) (upd cx1 (40 * f + k) (P0 k)) (upd cy1 (40 * f + k) (Q0 k)) H locs ls (by first | with_reducible assumption | omega) (by first | with_reducible assumption | omega) (by intro j hj; rcases Nat.lt_or_ge j k with h | h; simp only [upd, if_neg (show 40 * f + j ≠ 40 * f + k by omega)]; exact hall j h; rw [show j = k by omega]; simp only [upd, if_true]; first | exact ⟨rfl, rfl⟩ | exact ⟨trivial, trivial⟩) (by intro j hj; simp only [upd, if_neg (show j ≠ 40 * f + k by omega)]; exact hrst j (by first | with_reducible assumption | omega)) hP hD hS (lv_sub hl [0, 1, 2] rfl)
  exact hl_12 _ 0 cx cy H locs ls (Nat.lt_succ_self _) (by first | with_reducible assumption | omega) (by intro j hj; omega) (by intro j hj; exact ⟨rfl, rfl⟩) hP hD hS (lv_sub hl [0, 1, 2] rfl)
set_option maxHeartbeats 4000000 in
set_option maxRecDepth 100000 in
theorem k_M_lengthOf (l : Launch) (dC : Nat → ClassId) (dI : Nat → Nat → Nat) (cI cZ cF : ClassId) (sz : Nat) (k0 : Nat) (a : Nat → Nat) (I0 : Nat → Int32) (J0 : Nat → Int64) (f : Nat) (n : Nat) (mn : Nat → Int32) (cx : Nat → Int32) (cy : Nat → Int32) (S0 : Nat → Int32) (hf_f : f ≤ 200) (hm_f : mn f = nI n) (hn_f : 1 ≤ n ∧ n ≤ 40) (hp_f : pls n (cF40 cx f) (cF40 cy f)) : zM l yX11_lengthOf cX11_lengthOf 5 (some .long) ({ frames := 1, cells := 0, slots := 0, locals := 25 } : Room) [.ref k0, .int (nI f)] (dC, dI) (zTy cI cZ cF) [(om k0 a I0 J0), (oa (a 11) cI 201 mn), (oa (a 12) cI 8040 cx), (oa (a 13) cI 8040 cy), (oa (a 32) cI 8 S0)] sz (some (.long (jI ((ln2 (cF40 cx f) (cF40 cy f) (n - 1) : Nat) : Int)))) (fun A t => ∃ (S1 : Nat → Int32), zPD (dC, dI) classes A [(om k0 a I0 J0), (oa (a 11) cI 201 mn), (oa (a 12) cI 8040 cx), (oa (a 13) cI 8040 cy), (oa (a 32) cI 8 S1)] t.heap) 0 0 := by
  refine zIn (own := "ScaleShopModel") (loc := [(0, .ref k0), (1, .int (nI f))]) rfl rfl rfl rfl (fun p e s m below meth c hx hb hr hts hown hlocks hml hnm9 A hA hS hP hD hK hXN Q9 hQ9 ls hl => ?_)
  refine lv_lconst (v := 0) hx hb dX11_lengthOf_0 rfl ?_
  refine lv_lstore_n (lv' := [(2, .long 0), (0, .ref k0), (1, .int (nI f))]) hx hb dX11_lengthOf_1 rfl hl (Nat.le_of_ble_eq_true rfl) rfl (fun ls hl => ?_)
  refine lv_iconst (v := 0) hx hb dX11_lengthOf_2 rfl ?_
  refine lv_istore (lv' := [(4, .int 0), (2, .long 0), (0, .ref k0), (1, .int (nI f))]) hx hb dX11_lengthOf_3 hl (Nat.le_of_ble_eq_true rfl) rfl (fun ls hl => ?_)
  have hl_5 : ∀ (n9 : Nat) (i : Nat) (S1 : Nat → Int32) (H : Heap) (locs : List Loc) (ls : Array Slot), n - i < n9 → (i ≤ n - 1) → va_P (dC, dI) classes [(om k0 a I0 J0), (oa (a 11) cI 201 mn), (oa (a 12) cI 8040 cx), (oa (a 13) cI 8040 cy), (oa (a 32) cI 8 S1)] H → va_D A [(om k0 a I0 J0), (oa (a 11) cI 201 mn), (oa (a 12) cI 8040 cx), (oa (a 13) cI 8040 cy), (oa (a 32) cI 8 S1)] → va_S A s.heap H locs → lv_has ls 5 [(4, .int (nI i)), (2, .long (jI ((ln2 (cF40 cx f) (cF40 cy f) i : Nat) : Int))), (0, .ref k0), (1, .int (nI f))] → W p l e ({ frames := 1, cells := 0, slots := 0, locals := 25 } : Room) s m ([.ref k0, .int (nI f)] : List Value).toArray below meth c H locs 0 0 Q9 (F0 m 5 ls []) := by
    intro n9
    induction n9 with
    | zero => intro i S1 H locs ls hm; exact absurd hm (Nat.not_lt_zero _)
    | succ n9 ih_5 =>
      intro i S1 H locs ls hm hi hP hD hS hl
      have hB := ln2B hp_f i (by omega)
      refine lv_iload hx hb dX11_lengthOf_5 (lv_at hl 0 rfl) ?_
      refine lv_aload_n hx hb dX11_lengthOf_7 rfl (lv_at hl 2 rfl) ?_
      refine va_get (D := (dC, dI)) (ci := 9) (v := .ref (a 11)) (C := RX11) (T := TX11) (N := 55) hx hb hts inX11 hown hK hP 0 rfl rfl 11 (Nat.le_of_ble_eq_true rfl) (hts _ mw_1170) (fun _ h9 => h9) rfl dX11_lengthOf_8 ?_
      refine lv_iload_n hx hb dX11_lengthOf_11 rfl (lv_at hl 3 rfl) ?_
      have b9_1 : f < 201 := by omega
      refine z_iald hx hb hK hP 1 0 rfl rfl (e := f) rfl b9_1 (Nat.le_of_ble_eq_true rfl) dX11_lengthOf_12 ?_
      refine zz_i (v := nI n) (hm_f) ?_
      refine lv_iconst (v := 1) hx hb dX11_lengthOf_13 rfl ?_
      refine lv_isub hx hb dX11_lengthOf_14 ?_
      refine zz_i (v := nI (n - 1)) (pk_sub (a := n) (b := 1) (by omega)) ?_
      have b9_3 : zlt (i) := show i < 2147483648 by omega
      have b9_4 : zlt ((n - 1)) := show (n - 1) < 2147483648 by omega
      refine lv_icmp_ge (tgt := 69) hx hb dX11_lengthOf_15 rfl (fun c_2 => ?_) (fun c_2 => ?_)
      · have c_2 : ((n - 1 : Nat) : Int) ≤ ((i : Nat) : Int) := zc_le (nI_toInt b9_4) (nI_toInt b9_3) c_2
        refine lv_lload_n hx hb dX11_lengthOf_69 rfl (lv_at hl 1 rfl) ?_
        obtain ⟨hP9, hD9⟩ := zu_sub (wc := [_, _, _, _, _]) hP hD [true, true, true, true, true] rfl rfl
        rw [hQ9]
        exact W.lret (v := jI ((ln2 (cF40 cx f) (cF40 cy f) i : Nat) : Int)) hx hb hr (fun t ht hW => ⟨⟨congrArg (fun z => Outcome.returned (some (Value.long z))) (show (jI ((ln2 (cF40 cx f) (cF40 cy f) i : Nat) : Int) : Int64) = jI ((ln2 (cF40 cx f) (cF40 cy f) (n - 1) : Nat) : Int) from by rw [show i = n - 1 by omega]), S1, by rw [ht]; exact hP9, hD9⟩, hS.F ht⟩) hS.2.2 dX11_lengthOf_70
      · have c_2 : ((i : Nat) : Int) < ((n - 1 : Nat) : Int) := zc_nle (nI_toInt b9_4) (nI_toInt b9_3) c_2
        have hin9 : i < n := (by omega)
        have hnx : nxt n i = i + 1 := (by unfold nxt; rw [if_pos (by omega)])
        have ha := hp_f i hin9
        have hb9 := hp_f (i + 1) (by omega)
        unfold pl at ha hb9
        have ex : (cF40 cx f (i + 1) - cF40 cx f i).toInt = (cF40 cx f (i + 1)).toInt - (cF40 cx f i).toInt := fb_subI (by omega) (by omega)
        have ey : (cF40 cy f (i + 1) - cF40 cy f i).toInt = (cF40 cy f (i + 1)).toInt - (cF40 cy f i).toInt := fb_subI (by omega) (by omega)
        refine lv_aload_n hx hb dX11_lengthOf_18 rfl (lv_at hl 2 rfl) ?_
        refine lv_iload_n hx hb dX11_lengthOf_19 rfl (lv_at hl 3 rfl) ?_
        refine lv_iload hx hb dX11_lengthOf_20 (lv_at hl 0 rfl) ?_
        refine lv_iconst (v := 0) hx hb dX11_lengthOf_22 rfl ?_
        obtain ⟨hPc, hDc, hFc⟩ := zo_sub (wc := [_, _, _, _, _]) hP hD hS hA [0, 1, 2, 3, 4] (by decide +kernel) rfl
        refine zcall (st1 := []) (va_runV (As := [.int (nI f), .int (nI i), .int 0]) (rest := []) ⟨hx, hb, hml, hown, hts⟩ (k_M_edge l dC dI cI cZ cF H.size k0 a I0 J0 f n i 0 mn cx cy S1 (by first | with_reducible assumption | omega) (by first | with_reducible assumption | assumption) (by first | with_reducible assumption | omega) (by first | with_reducible assumption | omega) (by first | with_reducible assumption | omega)) (csV_167 hts rfl rfl ⟨Nat.le_of_ble_eq_true rfl, Nat.le_of_ble_eq_true rfl⟩) (zPV2 (q0 := 0) (ci := 9) hPc hDc hK hXN rfl rfl) rfl rfl hl.1 rfl (lv_room (Nat.le_of_ble_eq_true rfl)) dX11_lengthOf_23 ⟨Nat.le_of_ble_eq_true rfl, Nat.le_of_ble_eq_true rfl⟩) hS hFc hFc rfl (fun t H locs ht hB hk1 hS => ?_)
        obtain ⟨S2, t0, t1, t2, t3, tr, hP1, hD1⟩ := hB
        rw [ht] at hP1
        obtain ⟨hP, hD⟩ := zn (W2 := [_, _, _, _, (oa (a 32) cI 8 S2)]) hP hD hk1 hFc hP1 hD1 [0, 1, 2, 3, 4] [] [false, false, false, false, false] [0, 1, 2, 3, 4] (by decide +kernel) rfl rfl rfl rfl rfl
        clear hk1 hPc hDc hFc hP1 hD1 ht
        have v0 : S2 0 = cF40 cx f i := t0
        have v1 : S2 1 = cF40 cy f i := t1
        have v2 : S2 2 = cF40 cx f (i + 1) := (by rw [← hnx]; exact t2)
        have v3 : S2 3 = cF40 cy f (i + 1) := (by rw [← hnx]; exact t3)
        refine lv_lload_n hx hb dX11_lengthOf_26 rfl (lv_at hl 1 rfl) ?_
        refine lv_aload_n hx hb dX11_lengthOf_27 rfl (lv_at hl 2 rfl) ?_
        refine va_get (D := (dC, dI)) (ci := 9) (v := .ref (a 32)) (C := RX11) (T := TX11) (N := 55) hx hb hts inX11 hown hK hP 0 rfl rfl 32 (Nat.le_of_ble_eq_true rfl) (hts _ mw_1191) (fun _ h9 => h9) rfl dX11_lengthOf_28 ?_
        refine lv_iconst (v := 2) hx hb dX11_lengthOf_31 rfl ?_
        refine z_iald hx hb hK hP 4 0 rfl rfl (e := 2) rfl (Nat.le_of_ble_eq_true rfl) (Nat.le_of_ble_eq_true rfl) dX11_lengthOf_32 ?_
        refine zz_i (v := cF40 cx f (i + 1)) (v2) ?_
        refine lv_aload_n hx hb dX11_lengthOf_33 rfl (lv_at hl 2 rfl) ?_
        refine va_get (D := (dC, dI)) (ci := 9) (v := .ref (a 32)) (C := RX11) (T := TX11) (N := 55) hx hb hts inX11 hown hK hP 0 rfl rfl 32 (Nat.le_of_ble_eq_true rfl) (hts _ mw_1191) (fun _ h9 => h9) rfl dX11_lengthOf_34 ?_
        refine lv_iconst (v := 0) hx hb dX11_lengthOf_37 rfl ?_
        refine z_iald hx hb hK hP 4 0 rfl rfl (e := 0) rfl (Nat.le_of_ble_eq_true rfl) (Nat.le_of_ble_eq_true rfl) dX11_lengthOf_38 ?_
        refine zz_i (v := cF40 cx f i) (v0) ?_
        refine lv_isub hx hb dX11_lengthOf_39 ?_
        refine zz_i (v := iI ((cF40 cx f (i + 1)).toInt - (cF40 cx f i).toInt)) (iI_of ex) ?_
        refine va_mabs hx hb (by rw [hml]; exact hl.1.symm) hown (hts _ mw_1562) (hts _ mw_589) (hts _ mw_103) (hts _ mw_abscode) (Nat.le_of_ble_eq_true rfl) (Nat.le_of_ble_eq_true rfl) (Nat.le_of_ble_eq_true rfl) (Nat.le_of_ble_eq_true rfl) dX11_lengthOf_40 ?_
        refine zz_i (v := nI (Int.natAbs ((cF40 cx f (i + 1)).toInt - (cF40 cx f i).toInt))) (zabs (iI_toInt (by omega)) (by omega)) ?_
        refine lv_aload_n hx hb dX11_lengthOf_43 rfl (lv_at hl 2 rfl) ?_
        refine va_get (D := (dC, dI)) (ci := 9) (v := .ref (a 32)) (C := RX11) (T := TX11) (N := 55) hx hb hts inX11 hown hK hP 0 rfl rfl 32 (Nat.le_of_ble_eq_true rfl) (hts _ mw_1191) (fun _ h9 => h9) rfl dX11_lengthOf_44 ?_
        refine lv_iconst (v := 3) hx hb dX11_lengthOf_47 rfl ?_
        refine z_iald hx hb hK hP 4 0 rfl rfl (e := 3) rfl (Nat.le_of_ble_eq_true rfl) (Nat.le_of_ble_eq_true rfl) dX11_lengthOf_48 ?_
        refine zz_i (v := cF40 cy f (i + 1)) (v3) ?_
        refine lv_aload_n hx hb dX11_lengthOf_49 rfl (lv_at hl 2 rfl) ?_
        refine va_get (D := (dC, dI)) (ci := 9) (v := .ref (a 32)) (C := RX11) (T := TX11) (N := 55) hx hb hts inX11 hown hK hP 0 rfl rfl 32 (Nat.le_of_ble_eq_true rfl) (hts _ mw_1191) (fun _ h9 => h9) rfl dX11_lengthOf_50 ?_
        refine lv_iconst (v := 1) hx hb dX11_lengthOf_53 rfl ?_
        refine z_iald hx hb hK hP 4 0 rfl rfl (e := 1) rfl (Nat.le_of_ble_eq_true rfl) (Nat.le_of_ble_eq_true rfl) dX11_lengthOf_54 ?_
        refine zz_i (v := cF40 cy f i) (v1) ?_
        refine lv_isub hx hb dX11_lengthOf_55 ?_
        refine zz_i (v := iI ((cF40 cy f (i + 1)).toInt - (cF40 cy f i).toInt)) (iI_of ey) ?_
        refine va_mabs hx hb (by rw [hml]; exact hl.1.symm) hown (hts _ mw_1562) (hts _ mw_589) (hts _ mw_103) (hts _ mw_abscode) (Nat.le_of_ble_eq_true rfl) (Nat.le_of_ble_eq_true rfl) (Nat.le_of_ble_eq_true rfl) (Nat.le_of_ble_eq_true rfl) dX11_lengthOf_56 ?_
        refine zz_i (v := nI (Int.natAbs ((cF40 cy f (i + 1)).toInt - (cF40 cy f i).toInt))) (zabs (iI_toInt (by omega)) (by omega)) ?_
        refine lv_iadd hx hb dX11_lengthOf_59 ?_
        refine zz_i (v := nI ((Int.natAbs ((cF40 cx f (i + 1)).toInt - (cF40 cx f i).toInt)) + (Int.natAbs ((cF40 cy f (i + 1)).toInt - (cF40 cy f i).toInt)))) (nI_add (Int.natAbs ((cF40 cx f (i + 1)).toInt - (cF40 cx f i).toInt)) (Int.natAbs ((cF40 cy f (i + 1)).toInt - (cF40 cy f i).toInt))) ?_
        refine lv_i2l (v := (nI ((Int.natAbs ((cF40 cx f (i + 1)).toInt - (cF40 cx f i).toInt)) + (Int.natAbs ((cF40 cy f (i + 1)).toInt - (cF40 cy f i).toInt)))).toInt64) hx hb dX11_lengthOf_60 (rfl) ?_
        refine zz_l (v := jI (((((cF40 cx f (i + 1)).toInt - (cF40 cx f i).toInt).natAbs + ((cF40 cy f (i + 1)).toInt - (cF40 cy f i).toInt).natAbs) : Nat) : Int)) (nI_64 (by omega)) ?_
        refine lv_ladd hx hb dX11_lengthOf_61 ?_
        refine zz_l (v := jI (((ln2 (cF40 cx f) (cF40 cy f) i : Nat) : Int) + (((((cF40 cx f (i + 1)).toInt - (cF40 cx f i).toInt).natAbs + ((cF40 cy f (i + 1)).toInt - (cF40 cy f i).toInt).natAbs) : Nat) : Int))) (jI_add (by omega) (by omega)) ?_
        refine lv_lstore_n (lv' := [(2, .long (jI (((ln2 (cF40 cx f) (cF40 cy f) i : Nat) : Int) + (((((cF40 cx f (i + 1)).toInt - (cF40 cx f i).toInt).natAbs + ((cF40 cy f (i + 1)).toInt - (cF40 cy f i).toInt).natAbs) : Nat) : Int)))), (4, .int (nI i)), (0, .ref k0), (1, .int (nI f))]) hx hb dX11_lengthOf_62 rfl hl (Nat.le_of_ble_eq_true rfl) rfl (fun ls hl => ?_)
        refine lv_iinc (v := nI (i + 1)) (lv' := [(4, .int (nI (i + 1))), (2, .long (jI (((ln2 (cF40 cx f) (cF40 cy f) i : Nat) : Int) + (((((cF40 cx f (i + 1)).toInt - (cF40 cx f i).toInt).natAbs + ((cF40 cy f (i + 1)).toInt - (cF40 cy f i).toInt).natAbs) : Nat) : Int)))), (0, .ref k0), (1, .int (nI f))]) hx hb dX11_lengthOf_63 hl (k := 1) rfl (nI_add i 1) (Nat.le_of_ble_eq_true rfl) rfl (fun ls hl => ?_)
        refine lv_goto (tgt := 5) hx hb dX11_lengthOf_66 rfl ?_
        have hl9 := lv_sub hl [0, 1, 2, 3] rfl
        have e9_2 : jI ((ln2 (cF40 cx f) (cF40 cy f) (i + 1) : Nat) : Int) = (jI (((ln2 (cF40 cx f) (cF40 cy f) i : Nat) : Int) + (((((cF40 cx f (i + 1)).toInt - (cF40 cx f i).toInt).natAbs + ((cF40 cy f (i + 1)).toInt - (cF40 cy f i).toInt).natAbs) : Nat) : Int)) : Int64) := by rfl
        have hl9 : lv_has ls 5 [(4, .int (nI (i + 1))), (2, .long (jI ((ln2 (cF40 cx f) (cF40 cy f) (i + 1) : Nat) : Int))), (0, .ref k0), (1, .int (nI f))] := by rw [e9_2]; exact hl9
        exact ih_5 (i + 1) S2 H locs ls (by first | with_reducible assumption | omega) (by first | with_reducible assumption | omega) hP hD hS hl9
  have e9_2 : jI ((ln2 (cF40 cx f) (cF40 cy f) 0 : Nat) : Int) = (0 : Int64) := by rfl
  have hl9 : lv_has ls 5 [(4, .int (nI 0)), (2, .long (jI ((ln2 (cF40 cx f) (cF40 cy f) 0 : Nat) : Int))), (0, .ref k0), (1, .int (nI f))] := by rw [e9_2]; exact lv_sub hl [0, 1, 2, 3] rfl
  exact hl_5 _ 0 S0 s.heap [] ls (Nat.lt_succ_self _) (by first | with_reducible assumption | omega) hP hD hS hl9
end
section
set_option maxHeartbeats 4000000 in
set_option maxRecDepth 100000 in
theorem k_M_isHeld (l : Launch) (dC : Nat → ClassId) (dI : Nat → Nat → Nat) (cI cZ cF : ClassId) (sz : Nat) (k0 : Nat) (a : Nat → Nat) (I0 : Nat → Int32) (J0 : Nat → Int64) (f : Nat) (ft : Nat) (st : Nat → Int32) (tn : Nat → Int32) (kd : Nat → Int32) (mn : Nat → Int32) (cx : Nat → Int32) (cy : Nat → Int32) (S0 : Nat → Int32) (px : Int32) (py : Int32) (hft : I0 0 = nI ft) (h200 : ft ≤ 200) (hwf : ∀ q, q < ft ∧ (st q).toInt = 1 ∧ (tn q).toInt = 0 → wfM mn cx cy q) (hf_f : f ≤ 200) (hpx : pl px) (hpy : pl py) : zM l yX11_isHeld cX11_isHeld 5 (some .boolean) ({ frames := 3, cells := 0, slots := 0, locals := 80 } : Room) [.ref k0, .int (nI f), .int px, .int py] (dC, dI) (zTy cI cZ cF) [(om k0 a I0 J0), (oa (a 5) cI 201 st), (oa (a 6) cZ 201 tn), (oa (a 1) cI 201 kd), (oa (a 11) cI 201 mn), (oa (a 12) cI 8040 cx), (oa (a 13) cI 8040 cy), (oa (a 32) cI 8 S0)] sz (some (.int (pI (∃ q, (q < ft ∧ (st q).toInt = 1 ∧ (tn q).toInt = 0) ∧ q ≠ f ∧ onF kd mn cx cy q px.toInt py.toInt)))) (fun A t => ∃ (S1 : Nat → Int32), zPD (dC, dI) classes A [(om k0 a I0 J0), (oa (a 5) cI 201 st), (oa (a 6) cZ 201 tn), (oa (a 1) cI 201 kd), (oa (a 11) cI 201 mn), (oa (a 12) cI 8040 cx), (oa (a 13) cI 8040 cy), (oa (a 32) cI 8 S1)] t.heap) 0 0 := by
  refine zIn (own := "ScaleShopModel") (loc := [(0, .ref k0), (1, .int (nI f)), (2, .int px), (3, .int py)]) rfl rfl rfl rfl (fun p e s m below meth c hx hb hr hts hown hlocks hml hnm9 A hA hS hP hD hK hXN Q9 hQ9 ls hl => ?_)
  refine lv_iconst (v := 0) hx hb dX11_isHeld_0 rfl ?_
  refine lv_istore (lv' := [(4, .int 0), (0, .ref k0), (1, .int (nI f)), (2, .int px), (3, .int py)]) hx hb dX11_isHeld_1 hl (Nat.le_of_ble_eq_true rfl) rfl (fun ls hl => ?_)
  have hl_3 : ∀ (n9 : Nat) (q : Nat) (S1 : Nat → Int32) (H : Heap) (locs : List Loc) (ls : Array Slot), ft - q < n9 → (q ≤ ft) → (∀ j, j < q → (j < ft ∧ (st j).toInt = 1 ∧ (tn j).toInt = 0) → j ≠ f → ¬ onF kd mn cx cy j px.toInt py.toInt) → va_P (dC, dI) classes [(om k0 a I0 J0), (oa (a 5) cI 201 st), (oa (a 6) cZ 201 tn), (oa (a 1) cI 201 kd), (oa (a 11) cI 201 mn), (oa (a 12) cI 8040 cx), (oa (a 13) cI 8040 cy), (oa (a 32) cI 8 S1)] H → va_D A [(om k0 a I0 J0), (oa (a 5) cI 201 st), (oa (a 6) cZ 201 tn), (oa (a 1) cI 201 kd), (oa (a 11) cI 201 mn), (oa (a 12) cI 8040 cx), (oa (a 13) cI 8040 cy), (oa (a 32) cI 8 S1)] → va_S A s.heap H locs → lv_has ls 5 [(4, .int (nI q)), (0, .ref k0), (1, .int (nI f)), (2, .int px), (3, .int py)] → W p l e ({ frames := 3, cells := 0, slots := 0, locals := 80 } : Room) s m ([.ref k0, .int (nI f), .int px, .int py] : List Value).toArray below meth c H locs 0 0 Q9 (F0 m 3 ls []) := by
    intro n9
    induction n9 with
    | zero => intro q S1 H locs ls hm; exact absurd hm (Nat.not_lt_zero _)
    | succ n9 ih_3 =>
      intro q S1 H locs ls hm hq hno hP hD hS hl
      refine lv_iload hx hb dX11_isHeld_3 (lv_at hl 0 rfl) ?_
      refine lv_aload_n hx hb dX11_isHeld_5 rfl (lv_at hl 1 rfl) ?_
      refine va_get (D := (dC, dI)) (ci := 9) (v := .int (I0 0)) (C := RX11) (T := TX11) (N := 55) hx hb hts inX11 hown hK hP 0 rfl rfl 0 (Nat.le_of_ble_eq_true rfl) (hts _ mw_1159) (fun _ h9 => h9) rfl dX11_isHeld_6 ?_
      refine zz_i (v := nI ft) (hft) ?_
      have b9_2 : zlt (q) := show q < 2147483648 by omega
      have b9_3 : zlt (ft) := show ft < 2147483648 by omega
      refine lv_icmp_ge (tgt := 46) hx hb dX11_isHeld_9 rfl (fun c_1 => ?_) (fun c_1 => ?_)
      · have c_1 : ((ft : Nat) : Int) ≤ ((q : Nat) : Int) := zc_le (nI_toInt b9_3) (nI_toInt b9_2) c_1
        refine lv_iconst (v := 0) hx hb dX11_isHeld_46 rfl ?_
        obtain ⟨hP9, hD9⟩ := zu_sub (wc := [_, _, _, _, _, _, _, _]) hP hD [true, true, true, true, true, true, true, true] rfl rfl
        rw [hQ9]
        exact W.zret (ty := .boolean) (v := 0) hx hb hr (rfl) (fun t ht hW => ⟨⟨congrArg (fun z => Outcome.returned (some (Value.int z))) (show (0 : Int32) = pI (∃ q, (q < ft ∧ (st q).toInt = 1 ∧ (tn q).toInt = 0) ∧ q ≠ f ∧ onF kd mn cx cy q px.toInt py.toInt) from (zp_f (fun ⟨j, h1, h2, h3⟩ => hno j (by omega) h1 h2 h3)).symm), S1, by rw [ht]; exact hP9, hD9⟩, hS.F ht⟩) hS.2.2 dX11_isHeld_47
      · have c_1 : ((q : Nat) : Int) < ((ft : Nat) : Int) := zc_nle (nI_toInt b9_3) (nI_toInt b9_2) c_1
        refine lv_iload hx hb dX11_isHeld_12 (lv_at hl 0 rfl) ?_
        refine lv_iload_n hx hb dX11_isHeld_14 rfl (lv_at hl 2 rfl) ?_
        have b9_5 : zlt (f) := show f < 2147483648 by omega
        refine lv_icmp_eq (tgt := 40) hx hb dX11_isHeld_15 rfl (fun c_4 => ?_) (fun c_4 => ?_)
        · have c_4 : ((q : Nat) : Int) = ((f : Nat) : Int) := zc_eq (nI_toInt b9_2) (nI_toInt b9_5) c_4
          refine lv_iinc (v := nI (q + 1)) (lv' := [(4, .int (nI (q + 1))), (0, .ref k0), (1, .int (nI f)), (2, .int px), (3, .int py)]) hx hb dX11_isHeld_40 hl (k := 0) rfl (nI_add q 1) (Nat.le_of_ble_eq_true rfl) rfl (fun ls hl => ?_)
          refine lv_goto (tgt := 3) hx hb dX11_isHeld_43 rfl ?_
          exact ih_3 (q + 1) S1 H locs ls (by first | with_reducible assumption | omega) (by first | with_reducible assumption | omega) (by intro j hj h1 h2; rcases Nat.lt_or_ge j q with h | h; exact hno j h h1 h2; obtain rfl : j = q := (by first | with_reducible assumption | omega); first | (exfalso; omega) | exact absurd h1 (by first | with_reducible assumption | assumption) | assumption) hP hD hS (lv_sub hl [0, 1, 2, 3, 4] rfl)
        · have c_4 : ¬ ((q : Nat) : Int) = ((f : Nat) : Int) := zc_ne (nI_toInt b9_2) (nI_toInt b9_5) c_4
          refine lv_aload_n hx hb dX11_isHeld_18 rfl (lv_at hl 1 rfl) ?_
          refine lv_iload hx hb dX11_isHeld_19 (lv_at hl 0 rfl) ?_
          obtain ⟨hPc, hDc, hFc, hI1⟩ := zi_sub (wc := [_, _, _]) hP hD hS hA [0, 1, 2] rfl rfl
          refine zcall (st1 := [.int (pI (q < ft ∧ (st q).toInt = 1 ∧ (tn q).toInt = 0))]) (va_runV (As := [.int (nI q)]) (rest := []) ⟨hx, hb, hml, hown, hts⟩ (k_M_is_n l dC dI cI cZ cF H.size k0 a I0 J0 q ft st tn (by first | with_reducible assumption | assumption) (by first | with_reducible assumption | omega) (by first | with_reducible assumption | omega)) (csV_179 hts rfl rfl ⟨Nat.le_of_ble_eq_true rfl, Nat.le_of_ble_eq_true rfl⟩) (zPV2 (q0 := 0) (ci := 9) hPc hDc hK hXN rfl rfl) rfl rfl hl.1 rfl (lv_room (Nat.le_of_ble_eq_true rfl)) dX11_isHeld_21 ⟨Nat.le_of_ble_eq_true rfl, Nat.le_of_ble_eq_true rfl⟩) hS hFc hFc rfl (fun t H locs ht hB hk1 hS => ?_)
          obtain ⟨hP1, hD1⟩ := hB
          rw [ht] at hP1
          replace hP := z0 hP hD hk1 hP1 hI1
          clear hk1 hPc hDc hFc hP1 hD1 ht hI1
          refine lv_if_eq (tgt := 40) hx hb dX11_isHeld_24 rfl (fun c_6 => ?_) (fun c_6 => ?_)
          · have c_6 : ¬ (q < ft ∧ (st q).toInt = 1 ∧ (tn q).toInt = 0) := zp_0 c_6
            refine lv_iinc (v := nI (q + 1)) (lv' := [(4, .int (nI (q + 1))), (0, .ref k0), (1, .int (nI f)), (2, .int px), (3, .int py)]) hx hb dX11_isHeld_40 hl (k := 0) rfl (nI_add q 1) (Nat.le_of_ble_eq_true rfl) rfl (fun ls hl => ?_)
            refine lv_goto (tgt := 3) hx hb dX11_isHeld_43 rfl ?_
            exact ih_3 (q + 1) S1 H locs ls (by first | with_reducible assumption | omega) (by first | with_reducible assumption | omega) (by intro j hj h1 h2; rcases Nat.lt_or_ge j q with h | h; exact hno j h h1 h2; obtain rfl : j = q := (by first | with_reducible assumption | omega); first | (exfalso; omega) | exact absurd h1 (by first | with_reducible assumption | assumption) | assumption) hP hD hS (lv_sub hl [0, 1, 2, 3, 4] rfl)
          · have c_6 : q < ft ∧ (st q).toInt = 1 ∧ (tn q).toInt = 0 := zp_1 c_6
            have hw9 := hwf q (by first | with_reducible assumption | assumption)
            have hm9 := hw9.1
            have hn9 := hw9.2.1
            have hp9 := hw9.2.2
            refine lv_aload_n hx hb dX11_isHeld_27 rfl (lv_at hl 1 rfl) ?_
            refine lv_iload hx hb dX11_isHeld_28 (lv_at hl 0 rfl) ?_
            refine lv_iload_n hx hb dX11_isHeld_30 rfl (lv_at hl 3 rfl) ?_
            refine lv_iload_n hx hb dX11_isHeld_31 rfl (lv_at hl 4 rfl) ?_
            obtain ⟨hPc, hDc, hFc⟩ := zo_sub (wc := [_, _, _, _, _, _]) hP hD hS hA [0, 3, 4, 5, 6, 7] (by decide +kernel) rfl
            refine zcall (st1 := [.int (pI (∃ i, i < eO (kd q).toInt (nN (mn q)) ∧ eOn (nN (mn q)) (cF40 cx q) (cF40 cy q) i px.toInt py.toInt))]) (va_runV (As := [.int (nI q), .int px, .int py]) (rest := []) ⟨hx, hb, hml, hown, hts⟩ (k_M_isOnSet l dC dI cI cZ cF H.size k0 a I0 J0 q (nN (mn q)) kd mn cx cy S1 px py (by first | with_reducible assumption | omega) (by first | with_reducible assumption | assumption) (by first | with_reducible assumption | omega) (by first | with_reducible assumption | assumption) (by first | with_reducible assumption | assumption) (by first | with_reducible assumption | assumption)) (csV_169 hts rfl rfl ⟨Nat.le_of_ble_eq_true rfl, Nat.le_of_ble_eq_true rfl⟩) (zPV2 (q0 := 0) (ci := 9) hPc hDc hK hXN rfl rfl) rfl rfl hl.1 rfl (lv_room (Nat.le_of_ble_eq_true rfl)) dX11_isHeld_32 ⟨Nat.le_of_ble_eq_true rfl, Nat.le_of_ble_eq_true rfl⟩) hS hFc hFc rfl (fun t H locs ht hB hk1 hS => ?_)
            obtain ⟨q_7, hP1, hD1⟩ := hB
            rw [ht] at hP1
            obtain ⟨hP, hD⟩ := zn (W2 := [_, _, _, _, _, _, _, (oa (a 32) cI 8 q_7)]) hP hD hk1 hFc hP1 hD1 [0, 3, 4, 5, 6, 7] [false, true, true] zl_146 [0, 3, 4, 5, 6, 7] (by decide +kernel) rfl rfl rfl rfl rfl
            clear hk1 hPc hDc hFc hP1 hD1 ht
            refine zz_i (v := pI (onF kd mn cx cy q px.toInt py.toInt)) (zp_iff Iff.rfl) ?_
            refine lv_if_eq (tgt := 40) hx hb dX11_isHeld_35 rfl (fun c_8 => ?_) (fun c_8 => ?_)
            · have c_8 : ¬ (onF kd mn cx cy q px.toInt py.toInt) := zp_0 c_8
              refine lv_iinc (v := nI (q + 1)) (lv' := [(4, .int (nI (q + 1))), (0, .ref k0), (1, .int (nI f)), (2, .int px), (3, .int py)]) hx hb dX11_isHeld_40 hl (k := 0) rfl (nI_add q 1) (Nat.le_of_ble_eq_true rfl) rfl (fun ls hl => ?_)
              refine lv_goto (tgt := 3) hx hb dX11_isHeld_43 rfl ?_
              exact ih_3 (q + 1) q_7 H locs ls (by first | with_reducible assumption | omega) (by first | with_reducible assumption | omega) (by intro j hj h1 h2; rcases Nat.lt_or_ge j q with h | h; exact hno j h h1 h2; obtain rfl : j = q := (by first | with_reducible assumption | omega); first | (exfalso; omega) | exact absurd h1 (by first | with_reducible assumption | assumption) | assumption) hP hD hS (lv_sub hl [0, 1, 2, 3, 4] rfl)
            · have c_8 : onF kd mn cx cy q px.toInt py.toInt := zp_1 c_8
              refine lv_iconst (v := 1) hx hb dX11_isHeld_38 rfl ?_
              obtain ⟨hP9, hD9⟩ := zu_sub (wc := [_, _, _, _, _, _, _, _]) hP hD [true, true, true, true, true, true, true, true] rfl rfl
              rw [hQ9]
              exact W.zret (ty := .boolean) (v := 1) hx hb hr (rfl) (fun t ht hW => ⟨⟨congrArg (fun z => Outcome.returned (some (Value.int z))) (show (1 : Int32) = pI (∃ q, (q < ft ∧ (st q).toInt = 1 ∧ (tn q).toInt = 0) ∧ q ≠ f ∧ onF kd mn cx cy q px.toInt py.toInt) from (zp_t (⟨q, by assumption, by omega, by assumption⟩)).symm), q_7, by rw [ht]; exact hP9, hD9⟩, hS.F ht⟩) hS.2.2 dX11_isHeld_39
  exact hl_3 _ 0 S0 s.heap [] ls (Nat.lt_succ_self _) (by first | with_reducible assumption | omega) (by intro j hj; omega) hP hD hS (lv_sub hl [0, 1, 2, 3, 4] rfl)
set_option maxHeartbeats 4000000 in
set_option maxRecDepth 100000 in
theorem k_M_triangle (l : Launch) (dC : Nat → ClassId) (dI : Nat → Nat → Nat) (cI cZ cF : ClassId) (sz : Nat) (k0 : Nat) (a : Nat → Nat) (I0 : Nat → Int32) (J0 : Nat → Int64) (f : Nat) (n : Nat) (k : Nat) (mn : Nat → Int32) (cx : Nat → Int32) (cy : Nat → Int32) (hf_f : f ≤ 200) (hm_f : mn f = nI n) (hn_f : 1 ≤ n ∧ n ≤ 40) (hp_f : pls n (cF40 cx f) (cF40 cy f)) (hk9 : k < n) : zM l yX11_triangle cX11_triangle 9 (some .long) ({ frames := 1, cells := 0, slots := 0, locals := 31 } : Room) [.ref k0, .int (nI f), .int (nI k)] (dC, dI) (zTy cI cZ cF) [(om k0 a I0 J0), (oa (a 11) cI 201 mn), (oa (a 12) cI 8040 cx), (oa (a 13) cI 8040 cy)] sz (some (.long (jI ((Int.natAbs (cr (cF40 cx f (prv n k)).toInt (cF40 cy f (prv n k)).toInt (cF40 cx f k).toInt (cF40 cy f k).toInt (cF40 cx f (nxt n k)).toInt (cF40 cy f (nxt n k)).toInt) : Nat) : Int)))) (fun A t => zPD (dC, dI) classes A [(om k0 a I0 J0), (oa (a 11) cI 201 mn), (oa (a 12) cI 8040 cx), (oa (a 13) cI 8040 cy)] t.heap) 0 0 := by
  refine zIn (own := "ScaleShopModel") (loc := [(0, .ref k0), (1, .int (nI f)), (2, .int (nI k))]) rfl rfl rfl rfl (fun p e s m below meth c hx hb hr hts hown hlocks hml hnm9 A hA hS hP hD hK hXN Q9 hQ9 ls hl => ?_)
  have hpv := prv_lt (n := n) (i := k) (by omega)
  have hnx := nxt_lt (n := n) (i := k) (by omega)
  have hB := crBp (hp_f _ hpv).1 (hp_f _ hpv).2 (hp_f _ hk9).1 (hp_f _ hk9).2 (hp_f _ hnx).1 (hp_f _ hnx).2
  refine lv_aload_n hx hb dX11_triangle_0 rfl (lv_at hl 0 rfl) ?_
  refine va_get (D := (dC, dI)) (ci := 9) (v := .ref (a 11)) (C := RX11) (T := TX11) (N := 55) hx hb hts inX11 hown hK hP 0 rfl rfl 11 (Nat.le_of_ble_eq_true rfl) (hts _ mw_1170) (fun _ h9 => h9) rfl dX11_triangle_1 ?_
  refine lv_iload_n hx hb dX11_triangle_4 rfl (lv_at hl 1 rfl) ?_
  have b9_1 : f < 201 := by omega
  refine z_iald hx hb hK hP 1 0 rfl rfl (e := f) rfl b9_1 (Nat.le_of_ble_eq_true rfl) dX11_triangle_5 ?_
  refine zz_i (v := nI n) (hm_f) ?_
  refine lv_istore_n (lv' := [(3, .int (nI n)), (0, .ref k0), (1, .int (nI f)), (2, .int (nI k))]) hx hb dX11_triangle_6 rfl hl (Nat.le_of_ble_eq_true rfl) rfl (fun ls hl => ?_)
  refine lv_bipush (v := 40) hx hb dX11_triangle_7 rfl ?_
  refine lv_iload_n hx hb dX11_triangle_9 rfl (lv_at hl 2 rfl) ?_
  refine lv_imul hx hb dX11_triangle_10 ?_
  refine zz_i (v := nI (40 * f)) (pk_mul 40 f) ?_
  have hj_2 : W p l e ({ frames := 1, cells := 0, slots := 0, locals := 31 } : Room) s m ([.ref k0, .int (nI f), .int (nI k)] : List Value).toArray below meth c s.heap [] 0 0 Q9 (F0 m 24 ls [.int (nI (prv n k)), .int (nI (40 * f))]) := by
    refine lv_iadd hx hb dX11_triangle_24 ?_
    refine zz_i (v := nI (40 * f + (prv n k))) (nI_add (40 * f) (prv n k)) ?_
    refine lv_istore (lv' := [(4, .int (nI (40 * f + (prv n k)))), (3, .int (nI n)), (0, .ref k0), (1, .int (nI f)), (2, .int (nI k))]) hx hb dX11_triangle_25 hl (Nat.le_of_ble_eq_true rfl) rfl (fun ls hl => ?_)
    refine lv_bipush (v := 40) hx hb dX11_triangle_27 rfl ?_
    refine lv_iload_n hx hb dX11_triangle_29 rfl (lv_at hl 3 rfl) ?_
    refine lv_imul hx hb dX11_triangle_30 ?_
    refine zz_i (v := nI (40 * f)) (pk_mul 40 f) ?_
    refine lv_iload_n hx hb dX11_triangle_31 rfl (lv_at hl 4 rfl) ?_
    refine lv_iadd hx hb dX11_triangle_32 ?_
    refine zz_i (v := nI (40 * f + k)) (nI_add (40 * f) k) ?_
    refine lv_istore (lv' := [(5, .int (nI (40 * f + k))), (4, .int (nI (40 * f + (prv n k)))), (3, .int (nI n)), (0, .ref k0), (1, .int (nI f)), (2, .int (nI k))]) hx hb dX11_triangle_33 hl (Nat.le_of_ble_eq_true rfl) rfl (fun ls hl => ?_)
    refine lv_bipush (v := 40) hx hb dX11_triangle_35 rfl ?_
    refine lv_iload_n hx hb dX11_triangle_37 rfl (lv_at hl 4 rfl) ?_
    refine lv_imul hx hb dX11_triangle_38 ?_
    refine zz_i (v := nI (40 * f)) (pk_mul 40 f) ?_
    have hj_3 : W p l e ({ frames := 1, cells := 0, slots := 0, locals := 31 } : Room) s m ([.ref k0, .int (nI f), .int (nI k)] : List Value).toArray below meth c s.heap [] 0 0 Q9 (F0 m 53 ls [.int (nI (nxt n k)), .int (nI (40 * f))]) := by
      refine lv_iadd hx hb dX11_triangle_53 ?_
      refine zz_i (v := nI (40 * f + (nxt n k))) (nI_add (40 * f) (nxt n k)) ?_
      refine lv_istore (lv' := [(6, .int (nI (40 * f + (nxt n k)))), (5, .int (nI (40 * f + k))), (4, .int (nI (40 * f + (prv n k)))), (3, .int (nI n)), (0, .ref k0), (1, .int (nI f)), (2, .int (nI k))]) hx hb dX11_triangle_54 hl (Nat.le_of_ble_eq_true rfl) rfl (fun ls hl => ?_)
      refine lv_aload_n hx hb dX11_triangle_56 rfl (lv_at hl 4 rfl) ?_
      refine va_get (D := (dC, dI)) (ci := 9) (v := .ref (a 12)) (C := RX11) (T := TX11) (N := 55) hx hb hts inX11 hown hK hP 0 rfl rfl 12 (Nat.le_of_ble_eq_true rfl) (hts _ mw_1171) (fun _ h9 => h9) rfl dX11_triangle_57 ?_
      refine lv_iload hx hb dX11_triangle_60 (lv_at hl 2 rfl) ?_
      have b9_4 : 40 * f + (prv n k) < 8040 := by omega
      refine z_iald hx hb hK hP 2 0 rfl rfl (e := 40 * f + (prv n k)) rfl b9_4 (Nat.le_of_ble_eq_true rfl) dX11_triangle_62 ?_
      refine lv_i2l (v := (cx (40 * f + (prv n k))).toInt64) hx hb dX11_triangle_63 (rfl) ?_
      refine lv_aload_n hx hb dX11_triangle_64 rfl (lv_at hl 4 rfl) ?_
      refine va_get (D := (dC, dI)) (ci := 9) (v := .ref (a 13)) (C := RX11) (T := TX11) (N := 55) hx hb hts inX11 hown hK hP 0 rfl rfl 13 (Nat.le_of_ble_eq_true rfl) (hts _ mw_1172) (fun _ h9 => h9) rfl dX11_triangle_65 ?_
      refine lv_iload hx hb dX11_triangle_68 (lv_at hl 2 rfl) ?_
      refine z_iald hx hb hK hP 3 0 rfl rfl (e := 40 * f + (prv n k)) rfl b9_4 (Nat.le_of_ble_eq_true rfl) dX11_triangle_70 ?_
      refine lv_i2l (v := (cy (40 * f + (prv n k))).toInt64) hx hb dX11_triangle_71 (rfl) ?_
      refine lv_aload_n hx hb dX11_triangle_72 rfl (lv_at hl 4 rfl) ?_
      refine va_get (D := (dC, dI)) (ci := 9) (v := .ref (a 12)) (C := RX11) (T := TX11) (N := 55) hx hb hts inX11 hown hK hP 0 rfl rfl 12 (Nat.le_of_ble_eq_true rfl) (hts _ mw_1171) (fun _ h9 => h9) rfl dX11_triangle_73 ?_
      refine lv_iload hx hb dX11_triangle_76 (lv_at hl 1 rfl) ?_
      have b9_5 : 40 * f + k < 8040 := by omega
      refine z_iald hx hb hK hP 2 0 rfl rfl (e := 40 * f + k) rfl b9_5 (Nat.le_of_ble_eq_true rfl) dX11_triangle_78 ?_
      refine lv_i2l (v := (cx (40 * f + k)).toInt64) hx hb dX11_triangle_79 (rfl) ?_
      refine lv_aload_n hx hb dX11_triangle_80 rfl (lv_at hl 4 rfl) ?_
      refine va_get (D := (dC, dI)) (ci := 9) (v := .ref (a 13)) (C := RX11) (T := TX11) (N := 55) hx hb hts inX11 hown hK hP 0 rfl rfl 13 (Nat.le_of_ble_eq_true rfl) (hts _ mw_1172) (fun _ h9 => h9) rfl dX11_triangle_81 ?_
      refine lv_iload hx hb dX11_triangle_84 (lv_at hl 1 rfl) ?_
      refine z_iald hx hb hK hP 3 0 rfl rfl (e := 40 * f + k) rfl b9_5 (Nat.le_of_ble_eq_true rfl) dX11_triangle_86 ?_
      refine lv_i2l (v := (cy (40 * f + k)).toInt64) hx hb dX11_triangle_87 (rfl) ?_
      refine lv_aload_n hx hb dX11_triangle_88 rfl (lv_at hl 4 rfl) ?_
      refine va_get (D := (dC, dI)) (ci := 9) (v := .ref (a 12)) (C := RX11) (T := TX11) (N := 55) hx hb hts inX11 hown hK hP 0 rfl rfl 12 (Nat.le_of_ble_eq_true rfl) (hts _ mw_1171) (fun _ h9 => h9) rfl dX11_triangle_89 ?_
      refine lv_iload hx hb dX11_triangle_92 (lv_at hl 0 rfl) ?_
      have b9_6 : 40 * f + (nxt n k) < 8040 := by omega
      refine z_iald hx hb hK hP 2 0 rfl rfl (e := 40 * f + (nxt n k)) rfl b9_6 (Nat.le_of_ble_eq_true rfl) dX11_triangle_94 ?_
      refine lv_i2l (v := (cx (40 * f + (nxt n k))).toInt64) hx hb dX11_triangle_95 (rfl) ?_
      refine lv_aload_n hx hb dX11_triangle_96 rfl (lv_at hl 4 rfl) ?_
      refine va_get (D := (dC, dI)) (ci := 9) (v := .ref (a 13)) (C := RX11) (T := TX11) (N := 55) hx hb hts inX11 hown hK hP 0 rfl rfl 13 (Nat.le_of_ble_eq_true rfl) (hts _ mw_1172) (fun _ h9 => h9) rfl dX11_triangle_97 ?_
      refine lv_iload hx hb dX11_triangle_100 (lv_at hl 0 rfl) ?_
      refine z_iald hx hb hK hP 3 0 rfl rfl (e := 40 * f + (nxt n k)) rfl b9_6 (Nat.le_of_ble_eq_true rfl) dX11_triangle_102 ?_
      refine lv_i2l (v := (cy (40 * f + (nxt n k))).toInt64) hx hb dX11_triangle_103 (rfl) ?_
      obtain ⟨hPc, hDc, hFc, hI1⟩ := zi_sub (wc := []) hP hD hS hA [] rfl rfl
      refine zcall (st1 := [.long (jI (cr (cx (40 * f + (prv n k))).toInt (cy (40 * f + (prv n k))).toInt (cx (40 * f + k)).toInt (cy (40 * f + k)).toInt (cx (40 * f + (nxt n k))).toInt (cy (40 * f + (nxt n k))).toInt))]) (va_runS (As := [.long ((cx (40 * f + (prv n k))).toInt64), .long ((cy (40 * f + (prv n k))).toInt64), .long ((cx (40 * f + k)).toInt64), .long ((cy (40 * f + k)).toInt64), .long ((cx (40 * f + (nxt n k))).toInt64), .long ((cy (40 * f + (nxt n k))).toInt64)]) (rest := []) ⟨hx, hb, hml, hown, hts⟩ (k_M_cross l dC dI cI cZ cF s.heap.size (cx (40 * f + (prv n k))) (cy (40 * f + (prv n k))) (cx (40 * f + k)) (cy (40 * f + k)) (cx (40 * f + (nxt n k))) (cy (40 * f + (nxt n k))) ((hp_f _ hpv).1) ((hp_f _ hpv).2) ((hp_f _ hk9).1) ((hp_f _ hk9).2) ((hp_f _ hnx).1) ((hp_f _ hnx).2)) (csS_162 hts rfl rfl ⟨Nat.le_of_ble_eq_true rfl, Nat.le_of_ble_eq_true rfl⟩) (zPS2 hPc hDc hK hXN) rfl rfl hl.1 rfl (lv_room (Nat.le_of_ble_eq_true rfl)) dX11_triangle_104 ⟨Nat.le_of_ble_eq_true rfl, Nat.le_of_ble_eq_true rfl⟩) hS hFc hFc rfl (fun t H locs ht hB hk1 hS => ?_)
      obtain ⟨hP1, hD1⟩ := hB
      rw [ht] at hP1
      replace hP := z0 hP hD hk1 hP1 hI1
      clear hk1 hPc hDc hFc hP1 hD1 ht hI1
      refine zz_l (v := jI (cr (cF40 cx f (prv n k)).toInt (cF40 cy f (prv n k)).toInt (cF40 cx f k).toInt (cF40 cy f k).toInt (cF40 cx f (nxt n k)).toInt (cF40 cy f (nxt n k)).toInt)) (rfl) ?_
      refine lv_lstore (lv' := [(7, .long (jI (cr (cF40 cx f (prv n k)).toInt (cF40 cy f (prv n k)).toInt (cF40 cx f k).toInt (cF40 cy f k).toInt (cF40 cx f (nxt n k)).toInt (cF40 cy f (nxt n k)).toInt))), (6, .int (nI (40 * f + (nxt n k)))), (5, .int (nI (40 * f + k))), (4, .int (nI (40 * f + (prv n k)))), (3, .int (nI n)), (0, .ref k0), (1, .int (nI f)), (2, .int (nI k))]) hx hb dX11_triangle_107 hl (Nat.le_of_ble_eq_true rfl) rfl (fun ls hl => ?_)
      refine lv_lload hx hb dX11_triangle_109 (lv_at hl 0 rfl) ?_
      refine lv_lconst (v := 0) hx hb dX11_triangle_111 rfl ?_
      refine W.lcmp hx hb dX11_triangle_112 ?_
      refine lv_if_ge (tgt := 122) hx hb dX11_triangle_113 rfl (fun c_7 => ?_) (fun c_7 => ?_)
      · have c_7 : 0 ≤ (cr (cF40 cx f (prv n k)).toInt (cF40 cy f (prv n k)).toInt (cF40 cx f k).toInt (cF40 cy f k).toInt (cF40 cx f (nxt n k)).toInt (cF40 cy f (nxt n k)).toInt) := zl_ge (jI_toInt (by omega)) rfl c_7
        refine lv_lload hx hb dX11_triangle_122 (lv_at hl 0 rfl) ?_
        obtain ⟨hP9, hD9⟩ := zu_sub (wc := [_, _, _, _]) hP hD [true, true, true, true] rfl rfl
        rw [hQ9]
        exact W.lret (v := jI (cr (cF40 cx f (prv n k)).toInt (cF40 cy f (prv n k)).toInt (cF40 cx f k).toInt (cF40 cy f k).toInt (cF40 cx f (nxt n k)).toInt (cF40 cy f (nxt n k)).toInt)) hx hb hr (fun t ht hW => ⟨⟨congrArg (fun z => Outcome.returned (some (Value.long z))) (show (jI (cr (cF40 cx f (prv n k)).toInt (cF40 cy f (prv n k)).toInt (cF40 cx f k).toInt (cF40 cy f k).toInt (cF40 cx f (nxt n k)).toInt (cF40 cy f (nxt n k)).toInt) : Int64) = jI ((Int.natAbs (cr (cF40 cx f (prv n k)).toInt (cF40 cy f (prv n k)).toInt (cF40 cx f k).toInt (cF40 cy f k).toInt (cF40 cx f (nxt n k)).toInt (cF40 cy f (nxt n k)).toInt) : Nat) : Int) from by first | (rw [jI_neg (by omega)]; congr 1; omega) | (congr 1; omega)), by rw [ht]; exact hP9, hD9⟩, hS.F ht⟩) hS.2.2 dX11_triangle_124
      · have c_7 : (cr (cF40 cx f (prv n k)).toInt (cF40 cy f (prv n k)).toInt (cF40 cx f k).toInt (cF40 cy f k).toInt (cF40 cx f (nxt n k)).toInt (cF40 cy f (nxt n k)).toInt) < 0 := zl_nge (jI_toInt (by omega)) rfl c_7
        refine lv_lload hx hb dX11_triangle_116 (lv_at hl 0 rfl) ?_
        refine lv_lneg hx hb dX11_triangle_118 ?_
        refine lv_goto (tgt := 124) hx hb dX11_triangle_119 rfl ?_
        obtain ⟨hP9, hD9⟩ := zu_sub (wc := [_, _, _, _]) hP hD [true, true, true, true] rfl rfl
        rw [hQ9]
        exact W.lret (v := -(jI (cr (cF40 cx f (prv n k)).toInt (cF40 cy f (prv n k)).toInt (cF40 cx f k).toInt (cF40 cy f k).toInt (cF40 cx f (nxt n k)).toInt (cF40 cy f (nxt n k)).toInt))) hx hb hr (fun t ht hW => ⟨⟨congrArg (fun z => Outcome.returned (some (Value.long z))) (show (-(jI (cr (cF40 cx f (prv n k)).toInt (cF40 cy f (prv n k)).toInt (cF40 cx f k).toInt (cF40 cy f k).toInt (cF40 cx f (nxt n k)).toInt (cF40 cy f (nxt n k)).toInt)) : Int64) = jI ((Int.natAbs (cr (cF40 cx f (prv n k)).toInt (cF40 cy f (prv n k)).toInt (cF40 cx f k).toInt (cF40 cy f k).toInt (cF40 cx f (nxt n k)).toInt (cF40 cy f (nxt n k)).toInt) : Nat) : Int) from by first | (rw [jI_neg (by omega)]; congr 1; omega) | (congr 1; omega)), by rw [ht]; exact hP9, hD9⟩, hS.F ht⟩) hS.2.2 dX11_triangle_124
    refine lv_iload_n hx hb dX11_triangle_39 rfl (lv_at hl 5 rfl) ?_
    refine lv_iconst (v := 1) hx hb dX11_triangle_40 rfl ?_
    refine lv_iadd hx hb dX11_triangle_41 ?_
    refine zz_i (v := nI (k + 1)) (nI_add k 1) ?_
    refine lv_iload_n hx hb dX11_triangle_42 rfl (lv_at hl 2 rfl) ?_
    have b9_9 : zlt ((k + 1)) := show (k + 1) < 2147483648 by omega
    have b9_10 : zlt (n) := show n < 2147483648 by omega
    refine lv_icmp_ne (tgt := 50) hx hb dX11_triangle_43 rfl (fun c_8 => ?_) (fun c_8 => ?_)
    · have c_8 : ¬ ((k + 1 : Nat) : Int) = ((n : Nat) : Int) := zc_ne (nI_toInt b9_9) (nI_toInt b9_10) c_8
      refine lv_iload_n hx hb dX11_triangle_50 rfl (lv_at hl 5 rfl) ?_
      refine lv_iconst (v := 1) hx hb dX11_triangle_51 rfl ?_
      refine lv_iadd hx hb dX11_triangle_52 ?_
      refine zz_i (v := nI (k + 1)) (nI_add k 1) ?_
      refine zz_i (v := nI (nxt n k)) (by first | (rw [nxt, if_pos (by omega)]) | (rw [nxt, if_neg (by omega)]; first | done | rfl)) ?_
      exact hj_3 
    · have c_8 : ((k + 1 : Nat) : Int) = ((n : Nat) : Int) := zc_eq (nI_toInt b9_9) (nI_toInt b9_10) c_8
      refine lv_iconst (v := 0) hx hb dX11_triangle_46 rfl ?_
      refine lv_goto (tgt := 53) hx hb dX11_triangle_47 rfl ?_
      refine zz_i (v := nI (nxt n k)) (by first | (rw [nxt, if_pos (by omega)]) | (rw [nxt, if_neg (by omega)]; first | done | rfl)) ?_
      exact hj_3 
  refine lv_iload_n hx hb dX11_triangle_11 rfl (lv_at hl 3 rfl) ?_
  have b9_12 : zlt (k) := show k < 2147483648 by omega
  refine lv_if_ne (tgt := 21) hx hb dX11_triangle_12 rfl (fun c_11 => ?_) (fun c_11 => ?_)
  · have c_11 : ¬ ((k : Nat) : Int) = 0 := zc_ne (nI_toInt b9_12) rfl c_11
    refine lv_iload_n hx hb dX11_triangle_21 rfl (lv_at hl 3 rfl) ?_
    refine lv_iconst (v := 1) hx hb dX11_triangle_22 rfl ?_
    refine lv_isub hx hb dX11_triangle_23 ?_
    refine zz_i (v := nI (k - 1)) (pk_sub (a := k) (b := 1) (by omega)) ?_
    refine zz_i (v := nI (prv n k)) (by first | (rw [prv, if_pos (by omega)]) | (rw [prv, if_neg (by omega)])) ?_
    exact hj_2 
  · have c_11 : ((k : Nat) : Int) = 0 := zc_eq (nI_toInt b9_12) rfl c_11
    refine lv_iload_n hx hb dX11_triangle_15 rfl (lv_at hl 0 rfl) ?_
    refine lv_iconst (v := 1) hx hb dX11_triangle_16 rfl ?_
    refine lv_isub hx hb dX11_triangle_17 ?_
    refine zz_i (v := nI (n - 1)) (pk_sub (a := n) (b := 1) (by omega)) ?_
    refine lv_goto (tgt := 24) hx hb dX11_triangle_18 rfl ?_
    refine zz_i (v := nI (prv n k)) (by first | (rw [prv, if_pos (by omega)]) | (rw [prv, if_neg (by omega)])) ?_
    exact hj_2 
end
section
set_option maxHeartbeats 4000000 in
set_option maxRecDepth 100000 in
theorem k_M_isLawfulTo_p (l : Launch) (dC : Nat → ClassId) (dI : Nat → Nat → Nat) (cI cZ cF : ClassId) (sz : Nat) (k0 : Nat) (a : Nat → Nat) (I0 : Nat → Int32) (J0 : Nat → Int64) (f : Nat) (n : Nat) (g : Nat) (m2 : Nat) (on : Nat) (b : Nat) (kd : Nat → Int32) (mn : Nat → Int32) (cx : Nat → Int32) (cy : Nat → Int32) (S0 : Nat → Int32) (T0 : Nat → Int32) (P0 : Nat → Int32) (Q0 : Nat → Int32) (ox : Nat → Int32) (oy : Nat → Int32) (mt : Nat → Int32) (wi : Nat → Int32) (ins : Nat → Int32) (MT : Prop) (WI : Prop) (IN : Nat → Prop) (hf_f : f ≤ 200) (hm_f : mn f = nI n) (hn_f : 1 ≤ n ∧ n ≤ 40) (hp_f : pls n (cF40 cx f) (cF40 cy f)) (hf_g : g ≤ 200) (hm_g : mn g = nI m2) (hn_g : 1 ≤ m2 ∧ m2 ≤ 40) (hp_g : pls m2 (cF40 cx g) (cF40 cy g)) (hon : I0 35 = nI on) (ho40 : on ≤ 40) (ho1 : 1 ≤ on) (hpo : pls on ox oy) (hmt : mt g = pI MT) (hwi : 5 ≤ (kd g).toInt → wi g = pI WI) (hin : ∀ k, k < m2 → 5 ≤ (kd f).toInt → ins (40 * g + k) = pI (IN k)) (hb9 : b < on) : zM l yX11_isLawfulTo cX11_isLawfulTo 8 (some .boolean) ({ frames := 4, cells := 0, slots := 0, locals := 108 } : Room) [.ref k0, .int (nI f), .int (nI g), .int 1, .int (nI b)] (dC, dI) (zTy cI cZ cF) [(om k0 a I0 J0), (oa (a 1) cI 201 kd), (oa (a 11) cI 201 mn), (oa (a 12) cI 8040 cx), (oa (a 13) cI 8040 cy), (oa (a 32) cI 8 S0), (oa (a 40) cI 6 T0), (oa (a 29) cI 42 P0), (oa (a 30) cI 42 Q0), (oa (a 33) cI 42 ox), (oa (a 34) cI 42 oy), (oa (a 37) cZ 201 mt), (oa (a 38) cZ 201 wi), (oa (a 39) cZ 8040 ins)] sz (some (.int (pI (lawTo (ox 0) (oy 0) (kd f).toInt n (cF40 cx f) (cF40 cy f) (kd g).toInt m2 (cF40 cx g) (cF40 cy g) MT WI IN (fun k => swB on ox oy b (cF40 cx g k).toInt (cF40 cy g k).toInt))))) (fun A t => ∃ (z9 : Int32), ∃ (S1 : Nat → Int32), ∃ (T1 : Nat → Int32), ∃ (P1 : Nat → Int32), ∃ (Q1 : Nat → Int32), zPD (dC, dI) classes A [(om k0 a (upd I0 31 z9) J0), (oa (a 1) cI 201 kd), (oa (a 11) cI 201 mn), (oa (a 12) cI 8040 cx), (oa (a 13) cI 8040 cy), (oa (a 32) cI 8 S1), (oa (a 40) cI 6 T1), (oa (a 29) cI 42 P1), (oa (a 30) cI 42 Q1), (oa (a 33) cI 42 ox), (oa (a 34) cI 42 oy), (oa (a 37) cZ 201 mt), (oa (a 38) cZ 201 wi), (oa (a 39) cZ 8040 ins)] t.heap) 0 0 := by
  refine zIn (own := "ScaleShopModel") (loc := [(0, .ref k0), (1, .int (nI f)), (2, .int (nI g)), (3, .int 1), (4, .int (nI b))]) rfl rfl rfl rfl (fun p e s m below meth c hx hb hr hts hown hlocks hml hnm9 A hA hS hP hD hK hXN Q9 hQ9 ls hl => ?_)
  refine lv_aload_n hx hb dX11_isLawfulTo_0 rfl (lv_at hl 0 rfl) ?_
  refine lv_iload_n hx hb dX11_isLawfulTo_1 rfl (lv_at hl 1 rfl) ?_
  refine lv_iload_n hx hb dX11_isLawfulTo_2 rfl (lv_at hl 2 rfl) ?_
  obtain ⟨hPc, hDc, hFc⟩ := zo_sub (wc := [_, _, _, _, _, _]) hP hD hS hA [0, 1, 2, 3, 4, 5] (by decide +kernel) rfl
  refine zcall (st1 := [.int (pI (∃ i, i < eO (kd f).toInt n ∧ ∃ j, j < eO (kd g).toInt m2 ∧ eMt n (cF40 cx f) (cF40 cy f) i m2 (cF40 cx g) (cF40 cy g) j))]) (va_runV (As := [.int (nI f), .int (nI g)]) (rest := []) ⟨hx, hb, hml, hown, hts⟩ (k_M_isMet l dC dI cI cZ cF s.heap.size k0 a I0 J0 f n g m2 kd mn cx cy S0 (by first | with_reducible assumption | omega) (by first | with_reducible assumption | assumption) (by first | with_reducible assumption | omega) (by first | with_reducible assumption | assumption) (by first | with_reducible assumption | omega) (by first | with_reducible assumption | assumption) (by first | with_reducible assumption | omega) (by first | with_reducible assumption | assumption)) (csV_180 hts rfl rfl ⟨Nat.le_of_ble_eq_true rfl, Nat.le_of_ble_eq_true rfl⟩) (zPV2 (q0 := 0) (ci := 9) hPc hDc hK hXN rfl rfl) rfl rfl hl.1 rfl (lv_room (Nat.le_of_ble_eq_true rfl)) dX11_isLawfulTo_3 ⟨Nat.le_of_ble_eq_true rfl, Nat.le_of_ble_eq_true rfl⟩) hS hFc hFc rfl (fun t H locs ht hB hk1 hS => ?_)
  obtain ⟨q_1, hP1, hD1⟩ := hB
  rw [ht] at hP1
  obtain ⟨hP, hD⟩ := zn (W2 := [_, _, _, _, _, (oa (a 32) cI 8 q_1), _, _, _, _, _, _, _, _]) hP hD hk1 hFc hP1 hD1 [0, 1, 2, 3, 4, 5] zl_147 zl_147 [0, 1, 2, 3, 4, 5] (by decide +kernel) rfl rfl rfl rfl rfl
  clear hk1 hPc hDc hFc hP1 hD1 ht
  refine zz_i (v := pI (mtF (kd f).toInt n (cF40 cx f) (cF40 cy f) (kd g).toInt m2 (cF40 cx g) (cF40 cy g))) (rfl) ?_
  refine lv_aload_n hx hb dX11_isLawfulTo_6 rfl (lv_at hl 0 rfl) ?_
  refine va_get (D := (dC, dI)) (ci := 9) (v := .ref (a 37)) (C := RX11) (T := TX11) (N := 55) hx hb hts inX11 hown hK hP 0 rfl rfl 37 (Nat.le_of_ble_eq_true rfl) (hts _ mw_1196) (fun _ h9 => h9) rfl dX11_isLawfulTo_7 ?_
  refine lv_iload_n hx hb dX11_isLawfulTo_10 rfl (lv_at hl 2 rfl) ?_
  have b9_2 : g < 201 := by omega
  refine z_zald hx hb hK hP 11 1 rfl rfl (e := g) rfl b9_2 (Nat.le_of_ble_eq_true rfl) dX11_isLawfulTo_11 ?_
  refine zz_i (v := pI MT) (hmt) ?_
  refine lv_icmp_eq (tgt := 17) hx hb dX11_isLawfulTo_12 rfl (fun c_3 => ?_) (fun c_3 => ?_)
  · have c_3 : (pI (mtF (kd f).toInt n (cF40 cx f) (cF40 cy f) (kd g).toInt m2 (cF40 cx g) (cF40 cy g))).toInt = (pI MT).toInt := zc_eq rfl rfl c_3
    refine lv_aload_n hx hb dX11_isLawfulTo_17 rfl (lv_at hl 0 rfl) ?_
    refine lv_iload_n hx hb dX11_isLawfulTo_18 rfl (lv_at hl 2 rfl) ?_
    obtain ⟨hPc, hDc, hFc, hI1⟩ := zi_sub (wc := [_, _]) hP hD hS hA [0, 1] rfl rfl
    refine zcall (st1 := [.int (pI (5 ≤ (kd g).toInt))]) (va_runV (As := [.int (nI g)]) (rest := []) ⟨hx, hb, hml, hown, hts⟩ (k_M_isRing l dC dI cI cZ cF H.size k0 a I0 J0 g kd (by first | with_reducible assumption | omega)) (csV_165 hts rfl rfl ⟨Nat.le_of_ble_eq_true rfl, Nat.le_of_ble_eq_true rfl⟩) (zPV2 (q0 := 0) (ci := 9) hPc hDc hK hXN rfl rfl) rfl rfl hl.1 rfl (lv_room (Nat.le_of_ble_eq_true rfl)) dX11_isLawfulTo_19 ⟨Nat.le_of_ble_eq_true rfl, Nat.le_of_ble_eq_true rfl⟩) hS hFc hFc rfl (fun t H locs ht hB hk1 hS => ?_)
    obtain ⟨hP1, hD1⟩ := hB
    rw [ht] at hP1
    replace hP := z0 hP hD hk1 hP1 hI1
    clear hk1 hPc hDc hFc hP1 hD1 ht hI1
    refine lv_if_eq (tgt := 59) hx hb dX11_isLawfulTo_22 rfl (fun c_4 => ?_) (fun c_4 => ?_)
    · have c_4 : ¬ (5 ≤ (kd g).toInt) := zp_0 c_4
      refine lv_iconst (v := 0) hx hb dX11_isLawfulTo_59 rfl ?_
      refine lv_istore (lv' := [(5, .int 0), (0, .ref k0), (1, .int (nI f)), (2, .int (nI g)), (3, .int 1), (4, .int (nI b))]) hx hb dX11_isLawfulTo_60 hl (Nat.le_of_ble_eq_true rfl) rfl (fun ls hl => ?_)
      have hl_62 : ∀ (n9 : Nat) (k : Nat) (z9 : Int32) (S1 : Nat → Int32) (T1 : Nat → Int32) (P1 : Nat → Int32) (Q1 : Nat → Int32) (H : Heap) (locs : List Loc) (ls : Array Slot), m2 - k < n9 → (k ≤ m2) → (∀ j, j < k → (5 ≤ (kd f).toInt → (inF (kd f).toInt n (cF40 cx f) (cF40 cy f) (cF40 cx g j).toInt (cF40 cy g j).toInt ↔ IN j)) ∧ (¬ (kd f).toInt = 0 → ¬ (fun k => swB on ox oy b (cF40 cx g k).toInt (cF40 cy g k).toInt) j)) → va_P (dC, dI) classes [(om k0 a (upd I0 31 z9) J0), (oa (a 1) cI 201 kd), (oa (a 11) cI 201 mn), (oa (a 12) cI 8040 cx), (oa (a 13) cI 8040 cy), (oa (a 32) cI 8 S1), (oa (a 40) cI 6 T1), (oa (a 29) cI 42 P1), (oa (a 30) cI 42 Q1), (oa (a 33) cI 42 ox), (oa (a 34) cI 42 oy), (oa (a 37) cZ 201 mt), (oa (a 38) cZ 201 wi), (oa (a 39) cZ 8040 ins)] H → va_D A [(om k0 a (upd I0 31 z9) J0), (oa (a 1) cI 201 kd), (oa (a 11) cI 201 mn), (oa (a 12) cI 8040 cx), (oa (a 13) cI 8040 cy), (oa (a 32) cI 8 S1), (oa (a 40) cI 6 T1), (oa (a 29) cI 42 P1), (oa (a 30) cI 42 Q1), (oa (a 33) cI 42 ox), (oa (a 34) cI 42 oy), (oa (a 37) cZ 201 mt), (oa (a 38) cZ 201 wi), (oa (a 39) cZ 8040 ins)] → va_S A s.heap H locs → lv_has ls 8 [(5, .int (nI k)), (0, .ref k0), (1, .int (nI f)), (2, .int (nI g)), (3, .int 1), (4, .int (nI b))] → W p l e ({ frames := 4, cells := 0, slots := 0, locals := 108 } : Room) s m ([.ref k0, .int (nI f), .int (nI g), .int 1, .int (nI b)] : List Value).toArray below meth c H locs 0 0 Q9 (F0 m 62 ls []) := by
        intro n9
        induction n9 with
        | zero => intro k z9 S1 T1 P1 Q1 H locs ls hm; exact absurd hm (Nat.not_lt_zero _)
        | succ n9 ih_62 =>
          intro k z9 S1 T1 P1 Q1 H locs ls hm hk hall hP hD hS hl
          refine lv_iload hx hb dX11_isLawfulTo_62 (lv_at hl 0 rfl) ?_
          refine lv_aload_n hx hb dX11_isLawfulTo_64 rfl (lv_at hl 1 rfl) ?_
          refine va_get (D := (dC, dI)) (ci := 9) (v := .ref (a 11)) (C := RX11) (T := TX11) (N := 55) hx hb hts inX11 hown hK hP 0 rfl rfl 11 (Nat.le_of_ble_eq_true rfl) (hts _ mw_1170) (fun _ h9 => h9) rfl dX11_isLawfulTo_65 ?_
          refine lv_iload_n hx hb dX11_isLawfulTo_68 rfl (lv_at hl 3 rfl) ?_
          refine z_iald hx hb hK hP 2 0 rfl rfl (e := g) rfl b9_2 (Nat.le_of_ble_eq_true rfl) dX11_isLawfulTo_69 ?_
          refine zz_i (v := nI m2) (hm_g) ?_
          have b9_6 : zlt (k) := show k < 2147483648 by omega
          have b9_7 : zlt (m2) := show m2 < 2147483648 by omega
          refine lv_icmp_ge (tgt := 191) hx hb dX11_isLawfulTo_70 rfl (fun c_5 => ?_) (fun c_5 => ?_)
          · have c_5 : ((m2 : Nat) : Int) ≤ ((k : Nat) : Int) := zc_le (nI_toInt b9_7) (nI_toInt b9_6) c_5
            refine lv_aload_n hx hb dX11_isLawfulTo_191 rfl (lv_at hl 1 rfl) ?_
            refine va_get (D := (dC, dI)) (ci := 9) (v := .ref (a 1)) (C := RX11) (T := TX11) (N := 55) hx hb hts inX11 hown hK hP 0 rfl rfl 1 (Nat.le_of_ble_eq_true rfl) (hts _ mw_1160) (fun _ h9 => h9) rfl dX11_isLawfulTo_192 ?_
            refine lv_iload_n hx hb dX11_isLawfulTo_195 rfl (lv_at hl 2 rfl) ?_
            have b9_8 : f < 201 := by omega
            refine z_iald hx hb hK hP 1 0 rfl rfl (e := f) rfl b9_8 (Nat.le_of_ble_eq_true rfl) dX11_isLawfulTo_196 ?_
            refine lv_if_ne (tgt := 209) hx hb dX11_isLawfulTo_197 rfl (fun c_9 => ?_) (fun c_9 => ?_)
            · have c_9 : ¬ (kd f).toInt = 0 := zc_ne rfl rfl c_9
              refine lv_iconst (v := 1) hx hb dX11_isLawfulTo_209 rfl ?_
              refine lv_goto (tgt := 214) hx hb dX11_isLawfulTo_210 rfl ?_
              obtain ⟨hP9, hD9⟩ := zu_sub (wc := [_, _, _, _, _, _, _, _, _, _, _, _, _, _]) hP hD [true, true, true, true, true, true, true, true, true, true, true, true, true, true] rfl rfl
              rw [hQ9]
              exact W.zret (ty := .boolean) (v := 1) hx hb hr (rfl) (fun t ht hW => ⟨⟨congrArg (fun z => Outcome.returned (some (Value.int z))) (show (1 : Int32) = pI (lawTo (ox 0) (oy 0) (kd f).toInt n (cF40 cx f) (cF40 cy f) (kd g).toInt m2 (cF40 cx g) (cF40 cy g) MT WI IN (fun k => swB on ox oy b (cF40 cx g k).toInt (cF40 cy g k).toInt)) from (zp_t (by first | exact ⟨zp_ieq.mp (by first | with_reducible assumption | assumption), fun h => (by first | (exfalso; omega) | exact zp_ieq.mp (by first | with_reducible assumption | assumption)), fun j hj => hall j (by omega), fun h => (by first | (exfalso; omega) | assumption)⟩ | exact fun h => absurd (h.2.2.2 (by omega)) (by first | with_reducible assumption | assumption))).symm), z9, S1, T1, P1, Q1, by rw [ht]; exact hP9, hD9⟩, hS.F ht⟩) hS.2.2 dX11_isLawfulTo_214
            · have c_9 : (kd f).toInt = 0 := zc_eq rfl rfl c_9
              refine lv_aload_n hx hb dX11_isLawfulTo_200 rfl (lv_at hl 1 rfl) ?_
              refine lv_iload_n hx hb dX11_isLawfulTo_201 rfl (lv_at hl 2 rfl) ?_
              refine lv_iload_n hx hb dX11_isLawfulTo_202 rfl (lv_at hl 3 rfl) ?_
              obtain ⟨hPc, hDc, hFc⟩ := zo_sub (wc := [_, _, _, _, _, _, _, _]) hP hD hS hA [0, 1, 2, 3, 4, 5, 9, 10] (by decide +kernel) rfl
              refine zcall (st1 := [.int (pI (∀ k, k < eO (kd g).toInt m2 → fWy (ox 0).toInt (oy 0).toInt (cx (40 * f)).toInt (cy (40 * f)).toInt m2 (cF40 cx g) (cF40 cy g) k))]) (va_runV (As := [.int (nI f), .int (nI g)]) (rest := []) ⟨hx, hb, hml, hown, hts⟩ (k_M_isFreeWay l dC dI cI cZ cF H.size k0 a (upd I0 31 z9) J0 f g m2 kd mn cx cy S1 ox oy (by first | with_reducible assumption | omega) ((hpo 0 (by first | with_reducible assumption | omega)).1) ((hpo 0 (by first | with_reducible assumption | omega)).2) ((hp_f 0 (by first | with_reducible assumption | omega)).1) ((hp_f 0 (by first | with_reducible assumption | omega)).2) (by first | with_reducible assumption | omega) (by first | with_reducible assumption | assumption) (by first | with_reducible assumption | omega) (by first | with_reducible assumption | assumption)) (csV_181 hts rfl rfl ⟨Nat.le_of_ble_eq_true rfl, Nat.le_of_ble_eq_true rfl⟩) (zPV2 (q0 := 0) (ci := 9) hPc hDc hK hXN rfl rfl) rfl rfl hl.1 rfl (lv_room (Nat.le_of_ble_eq_true rfl)) dX11_isLawfulTo_203 ⟨Nat.le_of_ble_eq_true rfl, Nat.le_of_ble_eq_true rfl⟩) hS hFc hFc rfl (fun t H locs ht hB hk1 hS => ?_)
              obtain ⟨q_10, hP1, hD1⟩ := hB
              rw [ht] at hP1
              obtain ⟨hP, hD⟩ := zn (W2 := [_, _, _, _, _, (oa (a 32) cI 8 q_10), _, _, _, _, _, _, _, _]) hP hD hk1 hFc hP1 hD1 zl_148 zl_149 zl_149 zl_148 (by decide +kernel) rfl rfl rfl rfl rfl
              clear hk1 hPc hDc hFc hP1 hD1 ht
              refine zz_i (v := pI (∀ k, k < eO (kd g).toInt m2 → fWy (ox 0).toInt (oy 0).toInt (cF40 cx f 0).toInt (cF40 cy f 0).toInt m2 (cF40 cx g) (cF40 cy g) k)) (rfl) ?_
              refine lv_if_eq (tgt := 213) hx hb dX11_isLawfulTo_206 rfl (fun c_11 => ?_) (fun c_11 => ?_)
              · have c_11 : ¬ (∀ k, k < eO (kd g).toInt m2 → fWy (ox 0).toInt (oy 0).toInt (cF40 cx f 0).toInt (cF40 cy f 0).toInt m2 (cF40 cx g) (cF40 cy g) k) := zp_0 c_11
                refine lv_iconst (v := 0) hx hb dX11_isLawfulTo_213 rfl ?_
                obtain ⟨hP9, hD9⟩ := zu_sub (wc := [_, _, _, _, _, _, _, _, _, _, _, _, _, _]) hP hD [true, true, true, true, true, true, true, true, true, true, true, true, true, true] rfl rfl
                rw [hQ9]
                exact W.zret (ty := .boolean) (v := 0) hx hb hr (rfl) (fun t ht hW => ⟨⟨congrArg (fun z => Outcome.returned (some (Value.int z))) (show (0 : Int32) = pI (lawTo (ox 0) (oy 0) (kd f).toInt n (cF40 cx f) (cF40 cy f) (kd g).toInt m2 (cF40 cx g) (cF40 cy g) MT WI IN (fun k => swB on ox oy b (cF40 cx g k).toInt (cF40 cy g k).toInt)) from (zp_f (by first | exact ⟨zp_ieq.mp (by first | with_reducible assumption | assumption), fun h => (by first | (exfalso; omega) | exact zp_ieq.mp (by first | with_reducible assumption | assumption)), fun j hj => hall j (by omega), fun h => (by first | (exfalso; omega) | assumption)⟩ | exact fun h => absurd (h.2.2.2 (by omega)) (by first | with_reducible assumption | assumption))).symm), z9, q_10, T1, P1, Q1, by rw [ht]; exact hP9, hD9⟩, hS.F ht⟩) hS.2.2 dX11_isLawfulTo_214
              · have c_11 : ∀ k, k < eO (kd g).toInt m2 → fWy (ox 0).toInt (oy 0).toInt (cF40 cx f 0).toInt (cF40 cy f 0).toInt m2 (cF40 cx g) (cF40 cy g) k := zp_1 c_11
                refine lv_iconst (v := 1) hx hb dX11_isLawfulTo_209 rfl ?_
                refine lv_goto (tgt := 214) hx hb dX11_isLawfulTo_210 rfl ?_
                obtain ⟨hP9, hD9⟩ := zu_sub (wc := [_, _, _, _, _, _, _, _, _, _, _, _, _, _]) hP hD [true, true, true, true, true, true, true, true, true, true, true, true, true, true] rfl rfl
                rw [hQ9]
                exact W.zret (ty := .boolean) (v := 1) hx hb hr (rfl) (fun t ht hW => ⟨⟨congrArg (fun z => Outcome.returned (some (Value.int z))) (show (1 : Int32) = pI (lawTo (ox 0) (oy 0) (kd f).toInt n (cF40 cx f) (cF40 cy f) (kd g).toInt m2 (cF40 cx g) (cF40 cy g) MT WI IN (fun k => swB on ox oy b (cF40 cx g k).toInt (cF40 cy g k).toInt)) from (zp_t (by first | exact ⟨zp_ieq.mp (by first | with_reducible assumption | assumption), fun h => (by first | (exfalso; omega) | exact zp_ieq.mp (by first | with_reducible assumption | assumption)), fun j hj => hall j (by omega), fun h => (by first | (exfalso; omega) | assumption)⟩ | exact fun h => absurd (h.2.2.2 (by omega)) (by first | with_reducible assumption | assumption))).symm), z9, q_10, T1, P1, Q1, by rw [ht]; exact hP9, hD9⟩, hS.F ht⟩) hS.2.2 dX11_isLawfulTo_214
          · have c_5 : ((k : Nat) : Int) < ((m2 : Nat) : Int) := zc_nle (nI_toInt b9_7) (nI_toInt b9_6) c_5
            have hk9 : k < m2 := (by omega)
            refine lv_aload_n hx hb dX11_isLawfulTo_73 rfl (lv_at hl 1 rfl) ?_
            refine va_get (D := (dC, dI)) (ci := 9) (v := .ref (a 12)) (C := RX11) (T := TX11) (N := 55) hx hb hts inX11 hown hK hP 0 rfl rfl 12 (Nat.le_of_ble_eq_true rfl) (hts _ mw_1171) (fun _ h9 => h9) rfl dX11_isLawfulTo_74 ?_
            refine lv_bipush (v := 40) hx hb dX11_isLawfulTo_77 rfl ?_
            refine lv_iload_n hx hb dX11_isLawfulTo_79 rfl (lv_at hl 3 rfl) ?_
            refine lv_imul hx hb dX11_isLawfulTo_80 ?_
            refine zz_i (v := nI (40 * g)) (pk_mul 40 g) ?_
            refine lv_iload hx hb dX11_isLawfulTo_81 (lv_at hl 0 rfl) ?_
            refine lv_iadd hx hb dX11_isLawfulTo_83 ?_
            refine zz_i (v := nI (40 * g + k)) (nI_add (40 * g) k) ?_
            have b9_12 : 40 * g + k < 8040 := by omega
            refine z_iald hx hb hK hP 3 0 rfl rfl (e := 40 * g + k) rfl b9_12 (Nat.le_of_ble_eq_true rfl) dX11_isLawfulTo_84 ?_
            refine lv_istore (lv' := [(6, .int (cx (40 * g + k))), (5, .int (nI k)), (0, .ref k0), (1, .int (nI f)), (2, .int (nI g)), (3, .int 1), (4, .int (nI b))]) hx hb dX11_isLawfulTo_85 hl (Nat.le_of_ble_eq_true rfl) rfl (fun ls hl => ?_)
            refine lv_aload_n hx hb dX11_isLawfulTo_87 rfl (lv_at hl 2 rfl) ?_
            refine va_get (D := (dC, dI)) (ci := 9) (v := .ref (a 13)) (C := RX11) (T := TX11) (N := 55) hx hb hts inX11 hown hK hP 0 rfl rfl 13 (Nat.le_of_ble_eq_true rfl) (hts _ mw_1172) (fun _ h9 => h9) rfl dX11_isLawfulTo_88 ?_
            refine lv_bipush (v := 40) hx hb dX11_isLawfulTo_91 rfl ?_
            refine lv_iload_n hx hb dX11_isLawfulTo_93 rfl (lv_at hl 4 rfl) ?_
            refine lv_imul hx hb dX11_isLawfulTo_94 ?_
            refine zz_i (v := nI (40 * g)) (pk_mul 40 g) ?_
            refine lv_iload hx hb dX11_isLawfulTo_95 (lv_at hl 1 rfl) ?_
            refine lv_iadd hx hb dX11_isLawfulTo_97 ?_
            refine zz_i (v := nI (40 * g + k)) (nI_add (40 * g) k) ?_
            refine z_iald hx hb hK hP 4 0 rfl rfl (e := 40 * g + k) rfl b9_12 (Nat.le_of_ble_eq_true rfl) dX11_isLawfulTo_98 ?_
            refine lv_istore (lv' := [(7, .int (cy (40 * g + k))), (6, .int (cx (40 * g + k))), (5, .int (nI k)), (0, .ref k0), (1, .int (nI f)), (2, .int (nI g)), (3, .int 1), (4, .int (nI b))]) hx hb dX11_isLawfulTo_99 hl (Nat.le_of_ble_eq_true rfl) rfl (fun ls hl => ?_)
            refine lv_aload_n hx hb dX11_isLawfulTo_101 rfl (lv_at hl 3 rfl) ?_
            refine lv_iload_n hx hb dX11_isLawfulTo_102 rfl (lv_at hl 4 rfl) ?_
            obtain ⟨hPc, hDc, hFc, hI1⟩ := zi_sub (wc := [_, _]) hP hD hS hA [0, 1] rfl rfl
            refine zcall (st1 := [.int (pI (5 ≤ (kd f).toInt))]) (va_runV (As := [.int (nI f)]) (rest := []) ⟨hx, hb, hml, hown, hts⟩ (k_M_isRing l dC dI cI cZ cF H.size k0 a (upd I0 31 z9) J0 f kd (by first | with_reducible assumption | omega)) (csV_165 hts rfl rfl ⟨Nat.le_of_ble_eq_true rfl, Nat.le_of_ble_eq_true rfl⟩) (zPV2 (q0 := 0) (ci := 9) hPc hDc hK hXN rfl rfl) rfl rfl hl.1 rfl (lv_room (Nat.le_of_ble_eq_true rfl)) dX11_isLawfulTo_103 ⟨Nat.le_of_ble_eq_true rfl, Nat.le_of_ble_eq_true rfl⟩) hS hFc hFc rfl (fun t H locs ht hB hk1 hS => ?_)
            obtain ⟨hP1, hD1⟩ := hB
            rw [ht] at hP1
            replace hP := z0 hP hD hk1 hP1 hI1
            clear hk1 hPc hDc hFc hP1 hD1 ht hI1
            refine lv_if_eq (tgt := 135) hx hb dX11_isLawfulTo_106 rfl (fun c_13 => ?_) (fun c_13 => ?_)
            · have c_13 : ¬ (5 ≤ (kd f).toInt) := zp_0 c_13
              refine lv_aload_n hx hb dX11_isLawfulTo_135 rfl (lv_at hl 3 rfl) ?_
              refine va_get (D := (dC, dI)) (ci := 9) (v := .ref (a 1)) (C := RX11) (T := TX11) (N := 55) hx hb hts inX11 hown hK hP 0 rfl rfl 1 (Nat.le_of_ble_eq_true rfl) (hts _ mw_1160) (fun _ h9 => h9) rfl dX11_isLawfulTo_136 ?_
              refine lv_iload_n hx hb dX11_isLawfulTo_139 rfl (lv_at hl 4 rfl) ?_
              have b9_14 : f < 201 := by omega
              refine z_iald hx hb hK hP 1 0 rfl rfl (e := f) rfl b9_14 (Nat.le_of_ble_eq_true rfl) dX11_isLawfulTo_140 ?_
              refine lv_if_eq (tgt := 185) hx hb dX11_isLawfulTo_141 rfl (fun c_15 => ?_) (fun c_15 => ?_)
              · have c_15 : (kd f).toInt = 0 := zc_eq rfl rfl c_15
                refine lv_iinc (v := nI (k + 1)) (lv' := [(5, .int (nI (k + 1))), (7, .int (cy (40 * g + k))), (6, .int (cx (40 * g + k))), (0, .ref k0), (1, .int (nI f)), (2, .int (nI g)), (3, .int 1), (4, .int (nI b))]) hx hb dX11_isLawfulTo_185 hl (k := 2) rfl (nI_add k 1) (Nat.le_of_ble_eq_true rfl) rfl (fun ls hl => ?_)
                refine lv_goto (tgt := 62) hx hb dX11_isLawfulTo_188 rfl ?_
                exact ih_62 (k + 1) z9 S1 T1 P1 Q1 H locs ls (by first | with_reducible assumption | omega) (by first | with_reducible assumption | omega) (by intro j hj; rcases Nat.lt_or_ge j k with h | h; exact hall j h; obtain rfl : j = k := (by first | with_reducible assumption | omega); exact ⟨fun h5 => (by first | (exfalso; omega) | exact zp_ieq.mp (by first | with_reducible assumption | assumption)), fun h0 => (by first | (exfalso; omega) | exact id | assumption)⟩) hP hD hS (lv_sub hl [0, 3, 4, 5, 6, 7] rfl)
              · have c_15 : ¬ (kd f).toInt = 0 := zc_ne rfl rfl c_15
                refine lv_iload_n hx hb dX11_isLawfulTo_144 rfl (lv_at hl 6 rfl) ?_
                refine lv_iconst (v := 5) hx hb dX11_isLawfulTo_145 rfl ?_
                refine lv_icmp_eq (tgt := 185) hx hb dX11_isLawfulTo_146 rfl (fun c_16 => ?_) (fun c_16 => ?_)
                · exact absurd c_16 (by decide)
                · refine lv_iload hx hb dX11_isLawfulTo_149 (lv_at hl 7 rfl) ?_
                  refine lv_iconst (v := (-1)) hx hb dX11_isLawfulTo_151 rfl ?_
                  have b9_18 : zlt (b) := show b < 2147483648 by omega
                  refine lv_icmp_eq (tgt := 171) hx hb dX11_isLawfulTo_152 rfl (fun c_17 => ?_) (fun c_17 => ?_)
                  · have c_17 : ((b : Nat) : Int) = (-1) := zc_eq (nI_toInt b9_18) rfl c_17
                    exfalso; omega
                  · have c_17 : ¬ ((b : Nat) : Int) = (-1) := zc_ne (nI_toInt b9_18) rfl c_17
                    refine lv_aload_n hx hb dX11_isLawfulTo_155 rfl (lv_at hl 3 rfl) ?_
                    refine lv_iload hx hb dX11_isLawfulTo_156 (lv_at hl 7 rfl) ?_
                    refine lv_iload hx hb dX11_isLawfulTo_158 (lv_at hl 1 rfl) ?_
                    refine lv_iload hx hb dX11_isLawfulTo_160 (lv_at hl 0 rfl) ?_
                    obtain ⟨hPc, hDc, hFc⟩ := zo_sub (wc := [_, _, _, _]) hP hD hS hA [0, 6, 9, 10] (by decide +kernel) rfl
                    refine zcall (st1 := [.int (pI (swB on ox oy b (cx (40 * g + k)).toInt (cy (40 * g + k)).toInt))]) (va_runV (As := [.int (nI b), .int (cx (40 * g + k)), .int (cy (40 * g + k))]) (rest := []) ⟨hx, hb, hml, hown, hts⟩ (k_M_isSweptBy l dC dI cI cZ cF H.size k0 a (upd I0 31 z9) J0 b on (cx (40 * g + k)) (cy (40 * g + k)) T1 ox oy (hon) (by first | with_reducible assumption | omega) (by first | with_reducible assumption | omega) (by first | with_reducible assumption | assumption) ((hp_g k hk9).1) ((hp_g k hk9).2)) (csV_182 hts rfl rfl ⟨Nat.le_of_ble_eq_true rfl, Nat.le_of_ble_eq_true rfl⟩) (zPV2 (q0 := 0) (ci := 9) hPc hDc hK hXN rfl rfl) rfl rfl hl.1 rfl (lv_room (Nat.le_of_ble_eq_true rfl)) dX11_isLawfulTo_162 ⟨Nat.le_of_ble_eq_true rfl, Nat.le_of_ble_eq_true rfl⟩) hS hFc hFc rfl (fun t H locs ht hB hk1 hS => ?_)
                    obtain ⟨q_19, hP1, hD1⟩ := hB
                    rw [ht] at hP1
                    obtain ⟨hP, hD⟩ := zn (W2 := [_, _, _, _, _, _, (oa (a 40) cI 6 q_19), _, _, _, _, _, _, _]) hP hD hk1 hFc hP1 hD1 [0, 6, 9, 10] zl_150 zl_150 [0, 6, 9, 10] (by decide +kernel) rfl rfl rfl rfl rfl
                    clear hk1 hPc hDc hFc hP1 hD1 ht
                    refine zz_i (v := pI ((fun k => swB on ox oy b (cF40 cx g k).toInt (cF40 cy g k).toInt) k)) (rfl) ?_
                    refine lv_if_eq (tgt := 185) hx hb dX11_isLawfulTo_165 rfl (fun c_20 => ?_) (fun c_20 => ?_)
                    · have c_20 : ¬ ((fun k => swB on ox oy b (cF40 cx g k).toInt (cF40 cy g k).toInt) k) := zp_0 c_20
                      refine lv_iinc (v := nI (k + 1)) (lv' := [(5, .int (nI (k + 1))), (7, .int (cy (40 * g + k))), (6, .int (cx (40 * g + k))), (0, .ref k0), (1, .int (nI f)), (2, .int (nI g)), (3, .int 1), (4, .int (nI b))]) hx hb dX11_isLawfulTo_185 hl (k := 2) rfl (nI_add k 1) (Nat.le_of_ble_eq_true rfl) rfl (fun ls hl => ?_)
                      refine lv_goto (tgt := 62) hx hb dX11_isLawfulTo_188 rfl ?_
                      exact ih_62 (k + 1) z9 S1 q_19 P1 Q1 H locs ls (by first | with_reducible assumption | omega) (by first | with_reducible assumption | omega) (by intro j hj; rcases Nat.lt_or_ge j k with h | h; exact hall j h; obtain rfl : j = k := (by first | with_reducible assumption | omega); exact ⟨fun h5 => (by first | (exfalso; omega) | exact zp_ieq.mp (by first | with_reducible assumption | assumption)), fun h0 => (by first | (exfalso; omega) | exact id | assumption)⟩) hP hD hS (lv_sub hl [0, 3, 4, 5, 6, 7] rfl)
                    · have c_20 : (fun k => swB on ox oy b (cF40 cx g k).toInt (cF40 cy g k).toInt) k := zp_1 c_20
                      refine lv_goto (tgt := 183) hx hb dX11_isLawfulTo_168 rfl ?_
                      refine lv_iconst (v := 0) hx hb dX11_isLawfulTo_183 rfl ?_
                      obtain ⟨hP9, hD9⟩ := zu_sub (wc := [_, _, _, _, _, _, _, _, _, _, _, _, _, _]) hP hD [true, true, true, true, true, true, true, true, true, true, true, true, true, true] rfl rfl
                      rw [hQ9]
                      exact W.zret (ty := .boolean) (v := 0) hx hb hr (rfl) (fun t ht hW => ⟨⟨congrArg (fun z => Outcome.returned (some (Value.int z))) (show (0 : Int32) = pI (lawTo (ox 0) (oy 0) (kd f).toInt n (cF40 cx f) (cF40 cy f) (kd g).toInt m2 (cF40 cx g) (cF40 cy g) MT WI IN (fun k => swB on ox oy b (cF40 cx g k).toInt (cF40 cy g k).toInt)) from (zp_f (fun h => (h.2.2.1 k (by omega)).2 (by omega) (by first | with_reducible assumption | assumption))).symm), z9, S1, q_19, P1, Q1, by rw [ht]; exact hP9, hD9⟩, hS.F ht⟩) hS.2.2 dX11_isLawfulTo_184
            · have c_13 : 5 ≤ (kd f).toInt := zp_1 c_13
              refine lv_aload_n hx hb dX11_isLawfulTo_109 rfl (lv_at hl 3 rfl) ?_
              refine lv_iload_n hx hb dX11_isLawfulTo_110 rfl (lv_at hl 4 rfl) ?_
              refine lv_iload hx hb dX11_isLawfulTo_111 (lv_at hl 1 rfl) ?_
              refine lv_iload hx hb dX11_isLawfulTo_113 (lv_at hl 0 rfl) ?_
              obtain ⟨hPc, hDc, hFc⟩ := zo_sub (wc := [_, _, _, _, _, _]) hP hD hS hA [0, 1, 2, 3, 4, 5] (by decide +kernel) rfl
              refine zcall (st1 := [.int (pI (¬ (∃ i, i < eO (kd f).toInt n ∧ eOn n (cF40 cx f) (cF40 cy f) i (cx (40 * g + k)).toInt (cy (40 * g + k)).toInt) ∧ par2 (eTg n (cF40 cx f) (cF40 cy f) (cx (40 * g + k)).toInt (cy (40 * g + k)).toInt) (eO (kd f).toInt n)))]) (va_runV (As := [.int (nI f), .int (cx (40 * g + k)), .int (cy (40 * g + k))]) (rest := []) ⟨hx, hb, hml, hown, hts⟩ (k_M_isInside l dC dI cI cZ cF H.size k0 a (upd I0 31 z9) J0 f n kd mn cx cy S1 (cx (40 * g + k)) (cy (40 * g + k)) (by first | with_reducible assumption | omega) (by first | with_reducible assumption | assumption) (by first | with_reducible assumption | omega) (by first | with_reducible assumption | assumption) ((hp_g k hk9).1) ((hp_g k hk9).2)) (csV_183 hts rfl rfl ⟨Nat.le_of_ble_eq_true rfl, Nat.le_of_ble_eq_true rfl⟩) (zPV2 (q0 := 0) (ci := 9) hPc hDc hK hXN rfl rfl) rfl rfl hl.1 rfl (lv_room (Nat.le_of_ble_eq_true rfl)) dX11_isLawfulTo_115 ⟨Nat.le_of_ble_eq_true rfl, Nat.le_of_ble_eq_true rfl⟩) hS hFc hFc rfl (fun t H locs ht hB hk1 hS => ?_)
              obtain ⟨q_21, hP1, hD1⟩ := hB
              rw [ht] at hP1
              obtain ⟨hP, hD⟩ := zn (W2 := [_, _, _, _, _, (oa (a 32) cI 8 q_21), _, _, _, _, _, _, _, _]) hP hD hk1 hFc hP1 hD1 [0, 1, 2, 3, 4, 5] zl_147 zl_147 [0, 1, 2, 3, 4, 5] (by decide +kernel) rfl rfl rfl rfl rfl
              clear hk1 hPc hDc hFc hP1 hD1 ht
              refine zz_i (v := pI (inF (kd f).toInt n (cF40 cx f) (cF40 cy f) (cF40 cx g k).toInt (cF40 cy g k).toInt)) (rfl) ?_
              refine lv_aload_n hx hb dX11_isLawfulTo_118 rfl (lv_at hl 3 rfl) ?_
              refine va_get (D := (dC, dI)) (ci := 9) (v := .ref (a 39)) (C := RX11) (T := TX11) (N := 55) hx hb hts inX11 hown hK hP 0 rfl rfl 39 (Nat.le_of_ble_eq_true rfl) (hts _ mw_1198) (fun _ h9 => h9) rfl dX11_isLawfulTo_119 ?_
              refine lv_bipush (v := 40) hx hb dX11_isLawfulTo_122 rfl ?_
              refine lv_iload_n hx hb dX11_isLawfulTo_124 rfl (lv_at hl 5 rfl) ?_
              refine lv_imul hx hb dX11_isLawfulTo_125 ?_
              refine zz_i (v := nI (40 * g)) (pk_mul 40 g) ?_
              refine lv_iload hx hb dX11_isLawfulTo_126 (lv_at hl 2 rfl) ?_
              refine lv_iadd hx hb dX11_isLawfulTo_128 ?_
              refine zz_i (v := nI (40 * g + k)) (nI_add (40 * g) k) ?_
              have b9_22 : 40 * g + k < 8040 := by omega
              refine z_zald hx hb hK hP 13 1 rfl rfl (e := 40 * g + k) rfl b9_22 (Nat.le_of_ble_eq_true rfl) dX11_isLawfulTo_129 ?_
              refine zz_i (v := pI (IN k)) (hin k (by omega) (by omega)) ?_
              refine lv_icmp_eq (tgt := 135) hx hb dX11_isLawfulTo_130 rfl (fun c_23 => ?_) (fun c_23 => ?_)
              · have c_23 : (pI (inF (kd f).toInt n (cF40 cx f) (cF40 cy f) (cF40 cx g k).toInt (cF40 cy g k).toInt)).toInt = (pI (IN k)).toInt := zc_eq rfl rfl c_23
                refine lv_aload_n hx hb dX11_isLawfulTo_135 rfl (lv_at hl 3 rfl) ?_
                refine va_get (D := (dC, dI)) (ci := 9) (v := .ref (a 1)) (C := RX11) (T := TX11) (N := 55) hx hb hts inX11 hown hK hP 0 rfl rfl 1 (Nat.le_of_ble_eq_true rfl) (hts _ mw_1160) (fun _ h9 => h9) rfl dX11_isLawfulTo_136 ?_
                refine lv_iload_n hx hb dX11_isLawfulTo_139 rfl (lv_at hl 4 rfl) ?_
                have b9_24 : f < 201 := by omega
                refine z_iald hx hb hK hP 1 0 rfl rfl (e := f) rfl b9_24 (Nat.le_of_ble_eq_true rfl) dX11_isLawfulTo_140 ?_
                refine lv_if_eq (tgt := 185) hx hb dX11_isLawfulTo_141 rfl (fun c_25 => ?_) (fun c_25 => ?_)
                · have c_25 : (kd f).toInt = 0 := zc_eq rfl rfl c_25
                  refine lv_iinc (v := nI (k + 1)) (lv' := [(5, .int (nI (k + 1))), (7, .int (cy (40 * g + k))), (6, .int (cx (40 * g + k))), (0, .ref k0), (1, .int (nI f)), (2, .int (nI g)), (3, .int 1), (4, .int (nI b))]) hx hb dX11_isLawfulTo_185 hl (k := 2) rfl (nI_add k 1) (Nat.le_of_ble_eq_true rfl) rfl (fun ls hl => ?_)
                  refine lv_goto (tgt := 62) hx hb dX11_isLawfulTo_188 rfl ?_
                  exact ih_62 (k + 1) z9 q_21 T1 P1 Q1 H locs ls (by first | with_reducible assumption | omega) (by first | with_reducible assumption | omega) (by intro j hj; rcases Nat.lt_or_ge j k with h | h; exact hall j h; obtain rfl : j = k := (by first | with_reducible assumption | omega); exact ⟨fun h5 => (by first | (exfalso; omega) | exact zp_ieq.mp (by first | with_reducible assumption | assumption)), fun h0 => (by first | (exfalso; omega) | exact id | assumption)⟩) hP hD hS (lv_sub hl [0, 3, 4, 5, 6, 7] rfl)
                · have c_25 : ¬ (kd f).toInt = 0 := zc_ne rfl rfl c_25
                  refine lv_iload_n hx hb dX11_isLawfulTo_144 rfl (lv_at hl 6 rfl) ?_
                  refine lv_iconst (v := 5) hx hb dX11_isLawfulTo_145 rfl ?_
                  refine lv_icmp_eq (tgt := 185) hx hb dX11_isLawfulTo_146 rfl (fun c_26 => ?_) (fun c_26 => ?_)
                  · exact absurd c_26 (by decide)
                  · refine lv_iload hx hb dX11_isLawfulTo_149 (lv_at hl 7 rfl) ?_
                    refine lv_iconst (v := (-1)) hx hb dX11_isLawfulTo_151 rfl ?_
                    have b9_28 : zlt (b) := show b < 2147483648 by omega
                    refine lv_icmp_eq (tgt := 171) hx hb dX11_isLawfulTo_152 rfl (fun c_27 => ?_) (fun c_27 => ?_)
                    · have c_27 : ((b : Nat) : Int) = (-1) := zc_eq (nI_toInt b9_28) rfl c_27
                      exfalso; omega
                    · have c_27 : ¬ ((b : Nat) : Int) = (-1) := zc_ne (nI_toInt b9_28) rfl c_27
                      refine lv_aload_n hx hb dX11_isLawfulTo_155 rfl (lv_at hl 3 rfl) ?_
                      refine lv_iload hx hb dX11_isLawfulTo_156 (lv_at hl 7 rfl) ?_
                      refine lv_iload hx hb dX11_isLawfulTo_158 (lv_at hl 1 rfl) ?_
                      refine lv_iload hx hb dX11_isLawfulTo_160 (lv_at hl 0 rfl) ?_
                      obtain ⟨hPc, hDc, hFc⟩ := zo_sub (wc := [_, _, _, _]) hP hD hS hA [0, 6, 9, 10] (by decide +kernel) rfl
                      refine zcall (st1 := [.int (pI (swB on ox oy b (cx (40 * g + k)).toInt (cy (40 * g + k)).toInt))]) (va_runV (As := [.int (nI b), .int (cx (40 * g + k)), .int (cy (40 * g + k))]) (rest := []) ⟨hx, hb, hml, hown, hts⟩ (k_M_isSweptBy l dC dI cI cZ cF H.size k0 a (upd I0 31 z9) J0 b on (cx (40 * g + k)) (cy (40 * g + k)) T1 ox oy (hon) (by first | with_reducible assumption | omega) (by first | with_reducible assumption | omega) (by first | with_reducible assumption | assumption) ((hp_g k hk9).1) ((hp_g k hk9).2)) (csV_182 hts rfl rfl ⟨Nat.le_of_ble_eq_true rfl, Nat.le_of_ble_eq_true rfl⟩) (zPV2 (q0 := 0) (ci := 9) hPc hDc hK hXN rfl rfl) rfl rfl hl.1 rfl (lv_room (Nat.le_of_ble_eq_true rfl)) dX11_isLawfulTo_162 ⟨Nat.le_of_ble_eq_true rfl, Nat.le_of_ble_eq_true rfl⟩) hS hFc hFc rfl (fun t H locs ht hB hk1 hS => ?_)
                      obtain ⟨q_29, hP1, hD1⟩ := hB
                      rw [ht] at hP1
                      obtain ⟨hP, hD⟩ := zn (W2 := [_, _, _, _, _, _, (oa (a 40) cI 6 q_29), _, _, _, _, _, _, _]) hP hD hk1 hFc hP1 hD1 [0, 6, 9, 10] zl_150 zl_150 [0, 6, 9, 10] (by decide +kernel) rfl rfl rfl rfl rfl
                      clear hk1 hPc hDc hFc hP1 hD1 ht
                      refine zz_i (v := pI ((fun k => swB on ox oy b (cF40 cx g k).toInt (cF40 cy g k).toInt) k)) (rfl) ?_
                      refine lv_if_eq (tgt := 185) hx hb dX11_isLawfulTo_165 rfl (fun c_30 => ?_) (fun c_30 => ?_)
                      · have c_30 : ¬ ((fun k => swB on ox oy b (cF40 cx g k).toInt (cF40 cy g k).toInt) k) := zp_0 c_30
                        refine lv_iinc (v := nI (k + 1)) (lv' := [(5, .int (nI (k + 1))), (7, .int (cy (40 * g + k))), (6, .int (cx (40 * g + k))), (0, .ref k0), (1, .int (nI f)), (2, .int (nI g)), (3, .int 1), (4, .int (nI b))]) hx hb dX11_isLawfulTo_185 hl (k := 2) rfl (nI_add k 1) (Nat.le_of_ble_eq_true rfl) rfl (fun ls hl => ?_)
                        refine lv_goto (tgt := 62) hx hb dX11_isLawfulTo_188 rfl ?_
                        exact ih_62 (k + 1) z9 q_21 q_29 P1 Q1 H locs ls (by first | with_reducible assumption | omega) (by first | with_reducible assumption | omega) (by intro j hj; rcases Nat.lt_or_ge j k with h | h; exact hall j h; obtain rfl : j = k := (by first | with_reducible assumption | omega); exact ⟨fun h5 => (by first | (exfalso; omega) | exact zp_ieq.mp (by first | with_reducible assumption | assumption)), fun h0 => (by first | (exfalso; omega) | exact id | assumption)⟩) hP hD hS (lv_sub hl [0, 3, 4, 5, 6, 7] rfl)
                      · have c_30 : (fun k => swB on ox oy b (cF40 cx g k).toInt (cF40 cy g k).toInt) k := zp_1 c_30
                        refine lv_goto (tgt := 183) hx hb dX11_isLawfulTo_168 rfl ?_
                        refine lv_iconst (v := 0) hx hb dX11_isLawfulTo_183 rfl ?_
                        obtain ⟨hP9, hD9⟩ := zu_sub (wc := [_, _, _, _, _, _, _, _, _, _, _, _, _, _]) hP hD [true, true, true, true, true, true, true, true, true, true, true, true, true, true] rfl rfl
                        rw [hQ9]
                        exact W.zret (ty := .boolean) (v := 0) hx hb hr (rfl) (fun t ht hW => ⟨⟨congrArg (fun z => Outcome.returned (some (Value.int z))) (show (0 : Int32) = pI (lawTo (ox 0) (oy 0) (kd f).toInt n (cF40 cx f) (cF40 cy f) (kd g).toInt m2 (cF40 cx g) (cF40 cy g) MT WI IN (fun k => swB on ox oy b (cF40 cx g k).toInt (cF40 cy g k).toInt)) from (zp_f (fun h => (h.2.2.1 k (by omega)).2 (by omega) (by first | with_reducible assumption | assumption))).symm), z9, q_21, q_29, P1, Q1, by rw [ht]; exact hP9, hD9⟩, hS.F ht⟩) hS.2.2 dX11_isLawfulTo_184
              · have c_23 : ¬ (pI (inF (kd f).toInt n (cF40 cx f) (cF40 cy f) (cF40 cx g k).toInt (cF40 cy g k).toInt)).toInt = (pI (IN k)).toInt := zc_ne rfl rfl c_23
                refine lv_iconst (v := 0) hx hb dX11_isLawfulTo_133 rfl ?_
                obtain ⟨hP9, hD9⟩ := zu_sub (wc := [_, _, _, _, _, _, _, _, _, _, _, _, _, _]) hP hD [true, true, true, true, true, true, true, true, true, true, true, true, true, true] rfl rfl
                rw [hQ9]
                exact W.zret (ty := .boolean) (v := 0) hx hb hr (rfl) (fun t ht hW => ⟨⟨congrArg (fun z => Outcome.returned (some (Value.int z))) (show (0 : Int32) = pI (lawTo (ox 0) (oy 0) (kd f).toInt n (cF40 cx f) (cF40 cy f) (kd g).toInt m2 (cF40 cx g) (cF40 cy g) MT WI IN (fun k => swB on ox oy b (cF40 cx g k).toInt (cF40 cy g k).toInt)) from (zp_f (fun h => absurd (zp_ieq.mpr ((h.2.2.1 k (by omega)).1 (by omega))) (by first | with_reducible assumption | assumption))).symm), z9, q_21, T1, P1, Q1, by rw [ht]; exact hP9, hD9⟩, hS.F ht⟩) hS.2.2 dX11_isLawfulTo_134
      exact hl_62 _ 0 (I0 31) q_1 T0 P0 Q0 H locs ls (Nat.lt_succ_self _) (by first | with_reducible assumption | omega) (by intro j hj; omega) hP hD hS (lv_sub hl [0, 1, 2, 3, 4, 5] rfl)
    · have c_4 : 5 ≤ (kd g).toInt := zp_1 c_4
      refine lv_aload_n hx hb dX11_isLawfulTo_25 rfl (lv_at hl 0 rfl) ?_
      refine lv_iload_n hx hb dX11_isLawfulTo_26 rfl (lv_at hl 2 rfl) ?_
      refine lv_aload_n hx hb dX11_isLawfulTo_27 rfl (lv_at hl 0 rfl) ?_
      refine va_get (D := (dC, dI)) (ci := 9) (v := .ref (a 12)) (C := RX11) (T := TX11) (N := 55) hx hb hts inX11 hown hK hP 0 rfl rfl 12 (Nat.le_of_ble_eq_true rfl) (hts _ mw_1171) (fun _ h9 => h9) rfl dX11_isLawfulTo_28 ?_
      refine lv_bipush (v := 40) hx hb dX11_isLawfulTo_31 rfl ?_
      refine lv_iload_n hx hb dX11_isLawfulTo_33 rfl (lv_at hl 1 rfl) ?_
      refine lv_imul hx hb dX11_isLawfulTo_34 ?_
      refine zz_i (v := nI (40 * f)) (pk_mul 40 f) ?_
      have b9_31 : 40 * f < 8040 := by omega
      refine z_iald hx hb hK hP 3 0 rfl rfl (e := 40 * f) rfl b9_31 (Nat.le_of_ble_eq_true rfl) dX11_isLawfulTo_35 ?_
      refine lv_aload_n hx hb dX11_isLawfulTo_36 rfl (lv_at hl 0 rfl) ?_
      refine va_get (D := (dC, dI)) (ci := 9) (v := .ref (a 13)) (C := RX11) (T := TX11) (N := 55) hx hb hts inX11 hown hK hP 0 rfl rfl 13 (Nat.le_of_ble_eq_true rfl) (hts _ mw_1172) (fun _ h9 => h9) rfl dX11_isLawfulTo_37 ?_
      refine lv_bipush (v := 40) hx hb dX11_isLawfulTo_40 rfl ?_
      refine lv_iload_n hx hb dX11_isLawfulTo_42 rfl (lv_at hl 1 rfl) ?_
      refine lv_imul hx hb dX11_isLawfulTo_43 ?_
      refine zz_i (v := nI (40 * f)) (pk_mul 40 f) ?_
      refine z_iald hx hb hK hP 4 0 rfl rfl (e := 40 * f) rfl b9_31 (Nat.le_of_ble_eq_true rfl) dX11_isLawfulTo_44 ?_
      obtain ⟨hPc, hDc, hFc⟩ := zo_sub (wc := [_, _, _, _, _, _]) hP hD hS hA [0, 1, 2, 3, 4, 5] (by decide +kernel) rfl
      refine zcall (st1 := [.int (pI (¬ (∃ i, i < eO (kd g).toInt m2 ∧ eOn m2 (cF40 cx g) (cF40 cy g) i (cx (40 * f)).toInt (cy (40 * f)).toInt) ∧ par2 (eTg m2 (cF40 cx g) (cF40 cy g) (cx (40 * f)).toInt (cy (40 * f)).toInt) (eO (kd g).toInt m2)))]) (va_runV (As := [.int (nI g), .int (cx (40 * f)), .int (cy (40 * f))]) (rest := []) ⟨hx, hb, hml, hown, hts⟩ (k_M_isInside l dC dI cI cZ cF H.size k0 a I0 J0 g m2 kd mn cx cy q_1 (cx (40 * f)) (cy (40 * f)) (by first | with_reducible assumption | omega) (by first | with_reducible assumption | assumption) (by first | with_reducible assumption | omega) (by first | with_reducible assumption | assumption) ((hp_f 0 (by first | with_reducible assumption | omega)).1) ((hp_f 0 (by first | with_reducible assumption | omega)).2)) (csV_183 hts rfl rfl ⟨Nat.le_of_ble_eq_true rfl, Nat.le_of_ble_eq_true rfl⟩) (zPV2 (q0 := 0) (ci := 9) hPc hDc hK hXN rfl rfl) rfl rfl hl.1 rfl (lv_room (Nat.le_of_ble_eq_true rfl)) dX11_isLawfulTo_45 ⟨Nat.le_of_ble_eq_true rfl, Nat.le_of_ble_eq_true rfl⟩) hS hFc hFc rfl (fun t H locs ht hB hk1 hS => ?_)
      obtain ⟨q_32, hP1, hD1⟩ := hB
      rw [ht] at hP1
      obtain ⟨hP, hD⟩ := zn (W2 := [_, _, _, _, _, (oa (a 32) cI 8 q_32), _, _, _, _, _, _, _, _]) hP hD hk1 hFc hP1 hD1 [0, 1, 2, 3, 4, 5] zl_147 zl_147 [0, 1, 2, 3, 4, 5] (by decide +kernel) rfl rfl rfl rfl rfl
      clear hk1 hPc hDc hFc hP1 hD1 ht
      refine zz_i (v := pI (inF (kd g).toInt m2 (cF40 cx g) (cF40 cy g) (cF40 cx f 0).toInt (cF40 cy f 0).toInt)) (rfl) ?_
      refine lv_aload_n hx hb dX11_isLawfulTo_48 rfl (lv_at hl 0 rfl) ?_
      refine va_get (D := (dC, dI)) (ci := 9) (v := .ref (a 38)) (C := RX11) (T := TX11) (N := 55) hx hb hts inX11 hown hK hP 0 rfl rfl 38 (Nat.le_of_ble_eq_true rfl) (hts _ mw_1197) (fun _ h9 => h9) rfl dX11_isLawfulTo_49 ?_
      refine lv_iload_n hx hb dX11_isLawfulTo_52 rfl (lv_at hl 2 rfl) ?_
      refine z_zald hx hb hK hP 12 1 rfl rfl (e := g) rfl b9_2 (Nat.le_of_ble_eq_true rfl) dX11_isLawfulTo_53 ?_
      refine zz_i (v := pI WI) (hwi (by omega)) ?_
      refine lv_icmp_eq (tgt := 59) hx hb dX11_isLawfulTo_54 rfl (fun c_33 => ?_) (fun c_33 => ?_)
      · have c_33 : (pI (inF (kd g).toInt m2 (cF40 cx g) (cF40 cy g) (cF40 cx f 0).toInt (cF40 cy f 0).toInt)).toInt = (pI WI).toInt := zc_eq rfl rfl c_33
        refine lv_iconst (v := 0) hx hb dX11_isLawfulTo_59 rfl ?_
        refine lv_istore (lv' := [(5, .int 0), (0, .ref k0), (1, .int (nI f)), (2, .int (nI g)), (3, .int 1), (4, .int (nI b))]) hx hb dX11_isLawfulTo_60 hl (Nat.le_of_ble_eq_true rfl) rfl (fun ls hl => ?_)
        have hl_62 : ∀ (n9 : Nat) (k : Nat) (z9 : Int32) (S1 : Nat → Int32) (T1 : Nat → Int32) (P1 : Nat → Int32) (Q1 : Nat → Int32) (H : Heap) (locs : List Loc) (ls : Array Slot), m2 - k < n9 → (k ≤ m2) → (∀ j, j < k → (5 ≤ (kd f).toInt → (inF (kd f).toInt n (cF40 cx f) (cF40 cy f) (cF40 cx g j).toInt (cF40 cy g j).toInt ↔ IN j)) ∧ (¬ (kd f).toInt = 0 → ¬ (fun k => swB on ox oy b (cF40 cx g k).toInt (cF40 cy g k).toInt) j)) → va_P (dC, dI) classes [(om k0 a (upd I0 31 z9) J0), (oa (a 1) cI 201 kd), (oa (a 11) cI 201 mn), (oa (a 12) cI 8040 cx), (oa (a 13) cI 8040 cy), (oa (a 32) cI 8 S1), (oa (a 40) cI 6 T1), (oa (a 29) cI 42 P1), (oa (a 30) cI 42 Q1), (oa (a 33) cI 42 ox), (oa (a 34) cI 42 oy), (oa (a 37) cZ 201 mt), (oa (a 38) cZ 201 wi), (oa (a 39) cZ 8040 ins)] H → va_D A [(om k0 a (upd I0 31 z9) J0), (oa (a 1) cI 201 kd), (oa (a 11) cI 201 mn), (oa (a 12) cI 8040 cx), (oa (a 13) cI 8040 cy), (oa (a 32) cI 8 S1), (oa (a 40) cI 6 T1), (oa (a 29) cI 42 P1), (oa (a 30) cI 42 Q1), (oa (a 33) cI 42 ox), (oa (a 34) cI 42 oy), (oa (a 37) cZ 201 mt), (oa (a 38) cZ 201 wi), (oa (a 39) cZ 8040 ins)] → va_S A s.heap H locs → lv_has ls 8 [(5, .int (nI k)), (0, .ref k0), (1, .int (nI f)), (2, .int (nI g)), (3, .int 1), (4, .int (nI b))] → W p l e ({ frames := 4, cells := 0, slots := 0, locals := 108 } : Room) s m ([.ref k0, .int (nI f), .int (nI g), .int 1, .int (nI b)] : List Value).toArray below meth c H locs 0 0 Q9 (F0 m 62 ls []) := by
          intro n9
          induction n9 with
          | zero => intro k z9 S1 T1 P1 Q1 H locs ls hm; exact absurd hm (Nat.not_lt_zero _)
          | succ n9 ih_62 =>
            intro k z9 S1 T1 P1 Q1 H locs ls hm hk hall hP hD hS hl
            refine lv_iload hx hb dX11_isLawfulTo_62 (lv_at hl 0 rfl) ?_
            refine lv_aload_n hx hb dX11_isLawfulTo_64 rfl (lv_at hl 1 rfl) ?_
            refine va_get (D := (dC, dI)) (ci := 9) (v := .ref (a 11)) (C := RX11) (T := TX11) (N := 55) hx hb hts inX11 hown hK hP 0 rfl rfl 11 (Nat.le_of_ble_eq_true rfl) (hts _ mw_1170) (fun _ h9 => h9) rfl dX11_isLawfulTo_65 ?_
            refine lv_iload_n hx hb dX11_isLawfulTo_68 rfl (lv_at hl 3 rfl) ?_
            refine z_iald hx hb hK hP 2 0 rfl rfl (e := g) rfl b9_2 (Nat.le_of_ble_eq_true rfl) dX11_isLawfulTo_69 ?_
            refine zz_i (v := nI m2) (hm_g) ?_
            have b9_35 : zlt (k) := show k < 2147483648 by omega
            have b9_36 : zlt (m2) := show m2 < 2147483648 by omega
            refine lv_icmp_ge (tgt := 191) hx hb dX11_isLawfulTo_70 rfl (fun c_34 => ?_) (fun c_34 => ?_)
            · have c_34 : ((m2 : Nat) : Int) ≤ ((k : Nat) : Int) := zc_le (nI_toInt b9_36) (nI_toInt b9_35) c_34
              refine lv_aload_n hx hb dX11_isLawfulTo_191 rfl (lv_at hl 1 rfl) ?_
              refine va_get (D := (dC, dI)) (ci := 9) (v := .ref (a 1)) (C := RX11) (T := TX11) (N := 55) hx hb hts inX11 hown hK hP 0 rfl rfl 1 (Nat.le_of_ble_eq_true rfl) (hts _ mw_1160) (fun _ h9 => h9) rfl dX11_isLawfulTo_192 ?_
              refine lv_iload_n hx hb dX11_isLawfulTo_195 rfl (lv_at hl 2 rfl) ?_
              have b9_37 : f < 201 := by omega
              refine z_iald hx hb hK hP 1 0 rfl rfl (e := f) rfl b9_37 (Nat.le_of_ble_eq_true rfl) dX11_isLawfulTo_196 ?_
              refine lv_if_ne (tgt := 209) hx hb dX11_isLawfulTo_197 rfl (fun c_38 => ?_) (fun c_38 => ?_)
              · have c_38 : ¬ (kd f).toInt = 0 := zc_ne rfl rfl c_38
                refine lv_iconst (v := 1) hx hb dX11_isLawfulTo_209 rfl ?_
                refine lv_goto (tgt := 214) hx hb dX11_isLawfulTo_210 rfl ?_
                obtain ⟨hP9, hD9⟩ := zu_sub (wc := [_, _, _, _, _, _, _, _, _, _, _, _, _, _]) hP hD [true, true, true, true, true, true, true, true, true, true, true, true, true, true] rfl rfl
                rw [hQ9]
                exact W.zret (ty := .boolean) (v := 1) hx hb hr (rfl) (fun t ht hW => ⟨⟨congrArg (fun z => Outcome.returned (some (Value.int z))) (show (1 : Int32) = pI (lawTo (ox 0) (oy 0) (kd f).toInt n (cF40 cx f) (cF40 cy f) (kd g).toInt m2 (cF40 cx g) (cF40 cy g) MT WI IN (fun k => swB on ox oy b (cF40 cx g k).toInt (cF40 cy g k).toInt)) from (zp_t (by first | exact ⟨zp_ieq.mp (by first | with_reducible assumption | assumption), fun h => (by first | (exfalso; omega) | exact zp_ieq.mp (by first | with_reducible assumption | assumption)), fun j hj => hall j (by omega), fun h => (by first | (exfalso; omega) | assumption)⟩ | exact fun h => absurd (h.2.2.2 (by omega)) (by first | with_reducible assumption | assumption))).symm), z9, S1, T1, P1, Q1, by rw [ht]; exact hP9, hD9⟩, hS.F ht⟩) hS.2.2 dX11_isLawfulTo_214
              · have c_38 : (kd f).toInt = 0 := zc_eq rfl rfl c_38
                refine lv_aload_n hx hb dX11_isLawfulTo_200 rfl (lv_at hl 1 rfl) ?_
                refine lv_iload_n hx hb dX11_isLawfulTo_201 rfl (lv_at hl 2 rfl) ?_
                refine lv_iload_n hx hb dX11_isLawfulTo_202 rfl (lv_at hl 3 rfl) ?_
                obtain ⟨hPc, hDc, hFc⟩ := zo_sub (wc := [_, _, _, _, _, _, _, _]) hP hD hS hA [0, 1, 2, 3, 4, 5, 9, 10] (by decide +kernel) rfl
                refine zcall (st1 := [.int (pI (∀ k, k < eO (kd g).toInt m2 → fWy (ox 0).toInt (oy 0).toInt (cx (40 * f)).toInt (cy (40 * f)).toInt m2 (cF40 cx g) (cF40 cy g) k))]) (va_runV (As := [.int (nI f), .int (nI g)]) (rest := []) ⟨hx, hb, hml, hown, hts⟩ (k_M_isFreeWay l dC dI cI cZ cF H.size k0 a (upd I0 31 z9) J0 f g m2 kd mn cx cy S1 ox oy (by first | with_reducible assumption | omega) ((hpo 0 (by first | with_reducible assumption | omega)).1) ((hpo 0 (by first | with_reducible assumption | omega)).2) ((hp_f 0 (by first | with_reducible assumption | omega)).1) ((hp_f 0 (by first | with_reducible assumption | omega)).2) (by first | with_reducible assumption | omega) (by first | with_reducible assumption | assumption) (by first | with_reducible assumption | omega) (by first | with_reducible assumption | assumption)) (csV_181 hts rfl rfl ⟨Nat.le_of_ble_eq_true rfl, Nat.le_of_ble_eq_true rfl⟩) (zPV2 (q0 := 0) (ci := 9) hPc hDc hK hXN rfl rfl) rfl rfl hl.1 rfl (lv_room (Nat.le_of_ble_eq_true rfl)) dX11_isLawfulTo_203 ⟨Nat.le_of_ble_eq_true rfl, Nat.le_of_ble_eq_true rfl⟩) hS hFc hFc rfl (fun t H locs ht hB hk1 hS => ?_)
                obtain ⟨q_39, hP1, hD1⟩ := hB
                rw [ht] at hP1
                obtain ⟨hP, hD⟩ := zn (W2 := [_, _, _, _, _, (oa (a 32) cI 8 q_39), _, _, _, _, _, _, _, _]) hP hD hk1 hFc hP1 hD1 zl_148 zl_149 zl_149 zl_148 (by decide +kernel) rfl rfl rfl rfl rfl
                clear hk1 hPc hDc hFc hP1 hD1 ht
                refine zz_i (v := pI (∀ k, k < eO (kd g).toInt m2 → fWy (ox 0).toInt (oy 0).toInt (cF40 cx f 0).toInt (cF40 cy f 0).toInt m2 (cF40 cx g) (cF40 cy g) k)) (rfl) ?_
                refine lv_if_eq (tgt := 213) hx hb dX11_isLawfulTo_206 rfl (fun c_40 => ?_) (fun c_40 => ?_)
                · have c_40 : ¬ (∀ k, k < eO (kd g).toInt m2 → fWy (ox 0).toInt (oy 0).toInt (cF40 cx f 0).toInt (cF40 cy f 0).toInt m2 (cF40 cx g) (cF40 cy g) k) := zp_0 c_40
                  refine lv_iconst (v := 0) hx hb dX11_isLawfulTo_213 rfl ?_
                  obtain ⟨hP9, hD9⟩ := zu_sub (wc := [_, _, _, _, _, _, _, _, _, _, _, _, _, _]) hP hD [true, true, true, true, true, true, true, true, true, true, true, true, true, true] rfl rfl
                  rw [hQ9]
                  exact W.zret (ty := .boolean) (v := 0) hx hb hr (rfl) (fun t ht hW => ⟨⟨congrArg (fun z => Outcome.returned (some (Value.int z))) (show (0 : Int32) = pI (lawTo (ox 0) (oy 0) (kd f).toInt n (cF40 cx f) (cF40 cy f) (kd g).toInt m2 (cF40 cx g) (cF40 cy g) MT WI IN (fun k => swB on ox oy b (cF40 cx g k).toInt (cF40 cy g k).toInt)) from (zp_f (by first | exact ⟨zp_ieq.mp (by first | with_reducible assumption | assumption), fun h => (by first | (exfalso; omega) | exact zp_ieq.mp (by first | with_reducible assumption | assumption)), fun j hj => hall j (by omega), fun h => (by first | (exfalso; omega) | assumption)⟩ | exact fun h => absurd (h.2.2.2 (by omega)) (by first | with_reducible assumption | assumption))).symm), z9, q_39, T1, P1, Q1, by rw [ht]; exact hP9, hD9⟩, hS.F ht⟩) hS.2.2 dX11_isLawfulTo_214
                · have c_40 : ∀ k, k < eO (kd g).toInt m2 → fWy (ox 0).toInt (oy 0).toInt (cF40 cx f 0).toInt (cF40 cy f 0).toInt m2 (cF40 cx g) (cF40 cy g) k := zp_1 c_40
                  refine lv_iconst (v := 1) hx hb dX11_isLawfulTo_209 rfl ?_
                  refine lv_goto (tgt := 214) hx hb dX11_isLawfulTo_210 rfl ?_
                  obtain ⟨hP9, hD9⟩ := zu_sub (wc := [_, _, _, _, _, _, _, _, _, _, _, _, _, _]) hP hD [true, true, true, true, true, true, true, true, true, true, true, true, true, true] rfl rfl
                  rw [hQ9]
                  exact W.zret (ty := .boolean) (v := 1) hx hb hr (rfl) (fun t ht hW => ⟨⟨congrArg (fun z => Outcome.returned (some (Value.int z))) (show (1 : Int32) = pI (lawTo (ox 0) (oy 0) (kd f).toInt n (cF40 cx f) (cF40 cy f) (kd g).toInt m2 (cF40 cx g) (cF40 cy g) MT WI IN (fun k => swB on ox oy b (cF40 cx g k).toInt (cF40 cy g k).toInt)) from (zp_t (by first | exact ⟨zp_ieq.mp (by first | with_reducible assumption | assumption), fun h => (by first | (exfalso; omega) | exact zp_ieq.mp (by first | with_reducible assumption | assumption)), fun j hj => hall j (by omega), fun h => (by first | (exfalso; omega) | assumption)⟩ | exact fun h => absurd (h.2.2.2 (by omega)) (by first | with_reducible assumption | assumption))).symm), z9, q_39, T1, P1, Q1, by rw [ht]; exact hP9, hD9⟩, hS.F ht⟩) hS.2.2 dX11_isLawfulTo_214
            · have c_34 : ((k : Nat) : Int) < ((m2 : Nat) : Int) := zc_nle (nI_toInt b9_36) (nI_toInt b9_35) c_34
              have hk9 : k < m2 := (by omega)
              refine lv_aload_n hx hb dX11_isLawfulTo_73 rfl (lv_at hl 1 rfl) ?_
              refine va_get (D := (dC, dI)) (ci := 9) (v := .ref (a 12)) (C := RX11) (T := TX11) (N := 55) hx hb hts inX11 hown hK hP 0 rfl rfl 12 (Nat.le_of_ble_eq_true rfl) (hts _ mw_1171) (fun _ h9 => h9) rfl dX11_isLawfulTo_74 ?_
              refine lv_bipush (v := 40) hx hb dX11_isLawfulTo_77 rfl ?_
              refine lv_iload_n hx hb dX11_isLawfulTo_79 rfl (lv_at hl 3 rfl) ?_
              refine lv_imul hx hb dX11_isLawfulTo_80 ?_
              refine zz_i (v := nI (40 * g)) (pk_mul 40 g) ?_
              refine lv_iload hx hb dX11_isLawfulTo_81 (lv_at hl 0 rfl) ?_
              refine lv_iadd hx hb dX11_isLawfulTo_83 ?_
              refine zz_i (v := nI (40 * g + k)) (nI_add (40 * g) k) ?_
              have b9_41 : 40 * g + k < 8040 := by omega
              refine z_iald hx hb hK hP 3 0 rfl rfl (e := 40 * g + k) rfl b9_41 (Nat.le_of_ble_eq_true rfl) dX11_isLawfulTo_84 ?_
              refine lv_istore (lv' := [(6, .int (cx (40 * g + k))), (5, .int (nI k)), (0, .ref k0), (1, .int (nI f)), (2, .int (nI g)), (3, .int 1), (4, .int (nI b))]) hx hb dX11_isLawfulTo_85 hl (Nat.le_of_ble_eq_true rfl) rfl (fun ls hl => ?_)
              refine lv_aload_n hx hb dX11_isLawfulTo_87 rfl (lv_at hl 2 rfl) ?_
              refine va_get (D := (dC, dI)) (ci := 9) (v := .ref (a 13)) (C := RX11) (T := TX11) (N := 55) hx hb hts inX11 hown hK hP 0 rfl rfl 13 (Nat.le_of_ble_eq_true rfl) (hts _ mw_1172) (fun _ h9 => h9) rfl dX11_isLawfulTo_88 ?_
              refine lv_bipush (v := 40) hx hb dX11_isLawfulTo_91 rfl ?_
              refine lv_iload_n hx hb dX11_isLawfulTo_93 rfl (lv_at hl 4 rfl) ?_
              refine lv_imul hx hb dX11_isLawfulTo_94 ?_
              refine zz_i (v := nI (40 * g)) (pk_mul 40 g) ?_
              refine lv_iload hx hb dX11_isLawfulTo_95 (lv_at hl 1 rfl) ?_
              refine lv_iadd hx hb dX11_isLawfulTo_97 ?_
              refine zz_i (v := nI (40 * g + k)) (nI_add (40 * g) k) ?_
              refine z_iald hx hb hK hP 4 0 rfl rfl (e := 40 * g + k) rfl b9_41 (Nat.le_of_ble_eq_true rfl) dX11_isLawfulTo_98 ?_
              refine lv_istore (lv' := [(7, .int (cy (40 * g + k))), (6, .int (cx (40 * g + k))), (5, .int (nI k)), (0, .ref k0), (1, .int (nI f)), (2, .int (nI g)), (3, .int 1), (4, .int (nI b))]) hx hb dX11_isLawfulTo_99 hl (Nat.le_of_ble_eq_true rfl) rfl (fun ls hl => ?_)
              refine lv_aload_n hx hb dX11_isLawfulTo_101 rfl (lv_at hl 3 rfl) ?_
              refine lv_iload_n hx hb dX11_isLawfulTo_102 rfl (lv_at hl 4 rfl) ?_
              obtain ⟨hPc, hDc, hFc, hI1⟩ := zi_sub (wc := [_, _]) hP hD hS hA [0, 1] rfl rfl
              refine zcall (st1 := [.int (pI (5 ≤ (kd f).toInt))]) (va_runV (As := [.int (nI f)]) (rest := []) ⟨hx, hb, hml, hown, hts⟩ (k_M_isRing l dC dI cI cZ cF H.size k0 a (upd I0 31 z9) J0 f kd (by first | with_reducible assumption | omega)) (csV_165 hts rfl rfl ⟨Nat.le_of_ble_eq_true rfl, Nat.le_of_ble_eq_true rfl⟩) (zPV2 (q0 := 0) (ci := 9) hPc hDc hK hXN rfl rfl) rfl rfl hl.1 rfl (lv_room (Nat.le_of_ble_eq_true rfl)) dX11_isLawfulTo_103 ⟨Nat.le_of_ble_eq_true rfl, Nat.le_of_ble_eq_true rfl⟩) hS hFc hFc rfl (fun t H locs ht hB hk1 hS => ?_)
              obtain ⟨hP1, hD1⟩ := hB
              rw [ht] at hP1
              replace hP := z0 hP hD hk1 hP1 hI1
              clear hk1 hPc hDc hFc hP1 hD1 ht hI1
              refine lv_if_eq (tgt := 135) hx hb dX11_isLawfulTo_106 rfl (fun c_42 => ?_) (fun c_42 => ?_)
              · have c_42 : ¬ (5 ≤ (kd f).toInt) := zp_0 c_42
                refine lv_aload_n hx hb dX11_isLawfulTo_135 rfl (lv_at hl 3 rfl) ?_
                refine va_get (D := (dC, dI)) (ci := 9) (v := .ref (a 1)) (C := RX11) (T := TX11) (N := 55) hx hb hts inX11 hown hK hP 0 rfl rfl 1 (Nat.le_of_ble_eq_true rfl) (hts _ mw_1160) (fun _ h9 => h9) rfl dX11_isLawfulTo_136 ?_
                refine lv_iload_n hx hb dX11_isLawfulTo_139 rfl (lv_at hl 4 rfl) ?_
                have b9_43 : f < 201 := by omega
                refine z_iald hx hb hK hP 1 0 rfl rfl (e := f) rfl b9_43 (Nat.le_of_ble_eq_true rfl) dX11_isLawfulTo_140 ?_
                refine lv_if_eq (tgt := 185) hx hb dX11_isLawfulTo_141 rfl (fun c_44 => ?_) (fun c_44 => ?_)
                · have c_44 : (kd f).toInt = 0 := zc_eq rfl rfl c_44
                  refine lv_iinc (v := nI (k + 1)) (lv' := [(5, .int (nI (k + 1))), (7, .int (cy (40 * g + k))), (6, .int (cx (40 * g + k))), (0, .ref k0), (1, .int (nI f)), (2, .int (nI g)), (3, .int 1), (4, .int (nI b))]) hx hb dX11_isLawfulTo_185 hl (k := 2) rfl (nI_add k 1) (Nat.le_of_ble_eq_true rfl) rfl (fun ls hl => ?_)
                  refine lv_goto (tgt := 62) hx hb dX11_isLawfulTo_188 rfl ?_
                  exact ih_62 (k + 1) z9 S1 T1 P1 Q1 H locs ls (by first | with_reducible assumption | omega) (by first | with_reducible assumption | omega) (by intro j hj; rcases Nat.lt_or_ge j k with h | h; exact hall j h; obtain rfl : j = k := (by first | with_reducible assumption | omega); exact ⟨fun h5 => (by first | (exfalso; omega) | exact zp_ieq.mp (by first | with_reducible assumption | assumption)), fun h0 => (by first | (exfalso; omega) | exact id | assumption)⟩) hP hD hS (lv_sub hl [0, 3, 4, 5, 6, 7] rfl)
                · have c_44 : ¬ (kd f).toInt = 0 := zc_ne rfl rfl c_44
                  refine lv_iload_n hx hb dX11_isLawfulTo_144 rfl (lv_at hl 6 rfl) ?_
                  refine lv_iconst (v := 5) hx hb dX11_isLawfulTo_145 rfl ?_
                  refine lv_icmp_eq (tgt := 185) hx hb dX11_isLawfulTo_146 rfl (fun c_45 => ?_) (fun c_45 => ?_)
                  · exact absurd c_45 (by decide)
                  · refine lv_iload hx hb dX11_isLawfulTo_149 (lv_at hl 7 rfl) ?_
                    refine lv_iconst (v := (-1)) hx hb dX11_isLawfulTo_151 rfl ?_
                    have b9_47 : zlt (b) := show b < 2147483648 by omega
                    refine lv_icmp_eq (tgt := 171) hx hb dX11_isLawfulTo_152 rfl (fun c_46 => ?_) (fun c_46 => ?_)
                    · have c_46 : ((b : Nat) : Int) = (-1) := zc_eq (nI_toInt b9_47) rfl c_46
                      exfalso; omega
                    · have c_46 : ¬ ((b : Nat) : Int) = (-1) := zc_ne (nI_toInt b9_47) rfl c_46
                      refine lv_aload_n hx hb dX11_isLawfulTo_155 rfl (lv_at hl 3 rfl) ?_
                      refine lv_iload hx hb dX11_isLawfulTo_156 (lv_at hl 7 rfl) ?_
                      refine lv_iload hx hb dX11_isLawfulTo_158 (lv_at hl 1 rfl) ?_
                      refine lv_iload hx hb dX11_isLawfulTo_160 (lv_at hl 0 rfl) ?_
                      obtain ⟨hPc, hDc, hFc⟩ := zo_sub (wc := [_, _, _, _]) hP hD hS hA [0, 6, 9, 10] (by decide +kernel) rfl
                      refine zcall (st1 := [.int (pI (swB on ox oy b (cx (40 * g + k)).toInt (cy (40 * g + k)).toInt))]) (va_runV (As := [.int (nI b), .int (cx (40 * g + k)), .int (cy (40 * g + k))]) (rest := []) ⟨hx, hb, hml, hown, hts⟩ (k_M_isSweptBy l dC dI cI cZ cF H.size k0 a (upd I0 31 z9) J0 b on (cx (40 * g + k)) (cy (40 * g + k)) T1 ox oy (hon) (by first | with_reducible assumption | omega) (by first | with_reducible assumption | omega) (by first | with_reducible assumption | assumption) ((hp_g k hk9).1) ((hp_g k hk9).2)) (csV_182 hts rfl rfl ⟨Nat.le_of_ble_eq_true rfl, Nat.le_of_ble_eq_true rfl⟩) (zPV2 (q0 := 0) (ci := 9) hPc hDc hK hXN rfl rfl) rfl rfl hl.1 rfl (lv_room (Nat.le_of_ble_eq_true rfl)) dX11_isLawfulTo_162 ⟨Nat.le_of_ble_eq_true rfl, Nat.le_of_ble_eq_true rfl⟩) hS hFc hFc rfl (fun t H locs ht hB hk1 hS => ?_)
                      obtain ⟨q_48, hP1, hD1⟩ := hB
                      rw [ht] at hP1
                      obtain ⟨hP, hD⟩ := zn (W2 := [_, _, _, _, _, _, (oa (a 40) cI 6 q_48), _, _, _, _, _, _, _]) hP hD hk1 hFc hP1 hD1 [0, 6, 9, 10] zl_150 zl_150 [0, 6, 9, 10] (by decide +kernel) rfl rfl rfl rfl rfl
                      clear hk1 hPc hDc hFc hP1 hD1 ht
                      refine zz_i (v := pI ((fun k => swB on ox oy b (cF40 cx g k).toInt (cF40 cy g k).toInt) k)) (rfl) ?_
                      refine lv_if_eq (tgt := 185) hx hb dX11_isLawfulTo_165 rfl (fun c_49 => ?_) (fun c_49 => ?_)
                      · have c_49 : ¬ ((fun k => swB on ox oy b (cF40 cx g k).toInt (cF40 cy g k).toInt) k) := zp_0 c_49
                        refine lv_iinc (v := nI (k + 1)) (lv' := [(5, .int (nI (k + 1))), (7, .int (cy (40 * g + k))), (6, .int (cx (40 * g + k))), (0, .ref k0), (1, .int (nI f)), (2, .int (nI g)), (3, .int 1), (4, .int (nI b))]) hx hb dX11_isLawfulTo_185 hl (k := 2) rfl (nI_add k 1) (Nat.le_of_ble_eq_true rfl) rfl (fun ls hl => ?_)
                        refine lv_goto (tgt := 62) hx hb dX11_isLawfulTo_188 rfl ?_
                        exact ih_62 (k + 1) z9 S1 q_48 P1 Q1 H locs ls (by first | with_reducible assumption | omega) (by first | with_reducible assumption | omega) (by intro j hj; rcases Nat.lt_or_ge j k with h | h; exact hall j h; obtain rfl : j = k := (by first | with_reducible assumption | omega); exact ⟨fun h5 => (by first | (exfalso; omega) | exact zp_ieq.mp (by first | with_reducible assumption | assumption)), fun h0 => (by first | (exfalso; omega) | exact id | assumption)⟩) hP hD hS (lv_sub hl [0, 3, 4, 5, 6, 7] rfl)
                      · have c_49 : (fun k => swB on ox oy b (cF40 cx g k).toInt (cF40 cy g k).toInt) k := zp_1 c_49
                        refine lv_goto (tgt := 183) hx hb dX11_isLawfulTo_168 rfl ?_
                        refine lv_iconst (v := 0) hx hb dX11_isLawfulTo_183 rfl ?_
                        obtain ⟨hP9, hD9⟩ := zu_sub (wc := [_, _, _, _, _, _, _, _, _, _, _, _, _, _]) hP hD [true, true, true, true, true, true, true, true, true, true, true, true, true, true] rfl rfl
                        rw [hQ9]
                        exact W.zret (ty := .boolean) (v := 0) hx hb hr (rfl) (fun t ht hW => ⟨⟨congrArg (fun z => Outcome.returned (some (Value.int z))) (show (0 : Int32) = pI (lawTo (ox 0) (oy 0) (kd f).toInt n (cF40 cx f) (cF40 cy f) (kd g).toInt m2 (cF40 cx g) (cF40 cy g) MT WI IN (fun k => swB on ox oy b (cF40 cx g k).toInt (cF40 cy g k).toInt)) from (zp_f (fun h => (h.2.2.1 k (by omega)).2 (by omega) (by first | with_reducible assumption | assumption))).symm), z9, S1, q_48, P1, Q1, by rw [ht]; exact hP9, hD9⟩, hS.F ht⟩) hS.2.2 dX11_isLawfulTo_184
              · have c_42 : 5 ≤ (kd f).toInt := zp_1 c_42
                refine lv_aload_n hx hb dX11_isLawfulTo_109 rfl (lv_at hl 3 rfl) ?_
                refine lv_iload_n hx hb dX11_isLawfulTo_110 rfl (lv_at hl 4 rfl) ?_
                refine lv_iload hx hb dX11_isLawfulTo_111 (lv_at hl 1 rfl) ?_
                refine lv_iload hx hb dX11_isLawfulTo_113 (lv_at hl 0 rfl) ?_
                obtain ⟨hPc, hDc, hFc⟩ := zo_sub (wc := [_, _, _, _, _, _]) hP hD hS hA [0, 1, 2, 3, 4, 5] (by decide +kernel) rfl
                refine zcall (st1 := [.int (pI (¬ (∃ i, i < eO (kd f).toInt n ∧ eOn n (cF40 cx f) (cF40 cy f) i (cx (40 * g + k)).toInt (cy (40 * g + k)).toInt) ∧ par2 (eTg n (cF40 cx f) (cF40 cy f) (cx (40 * g + k)).toInt (cy (40 * g + k)).toInt) (eO (kd f).toInt n)))]) (va_runV (As := [.int (nI f), .int (cx (40 * g + k)), .int (cy (40 * g + k))]) (rest := []) ⟨hx, hb, hml, hown, hts⟩ (k_M_isInside l dC dI cI cZ cF H.size k0 a (upd I0 31 z9) J0 f n kd mn cx cy S1 (cx (40 * g + k)) (cy (40 * g + k)) (by first | with_reducible assumption | omega) (by first | with_reducible assumption | assumption) (by first | with_reducible assumption | omega) (by first | with_reducible assumption | assumption) ((hp_g k hk9).1) ((hp_g k hk9).2)) (csV_183 hts rfl rfl ⟨Nat.le_of_ble_eq_true rfl, Nat.le_of_ble_eq_true rfl⟩) (zPV2 (q0 := 0) (ci := 9) hPc hDc hK hXN rfl rfl) rfl rfl hl.1 rfl (lv_room (Nat.le_of_ble_eq_true rfl)) dX11_isLawfulTo_115 ⟨Nat.le_of_ble_eq_true rfl, Nat.le_of_ble_eq_true rfl⟩) hS hFc hFc rfl (fun t H locs ht hB hk1 hS => ?_)
                obtain ⟨q_50, hP1, hD1⟩ := hB
                rw [ht] at hP1
                obtain ⟨hP, hD⟩ := zn (W2 := [_, _, _, _, _, (oa (a 32) cI 8 q_50), _, _, _, _, _, _, _, _]) hP hD hk1 hFc hP1 hD1 [0, 1, 2, 3, 4, 5] zl_147 zl_147 [0, 1, 2, 3, 4, 5] (by decide +kernel) rfl rfl rfl rfl rfl
                clear hk1 hPc hDc hFc hP1 hD1 ht
                refine zz_i (v := pI (inF (kd f).toInt n (cF40 cx f) (cF40 cy f) (cF40 cx g k).toInt (cF40 cy g k).toInt)) (rfl) ?_
                refine lv_aload_n hx hb dX11_isLawfulTo_118 rfl (lv_at hl 3 rfl) ?_
                refine va_get (D := (dC, dI)) (ci := 9) (v := .ref (a 39)) (C := RX11) (T := TX11) (N := 55) hx hb hts inX11 hown hK hP 0 rfl rfl 39 (Nat.le_of_ble_eq_true rfl) (hts _ mw_1198) (fun _ h9 => h9) rfl dX11_isLawfulTo_119 ?_
                refine lv_bipush (v := 40) hx hb dX11_isLawfulTo_122 rfl ?_
                refine lv_iload_n hx hb dX11_isLawfulTo_124 rfl (lv_at hl 5 rfl) ?_
                refine lv_imul hx hb dX11_isLawfulTo_125 ?_
                refine zz_i (v := nI (40 * g)) (pk_mul 40 g) ?_
                refine lv_iload hx hb dX11_isLawfulTo_126 (lv_at hl 2 rfl) ?_
                refine lv_iadd hx hb dX11_isLawfulTo_128 ?_
                refine zz_i (v := nI (40 * g + k)) (nI_add (40 * g) k) ?_
                have b9_51 : 40 * g + k < 8040 := by omega
                refine z_zald hx hb hK hP 13 1 rfl rfl (e := 40 * g + k) rfl b9_51 (Nat.le_of_ble_eq_true rfl) dX11_isLawfulTo_129 ?_
                refine zz_i (v := pI (IN k)) (hin k (by omega) (by omega)) ?_
                refine lv_icmp_eq (tgt := 135) hx hb dX11_isLawfulTo_130 rfl (fun c_52 => ?_) (fun c_52 => ?_)
                · have c_52 : (pI (inF (kd f).toInt n (cF40 cx f) (cF40 cy f) (cF40 cx g k).toInt (cF40 cy g k).toInt)).toInt = (pI (IN k)).toInt := zc_eq rfl rfl c_52
                  refine lv_aload_n hx hb dX11_isLawfulTo_135 rfl (lv_at hl 3 rfl) ?_
                  refine va_get (D := (dC, dI)) (ci := 9) (v := .ref (a 1)) (C := RX11) (T := TX11) (N := 55) hx hb hts inX11 hown hK hP 0 rfl rfl 1 (Nat.le_of_ble_eq_true rfl) (hts _ mw_1160) (fun _ h9 => h9) rfl dX11_isLawfulTo_136 ?_
                  refine lv_iload_n hx hb dX11_isLawfulTo_139 rfl (lv_at hl 4 rfl) ?_
                  have b9_53 : f < 201 := by omega
                  refine z_iald hx hb hK hP 1 0 rfl rfl (e := f) rfl b9_53 (Nat.le_of_ble_eq_true rfl) dX11_isLawfulTo_140 ?_
                  refine lv_if_eq (tgt := 185) hx hb dX11_isLawfulTo_141 rfl (fun c_54 => ?_) (fun c_54 => ?_)
                  · have c_54 : (kd f).toInt = 0 := zc_eq rfl rfl c_54
                    refine lv_iinc (v := nI (k + 1)) (lv' := [(5, .int (nI (k + 1))), (7, .int (cy (40 * g + k))), (6, .int (cx (40 * g + k))), (0, .ref k0), (1, .int (nI f)), (2, .int (nI g)), (3, .int 1), (4, .int (nI b))]) hx hb dX11_isLawfulTo_185 hl (k := 2) rfl (nI_add k 1) (Nat.le_of_ble_eq_true rfl) rfl (fun ls hl => ?_)
                    refine lv_goto (tgt := 62) hx hb dX11_isLawfulTo_188 rfl ?_
                    exact ih_62 (k + 1) z9 q_50 T1 P1 Q1 H locs ls (by first | with_reducible assumption | omega) (by first | with_reducible assumption | omega) (by intro j hj; rcases Nat.lt_or_ge j k with h | h; exact hall j h; obtain rfl : j = k := (by first | with_reducible assumption | omega); exact ⟨fun h5 => (by first | (exfalso; omega) | exact zp_ieq.mp (by first | with_reducible assumption | assumption)), fun h0 => (by first | (exfalso; omega) | exact id | assumption)⟩) hP hD hS (lv_sub hl [0, 3, 4, 5, 6, 7] rfl)
                  · have c_54 : ¬ (kd f).toInt = 0 := zc_ne rfl rfl c_54
                    refine lv_iload_n hx hb dX11_isLawfulTo_144 rfl (lv_at hl 6 rfl) ?_
                    refine lv_iconst (v := 5) hx hb dX11_isLawfulTo_145 rfl ?_
                    refine lv_icmp_eq (tgt := 185) hx hb dX11_isLawfulTo_146 rfl (fun c_55 => ?_) (fun c_55 => ?_)
                    · exact absurd c_55 (by decide)
                    · refine lv_iload hx hb dX11_isLawfulTo_149 (lv_at hl 7 rfl) ?_
                      refine lv_iconst (v := (-1)) hx hb dX11_isLawfulTo_151 rfl ?_
                      have b9_57 : zlt (b) := show b < 2147483648 by omega
                      refine lv_icmp_eq (tgt := 171) hx hb dX11_isLawfulTo_152 rfl (fun c_56 => ?_) (fun c_56 => ?_)
                      · have c_56 : ((b : Nat) : Int) = (-1) := zc_eq (nI_toInt b9_57) rfl c_56
                        exfalso; omega
                      · have c_56 : ¬ ((b : Nat) : Int) = (-1) := zc_ne (nI_toInt b9_57) rfl c_56
                        refine lv_aload_n hx hb dX11_isLawfulTo_155 rfl (lv_at hl 3 rfl) ?_
                        refine lv_iload hx hb dX11_isLawfulTo_156 (lv_at hl 7 rfl) ?_
                        refine lv_iload hx hb dX11_isLawfulTo_158 (lv_at hl 1 rfl) ?_
                        refine lv_iload hx hb dX11_isLawfulTo_160 (lv_at hl 0 rfl) ?_
                        obtain ⟨hPc, hDc, hFc⟩ := zo_sub (wc := [_, _, _, _]) hP hD hS hA [0, 6, 9, 10] (by decide +kernel) rfl
                        refine zcall (st1 := [.int (pI (swB on ox oy b (cx (40 * g + k)).toInt (cy (40 * g + k)).toInt))]) (va_runV (As := [.int (nI b), .int (cx (40 * g + k)), .int (cy (40 * g + k))]) (rest := []) ⟨hx, hb, hml, hown, hts⟩ (k_M_isSweptBy l dC dI cI cZ cF H.size k0 a (upd I0 31 z9) J0 b on (cx (40 * g + k)) (cy (40 * g + k)) T1 ox oy (hon) (by first | with_reducible assumption | omega) (by first | with_reducible assumption | omega) (by first | with_reducible assumption | assumption) ((hp_g k hk9).1) ((hp_g k hk9).2)) (csV_182 hts rfl rfl ⟨Nat.le_of_ble_eq_true rfl, Nat.le_of_ble_eq_true rfl⟩) (zPV2 (q0 := 0) (ci := 9) hPc hDc hK hXN rfl rfl) rfl rfl hl.1 rfl (lv_room (Nat.le_of_ble_eq_true rfl)) dX11_isLawfulTo_162 ⟨Nat.le_of_ble_eq_true rfl, Nat.le_of_ble_eq_true rfl⟩) hS hFc hFc rfl (fun t H locs ht hB hk1 hS => ?_)
                        obtain ⟨q_58, hP1, hD1⟩ := hB
                        rw [ht] at hP1
                        obtain ⟨hP, hD⟩ := zn (W2 := [_, _, _, _, _, _, (oa (a 40) cI 6 q_58), _, _, _, _, _, _, _]) hP hD hk1 hFc hP1 hD1 [0, 6, 9, 10] zl_150 zl_150 [0, 6, 9, 10] (by decide +kernel) rfl rfl rfl rfl rfl
                        clear hk1 hPc hDc hFc hP1 hD1 ht
                        refine zz_i (v := pI ((fun k => swB on ox oy b (cF40 cx g k).toInt (cF40 cy g k).toInt) k)) (rfl) ?_
                        refine lv_if_eq (tgt := 185) hx hb dX11_isLawfulTo_165 rfl (fun c_59 => ?_) (fun c_59 => ?_)
                        · have c_59 : ¬ ((fun k => swB on ox oy b (cF40 cx g k).toInt (cF40 cy g k).toInt) k) := zp_0 c_59
                          refine lv_iinc (v := nI (k + 1)) (lv' := [(5, .int (nI (k + 1))), (7, .int (cy (40 * g + k))), (6, .int (cx (40 * g + k))), (0, .ref k0), (1, .int (nI f)), (2, .int (nI g)), (3, .int 1), (4, .int (nI b))]) hx hb dX11_isLawfulTo_185 hl (k := 2) rfl (nI_add k 1) (Nat.le_of_ble_eq_true rfl) rfl (fun ls hl => ?_)
                          refine lv_goto (tgt := 62) hx hb dX11_isLawfulTo_188 rfl ?_
                          exact ih_62 (k + 1) z9 q_50 q_58 P1 Q1 H locs ls (by first | with_reducible assumption | omega) (by first | with_reducible assumption | omega) (by intro j hj; rcases Nat.lt_or_ge j k with h | h; exact hall j h; obtain rfl : j = k := (by first | with_reducible assumption | omega); exact ⟨fun h5 => (by first | (exfalso; omega) | exact zp_ieq.mp (by first | with_reducible assumption | assumption)), fun h0 => (by first | (exfalso; omega) | exact id | assumption)⟩) hP hD hS (lv_sub hl [0, 3, 4, 5, 6, 7] rfl)
                        · have c_59 : (fun k => swB on ox oy b (cF40 cx g k).toInt (cF40 cy g k).toInt) k := zp_1 c_59
                          refine lv_goto (tgt := 183) hx hb dX11_isLawfulTo_168 rfl ?_
                          refine lv_iconst (v := 0) hx hb dX11_isLawfulTo_183 rfl ?_
                          obtain ⟨hP9, hD9⟩ := zu_sub (wc := [_, _, _, _, _, _, _, _, _, _, _, _, _, _]) hP hD [true, true, true, true, true, true, true, true, true, true, true, true, true, true] rfl rfl
                          rw [hQ9]
                          exact W.zret (ty := .boolean) (v := 0) hx hb hr (rfl) (fun t ht hW => ⟨⟨congrArg (fun z => Outcome.returned (some (Value.int z))) (show (0 : Int32) = pI (lawTo (ox 0) (oy 0) (kd f).toInt n (cF40 cx f) (cF40 cy f) (kd g).toInt m2 (cF40 cx g) (cF40 cy g) MT WI IN (fun k => swB on ox oy b (cF40 cx g k).toInt (cF40 cy g k).toInt)) from (zp_f (fun h => (h.2.2.1 k (by omega)).2 (by omega) (by first | with_reducible assumption | assumption))).symm), z9, q_50, q_58, P1, Q1, by rw [ht]; exact hP9, hD9⟩, hS.F ht⟩) hS.2.2 dX11_isLawfulTo_184
                · have c_52 : ¬ (pI (inF (kd f).toInt n (cF40 cx f) (cF40 cy f) (cF40 cx g k).toInt (cF40 cy g k).toInt)).toInt = (pI (IN k)).toInt := zc_ne rfl rfl c_52
                  refine lv_iconst (v := 0) hx hb dX11_isLawfulTo_133 rfl ?_
                  obtain ⟨hP9, hD9⟩ := zu_sub (wc := [_, _, _, _, _, _, _, _, _, _, _, _, _, _]) hP hD [true, true, true, true, true, true, true, true, true, true, true, true, true, true] rfl rfl
                  rw [hQ9]
                  exact W.zret (ty := .boolean) (v := 0) hx hb hr (rfl) (fun t ht hW => ⟨⟨congrArg (fun z => Outcome.returned (some (Value.int z))) (show (0 : Int32) = pI (lawTo (ox 0) (oy 0) (kd f).toInt n (cF40 cx f) (cF40 cy f) (kd g).toInt m2 (cF40 cx g) (cF40 cy g) MT WI IN (fun k => swB on ox oy b (cF40 cx g k).toInt (cF40 cy g k).toInt)) from (zp_f (fun h => absurd (zp_ieq.mpr ((h.2.2.1 k (by omega)).1 (by omega))) (by first | with_reducible assumption | assumption))).symm), z9, q_50, T1, P1, Q1, by rw [ht]; exact hP9, hD9⟩, hS.F ht⟩) hS.2.2 dX11_isLawfulTo_134
        exact hl_62 _ 0 (I0 31) q_32 T0 P0 Q0 H locs ls (Nat.lt_succ_self _) (by first | with_reducible assumption | omega) (by intro j hj; omega) hP hD hS (lv_sub hl [0, 1, 2, 3, 4, 5] rfl)
      · have c_33 : ¬ (pI (inF (kd g).toInt m2 (cF40 cx g) (cF40 cy g) (cF40 cx f 0).toInt (cF40 cy f 0).toInt)).toInt = (pI WI).toInt := zc_ne rfl rfl c_33
        refine lv_iconst (v := 0) hx hb dX11_isLawfulTo_57 rfl ?_
        obtain ⟨hP9, hD9⟩ := zu_sub (wc := [_, _, _, _, _, _, _, _, _, _, _, _, _, _]) hP hD [true, true, true, true, true, true, true, true, true, true, true, true, true, true] rfl rfl
        rw [hQ9]
        exact W.zret (ty := .boolean) (v := 0) hx hb hr (rfl) (fun t ht hW => ⟨⟨congrArg (fun z => Outcome.returned (some (Value.int z))) (show (0 : Int32) = pI (lawTo (ox 0) (oy 0) (kd f).toInt n (cF40 cx f) (cF40 cy f) (kd g).toInt m2 (cF40 cx g) (cF40 cy g) MT WI IN (fun k => swB on ox oy b (cF40 cx g k).toInt (cF40 cy g k).toInt)) from (zp_f (fun h => absurd (zp_ieq.mpr (h.2.1 (by omega))) (by first | with_reducible assumption | assumption))).symm), (I0 31), q_32, T0, P0, Q0, by rw [ht]; exact hP9, hD9⟩, hS.F ht⟩) hS.2.2 dX11_isLawfulTo_58
  · have c_3 : ¬ (pI (mtF (kd f).toInt n (cF40 cx f) (cF40 cy f) (kd g).toInt m2 (cF40 cx g) (cF40 cy g))).toInt = (pI MT).toInt := zc_ne rfl rfl c_3
    refine lv_iconst (v := 0) hx hb dX11_isLawfulTo_15 rfl ?_
    obtain ⟨hP9, hD9⟩ := zu_sub (wc := [_, _, _, _, _, _, _, _, _, _, _, _, _, _]) hP hD [true, true, true, true, true, true, true, true, true, true, true, true, true, true] rfl rfl
    rw [hQ9]
    exact W.zret (ty := .boolean) (v := 0) hx hb hr (rfl) (fun t ht hW => ⟨⟨congrArg (fun z => Outcome.returned (some (Value.int z))) (show (0 : Int32) = pI (lawTo (ox 0) (oy 0) (kd f).toInt n (cF40 cx f) (cF40 cy f) (kd g).toInt m2 (cF40 cx g) (cF40 cy g) MT WI IN (fun k => swB on ox oy b (cF40 cx g k).toInt (cF40 cy g k).toInt)) from (zp_f (fun h => absurd (zp_ieq.mpr h.1) (by first | with_reducible assumption | assumption))).symm), (I0 31), q_1, T0, P0, Q0, by rw [ht]; exact hP9, hD9⟩, hS.F ht⟩) hS.2.2 dX11_isLawfulTo_16
set_option maxHeartbeats 4000000 in
set_option maxRecDepth 100000 in
theorem k_M_isLawfulTo_s (l : Launch) (dC : Nat → ClassId) (dI : Nat → Nat → Nat) (cI cZ cF : ClassId) (sz : Nat) (k0 : Nat) (a : Nat → Nat) (I0 : Nat → Int32) (J0 : Nat → Int64) (f : Nat) (n : Nat) (g : Nat) (m2 : Nat) (on : Nat) (kd : Nat → Int32) (mn : Nat → Int32) (cx : Nat → Int32) (cy : Nat → Int32) (S0 : Nat → Int32) (T0 : Nat → Int32) (P0 : Nat → Int32) (Q0 : Nat → Int32) (ox : Nat → Int32) (oy : Nat → Int32) (mt : Nat → Int32) (wi : Nat → Int32) (ins : Nat → Int32) (MT : Prop) (WI : Prop) (IN : Nat → Prop) (hf_f : f ≤ 200) (hm_f : mn f = nI n) (hn_f : 1 ≤ n ∧ n ≤ 40) (hp_f : pls n (cF40 cx f) (cF40 cy f)) (hf_g : g ≤ 200) (hm_g : mn g = nI m2) (hn_g : 1 ≤ m2 ∧ m2 ≤ 40) (hp_g : pls m2 (cF40 cx g) (cF40 cy g)) (hon : I0 35 = nI on) (ho40 : on ≤ 40) (ho1 : 1 ≤ on) (hpo : pls on ox oy) (hmt : mt g = pI MT) (hwi : 5 ≤ (kd g).toInt → wi g = pI WI) (hin : ∀ k, k < m2 → 5 ≤ (kd f).toInt → ins (40 * g + k) = pI (IN k)) : zM l yX11_isLawfulTo cX11_isLawfulTo 8 (some .boolean) ({ frames := 4, cells := 0, slots := 0, locals := 108 } : Room) [.ref k0, .int (nI f), .int (nI g), .int 5, .int (-1)] (dC, dI) (zTy cI cZ cF) [(om k0 a I0 J0), (oa (a 1) cI 201 kd), (oa (a 11) cI 201 mn), (oa (a 12) cI 8040 cx), (oa (a 13) cI 8040 cy), (oa (a 32) cI 8 S0), (oa (a 40) cI 6 T0), (oa (a 29) cI 42 P0), (oa (a 30) cI 42 Q0), (oa (a 33) cI 42 ox), (oa (a 34) cI 42 oy), (oa (a 37) cZ 201 mt), (oa (a 38) cZ 201 wi), (oa (a 39) cZ 8040 ins)] sz (some (.int (pI (lawTo (ox 0) (oy 0) (kd f).toInt n (cF40 cx f) (cF40 cy f) (kd g).toInt m2 (cF40 cx g) (cF40 cy g) MT WI IN (fun _ => False))))) (fun A t => ∃ (z9 : Int32), ∃ (S1 : Nat → Int32), ∃ (T1 : Nat → Int32), ∃ (P1 : Nat → Int32), ∃ (Q1 : Nat → Int32), zPD (dC, dI) classes A [(om k0 a (upd I0 31 z9) J0), (oa (a 1) cI 201 kd), (oa (a 11) cI 201 mn), (oa (a 12) cI 8040 cx), (oa (a 13) cI 8040 cy), (oa (a 32) cI 8 S1), (oa (a 40) cI 6 T1), (oa (a 29) cI 42 P1), (oa (a 30) cI 42 Q1), (oa (a 33) cI 42 ox), (oa (a 34) cI 42 oy), (oa (a 37) cZ 201 mt), (oa (a 38) cZ 201 wi), (oa (a 39) cZ 8040 ins)] t.heap) 0 0 := by
  refine zIn (own := "ScaleShopModel") (loc := [(0, .ref k0), (1, .int (nI f)), (2, .int (nI g)), (3, .int 5), (4, .int (-1))]) rfl rfl rfl rfl (fun p e s m below meth c hx hb hr hts hown hlocks hml hnm9 A hA hS hP hD hK hXN Q9 hQ9 ls hl => ?_)
  refine lv_aload_n hx hb dX11_isLawfulTo_0 rfl (lv_at hl 0 rfl) ?_
  refine lv_iload_n hx hb dX11_isLawfulTo_1 rfl (lv_at hl 1 rfl) ?_
  refine lv_iload_n hx hb dX11_isLawfulTo_2 rfl (lv_at hl 2 rfl) ?_
  obtain ⟨hPc, hDc, hFc⟩ := zo_sub (wc := [_, _, _, _, _, _]) hP hD hS hA [0, 1, 2, 3, 4, 5] (by decide +kernel) rfl
  refine zcall (st1 := [.int (pI (∃ i, i < eO (kd f).toInt n ∧ ∃ j, j < eO (kd g).toInt m2 ∧ eMt n (cF40 cx f) (cF40 cy f) i m2 (cF40 cx g) (cF40 cy g) j))]) (va_runV (As := [.int (nI f), .int (nI g)]) (rest := []) ⟨hx, hb, hml, hown, hts⟩ (k_M_isMet l dC dI cI cZ cF s.heap.size k0 a I0 J0 f n g m2 kd mn cx cy S0 (by first | with_reducible assumption | omega) (by first | with_reducible assumption | assumption) (by first | with_reducible assumption | omega) (by first | with_reducible assumption | assumption) (by first | with_reducible assumption | omega) (by first | with_reducible assumption | assumption) (by first | with_reducible assumption | omega) (by first | with_reducible assumption | assumption)) (csV_180 hts rfl rfl ⟨Nat.le_of_ble_eq_true rfl, Nat.le_of_ble_eq_true rfl⟩) (zPV2 (q0 := 0) (ci := 9) hPc hDc hK hXN rfl rfl) rfl rfl hl.1 rfl (lv_room (Nat.le_of_ble_eq_true rfl)) dX11_isLawfulTo_3 ⟨Nat.le_of_ble_eq_true rfl, Nat.le_of_ble_eq_true rfl⟩) hS hFc hFc rfl (fun t H locs ht hB hk1 hS => ?_)
  obtain ⟨q_1, hP1, hD1⟩ := hB
  rw [ht] at hP1
  obtain ⟨hP, hD⟩ := zn (W2 := [_, _, _, _, _, (oa (a 32) cI 8 q_1), _, _, _, _, _, _, _, _]) hP hD hk1 hFc hP1 hD1 [0, 1, 2, 3, 4, 5] zl_147 zl_147 [0, 1, 2, 3, 4, 5] (by decide +kernel) rfl rfl rfl rfl rfl
  clear hk1 hPc hDc hFc hP1 hD1 ht
  refine zz_i (v := pI (mtF (kd f).toInt n (cF40 cx f) (cF40 cy f) (kd g).toInt m2 (cF40 cx g) (cF40 cy g))) (rfl) ?_
  refine lv_aload_n hx hb dX11_isLawfulTo_6 rfl (lv_at hl 0 rfl) ?_
  refine va_get (D := (dC, dI)) (ci := 9) (v := .ref (a 37)) (C := RX11) (T := TX11) (N := 55) hx hb hts inX11 hown hK hP 0 rfl rfl 37 (Nat.le_of_ble_eq_true rfl) (hts _ mw_1196) (fun _ h9 => h9) rfl dX11_isLawfulTo_7 ?_
  refine lv_iload_n hx hb dX11_isLawfulTo_10 rfl (lv_at hl 2 rfl) ?_
  have b9_2 : g < 201 := by omega
  refine z_zald hx hb hK hP 11 1 rfl rfl (e := g) rfl b9_2 (Nat.le_of_ble_eq_true rfl) dX11_isLawfulTo_11 ?_
  refine zz_i (v := pI MT) (hmt) ?_
  refine lv_icmp_eq (tgt := 17) hx hb dX11_isLawfulTo_12 rfl (fun c_3 => ?_) (fun c_3 => ?_)
  · have c_3 : (pI (mtF (kd f).toInt n (cF40 cx f) (cF40 cy f) (kd g).toInt m2 (cF40 cx g) (cF40 cy g))).toInt = (pI MT).toInt := zc_eq rfl rfl c_3
    refine lv_aload_n hx hb dX11_isLawfulTo_17 rfl (lv_at hl 0 rfl) ?_
    refine lv_iload_n hx hb dX11_isLawfulTo_18 rfl (lv_at hl 2 rfl) ?_
    obtain ⟨hPc, hDc, hFc, hI1⟩ := zi_sub (wc := [_, _]) hP hD hS hA [0, 1] rfl rfl
    refine zcall (st1 := [.int (pI (5 ≤ (kd g).toInt))]) (va_runV (As := [.int (nI g)]) (rest := []) ⟨hx, hb, hml, hown, hts⟩ (k_M_isRing l dC dI cI cZ cF H.size k0 a I0 J0 g kd (by first | with_reducible assumption | omega)) (csV_165 hts rfl rfl ⟨Nat.le_of_ble_eq_true rfl, Nat.le_of_ble_eq_true rfl⟩) (zPV2 (q0 := 0) (ci := 9) hPc hDc hK hXN rfl rfl) rfl rfl hl.1 rfl (lv_room (Nat.le_of_ble_eq_true rfl)) dX11_isLawfulTo_19 ⟨Nat.le_of_ble_eq_true rfl, Nat.le_of_ble_eq_true rfl⟩) hS hFc hFc rfl (fun t H locs ht hB hk1 hS => ?_)
    obtain ⟨hP1, hD1⟩ := hB
    rw [ht] at hP1
    replace hP := z0 hP hD hk1 hP1 hI1
    clear hk1 hPc hDc hFc hP1 hD1 ht hI1
    refine lv_if_eq (tgt := 59) hx hb dX11_isLawfulTo_22 rfl (fun c_4 => ?_) (fun c_4 => ?_)
    · have c_4 : ¬ (5 ≤ (kd g).toInt) := zp_0 c_4
      refine lv_iconst (v := 0) hx hb dX11_isLawfulTo_59 rfl ?_
      refine lv_istore (lv' := [(5, .int 0), (0, .ref k0), (1, .int (nI f)), (2, .int (nI g)), (3, .int 5), (4, .int (-1))]) hx hb dX11_isLawfulTo_60 hl (Nat.le_of_ble_eq_true rfl) rfl (fun ls hl => ?_)
      have hl_62 : ∀ (n9 : Nat) (k : Nat) (z9 : Int32) (S1 : Nat → Int32) (T1 : Nat → Int32) (P1 : Nat → Int32) (Q1 : Nat → Int32) (H : Heap) (locs : List Loc) (ls : Array Slot), m2 - k < n9 → (k ≤ m2) → (∀ j, j < k → (5 ≤ (kd f).toInt → (inF (kd f).toInt n (cF40 cx f) (cF40 cy f) (cF40 cx g j).toInt (cF40 cy g j).toInt ↔ IN j)) ∧ (¬ (kd f).toInt = 0 → ¬ (fun _ => False) j)) → va_P (dC, dI) classes [(om k0 a (upd I0 31 z9) J0), (oa (a 1) cI 201 kd), (oa (a 11) cI 201 mn), (oa (a 12) cI 8040 cx), (oa (a 13) cI 8040 cy), (oa (a 32) cI 8 S1), (oa (a 40) cI 6 T1), (oa (a 29) cI 42 P1), (oa (a 30) cI 42 Q1), (oa (a 33) cI 42 ox), (oa (a 34) cI 42 oy), (oa (a 37) cZ 201 mt), (oa (a 38) cZ 201 wi), (oa (a 39) cZ 8040 ins)] H → va_D A [(om k0 a (upd I0 31 z9) J0), (oa (a 1) cI 201 kd), (oa (a 11) cI 201 mn), (oa (a 12) cI 8040 cx), (oa (a 13) cI 8040 cy), (oa (a 32) cI 8 S1), (oa (a 40) cI 6 T1), (oa (a 29) cI 42 P1), (oa (a 30) cI 42 Q1), (oa (a 33) cI 42 ox), (oa (a 34) cI 42 oy), (oa (a 37) cZ 201 mt), (oa (a 38) cZ 201 wi), (oa (a 39) cZ 8040 ins)] → va_S A s.heap H locs → lv_has ls 8 [(5, .int (nI k)), (0, .ref k0), (1, .int (nI f)), (2, .int (nI g)), (3, .int 5), (4, .int (-1))] → W p l e ({ frames := 4, cells := 0, slots := 0, locals := 108 } : Room) s m ([.ref k0, .int (nI f), .int (nI g), .int 5, .int (-1)] : List Value).toArray below meth c H locs 0 0 Q9 (F0 m 62 ls []) := by
        intro n9
        induction n9 with
        | zero => intro k z9 S1 T1 P1 Q1 H locs ls hm; exact absurd hm (Nat.not_lt_zero _)
        | succ n9 ih_62 =>
          intro k z9 S1 T1 P1 Q1 H locs ls hm hk hall hP hD hS hl
          refine lv_iload hx hb dX11_isLawfulTo_62 (lv_at hl 0 rfl) ?_
          refine lv_aload_n hx hb dX11_isLawfulTo_64 rfl (lv_at hl 1 rfl) ?_
          refine va_get (D := (dC, dI)) (ci := 9) (v := .ref (a 11)) (C := RX11) (T := TX11) (N := 55) hx hb hts inX11 hown hK hP 0 rfl rfl 11 (Nat.le_of_ble_eq_true rfl) (hts _ mw_1170) (fun _ h9 => h9) rfl dX11_isLawfulTo_65 ?_
          refine lv_iload_n hx hb dX11_isLawfulTo_68 rfl (lv_at hl 3 rfl) ?_
          refine z_iald hx hb hK hP 2 0 rfl rfl (e := g) rfl b9_2 (Nat.le_of_ble_eq_true rfl) dX11_isLawfulTo_69 ?_
          refine zz_i (v := nI m2) (hm_g) ?_
          have b9_6 : zlt (k) := show k < 2147483648 by omega
          have b9_7 : zlt (m2) := show m2 < 2147483648 by omega
          refine lv_icmp_ge (tgt := 191) hx hb dX11_isLawfulTo_70 rfl (fun c_5 => ?_) (fun c_5 => ?_)
          · have c_5 : ((m2 : Nat) : Int) ≤ ((k : Nat) : Int) := zc_le (nI_toInt b9_7) (nI_toInt b9_6) c_5
            refine lv_aload_n hx hb dX11_isLawfulTo_191 rfl (lv_at hl 1 rfl) ?_
            refine va_get (D := (dC, dI)) (ci := 9) (v := .ref (a 1)) (C := RX11) (T := TX11) (N := 55) hx hb hts inX11 hown hK hP 0 rfl rfl 1 (Nat.le_of_ble_eq_true rfl) (hts _ mw_1160) (fun _ h9 => h9) rfl dX11_isLawfulTo_192 ?_
            refine lv_iload_n hx hb dX11_isLawfulTo_195 rfl (lv_at hl 2 rfl) ?_
            have b9_8 : f < 201 := by omega
            refine z_iald hx hb hK hP 1 0 rfl rfl (e := f) rfl b9_8 (Nat.le_of_ble_eq_true rfl) dX11_isLawfulTo_196 ?_
            refine lv_if_ne (tgt := 209) hx hb dX11_isLawfulTo_197 rfl (fun c_9 => ?_) (fun c_9 => ?_)
            · have c_9 : ¬ (kd f).toInt = 0 := zc_ne rfl rfl c_9
              refine lv_iconst (v := 1) hx hb dX11_isLawfulTo_209 rfl ?_
              refine lv_goto (tgt := 214) hx hb dX11_isLawfulTo_210 rfl ?_
              obtain ⟨hP9, hD9⟩ := zu_sub (wc := [_, _, _, _, _, _, _, _, _, _, _, _, _, _]) hP hD [true, true, true, true, true, true, true, true, true, true, true, true, true, true] rfl rfl
              rw [hQ9]
              exact W.zret (ty := .boolean) (v := 1) hx hb hr (rfl) (fun t ht hW => ⟨⟨congrArg (fun z => Outcome.returned (some (Value.int z))) (show (1 : Int32) = pI (lawTo (ox 0) (oy 0) (kd f).toInt n (cF40 cx f) (cF40 cy f) (kd g).toInt m2 (cF40 cx g) (cF40 cy g) MT WI IN (fun _ => False)) from (zp_t (by first | exact ⟨zp_ieq.mp (by first | with_reducible assumption | assumption), fun h => (by first | (exfalso; omega) | exact zp_ieq.mp (by first | with_reducible assumption | assumption)), fun j hj => hall j (by omega), fun h => (by first | (exfalso; omega) | assumption)⟩ | exact fun h => absurd (h.2.2.2 (by omega)) (by first | with_reducible assumption | assumption))).symm), z9, S1, T1, P1, Q1, by rw [ht]; exact hP9, hD9⟩, hS.F ht⟩) hS.2.2 dX11_isLawfulTo_214
            · have c_9 : (kd f).toInt = 0 := zc_eq rfl rfl c_9
              refine lv_aload_n hx hb dX11_isLawfulTo_200 rfl (lv_at hl 1 rfl) ?_
              refine lv_iload_n hx hb dX11_isLawfulTo_201 rfl (lv_at hl 2 rfl) ?_
              refine lv_iload_n hx hb dX11_isLawfulTo_202 rfl (lv_at hl 3 rfl) ?_
              obtain ⟨hPc, hDc, hFc⟩ := zo_sub (wc := [_, _, _, _, _, _, _, _]) hP hD hS hA [0, 1, 2, 3, 4, 5, 9, 10] (by decide +kernel) rfl
              refine zcall (st1 := [.int (pI (∀ k, k < eO (kd g).toInt m2 → fWy (ox 0).toInt (oy 0).toInt (cx (40 * f)).toInt (cy (40 * f)).toInt m2 (cF40 cx g) (cF40 cy g) k))]) (va_runV (As := [.int (nI f), .int (nI g)]) (rest := []) ⟨hx, hb, hml, hown, hts⟩ (k_M_isFreeWay l dC dI cI cZ cF H.size k0 a (upd I0 31 z9) J0 f g m2 kd mn cx cy S1 ox oy (by first | with_reducible assumption | omega) ((hpo 0 (by first | with_reducible assumption | omega)).1) ((hpo 0 (by first | with_reducible assumption | omega)).2) ((hp_f 0 (by first | with_reducible assumption | omega)).1) ((hp_f 0 (by first | with_reducible assumption | omega)).2) (by first | with_reducible assumption | omega) (by first | with_reducible assumption | assumption) (by first | with_reducible assumption | omega) (by first | with_reducible assumption | assumption)) (csV_181 hts rfl rfl ⟨Nat.le_of_ble_eq_true rfl, Nat.le_of_ble_eq_true rfl⟩) (zPV2 (q0 := 0) (ci := 9) hPc hDc hK hXN rfl rfl) rfl rfl hl.1 rfl (lv_room (Nat.le_of_ble_eq_true rfl)) dX11_isLawfulTo_203 ⟨Nat.le_of_ble_eq_true rfl, Nat.le_of_ble_eq_true rfl⟩) hS hFc hFc rfl (fun t H locs ht hB hk1 hS => ?_)
              obtain ⟨q_10, hP1, hD1⟩ := hB
              rw [ht] at hP1
              obtain ⟨hP, hD⟩ := zn (W2 := [_, _, _, _, _, (oa (a 32) cI 8 q_10), _, _, _, _, _, _, _, _]) hP hD hk1 hFc hP1 hD1 zl_148 zl_149 zl_149 zl_148 (by decide +kernel) rfl rfl rfl rfl rfl
              clear hk1 hPc hDc hFc hP1 hD1 ht
              refine zz_i (v := pI (∀ k, k < eO (kd g).toInt m2 → fWy (ox 0).toInt (oy 0).toInt (cF40 cx f 0).toInt (cF40 cy f 0).toInt m2 (cF40 cx g) (cF40 cy g) k)) (rfl) ?_
              refine lv_if_eq (tgt := 213) hx hb dX11_isLawfulTo_206 rfl (fun c_11 => ?_) (fun c_11 => ?_)
              · have c_11 : ¬ (∀ k, k < eO (kd g).toInt m2 → fWy (ox 0).toInt (oy 0).toInt (cF40 cx f 0).toInt (cF40 cy f 0).toInt m2 (cF40 cx g) (cF40 cy g) k) := zp_0 c_11
                refine lv_iconst (v := 0) hx hb dX11_isLawfulTo_213 rfl ?_
                obtain ⟨hP9, hD9⟩ := zu_sub (wc := [_, _, _, _, _, _, _, _, _, _, _, _, _, _]) hP hD [true, true, true, true, true, true, true, true, true, true, true, true, true, true] rfl rfl
                rw [hQ9]
                exact W.zret (ty := .boolean) (v := 0) hx hb hr (rfl) (fun t ht hW => ⟨⟨congrArg (fun z => Outcome.returned (some (Value.int z))) (show (0 : Int32) = pI (lawTo (ox 0) (oy 0) (kd f).toInt n (cF40 cx f) (cF40 cy f) (kd g).toInt m2 (cF40 cx g) (cF40 cy g) MT WI IN (fun _ => False)) from (zp_f (by first | exact ⟨zp_ieq.mp (by first | with_reducible assumption | assumption), fun h => (by first | (exfalso; omega) | exact zp_ieq.mp (by first | with_reducible assumption | assumption)), fun j hj => hall j (by omega), fun h => (by first | (exfalso; omega) | assumption)⟩ | exact fun h => absurd (h.2.2.2 (by omega)) (by first | with_reducible assumption | assumption))).symm), z9, q_10, T1, P1, Q1, by rw [ht]; exact hP9, hD9⟩, hS.F ht⟩) hS.2.2 dX11_isLawfulTo_214
              · have c_11 : ∀ k, k < eO (kd g).toInt m2 → fWy (ox 0).toInt (oy 0).toInt (cF40 cx f 0).toInt (cF40 cy f 0).toInt m2 (cF40 cx g) (cF40 cy g) k := zp_1 c_11
                refine lv_iconst (v := 1) hx hb dX11_isLawfulTo_209 rfl ?_
                refine lv_goto (tgt := 214) hx hb dX11_isLawfulTo_210 rfl ?_
                obtain ⟨hP9, hD9⟩ := zu_sub (wc := [_, _, _, _, _, _, _, _, _, _, _, _, _, _]) hP hD [true, true, true, true, true, true, true, true, true, true, true, true, true, true] rfl rfl
                rw [hQ9]
                exact W.zret (ty := .boolean) (v := 1) hx hb hr (rfl) (fun t ht hW => ⟨⟨congrArg (fun z => Outcome.returned (some (Value.int z))) (show (1 : Int32) = pI (lawTo (ox 0) (oy 0) (kd f).toInt n (cF40 cx f) (cF40 cy f) (kd g).toInt m2 (cF40 cx g) (cF40 cy g) MT WI IN (fun _ => False)) from (zp_t (by first | exact ⟨zp_ieq.mp (by first | with_reducible assumption | assumption), fun h => (by first | (exfalso; omega) | exact zp_ieq.mp (by first | with_reducible assumption | assumption)), fun j hj => hall j (by omega), fun h => (by first | (exfalso; omega) | assumption)⟩ | exact fun h => absurd (h.2.2.2 (by omega)) (by first | with_reducible assumption | assumption))).symm), z9, q_10, T1, P1, Q1, by rw [ht]; exact hP9, hD9⟩, hS.F ht⟩) hS.2.2 dX11_isLawfulTo_214
          · have c_5 : ((k : Nat) : Int) < ((m2 : Nat) : Int) := zc_nle (nI_toInt b9_7) (nI_toInt b9_6) c_5
            have hk9 : k < m2 := (by omega)
            refine lv_aload_n hx hb dX11_isLawfulTo_73 rfl (lv_at hl 1 rfl) ?_
            refine va_get (D := (dC, dI)) (ci := 9) (v := .ref (a 12)) (C := RX11) (T := TX11) (N := 55) hx hb hts inX11 hown hK hP 0 rfl rfl 12 (Nat.le_of_ble_eq_true rfl) (hts _ mw_1171) (fun _ h9 => h9) rfl dX11_isLawfulTo_74 ?_
            refine lv_bipush (v := 40) hx hb dX11_isLawfulTo_77 rfl ?_
            refine lv_iload_n hx hb dX11_isLawfulTo_79 rfl (lv_at hl 3 rfl) ?_
            refine lv_imul hx hb dX11_isLawfulTo_80 ?_
            refine zz_i (v := nI (40 * g)) (pk_mul 40 g) ?_
            refine lv_iload hx hb dX11_isLawfulTo_81 (lv_at hl 0 rfl) ?_
            refine lv_iadd hx hb dX11_isLawfulTo_83 ?_
            refine zz_i (v := nI (40 * g + k)) (nI_add (40 * g) k) ?_
            have b9_12 : 40 * g + k < 8040 := by omega
            refine z_iald hx hb hK hP 3 0 rfl rfl (e := 40 * g + k) rfl b9_12 (Nat.le_of_ble_eq_true rfl) dX11_isLawfulTo_84 ?_
            refine lv_istore (lv' := [(6, .int (cx (40 * g + k))), (5, .int (nI k)), (0, .ref k0), (1, .int (nI f)), (2, .int (nI g)), (3, .int 5), (4, .int (-1))]) hx hb dX11_isLawfulTo_85 hl (Nat.le_of_ble_eq_true rfl) rfl (fun ls hl => ?_)
            refine lv_aload_n hx hb dX11_isLawfulTo_87 rfl (lv_at hl 2 rfl) ?_
            refine va_get (D := (dC, dI)) (ci := 9) (v := .ref (a 13)) (C := RX11) (T := TX11) (N := 55) hx hb hts inX11 hown hK hP 0 rfl rfl 13 (Nat.le_of_ble_eq_true rfl) (hts _ mw_1172) (fun _ h9 => h9) rfl dX11_isLawfulTo_88 ?_
            refine lv_bipush (v := 40) hx hb dX11_isLawfulTo_91 rfl ?_
            refine lv_iload_n hx hb dX11_isLawfulTo_93 rfl (lv_at hl 4 rfl) ?_
            refine lv_imul hx hb dX11_isLawfulTo_94 ?_
            refine zz_i (v := nI (40 * g)) (pk_mul 40 g) ?_
            refine lv_iload hx hb dX11_isLawfulTo_95 (lv_at hl 1 rfl) ?_
            refine lv_iadd hx hb dX11_isLawfulTo_97 ?_
            refine zz_i (v := nI (40 * g + k)) (nI_add (40 * g) k) ?_
            refine z_iald hx hb hK hP 4 0 rfl rfl (e := 40 * g + k) rfl b9_12 (Nat.le_of_ble_eq_true rfl) dX11_isLawfulTo_98 ?_
            refine lv_istore (lv' := [(7, .int (cy (40 * g + k))), (6, .int (cx (40 * g + k))), (5, .int (nI k)), (0, .ref k0), (1, .int (nI f)), (2, .int (nI g)), (3, .int 5), (4, .int (-1))]) hx hb dX11_isLawfulTo_99 hl (Nat.le_of_ble_eq_true rfl) rfl (fun ls hl => ?_)
            refine lv_aload_n hx hb dX11_isLawfulTo_101 rfl (lv_at hl 3 rfl) ?_
            refine lv_iload_n hx hb dX11_isLawfulTo_102 rfl (lv_at hl 4 rfl) ?_
            obtain ⟨hPc, hDc, hFc, hI1⟩ := zi_sub (wc := [_, _]) hP hD hS hA [0, 1] rfl rfl
            refine zcall (st1 := [.int (pI (5 ≤ (kd f).toInt))]) (va_runV (As := [.int (nI f)]) (rest := []) ⟨hx, hb, hml, hown, hts⟩ (k_M_isRing l dC dI cI cZ cF H.size k0 a (upd I0 31 z9) J0 f kd (by first | with_reducible assumption | omega)) (csV_165 hts rfl rfl ⟨Nat.le_of_ble_eq_true rfl, Nat.le_of_ble_eq_true rfl⟩) (zPV2 (q0 := 0) (ci := 9) hPc hDc hK hXN rfl rfl) rfl rfl hl.1 rfl (lv_room (Nat.le_of_ble_eq_true rfl)) dX11_isLawfulTo_103 ⟨Nat.le_of_ble_eq_true rfl, Nat.le_of_ble_eq_true rfl⟩) hS hFc hFc rfl (fun t H locs ht hB hk1 hS => ?_)
            obtain ⟨hP1, hD1⟩ := hB
            rw [ht] at hP1
            replace hP := z0 hP hD hk1 hP1 hI1
            clear hk1 hPc hDc hFc hP1 hD1 ht hI1
            refine lv_if_eq (tgt := 135) hx hb dX11_isLawfulTo_106 rfl (fun c_13 => ?_) (fun c_13 => ?_)
            · have c_13 : ¬ (5 ≤ (kd f).toInt) := zp_0 c_13
              refine lv_aload_n hx hb dX11_isLawfulTo_135 rfl (lv_at hl 3 rfl) ?_
              refine va_get (D := (dC, dI)) (ci := 9) (v := .ref (a 1)) (C := RX11) (T := TX11) (N := 55) hx hb hts inX11 hown hK hP 0 rfl rfl 1 (Nat.le_of_ble_eq_true rfl) (hts _ mw_1160) (fun _ h9 => h9) rfl dX11_isLawfulTo_136 ?_
              refine lv_iload_n hx hb dX11_isLawfulTo_139 rfl (lv_at hl 4 rfl) ?_
              have b9_14 : f < 201 := by omega
              refine z_iald hx hb hK hP 1 0 rfl rfl (e := f) rfl b9_14 (Nat.le_of_ble_eq_true rfl) dX11_isLawfulTo_140 ?_
              refine lv_if_eq (tgt := 185) hx hb dX11_isLawfulTo_141 rfl (fun c_15 => ?_) (fun c_15 => ?_)
              · have c_15 : (kd f).toInt = 0 := zc_eq rfl rfl c_15
                refine lv_iinc (v := nI (k + 1)) (lv' := [(5, .int (nI (k + 1))), (7, .int (cy (40 * g + k))), (6, .int (cx (40 * g + k))), (0, .ref k0), (1, .int (nI f)), (2, .int (nI g)), (3, .int 5), (4, .int (-1))]) hx hb dX11_isLawfulTo_185 hl (k := 2) rfl (nI_add k 1) (Nat.le_of_ble_eq_true rfl) rfl (fun ls hl => ?_)
                refine lv_goto (tgt := 62) hx hb dX11_isLawfulTo_188 rfl ?_
                exact ih_62 (k + 1) z9 S1 T1 P1 Q1 H locs ls (by first | with_reducible assumption | omega) (by first | with_reducible assumption | omega) (by intro j hj; rcases Nat.lt_or_ge j k with h | h; exact hall j h; obtain rfl : j = k := (by first | with_reducible assumption | omega); exact ⟨fun h5 => (by first | (exfalso; omega) | exact zp_ieq.mp (by first | with_reducible assumption | assumption)), fun h0 => (by first | (exfalso; omega) | exact id | assumption)⟩) hP hD hS (lv_sub hl [0, 3, 4, 5, 6, 7] rfl)
              · have c_15 : ¬ (kd f).toInt = 0 := zc_ne rfl rfl c_15
                refine lv_iload_n hx hb dX11_isLawfulTo_144 rfl (lv_at hl 6 rfl) ?_
                refine lv_iconst (v := 5) hx hb dX11_isLawfulTo_145 rfl ?_
                refine lv_icmp_eq (tgt := 185) hx hb dX11_isLawfulTo_146 rfl (fun c_16 => ?_) (fun c_16 => ?_)
                · refine lv_iinc (v := nI (k + 1)) (lv' := [(5, .int (nI (k + 1))), (7, .int (cy (40 * g + k))), (6, .int (cx (40 * g + k))), (0, .ref k0), (1, .int (nI f)), (2, .int (nI g)), (3, .int 5), (4, .int (-1))]) hx hb dX11_isLawfulTo_185 hl (k := 2) rfl (nI_add k 1) (Nat.le_of_ble_eq_true rfl) rfl (fun ls hl => ?_)
                  refine lv_goto (tgt := 62) hx hb dX11_isLawfulTo_188 rfl ?_
                  exact ih_62 (k + 1) z9 S1 T1 P1 Q1 H locs ls (by first | with_reducible assumption | omega) (by first | with_reducible assumption | omega) (by intro j hj; rcases Nat.lt_or_ge j k with h | h; exact hall j h; obtain rfl : j = k := (by first | with_reducible assumption | omega); exact ⟨fun h5 => (by first | (exfalso; omega) | exact zp_ieq.mp (by first | with_reducible assumption | assumption)), fun h0 => (by first | (exfalso; omega) | exact id | assumption)⟩) hP hD hS (lv_sub hl [0, 3, 4, 5, 6, 7] rfl)
                · exact absurd (by decide) c_16
            · have c_13 : 5 ≤ (kd f).toInt := zp_1 c_13
              refine lv_aload_n hx hb dX11_isLawfulTo_109 rfl (lv_at hl 3 rfl) ?_
              refine lv_iload_n hx hb dX11_isLawfulTo_110 rfl (lv_at hl 4 rfl) ?_
              refine lv_iload hx hb dX11_isLawfulTo_111 (lv_at hl 1 rfl) ?_
              refine lv_iload hx hb dX11_isLawfulTo_113 (lv_at hl 0 rfl) ?_
              obtain ⟨hPc, hDc, hFc⟩ := zo_sub (wc := [_, _, _, _, _, _]) hP hD hS hA [0, 1, 2, 3, 4, 5] (by decide +kernel) rfl
              refine zcall (st1 := [.int (pI (¬ (∃ i, i < eO (kd f).toInt n ∧ eOn n (cF40 cx f) (cF40 cy f) i (cx (40 * g + k)).toInt (cy (40 * g + k)).toInt) ∧ par2 (eTg n (cF40 cx f) (cF40 cy f) (cx (40 * g + k)).toInt (cy (40 * g + k)).toInt) (eO (kd f).toInt n)))]) (va_runV (As := [.int (nI f), .int (cx (40 * g + k)), .int (cy (40 * g + k))]) (rest := []) ⟨hx, hb, hml, hown, hts⟩ (k_M_isInside l dC dI cI cZ cF H.size k0 a (upd I0 31 z9) J0 f n kd mn cx cy S1 (cx (40 * g + k)) (cy (40 * g + k)) (by first | with_reducible assumption | omega) (by first | with_reducible assumption | assumption) (by first | with_reducible assumption | omega) (by first | with_reducible assumption | assumption) ((hp_g k hk9).1) ((hp_g k hk9).2)) (csV_183 hts rfl rfl ⟨Nat.le_of_ble_eq_true rfl, Nat.le_of_ble_eq_true rfl⟩) (zPV2 (q0 := 0) (ci := 9) hPc hDc hK hXN rfl rfl) rfl rfl hl.1 rfl (lv_room (Nat.le_of_ble_eq_true rfl)) dX11_isLawfulTo_115 ⟨Nat.le_of_ble_eq_true rfl, Nat.le_of_ble_eq_true rfl⟩) hS hFc hFc rfl (fun t H locs ht hB hk1 hS => ?_)
              obtain ⟨q_17, hP1, hD1⟩ := hB
              rw [ht] at hP1
              obtain ⟨hP, hD⟩ := zn (W2 := [_, _, _, _, _, (oa (a 32) cI 8 q_17), _, _, _, _, _, _, _, _]) hP hD hk1 hFc hP1 hD1 [0, 1, 2, 3, 4, 5] zl_147 zl_147 [0, 1, 2, 3, 4, 5] (by decide +kernel) rfl rfl rfl rfl rfl
              clear hk1 hPc hDc hFc hP1 hD1 ht
              refine zz_i (v := pI (inF (kd f).toInt n (cF40 cx f) (cF40 cy f) (cF40 cx g k).toInt (cF40 cy g k).toInt)) (rfl) ?_
              refine lv_aload_n hx hb dX11_isLawfulTo_118 rfl (lv_at hl 3 rfl) ?_
              refine va_get (D := (dC, dI)) (ci := 9) (v := .ref (a 39)) (C := RX11) (T := TX11) (N := 55) hx hb hts inX11 hown hK hP 0 rfl rfl 39 (Nat.le_of_ble_eq_true rfl) (hts _ mw_1198) (fun _ h9 => h9) rfl dX11_isLawfulTo_119 ?_
              refine lv_bipush (v := 40) hx hb dX11_isLawfulTo_122 rfl ?_
              refine lv_iload_n hx hb dX11_isLawfulTo_124 rfl (lv_at hl 5 rfl) ?_
              refine lv_imul hx hb dX11_isLawfulTo_125 ?_
              refine zz_i (v := nI (40 * g)) (pk_mul 40 g) ?_
              refine lv_iload hx hb dX11_isLawfulTo_126 (lv_at hl 2 rfl) ?_
              refine lv_iadd hx hb dX11_isLawfulTo_128 ?_
              refine zz_i (v := nI (40 * g + k)) (nI_add (40 * g) k) ?_
              have b9_18 : 40 * g + k < 8040 := by omega
              refine z_zald hx hb hK hP 13 1 rfl rfl (e := 40 * g + k) rfl b9_18 (Nat.le_of_ble_eq_true rfl) dX11_isLawfulTo_129 ?_
              refine zz_i (v := pI (IN k)) (hin k (by omega) (by omega)) ?_
              refine lv_icmp_eq (tgt := 135) hx hb dX11_isLawfulTo_130 rfl (fun c_19 => ?_) (fun c_19 => ?_)
              · have c_19 : (pI (inF (kd f).toInt n (cF40 cx f) (cF40 cy f) (cF40 cx g k).toInt (cF40 cy g k).toInt)).toInt = (pI (IN k)).toInt := zc_eq rfl rfl c_19
                refine lv_aload_n hx hb dX11_isLawfulTo_135 rfl (lv_at hl 3 rfl) ?_
                refine va_get (D := (dC, dI)) (ci := 9) (v := .ref (a 1)) (C := RX11) (T := TX11) (N := 55) hx hb hts inX11 hown hK hP 0 rfl rfl 1 (Nat.le_of_ble_eq_true rfl) (hts _ mw_1160) (fun _ h9 => h9) rfl dX11_isLawfulTo_136 ?_
                refine lv_iload_n hx hb dX11_isLawfulTo_139 rfl (lv_at hl 4 rfl) ?_
                have b9_20 : f < 201 := by omega
                refine z_iald hx hb hK hP 1 0 rfl rfl (e := f) rfl b9_20 (Nat.le_of_ble_eq_true rfl) dX11_isLawfulTo_140 ?_
                refine lv_if_eq (tgt := 185) hx hb dX11_isLawfulTo_141 rfl (fun c_21 => ?_) (fun c_21 => ?_)
                · have c_21 : (kd f).toInt = 0 := zc_eq rfl rfl c_21
                  refine lv_iinc (v := nI (k + 1)) (lv' := [(5, .int (nI (k + 1))), (7, .int (cy (40 * g + k))), (6, .int (cx (40 * g + k))), (0, .ref k0), (1, .int (nI f)), (2, .int (nI g)), (3, .int 5), (4, .int (-1))]) hx hb dX11_isLawfulTo_185 hl (k := 2) rfl (nI_add k 1) (Nat.le_of_ble_eq_true rfl) rfl (fun ls hl => ?_)
                  refine lv_goto (tgt := 62) hx hb dX11_isLawfulTo_188 rfl ?_
                  exact ih_62 (k + 1) z9 q_17 T1 P1 Q1 H locs ls (by first | with_reducible assumption | omega) (by first | with_reducible assumption | omega) (by intro j hj; rcases Nat.lt_or_ge j k with h | h; exact hall j h; obtain rfl : j = k := (by first | with_reducible assumption | omega); exact ⟨fun h5 => (by first | (exfalso; omega) | exact zp_ieq.mp (by first | with_reducible assumption | assumption)), fun h0 => (by first | (exfalso; omega) | exact id | assumption)⟩) hP hD hS (lv_sub hl [0, 3, 4, 5, 6, 7] rfl)
                · have c_21 : ¬ (kd f).toInt = 0 := zc_ne rfl rfl c_21
                  refine lv_iload_n hx hb dX11_isLawfulTo_144 rfl (lv_at hl 6 rfl) ?_
                  refine lv_iconst (v := 5) hx hb dX11_isLawfulTo_145 rfl ?_
                  refine lv_icmp_eq (tgt := 185) hx hb dX11_isLawfulTo_146 rfl (fun c_22 => ?_) (fun c_22 => ?_)
                  · refine lv_iinc (v := nI (k + 1)) (lv' := [(5, .int (nI (k + 1))), (7, .int (cy (40 * g + k))), (6, .int (cx (40 * g + k))), (0, .ref k0), (1, .int (nI f)), (2, .int (nI g)), (3, .int 5), (4, .int (-1))]) hx hb dX11_isLawfulTo_185 hl (k := 2) rfl (nI_add k 1) (Nat.le_of_ble_eq_true rfl) rfl (fun ls hl => ?_)
                    refine lv_goto (tgt := 62) hx hb dX11_isLawfulTo_188 rfl ?_
                    exact ih_62 (k + 1) z9 q_17 T1 P1 Q1 H locs ls (by first | with_reducible assumption | omega) (by first | with_reducible assumption | omega) (by intro j hj; rcases Nat.lt_or_ge j k with h | h; exact hall j h; obtain rfl : j = k := (by first | with_reducible assumption | omega); exact ⟨fun h5 => (by first | (exfalso; omega) | exact zp_ieq.mp (by first | with_reducible assumption | assumption)), fun h0 => (by first | (exfalso; omega) | exact id | assumption)⟩) hP hD hS (lv_sub hl [0, 3, 4, 5, 6, 7] rfl)
                  · exact absurd (by decide) c_22
              · have c_19 : ¬ (pI (inF (kd f).toInt n (cF40 cx f) (cF40 cy f) (cF40 cx g k).toInt (cF40 cy g k).toInt)).toInt = (pI (IN k)).toInt := zc_ne rfl rfl c_19
                refine lv_iconst (v := 0) hx hb dX11_isLawfulTo_133 rfl ?_
                obtain ⟨hP9, hD9⟩ := zu_sub (wc := [_, _, _, _, _, _, _, _, _, _, _, _, _, _]) hP hD [true, true, true, true, true, true, true, true, true, true, true, true, true, true] rfl rfl
                rw [hQ9]
                exact W.zret (ty := .boolean) (v := 0) hx hb hr (rfl) (fun t ht hW => ⟨⟨congrArg (fun z => Outcome.returned (some (Value.int z))) (show (0 : Int32) = pI (lawTo (ox 0) (oy 0) (kd f).toInt n (cF40 cx f) (cF40 cy f) (kd g).toInt m2 (cF40 cx g) (cF40 cy g) MT WI IN (fun _ => False)) from (zp_f (fun h => absurd (zp_ieq.mpr ((h.2.2.1 k (by omega)).1 (by omega))) (by first | with_reducible assumption | assumption))).symm), z9, q_17, T1, P1, Q1, by rw [ht]; exact hP9, hD9⟩, hS.F ht⟩) hS.2.2 dX11_isLawfulTo_134
      exact hl_62 _ 0 (I0 31) q_1 T0 P0 Q0 H locs ls (Nat.lt_succ_self _) (by first | with_reducible assumption | omega) (by intro j hj; omega) hP hD hS (lv_sub hl [0, 1, 2, 3, 4, 5] rfl)
    · have c_4 : 5 ≤ (kd g).toInt := zp_1 c_4
      refine lv_aload_n hx hb dX11_isLawfulTo_25 rfl (lv_at hl 0 rfl) ?_
      refine lv_iload_n hx hb dX11_isLawfulTo_26 rfl (lv_at hl 2 rfl) ?_
      refine lv_aload_n hx hb dX11_isLawfulTo_27 rfl (lv_at hl 0 rfl) ?_
      refine va_get (D := (dC, dI)) (ci := 9) (v := .ref (a 12)) (C := RX11) (T := TX11) (N := 55) hx hb hts inX11 hown hK hP 0 rfl rfl 12 (Nat.le_of_ble_eq_true rfl) (hts _ mw_1171) (fun _ h9 => h9) rfl dX11_isLawfulTo_28 ?_
      refine lv_bipush (v := 40) hx hb dX11_isLawfulTo_31 rfl ?_
      refine lv_iload_n hx hb dX11_isLawfulTo_33 rfl (lv_at hl 1 rfl) ?_
      refine lv_imul hx hb dX11_isLawfulTo_34 ?_
      refine zz_i (v := nI (40 * f)) (pk_mul 40 f) ?_
      have b9_23 : 40 * f < 8040 := by omega
      refine z_iald hx hb hK hP 3 0 rfl rfl (e := 40 * f) rfl b9_23 (Nat.le_of_ble_eq_true rfl) dX11_isLawfulTo_35 ?_
      refine lv_aload_n hx hb dX11_isLawfulTo_36 rfl (lv_at hl 0 rfl) ?_
      refine va_get (D := (dC, dI)) (ci := 9) (v := .ref (a 13)) (C := RX11) (T := TX11) (N := 55) hx hb hts inX11 hown hK hP 0 rfl rfl 13 (Nat.le_of_ble_eq_true rfl) (hts _ mw_1172) (fun _ h9 => h9) rfl dX11_isLawfulTo_37 ?_
      refine lv_bipush (v := 40) hx hb dX11_isLawfulTo_40 rfl ?_
      refine lv_iload_n hx hb dX11_isLawfulTo_42 rfl (lv_at hl 1 rfl) ?_
      refine lv_imul hx hb dX11_isLawfulTo_43 ?_
      refine zz_i (v := nI (40 * f)) (pk_mul 40 f) ?_
      refine z_iald hx hb hK hP 4 0 rfl rfl (e := 40 * f) rfl b9_23 (Nat.le_of_ble_eq_true rfl) dX11_isLawfulTo_44 ?_
      obtain ⟨hPc, hDc, hFc⟩ := zo_sub (wc := [_, _, _, _, _, _]) hP hD hS hA [0, 1, 2, 3, 4, 5] (by decide +kernel) rfl
      refine zcall (st1 := [.int (pI (¬ (∃ i, i < eO (kd g).toInt m2 ∧ eOn m2 (cF40 cx g) (cF40 cy g) i (cx (40 * f)).toInt (cy (40 * f)).toInt) ∧ par2 (eTg m2 (cF40 cx g) (cF40 cy g) (cx (40 * f)).toInt (cy (40 * f)).toInt) (eO (kd g).toInt m2)))]) (va_runV (As := [.int (nI g), .int (cx (40 * f)), .int (cy (40 * f))]) (rest := []) ⟨hx, hb, hml, hown, hts⟩ (k_M_isInside l dC dI cI cZ cF H.size k0 a I0 J0 g m2 kd mn cx cy q_1 (cx (40 * f)) (cy (40 * f)) (by first | with_reducible assumption | omega) (by first | with_reducible assumption | assumption) (by first | with_reducible assumption | omega) (by first | with_reducible assumption | assumption) ((hp_f 0 (by first | with_reducible assumption | omega)).1) ((hp_f 0 (by first | with_reducible assumption | omega)).2)) (csV_183 hts rfl rfl ⟨Nat.le_of_ble_eq_true rfl, Nat.le_of_ble_eq_true rfl⟩) (zPV2 (q0 := 0) (ci := 9) hPc hDc hK hXN rfl rfl) rfl rfl hl.1 rfl (lv_room (Nat.le_of_ble_eq_true rfl)) dX11_isLawfulTo_45 ⟨Nat.le_of_ble_eq_true rfl, Nat.le_of_ble_eq_true rfl⟩) hS hFc hFc rfl (fun t H locs ht hB hk1 hS => ?_)
      obtain ⟨q_24, hP1, hD1⟩ := hB
      rw [ht] at hP1
      obtain ⟨hP, hD⟩ := zn (W2 := [_, _, _, _, _, (oa (a 32) cI 8 q_24), _, _, _, _, _, _, _, _]) hP hD hk1 hFc hP1 hD1 [0, 1, 2, 3, 4, 5] zl_147 zl_147 [0, 1, 2, 3, 4, 5] (by decide +kernel) rfl rfl rfl rfl rfl
      clear hk1 hPc hDc hFc hP1 hD1 ht
      refine zz_i (v := pI (inF (kd g).toInt m2 (cF40 cx g) (cF40 cy g) (cF40 cx f 0).toInt (cF40 cy f 0).toInt)) (rfl) ?_
      refine lv_aload_n hx hb dX11_isLawfulTo_48 rfl (lv_at hl 0 rfl) ?_
      refine va_get (D := (dC, dI)) (ci := 9) (v := .ref (a 38)) (C := RX11) (T := TX11) (N := 55) hx hb hts inX11 hown hK hP 0 rfl rfl 38 (Nat.le_of_ble_eq_true rfl) (hts _ mw_1197) (fun _ h9 => h9) rfl dX11_isLawfulTo_49 ?_
      refine lv_iload_n hx hb dX11_isLawfulTo_52 rfl (lv_at hl 2 rfl) ?_
      refine z_zald hx hb hK hP 12 1 rfl rfl (e := g) rfl b9_2 (Nat.le_of_ble_eq_true rfl) dX11_isLawfulTo_53 ?_
      refine zz_i (v := pI WI) (hwi (by omega)) ?_
      refine lv_icmp_eq (tgt := 59) hx hb dX11_isLawfulTo_54 rfl (fun c_25 => ?_) (fun c_25 => ?_)
      · have c_25 : (pI (inF (kd g).toInt m2 (cF40 cx g) (cF40 cy g) (cF40 cx f 0).toInt (cF40 cy f 0).toInt)).toInt = (pI WI).toInt := zc_eq rfl rfl c_25
        refine lv_iconst (v := 0) hx hb dX11_isLawfulTo_59 rfl ?_
        refine lv_istore (lv' := [(5, .int 0), (0, .ref k0), (1, .int (nI f)), (2, .int (nI g)), (3, .int 5), (4, .int (-1))]) hx hb dX11_isLawfulTo_60 hl (Nat.le_of_ble_eq_true rfl) rfl (fun ls hl => ?_)
        have hl_62 : ∀ (n9 : Nat) (k : Nat) (z9 : Int32) (S1 : Nat → Int32) (T1 : Nat → Int32) (P1 : Nat → Int32) (Q1 : Nat → Int32) (H : Heap) (locs : List Loc) (ls : Array Slot), m2 - k < n9 → (k ≤ m2) → (∀ j, j < k → (5 ≤ (kd f).toInt → (inF (kd f).toInt n (cF40 cx f) (cF40 cy f) (cF40 cx g j).toInt (cF40 cy g j).toInt ↔ IN j)) ∧ (¬ (kd f).toInt = 0 → ¬ (fun _ => False) j)) → va_P (dC, dI) classes [(om k0 a (upd I0 31 z9) J0), (oa (a 1) cI 201 kd), (oa (a 11) cI 201 mn), (oa (a 12) cI 8040 cx), (oa (a 13) cI 8040 cy), (oa (a 32) cI 8 S1), (oa (a 40) cI 6 T1), (oa (a 29) cI 42 P1), (oa (a 30) cI 42 Q1), (oa (a 33) cI 42 ox), (oa (a 34) cI 42 oy), (oa (a 37) cZ 201 mt), (oa (a 38) cZ 201 wi), (oa (a 39) cZ 8040 ins)] H → va_D A [(om k0 a (upd I0 31 z9) J0), (oa (a 1) cI 201 kd), (oa (a 11) cI 201 mn), (oa (a 12) cI 8040 cx), (oa (a 13) cI 8040 cy), (oa (a 32) cI 8 S1), (oa (a 40) cI 6 T1), (oa (a 29) cI 42 P1), (oa (a 30) cI 42 Q1), (oa (a 33) cI 42 ox), (oa (a 34) cI 42 oy), (oa (a 37) cZ 201 mt), (oa (a 38) cZ 201 wi), (oa (a 39) cZ 8040 ins)] → va_S A s.heap H locs → lv_has ls 8 [(5, .int (nI k)), (0, .ref k0), (1, .int (nI f)), (2, .int (nI g)), (3, .int 5), (4, .int (-1))] → W p l e ({ frames := 4, cells := 0, slots := 0, locals := 108 } : Room) s m ([.ref k0, .int (nI f), .int (nI g), .int 5, .int (-1)] : List Value).toArray below meth c H locs 0 0 Q9 (F0 m 62 ls []) := by
          intro n9
          induction n9 with
          | zero => intro k z9 S1 T1 P1 Q1 H locs ls hm; exact absurd hm (Nat.not_lt_zero _)
          | succ n9 ih_62 =>
            intro k z9 S1 T1 P1 Q1 H locs ls hm hk hall hP hD hS hl
            refine lv_iload hx hb dX11_isLawfulTo_62 (lv_at hl 0 rfl) ?_
            refine lv_aload_n hx hb dX11_isLawfulTo_64 rfl (lv_at hl 1 rfl) ?_
            refine va_get (D := (dC, dI)) (ci := 9) (v := .ref (a 11)) (C := RX11) (T := TX11) (N := 55) hx hb hts inX11 hown hK hP 0 rfl rfl 11 (Nat.le_of_ble_eq_true rfl) (hts _ mw_1170) (fun _ h9 => h9) rfl dX11_isLawfulTo_65 ?_
            refine lv_iload_n hx hb dX11_isLawfulTo_68 rfl (lv_at hl 3 rfl) ?_
            refine z_iald hx hb hK hP 2 0 rfl rfl (e := g) rfl b9_2 (Nat.le_of_ble_eq_true rfl) dX11_isLawfulTo_69 ?_
            refine zz_i (v := nI m2) (hm_g) ?_
            have b9_27 : zlt (k) := show k < 2147483648 by omega
            have b9_28 : zlt (m2) := show m2 < 2147483648 by omega
            refine lv_icmp_ge (tgt := 191) hx hb dX11_isLawfulTo_70 rfl (fun c_26 => ?_) (fun c_26 => ?_)
            · have c_26 : ((m2 : Nat) : Int) ≤ ((k : Nat) : Int) := zc_le (nI_toInt b9_28) (nI_toInt b9_27) c_26
              refine lv_aload_n hx hb dX11_isLawfulTo_191 rfl (lv_at hl 1 rfl) ?_
              refine va_get (D := (dC, dI)) (ci := 9) (v := .ref (a 1)) (C := RX11) (T := TX11) (N := 55) hx hb hts inX11 hown hK hP 0 rfl rfl 1 (Nat.le_of_ble_eq_true rfl) (hts _ mw_1160) (fun _ h9 => h9) rfl dX11_isLawfulTo_192 ?_
              refine lv_iload_n hx hb dX11_isLawfulTo_195 rfl (lv_at hl 2 rfl) ?_
              have b9_29 : f < 201 := by omega
              refine z_iald hx hb hK hP 1 0 rfl rfl (e := f) rfl b9_29 (Nat.le_of_ble_eq_true rfl) dX11_isLawfulTo_196 ?_
              refine lv_if_ne (tgt := 209) hx hb dX11_isLawfulTo_197 rfl (fun c_30 => ?_) (fun c_30 => ?_)
              · have c_30 : ¬ (kd f).toInt = 0 := zc_ne rfl rfl c_30
                refine lv_iconst (v := 1) hx hb dX11_isLawfulTo_209 rfl ?_
                refine lv_goto (tgt := 214) hx hb dX11_isLawfulTo_210 rfl ?_
                obtain ⟨hP9, hD9⟩ := zu_sub (wc := [_, _, _, _, _, _, _, _, _, _, _, _, _, _]) hP hD [true, true, true, true, true, true, true, true, true, true, true, true, true, true] rfl rfl
                rw [hQ9]
                exact W.zret (ty := .boolean) (v := 1) hx hb hr (rfl) (fun t ht hW => ⟨⟨congrArg (fun z => Outcome.returned (some (Value.int z))) (show (1 : Int32) = pI (lawTo (ox 0) (oy 0) (kd f).toInt n (cF40 cx f) (cF40 cy f) (kd g).toInt m2 (cF40 cx g) (cF40 cy g) MT WI IN (fun _ => False)) from (zp_t (by first | exact ⟨zp_ieq.mp (by first | with_reducible assumption | assumption), fun h => (by first | (exfalso; omega) | exact zp_ieq.mp (by first | with_reducible assumption | assumption)), fun j hj => hall j (by omega), fun h => (by first | (exfalso; omega) | assumption)⟩ | exact fun h => absurd (h.2.2.2 (by omega)) (by first | with_reducible assumption | assumption))).symm), z9, S1, T1, P1, Q1, by rw [ht]; exact hP9, hD9⟩, hS.F ht⟩) hS.2.2 dX11_isLawfulTo_214
              · have c_30 : (kd f).toInt = 0 := zc_eq rfl rfl c_30
                refine lv_aload_n hx hb dX11_isLawfulTo_200 rfl (lv_at hl 1 rfl) ?_
                refine lv_iload_n hx hb dX11_isLawfulTo_201 rfl (lv_at hl 2 rfl) ?_
                refine lv_iload_n hx hb dX11_isLawfulTo_202 rfl (lv_at hl 3 rfl) ?_
                obtain ⟨hPc, hDc, hFc⟩ := zo_sub (wc := [_, _, _, _, _, _, _, _]) hP hD hS hA [0, 1, 2, 3, 4, 5, 9, 10] (by decide +kernel) rfl
                refine zcall (st1 := [.int (pI (∀ k, k < eO (kd g).toInt m2 → fWy (ox 0).toInt (oy 0).toInt (cx (40 * f)).toInt (cy (40 * f)).toInt m2 (cF40 cx g) (cF40 cy g) k))]) (va_runV (As := [.int (nI f), .int (nI g)]) (rest := []) ⟨hx, hb, hml, hown, hts⟩ (k_M_isFreeWay l dC dI cI cZ cF H.size k0 a (upd I0 31 z9) J0 f g m2 kd mn cx cy S1 ox oy (by first | with_reducible assumption | omega) ((hpo 0 (by first | with_reducible assumption | omega)).1) ((hpo 0 (by first | with_reducible assumption | omega)).2) ((hp_f 0 (by first | with_reducible assumption | omega)).1) ((hp_f 0 (by first | with_reducible assumption | omega)).2) (by first | with_reducible assumption | omega) (by first | with_reducible assumption | assumption) (by first | with_reducible assumption | omega) (by first | with_reducible assumption | assumption)) (csV_181 hts rfl rfl ⟨Nat.le_of_ble_eq_true rfl, Nat.le_of_ble_eq_true rfl⟩) (zPV2 (q0 := 0) (ci := 9) hPc hDc hK hXN rfl rfl) rfl rfl hl.1 rfl (lv_room (Nat.le_of_ble_eq_true rfl)) dX11_isLawfulTo_203 ⟨Nat.le_of_ble_eq_true rfl, Nat.le_of_ble_eq_true rfl⟩) hS hFc hFc rfl (fun t H locs ht hB hk1 hS => ?_)
                obtain ⟨q_31, hP1, hD1⟩ := hB
                rw [ht] at hP1
                obtain ⟨hP, hD⟩ := zn (W2 := [_, _, _, _, _, (oa (a 32) cI 8 q_31), _, _, _, _, _, _, _, _]) hP hD hk1 hFc hP1 hD1 zl_148 zl_149 zl_149 zl_148 (by decide +kernel) rfl rfl rfl rfl rfl
                clear hk1 hPc hDc hFc hP1 hD1 ht
                refine zz_i (v := pI (∀ k, k < eO (kd g).toInt m2 → fWy (ox 0).toInt (oy 0).toInt (cF40 cx f 0).toInt (cF40 cy f 0).toInt m2 (cF40 cx g) (cF40 cy g) k)) (rfl) ?_
                refine lv_if_eq (tgt := 213) hx hb dX11_isLawfulTo_206 rfl (fun c_32 => ?_) (fun c_32 => ?_)
                · have c_32 : ¬ (∀ k, k < eO (kd g).toInt m2 → fWy (ox 0).toInt (oy 0).toInt (cF40 cx f 0).toInt (cF40 cy f 0).toInt m2 (cF40 cx g) (cF40 cy g) k) := zp_0 c_32
                  refine lv_iconst (v := 0) hx hb dX11_isLawfulTo_213 rfl ?_
                  obtain ⟨hP9, hD9⟩ := zu_sub (wc := [_, _, _, _, _, _, _, _, _, _, _, _, _, _]) hP hD [true, true, true, true, true, true, true, true, true, true, true, true, true, true] rfl rfl
                  rw [hQ9]
                  exact W.zret (ty := .boolean) (v := 0) hx hb hr (rfl) (fun t ht hW => ⟨⟨congrArg (fun z => Outcome.returned (some (Value.int z))) (show (0 : Int32) = pI (lawTo (ox 0) (oy 0) (kd f).toInt n (cF40 cx f) (cF40 cy f) (kd g).toInt m2 (cF40 cx g) (cF40 cy g) MT WI IN (fun _ => False)) from (zp_f (by first | exact ⟨zp_ieq.mp (by first | with_reducible assumption | assumption), fun h => (by first | (exfalso; omega) | exact zp_ieq.mp (by first | with_reducible assumption | assumption)), fun j hj => hall j (by omega), fun h => (by first | (exfalso; omega) | assumption)⟩ | exact fun h => absurd (h.2.2.2 (by omega)) (by first | with_reducible assumption | assumption))).symm), z9, q_31, T1, P1, Q1, by rw [ht]; exact hP9, hD9⟩, hS.F ht⟩) hS.2.2 dX11_isLawfulTo_214
                · have c_32 : ∀ k, k < eO (kd g).toInt m2 → fWy (ox 0).toInt (oy 0).toInt (cF40 cx f 0).toInt (cF40 cy f 0).toInt m2 (cF40 cx g) (cF40 cy g) k := zp_1 c_32
                  refine lv_iconst (v := 1) hx hb dX11_isLawfulTo_209 rfl ?_
                  refine lv_goto (tgt := 214) hx hb dX11_isLawfulTo_210 rfl ?_
                  obtain ⟨hP9, hD9⟩ := zu_sub (wc := [_, _, _, _, _, _, _, _, _, _, _, _, _, _]) hP hD [true, true, true, true, true, true, true, true, true, true, true, true, true, true] rfl rfl
                  rw [hQ9]
                  exact W.zret (ty := .boolean) (v := 1) hx hb hr (rfl) (fun t ht hW => ⟨⟨congrArg (fun z => Outcome.returned (some (Value.int z))) (show (1 : Int32) = pI (lawTo (ox 0) (oy 0) (kd f).toInt n (cF40 cx f) (cF40 cy f) (kd g).toInt m2 (cF40 cx g) (cF40 cy g) MT WI IN (fun _ => False)) from (zp_t (by first | exact ⟨zp_ieq.mp (by first | with_reducible assumption | assumption), fun h => (by first | (exfalso; omega) | exact zp_ieq.mp (by first | with_reducible assumption | assumption)), fun j hj => hall j (by omega), fun h => (by first | (exfalso; omega) | assumption)⟩ | exact fun h => absurd (h.2.2.2 (by omega)) (by first | with_reducible assumption | assumption))).symm), z9, q_31, T1, P1, Q1, by rw [ht]; exact hP9, hD9⟩, hS.F ht⟩) hS.2.2 dX11_isLawfulTo_214
            · have c_26 : ((k : Nat) : Int) < ((m2 : Nat) : Int) := zc_nle (nI_toInt b9_28) (nI_toInt b9_27) c_26
              have hk9 : k < m2 := (by omega)
              refine lv_aload_n hx hb dX11_isLawfulTo_73 rfl (lv_at hl 1 rfl) ?_
              refine va_get (D := (dC, dI)) (ci := 9) (v := .ref (a 12)) (C := RX11) (T := TX11) (N := 55) hx hb hts inX11 hown hK hP 0 rfl rfl 12 (Nat.le_of_ble_eq_true rfl) (hts _ mw_1171) (fun _ h9 => h9) rfl dX11_isLawfulTo_74 ?_
              refine lv_bipush (v := 40) hx hb dX11_isLawfulTo_77 rfl ?_
              refine lv_iload_n hx hb dX11_isLawfulTo_79 rfl (lv_at hl 3 rfl) ?_
              refine lv_imul hx hb dX11_isLawfulTo_80 ?_
              refine zz_i (v := nI (40 * g)) (pk_mul 40 g) ?_
              refine lv_iload hx hb dX11_isLawfulTo_81 (lv_at hl 0 rfl) ?_
              refine lv_iadd hx hb dX11_isLawfulTo_83 ?_
              refine zz_i (v := nI (40 * g + k)) (nI_add (40 * g) k) ?_
              have b9_33 : 40 * g + k < 8040 := by omega
              refine z_iald hx hb hK hP 3 0 rfl rfl (e := 40 * g + k) rfl b9_33 (Nat.le_of_ble_eq_true rfl) dX11_isLawfulTo_84 ?_
              refine lv_istore (lv' := [(6, .int (cx (40 * g + k))), (5, .int (nI k)), (0, .ref k0), (1, .int (nI f)), (2, .int (nI g)), (3, .int 5), (4, .int (-1))]) hx hb dX11_isLawfulTo_85 hl (Nat.le_of_ble_eq_true rfl) rfl (fun ls hl => ?_)
              refine lv_aload_n hx hb dX11_isLawfulTo_87 rfl (lv_at hl 2 rfl) ?_
              refine va_get (D := (dC, dI)) (ci := 9) (v := .ref (a 13)) (C := RX11) (T := TX11) (N := 55) hx hb hts inX11 hown hK hP 0 rfl rfl 13 (Nat.le_of_ble_eq_true rfl) (hts _ mw_1172) (fun _ h9 => h9) rfl dX11_isLawfulTo_88 ?_
              refine lv_bipush (v := 40) hx hb dX11_isLawfulTo_91 rfl ?_
              refine lv_iload_n hx hb dX11_isLawfulTo_93 rfl (lv_at hl 4 rfl) ?_
              refine lv_imul hx hb dX11_isLawfulTo_94 ?_
              refine zz_i (v := nI (40 * g)) (pk_mul 40 g) ?_
              refine lv_iload hx hb dX11_isLawfulTo_95 (lv_at hl 1 rfl) ?_
              refine lv_iadd hx hb dX11_isLawfulTo_97 ?_
              refine zz_i (v := nI (40 * g + k)) (nI_add (40 * g) k) ?_
              refine z_iald hx hb hK hP 4 0 rfl rfl (e := 40 * g + k) rfl b9_33 (Nat.le_of_ble_eq_true rfl) dX11_isLawfulTo_98 ?_
              refine lv_istore (lv' := [(7, .int (cy (40 * g + k))), (6, .int (cx (40 * g + k))), (5, .int (nI k)), (0, .ref k0), (1, .int (nI f)), (2, .int (nI g)), (3, .int 5), (4, .int (-1))]) hx hb dX11_isLawfulTo_99 hl (Nat.le_of_ble_eq_true rfl) rfl (fun ls hl => ?_)
              refine lv_aload_n hx hb dX11_isLawfulTo_101 rfl (lv_at hl 3 rfl) ?_
              refine lv_iload_n hx hb dX11_isLawfulTo_102 rfl (lv_at hl 4 rfl) ?_
              obtain ⟨hPc, hDc, hFc, hI1⟩ := zi_sub (wc := [_, _]) hP hD hS hA [0, 1] rfl rfl
              refine zcall (st1 := [.int (pI (5 ≤ (kd f).toInt))]) (va_runV (As := [.int (nI f)]) (rest := []) ⟨hx, hb, hml, hown, hts⟩ (k_M_isRing l dC dI cI cZ cF H.size k0 a (upd I0 31 z9) J0 f kd (by first | with_reducible assumption | omega)) (csV_165 hts rfl rfl ⟨Nat.le_of_ble_eq_true rfl, Nat.le_of_ble_eq_true rfl⟩) (zPV2 (q0 := 0) (ci := 9) hPc hDc hK hXN rfl rfl) rfl rfl hl.1 rfl (lv_room (Nat.le_of_ble_eq_true rfl)) dX11_isLawfulTo_103 ⟨Nat.le_of_ble_eq_true rfl, Nat.le_of_ble_eq_true rfl⟩) hS hFc hFc rfl (fun t H locs ht hB hk1 hS => ?_)
              obtain ⟨hP1, hD1⟩ := hB
              rw [ht] at hP1
              replace hP := z0 hP hD hk1 hP1 hI1
              clear hk1 hPc hDc hFc hP1 hD1 ht hI1
              refine lv_if_eq (tgt := 135) hx hb dX11_isLawfulTo_106 rfl (fun c_34 => ?_) (fun c_34 => ?_)
              · have c_34 : ¬ (5 ≤ (kd f).toInt) := zp_0 c_34
                refine lv_aload_n hx hb dX11_isLawfulTo_135 rfl (lv_at hl 3 rfl) ?_
                refine va_get (D := (dC, dI)) (ci := 9) (v := .ref (a 1)) (C := RX11) (T := TX11) (N := 55) hx hb hts inX11 hown hK hP 0 rfl rfl 1 (Nat.le_of_ble_eq_true rfl) (hts _ mw_1160) (fun _ h9 => h9) rfl dX11_isLawfulTo_136 ?_
                refine lv_iload_n hx hb dX11_isLawfulTo_139 rfl (lv_at hl 4 rfl) ?_
                have b9_35 : f < 201 := by omega
                refine z_iald hx hb hK hP 1 0 rfl rfl (e := f) rfl b9_35 (Nat.le_of_ble_eq_true rfl) dX11_isLawfulTo_140 ?_
                refine lv_if_eq (tgt := 185) hx hb dX11_isLawfulTo_141 rfl (fun c_36 => ?_) (fun c_36 => ?_)
                · have c_36 : (kd f).toInt = 0 := zc_eq rfl rfl c_36
                  refine lv_iinc (v := nI (k + 1)) (lv' := [(5, .int (nI (k + 1))), (7, .int (cy (40 * g + k))), (6, .int (cx (40 * g + k))), (0, .ref k0), (1, .int (nI f)), (2, .int (nI g)), (3, .int 5), (4, .int (-1))]) hx hb dX11_isLawfulTo_185 hl (k := 2) rfl (nI_add k 1) (Nat.le_of_ble_eq_true rfl) rfl (fun ls hl => ?_)
                  refine lv_goto (tgt := 62) hx hb dX11_isLawfulTo_188 rfl ?_
                  exact ih_62 (k + 1) z9 S1 T1 P1 Q1 H locs ls (by first | with_reducible assumption | omega) (by first | with_reducible assumption | omega) (by intro j hj; rcases Nat.lt_or_ge j k with h | h; exact hall j h; obtain rfl : j = k := (by first | with_reducible assumption | omega); exact ⟨fun h5 => (by first | (exfalso; omega) | exact zp_ieq.mp (by first | with_reducible assumption | assumption)), fun h0 => (by first | (exfalso; omega) | exact id | assumption)⟩) hP hD hS (lv_sub hl [0, 3, 4, 5, 6, 7] rfl)
                · have c_36 : ¬ (kd f).toInt = 0 := zc_ne rfl rfl c_36
                  refine lv_iload_n hx hb dX11_isLawfulTo_144 rfl (lv_at hl 6 rfl) ?_
                  refine lv_iconst (v := 5) hx hb dX11_isLawfulTo_145 rfl ?_
                  refine lv_icmp_eq (tgt := 185) hx hb dX11_isLawfulTo_146 rfl (fun c_37 => ?_) (fun c_37 => ?_)
                  · refine lv_iinc (v := nI (k + 1)) (lv' := [(5, .int (nI (k + 1))), (7, .int (cy (40 * g + k))), (6, .int (cx (40 * g + k))), (0, .ref k0), (1, .int (nI f)), (2, .int (nI g)), (3, .int 5), (4, .int (-1))]) hx hb dX11_isLawfulTo_185 hl (k := 2) rfl (nI_add k 1) (Nat.le_of_ble_eq_true rfl) rfl (fun ls hl => ?_)
                    refine lv_goto (tgt := 62) hx hb dX11_isLawfulTo_188 rfl ?_
                    exact ih_62 (k + 1) z9 S1 T1 P1 Q1 H locs ls (by first | with_reducible assumption | omega) (by first | with_reducible assumption | omega) (by intro j hj; rcases Nat.lt_or_ge j k with h | h; exact hall j h; obtain rfl : j = k := (by first | with_reducible assumption | omega); exact ⟨fun h5 => (by first | (exfalso; omega) | exact zp_ieq.mp (by first | with_reducible assumption | assumption)), fun h0 => (by first | (exfalso; omega) | exact id | assumption)⟩) hP hD hS (lv_sub hl [0, 3, 4, 5, 6, 7] rfl)
                  · exact absurd (by decide) c_37
              · have c_34 : 5 ≤ (kd f).toInt := zp_1 c_34
                refine lv_aload_n hx hb dX11_isLawfulTo_109 rfl (lv_at hl 3 rfl) ?_
                refine lv_iload_n hx hb dX11_isLawfulTo_110 rfl (lv_at hl 4 rfl) ?_
                refine lv_iload hx hb dX11_isLawfulTo_111 (lv_at hl 1 rfl) ?_
                refine lv_iload hx hb dX11_isLawfulTo_113 (lv_at hl 0 rfl) ?_
                obtain ⟨hPc, hDc, hFc⟩ := zo_sub (wc := [_, _, _, _, _, _]) hP hD hS hA [0, 1, 2, 3, 4, 5] (by decide +kernel) rfl
                refine zcall (st1 := [.int (pI (¬ (∃ i, i < eO (kd f).toInt n ∧ eOn n (cF40 cx f) (cF40 cy f) i (cx (40 * g + k)).toInt (cy (40 * g + k)).toInt) ∧ par2 (eTg n (cF40 cx f) (cF40 cy f) (cx (40 * g + k)).toInt (cy (40 * g + k)).toInt) (eO (kd f).toInt n)))]) (va_runV (As := [.int (nI f), .int (cx (40 * g + k)), .int (cy (40 * g + k))]) (rest := []) ⟨hx, hb, hml, hown, hts⟩ (k_M_isInside l dC dI cI cZ cF H.size k0 a (upd I0 31 z9) J0 f n kd mn cx cy S1 (cx (40 * g + k)) (cy (40 * g + k)) (by first | with_reducible assumption | omega) (by first | with_reducible assumption | assumption) (by first | with_reducible assumption | omega) (by first | with_reducible assumption | assumption) ((hp_g k hk9).1) ((hp_g k hk9).2)) (csV_183 hts rfl rfl ⟨Nat.le_of_ble_eq_true rfl, Nat.le_of_ble_eq_true rfl⟩) (zPV2 (q0 := 0) (ci := 9) hPc hDc hK hXN rfl rfl) rfl rfl hl.1 rfl (lv_room (Nat.le_of_ble_eq_true rfl)) dX11_isLawfulTo_115 ⟨Nat.le_of_ble_eq_true rfl, Nat.le_of_ble_eq_true rfl⟩) hS hFc hFc rfl (fun t H locs ht hB hk1 hS => ?_)
                obtain ⟨q_38, hP1, hD1⟩ := hB
                rw [ht] at hP1
                obtain ⟨hP, hD⟩ := zn (W2 := [_, _, _, _, _, (oa (a 32) cI 8 q_38), _, _, _, _, _, _, _, _]) hP hD hk1 hFc hP1 hD1 [0, 1, 2, 3, 4, 5] zl_147 zl_147 [0, 1, 2, 3, 4, 5] (by decide +kernel) rfl rfl rfl rfl rfl
                clear hk1 hPc hDc hFc hP1 hD1 ht
                refine zz_i (v := pI (inF (kd f).toInt n (cF40 cx f) (cF40 cy f) (cF40 cx g k).toInt (cF40 cy g k).toInt)) (rfl) ?_
                refine lv_aload_n hx hb dX11_isLawfulTo_118 rfl (lv_at hl 3 rfl) ?_
                refine va_get (D := (dC, dI)) (ci := 9) (v := .ref (a 39)) (C := RX11) (T := TX11) (N := 55) hx hb hts inX11 hown hK hP 0 rfl rfl 39 (Nat.le_of_ble_eq_true rfl) (hts _ mw_1198) (fun _ h9 => h9) rfl dX11_isLawfulTo_119 ?_
                refine lv_bipush (v := 40) hx hb dX11_isLawfulTo_122 rfl ?_
                refine lv_iload_n hx hb dX11_isLawfulTo_124 rfl (lv_at hl 5 rfl) ?_
                refine lv_imul hx hb dX11_isLawfulTo_125 ?_
                refine zz_i (v := nI (40 * g)) (pk_mul 40 g) ?_
                refine lv_iload hx hb dX11_isLawfulTo_126 (lv_at hl 2 rfl) ?_
                refine lv_iadd hx hb dX11_isLawfulTo_128 ?_
                refine zz_i (v := nI (40 * g + k)) (nI_add (40 * g) k) ?_
                have b9_39 : 40 * g + k < 8040 := by omega
                refine z_zald hx hb hK hP 13 1 rfl rfl (e := 40 * g + k) rfl b9_39 (Nat.le_of_ble_eq_true rfl) dX11_isLawfulTo_129 ?_
                refine zz_i (v := pI (IN k)) (hin k (by omega) (by omega)) ?_
                refine lv_icmp_eq (tgt := 135) hx hb dX11_isLawfulTo_130 rfl (fun c_40 => ?_) (fun c_40 => ?_)
                · have c_40 : (pI (inF (kd f).toInt n (cF40 cx f) (cF40 cy f) (cF40 cx g k).toInt (cF40 cy g k).toInt)).toInt = (pI (IN k)).toInt := zc_eq rfl rfl c_40
                  refine lv_aload_n hx hb dX11_isLawfulTo_135 rfl (lv_at hl 3 rfl) ?_
                  refine va_get (D := (dC, dI)) (ci := 9) (v := .ref (a 1)) (C := RX11) (T := TX11) (N := 55) hx hb hts inX11 hown hK hP 0 rfl rfl 1 (Nat.le_of_ble_eq_true rfl) (hts _ mw_1160) (fun _ h9 => h9) rfl dX11_isLawfulTo_136 ?_
                  refine lv_iload_n hx hb dX11_isLawfulTo_139 rfl (lv_at hl 4 rfl) ?_
                  have b9_41 : f < 201 := by omega
                  refine z_iald hx hb hK hP 1 0 rfl rfl (e := f) rfl b9_41 (Nat.le_of_ble_eq_true rfl) dX11_isLawfulTo_140 ?_
                  refine lv_if_eq (tgt := 185) hx hb dX11_isLawfulTo_141 rfl (fun c_42 => ?_) (fun c_42 => ?_)
                  · have c_42 : (kd f).toInt = 0 := zc_eq rfl rfl c_42
                    refine lv_iinc (v := nI (k + 1)) (lv' := [(5, .int (nI (k + 1))), (7, .int (cy (40 * g + k))), (6, .int (cx (40 * g + k))), (0, .ref k0), (1, .int (nI f)), (2, .int (nI g)), (3, .int 5), (4, .int (-1))]) hx hb dX11_isLawfulTo_185 hl (k := 2) rfl (nI_add k 1) (Nat.le_of_ble_eq_true rfl) rfl (fun ls hl => ?_)
                    refine lv_goto (tgt := 62) hx hb dX11_isLawfulTo_188 rfl ?_
                    exact ih_62 (k + 1) z9 q_38 T1 P1 Q1 H locs ls (by first | with_reducible assumption | omega) (by first | with_reducible assumption | omega) (by intro j hj; rcases Nat.lt_or_ge j k with h | h; exact hall j h; obtain rfl : j = k := (by first | with_reducible assumption | omega); exact ⟨fun h5 => (by first | (exfalso; omega) | exact zp_ieq.mp (by first | with_reducible assumption | assumption)), fun h0 => (by first | (exfalso; omega) | exact id | assumption)⟩) hP hD hS (lv_sub hl [0, 3, 4, 5, 6, 7] rfl)
                  · have c_42 : ¬ (kd f).toInt = 0 := zc_ne rfl rfl c_42
                    refine lv_iload_n hx hb dX11_isLawfulTo_144 rfl (lv_at hl 6 rfl) ?_
                    refine lv_iconst (v := 5) hx hb dX11_isLawfulTo_145 rfl ?_
                    refine lv_icmp_eq (tgt := 185) hx hb dX11_isLawfulTo_146 rfl (fun c_43 => ?_) (fun c_43 => ?_)
                    · refine lv_iinc (v := nI (k + 1)) (lv' := [(5, .int (nI (k + 1))), (7, .int (cy (40 * g + k))), (6, .int (cx (40 * g + k))), (0, .ref k0), (1, .int (nI f)), (2, .int (nI g)), (3, .int 5), (4, .int (-1))]) hx hb dX11_isLawfulTo_185 hl (k := 2) rfl (nI_add k 1) (Nat.le_of_ble_eq_true rfl) rfl (fun ls hl => ?_)
                      refine lv_goto (tgt := 62) hx hb dX11_isLawfulTo_188 rfl ?_
                      exact ih_62 (k + 1) z9 q_38 T1 P1 Q1 H locs ls (by first | with_reducible assumption | omega) (by first | with_reducible assumption | omega) (by intro j hj; rcases Nat.lt_or_ge j k with h | h; exact hall j h; obtain rfl : j = k := (by first | with_reducible assumption | omega); exact ⟨fun h5 => (by first | (exfalso; omega) | exact zp_ieq.mp (by first | with_reducible assumption | assumption)), fun h0 => (by first | (exfalso; omega) | exact id | assumption)⟩) hP hD hS (lv_sub hl [0, 3, 4, 5, 6, 7] rfl)
                    · exact absurd (by decide) c_43
                · have c_40 : ¬ (pI (inF (kd f).toInt n (cF40 cx f) (cF40 cy f) (cF40 cx g k).toInt (cF40 cy g k).toInt)).toInt = (pI (IN k)).toInt := zc_ne rfl rfl c_40
                  refine lv_iconst (v := 0) hx hb dX11_isLawfulTo_133 rfl ?_
                  obtain ⟨hP9, hD9⟩ := zu_sub (wc := [_, _, _, _, _, _, _, _, _, _, _, _, _, _]) hP hD [true, true, true, true, true, true, true, true, true, true, true, true, true, true] rfl rfl
                  rw [hQ9]
                  exact W.zret (ty := .boolean) (v := 0) hx hb hr (rfl) (fun t ht hW => ⟨⟨congrArg (fun z => Outcome.returned (some (Value.int z))) (show (0 : Int32) = pI (lawTo (ox 0) (oy 0) (kd f).toInt n (cF40 cx f) (cF40 cy f) (kd g).toInt m2 (cF40 cx g) (cF40 cy g) MT WI IN (fun _ => False)) from (zp_f (fun h => absurd (zp_ieq.mpr ((h.2.2.1 k (by omega)).1 (by omega))) (by first | with_reducible assumption | assumption))).symm), z9, q_38, T1, P1, Q1, by rw [ht]; exact hP9, hD9⟩, hS.F ht⟩) hS.2.2 dX11_isLawfulTo_134
        exact hl_62 _ 0 (I0 31) q_24 T0 P0 Q0 H locs ls (Nat.lt_succ_self _) (by first | with_reducible assumption | omega) (by intro j hj; omega) hP hD hS (lv_sub hl [0, 1, 2, 3, 4, 5] rfl)
      · have c_25 : ¬ (pI (inF (kd g).toInt m2 (cF40 cx g) (cF40 cy g) (cF40 cx f 0).toInt (cF40 cy f 0).toInt)).toInt = (pI WI).toInt := zc_ne rfl rfl c_25
        refine lv_iconst (v := 0) hx hb dX11_isLawfulTo_57 rfl ?_
        obtain ⟨hP9, hD9⟩ := zu_sub (wc := [_, _, _, _, _, _, _, _, _, _, _, _, _, _]) hP hD [true, true, true, true, true, true, true, true, true, true, true, true, true, true] rfl rfl
        rw [hQ9]
        exact W.zret (ty := .boolean) (v := 0) hx hb hr (rfl) (fun t ht hW => ⟨⟨congrArg (fun z => Outcome.returned (some (Value.int z))) (show (0 : Int32) = pI (lawTo (ox 0) (oy 0) (kd f).toInt n (cF40 cx f) (cF40 cy f) (kd g).toInt m2 (cF40 cx g) (cF40 cy g) MT WI IN (fun _ => False)) from (zp_f (fun h => absurd (zp_ieq.mpr (h.2.1 (by omega))) (by first | with_reducible assumption | assumption))).symm), (I0 31), q_24, T0, P0, Q0, by rw [ht]; exact hP9, hD9⟩, hS.F ht⟩) hS.2.2 dX11_isLawfulTo_58
  · have c_3 : ¬ (pI (mtF (kd f).toInt n (cF40 cx f) (cF40 cy f) (kd g).toInt m2 (cF40 cx g) (cF40 cy g))).toInt = (pI MT).toInt := zc_ne rfl rfl c_3
    refine lv_iconst (v := 0) hx hb dX11_isLawfulTo_15 rfl ?_
    obtain ⟨hP9, hD9⟩ := zu_sub (wc := [_, _, _, _, _, _, _, _, _, _, _, _, _, _]) hP hD [true, true, true, true, true, true, true, true, true, true, true, true, true, true] rfl rfl
    rw [hQ9]
    exact W.zret (ty := .boolean) (v := 0) hx hb hr (rfl) (fun t ht hW => ⟨⟨congrArg (fun z => Outcome.returned (some (Value.int z))) (show (0 : Int32) = pI (lawTo (ox 0) (oy 0) (kd f).toInt n (cF40 cx f) (cF40 cy f) (kd g).toInt m2 (cF40 cx g) (cF40 cy g) MT WI IN (fun _ => False)) from (zp_f (fun h => absurd (zp_ieq.mpr h.1) (by first | with_reducible assumption | assumption))).symm), (I0 31), q_1, T0, P0, Q0, by rw [ht]; exact hP9, hD9⟩, hS.F ht⟩) hS.2.2 dX11_isLawfulTo_16
set_option maxHeartbeats 4000000 in
set_option maxRecDepth 100000 in
theorem k_M_isLawfulTo_m (l : Launch) (dC : Nat → ClassId) (dI : Nat → Nat → Nat) (cI cZ cF : ClassId) (sz : Nat) (k0 : Nat) (a : Nat → Nat) (I0 : Nat → Int32) (J0 : Nat → Int64) (f : Nat) (n : Nat) (g : Nat) (m2 : Nat) (on : Nat) (h : Nat) (kd : Nat → Int32) (mn : Nat → Int32) (cx : Nat → Int32) (cy : Nat → Int32) (S0 : Nat → Int32) (T0 : Nat → Int32) (P0 : Nat → Int32) (Q0 : Nat → Int32) (ox : Nat → Int32) (oy : Nat → Int32) (mt : Nat → Int32) (wi : Nat → Int32) (ins : Nat → Int32) (MT : Prop) (WI : Prop) (IN : Nat → Prop) (hf_f : f ≤ 200) (hm_f : mn f = nI n) (hn_f : 1 ≤ n ∧ n ≤ 40) (hp_f : pls n (cF40 cx f) (cF40 cy f)) (hf_g : g ≤ 200) (hm_g : mn g = nI m2) (hn_g : 1 ≤ m2 ∧ m2 ≤ 40) (hp_g : pls m2 (cF40 cx g) (cF40 cy g)) (hon : I0 35 = nI on) (ho40 : on ≤ 40) (ho1 : 1 ≤ on) (hpo : pls on ox oy) (hmt : mt g = pI MT) (hwi : 5 ≤ (kd g).toInt → wi g = pI WI) (hin : ∀ k, k < m2 → 5 ≤ (kd f).toInt → ins (40 * g + k) = pI (IN k)) (hh : h < 5) (hon2 : n = on) : zM l yX11_isLawfulTo cX11_isLawfulTo 8 (some .boolean) ({ frames := 5, cells := 0, slots := 0, locals := 135 } : Room) [.ref k0, .int (nI f), .int (nI g), .int (nI h), .int (-1)] (dC, dI) (zTy cI cZ cF) [(om k0 a I0 J0), (oa (a 1) cI 201 kd), (oa (a 11) cI 201 mn), (oa (a 12) cI 8040 cx), (oa (a 13) cI 8040 cy), (oa (a 32) cI 8 S0), (oa (a 40) cI 6 T0), (oa (a 29) cI 42 P0), (oa (a 30) cI 42 Q0), (oa (a 33) cI 42 ox), (oa (a 34) cI 42 oy), (oa (a 37) cZ 201 mt), (oa (a 38) cZ 201 wi), (oa (a 39) cZ 8040 ins)] sz (some (.int (pI (lawTo (ox 0) (oy 0) (kd f).toInt n (cF40 cx f) (cF40 cy f) (kd g).toInt m2 (cF40 cx g) (cF40 cy g) MT WI IN (fun k => ∃ e, e < eO (kd f).toInt on ∧ swp on ox oy (cF40 cx f) (cF40 cy f) (cF40 cx g k).toInt (cF40 cy g k).toInt e))))) (fun A t => ∃ (z9 : Int32), ∃ (S1 : Nat → Int32), ∃ (T1 : Nat → Int32), ∃ (P1 : Nat → Int32), ∃ (Q1 : Nat → Int32), zPD (dC, dI) classes A [(om k0 a (upd I0 31 z9) J0), (oa (a 1) cI 201 kd), (oa (a 11) cI 201 mn), (oa (a 12) cI 8040 cx), (oa (a 13) cI 8040 cy), (oa (a 32) cI 8 S1), (oa (a 40) cI 6 T1), (oa (a 29) cI 42 P1), (oa (a 30) cI 42 Q1), (oa (a 33) cI 42 ox), (oa (a 34) cI 42 oy), (oa (a 37) cZ 201 mt), (oa (a 38) cZ 201 wi), (oa (a 39) cZ 8040 ins)] t.heap) 0 0 := by
  refine zIn (own := "ScaleShopModel") (loc := [(0, .ref k0), (1, .int (nI f)), (2, .int (nI g)), (3, .int (nI h)), (4, .int (-1))]) rfl rfl rfl rfl (fun p e s m below meth c hx hb hr hts hown hlocks hml hnm9 A hA hS hP hD hK hXN Q9 hQ9 ls hl => ?_)
  refine lv_aload_n hx hb dX11_isLawfulTo_0 rfl (lv_at hl 0 rfl) ?_
  refine lv_iload_n hx hb dX11_isLawfulTo_1 rfl (lv_at hl 1 rfl) ?_
  refine lv_iload_n hx hb dX11_isLawfulTo_2 rfl (lv_at hl 2 rfl) ?_
  obtain ⟨hPc, hDc, hFc⟩ := zo_sub (wc := [_, _, _, _, _, _]) hP hD hS hA [0, 1, 2, 3, 4, 5] (by decide +kernel) rfl
  refine zcall (st1 := [.int (pI (∃ i, i < eO (kd f).toInt n ∧ ∃ j, j < eO (kd g).toInt m2 ∧ eMt n (cF40 cx f) (cF40 cy f) i m2 (cF40 cx g) (cF40 cy g) j))]) (va_runV (As := [.int (nI f), .int (nI g)]) (rest := []) ⟨hx, hb, hml, hown, hts⟩ (k_M_isMet l dC dI cI cZ cF s.heap.size k0 a I0 J0 f n g m2 kd mn cx cy S0 (by first | with_reducible assumption | omega) (by first | with_reducible assumption | assumption) (by first | with_reducible assumption | omega) (by first | with_reducible assumption | assumption) (by first | with_reducible assumption | omega) (by first | with_reducible assumption | assumption) (by first | with_reducible assumption | omega) (by first | with_reducible assumption | assumption)) (csV_180 hts rfl rfl ⟨Nat.le_of_ble_eq_true rfl, Nat.le_of_ble_eq_true rfl⟩) (zPV2 (q0 := 0) (ci := 9) hPc hDc hK hXN rfl rfl) rfl rfl hl.1 rfl (lv_room (Nat.le_of_ble_eq_true rfl)) dX11_isLawfulTo_3 ⟨Nat.le_of_ble_eq_true rfl, Nat.le_of_ble_eq_true rfl⟩) hS hFc hFc rfl (fun t H locs ht hB hk1 hS => ?_)
  obtain ⟨q_1, hP1, hD1⟩ := hB
  rw [ht] at hP1
  obtain ⟨hP, hD⟩ := zn (W2 := [_, _, _, _, _, (oa (a 32) cI 8 q_1), _, _, _, _, _, _, _, _]) hP hD hk1 hFc hP1 hD1 [0, 1, 2, 3, 4, 5] zl_147 zl_147 [0, 1, 2, 3, 4, 5] (by decide +kernel) rfl rfl rfl rfl rfl
  clear hk1 hPc hDc hFc hP1 hD1 ht
  refine zz_i (v := pI (mtF (kd f).toInt n (cF40 cx f) (cF40 cy f) (kd g).toInt m2 (cF40 cx g) (cF40 cy g))) (rfl) ?_
  refine lv_aload_n hx hb dX11_isLawfulTo_6 rfl (lv_at hl 0 rfl) ?_
  refine va_get (D := (dC, dI)) (ci := 9) (v := .ref (a 37)) (C := RX11) (T := TX11) (N := 55) hx hb hts inX11 hown hK hP 0 rfl rfl 37 (Nat.le_of_ble_eq_true rfl) (hts _ mw_1196) (fun _ h9 => h9) rfl dX11_isLawfulTo_7 ?_
  refine lv_iload_n hx hb dX11_isLawfulTo_10 rfl (lv_at hl 2 rfl) ?_
  have b9_2 : g < 201 := by omega
  refine z_zald hx hb hK hP 11 1 rfl rfl (e := g) rfl b9_2 (Nat.le_of_ble_eq_true rfl) dX11_isLawfulTo_11 ?_
  refine zz_i (v := pI MT) (hmt) ?_
  refine lv_icmp_eq (tgt := 17) hx hb dX11_isLawfulTo_12 rfl (fun c_3 => ?_) (fun c_3 => ?_)
  · have c_3 : (pI (mtF (kd f).toInt n (cF40 cx f) (cF40 cy f) (kd g).toInt m2 (cF40 cx g) (cF40 cy g))).toInt = (pI MT).toInt := zc_eq rfl rfl c_3
    refine lv_aload_n hx hb dX11_isLawfulTo_17 rfl (lv_at hl 0 rfl) ?_
    refine lv_iload_n hx hb dX11_isLawfulTo_18 rfl (lv_at hl 2 rfl) ?_
    obtain ⟨hPc, hDc, hFc, hI1⟩ := zi_sub (wc := [_, _]) hP hD hS hA [0, 1] rfl rfl
    refine zcall (st1 := [.int (pI (5 ≤ (kd g).toInt))]) (va_runV (As := [.int (nI g)]) (rest := []) ⟨hx, hb, hml, hown, hts⟩ (k_M_isRing l dC dI cI cZ cF H.size k0 a I0 J0 g kd (by first | with_reducible assumption | omega)) (csV_165 hts rfl rfl ⟨Nat.le_of_ble_eq_true rfl, Nat.le_of_ble_eq_true rfl⟩) (zPV2 (q0 := 0) (ci := 9) hPc hDc hK hXN rfl rfl) rfl rfl hl.1 rfl (lv_room (Nat.le_of_ble_eq_true rfl)) dX11_isLawfulTo_19 ⟨Nat.le_of_ble_eq_true rfl, Nat.le_of_ble_eq_true rfl⟩) hS hFc hFc rfl (fun t H locs ht hB hk1 hS => ?_)
    obtain ⟨hP1, hD1⟩ := hB
    rw [ht] at hP1
    replace hP := z0 hP hD hk1 hP1 hI1
    clear hk1 hPc hDc hFc hP1 hD1 ht hI1
    refine lv_if_eq (tgt := 59) hx hb dX11_isLawfulTo_22 rfl (fun c_4 => ?_) (fun c_4 => ?_)
    · have c_4 : ¬ (5 ≤ (kd g).toInt) := zp_0 c_4
      refine lv_iconst (v := 0) hx hb dX11_isLawfulTo_59 rfl ?_
      refine lv_istore (lv' := [(5, .int 0), (0, .ref k0), (1, .int (nI f)), (2, .int (nI g)), (3, .int (nI h)), (4, .int (-1))]) hx hb dX11_isLawfulTo_60 hl (Nat.le_of_ble_eq_true rfl) rfl (fun ls hl => ?_)
      have hl_62 : ∀ (n9 : Nat) (k : Nat) (z9 : Int32) (S1 : Nat → Int32) (T1 : Nat → Int32) (P1 : Nat → Int32) (Q1 : Nat → Int32) (H : Heap) (locs : List Loc) (ls : Array Slot), m2 - k < n9 → (k ≤ m2) → (∀ j, j < k → (5 ≤ (kd f).toInt → (inF (kd f).toInt n (cF40 cx f) (cF40 cy f) (cF40 cx g j).toInt (cF40 cy g j).toInt ↔ IN j)) ∧ (¬ (kd f).toInt = 0 → ¬ (fun k => ∃ e, e < eO (kd f).toInt on ∧ swp on ox oy (cF40 cx f) (cF40 cy f) (cF40 cx g k).toInt (cF40 cy g k).toInt e) j)) → va_P (dC, dI) classes [(om k0 a (upd I0 31 z9) J0), (oa (a 1) cI 201 kd), (oa (a 11) cI 201 mn), (oa (a 12) cI 8040 cx), (oa (a 13) cI 8040 cy), (oa (a 32) cI 8 S1), (oa (a 40) cI 6 T1), (oa (a 29) cI 42 P1), (oa (a 30) cI 42 Q1), (oa (a 33) cI 42 ox), (oa (a 34) cI 42 oy), (oa (a 37) cZ 201 mt), (oa (a 38) cZ 201 wi), (oa (a 39) cZ 8040 ins)] H → va_D A [(om k0 a (upd I0 31 z9) J0), (oa (a 1) cI 201 kd), (oa (a 11) cI 201 mn), (oa (a 12) cI 8040 cx), (oa (a 13) cI 8040 cy), (oa (a 32) cI 8 S1), (oa (a 40) cI 6 T1), (oa (a 29) cI 42 P1), (oa (a 30) cI 42 Q1), (oa (a 33) cI 42 ox), (oa (a 34) cI 42 oy), (oa (a 37) cZ 201 mt), (oa (a 38) cZ 201 wi), (oa (a 39) cZ 8040 ins)] → va_S A s.heap H locs → lv_has ls 8 [(5, .int (nI k)), (0, .ref k0), (1, .int (nI f)), (2, .int (nI g)), (3, .int (nI h)), (4, .int (-1))] → W p l e ({ frames := 5, cells := 0, slots := 0, locals := 135 } : Room) s m ([.ref k0, .int (nI f), .int (nI g), .int (nI h), .int (-1)] : List Value).toArray below meth c H locs 0 0 Q9 (F0 m 62 ls []) := by
        intro n9
        induction n9 with
        | zero => intro k z9 S1 T1 P1 Q1 H locs ls hm; exact absurd hm (Nat.not_lt_zero _)
        | succ n9 ih_62 =>
          intro k z9 S1 T1 P1 Q1 H locs ls hm hk hall hP hD hS hl
          refine lv_iload hx hb dX11_isLawfulTo_62 (lv_at hl 0 rfl) ?_
          refine lv_aload_n hx hb dX11_isLawfulTo_64 rfl (lv_at hl 1 rfl) ?_
          refine va_get (D := (dC, dI)) (ci := 9) (v := .ref (a 11)) (C := RX11) (T := TX11) (N := 55) hx hb hts inX11 hown hK hP 0 rfl rfl 11 (Nat.le_of_ble_eq_true rfl) (hts _ mw_1170) (fun _ h9 => h9) rfl dX11_isLawfulTo_65 ?_
          refine lv_iload_n hx hb dX11_isLawfulTo_68 rfl (lv_at hl 3 rfl) ?_
          refine z_iald hx hb hK hP 2 0 rfl rfl (e := g) rfl b9_2 (Nat.le_of_ble_eq_true rfl) dX11_isLawfulTo_69 ?_
          refine zz_i (v := nI m2) (hm_g) ?_
          have b9_6 : zlt (k) := show k < 2147483648 by omega
          have b9_7 : zlt (m2) := show m2 < 2147483648 by omega
          refine lv_icmp_ge (tgt := 191) hx hb dX11_isLawfulTo_70 rfl (fun c_5 => ?_) (fun c_5 => ?_)
          · have c_5 : ((m2 : Nat) : Int) ≤ ((k : Nat) : Int) := zc_le (nI_toInt b9_7) (nI_toInt b9_6) c_5
            refine lv_aload_n hx hb dX11_isLawfulTo_191 rfl (lv_at hl 1 rfl) ?_
            refine va_get (D := (dC, dI)) (ci := 9) (v := .ref (a 1)) (C := RX11) (T := TX11) (N := 55) hx hb hts inX11 hown hK hP 0 rfl rfl 1 (Nat.le_of_ble_eq_true rfl) (hts _ mw_1160) (fun _ h9 => h9) rfl dX11_isLawfulTo_192 ?_
            refine lv_iload_n hx hb dX11_isLawfulTo_195 rfl (lv_at hl 2 rfl) ?_
            have b9_8 : f < 201 := by omega
            refine z_iald hx hb hK hP 1 0 rfl rfl (e := f) rfl b9_8 (Nat.le_of_ble_eq_true rfl) dX11_isLawfulTo_196 ?_
            refine lv_if_ne (tgt := 209) hx hb dX11_isLawfulTo_197 rfl (fun c_9 => ?_) (fun c_9 => ?_)
            · have c_9 : ¬ (kd f).toInt = 0 := zc_ne rfl rfl c_9
              refine lv_iconst (v := 1) hx hb dX11_isLawfulTo_209 rfl ?_
              refine lv_goto (tgt := 214) hx hb dX11_isLawfulTo_210 rfl ?_
              obtain ⟨hP9, hD9⟩ := zu_sub (wc := [_, _, _, _, _, _, _, _, _, _, _, _, _, _]) hP hD [true, true, true, true, true, true, true, true, true, true, true, true, true, true] rfl rfl
              rw [hQ9]
              exact W.zret (ty := .boolean) (v := 1) hx hb hr (rfl) (fun t ht hW => ⟨⟨congrArg (fun z => Outcome.returned (some (Value.int z))) (show (1 : Int32) = pI (lawTo (ox 0) (oy 0) (kd f).toInt n (cF40 cx f) (cF40 cy f) (kd g).toInt m2 (cF40 cx g) (cF40 cy g) MT WI IN (fun k => ∃ e, e < eO (kd f).toInt on ∧ swp on ox oy (cF40 cx f) (cF40 cy f) (cF40 cx g k).toInt (cF40 cy g k).toInt e)) from (zp_t (by first | exact ⟨zp_ieq.mp (by first | with_reducible assumption | assumption), fun h => (by first | (exfalso; omega) | exact zp_ieq.mp (by first | with_reducible assumption | assumption)), fun j hj => hall j (by omega), fun h => (by first | (exfalso; omega) | assumption)⟩ | exact fun h => absurd (h.2.2.2 (by omega)) (by first | with_reducible assumption | assumption))).symm), z9, S1, T1, P1, Q1, by rw [ht]; exact hP9, hD9⟩, hS.F ht⟩) hS.2.2 dX11_isLawfulTo_214
            · have c_9 : (kd f).toInt = 0 := zc_eq rfl rfl c_9
              refine lv_aload_n hx hb dX11_isLawfulTo_200 rfl (lv_at hl 1 rfl) ?_
              refine lv_iload_n hx hb dX11_isLawfulTo_201 rfl (lv_at hl 2 rfl) ?_
              refine lv_iload_n hx hb dX11_isLawfulTo_202 rfl (lv_at hl 3 rfl) ?_
              obtain ⟨hPc, hDc, hFc⟩ := zo_sub (wc := [_, _, _, _, _, _, _, _]) hP hD hS hA [0, 1, 2, 3, 4, 5, 9, 10] (by decide +kernel) rfl
              refine zcall (st1 := [.int (pI (∀ k, k < eO (kd g).toInt m2 → fWy (ox 0).toInt (oy 0).toInt (cx (40 * f)).toInt (cy (40 * f)).toInt m2 (cF40 cx g) (cF40 cy g) k))]) (va_runV (As := [.int (nI f), .int (nI g)]) (rest := []) ⟨hx, hb, hml, hown, hts⟩ (k_M_isFreeWay l dC dI cI cZ cF H.size k0 a (upd I0 31 z9) J0 f g m2 kd mn cx cy S1 ox oy (by first | with_reducible assumption | omega) ((hpo 0 (by first | with_reducible assumption | omega)).1) ((hpo 0 (by first | with_reducible assumption | omega)).2) ((hp_f 0 (by first | with_reducible assumption | omega)).1) ((hp_f 0 (by first | with_reducible assumption | omega)).2) (by first | with_reducible assumption | omega) (by first | with_reducible assumption | assumption) (by first | with_reducible assumption | omega) (by first | with_reducible assumption | assumption)) (csV_181 hts rfl rfl ⟨Nat.le_of_ble_eq_true rfl, Nat.le_of_ble_eq_true rfl⟩) (zPV2 (q0 := 0) (ci := 9) hPc hDc hK hXN rfl rfl) rfl rfl hl.1 rfl (lv_room (Nat.le_of_ble_eq_true rfl)) dX11_isLawfulTo_203 ⟨Nat.le_of_ble_eq_true rfl, Nat.le_of_ble_eq_true rfl⟩) hS hFc hFc rfl (fun t H locs ht hB hk1 hS => ?_)
              obtain ⟨q_10, hP1, hD1⟩ := hB
              rw [ht] at hP1
              obtain ⟨hP, hD⟩ := zn (W2 := [_, _, _, _, _, (oa (a 32) cI 8 q_10), _, _, _, _, _, _, _, _]) hP hD hk1 hFc hP1 hD1 zl_148 zl_149 zl_149 zl_148 (by decide +kernel) rfl rfl rfl rfl rfl
              clear hk1 hPc hDc hFc hP1 hD1 ht
              refine zz_i (v := pI (∀ k, k < eO (kd g).toInt m2 → fWy (ox 0).toInt (oy 0).toInt (cF40 cx f 0).toInt (cF40 cy f 0).toInt m2 (cF40 cx g) (cF40 cy g) k)) (rfl) ?_
              refine lv_if_eq (tgt := 213) hx hb dX11_isLawfulTo_206 rfl (fun c_11 => ?_) (fun c_11 => ?_)
              · have c_11 : ¬ (∀ k, k < eO (kd g).toInt m2 → fWy (ox 0).toInt (oy 0).toInt (cF40 cx f 0).toInt (cF40 cy f 0).toInt m2 (cF40 cx g) (cF40 cy g) k) := zp_0 c_11
                refine lv_iconst (v := 0) hx hb dX11_isLawfulTo_213 rfl ?_
                obtain ⟨hP9, hD9⟩ := zu_sub (wc := [_, _, _, _, _, _, _, _, _, _, _, _, _, _]) hP hD [true, true, true, true, true, true, true, true, true, true, true, true, true, true] rfl rfl
                rw [hQ9]
                exact W.zret (ty := .boolean) (v := 0) hx hb hr (rfl) (fun t ht hW => ⟨⟨congrArg (fun z => Outcome.returned (some (Value.int z))) (show (0 : Int32) = pI (lawTo (ox 0) (oy 0) (kd f).toInt n (cF40 cx f) (cF40 cy f) (kd g).toInt m2 (cF40 cx g) (cF40 cy g) MT WI IN (fun k => ∃ e, e < eO (kd f).toInt on ∧ swp on ox oy (cF40 cx f) (cF40 cy f) (cF40 cx g k).toInt (cF40 cy g k).toInt e)) from (zp_f (by first | exact ⟨zp_ieq.mp (by first | with_reducible assumption | assumption), fun h => (by first | (exfalso; omega) | exact zp_ieq.mp (by first | with_reducible assumption | assumption)), fun j hj => hall j (by omega), fun h => (by first | (exfalso; omega) | assumption)⟩ | exact fun h => absurd (h.2.2.2 (by omega)) (by first | with_reducible assumption | assumption))).symm), z9, q_10, T1, P1, Q1, by rw [ht]; exact hP9, hD9⟩, hS.F ht⟩) hS.2.2 dX11_isLawfulTo_214
              · have c_11 : ∀ k, k < eO (kd g).toInt m2 → fWy (ox 0).toInt (oy 0).toInt (cF40 cx f 0).toInt (cF40 cy f 0).toInt m2 (cF40 cx g) (cF40 cy g) k := zp_1 c_11
                refine lv_iconst (v := 1) hx hb dX11_isLawfulTo_209 rfl ?_
                refine lv_goto (tgt := 214) hx hb dX11_isLawfulTo_210 rfl ?_
                obtain ⟨hP9, hD9⟩ := zu_sub (wc := [_, _, _, _, _, _, _, _, _, _, _, _, _, _]) hP hD [true, true, true, true, true, true, true, true, true, true, true, true, true, true] rfl rfl
                rw [hQ9]
                exact W.zret (ty := .boolean) (v := 1) hx hb hr (rfl) (fun t ht hW => ⟨⟨congrArg (fun z => Outcome.returned (some (Value.int z))) (show (1 : Int32) = pI (lawTo (ox 0) (oy 0) (kd f).toInt n (cF40 cx f) (cF40 cy f) (kd g).toInt m2 (cF40 cx g) (cF40 cy g) MT WI IN (fun k => ∃ e, e < eO (kd f).toInt on ∧ swp on ox oy (cF40 cx f) (cF40 cy f) (cF40 cx g k).toInt (cF40 cy g k).toInt e)) from (zp_t (by first | exact ⟨zp_ieq.mp (by first | with_reducible assumption | assumption), fun h => (by first | (exfalso; omega) | exact zp_ieq.mp (by first | with_reducible assumption | assumption)), fun j hj => hall j (by omega), fun h => (by first | (exfalso; omega) | assumption)⟩ | exact fun h => absurd (h.2.2.2 (by omega)) (by first | with_reducible assumption | assumption))).symm), z9, q_10, T1, P1, Q1, by rw [ht]; exact hP9, hD9⟩, hS.F ht⟩) hS.2.2 dX11_isLawfulTo_214
          · have c_5 : ((k : Nat) : Int) < ((m2 : Nat) : Int) := zc_nle (nI_toInt b9_7) (nI_toInt b9_6) c_5
            have hk9 : k < m2 := (by omega)
            refine lv_aload_n hx hb dX11_isLawfulTo_73 rfl (lv_at hl 1 rfl) ?_
            refine va_get (D := (dC, dI)) (ci := 9) (v := .ref (a 12)) (C := RX11) (T := TX11) (N := 55) hx hb hts inX11 hown hK hP 0 rfl rfl 12 (Nat.le_of_ble_eq_true rfl) (hts _ mw_1171) (fun _ h9 => h9) rfl dX11_isLawfulTo_74 ?_
            refine lv_bipush (v := 40) hx hb dX11_isLawfulTo_77 rfl ?_
            refine lv_iload_n hx hb dX11_isLawfulTo_79 rfl (lv_at hl 3 rfl) ?_
            refine lv_imul hx hb dX11_isLawfulTo_80 ?_
            refine zz_i (v := nI (40 * g)) (pk_mul 40 g) ?_
            refine lv_iload hx hb dX11_isLawfulTo_81 (lv_at hl 0 rfl) ?_
            refine lv_iadd hx hb dX11_isLawfulTo_83 ?_
            refine zz_i (v := nI (40 * g + k)) (nI_add (40 * g) k) ?_
            have b9_12 : 40 * g + k < 8040 := by omega
            refine z_iald hx hb hK hP 3 0 rfl rfl (e := 40 * g + k) rfl b9_12 (Nat.le_of_ble_eq_true rfl) dX11_isLawfulTo_84 ?_
            refine lv_istore (lv' := [(6, .int (cx (40 * g + k))), (5, .int (nI k)), (0, .ref k0), (1, .int (nI f)), (2, .int (nI g)), (3, .int (nI h)), (4, .int (-1))]) hx hb dX11_isLawfulTo_85 hl (Nat.le_of_ble_eq_true rfl) rfl (fun ls hl => ?_)
            refine lv_aload_n hx hb dX11_isLawfulTo_87 rfl (lv_at hl 2 rfl) ?_
            refine va_get (D := (dC, dI)) (ci := 9) (v := .ref (a 13)) (C := RX11) (T := TX11) (N := 55) hx hb hts inX11 hown hK hP 0 rfl rfl 13 (Nat.le_of_ble_eq_true rfl) (hts _ mw_1172) (fun _ h9 => h9) rfl dX11_isLawfulTo_88 ?_
            refine lv_bipush (v := 40) hx hb dX11_isLawfulTo_91 rfl ?_
            refine lv_iload_n hx hb dX11_isLawfulTo_93 rfl (lv_at hl 4 rfl) ?_
            refine lv_imul hx hb dX11_isLawfulTo_94 ?_
            refine zz_i (v := nI (40 * g)) (pk_mul 40 g) ?_
            refine lv_iload hx hb dX11_isLawfulTo_95 (lv_at hl 1 rfl) ?_
            refine lv_iadd hx hb dX11_isLawfulTo_97 ?_
            refine zz_i (v := nI (40 * g + k)) (nI_add (40 * g) k) ?_
            refine z_iald hx hb hK hP 4 0 rfl rfl (e := 40 * g + k) rfl b9_12 (Nat.le_of_ble_eq_true rfl) dX11_isLawfulTo_98 ?_
            refine lv_istore (lv' := [(7, .int (cy (40 * g + k))), (6, .int (cx (40 * g + k))), (5, .int (nI k)), (0, .ref k0), (1, .int (nI f)), (2, .int (nI g)), (3, .int (nI h)), (4, .int (-1))]) hx hb dX11_isLawfulTo_99 hl (Nat.le_of_ble_eq_true rfl) rfl (fun ls hl => ?_)
            refine lv_aload_n hx hb dX11_isLawfulTo_101 rfl (lv_at hl 3 rfl) ?_
            refine lv_iload_n hx hb dX11_isLawfulTo_102 rfl (lv_at hl 4 rfl) ?_
            obtain ⟨hPc, hDc, hFc, hI1⟩ := zi_sub (wc := [_, _]) hP hD hS hA [0, 1] rfl rfl
            refine zcall (st1 := [.int (pI (5 ≤ (kd f).toInt))]) (va_runV (As := [.int (nI f)]) (rest := []) ⟨hx, hb, hml, hown, hts⟩ (k_M_isRing l dC dI cI cZ cF H.size k0 a (upd I0 31 z9) J0 f kd (by first | with_reducible assumption | omega)) (csV_165 hts rfl rfl ⟨Nat.le_of_ble_eq_true rfl, Nat.le_of_ble_eq_true rfl⟩) (zPV2 (q0 := 0) (ci := 9) hPc hDc hK hXN rfl rfl) rfl rfl hl.1 rfl (lv_room (Nat.le_of_ble_eq_true rfl)) dX11_isLawfulTo_103 ⟨Nat.le_of_ble_eq_true rfl, Nat.le_of_ble_eq_true rfl⟩) hS hFc hFc rfl (fun t H locs ht hB hk1 hS => ?_)
            obtain ⟨hP1, hD1⟩ := hB
            rw [ht] at hP1
            replace hP := z0 hP hD hk1 hP1 hI1
            clear hk1 hPc hDc hFc hP1 hD1 ht hI1
            refine lv_if_eq (tgt := 135) hx hb dX11_isLawfulTo_106 rfl (fun c_13 => ?_) (fun c_13 => ?_)
            · have c_13 : ¬ (5 ≤ (kd f).toInt) := zp_0 c_13
              refine lv_aload_n hx hb dX11_isLawfulTo_135 rfl (lv_at hl 3 rfl) ?_
              refine va_get (D := (dC, dI)) (ci := 9) (v := .ref (a 1)) (C := RX11) (T := TX11) (N := 55) hx hb hts inX11 hown hK hP 0 rfl rfl 1 (Nat.le_of_ble_eq_true rfl) (hts _ mw_1160) (fun _ h9 => h9) rfl dX11_isLawfulTo_136 ?_
              refine lv_iload_n hx hb dX11_isLawfulTo_139 rfl (lv_at hl 4 rfl) ?_
              have b9_14 : f < 201 := by omega
              refine z_iald hx hb hK hP 1 0 rfl rfl (e := f) rfl b9_14 (Nat.le_of_ble_eq_true rfl) dX11_isLawfulTo_140 ?_
              refine lv_if_eq (tgt := 185) hx hb dX11_isLawfulTo_141 rfl (fun c_15 => ?_) (fun c_15 => ?_)
              · have c_15 : (kd f).toInt = 0 := zc_eq rfl rfl c_15
                refine lv_iinc (v := nI (k + 1)) (lv' := [(5, .int (nI (k + 1))), (7, .int (cy (40 * g + k))), (6, .int (cx (40 * g + k))), (0, .ref k0), (1, .int (nI f)), (2, .int (nI g)), (3, .int (nI h)), (4, .int (-1))]) hx hb dX11_isLawfulTo_185 hl (k := 2) rfl (nI_add k 1) (Nat.le_of_ble_eq_true rfl) rfl (fun ls hl => ?_)
                refine lv_goto (tgt := 62) hx hb dX11_isLawfulTo_188 rfl ?_
                exact ih_62 (k + 1) z9 S1 T1 P1 Q1 H locs ls (by first | with_reducible assumption | omega) (by first | with_reducible assumption | omega) (by intro j hj; rcases Nat.lt_or_ge j k with h | h; exact hall j h; obtain rfl : j = k := (by first | with_reducible assumption | omega); exact ⟨fun h5 => (by first | (exfalso; omega) | exact zp_ieq.mp (by first | with_reducible assumption | assumption)), fun h0 => (by first | (exfalso; omega) | exact id | assumption)⟩) hP hD hS (lv_sub hl [0, 3, 4, 5, 6, 7] rfl)
              · have c_15 : ¬ (kd f).toInt = 0 := zc_ne rfl rfl c_15
                refine lv_iload_n hx hb dX11_isLawfulTo_144 rfl (lv_at hl 6 rfl) ?_
                refine lv_iconst (v := 5) hx hb dX11_isLawfulTo_145 rfl ?_
                have b9_17 : zlt (h) := show h < 2147483648 by omega
                refine lv_icmp_eq (tgt := 185) hx hb dX11_isLawfulTo_146 rfl (fun c_16 => ?_) (fun c_16 => ?_)
                · have c_16 : ((h : Nat) : Int) = 5 := zc_eq (nI_toInt b9_17) rfl c_16
                  exfalso; omega
                · have c_16 : ¬ ((h : Nat) : Int) = 5 := zc_ne (nI_toInt b9_17) rfl c_16
                  refine lv_iload hx hb dX11_isLawfulTo_149 (lv_at hl 7 rfl) ?_
                  refine lv_iconst (v := (-1)) hx hb dX11_isLawfulTo_151 rfl ?_
                  refine lv_icmp_eq (tgt := 171) hx hb dX11_isLawfulTo_152 rfl (fun c_18 => ?_) (fun c_18 => ?_)
                  · refine lv_aload_n hx hb dX11_isLawfulTo_171 rfl (lv_at hl 3 rfl) ?_
                    refine lv_iload_n hx hb dX11_isLawfulTo_172 rfl (lv_at hl 4 rfl) ?_
                    refine lv_iload hx hb dX11_isLawfulTo_173 (lv_at hl 1 rfl) ?_
                    refine lv_iload hx hb dX11_isLawfulTo_175 (lv_at hl 0 rfl) ?_
                    obtain ⟨hPc, hDc, hFc⟩ := zo_sub (wc := [_, _, _, _, _, _, _, _, _, _]) hP hD hS hA [0, 1, 2, 3, 4, 6, 7, 8, 9, 10] (by decide +kernel) rfl
                    refine zcall (st1 := [.int (pI (∃ e9, e9 < eO (kd f).toInt on ∧ swp on ox oy (cF40 cx f) (cF40 cy f) (cx (40 * g + k)).toInt (cy (40 * g + k)).toInt e9))]) (va_runV (As := [.int (nI f), .int (cx (40 * g + k)), .int (cy (40 * g + k))]) (rest := []) ⟨hx, hb, hml, hown, hts⟩ (k_M_isSwept l dC dI cI cZ cF H.size k0 a (upd I0 31 z9) J0 f on (cx (40 * g + k)) (cy (40 * g + k)) kd mn cx cy T1 P1 Q1 ox oy (hon) (by first | with_reducible assumption | omega) (by first | with_reducible assumption | omega) (by rw [← hon2]; assumption) (by first | with_reducible assumption | omega) (by rw [← hon2]; assumption) (by first | with_reducible assumption | assumption) ((hp_g k hk9).1) ((hp_g k hk9).2)) (csV_184 hts rfl rfl ⟨Nat.le_of_ble_eq_true rfl, Nat.le_of_ble_eq_true rfl⟩) (zPV2 (q0 := 0) (ci := 9) hPc hDc hK hXN rfl rfl) rfl rfl hl.1 rfl (lv_room (Nat.le_of_ble_eq_true rfl)) dX11_isLawfulTo_177 ⟨Nat.le_of_ble_eq_true rfl, Nat.le_of_ble_eq_true rfl⟩) hS hFc hFc rfl (fun t H locs ht hB hk1 hS => ?_)
                    obtain ⟨q_19, q_20, q_21, hP1, hD1⟩ := hB
                    rw [ht] at hP1
                    obtain ⟨hP, hD⟩ := zn (W2 := [(om k0 a (upd I0 31 (nI on)) J0), _, _, _, _, _, (oa (a 40) cI 6 q_19), (oa (a 29) cI 42 q_20), (oa (a 30) cI 42 q_21), _, _, _, _, _]) hP hD hk1 hFc hP1 hD1 zl_151 zl_152 zl_152 zl_151 (by decide +kernel) rfl rfl rfl rfl rfl
                    clear hk1 hPc hDc hFc hP1 hD1 ht
                    refine zz_i (v := pI ((fun k => ∃ e, e < eO (kd f).toInt on ∧ swp on ox oy (cF40 cx f) (cF40 cy f) (cF40 cx g k).toInt (cF40 cy g k).toInt e) k)) (rfl) ?_
                    refine lv_if_eq (tgt := 185) hx hb dX11_isLawfulTo_180 rfl (fun c_22 => ?_) (fun c_22 => ?_)
                    · have c_22 : ¬ ((fun k => ∃ e, e < eO (kd f).toInt on ∧ swp on ox oy (cF40 cx f) (cF40 cy f) (cF40 cx g k).toInt (cF40 cy g k).toInt e) k) := zp_0 c_22
                      refine lv_iinc (v := nI (k + 1)) (lv' := [(5, .int (nI (k + 1))), (7, .int (cy (40 * g + k))), (6, .int (cx (40 * g + k))), (0, .ref k0), (1, .int (nI f)), (2, .int (nI g)), (3, .int (nI h)), (4, .int (-1))]) hx hb dX11_isLawfulTo_185 hl (k := 2) rfl (nI_add k 1) (Nat.le_of_ble_eq_true rfl) rfl (fun ls hl => ?_)
                      refine lv_goto (tgt := 62) hx hb dX11_isLawfulTo_188 rfl ?_
                      exact ih_62 (k + 1) (nI on) S1 q_19 q_20 q_21 H locs ls (by first | with_reducible assumption | omega) (by first | with_reducible assumption | omega) (by intro j hj; rcases Nat.lt_or_ge j k with h | h; exact hall j h; obtain rfl : j = k := (by first | with_reducible assumption | omega); exact ⟨fun h5 => (by first | (exfalso; omega) | exact zp_ieq.mp (by first | with_reducible assumption | assumption)), fun h0 => (by first | (exfalso; omega) | exact id | assumption)⟩) hP hD hS (lv_sub hl [0, 3, 4, 5, 6, 7] rfl)
                    · have c_22 : (fun k => ∃ e, e < eO (kd f).toInt on ∧ swp on ox oy (cF40 cx f) (cF40 cy f) (cF40 cx g k).toInt (cF40 cy g k).toInt e) k := zp_1 c_22
                      refine lv_iconst (v := 0) hx hb dX11_isLawfulTo_183 rfl ?_
                      obtain ⟨hP9, hD9⟩ := zu_sub (wc := [_, _, _, _, _, _, _, _, _, _, _, _, _, _]) hP hD [true, true, true, true, true, true, true, true, true, true, true, true, true, true] rfl rfl
                      rw [hQ9]
                      exact W.zret (ty := .boolean) (v := 0) hx hb hr (rfl) (fun t ht hW => ⟨⟨congrArg (fun z => Outcome.returned (some (Value.int z))) (show (0 : Int32) = pI (lawTo (ox 0) (oy 0) (kd f).toInt n (cF40 cx f) (cF40 cy f) (kd g).toInt m2 (cF40 cx g) (cF40 cy g) MT WI IN (fun k => ∃ e, e < eO (kd f).toInt on ∧ swp on ox oy (cF40 cx f) (cF40 cy f) (cF40 cx g k).toInt (cF40 cy g k).toInt e)) from (zp_f (fun h => (h.2.2.1 k (by omega)).2 (by omega) (by first | with_reducible assumption | assumption))).symm), (nI on), S1, q_19, q_20, q_21, by rw [ht]; exact hP9, hD9⟩, hS.F ht⟩) hS.2.2 dX11_isLawfulTo_184
                  · exact absurd (by decide) c_18
            · have c_13 : 5 ≤ (kd f).toInt := zp_1 c_13
              refine lv_aload_n hx hb dX11_isLawfulTo_109 rfl (lv_at hl 3 rfl) ?_
              refine lv_iload_n hx hb dX11_isLawfulTo_110 rfl (lv_at hl 4 rfl) ?_
              refine lv_iload hx hb dX11_isLawfulTo_111 (lv_at hl 1 rfl) ?_
              refine lv_iload hx hb dX11_isLawfulTo_113 (lv_at hl 0 rfl) ?_
              obtain ⟨hPc, hDc, hFc⟩ := zo_sub (wc := [_, _, _, _, _, _]) hP hD hS hA [0, 1, 2, 3, 4, 5] (by decide +kernel) rfl
              refine zcall (st1 := [.int (pI (¬ (∃ i, i < eO (kd f).toInt n ∧ eOn n (cF40 cx f) (cF40 cy f) i (cx (40 * g + k)).toInt (cy (40 * g + k)).toInt) ∧ par2 (eTg n (cF40 cx f) (cF40 cy f) (cx (40 * g + k)).toInt (cy (40 * g + k)).toInt) (eO (kd f).toInt n)))]) (va_runV (As := [.int (nI f), .int (cx (40 * g + k)), .int (cy (40 * g + k))]) (rest := []) ⟨hx, hb, hml, hown, hts⟩ (k_M_isInside l dC dI cI cZ cF H.size k0 a (upd I0 31 z9) J0 f n kd mn cx cy S1 (cx (40 * g + k)) (cy (40 * g + k)) (by first | with_reducible assumption | omega) (by first | with_reducible assumption | assumption) (by first | with_reducible assumption | omega) (by first | with_reducible assumption | assumption) ((hp_g k hk9).1) ((hp_g k hk9).2)) (csV_183 hts rfl rfl ⟨Nat.le_of_ble_eq_true rfl, Nat.le_of_ble_eq_true rfl⟩) (zPV2 (q0 := 0) (ci := 9) hPc hDc hK hXN rfl rfl) rfl rfl hl.1 rfl (lv_room (Nat.le_of_ble_eq_true rfl)) dX11_isLawfulTo_115 ⟨Nat.le_of_ble_eq_true rfl, Nat.le_of_ble_eq_true rfl⟩) hS hFc hFc rfl (fun t H locs ht hB hk1 hS => ?_)
              obtain ⟨q_23, hP1, hD1⟩ := hB
              rw [ht] at hP1
              obtain ⟨hP, hD⟩ := zn (W2 := [_, _, _, _, _, (oa (a 32) cI 8 q_23), _, _, _, _, _, _, _, _]) hP hD hk1 hFc hP1 hD1 [0, 1, 2, 3, 4, 5] zl_147 zl_147 [0, 1, 2, 3, 4, 5] (by decide +kernel) rfl rfl rfl rfl rfl
              clear hk1 hPc hDc hFc hP1 hD1 ht
              refine zz_i (v := pI (inF (kd f).toInt n (cF40 cx f) (cF40 cy f) (cF40 cx g k).toInt (cF40 cy g k).toInt)) (rfl) ?_
              refine lv_aload_n hx hb dX11_isLawfulTo_118 rfl (lv_at hl 3 rfl) ?_
              refine va_get (D := (dC, dI)) (ci := 9) (v := .ref (a 39)) (C := RX11) (T := TX11) (N := 55) hx hb hts inX11 hown hK hP 0 rfl rfl 39 (Nat.le_of_ble_eq_true rfl) (hts _ mw_1198) (fun _ h9 => h9) rfl dX11_isLawfulTo_119 ?_
              refine lv_bipush (v := 40) hx hb dX11_isLawfulTo_122 rfl ?_
              refine lv_iload_n hx hb dX11_isLawfulTo_124 rfl (lv_at hl 5 rfl) ?_
              refine lv_imul hx hb dX11_isLawfulTo_125 ?_
              refine zz_i (v := nI (40 * g)) (pk_mul 40 g) ?_
              refine lv_iload hx hb dX11_isLawfulTo_126 (lv_at hl 2 rfl) ?_
              refine lv_iadd hx hb dX11_isLawfulTo_128 ?_
              refine zz_i (v := nI (40 * g + k)) (nI_add (40 * g) k) ?_
              have b9_24 : 40 * g + k < 8040 := by omega
              refine z_zald hx hb hK hP 13 1 rfl rfl (e := 40 * g + k) rfl b9_24 (Nat.le_of_ble_eq_true rfl) dX11_isLawfulTo_129 ?_
              refine zz_i (v := pI (IN k)) (hin k (by omega) (by omega)) ?_
              refine lv_icmp_eq (tgt := 135) hx hb dX11_isLawfulTo_130 rfl (fun c_25 => ?_) (fun c_25 => ?_)
              · have c_25 : (pI (inF (kd f).toInt n (cF40 cx f) (cF40 cy f) (cF40 cx g k).toInt (cF40 cy g k).toInt)).toInt = (pI (IN k)).toInt := zc_eq rfl rfl c_25
                refine lv_aload_n hx hb dX11_isLawfulTo_135 rfl (lv_at hl 3 rfl) ?_
                refine va_get (D := (dC, dI)) (ci := 9) (v := .ref (a 1)) (C := RX11) (T := TX11) (N := 55) hx hb hts inX11 hown hK hP 0 rfl rfl 1 (Nat.le_of_ble_eq_true rfl) (hts _ mw_1160) (fun _ h9 => h9) rfl dX11_isLawfulTo_136 ?_
                refine lv_iload_n hx hb dX11_isLawfulTo_139 rfl (lv_at hl 4 rfl) ?_
                have b9_26 : f < 201 := by omega
                refine z_iald hx hb hK hP 1 0 rfl rfl (e := f) rfl b9_26 (Nat.le_of_ble_eq_true rfl) dX11_isLawfulTo_140 ?_
                refine lv_if_eq (tgt := 185) hx hb dX11_isLawfulTo_141 rfl (fun c_27 => ?_) (fun c_27 => ?_)
                · have c_27 : (kd f).toInt = 0 := zc_eq rfl rfl c_27
                  refine lv_iinc (v := nI (k + 1)) (lv' := [(5, .int (nI (k + 1))), (7, .int (cy (40 * g + k))), (6, .int (cx (40 * g + k))), (0, .ref k0), (1, .int (nI f)), (2, .int (nI g)), (3, .int (nI h)), (4, .int (-1))]) hx hb dX11_isLawfulTo_185 hl (k := 2) rfl (nI_add k 1) (Nat.le_of_ble_eq_true rfl) rfl (fun ls hl => ?_)
                  refine lv_goto (tgt := 62) hx hb dX11_isLawfulTo_188 rfl ?_
                  exact ih_62 (k + 1) z9 q_23 T1 P1 Q1 H locs ls (by first | with_reducible assumption | omega) (by first | with_reducible assumption | omega) (by intro j hj; rcases Nat.lt_or_ge j k with h | h; exact hall j h; obtain rfl : j = k := (by first | with_reducible assumption | omega); exact ⟨fun h5 => (by first | (exfalso; omega) | exact zp_ieq.mp (by first | with_reducible assumption | assumption)), fun h0 => (by first | (exfalso; omega) | exact id | assumption)⟩) hP hD hS (lv_sub hl [0, 3, 4, 5, 6, 7] rfl)
                · have c_27 : ¬ (kd f).toInt = 0 := zc_ne rfl rfl c_27
                  refine lv_iload_n hx hb dX11_isLawfulTo_144 rfl (lv_at hl 6 rfl) ?_
                  refine lv_iconst (v := 5) hx hb dX11_isLawfulTo_145 rfl ?_
                  have b9_29 : zlt (h) := show h < 2147483648 by omega
                  refine lv_icmp_eq (tgt := 185) hx hb dX11_isLawfulTo_146 rfl (fun c_28 => ?_) (fun c_28 => ?_)
                  · have c_28 : ((h : Nat) : Int) = 5 := zc_eq (nI_toInt b9_29) rfl c_28
                    exfalso; omega
                  · have c_28 : ¬ ((h : Nat) : Int) = 5 := zc_ne (nI_toInt b9_29) rfl c_28
                    refine lv_iload hx hb dX11_isLawfulTo_149 (lv_at hl 7 rfl) ?_
                    refine lv_iconst (v := (-1)) hx hb dX11_isLawfulTo_151 rfl ?_
                    refine lv_icmp_eq (tgt := 171) hx hb dX11_isLawfulTo_152 rfl (fun c_30 => ?_) (fun c_30 => ?_)
                    · refine lv_aload_n hx hb dX11_isLawfulTo_171 rfl (lv_at hl 3 rfl) ?_
                      refine lv_iload_n hx hb dX11_isLawfulTo_172 rfl (lv_at hl 4 rfl) ?_
                      refine lv_iload hx hb dX11_isLawfulTo_173 (lv_at hl 1 rfl) ?_
                      refine lv_iload hx hb dX11_isLawfulTo_175 (lv_at hl 0 rfl) ?_
                      obtain ⟨hPc, hDc, hFc⟩ := zo_sub (wc := [_, _, _, _, _, _, _, _, _, _]) hP hD hS hA [0, 1, 2, 3, 4, 6, 7, 8, 9, 10] (by decide +kernel) rfl
                      refine zcall (st1 := [.int (pI (∃ e9, e9 < eO (kd f).toInt on ∧ swp on ox oy (cF40 cx f) (cF40 cy f) (cx (40 * g + k)).toInt (cy (40 * g + k)).toInt e9))]) (va_runV (As := [.int (nI f), .int (cx (40 * g + k)), .int (cy (40 * g + k))]) (rest := []) ⟨hx, hb, hml, hown, hts⟩ (k_M_isSwept l dC dI cI cZ cF H.size k0 a (upd I0 31 z9) J0 f on (cx (40 * g + k)) (cy (40 * g + k)) kd mn cx cy T1 P1 Q1 ox oy (hon) (by first | with_reducible assumption | omega) (by first | with_reducible assumption | omega) (by rw [← hon2]; assumption) (by first | with_reducible assumption | omega) (by rw [← hon2]; assumption) (by first | with_reducible assumption | assumption) ((hp_g k hk9).1) ((hp_g k hk9).2)) (csV_184 hts rfl rfl ⟨Nat.le_of_ble_eq_true rfl, Nat.le_of_ble_eq_true rfl⟩) (zPV2 (q0 := 0) (ci := 9) hPc hDc hK hXN rfl rfl) rfl rfl hl.1 rfl (lv_room (Nat.le_of_ble_eq_true rfl)) dX11_isLawfulTo_177 ⟨Nat.le_of_ble_eq_true rfl, Nat.le_of_ble_eq_true rfl⟩) hS hFc hFc rfl (fun t H locs ht hB hk1 hS => ?_)
                      obtain ⟨q_31, q_32, q_33, hP1, hD1⟩ := hB
                      rw [ht] at hP1
                      obtain ⟨hP, hD⟩ := zn (W2 := [(om k0 a (upd I0 31 (nI on)) J0), _, _, _, _, _, (oa (a 40) cI 6 q_31), (oa (a 29) cI 42 q_32), (oa (a 30) cI 42 q_33), _, _, _, _, _]) hP hD hk1 hFc hP1 hD1 zl_151 zl_152 zl_152 zl_151 (by decide +kernel) rfl rfl rfl rfl rfl
                      clear hk1 hPc hDc hFc hP1 hD1 ht
                      refine zz_i (v := pI ((fun k => ∃ e, e < eO (kd f).toInt on ∧ swp on ox oy (cF40 cx f) (cF40 cy f) (cF40 cx g k).toInt (cF40 cy g k).toInt e) k)) (rfl) ?_
                      refine lv_if_eq (tgt := 185) hx hb dX11_isLawfulTo_180 rfl (fun c_34 => ?_) (fun c_34 => ?_)
                      · have c_34 : ¬ ((fun k => ∃ e, e < eO (kd f).toInt on ∧ swp on ox oy (cF40 cx f) (cF40 cy f) (cF40 cx g k).toInt (cF40 cy g k).toInt e) k) := zp_0 c_34
                        refine lv_iinc (v := nI (k + 1)) (lv' := [(5, .int (nI (k + 1))), (7, .int (cy (40 * g + k))), (6, .int (cx (40 * g + k))), (0, .ref k0), (1, .int (nI f)), (2, .int (nI g)), (3, .int (nI h)), (4, .int (-1))]) hx hb dX11_isLawfulTo_185 hl (k := 2) rfl (nI_add k 1) (Nat.le_of_ble_eq_true rfl) rfl (fun ls hl => ?_)
                        refine lv_goto (tgt := 62) hx hb dX11_isLawfulTo_188 rfl ?_
                        exact ih_62 (k + 1) (nI on) q_23 q_31 q_32 q_33 H locs ls (by first | with_reducible assumption | omega) (by first | with_reducible assumption | omega) (by intro j hj; rcases Nat.lt_or_ge j k with h | h; exact hall j h; obtain rfl : j = k := (by first | with_reducible assumption | omega); exact ⟨fun h5 => (by first | (exfalso; omega) | exact zp_ieq.mp (by first | with_reducible assumption | assumption)), fun h0 => (by first | (exfalso; omega) | exact id | assumption)⟩) hP hD hS (lv_sub hl [0, 3, 4, 5, 6, 7] rfl)
                      · have c_34 : (fun k => ∃ e, e < eO (kd f).toInt on ∧ swp on ox oy (cF40 cx f) (cF40 cy f) (cF40 cx g k).toInt (cF40 cy g k).toInt e) k := zp_1 c_34
                        refine lv_iconst (v := 0) hx hb dX11_isLawfulTo_183 rfl ?_
                        obtain ⟨hP9, hD9⟩ := zu_sub (wc := [_, _, _, _, _, _, _, _, _, _, _, _, _, _]) hP hD [true, true, true, true, true, true, true, true, true, true, true, true, true, true] rfl rfl
                        rw [hQ9]
                        exact W.zret (ty := .boolean) (v := 0) hx hb hr (rfl) (fun t ht hW => ⟨⟨congrArg (fun z => Outcome.returned (some (Value.int z))) (show (0 : Int32) = pI (lawTo (ox 0) (oy 0) (kd f).toInt n (cF40 cx f) (cF40 cy f) (kd g).toInt m2 (cF40 cx g) (cF40 cy g) MT WI IN (fun k => ∃ e, e < eO (kd f).toInt on ∧ swp on ox oy (cF40 cx f) (cF40 cy f) (cF40 cx g k).toInt (cF40 cy g k).toInt e)) from (zp_f (fun h => (h.2.2.1 k (by omega)).2 (by omega) (by first | with_reducible assumption | assumption))).symm), (nI on), q_23, q_31, q_32, q_33, by rw [ht]; exact hP9, hD9⟩, hS.F ht⟩) hS.2.2 dX11_isLawfulTo_184
                    · exact absurd (by decide) c_30
              · have c_25 : ¬ (pI (inF (kd f).toInt n (cF40 cx f) (cF40 cy f) (cF40 cx g k).toInt (cF40 cy g k).toInt)).toInt = (pI (IN k)).toInt := zc_ne rfl rfl c_25
                refine lv_iconst (v := 0) hx hb dX11_isLawfulTo_133 rfl ?_
                obtain ⟨hP9, hD9⟩ := zu_sub (wc := [_, _, _, _, _, _, _, _, _, _, _, _, _, _]) hP hD [true, true, true, true, true, true, true, true, true, true, true, true, true, true] rfl rfl
                rw [hQ9]
                exact W.zret (ty := .boolean) (v := 0) hx hb hr (rfl) (fun t ht hW => ⟨⟨congrArg (fun z => Outcome.returned (some (Value.int z))) (show (0 : Int32) = pI (lawTo (ox 0) (oy 0) (kd f).toInt n (cF40 cx f) (cF40 cy f) (kd g).toInt m2 (cF40 cx g) (cF40 cy g) MT WI IN (fun k => ∃ e, e < eO (kd f).toInt on ∧ swp on ox oy (cF40 cx f) (cF40 cy f) (cF40 cx g k).toInt (cF40 cy g k).toInt e)) from (zp_f (fun h => absurd (zp_ieq.mpr ((h.2.2.1 k (by omega)).1 (by omega))) (by first | with_reducible assumption | assumption))).symm), z9, q_23, T1, P1, Q1, by rw [ht]; exact hP9, hD9⟩, hS.F ht⟩) hS.2.2 dX11_isLawfulTo_134
      exact hl_62 _ 0 (I0 31) q_1 T0 P0 Q0 H locs ls (Nat.lt_succ_self _) (by first | with_reducible assumption | omega) (by intro j hj; omega) hP hD hS (lv_sub hl [0, 1, 2, 3, 4, 5] rfl)
    · have c_4 : 5 ≤ (kd g).toInt := zp_1 c_4
      refine lv_aload_n hx hb dX11_isLawfulTo_25 rfl (lv_at hl 0 rfl) ?_
      refine lv_iload_n hx hb dX11_isLawfulTo_26 rfl (lv_at hl 2 rfl) ?_
      refine lv_aload_n hx hb dX11_isLawfulTo_27 rfl (lv_at hl 0 rfl) ?_
      refine va_get (D := (dC, dI)) (ci := 9) (v := .ref (a 12)) (C := RX11) (T := TX11) (N := 55) hx hb hts inX11 hown hK hP 0 rfl rfl 12 (Nat.le_of_ble_eq_true rfl) (hts _ mw_1171) (fun _ h9 => h9) rfl dX11_isLawfulTo_28 ?_
      refine lv_bipush (v := 40) hx hb dX11_isLawfulTo_31 rfl ?_
      refine lv_iload_n hx hb dX11_isLawfulTo_33 rfl (lv_at hl 1 rfl) ?_
      refine lv_imul hx hb dX11_isLawfulTo_34 ?_
      refine zz_i (v := nI (40 * f)) (pk_mul 40 f) ?_
      have b9_35 : 40 * f < 8040 := by omega
      refine z_iald hx hb hK hP 3 0 rfl rfl (e := 40 * f) rfl b9_35 (Nat.le_of_ble_eq_true rfl) dX11_isLawfulTo_35 ?_
      refine lv_aload_n hx hb dX11_isLawfulTo_36 rfl (lv_at hl 0 rfl) ?_
      refine va_get (D := (dC, dI)) (ci := 9) (v := .ref (a 13)) (C := RX11) (T := TX11) (N := 55) hx hb hts inX11 hown hK hP 0 rfl rfl 13 (Nat.le_of_ble_eq_true rfl) (hts _ mw_1172) (fun _ h9 => h9) rfl dX11_isLawfulTo_37 ?_
      refine lv_bipush (v := 40) hx hb dX11_isLawfulTo_40 rfl ?_
      refine lv_iload_n hx hb dX11_isLawfulTo_42 rfl (lv_at hl 1 rfl) ?_
      refine lv_imul hx hb dX11_isLawfulTo_43 ?_
      refine zz_i (v := nI (40 * f)) (pk_mul 40 f) ?_
      refine z_iald hx hb hK hP 4 0 rfl rfl (e := 40 * f) rfl b9_35 (Nat.le_of_ble_eq_true rfl) dX11_isLawfulTo_44 ?_
      obtain ⟨hPc, hDc, hFc⟩ := zo_sub (wc := [_, _, _, _, _, _]) hP hD hS hA [0, 1, 2, 3, 4, 5] (by decide +kernel) rfl
      refine zcall (st1 := [.int (pI (¬ (∃ i, i < eO (kd g).toInt m2 ∧ eOn m2 (cF40 cx g) (cF40 cy g) i (cx (40 * f)).toInt (cy (40 * f)).toInt) ∧ par2 (eTg m2 (cF40 cx g) (cF40 cy g) (cx (40 * f)).toInt (cy (40 * f)).toInt) (eO (kd g).toInt m2)))]) (va_runV (As := [.int (nI g), .int (cx (40 * f)), .int (cy (40 * f))]) (rest := []) ⟨hx, hb, hml, hown, hts⟩ (k_M_isInside l dC dI cI cZ cF H.size k0 a I0 J0 g m2 kd mn cx cy q_1 (cx (40 * f)) (cy (40 * f)) (by first | with_reducible assumption | omega) (by first | with_reducible assumption | assumption) (by first | with_reducible assumption | omega) (by first | with_reducible assumption | assumption) ((hp_f 0 (by first | with_reducible assumption | omega)).1) ((hp_f 0 (by first | with_reducible assumption | omega)).2)) (csV_183 hts rfl rfl ⟨Nat.le_of_ble_eq_true rfl, Nat.le_of_ble_eq_true rfl⟩) (zPV2 (q0 := 0) (ci := 9) hPc hDc hK hXN rfl rfl) rfl rfl hl.1 rfl (lv_room (Nat.le_of_ble_eq_true rfl)) dX11_isLawfulTo_45 ⟨Nat.le_of_ble_eq_true rfl, Nat.le_of_ble_eq_true rfl⟩) hS hFc hFc rfl (fun t H locs ht hB hk1 hS => ?_)
      obtain ⟨q_36, hP1, hD1⟩ := hB
      rw [ht] at hP1
      obtain ⟨hP, hD⟩ := zn (W2 := [_, _, _, _, _, (oa (a 32) cI 8 q_36), _, _, _, _, _, _, _, _]) hP hD hk1 hFc hP1 hD1 [0, 1, 2, 3, 4, 5] zl_147 zl_147 [0, 1, 2, 3, 4, 5] (by decide +kernel) rfl rfl rfl rfl rfl
      clear hk1 hPc hDc hFc hP1 hD1 ht
      refine zz_i (v := pI (inF (kd g).toInt m2 (cF40 cx g) (cF40 cy g) (cF40 cx f 0).toInt (cF40 cy f 0).toInt)) (rfl) ?_
      refine lv_aload_n hx hb dX11_isLawfulTo_48 rfl (lv_at hl 0 rfl) ?_
      refine va_get (D := (dC, dI)) (ci := 9) (v := .ref (a 38)) (C := RX11) (T := TX11) (N := 55) hx hb hts inX11 hown hK hP 0 rfl rfl 38 (Nat.le_of_ble_eq_true rfl) (hts _ mw_1197) (fun _ h9 => h9) rfl dX11_isLawfulTo_49 ?_
      refine lv_iload_n hx hb dX11_isLawfulTo_52 rfl (lv_at hl 2 rfl) ?_
      refine z_zald hx hb hK hP 12 1 rfl rfl (e := g) rfl b9_2 (Nat.le_of_ble_eq_true rfl) dX11_isLawfulTo_53 ?_
      refine zz_i (v := pI WI) (hwi (by omega)) ?_
      refine lv_icmp_eq (tgt := 59) hx hb dX11_isLawfulTo_54 rfl (fun c_37 => ?_) (fun c_37 => ?_)
      · have c_37 : (pI (inF (kd g).toInt m2 (cF40 cx g) (cF40 cy g) (cF40 cx f 0).toInt (cF40 cy f 0).toInt)).toInt = (pI WI).toInt := zc_eq rfl rfl c_37
        refine lv_iconst (v := 0) hx hb dX11_isLawfulTo_59 rfl ?_
        refine lv_istore (lv' := [(5, .int 0), (0, .ref k0), (1, .int (nI f)), (2, .int (nI g)), (3, .int (nI h)), (4, .int (-1))]) hx hb dX11_isLawfulTo_60 hl (Nat.le_of_ble_eq_true rfl) rfl (fun ls hl => ?_)
        have hl_62 : ∀ (n9 : Nat) (k : Nat) (z9 : Int32) (S1 : Nat → Int32) (T1 : Nat → Int32) (P1 : Nat → Int32) (Q1 : Nat → Int32) (H : Heap) (locs : List Loc) (ls : Array Slot), m2 - k < n9 → (k ≤ m2) → (∀ j, j < k → (5 ≤ (kd f).toInt → (inF (kd f).toInt n (cF40 cx f) (cF40 cy f) (cF40 cx g j).toInt (cF40 cy g j).toInt ↔ IN j)) ∧ (¬ (kd f).toInt = 0 → ¬ (fun k => ∃ e, e < eO (kd f).toInt on ∧ swp on ox oy (cF40 cx f) (cF40 cy f) (cF40 cx g k).toInt (cF40 cy g k).toInt e) j)) → va_P (dC, dI) classes [(om k0 a (upd I0 31 z9) J0), (oa (a 1) cI 201 kd), (oa (a 11) cI 201 mn), (oa (a 12) cI 8040 cx), (oa (a 13) cI 8040 cy), (oa (a 32) cI 8 S1), (oa (a 40) cI 6 T1), (oa (a 29) cI 42 P1), (oa (a 30) cI 42 Q1), (oa (a 33) cI 42 ox), (oa (a 34) cI 42 oy), (oa (a 37) cZ 201 mt), (oa (a 38) cZ 201 wi), (oa (a 39) cZ 8040 ins)] H → va_D A [(om k0 a (upd I0 31 z9) J0), (oa (a 1) cI 201 kd), (oa (a 11) cI 201 mn), (oa (a 12) cI 8040 cx), (oa (a 13) cI 8040 cy), (oa (a 32) cI 8 S1), (oa (a 40) cI 6 T1), (oa (a 29) cI 42 P1), (oa (a 30) cI 42 Q1), (oa (a 33) cI 42 ox), (oa (a 34) cI 42 oy), (oa (a 37) cZ 201 mt), (oa (a 38) cZ 201 wi), (oa (a 39) cZ 8040 ins)] → va_S A s.heap H locs → lv_has ls 8 [(5, .int (nI k)), (0, .ref k0), (1, .int (nI f)), (2, .int (nI g)), (3, .int (nI h)), (4, .int (-1))] → W p l e ({ frames := 5, cells := 0, slots := 0, locals := 135 } : Room) s m ([.ref k0, .int (nI f), .int (nI g), .int (nI h), .int (-1)] : List Value).toArray below meth c H locs 0 0 Q9 (F0 m 62 ls []) := by
          intro n9
          induction n9 with
          | zero => intro k z9 S1 T1 P1 Q1 H locs ls hm; exact absurd hm (Nat.not_lt_zero _)
          | succ n9 ih_62 =>
            intro k z9 S1 T1 P1 Q1 H locs ls hm hk hall hP hD hS hl
            refine lv_iload hx hb dX11_isLawfulTo_62 (lv_at hl 0 rfl) ?_
            refine lv_aload_n hx hb dX11_isLawfulTo_64 rfl (lv_at hl 1 rfl) ?_
            refine va_get (D := (dC, dI)) (ci := 9) (v := .ref (a 11)) (C := RX11) (T := TX11) (N := 55) hx hb hts inX11 hown hK hP 0 rfl rfl 11 (Nat.le_of_ble_eq_true rfl) (hts _ mw_1170) (fun _ h9 => h9) rfl dX11_isLawfulTo_65 ?_
            refine lv_iload_n hx hb dX11_isLawfulTo_68 rfl (lv_at hl 3 rfl) ?_
            refine z_iald hx hb hK hP 2 0 rfl rfl (e := g) rfl b9_2 (Nat.le_of_ble_eq_true rfl) dX11_isLawfulTo_69 ?_
            refine zz_i (v := nI m2) (hm_g) ?_
            have b9_39 : zlt (k) := show k < 2147483648 by omega
            have b9_40 : zlt (m2) := show m2 < 2147483648 by omega
            refine lv_icmp_ge (tgt := 191) hx hb dX11_isLawfulTo_70 rfl (fun c_38 => ?_) (fun c_38 => ?_)
            · have c_38 : ((m2 : Nat) : Int) ≤ ((k : Nat) : Int) := zc_le (nI_toInt b9_40) (nI_toInt b9_39) c_38
              refine lv_aload_n hx hb dX11_isLawfulTo_191 rfl (lv_at hl 1 rfl) ?_
              refine va_get (D := (dC, dI)) (ci := 9) (v := .ref (a 1)) (C := RX11) (T := TX11) (N := 55) hx hb hts inX11 hown hK hP 0 rfl rfl 1 (Nat.le_of_ble_eq_true rfl) (hts _ mw_1160) (fun _ h9 => h9) rfl dX11_isLawfulTo_192 ?_
              refine lv_iload_n hx hb dX11_isLawfulTo_195 rfl (lv_at hl 2 rfl) ?_
              have b9_41 : f < 201 := by omega
              refine z_iald hx hb hK hP 1 0 rfl rfl (e := f) rfl b9_41 (Nat.le_of_ble_eq_true rfl) dX11_isLawfulTo_196 ?_
              refine lv_if_ne (tgt := 209) hx hb dX11_isLawfulTo_197 rfl (fun c_42 => ?_) (fun c_42 => ?_)
              · have c_42 : ¬ (kd f).toInt = 0 := zc_ne rfl rfl c_42
                refine lv_iconst (v := 1) hx hb dX11_isLawfulTo_209 rfl ?_
                refine lv_goto (tgt := 214) hx hb dX11_isLawfulTo_210 rfl ?_
                obtain ⟨hP9, hD9⟩ := zu_sub (wc := [_, _, _, _, _, _, _, _, _, _, _, _, _, _]) hP hD [true, true, true, true, true, true, true, true, true, true, true, true, true, true] rfl rfl
                rw [hQ9]
                exact W.zret (ty := .boolean) (v := 1) hx hb hr (rfl) (fun t ht hW => ⟨⟨congrArg (fun z => Outcome.returned (some (Value.int z))) (show (1 : Int32) = pI (lawTo (ox 0) (oy 0) (kd f).toInt n (cF40 cx f) (cF40 cy f) (kd g).toInt m2 (cF40 cx g) (cF40 cy g) MT WI IN (fun k => ∃ e, e < eO (kd f).toInt on ∧ swp on ox oy (cF40 cx f) (cF40 cy f) (cF40 cx g k).toInt (cF40 cy g k).toInt e)) from (zp_t (by first | exact ⟨zp_ieq.mp (by first | with_reducible assumption | assumption), fun h => (by first | (exfalso; omega) | exact zp_ieq.mp (by first | with_reducible assumption | assumption)), fun j hj => hall j (by omega), fun h => (by first | (exfalso; omega) | assumption)⟩ | exact fun h => absurd (h.2.2.2 (by omega)) (by first | with_reducible assumption | assumption))).symm), z9, S1, T1, P1, Q1, by rw [ht]; exact hP9, hD9⟩, hS.F ht⟩) hS.2.2 dX11_isLawfulTo_214
              · have c_42 : (kd f).toInt = 0 := zc_eq rfl rfl c_42
                refine lv_aload_n hx hb dX11_isLawfulTo_200 rfl (lv_at hl 1 rfl) ?_
                refine lv_iload_n hx hb dX11_isLawfulTo_201 rfl (lv_at hl 2 rfl) ?_
                refine lv_iload_n hx hb dX11_isLawfulTo_202 rfl (lv_at hl 3 rfl) ?_
                obtain ⟨hPc, hDc, hFc⟩ := zo_sub (wc := [_, _, _, _, _, _, _, _]) hP hD hS hA [0, 1, 2, 3, 4, 5, 9, 10] (by decide +kernel) rfl
                refine zcall (st1 := [.int (pI (∀ k, k < eO (kd g).toInt m2 → fWy (ox 0).toInt (oy 0).toInt (cx (40 * f)).toInt (cy (40 * f)).toInt m2 (cF40 cx g) (cF40 cy g) k))]) (va_runV (As := [.int (nI f), .int (nI g)]) (rest := []) ⟨hx, hb, hml, hown, hts⟩ (k_M_isFreeWay l dC dI cI cZ cF H.size k0 a (upd I0 31 z9) J0 f g m2 kd mn cx cy S1 ox oy (by first | with_reducible assumption | omega) ((hpo 0 (by first | with_reducible assumption | omega)).1) ((hpo 0 (by first | with_reducible assumption | omega)).2) ((hp_f 0 (by first | with_reducible assumption | omega)).1) ((hp_f 0 (by first | with_reducible assumption | omega)).2) (by first | with_reducible assumption | omega) (by first | with_reducible assumption | assumption) (by first | with_reducible assumption | omega) (by first | with_reducible assumption | assumption)) (csV_181 hts rfl rfl ⟨Nat.le_of_ble_eq_true rfl, Nat.le_of_ble_eq_true rfl⟩) (zPV2 (q0 := 0) (ci := 9) hPc hDc hK hXN rfl rfl) rfl rfl hl.1 rfl (lv_room (Nat.le_of_ble_eq_true rfl)) dX11_isLawfulTo_203 ⟨Nat.le_of_ble_eq_true rfl, Nat.le_of_ble_eq_true rfl⟩) hS hFc hFc rfl (fun t H locs ht hB hk1 hS => ?_)
                obtain ⟨q_43, hP1, hD1⟩ := hB
                rw [ht] at hP1
                obtain ⟨hP, hD⟩ := zn (W2 := [_, _, _, _, _, (oa (a 32) cI 8 q_43), _, _, _, _, _, _, _, _]) hP hD hk1 hFc hP1 hD1 zl_148 zl_149 zl_149 zl_148 (by decide +kernel) rfl rfl rfl rfl rfl
                clear hk1 hPc hDc hFc hP1 hD1 ht
                refine zz_i (v := pI (∀ k, k < eO (kd g).toInt m2 → fWy (ox 0).toInt (oy 0).toInt (cF40 cx f 0).toInt (cF40 cy f 0).toInt m2 (cF40 cx g) (cF40 cy g) k)) (rfl) ?_
                refine lv_if_eq (tgt := 213) hx hb dX11_isLawfulTo_206 rfl (fun c_44 => ?_) (fun c_44 => ?_)
                · have c_44 : ¬ (∀ k, k < eO (kd g).toInt m2 → fWy (ox 0).toInt (oy 0).toInt (cF40 cx f 0).toInt (cF40 cy f 0).toInt m2 (cF40 cx g) (cF40 cy g) k) := zp_0 c_44
                  refine lv_iconst (v := 0) hx hb dX11_isLawfulTo_213 rfl ?_
                  obtain ⟨hP9, hD9⟩ := zu_sub (wc := [_, _, _, _, _, _, _, _, _, _, _, _, _, _]) hP hD [true, true, true, true, true, true, true, true, true, true, true, true, true, true] rfl rfl
                  rw [hQ9]
                  exact W.zret (ty := .boolean) (v := 0) hx hb hr (rfl) (fun t ht hW => ⟨⟨congrArg (fun z => Outcome.returned (some (Value.int z))) (show (0 : Int32) = pI (lawTo (ox 0) (oy 0) (kd f).toInt n (cF40 cx f) (cF40 cy f) (kd g).toInt m2 (cF40 cx g) (cF40 cy g) MT WI IN (fun k => ∃ e, e < eO (kd f).toInt on ∧ swp on ox oy (cF40 cx f) (cF40 cy f) (cF40 cx g k).toInt (cF40 cy g k).toInt e)) from (zp_f (by first | exact ⟨zp_ieq.mp (by first | with_reducible assumption | assumption), fun h => (by first | (exfalso; omega) | exact zp_ieq.mp (by first | with_reducible assumption | assumption)), fun j hj => hall j (by omega), fun h => (by first | (exfalso; omega) | assumption)⟩ | exact fun h => absurd (h.2.2.2 (by omega)) (by first | with_reducible assumption | assumption))).symm), z9, q_43, T1, P1, Q1, by rw [ht]; exact hP9, hD9⟩, hS.F ht⟩) hS.2.2 dX11_isLawfulTo_214
                · have c_44 : ∀ k, k < eO (kd g).toInt m2 → fWy (ox 0).toInt (oy 0).toInt (cF40 cx f 0).toInt (cF40 cy f 0).toInt m2 (cF40 cx g) (cF40 cy g) k := zp_1 c_44
                  refine lv_iconst (v := 1) hx hb dX11_isLawfulTo_209 rfl ?_
                  refine lv_goto (tgt := 214) hx hb dX11_isLawfulTo_210 rfl ?_
                  obtain ⟨hP9, hD9⟩ := zu_sub (wc := [_, _, _, _, _, _, _, _, _, _, _, _, _, _]) hP hD [true, true, true, true, true, true, true, true, true, true, true, true, true, true] rfl rfl
                  rw [hQ9]
                  exact W.zret (ty := .boolean) (v := 1) hx hb hr (rfl) (fun t ht hW => ⟨⟨congrArg (fun z => Outcome.returned (some (Value.int z))) (show (1 : Int32) = pI (lawTo (ox 0) (oy 0) (kd f).toInt n (cF40 cx f) (cF40 cy f) (kd g).toInt m2 (cF40 cx g) (cF40 cy g) MT WI IN (fun k => ∃ e, e < eO (kd f).toInt on ∧ swp on ox oy (cF40 cx f) (cF40 cy f) (cF40 cx g k).toInt (cF40 cy g k).toInt e)) from (zp_t (by first | exact ⟨zp_ieq.mp (by first | with_reducible assumption | assumption), fun h => (by first | (exfalso; omega) | exact zp_ieq.mp (by first | with_reducible assumption | assumption)), fun j hj => hall j (by omega), fun h => (by first | (exfalso; omega) | assumption)⟩ | exact fun h => absurd (h.2.2.2 (by omega)) (by first | with_reducible assumption | assumption))).symm), z9, q_43, T1, P1, Q1, by rw [ht]; exact hP9, hD9⟩, hS.F ht⟩) hS.2.2 dX11_isLawfulTo_214
            · have c_38 : ((k : Nat) : Int) < ((m2 : Nat) : Int) := zc_nle (nI_toInt b9_40) (nI_toInt b9_39) c_38
              have hk9 : k < m2 := (by omega)
              refine lv_aload_n hx hb dX11_isLawfulTo_73 rfl (lv_at hl 1 rfl) ?_
              refine va_get (D := (dC, dI)) (ci := 9) (v := .ref (a 12)) (C := RX11) (T := TX11) (N := 55) hx hb hts inX11 hown hK hP 0 rfl rfl 12 (Nat.le_of_ble_eq_true rfl) (hts _ mw_1171) (fun _ h9 => h9) rfl dX11_isLawfulTo_74 ?_
              refine lv_bipush (v := 40) hx hb dX11_isLawfulTo_77 rfl ?_
              refine lv_iload_n hx hb dX11_isLawfulTo_79 rfl (lv_at hl 3 rfl) ?_
              refine lv_imul hx hb dX11_isLawfulTo_80 ?_
              refine zz_i (v := nI (40 * g)) (pk_mul 40 g) ?_
              refine lv_iload hx hb dX11_isLawfulTo_81 (lv_at hl 0 rfl) ?_
              refine lv_iadd hx hb dX11_isLawfulTo_83 ?_
              refine zz_i (v := nI (40 * g + k)) (nI_add (40 * g) k) ?_
              have b9_45 : 40 * g + k < 8040 := by omega
              refine z_iald hx hb hK hP 3 0 rfl rfl (e := 40 * g + k) rfl b9_45 (Nat.le_of_ble_eq_true rfl) dX11_isLawfulTo_84 ?_
              refine lv_istore (lv' := [(6, .int (cx (40 * g + k))), (5, .int (nI k)), (0, .ref k0), (1, .int (nI f)), (2, .int (nI g)), (3, .int (nI h)), (4, .int (-1))]) hx hb dX11_isLawfulTo_85 hl (Nat.le_of_ble_eq_true rfl) rfl (fun ls hl => ?_)
              refine lv_aload_n hx hb dX11_isLawfulTo_87 rfl (lv_at hl 2 rfl) ?_
              refine va_get (D := (dC, dI)) (ci := 9) (v := .ref (a 13)) (C := RX11) (T := TX11) (N := 55) hx hb hts inX11 hown hK hP 0 rfl rfl 13 (Nat.le_of_ble_eq_true rfl) (hts _ mw_1172) (fun _ h9 => h9) rfl dX11_isLawfulTo_88 ?_
              refine lv_bipush (v := 40) hx hb dX11_isLawfulTo_91 rfl ?_
              refine lv_iload_n hx hb dX11_isLawfulTo_93 rfl (lv_at hl 4 rfl) ?_
              refine lv_imul hx hb dX11_isLawfulTo_94 ?_
              refine zz_i (v := nI (40 * g)) (pk_mul 40 g) ?_
              refine lv_iload hx hb dX11_isLawfulTo_95 (lv_at hl 1 rfl) ?_
              refine lv_iadd hx hb dX11_isLawfulTo_97 ?_
              refine zz_i (v := nI (40 * g + k)) (nI_add (40 * g) k) ?_
              refine z_iald hx hb hK hP 4 0 rfl rfl (e := 40 * g + k) rfl b9_45 (Nat.le_of_ble_eq_true rfl) dX11_isLawfulTo_98 ?_
              refine lv_istore (lv' := [(7, .int (cy (40 * g + k))), (6, .int (cx (40 * g + k))), (5, .int (nI k)), (0, .ref k0), (1, .int (nI f)), (2, .int (nI g)), (3, .int (nI h)), (4, .int (-1))]) hx hb dX11_isLawfulTo_99 hl (Nat.le_of_ble_eq_true rfl) rfl (fun ls hl => ?_)
              refine lv_aload_n hx hb dX11_isLawfulTo_101 rfl (lv_at hl 3 rfl) ?_
              refine lv_iload_n hx hb dX11_isLawfulTo_102 rfl (lv_at hl 4 rfl) ?_
              obtain ⟨hPc, hDc, hFc, hI1⟩ := zi_sub (wc := [_, _]) hP hD hS hA [0, 1] rfl rfl
              refine zcall (st1 := [.int (pI (5 ≤ (kd f).toInt))]) (va_runV (As := [.int (nI f)]) (rest := []) ⟨hx, hb, hml, hown, hts⟩ (k_M_isRing l dC dI cI cZ cF H.size k0 a (upd I0 31 z9) J0 f kd (by first | with_reducible assumption | omega)) (csV_165 hts rfl rfl ⟨Nat.le_of_ble_eq_true rfl, Nat.le_of_ble_eq_true rfl⟩) (zPV2 (q0 := 0) (ci := 9) hPc hDc hK hXN rfl rfl) rfl rfl hl.1 rfl (lv_room (Nat.le_of_ble_eq_true rfl)) dX11_isLawfulTo_103 ⟨Nat.le_of_ble_eq_true rfl, Nat.le_of_ble_eq_true rfl⟩) hS hFc hFc rfl (fun t H locs ht hB hk1 hS => ?_)
              obtain ⟨hP1, hD1⟩ := hB
              rw [ht] at hP1
              replace hP := z0 hP hD hk1 hP1 hI1
              clear hk1 hPc hDc hFc hP1 hD1 ht hI1
              refine lv_if_eq (tgt := 135) hx hb dX11_isLawfulTo_106 rfl (fun c_46 => ?_) (fun c_46 => ?_)
              · have c_46 : ¬ (5 ≤ (kd f).toInt) := zp_0 c_46
                refine lv_aload_n hx hb dX11_isLawfulTo_135 rfl (lv_at hl 3 rfl) ?_
                refine va_get (D := (dC, dI)) (ci := 9) (v := .ref (a 1)) (C := RX11) (T := TX11) (N := 55) hx hb hts inX11 hown hK hP 0 rfl rfl 1 (Nat.le_of_ble_eq_true rfl) (hts _ mw_1160) (fun _ h9 => h9) rfl dX11_isLawfulTo_136 ?_
                refine lv_iload_n hx hb dX11_isLawfulTo_139 rfl (lv_at hl 4 rfl) ?_
                have b9_47 : f < 201 := by omega
                refine z_iald hx hb hK hP 1 0 rfl rfl (e := f) rfl b9_47 (Nat.le_of_ble_eq_true rfl) dX11_isLawfulTo_140 ?_
                refine lv_if_eq (tgt := 185) hx hb dX11_isLawfulTo_141 rfl (fun c_48 => ?_) (fun c_48 => ?_)
                · have c_48 : (kd f).toInt = 0 := zc_eq rfl rfl c_48
                  refine lv_iinc (v := nI (k + 1)) (lv' := [(5, .int (nI (k + 1))), (7, .int (cy (40 * g + k))), (6, .int (cx (40 * g + k))), (0, .ref k0), (1, .int (nI f)), (2, .int (nI g)), (3, .int (nI h)), (4, .int (-1))]) hx hb dX11_isLawfulTo_185 hl (k := 2) rfl (nI_add k 1) (Nat.le_of_ble_eq_true rfl) rfl (fun ls hl => ?_)
                  refine lv_goto (tgt := 62) hx hb dX11_isLawfulTo_188 rfl ?_
                  exact ih_62 (k + 1) z9 S1 T1 P1 Q1 H locs ls (by first | with_reducible assumption | omega) (by first | with_reducible assumption | omega) (by intro j hj; rcases Nat.lt_or_ge j k with h | h; exact hall j h; obtain rfl : j = k := (by first | with_reducible assumption | omega); exact ⟨fun h5 => (by first | (exfalso; omega) | exact zp_ieq.mp (by first | with_reducible assumption | assumption)), fun h0 => (by first | (exfalso; omega) | exact id | assumption)⟩) hP hD hS (lv_sub hl [0, 3, 4, 5, 6, 7] rfl)
                · have c_48 : ¬ (kd f).toInt = 0 := zc_ne rfl rfl c_48
                  refine lv_iload_n hx hb dX11_isLawfulTo_144 rfl (lv_at hl 6 rfl) ?_
                  refine lv_iconst (v := 5) hx hb dX11_isLawfulTo_145 rfl ?_
                  have b9_50 : zlt (h) := show h < 2147483648 by omega
                  refine lv_icmp_eq (tgt := 185) hx hb dX11_isLawfulTo_146 rfl (fun c_49 => ?_) (fun c_49 => ?_)
                  · have c_49 : ((h : Nat) : Int) = 5 := zc_eq (nI_toInt b9_50) rfl c_49
                    exfalso; omega
                  · have c_49 : ¬ ((h : Nat) : Int) = 5 := zc_ne (nI_toInt b9_50) rfl c_49
                    refine lv_iload hx hb dX11_isLawfulTo_149 (lv_at hl 7 rfl) ?_
                    refine lv_iconst (v := (-1)) hx hb dX11_isLawfulTo_151 rfl ?_
                    refine lv_icmp_eq (tgt := 171) hx hb dX11_isLawfulTo_152 rfl (fun c_51 => ?_) (fun c_51 => ?_)
                    · refine lv_aload_n hx hb dX11_isLawfulTo_171 rfl (lv_at hl 3 rfl) ?_
                      refine lv_iload_n hx hb dX11_isLawfulTo_172 rfl (lv_at hl 4 rfl) ?_
                      refine lv_iload hx hb dX11_isLawfulTo_173 (lv_at hl 1 rfl) ?_
                      refine lv_iload hx hb dX11_isLawfulTo_175 (lv_at hl 0 rfl) ?_
                      obtain ⟨hPc, hDc, hFc⟩ := zo_sub (wc := [_, _, _, _, _, _, _, _, _, _]) hP hD hS hA [0, 1, 2, 3, 4, 6, 7, 8, 9, 10] (by decide +kernel) rfl
                      refine zcall (st1 := [.int (pI (∃ e9, e9 < eO (kd f).toInt on ∧ swp on ox oy (cF40 cx f) (cF40 cy f) (cx (40 * g + k)).toInt (cy (40 * g + k)).toInt e9))]) (va_runV (As := [.int (nI f), .int (cx (40 * g + k)), .int (cy (40 * g + k))]) (rest := []) ⟨hx, hb, hml, hown, hts⟩ (k_M_isSwept l dC dI cI cZ cF H.size k0 a (upd I0 31 z9) J0 f on (cx (40 * g + k)) (cy (40 * g + k)) kd mn cx cy T1 P1 Q1 ox oy (hon) (by first | with_reducible assumption | omega) (by first | with_reducible assumption | omega) (by rw [← hon2]; assumption) (by first | with_reducible assumption | omega) (by rw [← hon2]; assumption) (by first | with_reducible assumption | assumption) ((hp_g k hk9).1) ((hp_g k hk9).2)) (csV_184 hts rfl rfl ⟨Nat.le_of_ble_eq_true rfl, Nat.le_of_ble_eq_true rfl⟩) (zPV2 (q0 := 0) (ci := 9) hPc hDc hK hXN rfl rfl) rfl rfl hl.1 rfl (lv_room (Nat.le_of_ble_eq_true rfl)) dX11_isLawfulTo_177 ⟨Nat.le_of_ble_eq_true rfl, Nat.le_of_ble_eq_true rfl⟩) hS hFc hFc rfl (fun t H locs ht hB hk1 hS => ?_)
                      obtain ⟨q_52, q_53, q_54, hP1, hD1⟩ := hB
                      rw [ht] at hP1
                      obtain ⟨hP, hD⟩ := zn (W2 := [(om k0 a (upd I0 31 (nI on)) J0), _, _, _, _, _, (oa (a 40) cI 6 q_52), (oa (a 29) cI 42 q_53), (oa (a 30) cI 42 q_54), _, _, _, _, _]) hP hD hk1 hFc hP1 hD1 zl_151 zl_152 zl_152 zl_151 (by decide +kernel) rfl rfl rfl rfl rfl
                      clear hk1 hPc hDc hFc hP1 hD1 ht
                      refine zz_i (v := pI ((fun k => ∃ e, e < eO (kd f).toInt on ∧ swp on ox oy (cF40 cx f) (cF40 cy f) (cF40 cx g k).toInt (cF40 cy g k).toInt e) k)) (rfl) ?_
                      refine lv_if_eq (tgt := 185) hx hb dX11_isLawfulTo_180 rfl (fun c_55 => ?_) (fun c_55 => ?_)
                      · have c_55 : ¬ ((fun k => ∃ e, e < eO (kd f).toInt on ∧ swp on ox oy (cF40 cx f) (cF40 cy f) (cF40 cx g k).toInt (cF40 cy g k).toInt e) k) := zp_0 c_55
                        refine lv_iinc (v := nI (k + 1)) (lv' := [(5, .int (nI (k + 1))), (7, .int (cy (40 * g + k))), (6, .int (cx (40 * g + k))), (0, .ref k0), (1, .int (nI f)), (2, .int (nI g)), (3, .int (nI h)), (4, .int (-1))]) hx hb dX11_isLawfulTo_185 hl (k := 2) rfl (nI_add k 1) (Nat.le_of_ble_eq_true rfl) rfl (fun ls hl => ?_)
                        refine lv_goto (tgt := 62) hx hb dX11_isLawfulTo_188 rfl ?_
                        exact ih_62 (k + 1) (nI on) S1 q_52 q_53 q_54 H locs ls (by first | with_reducible assumption | omega) (by first | with_reducible assumption | omega) (by intro j hj; rcases Nat.lt_or_ge j k with h | h; exact hall j h; obtain rfl : j = k := (by first | with_reducible assumption | omega); exact ⟨fun h5 => (by first | (exfalso; omega) | exact zp_ieq.mp (by first | with_reducible assumption | assumption)), fun h0 => (by first | (exfalso; omega) | exact id | assumption)⟩) hP hD hS (lv_sub hl [0, 3, 4, 5, 6, 7] rfl)
                      · have c_55 : (fun k => ∃ e, e < eO (kd f).toInt on ∧ swp on ox oy (cF40 cx f) (cF40 cy f) (cF40 cx g k).toInt (cF40 cy g k).toInt e) k := zp_1 c_55
                        refine lv_iconst (v := 0) hx hb dX11_isLawfulTo_183 rfl ?_
                        obtain ⟨hP9, hD9⟩ := zu_sub (wc := [_, _, _, _, _, _, _, _, _, _, _, _, _, _]) hP hD [true, true, true, true, true, true, true, true, true, true, true, true, true, true] rfl rfl
                        rw [hQ9]
                        exact W.zret (ty := .boolean) (v := 0) hx hb hr (rfl) (fun t ht hW => ⟨⟨congrArg (fun z => Outcome.returned (some (Value.int z))) (show (0 : Int32) = pI (lawTo (ox 0) (oy 0) (kd f).toInt n (cF40 cx f) (cF40 cy f) (kd g).toInt m2 (cF40 cx g) (cF40 cy g) MT WI IN (fun k => ∃ e, e < eO (kd f).toInt on ∧ swp on ox oy (cF40 cx f) (cF40 cy f) (cF40 cx g k).toInt (cF40 cy g k).toInt e)) from (zp_f (fun h => (h.2.2.1 k (by omega)).2 (by omega) (by first | with_reducible assumption | assumption))).symm), (nI on), S1, q_52, q_53, q_54, by rw [ht]; exact hP9, hD9⟩, hS.F ht⟩) hS.2.2 dX11_isLawfulTo_184
                    · exact absurd (by decide) c_51
              · have c_46 : 5 ≤ (kd f).toInt := zp_1 c_46
                refine lv_aload_n hx hb dX11_isLawfulTo_109 rfl (lv_at hl 3 rfl) ?_
                refine lv_iload_n hx hb dX11_isLawfulTo_110 rfl (lv_at hl 4 rfl) ?_
                refine lv_iload hx hb dX11_isLawfulTo_111 (lv_at hl 1 rfl) ?_
                refine lv_iload hx hb dX11_isLawfulTo_113 (lv_at hl 0 rfl) ?_
                obtain ⟨hPc, hDc, hFc⟩ := zo_sub (wc := [_, _, _, _, _, _]) hP hD hS hA [0, 1, 2, 3, 4, 5] (by decide +kernel) rfl
                refine zcall (st1 := [.int (pI (¬ (∃ i, i < eO (kd f).toInt n ∧ eOn n (cF40 cx f) (cF40 cy f) i (cx (40 * g + k)).toInt (cy (40 * g + k)).toInt) ∧ par2 (eTg n (cF40 cx f) (cF40 cy f) (cx (40 * g + k)).toInt (cy (40 * g + k)).toInt) (eO (kd f).toInt n)))]) (va_runV (As := [.int (nI f), .int (cx (40 * g + k)), .int (cy (40 * g + k))]) (rest := []) ⟨hx, hb, hml, hown, hts⟩ (k_M_isInside l dC dI cI cZ cF H.size k0 a (upd I0 31 z9) J0 f n kd mn cx cy S1 (cx (40 * g + k)) (cy (40 * g + k)) (by first | with_reducible assumption | omega) (by first | with_reducible assumption | assumption) (by first | with_reducible assumption | omega) (by first | with_reducible assumption | assumption) ((hp_g k hk9).1) ((hp_g k hk9).2)) (csV_183 hts rfl rfl ⟨Nat.le_of_ble_eq_true rfl, Nat.le_of_ble_eq_true rfl⟩) (zPV2 (q0 := 0) (ci := 9) hPc hDc hK hXN rfl rfl) rfl rfl hl.1 rfl (lv_room (Nat.le_of_ble_eq_true rfl)) dX11_isLawfulTo_115 ⟨Nat.le_of_ble_eq_true rfl, Nat.le_of_ble_eq_true rfl⟩) hS hFc hFc rfl (fun t H locs ht hB hk1 hS => ?_)
                obtain ⟨q_56, hP1, hD1⟩ := hB
                rw [ht] at hP1
                obtain ⟨hP, hD⟩ := zn (W2 := [_, _, _, _, _, (oa (a 32) cI 8 q_56), _, _, _, _, _, _, _, _]) hP hD hk1 hFc hP1 hD1 [0, 1, 2, 3, 4, 5] zl_147 zl_147 [0, 1, 2, 3, 4, 5] (by decide +kernel) rfl rfl rfl rfl rfl
                clear hk1 hPc hDc hFc hP1 hD1 ht
                refine zz_i (v := pI (inF (kd f).toInt n (cF40 cx f) (cF40 cy f) (cF40 cx g k).toInt (cF40 cy g k).toInt)) (rfl) ?_
                refine lv_aload_n hx hb dX11_isLawfulTo_118 rfl (lv_at hl 3 rfl) ?_
                refine va_get (D := (dC, dI)) (ci := 9) (v := .ref (a 39)) (C := RX11) (T := TX11) (N := 55) hx hb hts inX11 hown hK hP 0 rfl rfl 39 (Nat.le_of_ble_eq_true rfl) (hts _ mw_1198) (fun _ h9 => h9) rfl dX11_isLawfulTo_119 ?_
                refine lv_bipush (v := 40) hx hb dX11_isLawfulTo_122 rfl ?_
                refine lv_iload_n hx hb dX11_isLawfulTo_124 rfl (lv_at hl 5 rfl) ?_
                refine lv_imul hx hb dX11_isLawfulTo_125 ?_
                refine zz_i (v := nI (40 * g)) (pk_mul 40 g) ?_
                refine lv_iload hx hb dX11_isLawfulTo_126 (lv_at hl 2 rfl) ?_
                refine lv_iadd hx hb dX11_isLawfulTo_128 ?_
                refine zz_i (v := nI (40 * g + k)) (nI_add (40 * g) k) ?_
                have b9_57 : 40 * g + k < 8040 := by omega
                refine z_zald hx hb hK hP 13 1 rfl rfl (e := 40 * g + k) rfl b9_57 (Nat.le_of_ble_eq_true rfl) dX11_isLawfulTo_129 ?_
                refine zz_i (v := pI (IN k)) (hin k (by omega) (by omega)) ?_
                refine lv_icmp_eq (tgt := 135) hx hb dX11_isLawfulTo_130 rfl (fun c_58 => ?_) (fun c_58 => ?_)
                · have c_58 : (pI (inF (kd f).toInt n (cF40 cx f) (cF40 cy f) (cF40 cx g k).toInt (cF40 cy g k).toInt)).toInt = (pI (IN k)).toInt := zc_eq rfl rfl c_58
                  refine lv_aload_n hx hb dX11_isLawfulTo_135 rfl (lv_at hl 3 rfl) ?_
                  refine va_get (D := (dC, dI)) (ci := 9) (v := .ref (a 1)) (C := RX11) (T := TX11) (N := 55) hx hb hts inX11 hown hK hP 0 rfl rfl 1 (Nat.le_of_ble_eq_true rfl) (hts _ mw_1160) (fun _ h9 => h9) rfl dX11_isLawfulTo_136 ?_
                  refine lv_iload_n hx hb dX11_isLawfulTo_139 rfl (lv_at hl 4 rfl) ?_
                  have b9_59 : f < 201 := by omega
                  refine z_iald hx hb hK hP 1 0 rfl rfl (e := f) rfl b9_59 (Nat.le_of_ble_eq_true rfl) dX11_isLawfulTo_140 ?_
                  refine lv_if_eq (tgt := 185) hx hb dX11_isLawfulTo_141 rfl (fun c_60 => ?_) (fun c_60 => ?_)
                  · have c_60 : (kd f).toInt = 0 := zc_eq rfl rfl c_60
                    refine lv_iinc (v := nI (k + 1)) (lv' := [(5, .int (nI (k + 1))), (7, .int (cy (40 * g + k))), (6, .int (cx (40 * g + k))), (0, .ref k0), (1, .int (nI f)), (2, .int (nI g)), (3, .int (nI h)), (4, .int (-1))]) hx hb dX11_isLawfulTo_185 hl (k := 2) rfl (nI_add k 1) (Nat.le_of_ble_eq_true rfl) rfl (fun ls hl => ?_)
                    refine lv_goto (tgt := 62) hx hb dX11_isLawfulTo_188 rfl ?_
                    exact ih_62 (k + 1) z9 q_56 T1 P1 Q1 H locs ls (by first | with_reducible assumption | omega) (by first | with_reducible assumption | omega) (by intro j hj; rcases Nat.lt_or_ge j k with h | h; exact hall j h; obtain rfl : j = k := (by first | with_reducible assumption | omega); exact ⟨fun h5 => (by first | (exfalso; omega) | exact zp_ieq.mp (by first | with_reducible assumption | assumption)), fun h0 => (by first | (exfalso; omega) | exact id | assumption)⟩) hP hD hS (lv_sub hl [0, 3, 4, 5, 6, 7] rfl)
                  · have c_60 : ¬ (kd f).toInt = 0 := zc_ne rfl rfl c_60
                    refine lv_iload_n hx hb dX11_isLawfulTo_144 rfl (lv_at hl 6 rfl) ?_
                    refine lv_iconst (v := 5) hx hb dX11_isLawfulTo_145 rfl ?_
                    have b9_62 : zlt (h) := show h < 2147483648 by omega
                    refine lv_icmp_eq (tgt := 185) hx hb dX11_isLawfulTo_146 rfl (fun c_61 => ?_) (fun c_61 => ?_)
                    · have c_61 : ((h : Nat) : Int) = 5 := zc_eq (nI_toInt b9_62) rfl c_61
                      exfalso; omega
                    · have c_61 : ¬ ((h : Nat) : Int) = 5 := zc_ne (nI_toInt b9_62) rfl c_61
                      refine lv_iload hx hb dX11_isLawfulTo_149 (lv_at hl 7 rfl) ?_
                      refine lv_iconst (v := (-1)) hx hb dX11_isLawfulTo_151 rfl ?_
                      refine lv_icmp_eq (tgt := 171) hx hb dX11_isLawfulTo_152 rfl (fun c_63 => ?_) (fun c_63 => ?_)
                      · refine lv_aload_n hx hb dX11_isLawfulTo_171 rfl (lv_at hl 3 rfl) ?_
                        refine lv_iload_n hx hb dX11_isLawfulTo_172 rfl (lv_at hl 4 rfl) ?_
                        refine lv_iload hx hb dX11_isLawfulTo_173 (lv_at hl 1 rfl) ?_
                        refine lv_iload hx hb dX11_isLawfulTo_175 (lv_at hl 0 rfl) ?_
                        obtain ⟨hPc, hDc, hFc⟩ := zo_sub (wc := [_, _, _, _, _, _, _, _, _, _]) hP hD hS hA [0, 1, 2, 3, 4, 6, 7, 8, 9, 10] (by decide +kernel) rfl
                        refine zcall (st1 := [.int (pI (∃ e9, e9 < eO (kd f).toInt on ∧ swp on ox oy (cF40 cx f) (cF40 cy f) (cx (40 * g + k)).toInt (cy (40 * g + k)).toInt e9))]) (va_runV (As := [.int (nI f), .int (cx (40 * g + k)), .int (cy (40 * g + k))]) (rest := []) ⟨hx, hb, hml, hown, hts⟩ (k_M_isSwept l dC dI cI cZ cF H.size k0 a (upd I0 31 z9) J0 f on (cx (40 * g + k)) (cy (40 * g + k)) kd mn cx cy T1 P1 Q1 ox oy (hon) (by first | with_reducible assumption | omega) (by first | with_reducible assumption | omega) (by rw [← hon2]; assumption) (by first | with_reducible assumption | omega) (by rw [← hon2]; assumption) (by first | with_reducible assumption | assumption) ((hp_g k hk9).1) ((hp_g k hk9).2)) (csV_184 hts rfl rfl ⟨Nat.le_of_ble_eq_true rfl, Nat.le_of_ble_eq_true rfl⟩) (zPV2 (q0 := 0) (ci := 9) hPc hDc hK hXN rfl rfl) rfl rfl hl.1 rfl (lv_room (Nat.le_of_ble_eq_true rfl)) dX11_isLawfulTo_177 ⟨Nat.le_of_ble_eq_true rfl, Nat.le_of_ble_eq_true rfl⟩) hS hFc hFc rfl (fun t H locs ht hB hk1 hS => ?_)
                        obtain ⟨q_64, q_65, q_66, hP1, hD1⟩ := hB
                        rw [ht] at hP1
                        obtain ⟨hP, hD⟩ := zn (W2 := [(om k0 a (upd I0 31 (nI on)) J0), _, _, _, _, _, (oa (a 40) cI 6 q_64), (oa (a 29) cI 42 q_65), (oa (a 30) cI 42 q_66), _, _, _, _, _]) hP hD hk1 hFc hP1 hD1 zl_151 zl_152 zl_152 zl_151 (by decide +kernel) rfl rfl rfl rfl rfl
                        clear hk1 hPc hDc hFc hP1 hD1 ht
                        refine zz_i (v := pI ((fun k => ∃ e, e < eO (kd f).toInt on ∧ swp on ox oy (cF40 cx f) (cF40 cy f) (cF40 cx g k).toInt (cF40 cy g k).toInt e) k)) (rfl) ?_
                        refine lv_if_eq (tgt := 185) hx hb dX11_isLawfulTo_180 rfl (fun c_67 => ?_) (fun c_67 => ?_)
                        · have c_67 : ¬ ((fun k => ∃ e, e < eO (kd f).toInt on ∧ swp on ox oy (cF40 cx f) (cF40 cy f) (cF40 cx g k).toInt (cF40 cy g k).toInt e) k) := zp_0 c_67
                          refine lv_iinc (v := nI (k + 1)) (lv' := [(5, .int (nI (k + 1))), (7, .int (cy (40 * g + k))), (6, .int (cx (40 * g + k))), (0, .ref k0), (1, .int (nI f)), (2, .int (nI g)), (3, .int (nI h)), (4, .int (-1))]) hx hb dX11_isLawfulTo_185 hl (k := 2) rfl (nI_add k 1) (Nat.le_of_ble_eq_true rfl) rfl (fun ls hl => ?_)
                          refine lv_goto (tgt := 62) hx hb dX11_isLawfulTo_188 rfl ?_
                          exact ih_62 (k + 1) (nI on) q_56 q_64 q_65 q_66 H locs ls (by first | with_reducible assumption | omega) (by first | with_reducible assumption | omega) (by intro j hj; rcases Nat.lt_or_ge j k with h | h; exact hall j h; obtain rfl : j = k := (by first | with_reducible assumption | omega); exact ⟨fun h5 => (by first | (exfalso; omega) | exact zp_ieq.mp (by first | with_reducible assumption | assumption)), fun h0 => (by first | (exfalso; omega) | exact id | assumption)⟩) hP hD hS (lv_sub hl [0, 3, 4, 5, 6, 7] rfl)
                        · have c_67 : (fun k => ∃ e, e < eO (kd f).toInt on ∧ swp on ox oy (cF40 cx f) (cF40 cy f) (cF40 cx g k).toInt (cF40 cy g k).toInt e) k := zp_1 c_67
                          refine lv_iconst (v := 0) hx hb dX11_isLawfulTo_183 rfl ?_
                          obtain ⟨hP9, hD9⟩ := zu_sub (wc := [_, _, _, _, _, _, _, _, _, _, _, _, _, _]) hP hD [true, true, true, true, true, true, true, true, true, true, true, true, true, true] rfl rfl
                          rw [hQ9]
                          exact W.zret (ty := .boolean) (v := 0) hx hb hr (rfl) (fun t ht hW => ⟨⟨congrArg (fun z => Outcome.returned (some (Value.int z))) (show (0 : Int32) = pI (lawTo (ox 0) (oy 0) (kd f).toInt n (cF40 cx f) (cF40 cy f) (kd g).toInt m2 (cF40 cx g) (cF40 cy g) MT WI IN (fun k => ∃ e, e < eO (kd f).toInt on ∧ swp on ox oy (cF40 cx f) (cF40 cy f) (cF40 cx g k).toInt (cF40 cy g k).toInt e)) from (zp_f (fun h => (h.2.2.1 k (by omega)).2 (by omega) (by first | with_reducible assumption | assumption))).symm), (nI on), q_56, q_64, q_65, q_66, by rw [ht]; exact hP9, hD9⟩, hS.F ht⟩) hS.2.2 dX11_isLawfulTo_184
                      · exact absurd (by decide) c_63
                · have c_58 : ¬ (pI (inF (kd f).toInt n (cF40 cx f) (cF40 cy f) (cF40 cx g k).toInt (cF40 cy g k).toInt)).toInt = (pI (IN k)).toInt := zc_ne rfl rfl c_58
                  refine lv_iconst (v := 0) hx hb dX11_isLawfulTo_133 rfl ?_
                  obtain ⟨hP9, hD9⟩ := zu_sub (wc := [_, _, _, _, _, _, _, _, _, _, _, _, _, _]) hP hD [true, true, true, true, true, true, true, true, true, true, true, true, true, true] rfl rfl
                  rw [hQ9]
                  exact W.zret (ty := .boolean) (v := 0) hx hb hr (rfl) (fun t ht hW => ⟨⟨congrArg (fun z => Outcome.returned (some (Value.int z))) (show (0 : Int32) = pI (lawTo (ox 0) (oy 0) (kd f).toInt n (cF40 cx f) (cF40 cy f) (kd g).toInt m2 (cF40 cx g) (cF40 cy g) MT WI IN (fun k => ∃ e, e < eO (kd f).toInt on ∧ swp on ox oy (cF40 cx f) (cF40 cy f) (cF40 cx g k).toInt (cF40 cy g k).toInt e)) from (zp_f (fun h => absurd (zp_ieq.mpr ((h.2.2.1 k (by omega)).1 (by omega))) (by first | with_reducible assumption | assumption))).symm), z9, q_56, T1, P1, Q1, by rw [ht]; exact hP9, hD9⟩, hS.F ht⟩) hS.2.2 dX11_isLawfulTo_134
        exact hl_62 _ 0 (I0 31) q_36 T0 P0 Q0 H locs ls (Nat.lt_succ_self _) (by first | with_reducible assumption | omega) (by intro j hj; omega) hP hD hS (lv_sub hl [0, 1, 2, 3, 4, 5] rfl)
      · have c_37 : ¬ (pI (inF (kd g).toInt m2 (cF40 cx g) (cF40 cy g) (cF40 cx f 0).toInt (cF40 cy f 0).toInt)).toInt = (pI WI).toInt := zc_ne rfl rfl c_37
        refine lv_iconst (v := 0) hx hb dX11_isLawfulTo_57 rfl ?_
        obtain ⟨hP9, hD9⟩ := zu_sub (wc := [_, _, _, _, _, _, _, _, _, _, _, _, _, _]) hP hD [true, true, true, true, true, true, true, true, true, true, true, true, true, true] rfl rfl
        rw [hQ9]
        exact W.zret (ty := .boolean) (v := 0) hx hb hr (rfl) (fun t ht hW => ⟨⟨congrArg (fun z => Outcome.returned (some (Value.int z))) (show (0 : Int32) = pI (lawTo (ox 0) (oy 0) (kd f).toInt n (cF40 cx f) (cF40 cy f) (kd g).toInt m2 (cF40 cx g) (cF40 cy g) MT WI IN (fun k => ∃ e, e < eO (kd f).toInt on ∧ swp on ox oy (cF40 cx f) (cF40 cy f) (cF40 cx g k).toInt (cF40 cy g k).toInt e)) from (zp_f (fun h => absurd (zp_ieq.mpr (h.2.1 (by omega))) (by first | with_reducible assumption | assumption))).symm), (I0 31), q_36, T0, P0, Q0, by rw [ht]; exact hP9, hD9⟩, hS.F ht⟩) hS.2.2 dX11_isLawfulTo_58
  · have c_3 : ¬ (pI (mtF (kd f).toInt n (cF40 cx f) (cF40 cy f) (kd g).toInt m2 (cF40 cx g) (cF40 cy g))).toInt = (pI MT).toInt := zc_ne rfl rfl c_3
    refine lv_iconst (v := 0) hx hb dX11_isLawfulTo_15 rfl ?_
    obtain ⟨hP9, hD9⟩ := zu_sub (wc := [_, _, _, _, _, _, _, _, _, _, _, _, _, _]) hP hD [true, true, true, true, true, true, true, true, true, true, true, true, true, true] rfl rfl
    rw [hQ9]
    exact W.zret (ty := .boolean) (v := 0) hx hb hr (rfl) (fun t ht hW => ⟨⟨congrArg (fun z => Outcome.returned (some (Value.int z))) (show (0 : Int32) = pI (lawTo (ox 0) (oy 0) (kd f).toInt n (cF40 cx f) (cF40 cy f) (kd g).toInt m2 (cF40 cx g) (cF40 cy g) MT WI IN (fun k => ∃ e, e < eO (kd f).toInt on ∧ swp on ox oy (cF40 cx f) (cF40 cy f) (cF40 cx g k).toInt (cF40 cy g k).toInt e)) from (zp_f (fun h => absurd (zp_ieq.mpr h.1) (by first | with_reducible assumption | assumption))).symm), (I0 31), q_1, T0, P0, Q0, by rw [ht]; exact hP9, hD9⟩, hS.F ht⟩) hS.2.2 dX11_isLawfulTo_16
end
section
set_option maxHeartbeats 4000000 in
set_option maxRecDepth 100000 in
theorem k_M_refuse_7 (l : Launch) (dC : Nat → ClassId) (dI : Nat → Nat → Nat) (cI cZ cF : ClassId) (sz : Nat) (k0 : Nat) (a : Nat → Nat) (I0 : Nat → Int32) (J0 : Nat → Int64) : zM l yX11_refuse cX11_refuse 2 (some .int) ({ frames := 0, cells := 0, slots := 0, locals := 0 } : Room) [.ref k0, .int 7] (dC, dI) (zTy cI cZ cF) [(om k0 a I0 J0)] sz (some (.int (-1))) (fun A t => zPD (dC, dI) classes A [(om k0 a (upd (upd I0 14 7) 15 (I0 15 + 1)) J0)] t.heap) 0 0 := by
  refine zIn (own := "ScaleShopModel") (loc := [(0, .ref k0), (1, .int 7)]) rfl rfl rfl rfl (fun p e s m below meth c hx hb hr hts hown hlocks hml hnm9 A hA hS hP hD hK hXN Q9 hQ9 ls hl => ?_)
  refine lv_aload_n hx hb dX11_refuse_0 rfl (lv_at hl 0 rfl) ?_
  refine lv_iload_n hx hb dX11_refuse_1 rfl (lv_at hl 1 rfl) ?_
  refine va_put (D := (dC, dI)) (ci := 9) (v := .int 7) (ty := .int) (C := RX11) (T := TX11) (N := 55) hx hb hts inX11 tyX11 tyX11_ok nmX11 hown hK hP hD hS 0 rfl rfl 14 (by decide) (hts _ mw_1173) (fun _ h9 => h9) rfl (by decide +kernel) rfl rfl (Nat.le_of_ble_eq_true rfl) dX11_refuse_2 (fun H locs hP hD hS => ?_)
  obtain ⟨hP, hD⟩ := zre (W2 := [(om k0 a (upd I0 14 7) J0)]) hP hD rfl
  refine lv_aload_n hx hb dX11_refuse_5 rfl (lv_at hl 0 rfl) ?_
  refine lv_dup hx hb dX11_refuse_6 rfl ?_
  refine va_get (D := (dC, dI)) (ci := 9) (v := .int (I0 15)) (C := RX11) (T := TX11) (N := 55) hx hb hts inX11 hown hK hP 0 rfl rfl 15 (Nat.le_of_ble_eq_true rfl) (hts _ mw_1174) (fun _ h9 => h9) rfl dX11_refuse_7 ?_
  refine lv_iload_n hx hb dX11_refuse_10 rfl (lv_at hl 1 rfl) ?_
  refine lv_bipush (v := 7) hx hb dX11_refuse_11 rfl ?_
  refine lv_icmp_ne (tgt := 20) hx hb dX11_refuse_13 rfl (fun c_1 => ?_) (fun c_1 => ?_)
  · exact absurd (by decide) c_1
  · refine lv_iconst (v := 1) hx hb dX11_refuse_16 rfl ?_
    refine lv_goto (tgt := 21) hx hb dX11_refuse_17 rfl ?_
    refine lv_iadd hx hb dX11_refuse_21 ?_
    refine zz_i (v := I0 15 + 1) (rfl) ?_
    refine va_put (D := (dC, dI)) (ci := 9) (v := .int (I0 15 + 1)) (ty := .int) (C := RX11) (T := TX11) (N := 55) hx hb hts inX11 tyX11 tyX11_ok nmX11 hown hK hP hD hS 0 rfl rfl 15 (by decide) (hts _ mw_1174) (fun _ h9 => h9) rfl (by decide +kernel) rfl rfl (Nat.le_of_ble_eq_true rfl) dX11_refuse_22 (fun H locs hP hD hS => ?_)
    obtain ⟨hP, hD⟩ := zre (W2 := [(om k0 a (upd (upd I0 14 7) 15 (I0 15 + 1)) J0)]) hP hD rfl
    refine lv_iconst (v := (-1)) hx hb dX11_refuse_25 rfl ?_
    obtain ⟨hP9, hD9⟩ := zu_sub (wc := [_]) hP hD [true] rfl rfl
    rw [hQ9]
    exact W.iret (v := (-1)) hx hb hr (fun t ht hW => ⟨⟨rfl, by rw [ht]; exact hP9, hD9⟩, hS.F ht⟩) hS.2.2 dX11_refuse_26
set_option maxHeartbeats 4000000 in
set_option maxRecDepth 100000 in
theorem k_M_refuse (l : Launch) (dC : Nat → ClassId) (dI : Nat → Nat → Nat) (cI cZ cF : ClassId) (sz : Nat) (k0 : Nat) (a : Nat → Nat) (I0 : Nat → Int32) (J0 : Nat → Int64) (w : Int32) (hw : ¬ w.toInt = 7) : zM l yX11_refuse cX11_refuse 2 (some .int) ({ frames := 0, cells := 0, slots := 0, locals := 0 } : Room) [.ref k0, .int w] (dC, dI) (zTy cI cZ cF) [(om k0 a I0 J0)] sz (some (.int (-1))) (fun A t => zPD (dC, dI) classes A [(om k0 a (upd (upd I0 14 w) 15 (I0 15)) J0)] t.heap) 0 0 := by
  refine zIn (own := "ScaleShopModel") (loc := [(0, .ref k0), (1, .int w)]) rfl rfl rfl rfl (fun p e s m below meth c hx hb hr hts hown hlocks hml hnm9 A hA hS hP hD hK hXN Q9 hQ9 ls hl => ?_)
  refine lv_aload_n hx hb dX11_refuse_0 rfl (lv_at hl 0 rfl) ?_
  refine lv_iload_n hx hb dX11_refuse_1 rfl (lv_at hl 1 rfl) ?_
  refine va_put (D := (dC, dI)) (ci := 9) (v := .int w) (ty := .int) (C := RX11) (T := TX11) (N := 55) hx hb hts inX11 tyX11 tyX11_ok nmX11 hown hK hP hD hS 0 rfl rfl 14 (by decide) (hts _ mw_1173) (fun _ h9 => h9) rfl (by decide +kernel) rfl rfl (Nat.le_of_ble_eq_true rfl) dX11_refuse_2 (fun H locs hP hD hS => ?_)
  obtain ⟨hP, hD⟩ := zre (W2 := [(om k0 a (upd I0 14 w) J0)]) hP hD rfl
  refine lv_aload_n hx hb dX11_refuse_5 rfl (lv_at hl 0 rfl) ?_
  refine lv_dup hx hb dX11_refuse_6 rfl ?_
  refine va_get (D := (dC, dI)) (ci := 9) (v := .int (I0 15)) (C := RX11) (T := TX11) (N := 55) hx hb hts inX11 hown hK hP 0 rfl rfl 15 (Nat.le_of_ble_eq_true rfl) (hts _ mw_1174) (fun _ h9 => h9) rfl dX11_refuse_7 ?_
  refine lv_iload_n hx hb dX11_refuse_10 rfl (lv_at hl 1 rfl) ?_
  refine lv_bipush (v := 7) hx hb dX11_refuse_11 rfl ?_
  refine lv_icmp_ne (tgt := 20) hx hb dX11_refuse_13 rfl (fun c_1 => ?_) (fun c_1 => ?_)
  · have c_1 : ¬ w.toInt = 7 := zc_ne rfl rfl c_1
    refine lv_iconst (v := 0) hx hb dX11_refuse_20 rfl ?_
    refine lv_iadd hx hb dX11_refuse_21 ?_
    refine zz_i (v := I0 15) (Int32.add_zero _) ?_
    refine va_put (D := (dC, dI)) (ci := 9) (v := .int (I0 15)) (ty := .int) (C := RX11) (T := TX11) (N := 55) hx hb hts inX11 tyX11 tyX11_ok nmX11 hown hK hP hD hS 0 rfl rfl 15 (by decide) (hts _ mw_1174) (fun _ h9 => h9) rfl (by decide +kernel) rfl rfl (Nat.le_of_ble_eq_true rfl) dX11_refuse_22 (fun H locs hP hD hS => ?_)
    obtain ⟨hP, hD⟩ := zre (W2 := [(om k0 a (upd (upd I0 14 w) 15 (I0 15)) J0)]) hP hD rfl
    refine lv_iconst (v := (-1)) hx hb dX11_refuse_25 rfl ?_
    obtain ⟨hP9, hD9⟩ := zu_sub (wc := [_]) hP hD [true] rfl rfl
    rw [hQ9]
    exact W.iret (v := (-1)) hx hb hr (fun t ht hW => ⟨⟨rfl, by rw [ht]; exact hP9, hD9⟩, hS.F ht⟩) hS.2.2 dX11_refuse_26
  · have c_1 : w.toInt = 7 := zc_eq rfl rfl c_1
    exfalso; omega
set_option maxHeartbeats 4000000 in
set_option maxRecDepth 100000 in
theorem k_M_no_7 (l : Launch) (dC : Nat → ClassId) (dI : Nat → Nat → Nat) (cI cZ cF : ClassId) (sz : Nat) (k0 : Nat) (a : Nat → Nat) (I0 : Nat → Int32) (J0 : Nat → Int64) : zM l yX11_no cX11_no 2 (some .boolean) ({ frames := 1, cells := 0, slots := 0, locals := 21 } : Room) [.ref k0, .int 7] (dC, dI) (zTy cI cZ cF) [(om k0 a I0 J0)] sz (some (.int 0)) (fun A t => zPD (dC, dI) classes A [(om k0 a (upd (upd I0 14 7) 15 (I0 15 + 1)) J0)] t.heap) 0 0 := by
  refine zIn (own := "ScaleShopModel") (loc := [(0, .ref k0), (1, .int 7)]) rfl rfl rfl rfl (fun p e s m below meth c hx hb hr hts hown hlocks hml hnm9 A hA hS hP hD hK hXN Q9 hQ9 ls hl => ?_)
  refine lv_aload_n hx hb dX11_no_0 rfl (lv_at hl 0 rfl) ?_
  refine lv_iload_n hx hb dX11_no_1 rfl (lv_at hl 1 rfl) ?_
  obtain ⟨hPc, hDc, hFc⟩ := zo_sub (wc := [_]) hP hD hS hA [0] rfl rfl
  refine zcall (st1 := [.int (-1)]) (va_runV (As := [.int 7]) (rest := []) ⟨hx, hb, hml, hown, hts⟩ (k_M_refuse_7 l dC dI cI cZ cF s.heap.size k0 a I0 J0 ) (csV_185 hts rfl rfl ⟨Nat.le_of_ble_eq_true rfl, Nat.le_of_ble_eq_true rfl⟩) (zPV2 (q0 := 0) (ci := 9) hPc hDc hK hXN rfl rfl) rfl rfl hl.1 rfl (lv_room (Nat.le_of_ble_eq_true rfl)) dX11_no_2 ⟨Nat.le_of_ble_eq_true rfl, Nat.le_of_ble_eq_true rfl⟩) hS hFc hFc rfl (fun t H locs ht hB hk1 hS => ?_)
  obtain ⟨hP1, hD1⟩ := hB
  rw [ht] at hP1
  obtain ⟨hP, hD⟩ := zn (W2 := [(om k0 a (upd (upd I0 14 7) 15 (I0 15 + 1)) J0)]) hP hD hk1 hFc hP1 hD1 [0] [] [false] [0] (by decide +kernel) rfl rfl rfl rfl rfl
  clear hk1 hPc hDc hFc hP1 hD1 ht
  refine lv_iconst (v := (-1)) hx hb dX11_no_5 rfl ?_
  refine lv_icmp_eq (tgt := 13) hx hb dX11_no_6 rfl (fun c_1 => ?_) (fun c_1 => ?_)
  · refine lv_iconst (v := 0) hx hb dX11_no_13 rfl ?_
    obtain ⟨hP9, hD9⟩ := zu_sub (wc := [_]) hP hD [true] rfl rfl
    rw [hQ9]
    exact W.zret (ty := .boolean) (v := 0) hx hb hr (rfl) (fun t ht hW => ⟨⟨rfl, by rw [ht]; exact hP9, hD9⟩, hS.F ht⟩) hS.2.2 dX11_no_14
  · exact absurd (by decide) c_1
set_option maxHeartbeats 4000000 in
set_option maxRecDepth 100000 in
theorem k_M_no (l : Launch) (dC : Nat → ClassId) (dI : Nat → Nat → Nat) (cI cZ cF : ClassId) (sz : Nat) (k0 : Nat) (a : Nat → Nat) (I0 : Nat → Int32) (J0 : Nat → Int64) (w : Int32) (hw : ¬ w.toInt = 7) : zM l yX11_no cX11_no 2 (some .boolean) ({ frames := 1, cells := 0, slots := 0, locals := 21 } : Room) [.ref k0, .int w] (dC, dI) (zTy cI cZ cF) [(om k0 a I0 J0)] sz (some (.int 0)) (fun A t => zPD (dC, dI) classes A [(om k0 a (upd (upd I0 14 w) 15 (I0 15)) J0)] t.heap) 0 0 := by
  refine zIn (own := "ScaleShopModel") (loc := [(0, .ref k0), (1, .int w)]) rfl rfl rfl rfl (fun p e s m below meth c hx hb hr hts hown hlocks hml hnm9 A hA hS hP hD hK hXN Q9 hQ9 ls hl => ?_)
  refine lv_aload_n hx hb dX11_no_0 rfl (lv_at hl 0 rfl) ?_
  refine lv_iload_n hx hb dX11_no_1 rfl (lv_at hl 1 rfl) ?_
  obtain ⟨hPc, hDc, hFc⟩ := zo_sub (wc := [_]) hP hD hS hA [0] rfl rfl
  refine zcall (st1 := [.int (-1)]) (va_runV (As := [.int w]) (rest := []) ⟨hx, hb, hml, hown, hts⟩ (k_M_refuse l dC dI cI cZ cF s.heap.size k0 a I0 J0 w (hw)) (csV_185 hts rfl rfl ⟨Nat.le_of_ble_eq_true rfl, Nat.le_of_ble_eq_true rfl⟩) (zPV2 (q0 := 0) (ci := 9) hPc hDc hK hXN rfl rfl) rfl rfl hl.1 rfl (lv_room (Nat.le_of_ble_eq_true rfl)) dX11_no_2 ⟨Nat.le_of_ble_eq_true rfl, Nat.le_of_ble_eq_true rfl⟩) hS hFc hFc rfl (fun t H locs ht hB hk1 hS => ?_)
  obtain ⟨hP1, hD1⟩ := hB
  rw [ht] at hP1
  obtain ⟨hP, hD⟩ := zn (W2 := [(om k0 a (upd (upd I0 14 w) 15 (I0 15)) J0)]) hP hD hk1 hFc hP1 hD1 [0] [] [false] [0] (by decide +kernel) rfl rfl rfl rfl rfl
  clear hk1 hPc hDc hFc hP1 hD1 ht
  refine lv_iconst (v := (-1)) hx hb dX11_no_5 rfl ?_
  refine lv_icmp_eq (tgt := 13) hx hb dX11_no_6 rfl (fun c_1 => ?_) (fun c_1 => ?_)
  · refine lv_iconst (v := 0) hx hb dX11_no_13 rfl ?_
    obtain ⟨hP9, hD9⟩ := zu_sub (wc := [_]) hP hD [true] rfl rfl
    rw [hQ9]
    exact W.zret (ty := .boolean) (v := 0) hx hb hr (rfl) (fun t ht hW => ⟨⟨rfl, by rw [ht]; exact hP9, hD9⟩, hS.F ht⟩) hS.2.2 dX11_no_14
  · exact absurd (by decide) c_1
set_option maxHeartbeats 4000000 in
set_option maxRecDepth 100000 in
theorem k_M_wrong (l : Launch) (dC : Nat → ClassId) (dI : Nat → Nat → Nat) (cI cZ cF : ClassId) (sz : Nat) (k0 : Nat) (a : Nat → Nat) (I0 : Nat → Int32) (J0 : Nat → Int64) (f : Nat) (ft : Nat) (st : Nat → Int32) (hft : I0 0 = nI ft) (h200 : ft ≤ 200) (hf_t : f < ft) : zM l yX11_wrong cX11_wrong 2 (some .int) ({ frames := 1, cells := 0, slots := 0, locals := 21 } : Room) [.ref k0, .int (nI f)] (dC, dI) (zTy cI cZ cF) [(om k0 a I0 J0), (oa (a 5) cI 201 st)] sz (some (.int (wrN (st f)))) (fun A t => zPD (dC, dI) classes A [(om k0 a I0 J0), (oa (a 5) cI 201 st)] t.heap) 0 0 := by
  refine zIn (own := "ScaleShopModel") (loc := [(0, .ref k0), (1, .int (nI f))]) rfl rfl rfl rfl (fun p e s m below meth c hx hb hr hts hown hlocks hml hnm9 A hA hS hP hD hK hXN Q9 hQ9 ls hl => ?_)
  refine lv_aload_n hx hb dX11_wrong_0 rfl (lv_at hl 0 rfl) ?_
  refine lv_iload_n hx hb dX11_wrong_1 rfl (lv_at hl 1 rfl) ?_
  obtain ⟨hPc, hDc, hFc, hI1⟩ := zi_sub (wc := [_]) hP hD hS hA [0] rfl rfl
  refine zcall (st1 := [.int (pI (f < ft))]) (va_runV (As := [.int (nI f)]) (rest := []) ⟨hx, hb, hml, hown, hts⟩ (k_M_isFeature_n l dC dI cI cZ cF s.heap.size k0 a I0 J0 f ft (by first | with_reducible assumption | assumption) (by first | with_reducible assumption | omega) (by first | with_reducible assumption | omega)) (csV_178 hts rfl rfl ⟨Nat.le_of_ble_eq_true rfl, Nat.le_of_ble_eq_true rfl⟩) (zPV2 (q0 := 0) (ci := 9) hPc hDc hK hXN rfl rfl) rfl rfl hl.1 rfl (lv_room (Nat.le_of_ble_eq_true rfl)) dX11_wrong_2 ⟨Nat.le_of_ble_eq_true rfl, Nat.le_of_ble_eq_true rfl⟩) hS hFc hFc rfl (fun t H locs ht hB hk1 hS => ?_)
  obtain ⟨hP1, hD1⟩ := hB
  rw [ht] at hP1
  replace hP := z0 hP hD hk1 hP1 hI1
  clear hk1 hPc hDc hFc hP1 hD1 ht hI1
  refine lv_if_ne (tgt := 12) hx hb dX11_wrong_5 rfl (fun c_1 => ?_) (fun c_1 => ?_)
  · have c_1 : f < ft := zp_1 c_1
    refine lv_aload_n hx hb dX11_wrong_12 rfl (lv_at hl 0 rfl) ?_
    refine va_get (D := (dC, dI)) (ci := 9) (v := .ref (a 5)) (C := RX11) (T := TX11) (N := 55) hx hb hts inX11 hown hK hP 0 rfl rfl 5 (Nat.le_of_ble_eq_true rfl) (hts _ mw_1164) (fun _ h9 => h9) rfl dX11_wrong_13 ?_
    refine lv_iload_n hx hb dX11_wrong_16 rfl (lv_at hl 1 rfl) ?_
    have b9_2 : f < 201 := by omega
    refine z_iald hx hb hK hP 1 0 rfl rfl (e := f) rfl b9_2 (Nat.le_of_ble_eq_true rfl) dX11_wrong_17 ?_
    refine lv_iconst (v := 1) hx hb dX11_wrong_18 rfl ?_
    refine lv_icmp_eq (tgt := 26) hx hb dX11_wrong_19 rfl (fun c_3 => ?_) (fun c_3 => ?_)
    · have c_3 : (st f).toInt = 1 := zc_eq rfl rfl c_3
      refine lv_iconst (v := 0) hx hb dX11_wrong_26 rfl ?_
      obtain ⟨hP9, hD9⟩ := zu_sub (wc := [_, _]) hP hD [true, true] rfl rfl
      rw [hQ9]
      exact W.iret (v := 0) hx hb hr (fun t ht hW => ⟨⟨congrArg (fun z => Outcome.returned (some (Value.int z))) (show (0 : Int32) = wrN (st f) from by unfold wrN; first | (rw [if_pos (by omega)]) | (rw [if_neg (by omega)])), by rw [ht]; exact hP9, hD9⟩, hS.F ht⟩) hS.2.2 dX11_wrong_27
    · have c_3 : ¬ (st f).toInt = 1 := zc_ne rfl rfl c_3
      refine lv_iconst (v := 2) hx hb dX11_wrong_22 rfl ?_
      refine lv_goto (tgt := 27) hx hb dX11_wrong_23 rfl ?_
      obtain ⟨hP9, hD9⟩ := zu_sub (wc := [_, _]) hP hD [true, true] rfl rfl
      rw [hQ9]
      exact W.iret (v := 2) hx hb hr (fun t ht hW => ⟨⟨congrArg (fun z => Outcome.returned (some (Value.int z))) (show (2 : Int32) = wrN (st f) from by unfold wrN; first | (rw [if_pos (by omega)]) | (rw [if_neg (by omega)])), by rw [ht]; exact hP9, hD9⟩, hS.F ht⟩) hS.2.2 dX11_wrong_27
  · have c_1 : ¬ (f < ft) := zp_0 c_1
    exfalso; omega
set_option maxHeartbeats 4000000 in
set_option maxRecDepth 100000 in
theorem k_M_wrong_x (l : Launch) (dC : Nat → ClassId) (dI : Nat → Nat → Nat) (cI cZ cF : ClassId) (sz : Nat) (k0 : Nat) (a : Nat → Nat) (I0 : Nat → Int32) (J0 : Nat → Int64) (ft : Nat) (v : Int32) (hft : I0 0 = nI ft) (h200 : ft ≤ 200) (hv : ¬ (0 ≤ v.toInt ∧ v.toInt < (ft : Int))) : zM l yX11_wrong cX11_wrong 2 (some .int) ({ frames := 1, cells := 0, slots := 0, locals := 21 } : Room) [.ref k0, .int v] (dC, dI) (zTy cI cZ cF) [(om k0 a I0 J0)] sz (some (.int 1)) (fun A t => zPD (dC, dI) classes A [(om k0 a I0 J0)] t.heap) 0 0 := by
  refine zIn (own := "ScaleShopModel") (loc := [(0, .ref k0), (1, .int v)]) rfl rfl rfl rfl (fun p e s m below meth c hx hb hr hts hown hlocks hml hnm9 A hA hS hP hD hK hXN Q9 hQ9 ls hl => ?_)
  refine lv_aload_n hx hb dX11_wrong_0 rfl (lv_at hl 0 rfl) ?_
  refine lv_iload_n hx hb dX11_wrong_1 rfl (lv_at hl 1 rfl) ?_
  obtain ⟨hPc, hDc, hFc, hI1⟩ := zi_sub (wc := [_]) hP hD hS hA [0] rfl rfl
  refine zcall (st1 := [.int (pI (0 ≤ v.toInt ∧ v.toInt < (ft : Int)))]) (va_runV (As := [.int v]) (rest := []) ⟨hx, hb, hml, hown, hts⟩ (k_M_isFeature l dC dI cI cZ cF s.heap.size k0 a I0 J0 ft v (by first | with_reducible assumption | assumption) (by first | with_reducible assumption | omega)) (csV_178 hts rfl rfl ⟨Nat.le_of_ble_eq_true rfl, Nat.le_of_ble_eq_true rfl⟩) (zPV2 (q0 := 0) (ci := 9) hPc hDc hK hXN rfl rfl) rfl rfl hl.1 rfl (lv_room (Nat.le_of_ble_eq_true rfl)) dX11_wrong_2 ⟨Nat.le_of_ble_eq_true rfl, Nat.le_of_ble_eq_true rfl⟩) hS hFc hFc rfl (fun t H locs ht hB hk1 hS => ?_)
  obtain ⟨hP1, hD1⟩ := hB
  rw [ht] at hP1
  replace hP := z0 hP hD hk1 hP1 hI1
  clear hk1 hPc hDc hFc hP1 hD1 ht hI1
  refine lv_if_ne (tgt := 12) hx hb dX11_wrong_5 rfl (fun c_1 => ?_) (fun c_1 => ?_)
  · have c_1 : 0 ≤ v.toInt ∧ v.toInt < (ft : Int) := zp_1 c_1
    exfalso; exact absurd (by first | with_reducible assumption | assumption) hv
  · have c_1 : ¬ (0 ≤ v.toInt ∧ v.toInt < (ft : Int)) := zp_0 c_1
    refine lv_iconst (v := 1) hx hb dX11_wrong_8 rfl ?_
    refine lv_goto (tgt := 27) hx hb dX11_wrong_9 rfl ?_
    obtain ⟨hP9, hD9⟩ := zu_sub (wc := [_]) hP hD [true] rfl rfl
    rw [hQ9]
    exact W.iret (v := 1) hx hb hr (fun t ht hW => ⟨⟨rfl, by rw [ht]; exact hP9, hD9⟩, hS.F ht⟩) hS.2.2 dX11_wrong_27
set_option maxHeartbeats 4000000 in
set_option maxRecDepth 100000 in
theorem k_M_isPlainable (l : Launch) (dC : Nat → ClassId) (dI : Nat → Nat → Nat) (cI cZ cF : ClassId) (sz : Nat) (k0 : Nat) (a : Nat → Nat) (I0 : Nat → Int32) (J0 : Nat → Int64) (f : Nat) (kd : Nat → Int32) (hf_f : f ≤ 200) : zM l yX11_isPlainable cX11_isPlainable 2 (some .boolean) ({ frames := 0, cells := 0, slots := 0, locals := 0 } : Room) [.ref k0, .int (nI f)] (dC, dI) (zTy cI cZ cF) [(om k0 a I0 J0), (oa (a 1) cI 201 kd)] sz (some (.int (pI (¬ (kd f).toInt = 0 ∧ ¬ (kd f).toInt = 6)))) (fun A t => zPD (dC, dI) classes A [(om k0 a I0 J0), (oa (a 1) cI 201 kd)] t.heap) 0 0 := by
  refine zIn (own := "ScaleShopModel") (loc := [(0, .ref k0), (1, .int (nI f))]) rfl rfl rfl rfl (fun p e s m below meth c hx hb hr hts hown hlocks hml hnm9 A hA hS hP hD hK hXN Q9 hQ9 ls hl => ?_)
  refine lv_aload_n hx hb dX11_isPlainable_0 rfl (lv_at hl 0 rfl) ?_
  refine va_get (D := (dC, dI)) (ci := 9) (v := .ref (a 1)) (C := RX11) (T := TX11) (N := 55) hx hb hts inX11 hown hK hP 0 rfl rfl 1 (Nat.le_of_ble_eq_true rfl) (hts _ mw_1160) (fun _ h9 => h9) rfl dX11_isPlainable_1 ?_
  refine lv_iload_n hx hb dX11_isPlainable_4 rfl (lv_at hl 1 rfl) ?_
  have b9_1 : f < 201 := by omega
  refine z_iald hx hb hK hP 1 0 rfl rfl (e := f) rfl b9_1 (Nat.le_of_ble_eq_true rfl) dX11_isPlainable_5 ?_
  refine lv_if_eq (tgt := 24) hx hb dX11_isPlainable_6 rfl (fun c_2 => ?_) (fun c_2 => ?_)
  · have c_2 : (kd f).toInt = 0 := zc_eq rfl rfl c_2
    refine lv_iconst (v := 0) hx hb dX11_isPlainable_24 rfl ?_
    obtain ⟨hP9, hD9⟩ := zu_sub (wc := [_, _]) hP hD [true, true] rfl rfl
    rw [hQ9]
    exact W.zret (ty := .boolean) (v := 0) hx hb hr (rfl) (fun t ht hW => ⟨⟨congrArg (fun z => Outcome.returned (some (Value.int z))) (show (0 : Int32) = pI (¬ (kd f).toInt = 0 ∧ ¬ (kd f).toInt = 6) from (zp_f (by omega)).symm), by rw [ht]; exact hP9, hD9⟩, hS.F ht⟩) hS.2.2 dX11_isPlainable_25
  · have c_2 : ¬ (kd f).toInt = 0 := zc_ne rfl rfl c_2
    refine lv_aload_n hx hb dX11_isPlainable_9 rfl (lv_at hl 0 rfl) ?_
    refine va_get (D := (dC, dI)) (ci := 9) (v := .ref (a 1)) (C := RX11) (T := TX11) (N := 55) hx hb hts inX11 hown hK hP 0 rfl rfl 1 (Nat.le_of_ble_eq_true rfl) (hts _ mw_1160) (fun _ h9 => h9) rfl dX11_isPlainable_10 ?_
    refine lv_iload_n hx hb dX11_isPlainable_13 rfl (lv_at hl 1 rfl) ?_
    refine z_iald hx hb hK hP 1 0 rfl rfl (e := f) rfl b9_1 (Nat.le_of_ble_eq_true rfl) dX11_isPlainable_14 ?_
    refine lv_bipush (v := 6) hx hb dX11_isPlainable_15 rfl ?_
    refine lv_icmp_eq (tgt := 24) hx hb dX11_isPlainable_17 rfl (fun c_3 => ?_) (fun c_3 => ?_)
    · have c_3 : (kd f).toInt = 6 := zc_eq rfl rfl c_3
      refine lv_iconst (v := 0) hx hb dX11_isPlainable_24 rfl ?_
      obtain ⟨hP9, hD9⟩ := zu_sub (wc := [_, _]) hP hD [true, true] rfl rfl
      rw [hQ9]
      exact W.zret (ty := .boolean) (v := 0) hx hb hr (rfl) (fun t ht hW => ⟨⟨congrArg (fun z => Outcome.returned (some (Value.int z))) (show (0 : Int32) = pI (¬ (kd f).toInt = 0 ∧ ¬ (kd f).toInt = 6) from (zp_f (by omega)).symm), by rw [ht]; exact hP9, hD9⟩, hS.F ht⟩) hS.2.2 dX11_isPlainable_25
    · have c_3 : ¬ (kd f).toInt = 6 := zc_ne rfl rfl c_3
      refine lv_iconst (v := 1) hx hb dX11_isPlainable_20 rfl ?_
      refine lv_goto (tgt := 25) hx hb dX11_isPlainable_21 rfl ?_
      obtain ⟨hP9, hD9⟩ := zu_sub (wc := [_, _]) hP hD [true, true] rfl rfl
      rw [hQ9]
      exact W.zret (ty := .boolean) (v := 1) hx hb hr (rfl) (fun t ht hW => ⟨⟨congrArg (fun z => Outcome.returned (some (Value.int z))) (show (1 : Int32) = pI (¬ (kd f).toInt = 0 ∧ ¬ (kd f).toInt = 6) from (zp_t (by omega)).symm), by rw [ht]; exact hP9, hD9⟩, hS.F ht⟩) hS.2.2 dX11_isPlainable_25
set_option maxHeartbeats 4000000 in
set_option maxRecDepth 100000 in
theorem k_M_settle (l : Launch) (dC : Nat → ClassId) (dI : Nat → Nat → Nat) (cI cZ cF : ClassId) (sz : Nat) (k0 : Nat) (a : Nat → Nat) (I0 : Nat → Int32) (J0 : Nat → Int64) (sa : Nat → Int32) : zM l yX11_settle cX11_settle 1 none ({ frames := 0, cells := 0, slots := 0, locals := 0 } : Room) [.ref k0] (dC, dI) (zTy cI cZ cF) [(om k0 a I0 J0), (oa (a 27) cI 516 sa)] sz none (fun A t => zPD (dC, dI) classes A [(om k0 a (upd (upd I0 20 0) 21 (I0 19)) J0), (oa (a 27) cI 516 (upd sa 0 0))] t.heap) 0 0 := by
  refine zIn (own := "ScaleShopModel") (loc := [(0, .ref k0)]) rfl rfl rfl rfl (fun p e s m below meth c hx hb hr hts hown hlocks hml hnm9 A hA hS hP hD hK hXN Q9 hQ9 ls hl => ?_)
  refine lv_aload_n hx hb dX11_settle_0 rfl (lv_at hl 0 rfl) ?_
  refine lv_aload_n hx hb dX11_settle_1 rfl (lv_at hl 0 rfl) ?_
  refine va_get (D := (dC, dI)) (ci := 9) (v := .int (I0 19)) (C := RX11) (T := TX11) (N := 55) hx hb hts inX11 hown hK hP 0 rfl rfl 19 (Nat.le_of_ble_eq_true rfl) (hts _ mw_1178) (fun _ h9 => h9) rfl dX11_settle_2 ?_
  refine va_put (D := (dC, dI)) (ci := 9) (v := .int (I0 19)) (ty := .int) (C := RX11) (T := TX11) (N := 55) hx hb hts inX11 tyX11 tyX11_ok nmX11 hown hK hP hD hS 0 rfl rfl 21 (by decide) (hts _ mw_1180) (fun _ h9 => h9) rfl (by decide +kernel) rfl rfl (Nat.le_of_ble_eq_true rfl) dX11_settle_5 (fun H locs hP hD hS => ?_)
  obtain ⟨hP, hD⟩ := zre (W2 := [(om k0 a (upd I0 21 (I0 19)) J0), _]) hP hD rfl
  refine lv_aload_n hx hb dX11_settle_8 rfl (lv_at hl 0 rfl) ?_
  refine lv_iconst (v := 0) hx hb dX11_settle_9 rfl ?_
  refine va_put (D := (dC, dI)) (ci := 9) (v := .int 0) (ty := .int) (C := RX11) (T := TX11) (N := 55) hx hb hts inX11 tyX11 tyX11_ok nmX11 hown hK hP hD hS 0 rfl rfl 20 (by decide) (hts _ mw_1179) (fun _ h9 => h9) rfl (by decide +kernel) rfl rfl (Nat.le_of_ble_eq_true rfl) dX11_settle_10 (fun H locs hP hD hS => ?_)
  obtain ⟨hP, hD⟩ := zre (W2 := [(om k0 a (upd (upd I0 20 0) 21 (I0 19)) J0), _]) hP hD rfl
  refine lv_aload_n hx hb dX11_settle_13 rfl (lv_at hl 0 rfl) ?_
  refine va_get (D := (dC, dI)) (ci := 9) (v := .ref (a 27)) (C := RX11) (T := TX11) (N := 55) hx hb hts inX11 hown hK hP 0 rfl rfl 27 (Nat.le_of_ble_eq_true rfl) (hts _ mw_1186) (fun _ h9 => h9) rfl dX11_settle_14 ?_
  refine lv_iconst (v := 0) hx hb dX11_settle_17 rfl ?_
  refine lv_iconst (v := 0) hx hb dX11_settle_18 rfl ?_
  refine z_iast hx hb hK hP hD hS 1 0 rfl rfl (e := 0) (x := 0) rfl (Nat.le_of_ble_eq_true rfl) (Nat.le_of_ble_eq_true rfl) dX11_settle_19 (fun H locs hP hD hS => ?_)
  obtain ⟨hP, hD⟩ := zre (W2 := [_, (oa (a 27) cI 516 (upd sa 0 0))]) hP hD rfl
  obtain ⟨hP9, hD9⟩ := zu_sub (wc := [_, _]) hP hD [true, true] rfl rfl
  rw [hQ9]
  exact W.vret hx hb hr (fun t ht hW => ⟨⟨rfl, by rw [ht]; exact hP9, hD9⟩, hS.F ht⟩) hS.2.2 dX11_settle_20
set_option maxHeartbeats 4000000 in
set_option maxRecDepth 100000 in
theorem k_M_begin (l : Launch) (dC : Nat → ClassId) (dI : Nat → Nat → Nat) (cI cZ cF : ClassId) (sz : Nat) (k0 : Nat) (a : Nat → Nat) (I0 : Nat → Int32) (J0 : Nat → Int64) (f : Nat) (k1 : Int32) (k2 : Int32) (k3 : Int32) (k4 : Int32) (kd : Nat → Int32) (rk : Nat → Int32) (wd : Nat → Int32) (tw : Nat → Int32) (st : Nat → Int32) (tn : Nat → Int32) (gb : Nat → Int32) (pa : Nat → Int32) (pb : Nat → Int32) (it : Nat → Int32) (mn : Nat → Int32) (hf_f : f ≤ 200) : zM l yX11_begin cX11_begin 6 none ({ frames := 0, cells := 0, slots := 0, locals := 0 } : Room) [.ref k0, .int (nI f), .int k1, .int k2, .int k3, .int k4] (dC, dI) (zTy cI cZ cF) [(om k0 a I0 J0), (oa (a 1) cI 201 kd), (oa (a 2) cI 201 rk), (oa (a 3) cI 201 wd), (oa (a 4) cI 201 tw), (oa (a 5) cI 201 st), (oa (a 6) cZ 201 tn), (oa (a 7) cI 201 gb), (oa (a 8) cI 201 pa), (oa (a 9) cI 201 pb), (oa (a 10) cI 201 it), (oa (a 11) cI 201 mn)] sz none (fun A t => zPD (dC, dI) classes A [(om k0 a (upd I0 0 (nI (f + 1))) J0), (oa (a 1) cI 201 (upd kd f k1)), (oa (a 2) cI 201 (upd rk f k2)), (oa (a 3) cI 201 (upd wd f k3)), (oa (a 4) cI 201 (upd tw f k4)), (oa (a 5) cI 201 (upd st f 0)), (oa (a 6) cZ 201 (upd tn f 0)), (oa (a 7) cI 201 (upd gb f 0)), (oa (a 8) cI 201 (upd pa f (-1))), (oa (a 9) cI 201 (upd pb f (-1))), (oa (a 10) cI 201 (upd it f (-1))), (oa (a 11) cI 201 (upd mn f 0))] t.heap) 0 0 := by
  refine zIn (own := "ScaleShopModel") (loc := [(0, .ref k0), (1, .int (nI f)), (2, .int k1), (3, .int k2), (4, .int k3), (5, .int k4)]) rfl rfl rfl rfl (fun p e s m below meth c hx hb hr hts hown hlocks hml hnm9 A hA hS hP hD hK hXN Q9 hQ9 ls hl => ?_)
  refine lv_aload_n hx hb dX11_begin_0 rfl (lv_at hl 0 rfl) ?_
  refine lv_iload_n hx hb dX11_begin_1 rfl (lv_at hl 1 rfl) ?_
  refine lv_iconst (v := 1) hx hb dX11_begin_2 rfl ?_
  refine lv_iadd hx hb dX11_begin_3 ?_
  refine zz_i (v := nI (f + 1)) (nI_add f 1) ?_
  refine va_put (D := (dC, dI)) (ci := 9) (v := .int (nI (f + 1))) (ty := .int) (C := RX11) (T := TX11) (N := 55) hx hb hts inX11 tyX11 tyX11_ok nmX11 hown hK hP hD hS 0 rfl rfl 0 (by decide) (hts _ mw_1159) (fun _ h9 => h9) rfl (by decide +kernel) rfl rfl (Nat.le_of_ble_eq_true rfl) dX11_begin_4 (fun H locs hP hD hS => ?_)
  obtain ⟨hP, hD⟩ := zre (W2 := [(om k0 a (upd I0 0 (nI (f + 1))) J0), _, _, _, _, _, _, _, _, _, _, _]) hP hD rfl
  refine lv_aload_n hx hb dX11_begin_7 rfl (lv_at hl 0 rfl) ?_
  refine va_get (D := (dC, dI)) (ci := 9) (v := .ref (a 1)) (C := RX11) (T := TX11) (N := 55) hx hb hts inX11 hown hK hP 0 rfl rfl 1 (Nat.le_of_ble_eq_true rfl) (hts _ mw_1160) (fun _ h9 => h9) rfl dX11_begin_8 ?_
  refine lv_iload_n hx hb dX11_begin_11 rfl (lv_at hl 1 rfl) ?_
  refine lv_iload_n hx hb dX11_begin_12 rfl (lv_at hl 2 rfl) ?_
  have b9_1 : f < 201 := by omega
  refine z_iast hx hb hK hP hD hS 1 0 rfl rfl (e := f) (x := k1) rfl b9_1 (Nat.le_of_ble_eq_true rfl) dX11_begin_13 (fun H locs hP hD hS => ?_)
  obtain ⟨hP, hD⟩ := zre (W2 := [_, (oa (a 1) cI 201 (upd kd f k1)), _, _, _, _, _, _, _, _, _, _]) hP hD rfl
  refine lv_aload_n hx hb dX11_begin_14 rfl (lv_at hl 0 rfl) ?_
  refine va_get (D := (dC, dI)) (ci := 9) (v := .ref (a 2)) (C := RX11) (T := TX11) (N := 55) hx hb hts inX11 hown hK hP 0 rfl rfl 2 (Nat.le_of_ble_eq_true rfl) (hts _ mw_1161) (fun _ h9 => h9) rfl dX11_begin_15 ?_
  refine lv_iload_n hx hb dX11_begin_18 rfl (lv_at hl 1 rfl) ?_
  refine lv_iload_n hx hb dX11_begin_19 rfl (lv_at hl 3 rfl) ?_
  refine z_iast hx hb hK hP hD hS 2 0 rfl rfl (e := f) (x := k2) rfl b9_1 (Nat.le_of_ble_eq_true rfl) dX11_begin_20 (fun H locs hP hD hS => ?_)
  obtain ⟨hP, hD⟩ := zre (W2 := [_, _, (oa (a 2) cI 201 (upd rk f k2)), _, _, _, _, _, _, _, _, _]) hP hD rfl
  refine lv_aload_n hx hb dX11_begin_21 rfl (lv_at hl 0 rfl) ?_
  refine va_get (D := (dC, dI)) (ci := 9) (v := .ref (a 3)) (C := RX11) (T := TX11) (N := 55) hx hb hts inX11 hown hK hP 0 rfl rfl 3 (Nat.le_of_ble_eq_true rfl) (hts _ mw_1162) (fun _ h9 => h9) rfl dX11_begin_22 ?_
  refine lv_iload_n hx hb dX11_begin_25 rfl (lv_at hl 1 rfl) ?_
  refine lv_iload hx hb dX11_begin_26 (lv_at hl 4 rfl) ?_
  refine z_iast hx hb hK hP hD hS 3 0 rfl rfl (e := f) (x := k3) rfl b9_1 (Nat.le_of_ble_eq_true rfl) dX11_begin_28 (fun H locs hP hD hS => ?_)
  obtain ⟨hP, hD⟩ := zre (W2 := [_, _, _, (oa (a 3) cI 201 (upd wd f k3)), _, _, _, _, _, _, _, _]) hP hD rfl
  refine lv_aload_n hx hb dX11_begin_29 rfl (lv_at hl 0 rfl) ?_
  refine va_get (D := (dC, dI)) (ci := 9) (v := .ref (a 4)) (C := RX11) (T := TX11) (N := 55) hx hb hts inX11 hown hK hP 0 rfl rfl 4 (Nat.le_of_ble_eq_true rfl) (hts _ mw_1163) (fun _ h9 => h9) rfl dX11_begin_30 ?_
  refine lv_iload_n hx hb dX11_begin_33 rfl (lv_at hl 1 rfl) ?_
  refine lv_iload hx hb dX11_begin_34 (lv_at hl 5 rfl) ?_
  refine z_iast hx hb hK hP hD hS 4 0 rfl rfl (e := f) (x := k4) rfl b9_1 (Nat.le_of_ble_eq_true rfl) dX11_begin_36 (fun H locs hP hD hS => ?_)
  obtain ⟨hP, hD⟩ := zre (W2 := [_, _, _, _, (oa (a 4) cI 201 (upd tw f k4)), _, _, _, _, _, _, _]) hP hD rfl
  refine lv_aload_n hx hb dX11_begin_37 rfl (lv_at hl 0 rfl) ?_
  refine va_get (D := (dC, dI)) (ci := 9) (v := .ref (a 5)) (C := RX11) (T := TX11) (N := 55) hx hb hts inX11 hown hK hP 0 rfl rfl 5 (Nat.le_of_ble_eq_true rfl) (hts _ mw_1164) (fun _ h9 => h9) rfl dX11_begin_38 ?_
  refine lv_iload_n hx hb dX11_begin_41 rfl (lv_at hl 1 rfl) ?_
  refine lv_iconst (v := 0) hx hb dX11_begin_42 rfl ?_
  refine z_iast hx hb hK hP hD hS 5 0 rfl rfl (e := f) (x := 0) rfl b9_1 (Nat.le_of_ble_eq_true rfl) dX11_begin_43 (fun H locs hP hD hS => ?_)
  obtain ⟨hP, hD⟩ := zre (W2 := [_, _, _, _, _, (oa (a 5) cI 201 (upd st f 0)), _, _, _, _, _, _]) hP hD rfl
  refine lv_aload_n hx hb dX11_begin_44 rfl (lv_at hl 0 rfl) ?_
  refine va_get (D := (dC, dI)) (ci := 9) (v := .ref (a 6)) (C := RX11) (T := TX11) (N := 55) hx hb hts inX11 hown hK hP 0 rfl rfl 6 (Nat.le_of_ble_eq_true rfl) (hts _ mw_1165) (fun _ h9 => h9) rfl dX11_begin_45 ?_
  refine lv_iload_n hx hb dX11_begin_48 rfl (lv_at hl 1 rfl) ?_
  refine lv_iconst (v := 0) hx hb dX11_begin_49 rfl ?_
  refine z_zast hx hb hK hP hD hS 6 1 rfl rfl (e := f) (x := 0) rfl b9_1 (Nat.le_of_ble_eq_true rfl) (by decide) dX11_begin_50 (fun H locs hP hD hS => ?_)
  obtain ⟨hP, hD⟩ := zre (W2 := [_, _, _, _, _, _, (oa (a 6) cZ 201 (upd tn f 0)), _, _, _, _, _]) hP hD rfl
  refine lv_aload_n hx hb dX11_begin_51 rfl (lv_at hl 0 rfl) ?_
  refine va_get (D := (dC, dI)) (ci := 9) (v := .ref (a 7)) (C := RX11) (T := TX11) (N := 55) hx hb hts inX11 hown hK hP 0 rfl rfl 7 (Nat.le_of_ble_eq_true rfl) (hts _ mw_1166) (fun _ h9 => h9) rfl dX11_begin_52 ?_
  refine lv_iload_n hx hb dX11_begin_55 rfl (lv_at hl 1 rfl) ?_
  refine lv_iconst (v := 0) hx hb dX11_begin_56 rfl ?_
  refine z_iast hx hb hK hP hD hS 7 0 rfl rfl (e := f) (x := 0) rfl b9_1 (Nat.le_of_ble_eq_true rfl) dX11_begin_57 (fun H locs hP hD hS => ?_)
  obtain ⟨hP, hD⟩ := zre (W2 := [_, _, _, _, _, _, _, (oa (a 7) cI 201 (upd gb f 0)), _, _, _, _]) hP hD rfl
  refine lv_aload_n hx hb dX11_begin_58 rfl (lv_at hl 0 rfl) ?_
  refine va_get (D := (dC, dI)) (ci := 9) (v := .ref (a 8)) (C := RX11) (T := TX11) (N := 55) hx hb hts inX11 hown hK hP 0 rfl rfl 8 (Nat.le_of_ble_eq_true rfl) (hts _ mw_1167) (fun _ h9 => h9) rfl dX11_begin_59 ?_
  refine lv_iload_n hx hb dX11_begin_62 rfl (lv_at hl 1 rfl) ?_
  refine lv_iconst (v := (-1)) hx hb dX11_begin_63 rfl ?_
  refine z_iast hx hb hK hP hD hS 8 0 rfl rfl (e := f) (x := (-1)) rfl b9_1 (Nat.le_of_ble_eq_true rfl) dX11_begin_64 (fun H locs hP hD hS => ?_)
  obtain ⟨hP, hD⟩ := zre (W2 := [_, _, _, _, _, _, _, _, (oa (a 8) cI 201 (upd pa f (-1))), _, _, _]) hP hD rfl
  refine lv_aload_n hx hb dX11_begin_65 rfl (lv_at hl 0 rfl) ?_
  refine va_get (D := (dC, dI)) (ci := 9) (v := .ref (a 9)) (C := RX11) (T := TX11) (N := 55) hx hb hts inX11 hown hK hP 0 rfl rfl 9 (Nat.le_of_ble_eq_true rfl) (hts _ mw_1168) (fun _ h9 => h9) rfl dX11_begin_66 ?_
  refine lv_iload_n hx hb dX11_begin_69 rfl (lv_at hl 1 rfl) ?_
  refine lv_iconst (v := (-1)) hx hb dX11_begin_70 rfl ?_
  refine z_iast hx hb hK hP hD hS 9 0 rfl rfl (e := f) (x := (-1)) rfl b9_1 (Nat.le_of_ble_eq_true rfl) dX11_begin_71 (fun H locs hP hD hS => ?_)
  obtain ⟨hP, hD⟩ := zre (W2 := [_, _, _, _, _, _, _, _, _, (oa (a 9) cI 201 (upd pb f (-1))), _, _]) hP hD rfl
  refine lv_aload_n hx hb dX11_begin_72 rfl (lv_at hl 0 rfl) ?_
  refine va_get (D := (dC, dI)) (ci := 9) (v := .ref (a 10)) (C := RX11) (T := TX11) (N := 55) hx hb hts inX11 hown hK hP 0 rfl rfl 10 (Nat.le_of_ble_eq_true rfl) (hts _ mw_1169) (fun _ h9 => h9) rfl dX11_begin_73 ?_
  refine lv_iload_n hx hb dX11_begin_76 rfl (lv_at hl 1 rfl) ?_
  refine lv_iconst (v := (-1)) hx hb dX11_begin_77 rfl ?_
  refine z_iast hx hb hK hP hD hS 10 0 rfl rfl (e := f) (x := (-1)) rfl b9_1 (Nat.le_of_ble_eq_true rfl) dX11_begin_78 (fun H locs hP hD hS => ?_)
  obtain ⟨hP, hD⟩ := zre (W2 := [_, _, _, _, _, _, _, _, _, _, (oa (a 10) cI 201 (upd it f (-1))), _]) hP hD rfl
  refine lv_aload_n hx hb dX11_begin_79 rfl (lv_at hl 0 rfl) ?_
  refine va_get (D := (dC, dI)) (ci := 9) (v := .ref (a 11)) (C := RX11) (T := TX11) (N := 55) hx hb hts inX11 hown hK hP 0 rfl rfl 11 (Nat.le_of_ble_eq_true rfl) (hts _ mw_1170) (fun _ h9 => h9) rfl dX11_begin_80 ?_
  refine lv_iload_n hx hb dX11_begin_83 rfl (lv_at hl 1 rfl) ?_
  refine lv_iconst (v := 0) hx hb dX11_begin_84 rfl ?_
  refine z_iast hx hb hK hP hD hS 11 0 rfl rfl (e := f) (x := 0) rfl b9_1 (Nat.le_of_ble_eq_true rfl) dX11_begin_85 (fun H locs hP hD hS => ?_)
  obtain ⟨hP, hD⟩ := zre (W2 := [_, _, _, _, _, _, _, _, _, _, _, (oa (a 11) cI 201 (upd mn f 0))]) hP hD rfl
  obtain ⟨hP9, hD9⟩ := zu_sub (wc := [_, _, _, _, _, _, _, _, _, _, _, _]) hP hD [true, true, true, true, true, true, true, true, true, true, true, true] rfl rfl
  rw [hQ9]
  exact W.vret hx hb hr (fun t ht hW => ⟨⟨rfl, by rw [ht]; exact hP9, hD9⟩, hS.F ht⟩) hS.2.2 dX11_begin_86
end
