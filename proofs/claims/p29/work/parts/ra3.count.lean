section
set_option maxHeartbeats 4000000 in
set_option maxRecDepth 100000 in
theorem k_M_size_x (l : Launch) (dC : Nat → ClassId) (dI : Nat → Nat → Nat) (cI cZ cF : ClassId) (sz : Nat) (k0 : Nat) (a : Nat → Nat) (I0 : Nat → Int32) (J0 : Nat → Int64) (ft : Nat) (v : Int32) (hft : I0 0 = nI ft) (h200 : ft ≤ 200) (hv : ¬ (0 ≤ v.toInt ∧ v.toInt < (ft : Int))) : zM l yX11_size cX11_size 2 (some .long) ({ frames := 2, cells := 0, slots := 0, locals := 42 } : Room) [.ref k0, .int v] (dC, dI) (zTy cI cZ cF) [(om k0 a I0 J0)] sz (some (.long (-1))) (fun A t => zPD (dC, dI) classes A [(om k0 a I0 J0)] t.heap) 0 0 := by
  refine zIn (own := "ScaleShopModel") (loc := [(0, .ref k0), (1, .int v)]) rfl rfl rfl rfl (fun p e s m below meth c hx hb hr hts hown hlocks hml hnm9 A hA hS hP hD hK hXN Q9 hQ9 ls hl => ?_)
  refine lv_aload_n hx hb dX11_size_0 rfl (lv_at hl 0 rfl) ?_
  refine lv_iload_n hx hb dX11_size_1 rfl (lv_at hl 1 rfl) ?_
  obtain ⟨hPc, hDc, hFc, hI1⟩ := zi_sub (wc := [_]) hP hD hS hA [0] rfl rfl
  refine zcall (st1 := [.int 0]) (va_runV (As := [.int v]) (rest := []) ⟨hx, hb, hml, hown, hts⟩ (k_M_is_x l dC dI cI cZ cF s.heap.size k0 a I0 J0 ft v (by first | with_reducible assumption | assumption) (by first | with_reducible assumption | omega) (by first | with_reducible assumption | assumption)) (csV_179 hts rfl rfl ⟨Nat.le_of_ble_eq_true rfl, Nat.le_of_ble_eq_true rfl⟩) (zPV2 (q0 := 0) (ci := 9) hPc hDc hK hXN rfl rfl) rfl rfl hl.1 rfl (lv_room (Nat.le_of_ble_eq_true rfl)) dX11_size_2 ⟨Nat.le_of_ble_eq_true rfl, Nat.le_of_ble_eq_true rfl⟩) hS hFc hFc rfl (fun t H locs ht hB hk1 hS => ?_)
  obtain ⟨hP1, hD1⟩ := hB
  rw [ht] at hP1
  replace hP := z0 hP hD hk1 hP1 hI1
  clear hk1 hPc hDc hFc hP1 hD1 ht hI1
  refine lv_if_ne (tgt := 12) hx hb dX11_size_5 rfl (fun c_1 => ?_) (fun c_1 => ?_)
  · exact absurd (by decide) c_1
  · refine lv_ldc2 hx hb hown (hts _ mw_1620) dX11_size_8 ?_
    obtain ⟨hP9, hD9⟩ := zu_sub (wc := [_]) hP hD [true] rfl rfl
    rw [hQ9]
    exact W.lret (v := (-1)) hx hb hr (fun t ht hW => ⟨⟨rfl, by rw [ht]; exact hP9, hD9⟩, hS.F ht⟩) hS.2.2 dX11_size_11
set_option maxHeartbeats 4000000 in
set_option maxRecDepth 100000 in
theorem k_M_size_r (l : Launch) (dC : Nat → ClassId) (dI : Nat → Nat → Nat) (cI cZ cF : ClassId) (sz : Nat) (k0 : Nat) (a : Nat → Nat) (I0 : Nat → Int32) (J0 : Nat → Int64) (f : Nat) (ft : Nat) (st : Nat → Int32) (tn : Nat → Int32) (hft : I0 0 = nI ft) (h200 : ft ≤ 200) (hf_t : f < ft) (hbad : ¬ lvF ft st tn f) : zM l yX11_size cX11_size 2 (some .long) ({ frames := 2, cells := 0, slots := 0, locals := 42 } : Room) [.ref k0, .int (nI f)] (dC, dI) (zTy cI cZ cF) [(om k0 a I0 J0), (oa (a 5) cI 201 st), (oa (a 6) cZ 201 tn)] sz (some (.long (-1))) (fun A t => zPD (dC, dI) classes A [(om k0 a I0 J0), (oa (a 5) cI 201 st), (oa (a 6) cZ 201 tn)] t.heap) 0 0 := by
  refine zIn (own := "ScaleShopModel") (loc := [(0, .ref k0), (1, .int (nI f))]) rfl rfl rfl rfl (fun p e s m below meth c hx hb hr hts hown hlocks hml hnm9 A hA hS hP hD hK hXN Q9 hQ9 ls hl => ?_)
  refine lv_aload_n hx hb dX11_size_0 rfl (lv_at hl 0 rfl) ?_
  refine lv_iload_n hx hb dX11_size_1 rfl (lv_at hl 1 rfl) ?_
  obtain ⟨hPc, hDc, hFc, hI1⟩ := zi_sub (wc := [_, _, _]) hP hD hS hA [0, 1, 2] rfl rfl
  refine zcall (st1 := [.int (pI (f < ft ∧ (st f).toInt = 1 ∧ (tn f).toInt = 0))]) (va_runV (As := [.int (nI f)]) (rest := []) ⟨hx, hb, hml, hown, hts⟩ (k_M_is_n l dC dI cI cZ cF s.heap.size k0 a I0 J0 f ft st tn (by first | with_reducible assumption | assumption) (by first | with_reducible assumption | omega) (by first | with_reducible assumption | omega)) (csV_179 hts rfl rfl ⟨Nat.le_of_ble_eq_true rfl, Nat.le_of_ble_eq_true rfl⟩) (zPV2 (q0 := 0) (ci := 9) hPc hDc hK hXN rfl rfl) rfl rfl hl.1 rfl (lv_room (Nat.le_of_ble_eq_true rfl)) dX11_size_2 ⟨Nat.le_of_ble_eq_true rfl, Nat.le_of_ble_eq_true rfl⟩) hS hFc hFc rfl (fun t H locs ht hB hk1 hS => ?_)
  obtain ⟨hP1, hD1⟩ := hB
  rw [ht] at hP1
  replace hP := z0 hP hD hk1 hP1 hI1
  clear hk1 hPc hDc hFc hP1 hD1 ht hI1
  refine lv_if_ne (tgt := 12) hx hb dX11_size_5 rfl (fun c_1 => ?_) (fun c_1 => ?_)
  · have c_1 : f < ft ∧ (st f).toInt = 1 ∧ (tn f).toInt = 0 := zp_1 c_1
    exfalso; exact absurd (by first | with_reducible assumption | assumption) hbad
  · have c_1 : ¬ (f < ft ∧ (st f).toInt = 1 ∧ (tn f).toInt = 0) := zp_0 c_1
    refine lv_ldc2 hx hb hown (hts _ mw_1620) dX11_size_8 ?_
    obtain ⟨hP9, hD9⟩ := zu_sub (wc := [_, _, _]) hP hD [true, true, true] rfl rfl
    rw [hQ9]
    exact W.lret (v := (-1)) hx hb hr (fun t ht hW => ⟨⟨rfl, by rw [ht]; exact hP9, hD9⟩, hS.F ht⟩) hS.2.2 dX11_size_11
set_option maxHeartbeats 4000000 in
set_option maxRecDepth 100000 in
theorem k_M_size_p (l : Launch) (dC : Nat → ClassId) (dI : Nat → Nat → Nat) (cI cZ cF : ClassId) (sz : Nat) (k0 : Nat) (a : Nat → Nat) (I0 : Nat → Int32) (J0 : Nat → Int64) (f : Nat) (ft : Nat) (st : Nat → Int32) (tn : Nat → Int32) (kd : Nat → Int32) (hft : I0 0 = nI ft) (h200 : ft ≤ 200) (hf_t : f < ft) (hlv : lvF ft st tn f) (hk0 : (kd f).toInt = 0) : zM l yX11_size cX11_size 2 (some .long) ({ frames := 2, cells := 0, slots := 0, locals := 42 } : Room) [.ref k0, .int (nI f)] (dC, dI) (zTy cI cZ cF) [(om k0 a I0 J0), (oa (a 5) cI 201 st), (oa (a 6) cZ 201 tn), (oa (a 1) cI 201 kd)] sz (some (.long 0)) (fun A t => zPD (dC, dI) classes A [(om k0 a I0 J0), (oa (a 5) cI 201 st), (oa (a 6) cZ 201 tn), (oa (a 1) cI 201 kd)] t.heap) 0 0 := by
  refine zIn (own := "ScaleShopModel") (loc := [(0, .ref k0), (1, .int (nI f))]) rfl rfl rfl rfl (fun p e s m below meth c hx hb hr hts hown hlocks hml hnm9 A hA hS hP hD hK hXN Q9 hQ9 ls hl => ?_)
  refine lv_aload_n hx hb dX11_size_0 rfl (lv_at hl 0 rfl) ?_
  refine lv_iload_n hx hb dX11_size_1 rfl (lv_at hl 1 rfl) ?_
  obtain ⟨hPc, hDc, hFc, hI1⟩ := zi_sub (wc := [_, _, _]) hP hD hS hA [0, 1, 2] rfl rfl
  refine zcall (st1 := [.int (pI (f < ft ∧ (st f).toInt = 1 ∧ (tn f).toInt = 0))]) (va_runV (As := [.int (nI f)]) (rest := []) ⟨hx, hb, hml, hown, hts⟩ (k_M_is_n l dC dI cI cZ cF s.heap.size k0 a I0 J0 f ft st tn (by first | with_reducible assumption | assumption) (by first | with_reducible assumption | omega) (by first | with_reducible assumption | omega)) (csV_179 hts rfl rfl ⟨Nat.le_of_ble_eq_true rfl, Nat.le_of_ble_eq_true rfl⟩) (zPV2 (q0 := 0) (ci := 9) hPc hDc hK hXN rfl rfl) rfl rfl hl.1 rfl (lv_room (Nat.le_of_ble_eq_true rfl)) dX11_size_2 ⟨Nat.le_of_ble_eq_true rfl, Nat.le_of_ble_eq_true rfl⟩) hS hFc hFc rfl (fun t H locs ht hB hk1 hS => ?_)
  obtain ⟨hP1, hD1⟩ := hB
  rw [ht] at hP1
  replace hP := z0 hP hD hk1 hP1 hI1
  clear hk1 hPc hDc hFc hP1 hD1 ht hI1
  refine lv_if_ne (tgt := 12) hx hb dX11_size_5 rfl (fun c_1 => ?_) (fun c_1 => ?_)
  · have c_1 : f < ft ∧ (st f).toInt = 1 ∧ (tn f).toInt = 0 := zp_1 c_1
    refine lv_aload_n hx hb dX11_size_12 rfl (lv_at hl 0 rfl) ?_
    refine va_get (D := (dC, dI)) (ci := 9) (v := .ref (a 1)) (C := RX11) (T := TX11) (N := 55) hx hb hts inX11 hown hK hP 0 rfl rfl 1 (Nat.le_of_ble_eq_true rfl) (hts _ mw_1160) (fun _ h9 => h9) rfl dX11_size_13 ?_
    refine lv_iload_n hx hb dX11_size_16 rfl (lv_at hl 1 rfl) ?_
    have b9_2 : f < 201 := by omega
    refine z_iald hx hb hK hP 3 0 rfl rfl (e := f) rfl b9_2 (Nat.le_of_ble_eq_true rfl) dX11_size_17 ?_
    refine lv_if_ne (tgt := 25) hx hb dX11_size_18 rfl (fun c_3 => ?_) (fun c_3 => ?_)
    · have c_3 : ¬ (kd f).toInt = 0 := zc_ne rfl rfl c_3
      exfalso; omega
    · have c_3 : (kd f).toInt = 0 := zc_eq rfl rfl c_3
      refine lv_lconst (v := 0) hx hb dX11_size_21 rfl ?_
      refine lv_goto (tgt := 46) hx hb dX11_size_22 rfl ?_
      obtain ⟨hP9, hD9⟩ := zu_sub (wc := [_, _, _, _]) hP hD [true, true, true, true] rfl rfl
      rw [hQ9]
      exact W.lret (v := 0) hx hb hr (fun t ht hW => ⟨⟨rfl, by rw [ht]; exact hP9, hD9⟩, hS.F ht⟩) hS.2.2 dX11_size_46
  · have c_1 : ¬ (f < ft ∧ (st f).toInt = 1 ∧ (tn f).toInt = 0) := zp_0 c_1
    exfalso; exact absurd hlv (by first | with_reducible assumption | assumption)
set_option maxHeartbeats 4000000 in
set_option maxRecDepth 100000 in
theorem k_M_size_a (l : Launch) (dC : Nat → ClassId) (dI : Nat → Nat → Nat) (cI cZ cF : ClassId) (sz : Nat) (k0 : Nat) (a : Nat → Nat) (I0 : Nat → Int32) (J0 : Nat → Int64) (f : Nat) (ft : Nat) (st : Nat → Int32) (tn : Nat → Int32) (kd : Nat → Int32) (mn : Nat → Int32) (cx : Nat → Int32) (cy : Nat → Int32) (S0 : Nat → Int32) (hft : I0 0 = nI ft) (h200 : ft ≤ 200) (hwf : ∀ q, lvF ft st tn q → wfM mn cx cy q) (hf_t : f < ft) (hlv : lvF ft st tn f) (hk5 : 5 ≤ (kd f).toInt) : zM l yX11_size cX11_size 2 (some .long) ({ frames := 2, cells := 0, slots := 0, locals := 49 } : Room) [.ref k0, .int (nI f)] (dC, dI) (zTy cI cZ cF) [(om k0 a I0 J0), (oa (a 5) cI 201 st), (oa (a 6) cZ 201 tn), (oa (a 1) cI 201 kd), (oa (a 11) cI 201 mn), (oa (a 12) cI 8040 cx), (oa (a 13) cI 8040 cy), (oa (a 32) cI 8 S0)] sz (some (.long (jI ((arF mn cx cy f : Nat) : Int)))) (fun A t => ∃ (S1 : Nat → Int32), zPD (dC, dI) classes A [(om k0 a I0 J0), (oa (a 5) cI 201 st), (oa (a 6) cZ 201 tn), (oa (a 1) cI 201 kd), (oa (a 11) cI 201 mn), (oa (a 12) cI 8040 cx), (oa (a 13) cI 8040 cy), (oa (a 32) cI 8 S1)] t.heap) 0 0 := by
  refine zIn (own := "ScaleShopModel") (loc := [(0, .ref k0), (1, .int (nI f))]) rfl rfl rfl rfl (fun p e s m below meth c hx hb hr hts hown hlocks hml hnm9 A hA hS hP hD hK hXN Q9 hQ9 ls hl => ?_)
  refine lv_aload_n hx hb dX11_size_0 rfl (lv_at hl 0 rfl) ?_
  refine lv_iload_n hx hb dX11_size_1 rfl (lv_at hl 1 rfl) ?_
  obtain ⟨hPc, hDc, hFc, hI1⟩ := zi_sub (wc := [_, _, _]) hP hD hS hA [0, 1, 2] rfl rfl
  refine zcall (st1 := [.int (pI (f < ft ∧ (st f).toInt = 1 ∧ (tn f).toInt = 0))]) (va_runV (As := [.int (nI f)]) (rest := []) ⟨hx, hb, hml, hown, hts⟩ (k_M_is_n l dC dI cI cZ cF s.heap.size k0 a I0 J0 f ft st tn (by first | with_reducible assumption | assumption) (by first | with_reducible assumption | omega) (by first | with_reducible assumption | omega)) (csV_179 hts rfl rfl ⟨Nat.le_of_ble_eq_true rfl, Nat.le_of_ble_eq_true rfl⟩) (zPV2 (q0 := 0) (ci := 9) hPc hDc hK hXN rfl rfl) rfl rfl hl.1 rfl (lv_room (Nat.le_of_ble_eq_true rfl)) dX11_size_2 ⟨Nat.le_of_ble_eq_true rfl, Nat.le_of_ble_eq_true rfl⟩) hS hFc hFc rfl (fun t H locs ht hB hk1 hS => ?_)
  obtain ⟨hP1, hD1⟩ := hB
  rw [ht] at hP1
  replace hP := z0 hP hD hk1 hP1 hI1
  clear hk1 hPc hDc hFc hP1 hD1 ht hI1
  refine lv_if_ne (tgt := 12) hx hb dX11_size_5 rfl (fun c_1 => ?_) (fun c_1 => ?_)
  · have c_1 : f < ft ∧ (st f).toInt = 1 ∧ (tn f).toInt = 0 := zp_1 c_1
    have hw_ff := hwf f (by first | with_reducible assumption | assumption)
    have hm_ff := hw_ff.1
    have hn_ff := hw_ff.2.1
    have hp_ff := hw_ff.2.2
    refine lv_aload_n hx hb dX11_size_12 rfl (lv_at hl 0 rfl) ?_
    refine va_get (D := (dC, dI)) (ci := 9) (v := .ref (a 1)) (C := RX11) (T := TX11) (N := 55) hx hb hts inX11 hown hK hP 0 rfl rfl 1 (Nat.le_of_ble_eq_true rfl) (hts _ mw_1160) (fun _ h9 => h9) rfl dX11_size_13 ?_
    refine lv_iload_n hx hb dX11_size_16 rfl (lv_at hl 1 rfl) ?_
    have b9_2 : f < 201 := by omega
    refine z_iald hx hb hK hP 3 0 rfl rfl (e := f) rfl b9_2 (Nat.le_of_ble_eq_true rfl) dX11_size_17 ?_
    refine lv_if_ne (tgt := 25) hx hb dX11_size_18 rfl (fun c_3 => ?_) (fun c_3 => ?_)
    · have c_3 : ¬ (kd f).toInt = 0 := zc_ne rfl rfl c_3
      refine lv_aload_n hx hb dX11_size_25 rfl (lv_at hl 0 rfl) ?_
      refine lv_iload_n hx hb dX11_size_26 rfl (lv_at hl 1 rfl) ?_
      obtain ⟨hPc, hDc, hFc, hI1⟩ := zi_sub (wc := [_, _]) hP hD hS hA [0, 3] rfl rfl
      refine zcall (st1 := [.int (pI (5 ≤ (kd f).toInt))]) (va_runV (As := [.int (nI f)]) (rest := []) ⟨hx, hb, hml, hown, hts⟩ (k_M_isRing l dC dI cI cZ cF H.size k0 a I0 J0 f kd (by first | with_reducible assumption | omega)) (csV_165 hts rfl rfl ⟨Nat.le_of_ble_eq_true rfl, Nat.le_of_ble_eq_true rfl⟩) (zPV2 (q0 := 0) (ci := 9) hPc hDc hK hXN rfl rfl) rfl rfl hl.1 rfl (lv_room (Nat.le_of_ble_eq_true rfl)) dX11_size_27 ⟨Nat.le_of_ble_eq_true rfl, Nat.le_of_ble_eq_true rfl⟩) hS hFc hFc rfl (fun t H locs ht hB hk1 hS => ?_)
      obtain ⟨hP1, hD1⟩ := hB
      rw [ht] at hP1
      replace hP := z0 hP hD hk1 hP1 hI1
      clear hk1 hPc hDc hFc hP1 hD1 ht hI1
      refine lv_if_eq (tgt := 41) hx hb dX11_size_30 rfl (fun c_4 => ?_) (fun c_4 => ?_)
      · have c_4 : ¬ (5 ≤ (kd f).toInt) := zp_0 c_4
        exfalso; exact absurd hk5 (by first | with_reducible assumption | assumption)
      · have c_4 : 5 ≤ (kd f).toInt := zp_1 c_4
        refine lv_aload_n hx hb dX11_size_33 rfl (lv_at hl 0 rfl) ?_
        refine lv_iload_n hx hb dX11_size_34 rfl (lv_at hl 1 rfl) ?_
        obtain ⟨hPc, hDc, hFc⟩ := zo_sub (wc := [_, _, _, _, _]) hP hD hS hA [0, 4, 5, 6, 7] (by decide +kernel) rfl
        refine zcall (st1 := [.long (jI ((Int.natAbs (ar2 (nN (mn f)) (cF40 cx f) (cF40 cy f) (nN (mn f))) : Nat) : Int))]) (va_runV (As := [.int (nI f)]) (rest := []) ⟨hx, hb, hml, hown, hts⟩ (k_M_area l dC dI cI cZ cF H.size k0 a I0 J0 f (nN (mn f)) mn cx cy S0 (by first | with_reducible assumption | omega) (by first | with_reducible assumption | assumption) (by first | with_reducible assumption | omega) (by first | with_reducible assumption | assumption)) (csV_218 hts rfl rfl ⟨Nat.le_of_ble_eq_true rfl, Nat.le_of_ble_eq_true rfl⟩) (zPV2 (q0 := 0) (ci := 9) hPc hDc hK hXN rfl rfl) rfl rfl hl.1 rfl (lv_room (Nat.le_of_ble_eq_true rfl)) dX11_size_35 ⟨Nat.le_of_ble_eq_true rfl, Nat.le_of_ble_eq_true rfl⟩) hS hFc hFc rfl (fun t H locs ht hB hk1 hS => ?_)
        obtain ⟨q_5, hP1, hD1⟩ := hB
        rw [ht] at hP1
        obtain ⟨hP, hD⟩ := zn (W2 := [_, _, _, _, _, _, _, (oa (a 32) cI 8 q_5)]) hP hD hk1 hFc hP1 hD1 [0, 4, 5, 6, 7] [false, true, true, true] zl_230 [0, 4, 5, 6, 7] (by decide +kernel) rfl rfl rfl rfl rfl
        clear hk1 hPc hDc hFc hP1 hD1 ht
        refine zz_l (v := jI ((arF mn cx cy f : Nat) : Int)) (rfl) ?_
        refine lv_goto (tgt := 46) hx hb dX11_size_38 rfl ?_
        obtain ⟨hP9, hD9⟩ := zu_sub (wc := [_, _, _, _, _, _, _, _]) hP hD [true, true, true, true, true, true, true, true] rfl rfl
        rw [hQ9]
        exact W.lret (v := jI ((arF mn cx cy f : Nat) : Int)) hx hb hr (fun t ht hW => ⟨⟨rfl, q_5, by rw [ht]; exact hP9, hD9⟩, hS.F ht⟩) hS.2.2 dX11_size_46
    · have c_3 : (kd f).toInt = 0 := zc_eq rfl rfl c_3
      exfalso; omega
  · have c_1 : ¬ (f < ft ∧ (st f).toInt = 1 ∧ (tn f).toInt = 0) := zp_0 c_1
    exfalso; exact absurd hlv (by first | with_reducible assumption | assumption)
set_option maxHeartbeats 4000000 in
set_option maxRecDepth 100000 in
theorem k_M_size_l (l : Launch) (dC : Nat → ClassId) (dI : Nat → Nat → Nat) (cI cZ cF : ClassId) (sz : Nat) (k0 : Nat) (a : Nat → Nat) (I0 : Nat → Int32) (J0 : Nat → Int64) (f : Nat) (ft : Nat) (st : Nat → Int32) (tn : Nat → Int32) (kd : Nat → Int32) (mn : Nat → Int32) (cx : Nat → Int32) (cy : Nat → Int32) (S0 : Nat → Int32) (hft : I0 0 = nI ft) (h200 : ft ≤ 200) (hwf : ∀ q, lvF ft st tn q → wfM mn cx cy q) (hf_t : f < ft) (hlv : lvF ft st tn f) (hk5 : ¬ 5 ≤ (kd f).toInt ∧ ¬ (kd f).toInt = 0) : zM l yX11_size cX11_size 2 (some .long) ({ frames := 2, cells := 0, slots := 0, locals := 49 } : Room) [.ref k0, .int (nI f)] (dC, dI) (zTy cI cZ cF) [(om k0 a I0 J0), (oa (a 5) cI 201 st), (oa (a 6) cZ 201 tn), (oa (a 1) cI 201 kd), (oa (a 11) cI 201 mn), (oa (a 12) cI 8040 cx), (oa (a 13) cI 8040 cy), (oa (a 32) cI 8 S0)] sz (some (.long (jI ((ln2 (cF40 cx f) (cF40 cy f) (nN (mn f) - 1) : Nat) : Int)))) (fun A t => ∃ (S1 : Nat → Int32), zPD (dC, dI) classes A [(om k0 a I0 J0), (oa (a 5) cI 201 st), (oa (a 6) cZ 201 tn), (oa (a 1) cI 201 kd), (oa (a 11) cI 201 mn), (oa (a 12) cI 8040 cx), (oa (a 13) cI 8040 cy), (oa (a 32) cI 8 S1)] t.heap) 0 0 := by
  refine zIn (own := "ScaleShopModel") (loc := [(0, .ref k0), (1, .int (nI f))]) rfl rfl rfl rfl (fun p e s m below meth c hx hb hr hts hown hlocks hml hnm9 A hA hS hP hD hK hXN Q9 hQ9 ls hl => ?_)
  refine lv_aload_n hx hb dX11_size_0 rfl (lv_at hl 0 rfl) ?_
  refine lv_iload_n hx hb dX11_size_1 rfl (lv_at hl 1 rfl) ?_
  obtain ⟨hPc, hDc, hFc, hI1⟩ := zi_sub (wc := [_, _, _]) hP hD hS hA [0, 1, 2] rfl rfl
  refine zcall (st1 := [.int (pI (f < ft ∧ (st f).toInt = 1 ∧ (tn f).toInt = 0))]) (va_runV (As := [.int (nI f)]) (rest := []) ⟨hx, hb, hml, hown, hts⟩ (k_M_is_n l dC dI cI cZ cF s.heap.size k0 a I0 J0 f ft st tn (by first | with_reducible assumption | assumption) (by first | with_reducible assumption | omega) (by first | with_reducible assumption | omega)) (csV_179 hts rfl rfl ⟨Nat.le_of_ble_eq_true rfl, Nat.le_of_ble_eq_true rfl⟩) (zPV2 (q0 := 0) (ci := 9) hPc hDc hK hXN rfl rfl) rfl rfl hl.1 rfl (lv_room (Nat.le_of_ble_eq_true rfl)) dX11_size_2 ⟨Nat.le_of_ble_eq_true rfl, Nat.le_of_ble_eq_true rfl⟩) hS hFc hFc rfl (fun t H locs ht hB hk1 hS => ?_)
  obtain ⟨hP1, hD1⟩ := hB
  rw [ht] at hP1
  replace hP := z0 hP hD hk1 hP1 hI1
  clear hk1 hPc hDc hFc hP1 hD1 ht hI1
  refine lv_if_ne (tgt := 12) hx hb dX11_size_5 rfl (fun c_1 => ?_) (fun c_1 => ?_)
  · have c_1 : f < ft ∧ (st f).toInt = 1 ∧ (tn f).toInt = 0 := zp_1 c_1
    have hw_ff := hwf f (by first | with_reducible assumption | assumption)
    have hm_ff := hw_ff.1
    have hn_ff := hw_ff.2.1
    have hp_ff := hw_ff.2.2
    refine lv_aload_n hx hb dX11_size_12 rfl (lv_at hl 0 rfl) ?_
    refine va_get (D := (dC, dI)) (ci := 9) (v := .ref (a 1)) (C := RX11) (T := TX11) (N := 55) hx hb hts inX11 hown hK hP 0 rfl rfl 1 (Nat.le_of_ble_eq_true rfl) (hts _ mw_1160) (fun _ h9 => h9) rfl dX11_size_13 ?_
    refine lv_iload_n hx hb dX11_size_16 rfl (lv_at hl 1 rfl) ?_
    have b9_2 : f < 201 := by omega
    refine z_iald hx hb hK hP 3 0 rfl rfl (e := f) rfl b9_2 (Nat.le_of_ble_eq_true rfl) dX11_size_17 ?_
    refine lv_if_ne (tgt := 25) hx hb dX11_size_18 rfl (fun c_3 => ?_) (fun c_3 => ?_)
    · have c_3 : ¬ (kd f).toInt = 0 := zc_ne rfl rfl c_3
      refine lv_aload_n hx hb dX11_size_25 rfl (lv_at hl 0 rfl) ?_
      refine lv_iload_n hx hb dX11_size_26 rfl (lv_at hl 1 rfl) ?_
      obtain ⟨hPc, hDc, hFc, hI1⟩ := zi_sub (wc := [_, _]) hP hD hS hA [0, 3] rfl rfl
      refine zcall (st1 := [.int (pI (5 ≤ (kd f).toInt))]) (va_runV (As := [.int (nI f)]) (rest := []) ⟨hx, hb, hml, hown, hts⟩ (k_M_isRing l dC dI cI cZ cF H.size k0 a I0 J0 f kd (by first | with_reducible assumption | omega)) (csV_165 hts rfl rfl ⟨Nat.le_of_ble_eq_true rfl, Nat.le_of_ble_eq_true rfl⟩) (zPV2 (q0 := 0) (ci := 9) hPc hDc hK hXN rfl rfl) rfl rfl hl.1 rfl (lv_room (Nat.le_of_ble_eq_true rfl)) dX11_size_27 ⟨Nat.le_of_ble_eq_true rfl, Nat.le_of_ble_eq_true rfl⟩) hS hFc hFc rfl (fun t H locs ht hB hk1 hS => ?_)
      obtain ⟨hP1, hD1⟩ := hB
      rw [ht] at hP1
      replace hP := z0 hP hD hk1 hP1 hI1
      clear hk1 hPc hDc hFc hP1 hD1 ht hI1
      refine lv_if_eq (tgt := 41) hx hb dX11_size_30 rfl (fun c_4 => ?_) (fun c_4 => ?_)
      · have c_4 : ¬ (5 ≤ (kd f).toInt) := zp_0 c_4
        refine lv_aload_n hx hb dX11_size_41 rfl (lv_at hl 0 rfl) ?_
        refine lv_iload_n hx hb dX11_size_42 rfl (lv_at hl 1 rfl) ?_
        obtain ⟨hPc, hDc, hFc⟩ := zo_sub (wc := [_, _, _, _, _]) hP hD hS hA [0, 4, 5, 6, 7] (by decide +kernel) rfl
        refine zcall (st1 := [.long (jI ((ln2 (cF40 cx f) (cF40 cy f) ((nN (mn f)) - 1) : Nat) : Int))]) (va_runV (As := [.int (nI f)]) (rest := []) ⟨hx, hb, hml, hown, hts⟩ (k_M_lengthOf l dC dI cI cZ cF H.size k0 a I0 J0 f (nN (mn f)) mn cx cy S0 (by first | with_reducible assumption | omega) (by first | with_reducible assumption | assumption) (by first | with_reducible assumption | omega) (by first | with_reducible assumption | assumption)) (csV_223 hts rfl rfl ⟨Nat.le_of_ble_eq_true rfl, Nat.le_of_ble_eq_true rfl⟩) (zPV2 (q0 := 0) (ci := 9) hPc hDc hK hXN rfl rfl) rfl rfl hl.1 rfl (lv_room (Nat.le_of_ble_eq_true rfl)) dX11_size_43 ⟨Nat.le_of_ble_eq_true rfl, Nat.le_of_ble_eq_true rfl⟩) hS hFc hFc rfl (fun t H locs ht hB hk1 hS => ?_)
        obtain ⟨q_5, hP1, hD1⟩ := hB
        rw [ht] at hP1
        obtain ⟨hP, hD⟩ := zn (W2 := [_, _, _, _, _, _, _, (oa (a 32) cI 8 q_5)]) hP hD hk1 hFc hP1 hD1 [0, 4, 5, 6, 7] [false, true, true, true] zl_230 [0, 4, 5, 6, 7] (by decide +kernel) rfl rfl rfl rfl rfl
        clear hk1 hPc hDc hFc hP1 hD1 ht
        obtain ⟨hP9, hD9⟩ := zu_sub (wc := [_, _, _, _, _, _, _, _]) hP hD [true, true, true, true, true, true, true, true] rfl rfl
        rw [hQ9]
        exact W.lret (v := jI ((ln2 (cF40 cx f) (cF40 cy f) ((nN (mn f)) - 1) : Nat) : Int)) hx hb hr (fun t ht hW => ⟨⟨rfl, q_5, by rw [ht]; exact hP9, hD9⟩, hS.F ht⟩) hS.2.2 dX11_size_46
      · have c_4 : 5 ≤ (kd f).toInt := zp_1 c_4
        exfalso; exact absurd (by first | with_reducible assumption | assumption) hk5.1
    · have c_3 : (kd f).toInt = 0 := zc_eq rfl rfl c_3
      exfalso; omega
  · have c_1 : ¬ (f < ft ∧ (st f).toInt = 1 ∧ (tn f).toInt = 0) := zp_0 c_1
    exfalso; exact absurd hlv (by first | with_reducible assumption | assumption)
set_option maxHeartbeats 4000000 in
set_option maxRecDepth 100000 in
theorem k_M_side_x (l : Launch) (dC : Nat → ClassId) (dI : Nat → Nat → Nat) (cI cZ cF : ClassId) (sz : Nat) (k0 : Nat) (a : Nat → Nat) (I0 : Nat → Int32) (J0 : Nat → Int64) (ft : Nat) (px : Int32) (py : Int32) (v : Int32) (kv : Int32) (hft : I0 0 = nI ft) (h200 : ft ≤ 200) (hv : ¬ (0 ≤ v.toInt ∧ v.toInt < (ft : Int))) : zM l yX11_side cX11_side 6 (some .int) ({ frames := 2, cells := 0, slots := 0, locals := 42 } : Room) [.ref k0, .int px, .int py, .int v, .int kv] (dC, dI) (zTy cI cZ cF) [(om k0 a I0 J0)] sz (some (.int 0)) (fun A t => zPD (dC, dI) classes A [(om k0 a I0 J0)] t.heap) 0 0 := by
  refine zIn (own := "ScaleShopModel") (loc := [(0, .ref k0), (1, .int px), (2, .int py), (3, .int v), (4, .int kv)]) rfl rfl rfl rfl (fun p e s m below meth c hx hb hr hts hown hlocks hml hnm9 A hA hS hP hD hK hXN Q9 hQ9 ls hl => ?_)
  have hj_1 : W p l e ({ frames := 2, cells := 0, slots := 0, locals := 42 } : Room) s m ([.ref k0, .int px, .int py, .int v, .int kv] : List Value).toArray below meth c s.heap [] 0 0 Q9 (F0 m 27 ls [.int (pI (0 ≤ px.toInt ∧ px.toInt ≤ 1000 ∧ 0 ≤ py.toInt ∧ py.toInt ≤ 1000))]) := by
    refine lv_istore (lv' := [(5, .int (pI (0 ≤ px.toInt ∧ px.toInt ≤ 1000 ∧ 0 ≤ py.toInt ∧ py.toInt ≤ 1000))), (0, .ref k0), (1, .int px), (2, .int py), (3, .int v), (4, .int kv)]) hx hb dX11_side_27 hl (Nat.le_of_ble_eq_true rfl) rfl (fun ls hl => ?_)
    refine lv_iload hx hb dX11_side_29 (lv_at hl 0 rfl) ?_
    refine lv_if_eq (tgt := 66) hx hb dX11_side_31 rfl (fun c_2 => ?_) (fun c_2 => ?_)
    · have c_2 : ¬ (0 ≤ px.toInt ∧ px.toInt ≤ 1000 ∧ 0 ≤ py.toInt ∧ py.toInt ≤ 1000) := zp_0 c_2
      refine lv_iconst (v := 0) hx hb dX11_side_66 rfl ?_
      obtain ⟨hP9, hD9⟩ := zu_sub (wc := [_]) hP hD [true] rfl rfl
      rw [hQ9]
      exact W.iret (v := 0) hx hb hr (fun t ht hW => ⟨⟨rfl, by rw [ht]; exact hP9, hD9⟩, hS.F ht⟩) hS.2.2 dX11_side_67
    · have c_2 : 0 ≤ px.toInt ∧ px.toInt ≤ 1000 ∧ 0 ≤ py.toInt ∧ py.toInt ≤ 1000 := zp_1 c_2
      refine lv_aload_n hx hb dX11_side_34 rfl (lv_at hl 1 rfl) ?_
      refine lv_iload_n hx hb dX11_side_35 rfl (lv_at hl 4 rfl) ?_
      obtain ⟨hPc, hDc, hFc, hI1⟩ := zi_sub (wc := [_]) hP hD hS hA [0] rfl rfl
      refine zcall (st1 := [.int 0]) (va_runV (As := [.int v]) (rest := []) ⟨hx, hb, hml, hown, hts⟩ (k_M_is_x l dC dI cI cZ cF s.heap.size k0 a I0 J0 ft v (by first | with_reducible assumption | assumption) (by first | with_reducible assumption | omega) (by first | with_reducible assumption | assumption)) (csV_179 hts rfl rfl ⟨Nat.le_of_ble_eq_true rfl, Nat.le_of_ble_eq_true rfl⟩) (zPV2 (q0 := 0) (ci := 9) hPc hDc hK hXN rfl rfl) rfl rfl hl.1 rfl (lv_room (Nat.le_of_ble_eq_true rfl)) dX11_side_36 ⟨Nat.le_of_ble_eq_true rfl, Nat.le_of_ble_eq_true rfl⟩) hS hFc hFc rfl (fun t H locs ht hB hk1 hS => ?_)
      obtain ⟨hP1, hD1⟩ := hB
      rw [ht] at hP1
      replace hP := z0 hP hD hk1 hP1 hI1
      clear hk1 hPc hDc hFc hP1 hD1 ht hI1
      refine lv_if_eq (tgt := 66) hx hb dX11_side_39 rfl (fun c_3 => ?_) (fun c_3 => ?_)
      · refine lv_iconst (v := 0) hx hb dX11_side_66 rfl ?_
        obtain ⟨hP9, hD9⟩ := zu_sub (wc := [_]) hP hD [true] rfl rfl
        rw [hQ9]
        exact W.iret (v := 0) hx hb hr (fun t ht hW => ⟨⟨rfl, by rw [ht]; exact hP9, hD9⟩, hS.F ht⟩) hS.2.2 dX11_side_67
      · exact absurd (by decide) c_3
  refine lv_iload_n hx hb dX11_side_0 rfl (lv_at hl 1 rfl) ?_
  refine lv_if_lt (tgt := 26) hx hb dX11_side_1 rfl (fun c_4 => ?_) (fun c_4 => ?_)
  · have c_4 : px.toInt < 0 := zc_lt rfl rfl c_4
    refine lv_iconst (v := 0) hx hb dX11_side_26 rfl ?_
    refine zz_i (v := pI (0 ≤ px.toInt ∧ px.toInt ≤ 1000 ∧ 0 ≤ py.toInt ∧ py.toInt ≤ 1000)) (by first | exact (zp_t (by omega)).symm | exact (zp_f (by omega)).symm) ?_
    exact hj_1 
  · have c_4 : 0 ≤ px.toInt := zc_nlt rfl rfl c_4
    refine lv_iload_n hx hb dX11_side_4 rfl (lv_at hl 1 rfl) ?_
    refine lv_sipush (v := 1000) hx hb dX11_side_5 rfl ?_
    refine lv_icmp_gt (tgt := 26) hx hb dX11_side_8 rfl (fun c_5 => ?_) (fun c_5 => ?_)
    · have c_5 : 1000 < px.toInt := zc_lt rfl rfl c_5
      refine lv_iconst (v := 0) hx hb dX11_side_26 rfl ?_
      refine zz_i (v := pI (0 ≤ px.toInt ∧ px.toInt ≤ 1000 ∧ 0 ≤ py.toInt ∧ py.toInt ≤ 1000)) (by first | exact (zp_t (by omega)).symm | exact (zp_f (by omega)).symm) ?_
      exact hj_1 
    · have c_5 : px.toInt ≤ 1000 := zc_nlt rfl rfl c_5
      refine lv_iload_n hx hb dX11_side_11 rfl (lv_at hl 2 rfl) ?_
      refine lv_if_lt (tgt := 26) hx hb dX11_side_12 rfl (fun c_6 => ?_) (fun c_6 => ?_)
      · have c_6 : py.toInt < 0 := zc_lt rfl rfl c_6
        refine lv_iconst (v := 0) hx hb dX11_side_26 rfl ?_
        refine zz_i (v := pI (0 ≤ px.toInt ∧ px.toInt ≤ 1000 ∧ 0 ≤ py.toInt ∧ py.toInt ≤ 1000)) (by first | exact (zp_t (by omega)).symm | exact (zp_f (by omega)).symm) ?_
        exact hj_1 
      · have c_6 : 0 ≤ py.toInt := zc_nlt rfl rfl c_6
        refine lv_iload_n hx hb dX11_side_15 rfl (lv_at hl 2 rfl) ?_
        refine lv_sipush (v := 1000) hx hb dX11_side_16 rfl ?_
        refine lv_icmp_gt (tgt := 26) hx hb dX11_side_19 rfl (fun c_7 => ?_) (fun c_7 => ?_)
        · have c_7 : 1000 < py.toInt := zc_lt rfl rfl c_7
          refine lv_iconst (v := 0) hx hb dX11_side_26 rfl ?_
          refine zz_i (v := pI (0 ≤ px.toInt ∧ px.toInt ≤ 1000 ∧ 0 ≤ py.toInt ∧ py.toInt ≤ 1000)) (by first | exact (zp_t (by omega)).symm | exact (zp_f (by omega)).symm) ?_
          exact hj_1 
        · have c_7 : py.toInt ≤ 1000 := zc_nlt rfl rfl c_7
          refine lv_iconst (v := 1) hx hb dX11_side_22 rfl ?_
          refine lv_goto (tgt := 27) hx hb dX11_side_23 rfl ?_
          refine zz_i (v := pI (0 ≤ px.toInt ∧ px.toInt ≤ 1000 ∧ 0 ≤ py.toInt ∧ py.toInt ≤ 1000)) (by first | exact (zp_t (by omega)).symm | exact (zp_f (by omega)).symm) ?_
          exact hj_1 
set_option maxHeartbeats 4000000 in
set_option maxRecDepth 100000 in
theorem k_M_side_r (l : Launch) (dC : Nat → ClassId) (dI : Nat → Nat → Nat) (cI cZ cF : ClassId) (sz : Nat) (k0 : Nat) (a : Nat → Nat) (I0 : Nat → Int32) (J0 : Nat → Int64) (f : Nat) (ft : Nat) (px : Int32) (py : Int32) (kv : Int32) (st : Nat → Int32) (tn : Nat → Int32) (kd : Nat → Int32) (mn : Nat → Int32) (hft : I0 0 = nI ft) (h200 : ft ≤ 200) (hf_t : f < ft) (hmw : lvF ft st tn f → mn f = nI (nN (mn f)) ∧ 1 ≤ nN (mn f) ∧ nN (mn f) ≤ 40) (hbad : ¬ ((0 ≤ px.toInt ∧ px.toInt ≤ 1000 ∧ 0 ≤ py.toInt ∧ py.toInt ≤ 1000) ∧ lvF ft st tn f ∧ ¬ (kd f).toInt = 0 ∧ 0 ≤ kv.toInt ∧ kv.toInt < ((eO (kd f).toInt (nN (mn f)) : Nat) : Int))) : zM l yX11_side cX11_side 6 (some .int) ({ frames := 2, cells := 0, slots := 0, locals := 42 } : Room) [.ref k0, .int px, .int py, .int (nI f), .int kv] (dC, dI) (zTy cI cZ cF) [(om k0 a I0 J0), (oa (a 5) cI 201 st), (oa (a 6) cZ 201 tn), (oa (a 1) cI 201 kd), (oa (a 11) cI 201 mn)] sz (some (.int 0)) (fun A t => zPD (dC, dI) classes A [(om k0 a I0 J0), (oa (a 5) cI 201 st), (oa (a 6) cZ 201 tn), (oa (a 1) cI 201 kd), (oa (a 11) cI 201 mn)] t.heap) 0 0 := by
  refine zIn (own := "ScaleShopModel") (loc := [(0, .ref k0), (1, .int px), (2, .int py), (3, .int (nI f)), (4, .int kv)]) rfl rfl rfl rfl (fun p e s m below meth c hx hb hr hts hown hlocks hml hnm9 A hA hS hP hD hK hXN Q9 hQ9 ls hl => ?_)
  have hj_1 : W p l e ({ frames := 2, cells := 0, slots := 0, locals := 42 } : Room) s m ([.ref k0, .int px, .int py, .int (nI f), .int kv] : List Value).toArray below meth c s.heap [] 0 0 Q9 (F0 m 27 ls [.int (pI (0 ≤ px.toInt ∧ px.toInt ≤ 1000 ∧ 0 ≤ py.toInt ∧ py.toInt ≤ 1000))]) := by
    refine lv_istore (lv' := [(5, .int (pI (0 ≤ px.toInt ∧ px.toInt ≤ 1000 ∧ 0 ≤ py.toInt ∧ py.toInt ≤ 1000))), (0, .ref k0), (1, .int px), (2, .int py), (3, .int (nI f)), (4, .int kv)]) hx hb dX11_side_27 hl (Nat.le_of_ble_eq_true rfl) rfl (fun ls hl => ?_)
    refine lv_iload hx hb dX11_side_29 (lv_at hl 0 rfl) ?_
    refine lv_if_eq (tgt := 66) hx hb dX11_side_31 rfl (fun c_2 => ?_) (fun c_2 => ?_)
    · have c_2 : ¬ (0 ≤ px.toInt ∧ px.toInt ≤ 1000 ∧ 0 ≤ py.toInt ∧ py.toInt ≤ 1000) := zp_0 c_2
      refine lv_iconst (v := 0) hx hb dX11_side_66 rfl ?_
      obtain ⟨hP9, hD9⟩ := zu_sub (wc := [_, _, _, _, _]) hP hD [true, true, true, true, true] rfl rfl
      rw [hQ9]
      exact W.iret (v := 0) hx hb hr (fun t ht hW => ⟨⟨rfl, by rw [ht]; exact hP9, hD9⟩, hS.F ht⟩) hS.2.2 dX11_side_67
    · have c_2 : 0 ≤ px.toInt ∧ px.toInt ≤ 1000 ∧ 0 ≤ py.toInt ∧ py.toInt ≤ 1000 := zp_1 c_2
      refine lv_aload_n hx hb dX11_side_34 rfl (lv_at hl 1 rfl) ?_
      refine lv_iload_n hx hb dX11_side_35 rfl (lv_at hl 4 rfl) ?_
      obtain ⟨hPc, hDc, hFc, hI1⟩ := zi_sub (wc := [_, _, _]) hP hD hS hA [0, 1, 2] rfl rfl
      refine zcall (st1 := [.int (pI (f < ft ∧ (st f).toInt = 1 ∧ (tn f).toInt = 0))]) (va_runV (As := [.int (nI f)]) (rest := []) ⟨hx, hb, hml, hown, hts⟩ (k_M_is_n l dC dI cI cZ cF s.heap.size k0 a I0 J0 f ft st tn (by first | with_reducible assumption | assumption) (by first | with_reducible assumption | omega) (by first | with_reducible assumption | omega)) (csV_179 hts rfl rfl ⟨Nat.le_of_ble_eq_true rfl, Nat.le_of_ble_eq_true rfl⟩) (zPV2 (q0 := 0) (ci := 9) hPc hDc hK hXN rfl rfl) rfl rfl hl.1 rfl (lv_room (Nat.le_of_ble_eq_true rfl)) dX11_side_36 ⟨Nat.le_of_ble_eq_true rfl, Nat.le_of_ble_eq_true rfl⟩) hS hFc hFc rfl (fun t H locs ht hB hk1 hS => ?_)
      obtain ⟨hP1, hD1⟩ := hB
      rw [ht] at hP1
      replace hP := z0 hP hD hk1 hP1 hI1
      clear hk1 hPc hDc hFc hP1 hD1 ht hI1
      refine lv_if_eq (tgt := 66) hx hb dX11_side_39 rfl (fun c_3 => ?_) (fun c_3 => ?_)
      · have c_3 : ¬ (f < ft ∧ (st f).toInt = 1 ∧ (tn f).toInt = 0) := zp_0 c_3
        refine lv_iconst (v := 0) hx hb dX11_side_66 rfl ?_
        obtain ⟨hP9, hD9⟩ := zu_sub (wc := [_, _, _, _, _]) hP hD [true, true, true, true, true] rfl rfl
        rw [hQ9]
        exact W.iret (v := 0) hx hb hr (fun t ht hW => ⟨⟨rfl, by rw [ht]; exact hP9, hD9⟩, hS.F ht⟩) hS.2.2 dX11_side_67
      · have c_3 : f < ft ∧ (st f).toInt = 1 ∧ (tn f).toInt = 0 := zp_1 c_3
        have hmq := hmw (by first | with_reducible assumption | assumption)
        have hmq1 := hmq.1
        have hee := eO_le (k := (kd f).toInt) hmq.2.1
        refine lv_aload_n hx hb dX11_side_42 rfl (lv_at hl 1 rfl) ?_
        refine va_get (D := (dC, dI)) (ci := 9) (v := .ref (a 1)) (C := RX11) (T := TX11) (N := 55) hx hb hts inX11 hown hK hP 0 rfl rfl 1 (Nat.le_of_ble_eq_true rfl) (hts _ mw_1160) (fun _ h9 => h9) rfl dX11_side_43 ?_
        refine lv_iload_n hx hb dX11_side_46 rfl (lv_at hl 4 rfl) ?_
        have b9_4 : f < 201 := by omega
        refine z_iald hx hb hK hP 3 0 rfl rfl (e := f) rfl b9_4 (Nat.le_of_ble_eq_true rfl) dX11_side_47 ?_
        refine lv_if_eq (tgt := 66) hx hb dX11_side_48 rfl (fun c_5 => ?_) (fun c_5 => ?_)
        · have c_5 : (kd f).toInt = 0 := zc_eq rfl rfl c_5
          refine lv_iconst (v := 0) hx hb dX11_side_66 rfl ?_
          obtain ⟨hP9, hD9⟩ := zu_sub (wc := [_, _, _, _, _]) hP hD [true, true, true, true, true] rfl rfl
          rw [hQ9]
          exact W.iret (v := 0) hx hb hr (fun t ht hW => ⟨⟨rfl, by rw [ht]; exact hP9, hD9⟩, hS.F ht⟩) hS.2.2 dX11_side_67
        · have c_5 : ¬ (kd f).toInt = 0 := zc_ne rfl rfl c_5
          refine lv_iload hx hb dX11_side_51 (lv_at hl 5 rfl) ?_
          refine lv_if_lt (tgt := 66) hx hb dX11_side_53 rfl (fun c_6 => ?_) (fun c_6 => ?_)
          · have c_6 : kv.toInt < 0 := zc_lt rfl rfl c_6
            refine lv_iconst (v := 0) hx hb dX11_side_66 rfl ?_
            obtain ⟨hP9, hD9⟩ := zu_sub (wc := [_, _, _, _, _]) hP hD [true, true, true, true, true] rfl rfl
            rw [hQ9]
            exact W.iret (v := 0) hx hb hr (fun t ht hW => ⟨⟨rfl, by rw [ht]; exact hP9, hD9⟩, hS.F ht⟩) hS.2.2 dX11_side_67
          · have c_6 : 0 ≤ kv.toInt := zc_nlt rfl rfl c_6
            refine lv_iload hx hb dX11_side_56 (lv_at hl 5 rfl) ?_
            refine lv_aload_n hx hb dX11_side_58 rfl (lv_at hl 1 rfl) ?_
            refine lv_iload_n hx hb dX11_side_59 rfl (lv_at hl 4 rfl) ?_
            obtain ⟨hPc, hDc, hFc, hI1⟩ := zi_sub (wc := [_, _, _]) hP hD hS hA [0, 3, 4] rfl rfl
            refine zcall (st1 := [.int (nI (eO (kd f).toInt (nN (mn f)))), .int kv]) (va_runV (As := [.int (nI f)]) (rest := [.int kv]) ⟨hx, hb, hml, hown, hts⟩ (k_M_edgesOf l dC dI cI cZ cF H.size k0 a I0 J0 f (nN (mn f)) kd mn (by first | with_reducible assumption | omega) (hmq1) (hmq.2)) (csV_166 hts rfl rfl ⟨Nat.le_of_ble_eq_true rfl, Nat.le_of_ble_eq_true rfl⟩) (zPV2 (q0 := 0) (ci := 9) hPc hDc hK hXN rfl rfl) rfl rfl hl.1 rfl (lv_room (Nat.le_of_ble_eq_true rfl)) dX11_side_60 ⟨Nat.le_of_ble_eq_true rfl, Nat.le_of_ble_eq_true rfl⟩) hS hFc hFc rfl (fun t H locs ht hB hk1 hS => ?_)
            obtain ⟨hP1, hD1⟩ := hB
            rw [ht] at hP1
            replace hP := z0 hP hD hk1 hP1 hI1
            clear hk1 hPc hDc hFc hP1 hD1 ht hI1
            have b9_8 : zlt ((eO (kd f).toInt (nN (mn f)))) := show (eO (kd f).toInt (nN (mn f))) < 2147483648 by omega
            refine lv_icmp_lt (tgt := 68) hx hb dX11_side_63 rfl (fun c_7 => ?_) (fun c_7 => ?_)
            · have c_7 : kv.toInt < ((eO (kd f).toInt (nN (mn f)) : Nat) : Int) := zc_lt rfl (nI_toInt b9_8) c_7
              exact absurd ⟨by assumption, by assumption, by omega, by omega, by omega⟩ hbad
            · have c_7 : ((eO (kd f).toInt (nN (mn f)) : Nat) : Int) ≤ kv.toInt := zc_nlt rfl (nI_toInt b9_8) c_7
              refine lv_iconst (v := 0) hx hb dX11_side_66 rfl ?_
              obtain ⟨hP9, hD9⟩ := zu_sub (wc := [_, _, _, _, _]) hP hD [true, true, true, true, true] rfl rfl
              rw [hQ9]
              exact W.iret (v := 0) hx hb hr (fun t ht hW => ⟨⟨rfl, by rw [ht]; exact hP9, hD9⟩, hS.F ht⟩) hS.2.2 dX11_side_67
  refine lv_iload_n hx hb dX11_side_0 rfl (lv_at hl 1 rfl) ?_
  refine lv_if_lt (tgt := 26) hx hb dX11_side_1 rfl (fun c_9 => ?_) (fun c_9 => ?_)
  · have c_9 : px.toInt < 0 := zc_lt rfl rfl c_9
    refine lv_iconst (v := 0) hx hb dX11_side_26 rfl ?_
    refine zz_i (v := pI (0 ≤ px.toInt ∧ px.toInt ≤ 1000 ∧ 0 ≤ py.toInt ∧ py.toInt ≤ 1000)) (by first | exact (zp_t (by omega)).symm | exact (zp_f (by omega)).symm) ?_
    exact hj_1 
  · have c_9 : 0 ≤ px.toInt := zc_nlt rfl rfl c_9
    refine lv_iload_n hx hb dX11_side_4 rfl (lv_at hl 1 rfl) ?_
    refine lv_sipush (v := 1000) hx hb dX11_side_5 rfl ?_
    refine lv_icmp_gt (tgt := 26) hx hb dX11_side_8 rfl (fun c_10 => ?_) (fun c_10 => ?_)
    · have c_10 : 1000 < px.toInt := zc_lt rfl rfl c_10
      refine lv_iconst (v := 0) hx hb dX11_side_26 rfl ?_
      refine zz_i (v := pI (0 ≤ px.toInt ∧ px.toInt ≤ 1000 ∧ 0 ≤ py.toInt ∧ py.toInt ≤ 1000)) (by first | exact (zp_t (by omega)).symm | exact (zp_f (by omega)).symm) ?_
      exact hj_1 
    · have c_10 : px.toInt ≤ 1000 := zc_nlt rfl rfl c_10
      refine lv_iload_n hx hb dX11_side_11 rfl (lv_at hl 2 rfl) ?_
      refine lv_if_lt (tgt := 26) hx hb dX11_side_12 rfl (fun c_11 => ?_) (fun c_11 => ?_)
      · have c_11 : py.toInt < 0 := zc_lt rfl rfl c_11
        refine lv_iconst (v := 0) hx hb dX11_side_26 rfl ?_
        refine zz_i (v := pI (0 ≤ px.toInt ∧ px.toInt ≤ 1000 ∧ 0 ≤ py.toInt ∧ py.toInt ≤ 1000)) (by first | exact (zp_t (by omega)).symm | exact (zp_f (by omega)).symm) ?_
        exact hj_1 
      · have c_11 : 0 ≤ py.toInt := zc_nlt rfl rfl c_11
        refine lv_iload_n hx hb dX11_side_15 rfl (lv_at hl 2 rfl) ?_
        refine lv_sipush (v := 1000) hx hb dX11_side_16 rfl ?_
        refine lv_icmp_gt (tgt := 26) hx hb dX11_side_19 rfl (fun c_12 => ?_) (fun c_12 => ?_)
        · have c_12 : 1000 < py.toInt := zc_lt rfl rfl c_12
          refine lv_iconst (v := 0) hx hb dX11_side_26 rfl ?_
          refine zz_i (v := pI (0 ≤ px.toInt ∧ px.toInt ≤ 1000 ∧ 0 ≤ py.toInt ∧ py.toInt ≤ 1000)) (by first | exact (zp_t (by omega)).symm | exact (zp_f (by omega)).symm) ?_
          exact hj_1 
        · have c_12 : py.toInt ≤ 1000 := zc_nlt rfl rfl c_12
          refine lv_iconst (v := 1) hx hb dX11_side_22 rfl ?_
          refine lv_goto (tgt := 27) hx hb dX11_side_23 rfl ?_
          refine zz_i (v := pI (0 ≤ px.toInt ∧ px.toInt ≤ 1000 ∧ 0 ≤ py.toInt ∧ py.toInt ≤ 1000)) (by first | exact (zp_t (by omega)).symm | exact (zp_f (by omega)).symm) ?_
          exact hj_1 
set_option maxHeartbeats 4000000 in
set_option maxRecDepth 100000 in
theorem k_M_side_y (l : Launch) (dC : Nat → ClassId) (dI : Nat → Nat → Nat) (cI cZ cF : ClassId) (sz : Nat) (k0 : Nat) (a : Nat → Nat) (I0 : Nat → Int32) (J0 : Nat → Int64) (f : Nat) (k : Nat) (ft : Nat) (px : Int32) (py : Int32) (st : Nat → Int32) (tn : Nat → Int32) (kd : Nat → Int32) (mn : Nat → Int32) (cx : Nat → Int32) (cy : Nat → Int32) (S0 : Nat → Int32) (hft : I0 0 = nI ft) (h200 : ft ≤ 200) (hwf : ∀ q, lvF ft st tn q → wfM mn cx cy q) (hf_t : f < ft) (hlv : lvF ft st tn f) (hk0 : ¬ (kd f).toInt = 0) (hpl : 0 ≤ px.toInt ∧ px.toInt ≤ 1000 ∧ 0 ≤ py.toInt ∧ py.toInt ≤ 1000) (hke : k < eO (kd f).toInt (nN (mn f))) : zM l yX11_side cX11_side 6 (some .int) ({ frames := 2, cells := 0, slots := 0, locals := 42 } : Room) [.ref k0, .int px, .int py, .int (nI f), .int (nI k)] (dC, dI) (zTy cI cZ cF) [(om k0 a I0 J0), (oa (a 5) cI 201 st), (oa (a 6) cZ 201 tn), (oa (a 1) cI 201 kd), (oa (a 11) cI 201 mn), (oa (a 12) cI 8040 cx), (oa (a 13) cI 8040 cy), (oa (a 32) cI 8 S0)] sz (some (.int (iI (sg (eCr (nN (mn f)) (cF40 cx f) (cF40 cy f) k px.toInt py.toInt))))) (fun A t => ∃ (S1 : Nat → Int32), zPD (dC, dI) classes A [(om k0 a I0 J0), (oa (a 5) cI 201 st), (oa (a 6) cZ 201 tn), (oa (a 1) cI 201 kd), (oa (a 11) cI 201 mn), (oa (a 12) cI 8040 cx), (oa (a 13) cI 8040 cy), (oa (a 32) cI 8 S1)] t.heap) 0 0 := by
  refine zIn (own := "ScaleShopModel") (loc := [(0, .ref k0), (1, .int px), (2, .int py), (3, .int (nI f)), (4, .int (nI k))]) rfl rfl rfl rfl (fun p e s m below meth c hx hb hr hts hown hlocks hml hnm9 A hA hS hP hD hK hXN Q9 hQ9 ls hl => ?_)
  have hw_ff := hwf f (by first | with_reducible assumption | assumption)
  have hm_ff := hw_ff.1
  have hn_ff := hw_ff.2.1
  have hp_ff := hw_ff.2.2
  have hee := eO_le (k := (kd f).toInt) hn_ff.1
  have hpx9 : pl px := ⟨by omega, by omega⟩
  have hpy9 : pl py := ⟨by omega, by omega⟩
  have hk9 : k < nN (mn f) := (by omega)
  have hnx := nxt_lt (n := nN (mn f)) (i := k) (by omega)
  have hB := crBp (hp_ff k hk9).1 (hp_ff k hk9).2 (hp_ff _ hnx).1 (hp_ff _ hnx).2 hpx9 hpy9
  have hj_1 : W p l e ({ frames := 2, cells := 0, slots := 0, locals := 42 } : Room) s m ([.ref k0, .int px, .int py, .int (nI f), .int (nI k)] : List Value).toArray below meth c s.heap [] 0 0 Q9 (F0 m 27 ls [.int (pI (0 ≤ px.toInt ∧ px.toInt ≤ 1000 ∧ 0 ≤ py.toInt ∧ py.toInt ≤ 1000))]) := by
    refine lv_istore (lv' := [(5, .int (pI (0 ≤ px.toInt ∧ px.toInt ≤ 1000 ∧ 0 ≤ py.toInt ∧ py.toInt ≤ 1000))), (0, .ref k0), (1, .int px), (2, .int py), (3, .int (nI f)), (4, .int (nI k))]) hx hb dX11_side_27 hl (Nat.le_of_ble_eq_true rfl) rfl (fun ls hl => ?_)
    refine lv_iload hx hb dX11_side_29 (lv_at hl 0 rfl) ?_
    refine lv_if_eq (tgt := 66) hx hb dX11_side_31 rfl (fun c_2 => ?_) (fun c_2 => ?_)
    · have c_2 : ¬ (0 ≤ px.toInt ∧ px.toInt ≤ 1000 ∧ 0 ≤ py.toInt ∧ py.toInt ≤ 1000) := zp_0 c_2
      exfalso; exact absurd hpl (by first | with_reducible assumption | assumption)
    · have c_2 : 0 ≤ px.toInt ∧ px.toInt ≤ 1000 ∧ 0 ≤ py.toInt ∧ py.toInt ≤ 1000 := zp_1 c_2
      refine lv_aload_n hx hb dX11_side_34 rfl (lv_at hl 1 rfl) ?_
      refine lv_iload_n hx hb dX11_side_35 rfl (lv_at hl 4 rfl) ?_
      obtain ⟨hPc, hDc, hFc, hI1⟩ := zi_sub (wc := [_, _, _]) hP hD hS hA [0, 1, 2] rfl rfl
      refine zcall (st1 := [.int (pI (f < ft ∧ (st f).toInt = 1 ∧ (tn f).toInt = 0))]) (va_runV (As := [.int (nI f)]) (rest := []) ⟨hx, hb, hml, hown, hts⟩ (k_M_is_n l dC dI cI cZ cF s.heap.size k0 a I0 J0 f ft st tn (by first | with_reducible assumption | assumption) (by first | with_reducible assumption | omega) (by first | with_reducible assumption | omega)) (csV_179 hts rfl rfl ⟨Nat.le_of_ble_eq_true rfl, Nat.le_of_ble_eq_true rfl⟩) (zPV2 (q0 := 0) (ci := 9) hPc hDc hK hXN rfl rfl) rfl rfl hl.1 rfl (lv_room (Nat.le_of_ble_eq_true rfl)) dX11_side_36 ⟨Nat.le_of_ble_eq_true rfl, Nat.le_of_ble_eq_true rfl⟩) hS hFc hFc rfl (fun t H locs ht hB hk1 hS => ?_)
      obtain ⟨hP1, hD1⟩ := hB
      rw [ht] at hP1
      replace hP := z0 hP hD hk1 hP1 hI1
      clear hk1 hPc hDc hFc hP1 hD1 ht hI1
      refine lv_if_eq (tgt := 66) hx hb dX11_side_39 rfl (fun c_3 => ?_) (fun c_3 => ?_)
      · have c_3 : ¬ (f < ft ∧ (st f).toInt = 1 ∧ (tn f).toInt = 0) := zp_0 c_3
        exfalso; exact absurd hlv (by first | with_reducible assumption | assumption)
      · have c_3 : f < ft ∧ (st f).toInt = 1 ∧ (tn f).toInt = 0 := zp_1 c_3
        refine lv_aload_n hx hb dX11_side_42 rfl (lv_at hl 1 rfl) ?_
        refine va_get (D := (dC, dI)) (ci := 9) (v := .ref (a 1)) (C := RX11) (T := TX11) (N := 55) hx hb hts inX11 hown hK hP 0 rfl rfl 1 (Nat.le_of_ble_eq_true rfl) (hts _ mw_1160) (fun _ h9 => h9) rfl dX11_side_43 ?_
        refine lv_iload_n hx hb dX11_side_46 rfl (lv_at hl 4 rfl) ?_
        have b9_4 : f < 201 := by omega
        refine z_iald hx hb hK hP 3 0 rfl rfl (e := f) rfl b9_4 (Nat.le_of_ble_eq_true rfl) dX11_side_47 ?_
        refine lv_if_eq (tgt := 66) hx hb dX11_side_48 rfl (fun c_5 => ?_) (fun c_5 => ?_)
        · have c_5 : (kd f).toInt = 0 := zc_eq rfl rfl c_5
          exfalso; omega
        · have c_5 : ¬ (kd f).toInt = 0 := zc_ne rfl rfl c_5
          refine lv_iload hx hb dX11_side_51 (lv_at hl 5 rfl) ?_
          have b9_7 : zlt (k) := show k < 2147483648 by omega
          refine lv_if_lt (tgt := 66) hx hb dX11_side_53 rfl (fun c_6 => ?_) (fun c_6 => ?_)
          · have c_6 : ((k : Nat) : Int) < 0 := zc_lt (nI_toInt b9_7) rfl c_6
            exfalso; omega
          · have c_6 : 0 ≤ ((k : Nat) : Int) := zc_nlt (nI_toInt b9_7) rfl c_6
            refine lv_iload hx hb dX11_side_56 (lv_at hl 5 rfl) ?_
            refine lv_aload_n hx hb dX11_side_58 rfl (lv_at hl 1 rfl) ?_
            refine lv_iload_n hx hb dX11_side_59 rfl (lv_at hl 4 rfl) ?_
            obtain ⟨hPc, hDc, hFc, hI1⟩ := zi_sub (wc := [_, _, _]) hP hD hS hA [0, 3, 4] rfl rfl
            refine zcall (st1 := [.int (nI (eO (kd f).toInt (nN (mn f)))), .int (nI k)]) (va_runV (As := [.int (nI f)]) (rest := [.int (nI k)]) ⟨hx, hb, hml, hown, hts⟩ (k_M_edgesOf l dC dI cI cZ cF H.size k0 a I0 J0 f (nN (mn f)) kd mn (by first | with_reducible assumption | omega) (hm_ff) (by first | with_reducible assumption | omega)) (csV_166 hts rfl rfl ⟨Nat.le_of_ble_eq_true rfl, Nat.le_of_ble_eq_true rfl⟩) (zPV2 (q0 := 0) (ci := 9) hPc hDc hK hXN rfl rfl) rfl rfl hl.1 rfl (lv_room (Nat.le_of_ble_eq_true rfl)) dX11_side_60 ⟨Nat.le_of_ble_eq_true rfl, Nat.le_of_ble_eq_true rfl⟩) hS hFc hFc rfl (fun t H locs ht hB hk1 hS => ?_)
            obtain ⟨hP1, hD1⟩ := hB
            rw [ht] at hP1
            replace hP := z0 hP hD hk1 hP1 hI1
            clear hk1 hPc hDc hFc hP1 hD1 ht hI1
            have b9_9 : zlt ((eO (kd f).toInt (nN (mn f)))) := show (eO (kd f).toInt (nN (mn f))) < 2147483648 by omega
            refine lv_icmp_lt (tgt := 68) hx hb dX11_side_63 rfl (fun c_8 => ?_) (fun c_8 => ?_)
            · have c_8 : ((k : Nat) : Int) < ((eO (kd f).toInt (nN (mn f)) : Nat) : Int) := zc_lt (nI_toInt b9_7) (nI_toInt b9_9) c_8
              refine lv_aload_n hx hb dX11_side_68 rfl (lv_at hl 1 rfl) ?_
              refine lv_iload_n hx hb dX11_side_69 rfl (lv_at hl 4 rfl) ?_
              refine lv_iload hx hb dX11_side_70 (lv_at hl 5 rfl) ?_
              refine lv_iconst (v := 0) hx hb dX11_side_72 rfl ?_
              obtain ⟨hPc, hDc, hFc⟩ := zo_sub (wc := [_, _, _, _, _]) hP hD hS hA [0, 4, 5, 6, 7] (by decide +kernel) rfl
              refine zcall (st1 := []) (va_runV (As := [.int (nI f), .int (nI k), .int 0]) (rest := []) ⟨hx, hb, hml, hown, hts⟩ (k_M_edge l dC dI cI cZ cF H.size k0 a I0 J0 f (nN (mn f)) k 0 mn cx cy S0 (by first | with_reducible assumption | omega) (hm_ff) (by first | with_reducible assumption | omega) (by first | with_reducible assumption | omega) (by first | with_reducible assumption | omega)) (csV_167 hts rfl rfl ⟨Nat.le_of_ble_eq_true rfl, Nat.le_of_ble_eq_true rfl⟩) (zPV2 (q0 := 0) (ci := 9) hPc hDc hK hXN rfl rfl) rfl rfl hl.1 rfl (lv_room (Nat.le_of_ble_eq_true rfl)) dX11_side_73 ⟨Nat.le_of_ble_eq_true rfl, Nat.le_of_ble_eq_true rfl⟩) hS hFc hFc rfl (fun t H locs ht hB hk1 hS => ?_)
              obtain ⟨S2, t0, t1, t2, t3, tr, hP1, hD1⟩ := hB
              rw [ht] at hP1
              obtain ⟨hP, hD⟩ := zn (W2 := [_, _, _, _, _, _, _, (oa (a 32) cI 8 S2)]) hP hD hk1 hFc hP1 hD1 [0, 4, 5, 6, 7] [false, true, true, true] zl_230 [0, 4, 5, 6, 7] (by decide +kernel) rfl rfl rfl rfl rfl
              clear hk1 hPc hDc hFc hP1 hD1 ht
              refine lv_aload_n hx hb dX11_side_76 rfl (lv_at hl 1 rfl) ?_
              refine va_get (D := (dC, dI)) (ci := 9) (v := .ref (a 32)) (C := RX11) (T := TX11) (N := 55) hx hb hts inX11 hown hK hP 0 rfl rfl 32 (Nat.le_of_ble_eq_true rfl) (hts _ mw_1191) (fun _ h9 => h9) rfl dX11_side_77 ?_
              refine lv_iconst (v := 0) hx hb dX11_side_80 rfl ?_
              refine z_iald hx hb hK hP 7 0 rfl rfl (e := 0) rfl (Nat.le_of_ble_eq_true rfl) (Nat.le_of_ble_eq_true rfl) dX11_side_81 ?_
              refine zz_i (v := cF40 cx f k) (t0) ?_
              refine lv_i2l (v := (cF40 cx f k).toInt64) hx hb dX11_side_82 (rfl) ?_
              refine lv_aload_n hx hb dX11_side_83 rfl (lv_at hl 1 rfl) ?_
              refine va_get (D := (dC, dI)) (ci := 9) (v := .ref (a 32)) (C := RX11) (T := TX11) (N := 55) hx hb hts inX11 hown hK hP 0 rfl rfl 32 (Nat.le_of_ble_eq_true rfl) (hts _ mw_1191) (fun _ h9 => h9) rfl dX11_side_84 ?_
              refine lv_iconst (v := 1) hx hb dX11_side_87 rfl ?_
              refine z_iald hx hb hK hP 7 0 rfl rfl (e := 1) rfl (Nat.le_of_ble_eq_true rfl) (Nat.le_of_ble_eq_true rfl) dX11_side_88 ?_
              refine zz_i (v := cF40 cy f k) (t1) ?_
              refine lv_i2l (v := (cF40 cy f k).toInt64) hx hb dX11_side_89 (rfl) ?_
              refine lv_aload_n hx hb dX11_side_90 rfl (lv_at hl 1 rfl) ?_
              refine va_get (D := (dC, dI)) (ci := 9) (v := .ref (a 32)) (C := RX11) (T := TX11) (N := 55) hx hb hts inX11 hown hK hP 0 rfl rfl 32 (Nat.le_of_ble_eq_true rfl) (hts _ mw_1191) (fun _ h9 => h9) rfl dX11_side_91 ?_
              refine lv_iconst (v := 2) hx hb dX11_side_94 rfl ?_
              refine z_iald hx hb hK hP 7 0 rfl rfl (e := 2) rfl (Nat.le_of_ble_eq_true rfl) (Nat.le_of_ble_eq_true rfl) dX11_side_95 ?_
              refine zz_i (v := cF40 cx f (nxt (nN (mn f)) k)) (t2) ?_
              refine lv_i2l (v := (cF40 cx f (nxt (nN (mn f)) k)).toInt64) hx hb dX11_side_96 (rfl) ?_
              refine lv_aload_n hx hb dX11_side_97 rfl (lv_at hl 1 rfl) ?_
              refine va_get (D := (dC, dI)) (ci := 9) (v := .ref (a 32)) (C := RX11) (T := TX11) (N := 55) hx hb hts inX11 hown hK hP 0 rfl rfl 32 (Nat.le_of_ble_eq_true rfl) (hts _ mw_1191) (fun _ h9 => h9) rfl dX11_side_98 ?_
              refine lv_iconst (v := 3) hx hb dX11_side_101 rfl ?_
              refine z_iald hx hb hK hP 7 0 rfl rfl (e := 3) rfl (Nat.le_of_ble_eq_true rfl) (Nat.le_of_ble_eq_true rfl) dX11_side_102 ?_
              refine zz_i (v := cF40 cy f (nxt (nN (mn f)) k)) (t3) ?_
              refine lv_i2l (v := (cF40 cy f (nxt (nN (mn f)) k)).toInt64) hx hb dX11_side_103 (rfl) ?_
              refine lv_iload_n hx hb dX11_side_104 rfl (lv_at hl 2 rfl) ?_
              refine lv_i2l (v := px.toInt64) hx hb dX11_side_105 (rfl) ?_
              refine lv_iload_n hx hb dX11_side_106 rfl (lv_at hl 3 rfl) ?_
              refine lv_i2l (v := py.toInt64) hx hb dX11_side_107 (rfl) ?_
              obtain ⟨hPc, hDc, hFc, hI1⟩ := zi_sub (wc := []) hP hD hS hA [] rfl rfl
              refine zcall (st1 := [.long (jI (cr (cF40 cx f k).toInt (cF40 cy f k).toInt (cF40 cx f (nxt (nN (mn f)) k)).toInt (cF40 cy f (nxt (nN (mn f)) k)).toInt px.toInt py.toInt))]) (va_runS (As := [.long ((cF40 cx f k).toInt64), .long ((cF40 cy f k).toInt64), .long ((cF40 cx f (nxt (nN (mn f)) k)).toInt64), .long ((cF40 cy f (nxt (nN (mn f)) k)).toInt64), .long px.toInt64, .long py.toInt64]) (rest := []) ⟨hx, hb, hml, hown, hts⟩ (k_M_cross l dC dI cI cZ cF H.size (cF40 cx f k) (cF40 cy f k) (cF40 cx f (nxt (nN (mn f)) k)) (cF40 cy f (nxt (nN (mn f)) k)) px py ((hp_ff k hk9).1) ((hp_ff k hk9).2) ((hp_ff _ hnx).1) ((hp_ff _ hnx).2) (hpx9) (hpy9)) (csS_162 hts rfl rfl ⟨Nat.le_of_ble_eq_true rfl, Nat.le_of_ble_eq_true rfl⟩) (zPS2 hPc hDc hK hXN) rfl rfl hl.1 rfl (lv_room (Nat.le_of_ble_eq_true rfl)) dX11_side_108 ⟨Nat.le_of_ble_eq_true rfl, Nat.le_of_ble_eq_true rfl⟩) hS hFc hFc rfl (fun t H locs ht hB hk1 hS => ?_)
              obtain ⟨hP1, hD1⟩ := hB
              rw [ht] at hP1
              replace hP := z0 hP hD hk1 hP1 hI1
              clear hk1 hPc hDc hFc hP1 hD1 ht hI1
              refine zz_l (v := jI (eCr (nN (mn f)) (cF40 cx f) (cF40 cy f) k px.toInt py.toInt)) (rfl) ?_
              obtain ⟨hPc, hDc, hFc, hI1⟩ := zi_sub (wc := []) hP hD hS hA [] rfl rfl
              refine zcall (st1 := [.int (iI (sg (eCr (nN (mn f)) (cF40 cx f) (cF40 cy f) k px.toInt py.toInt)))]) (va_runS (As := [.long (jI (eCr (nN (mn f)) (cF40 cx f) (cF40 cy f) k px.toInt py.toInt))]) (rest := []) ⟨hx, hb, hml, hown, hts⟩ (k_M_signOf l dC dI cI cZ cF H.size (eCr (nN (mn f)) (cF40 cx f) (cF40 cy f) k px.toInt py.toInt) (hB)) (csS_163 hts rfl rfl ⟨Nat.le_of_ble_eq_true rfl, Nat.le_of_ble_eq_true rfl⟩) (zPS2 hPc hDc hK hXN) rfl rfl hl.1 rfl (lv_room (Nat.le_of_ble_eq_true rfl)) dX11_side_111 ⟨Nat.le_of_ble_eq_true rfl, Nat.le_of_ble_eq_true rfl⟩) hS hFc hFc rfl (fun t H locs ht hB hk1 hS => ?_)
              obtain ⟨hP1, hD1⟩ := hB
              rw [ht] at hP1
              replace hP := z0 hP hD hk1 hP1 hI1
              clear hk1 hPc hDc hFc hP1 hD1 ht hI1
              obtain ⟨hP9, hD9⟩ := zu_sub (wc := [_, _, _, _, _, _, _, _]) hP hD [true, true, true, true, true, true, true, true] rfl rfl
              rw [hQ9]
              exact W.iret (v := iI (sg (eCr (nN (mn f)) (cF40 cx f) (cF40 cy f) k px.toInt py.toInt))) hx hb hr (fun t ht hW => ⟨⟨rfl, S2, by rw [ht]; exact hP9, hD9⟩, hS.F ht⟩) hS.2.2 dX11_side_114
            · have c_8 : ((eO (kd f).toInt (nN (mn f)) : Nat) : Int) ≤ ((k : Nat) : Int) := zc_nlt (nI_toInt b9_7) (nI_toInt b9_9) c_8
              exfalso; omega
  refine lv_iload_n hx hb dX11_side_0 rfl (lv_at hl 1 rfl) ?_
  refine lv_if_lt (tgt := 26) hx hb dX11_side_1 rfl (fun c_10 => ?_) (fun c_10 => ?_)
  · have c_10 : px.toInt < 0 := zc_lt rfl rfl c_10
    refine lv_iconst (v := 0) hx hb dX11_side_26 rfl ?_
    refine zz_i (v := pI (0 ≤ px.toInt ∧ px.toInt ≤ 1000 ∧ 0 ≤ py.toInt ∧ py.toInt ≤ 1000)) (by first | exact (zp_t (by omega)).symm | exact (zp_f (by omega)).symm) ?_
    exact hj_1 
  · have c_10 : 0 ≤ px.toInt := zc_nlt rfl rfl c_10
    refine lv_iload_n hx hb dX11_side_4 rfl (lv_at hl 1 rfl) ?_
    refine lv_sipush (v := 1000) hx hb dX11_side_5 rfl ?_
    refine lv_icmp_gt (tgt := 26) hx hb dX11_side_8 rfl (fun c_11 => ?_) (fun c_11 => ?_)
    · have c_11 : 1000 < px.toInt := zc_lt rfl rfl c_11
      refine lv_iconst (v := 0) hx hb dX11_side_26 rfl ?_
      refine zz_i (v := pI (0 ≤ px.toInt ∧ px.toInt ≤ 1000 ∧ 0 ≤ py.toInt ∧ py.toInt ≤ 1000)) (by first | exact (zp_t (by omega)).symm | exact (zp_f (by omega)).symm) ?_
      exact hj_1 
    · have c_11 : px.toInt ≤ 1000 := zc_nlt rfl rfl c_11
      refine lv_iload_n hx hb dX11_side_11 rfl (lv_at hl 2 rfl) ?_
      refine lv_if_lt (tgt := 26) hx hb dX11_side_12 rfl (fun c_12 => ?_) (fun c_12 => ?_)
      · have c_12 : py.toInt < 0 := zc_lt rfl rfl c_12
        refine lv_iconst (v := 0) hx hb dX11_side_26 rfl ?_
        refine zz_i (v := pI (0 ≤ px.toInt ∧ px.toInt ≤ 1000 ∧ 0 ≤ py.toInt ∧ py.toInt ≤ 1000)) (by first | exact (zp_t (by omega)).symm | exact (zp_f (by omega)).symm) ?_
        exact hj_1 
      · have c_12 : 0 ≤ py.toInt := zc_nlt rfl rfl c_12
        refine lv_iload_n hx hb dX11_side_15 rfl (lv_at hl 2 rfl) ?_
        refine lv_sipush (v := 1000) hx hb dX11_side_16 rfl ?_
        refine lv_icmp_gt (tgt := 26) hx hb dX11_side_19 rfl (fun c_13 => ?_) (fun c_13 => ?_)
        · have c_13 : 1000 < py.toInt := zc_lt rfl rfl c_13
          refine lv_iconst (v := 0) hx hb dX11_side_26 rfl ?_
          refine zz_i (v := pI (0 ≤ px.toInt ∧ px.toInt ≤ 1000 ∧ 0 ≤ py.toInt ∧ py.toInt ≤ 1000)) (by first | exact (zp_t (by omega)).symm | exact (zp_f (by omega)).symm) ?_
          exact hj_1 
        · have c_13 : py.toInt ≤ 1000 := zc_nlt rfl rfl c_13
          refine lv_iconst (v := 1) hx hb dX11_side_22 rfl ?_
          refine lv_goto (tgt := 27) hx hb dX11_side_23 rfl ?_
          refine zz_i (v := pI (0 ≤ px.toInt ∧ px.toInt ≤ 1000 ∧ 0 ≤ py.toInt ∧ py.toInt ≤ 1000)) (by first | exact (zp_t (by omega)).symm | exact (zp_f (by omega)).symm) ?_
          exact hj_1 
set_option maxHeartbeats 4000000 in
set_option maxRecDepth 100000 in
theorem k_M_isRoad (l : Launch) (dC : Nat → ClassId) (dI : Nat → Nat → Nat) (cI cZ cF : ClassId) (sz : Nat) (k0 : Nat) (a : Nat → Nat) (I0 : Nat → Int32) (J0 : Nat → Int64) (f : Nat) (ft : Nat) (st : Nat → Int32) (tn : Nat → Int32) (kd : Nat → Int32) (hft : I0 0 = nI ft) (h200 : ft ≤ 200) (hf_t : f < ft) : zM l yX11_isRoad cX11_isRoad 2 (some .boolean) ({ frames := 2, cells := 0, slots := 0, locals := 42 } : Room) [.ref k0, .int (nI f)] (dC, dI) (zTy cI cZ cF) [(om k0 a I0 J0), (oa (a 5) cI 201 st), (oa (a 6) cZ 201 tn), (oa (a 1) cI 201 kd)] sz (some (.int (pI (lvF ft st tn f ∧ (kd f).toInt = 3)))) (fun A t => zPD (dC, dI) classes A [(om k0 a I0 J0), (oa (a 5) cI 201 st), (oa (a 6) cZ 201 tn), (oa (a 1) cI 201 kd)] t.heap) 0 0 := by
  refine zIn (own := "ScaleShopModel") (loc := [(0, .ref k0), (1, .int (nI f))]) rfl rfl rfl rfl (fun p e s m below meth c hx hb hr hts hown hlocks hml hnm9 A hA hS hP hD hK hXN Q9 hQ9 ls hl => ?_)
  refine lv_aload_n hx hb dX11_isRoad_0 rfl (lv_at hl 0 rfl) ?_
  refine lv_iload_n hx hb dX11_isRoad_1 rfl (lv_at hl 1 rfl) ?_
  obtain ⟨hPc, hDc, hFc, hI1⟩ := zi_sub (wc := [_, _, _]) hP hD hS hA [0, 1, 2] rfl rfl
  refine zcall (st1 := [.int (pI (f < ft ∧ (st f).toInt = 1 ∧ (tn f).toInt = 0))]) (va_runV (As := [.int (nI f)]) (rest := []) ⟨hx, hb, hml, hown, hts⟩ (k_M_is_n l dC dI cI cZ cF s.heap.size k0 a I0 J0 f ft st tn (by first | with_reducible assumption | assumption) (by first | with_reducible assumption | omega) (by first | with_reducible assumption | omega)) (csV_179 hts rfl rfl ⟨Nat.le_of_ble_eq_true rfl, Nat.le_of_ble_eq_true rfl⟩) (zPV2 (q0 := 0) (ci := 9) hPc hDc hK hXN rfl rfl) rfl rfl hl.1 rfl (lv_room (Nat.le_of_ble_eq_true rfl)) dX11_isRoad_2 ⟨Nat.le_of_ble_eq_true rfl, Nat.le_of_ble_eq_true rfl⟩) hS hFc hFc rfl (fun t H locs ht hB hk1 hS => ?_)
  obtain ⟨hP1, hD1⟩ := hB
  rw [ht] at hP1
  replace hP := z0 hP hD hk1 hP1 hI1
  clear hk1 hPc hDc hFc hP1 hD1 ht hI1
  refine lv_if_eq (tgt := 22) hx hb dX11_isRoad_5 rfl (fun c_1 => ?_) (fun c_1 => ?_)
  · have c_1 : ¬ (f < ft ∧ (st f).toInt = 1 ∧ (tn f).toInt = 0) := zp_0 c_1
    refine lv_iconst (v := 0) hx hb dX11_isRoad_22 rfl ?_
    obtain ⟨hP9, hD9⟩ := zu_sub (wc := [_, _, _, _]) hP hD [true, true, true, true] rfl rfl
    rw [hQ9]
    exact W.zret (ty := .boolean) (v := 0) hx hb hr (rfl) (fun t ht hW => ⟨⟨congrArg (fun z => Outcome.returned (some (Value.int z))) (show (0 : Int32) = pI (lvF ft st tn f ∧ (kd f).toInt = 3) from (zp_f (by first | exact ⟨by assumption, by omega⟩ | exact fun h => absurd h.1 (by first | with_reducible assumption | assumption) | exact fun h => absurd h.2 (by omega))).symm), by rw [ht]; exact hP9, hD9⟩, hS.F ht⟩) hS.2.2 dX11_isRoad_23
  · have c_1 : f < ft ∧ (st f).toInt = 1 ∧ (tn f).toInt = 0 := zp_1 c_1
    refine lv_aload_n hx hb dX11_isRoad_8 rfl (lv_at hl 0 rfl) ?_
    refine va_get (D := (dC, dI)) (ci := 9) (v := .ref (a 1)) (C := RX11) (T := TX11) (N := 55) hx hb hts inX11 hown hK hP 0 rfl rfl 1 (Nat.le_of_ble_eq_true rfl) (hts _ mw_1160) (fun _ h9 => h9) rfl dX11_isRoad_9 ?_
    refine lv_iload_n hx hb dX11_isRoad_12 rfl (lv_at hl 1 rfl) ?_
    have b9_2 : f < 201 := by omega
    refine z_iald hx hb hK hP 3 0 rfl rfl (e := f) rfl b9_2 (Nat.le_of_ble_eq_true rfl) dX11_isRoad_13 ?_
    refine lv_iconst (v := 3) hx hb dX11_isRoad_14 rfl ?_
    refine lv_icmp_ne (tgt := 22) hx hb dX11_isRoad_15 rfl (fun c_3 => ?_) (fun c_3 => ?_)
    · have c_3 : ¬ (kd f).toInt = 3 := zc_ne rfl rfl c_3
      refine lv_iconst (v := 0) hx hb dX11_isRoad_22 rfl ?_
      obtain ⟨hP9, hD9⟩ := zu_sub (wc := [_, _, _, _]) hP hD [true, true, true, true] rfl rfl
      rw [hQ9]
      exact W.zret (ty := .boolean) (v := 0) hx hb hr (rfl) (fun t ht hW => ⟨⟨congrArg (fun z => Outcome.returned (some (Value.int z))) (show (0 : Int32) = pI (lvF ft st tn f ∧ (kd f).toInt = 3) from (zp_f (by first | exact ⟨by assumption, by omega⟩ | exact fun h => absurd h.1 (by first | with_reducible assumption | assumption) | exact fun h => absurd h.2 (by omega))).symm), by rw [ht]; exact hP9, hD9⟩, hS.F ht⟩) hS.2.2 dX11_isRoad_23
    · have c_3 : (kd f).toInt = 3 := zc_eq rfl rfl c_3
      refine lv_iconst (v := 1) hx hb dX11_isRoad_18 rfl ?_
      refine lv_goto (tgt := 23) hx hb dX11_isRoad_19 rfl ?_
      obtain ⟨hP9, hD9⟩ := zu_sub (wc := [_, _, _, _]) hP hD [true, true, true, true] rfl rfl
      rw [hQ9]
      exact W.zret (ty := .boolean) (v := 1) hx hb hr (rfl) (fun t ht hW => ⟨⟨congrArg (fun z => Outcome.returned (some (Value.int z))) (show (1 : Int32) = pI (lvF ft st tn f ∧ (kd f).toInt = 3) from (zp_t (by first | exact ⟨by assumption, by omega⟩ | exact fun h => absurd h.1 (by first | with_reducible assumption | assumption) | exact fun h => absurd h.2 (by omega))).symm), by rw [ht]; exact hP9, hD9⟩, hS.F ht⟩) hS.2.2 dX11_isRoad_23
set_option maxHeartbeats 4000000 in
set_option maxRecDepth 100000 in
theorem k_M_count_0 (l : Launch) (dC : Nat → ClassId) (dI : Nat → Nat → Nat) (cI cZ cF : ClassId) (sz : Nat) (k0 : Nat) (a : Nat → Nat) (I0 : Nat → Int32) (J0 : Nat → Int64) (ft : Nat) (st : Nat → Int32) (tn : Nat → Int32) (mn : Nat → Int32) (hft : I0 0 = nI ft) (h200 : ft ≤ 200) (hmw : ∀ q, lvF ft st tn q → mn q = nI (nN (mn q)) ∧ nN (mn q) ≤ 40) : zM l yX11_count cX11_count 7 (some .int) ({ frames := 2, cells := 0, slots := 0, locals := 42 } : Room) [.ref k0, .int 0] (dC, dI) (zTy cI cZ cF) [(om k0 a I0 J0), (oa (a 5) cI 201 st), (oa (a 6) cZ 201 tn), (oa (a 11) cI 201 mn)] sz (some (.int (nI ft))) (fun A t => zPD (dC, dI) classes A [(om k0 a I0 J0), (oa (a 5) cI 201 st), (oa (a 6) cZ 201 tn), (oa (a 11) cI 201 mn)] t.heap) 0 0 := by
  refine zIn (own := "ScaleShopModel") (loc := [(0, .ref k0), (1, .int 0)]) rfl rfl rfl rfl (fun p e s m below meth c hx hb hr hts hown hlocks hml hnm9 A hA hS hP hD hK hXN Q9 hQ9 ls hl => ?_)
  refine lv_iconst (v := 0) hx hb dX11_count_0 rfl ?_
  refine lv_istore_n (lv' := [(2, .int 0), (0, .ref k0), (1, .int 0)]) hx hb dX11_count_1 rfl hl (Nat.le_of_ble_eq_true rfl) rfl (fun ls hl => ?_)
  refine lv_iconst (v := 0) hx hb dX11_count_2 rfl ?_
  refine lv_istore_n (lv' := [(3, .int 0), (2, .int 0), (0, .ref k0), (1, .int 0)]) hx hb dX11_count_3 rfl hl (Nat.le_of_ble_eq_true rfl) rfl (fun ls hl => ?_)
  refine lv_iconst (v := 0) hx hb dX11_count_4 rfl ?_
  refine lv_istore (lv' := [(4, .int 0), (3, .int 0), (2, .int 0), (0, .ref k0), (1, .int 0)]) hx hb dX11_count_5 hl (Nat.le_of_ble_eq_true rfl) rfl (fun ls hl => ?_)
  refine lv_iconst (v := 0) hx hb dX11_count_7 rfl ?_
  refine lv_istore (lv' := [(5, .int 0), (4, .int 0), (3, .int 0), (2, .int 0), (0, .ref k0), (1, .int 0)]) hx hb dX11_count_8 hl (Nat.le_of_ble_eq_true rfl) rfl (fun ls hl => ?_)
  refine lv_iconst (v := 0) hx hb dX11_count_10 rfl ?_
  refine lv_istore (lv' := [(6, .int 0), (5, .int 0), (4, .int 0), (3, .int 0), (2, .int 0), (0, .ref k0), (1, .int 0)]) hx hb dX11_count_11 hl (Nat.le_of_ble_eq_true rfl) rfl (fun ls hl => ?_)
  have hl_13 : ∀ (n9 : Nat) (q : Nat) (H : Heap) (locs : List Loc) (ls : Array Slot), ft - q < n9 → (q ≤ ft) → va_P (dC, dI) classes [(om k0 a I0 J0), (oa (a 5) cI 201 st), (oa (a 6) cZ 201 tn), (oa (a 11) cI 201 mn)] H → va_D A [(om k0 a I0 J0), (oa (a 5) cI 201 st), (oa (a 6) cZ 201 tn), (oa (a 11) cI 201 mn)] → va_S A s.heap H locs → lv_has ls 7 [(6, .int (nI q)), (5, .int (nI (smP (lvF ft st tn) (fun g => nN (mn g)) q))), (4, .int (nI (cntP (fun g => ¬ (tn g).toInt = 0) q))), (3, .int (nI (cntP (fun g => (st g).toInt = 2) q))), (2, .int (nI (cntP (fun g => (st g).toInt = 1) q))), (0, .ref k0), (1, .int 0)] → W p l e ({ frames := 2, cells := 0, slots := 0, locals := 42 } : Room) s m ([.ref k0, .int 0] : List Value).toArray below meth c H locs 0 0 Q9 (F0 m 13 ls []) := by
    intro n9
    induction n9 with
    | zero => intro q H locs ls hm; exact absurd hm (Nat.not_lt_zero _)
    | succ n9 ih_13 =>
      intro q H locs ls hm hq hP hD hS hl
      have hc2 := cntP_b (fun g => (st g).toInt = 1) q
      have hc3 := cntP_b (fun g => (st g).toInt = 2) q
      have hc4 := cntP_b (fun g => ¬ (tn g).toInt = 0) q
      have hc5 := smP_b (P := lvF ft st tn) (c := fun g => nN (mn g)) q (fun j _ h => (hmw j h).2)
      refine lv_iload hx hb dX11_count_13 (lv_at hl 0 rfl) ?_
      refine lv_aload_n hx hb dX11_count_15 rfl (lv_at hl 5 rfl) ?_
      refine va_get (D := (dC, dI)) (ci := 9) (v := .int (I0 0)) (C := RX11) (T := TX11) (N := 55) hx hb hts inX11 hown hK hP 0 rfl rfl 0 (Nat.le_of_ble_eq_true rfl) (hts _ mw_1159) (fun _ h9 => h9) rfl dX11_count_16 ?_
      refine zz_i (v := nI ft) (hft) ?_
      have b9_2 : zlt (q) := show q < 2147483648 by omega
      have b9_3 : zlt (ft) := show ft < 2147483648 by omega
      refine lv_icmp_ge (tgt := 111) hx hb dX11_count_19 rfl (fun c_1 => ?_) (fun c_1 => ?_)
      · have c_1 : ((ft : Nat) : Int) ≤ ((q : Nat) : Int) := zc_le (nI_toInt b9_3) (nI_toInt b9_2) c_1
        refine lv_iload_n hx hb dX11_count_111 rfl (lv_at hl 6 rfl) ?_
        refine lv_tableIn (tgt := 160) (off := 48) hx hb dX11_count_112 (by decide) (by decide) (by decide) (by decide) ?_
        refine lv_aload_n hx hb dX11_count_160 rfl (lv_at hl 5 rfl) ?_
        refine va_get (D := (dC, dI)) (ci := 9) (v := .int (I0 0)) (C := RX11) (T := TX11) (N := 55) hx hb hts inX11 hown hK hP 0 rfl rfl 0 (Nat.le_of_ble_eq_true rfl) (hts _ mw_1159) (fun _ h9 => h9) rfl dX11_count_161 ?_
        refine zz_i (v := nI ft) (hft) ?_
        obtain ⟨hP9, hD9⟩ := zu_sub (wc := [_, _, _, _]) hP hD [true, true, true, true] rfl rfl
        rw [hQ9]
        exact W.iret (v := nI ft) hx hb hr (fun t ht hW => ⟨⟨rfl, by rw [ht]; exact hP9, hD9⟩, hS.F ht⟩) hS.2.2 dX11_count_164
      · have c_1 : ((q : Nat) : Int) < ((ft : Nat) : Int) := zc_nle (nI_toInt b9_3) (nI_toInt b9_2) c_1
        refine lv_iload_n hx hb dX11_count_22 rfl (lv_at hl 4 rfl) ?_
        refine lv_aload_n hx hb dX11_count_23 rfl (lv_at hl 5 rfl) ?_
        refine va_get (D := (dC, dI)) (ci := 9) (v := .ref (a 5)) (C := RX11) (T := TX11) (N := 55) hx hb hts inX11 hown hK hP 0 rfl rfl 5 (Nat.le_of_ble_eq_true rfl) (hts _ mw_1164) (fun _ h9 => h9) rfl dX11_count_24 ?_
        refine lv_iload hx hb dX11_count_27 (lv_at hl 0 rfl) ?_
        have b9_4 : q < 201 := by omega
        refine z_iald hx hb hK hP 1 0 rfl rfl (e := q) rfl b9_4 (Nat.le_of_ble_eq_true rfl) dX11_count_29 ?_
        refine lv_iconst (v := 1) hx hb dX11_count_30 rfl ?_
        refine lv_icmp_ne (tgt := 38) hx hb dX11_count_31 rfl (fun c_5 => ?_) (fun c_5 => ?_)
        · have c_5 : ¬ (st q).toInt = 1 := zc_ne rfl rfl c_5
          refine lv_iconst (v := 0) hx hb dX11_count_38 rfl ?_
          refine lv_iadd hx hb dX11_count_39 ?_
          refine zz_i (v := nI ((cntP (fun g => (st g).toInt = 1) q) + 0)) (nI_add (cntP (fun g => (st g).toInt = 1) q) 0) ?_
          refine lv_istore_n (lv' := [(2, .int (nI ((cntP (fun g => (st g).toInt = 1) q) + 0))), (6, .int (nI q)), (5, .int (nI (smP (lvF ft st tn) (fun g => nN (mn g)) q))), (4, .int (nI (cntP (fun g => ¬ (tn g).toInt = 0) q))), (3, .int (nI (cntP (fun g => (st g).toInt = 2) q))), (0, .ref k0), (1, .int 0)]) hx hb dX11_count_40 rfl hl (Nat.le_of_ble_eq_true rfl) rfl (fun ls hl => ?_)
          refine lv_iload_n hx hb dX11_count_41 rfl (lv_at hl 4 rfl) ?_
          refine lv_aload_n hx hb dX11_count_42 rfl (lv_at hl 5 rfl) ?_
          refine va_get (D := (dC, dI)) (ci := 9) (v := .ref (a 5)) (C := RX11) (T := TX11) (N := 55) hx hb hts inX11 hown hK hP 0 rfl rfl 5 (Nat.le_of_ble_eq_true rfl) (hts _ mw_1164) (fun _ h9 => h9) rfl dX11_count_43 ?_
          refine lv_iload hx hb dX11_count_46 (lv_at hl 1 rfl) ?_
          refine z_iald hx hb hK hP 1 0 rfl rfl (e := q) rfl b9_4 (Nat.le_of_ble_eq_true rfl) dX11_count_48 ?_
          refine lv_iconst (v := 2) hx hb dX11_count_49 rfl ?_
          refine lv_icmp_ne (tgt := 57) hx hb dX11_count_50 rfl (fun c_6 => ?_) (fun c_6 => ?_)
          · have c_6 : ¬ (st q).toInt = 2 := zc_ne rfl rfl c_6
            refine lv_iconst (v := 0) hx hb dX11_count_57 rfl ?_
            refine lv_iadd hx hb dX11_count_58 ?_
            refine zz_i (v := nI ((cntP (fun g => (st g).toInt = 2) q) + 0)) (nI_add (cntP (fun g => (st g).toInt = 2) q) 0) ?_
            refine lv_istore_n (lv' := [(3, .int (nI ((cntP (fun g => (st g).toInt = 2) q) + 0))), (2, .int (nI ((cntP (fun g => (st g).toInt = 1) q) + 0))), (6, .int (nI q)), (5, .int (nI (smP (lvF ft st tn) (fun g => nN (mn g)) q))), (4, .int (nI (cntP (fun g => ¬ (tn g).toInt = 0) q))), (0, .ref k0), (1, .int 0)]) hx hb dX11_count_59 rfl hl (Nat.le_of_ble_eq_true rfl) rfl (fun ls hl => ?_)
            refine lv_iload hx hb dX11_count_60 (lv_at hl 4 rfl) ?_
            refine lv_aload_n hx hb dX11_count_62 rfl (lv_at hl 5 rfl) ?_
            refine va_get (D := (dC, dI)) (ci := 9) (v := .ref (a 6)) (C := RX11) (T := TX11) (N := 55) hx hb hts inX11 hown hK hP 0 rfl rfl 6 (Nat.le_of_ble_eq_true rfl) (hts _ mw_1165) (fun _ h9 => h9) rfl dX11_count_63 ?_
            refine lv_iload hx hb dX11_count_66 (lv_at hl 2 rfl) ?_
            refine z_zald hx hb hK hP 2 1 rfl rfl (e := q) rfl b9_4 (Nat.le_of_ble_eq_true rfl) dX11_count_68 ?_
            refine lv_if_eq (tgt := 76) hx hb dX11_count_69 rfl (fun c_7 => ?_) (fun c_7 => ?_)
            · have c_7 : (tn q).toInt = 0 := zc_eq rfl rfl c_7
              refine lv_iconst (v := 0) hx hb dX11_count_76 rfl ?_
              refine lv_iadd hx hb dX11_count_77 ?_
              refine zz_i (v := nI ((cntP (fun g => ¬ (tn g).toInt = 0) q) + 0)) (nI_add (cntP (fun g => ¬ (tn g).toInt = 0) q) 0) ?_
              refine lv_istore (lv' := [(4, .int (nI ((cntP (fun g => ¬ (tn g).toInt = 0) q) + 0))), (3, .int (nI ((cntP (fun g => (st g).toInt = 2) q) + 0))), (2, .int (nI ((cntP (fun g => (st g).toInt = 1) q) + 0))), (6, .int (nI q)), (5, .int (nI (smP (lvF ft st tn) (fun g => nN (mn g)) q))), (0, .ref k0), (1, .int 0)]) hx hb dX11_count_78 hl (Nat.le_of_ble_eq_true rfl) rfl (fun ls hl => ?_)
              refine lv_iload hx hb dX11_count_80 (lv_at hl 4 rfl) ?_
              refine lv_aload_n hx hb dX11_count_82 rfl (lv_at hl 5 rfl) ?_
              refine lv_iload hx hb dX11_count_83 (lv_at hl 3 rfl) ?_
              obtain ⟨hPc, hDc, hFc, hI1⟩ := zi_sub (wc := [_, _, _]) hP hD hS hA [0, 1, 2] rfl rfl
              refine zcall (st1 := [.int (pI (q < ft ∧ (st q).toInt = 1 ∧ (tn q).toInt = 0)), .int (nI (smP (lvF ft st tn) (fun g => nN (mn g)) q))]) (va_runV (As := [.int (nI q)]) (rest := [.int (nI (smP (lvF ft st tn) (fun g => nN (mn g)) q))]) ⟨hx, hb, hml, hown, hts⟩ (k_M_is_n l dC dI cI cZ cF H.size k0 a I0 J0 q ft st tn (by first | with_reducible assumption | assumption) (by first | with_reducible assumption | omega) (by first | with_reducible assumption | omega)) (csV_179 hts rfl rfl ⟨Nat.le_of_ble_eq_true rfl, Nat.le_of_ble_eq_true rfl⟩) (zPV2 (q0 := 0) (ci := 9) hPc hDc hK hXN rfl rfl) rfl rfl hl.1 rfl (lv_room (Nat.le_of_ble_eq_true rfl)) dX11_count_85 ⟨Nat.le_of_ble_eq_true rfl, Nat.le_of_ble_eq_true rfl⟩) hS hFc hFc rfl (fun t H locs ht hB hk1 hS => ?_)
              obtain ⟨hP1, hD1⟩ := hB
              rw [ht] at hP1
              replace hP := z0 hP hD hk1 hP1 hI1
              clear hk1 hPc hDc hFc hP1 hD1 ht hI1
              refine lv_if_eq (tgt := 101) hx hb dX11_count_88 rfl (fun c_8 => ?_) (fun c_8 => ?_)
              · have c_8 : ¬ (q < ft ∧ (st q).toInt = 1 ∧ (tn q).toInt = 0) := zp_0 c_8
                refine lv_iconst (v := 0) hx hb dX11_count_101 rfl ?_
                refine lv_iadd hx hb dX11_count_102 ?_
                refine zz_i (v := nI ((smP (lvF ft st tn) (fun g => nN (mn g)) q) + 0)) (nI_add (smP (lvF ft st tn) (fun g => nN (mn g)) q) 0) ?_
                refine lv_istore (lv' := [(5, .int (nI ((smP (lvF ft st tn) (fun g => nN (mn g)) q) + 0))), (4, .int (nI ((cntP (fun g => ¬ (tn g).toInt = 0) q) + 0))), (3, .int (nI ((cntP (fun g => (st g).toInt = 2) q) + 0))), (2, .int (nI ((cntP (fun g => (st g).toInt = 1) q) + 0))), (6, .int (nI q)), (0, .ref k0), (1, .int 0)]) hx hb dX11_count_103 hl (Nat.le_of_ble_eq_true rfl) rfl (fun ls hl => ?_)
                refine lv_iinc (v := nI (q + 1)) (lv' := [(6, .int (nI (q + 1))), (5, .int (nI ((smP (lvF ft st tn) (fun g => nN (mn g)) q) + 0))), (4, .int (nI ((cntP (fun g => ¬ (tn g).toInt = 0) q) + 0))), (3, .int (nI ((cntP (fun g => (st g).toInt = 2) q) + 0))), (2, .int (nI ((cntP (fun g => (st g).toInt = 1) q) + 0))), (0, .ref k0), (1, .int 0)]) hx hb dX11_count_105 hl (k := 4) rfl (nI_add q 1) (Nat.le_of_ble_eq_true rfl) rfl (fun ls hl => ?_)
                refine lv_goto (tgt := 13) hx hb dX11_count_108 rfl ?_
                have hl9 := lv_sub hl [0, 1, 2, 3, 4, 5, 6] rfl
                have e9_2 : nI (cntP (fun g => (st g).toInt = 1) (q + 1)) = (nI ((cntP (fun g => (st g).toInt = 1) q) + 0) : Int32) := by first | exact congrArg nI (cntP_y (P := fun g => (st g).toInt = 1) (show (st q).toInt = 1 by omega)) | exact congrArg nI (cntP_n0 (P := fun g => (st g).toInt = 1) (show ¬ (st q).toInt = 1 by omega))
                have e9_3 : nI (cntP (fun g => (st g).toInt = 2) (q + 1)) = (nI ((cntP (fun g => (st g).toInt = 2) q) + 0) : Int32) := by first | exact congrArg nI (cntP_y (P := fun g => (st g).toInt = 2) (show (st q).toInt = 2 by omega)) | exact congrArg nI (cntP_n0 (P := fun g => (st g).toInt = 2) (show ¬ (st q).toInt = 2 by omega))
                have e9_4 : nI (cntP (fun g => ¬ (tn g).toInt = 0) (q + 1)) = (nI ((cntP (fun g => ¬ (tn g).toInt = 0) q) + 0) : Int32) := by first | exact congrArg nI (cntP_y (P := fun g => ¬ (tn g).toInt = 0) (show ¬ (tn q).toInt = 0 by omega)) | exact congrArg nI (cntP_n0 (P := fun g => ¬ (tn g).toInt = 0) (show ¬ ¬ (tn q).toInt = 0 by omega))
                have e9_5 : nI (smP (lvF ft st tn) (fun g => nN (mn g)) (q + 1)) = (nI ((smP (lvF ft st tn) (fun g => nN (mn g)) q) + 0) : Int32) := by first | exact congrArg nI (smP_y (P := lvF ft st tn) (by first | with_reducible assumption | assumption)) | exact congrArg nI (smP_n (P := lvF ft st tn) (by first | with_reducible assumption | assumption))
                have hl9 : lv_has ls 7 [(6, .int (nI (q + 1))), (5, .int (nI (smP (lvF ft st tn) (fun g => nN (mn g)) (q + 1)))), (4, .int (nI (cntP (fun g => ¬ (tn g).toInt = 0) (q + 1)))), (3, .int (nI (cntP (fun g => (st g).toInt = 2) (q + 1)))), (2, .int (nI (cntP (fun g => (st g).toInt = 1) (q + 1)))), (0, .ref k0), (1, .int 0)] := by rw [e9_2]; rw [e9_3]; rw [e9_4]; rw [e9_5]; exact hl9
                exact ih_13 (q + 1) H locs ls (by first | with_reducible assumption | omega) (by first | with_reducible assumption | omega) hP hD hS hl9
              · have c_8 : q < ft ∧ (st q).toInt = 1 ∧ (tn q).toInt = 0 := zp_1 c_8
                refine lv_aload_n hx hb dX11_count_91 rfl (lv_at hl 5 rfl) ?_
                refine va_get (D := (dC, dI)) (ci := 9) (v := .ref (a 11)) (C := RX11) (T := TX11) (N := 55) hx hb hts inX11 hown hK hP 0 rfl rfl 11 (Nat.le_of_ble_eq_true rfl) (hts _ mw_1170) (fun _ h9 => h9) rfl dX11_count_92 ?_
                refine lv_iload hx hb dX11_count_95 (lv_at hl 3 rfl) ?_
                refine z_iald hx hb hK hP 3 0 rfl rfl (e := q) rfl b9_4 (Nat.le_of_ble_eq_true rfl) dX11_count_97 ?_
                refine zz_i (v := nI (nN (mn q))) ((hmw q (by first | with_reducible assumption | assumption)).1) ?_
                refine lv_goto (tgt := 102) hx hb dX11_count_98 rfl ?_
                refine lv_iadd hx hb dX11_count_102 ?_
                refine zz_i (v := nI ((smP (lvF ft st tn) (fun g => nN (mn g)) q) + (nN (mn q)))) (nI_add (smP (lvF ft st tn) (fun g => nN (mn g)) q) (nN (mn q))) ?_
                refine lv_istore (lv' := [(5, .int (nI ((smP (lvF ft st tn) (fun g => nN (mn g)) q) + (nN (mn q))))), (4, .int (nI ((cntP (fun g => ¬ (tn g).toInt = 0) q) + 0))), (3, .int (nI ((cntP (fun g => (st g).toInt = 2) q) + 0))), (2, .int (nI ((cntP (fun g => (st g).toInt = 1) q) + 0))), (6, .int (nI q)), (0, .ref k0), (1, .int 0)]) hx hb dX11_count_103 hl (Nat.le_of_ble_eq_true rfl) rfl (fun ls hl => ?_)
                refine lv_iinc (v := nI (q + 1)) (lv' := [(6, .int (nI (q + 1))), (5, .int (nI ((smP (lvF ft st tn) (fun g => nN (mn g)) q) + (nN (mn q))))), (4, .int (nI ((cntP (fun g => ¬ (tn g).toInt = 0) q) + 0))), (3, .int (nI ((cntP (fun g => (st g).toInt = 2) q) + 0))), (2, .int (nI ((cntP (fun g => (st g).toInt = 1) q) + 0))), (0, .ref k0), (1, .int 0)]) hx hb dX11_count_105 hl (k := 4) rfl (nI_add q 1) (Nat.le_of_ble_eq_true rfl) rfl (fun ls hl => ?_)
                refine lv_goto (tgt := 13) hx hb dX11_count_108 rfl ?_
                have hl9 := lv_sub hl [0, 1, 2, 3, 4, 5, 6] rfl
                have e9_2 : nI (cntP (fun g => (st g).toInt = 1) (q + 1)) = (nI ((cntP (fun g => (st g).toInt = 1) q) + 0) : Int32) := by first | exact congrArg nI (cntP_y (P := fun g => (st g).toInt = 1) (show (st q).toInt = 1 by omega)) | exact congrArg nI (cntP_n0 (P := fun g => (st g).toInt = 1) (show ¬ (st q).toInt = 1 by omega))
                have e9_3 : nI (cntP (fun g => (st g).toInt = 2) (q + 1)) = (nI ((cntP (fun g => (st g).toInt = 2) q) + 0) : Int32) := by first | exact congrArg nI (cntP_y (P := fun g => (st g).toInt = 2) (show (st q).toInt = 2 by omega)) | exact congrArg nI (cntP_n0 (P := fun g => (st g).toInt = 2) (show ¬ (st q).toInt = 2 by omega))
                have e9_4 : nI (cntP (fun g => ¬ (tn g).toInt = 0) (q + 1)) = (nI ((cntP (fun g => ¬ (tn g).toInt = 0) q) + 0) : Int32) := by first | exact congrArg nI (cntP_y (P := fun g => ¬ (tn g).toInt = 0) (show ¬ (tn q).toInt = 0 by omega)) | exact congrArg nI (cntP_n0 (P := fun g => ¬ (tn g).toInt = 0) (show ¬ ¬ (tn q).toInt = 0 by omega))
                have e9_5 : nI (smP (lvF ft st tn) (fun g => nN (mn g)) (q + 1)) = (nI ((smP (lvF ft st tn) (fun g => nN (mn g)) q) + (nN (mn q))) : Int32) := by first | exact congrArg nI (smP_y (P := lvF ft st tn) (by first | with_reducible assumption | assumption)) | exact congrArg nI (smP_n (P := lvF ft st tn) (by first | with_reducible assumption | assumption))
                have hl9 : lv_has ls 7 [(6, .int (nI (q + 1))), (5, .int (nI (smP (lvF ft st tn) (fun g => nN (mn g)) (q + 1)))), (4, .int (nI (cntP (fun g => ¬ (tn g).toInt = 0) (q + 1)))), (3, .int (nI (cntP (fun g => (st g).toInt = 2) (q + 1)))), (2, .int (nI (cntP (fun g => (st g).toInt = 1) (q + 1)))), (0, .ref k0), (1, .int 0)] := by rw [e9_2]; rw [e9_3]; rw [e9_4]; rw [e9_5]; exact hl9
                exact ih_13 (q + 1) H locs ls (by first | with_reducible assumption | omega) (by first | with_reducible assumption | omega) hP hD hS hl9
            · have c_7 : ¬ (tn q).toInt = 0 := zc_ne rfl rfl c_7
              refine lv_iconst (v := 1) hx hb dX11_count_72 rfl ?_
              refine lv_goto (tgt := 77) hx hb dX11_count_73 rfl ?_
              refine lv_iadd hx hb dX11_count_77 ?_
              refine zz_i (v := nI ((cntP (fun g => ¬ (tn g).toInt = 0) q) + 1)) (nI_add (cntP (fun g => ¬ (tn g).toInt = 0) q) 1) ?_
              refine lv_istore (lv' := [(4, .int (nI ((cntP (fun g => ¬ (tn g).toInt = 0) q) + 1))), (3, .int (nI ((cntP (fun g => (st g).toInt = 2) q) + 0))), (2, .int (nI ((cntP (fun g => (st g).toInt = 1) q) + 0))), (6, .int (nI q)), (5, .int (nI (smP (lvF ft st tn) (fun g => nN (mn g)) q))), (0, .ref k0), (1, .int 0)]) hx hb dX11_count_78 hl (Nat.le_of_ble_eq_true rfl) rfl (fun ls hl => ?_)
              refine lv_iload hx hb dX11_count_80 (lv_at hl 4 rfl) ?_
              refine lv_aload_n hx hb dX11_count_82 rfl (lv_at hl 5 rfl) ?_
              refine lv_iload hx hb dX11_count_83 (lv_at hl 3 rfl) ?_
              obtain ⟨hPc, hDc, hFc, hI1⟩ := zi_sub (wc := [_, _, _]) hP hD hS hA [0, 1, 2] rfl rfl
              refine zcall (st1 := [.int (pI (q < ft ∧ (st q).toInt = 1 ∧ (tn q).toInt = 0)), .int (nI (smP (lvF ft st tn) (fun g => nN (mn g)) q))]) (va_runV (As := [.int (nI q)]) (rest := [.int (nI (smP (lvF ft st tn) (fun g => nN (mn g)) q))]) ⟨hx, hb, hml, hown, hts⟩ (k_M_is_n l dC dI cI cZ cF H.size k0 a I0 J0 q ft st tn (by first | with_reducible assumption | assumption) (by first | with_reducible assumption | omega) (by first | with_reducible assumption | omega)) (csV_179 hts rfl rfl ⟨Nat.le_of_ble_eq_true rfl, Nat.le_of_ble_eq_true rfl⟩) (zPV2 (q0 := 0) (ci := 9) hPc hDc hK hXN rfl rfl) rfl rfl hl.1 rfl (lv_room (Nat.le_of_ble_eq_true rfl)) dX11_count_85 ⟨Nat.le_of_ble_eq_true rfl, Nat.le_of_ble_eq_true rfl⟩) hS hFc hFc rfl (fun t H locs ht hB hk1 hS => ?_)
              obtain ⟨hP1, hD1⟩ := hB
              rw [ht] at hP1
              replace hP := z0 hP hD hk1 hP1 hI1
              clear hk1 hPc hDc hFc hP1 hD1 ht hI1
              refine lv_if_eq (tgt := 101) hx hb dX11_count_88 rfl (fun c_9 => ?_) (fun c_9 => ?_)
              · have c_9 : ¬ (q < ft ∧ (st q).toInt = 1 ∧ (tn q).toInt = 0) := zp_0 c_9
                refine lv_iconst (v := 0) hx hb dX11_count_101 rfl ?_
                refine lv_iadd hx hb dX11_count_102 ?_
                refine zz_i (v := nI ((smP (lvF ft st tn) (fun g => nN (mn g)) q) + 0)) (nI_add (smP (lvF ft st tn) (fun g => nN (mn g)) q) 0) ?_
                refine lv_istore (lv' := [(5, .int (nI ((smP (lvF ft st tn) (fun g => nN (mn g)) q) + 0))), (4, .int (nI ((cntP (fun g => ¬ (tn g).toInt = 0) q) + 1))), (3, .int (nI ((cntP (fun g => (st g).toInt = 2) q) + 0))), (2, .int (nI ((cntP (fun g => (st g).toInt = 1) q) + 0))), (6, .int (nI q)), (0, .ref k0), (1, .int 0)]) hx hb dX11_count_103 hl (Nat.le_of_ble_eq_true rfl) rfl (fun ls hl => ?_)
                refine lv_iinc (v := nI (q + 1)) (lv' := [(6, .int (nI (q + 1))), (5, .int (nI ((smP (lvF ft st tn) (fun g => nN (mn g)) q) + 0))), (4, .int (nI ((cntP (fun g => ¬ (tn g).toInt = 0) q) + 1))), (3, .int (nI ((cntP (fun g => (st g).toInt = 2) q) + 0))), (2, .int (nI ((cntP (fun g => (st g).toInt = 1) q) + 0))), (0, .ref k0), (1, .int 0)]) hx hb dX11_count_105 hl (k := 4) rfl (nI_add q 1) (Nat.le_of_ble_eq_true rfl) rfl (fun ls hl => ?_)
                refine lv_goto (tgt := 13) hx hb dX11_count_108 rfl ?_
                have hl9 := lv_sub hl [0, 1, 2, 3, 4, 5, 6] rfl
                have e9_2 : nI (cntP (fun g => (st g).toInt = 1) (q + 1)) = (nI ((cntP (fun g => (st g).toInt = 1) q) + 0) : Int32) := by first | exact congrArg nI (cntP_y (P := fun g => (st g).toInt = 1) (show (st q).toInt = 1 by omega)) | exact congrArg nI (cntP_n0 (P := fun g => (st g).toInt = 1) (show ¬ (st q).toInt = 1 by omega))
                have e9_3 : nI (cntP (fun g => (st g).toInt = 2) (q + 1)) = (nI ((cntP (fun g => (st g).toInt = 2) q) + 0) : Int32) := by first | exact congrArg nI (cntP_y (P := fun g => (st g).toInt = 2) (show (st q).toInt = 2 by omega)) | exact congrArg nI (cntP_n0 (P := fun g => (st g).toInt = 2) (show ¬ (st q).toInt = 2 by omega))
                have e9_4 : nI (cntP (fun g => ¬ (tn g).toInt = 0) (q + 1)) = (nI ((cntP (fun g => ¬ (tn g).toInt = 0) q) + 1) : Int32) := by first | exact congrArg nI (cntP_y (P := fun g => ¬ (tn g).toInt = 0) (show ¬ (tn q).toInt = 0 by omega)) | exact congrArg nI (cntP_n0 (P := fun g => ¬ (tn g).toInt = 0) (show ¬ ¬ (tn q).toInt = 0 by omega))
                have e9_5 : nI (smP (lvF ft st tn) (fun g => nN (mn g)) (q + 1)) = (nI ((smP (lvF ft st tn) (fun g => nN (mn g)) q) + 0) : Int32) := by first | exact congrArg nI (smP_y (P := lvF ft st tn) (by first | with_reducible assumption | assumption)) | exact congrArg nI (smP_n (P := lvF ft st tn) (by first | with_reducible assumption | assumption))
                have hl9 : lv_has ls 7 [(6, .int (nI (q + 1))), (5, .int (nI (smP (lvF ft st tn) (fun g => nN (mn g)) (q + 1)))), (4, .int (nI (cntP (fun g => ¬ (tn g).toInt = 0) (q + 1)))), (3, .int (nI (cntP (fun g => (st g).toInt = 2) (q + 1)))), (2, .int (nI (cntP (fun g => (st g).toInt = 1) (q + 1)))), (0, .ref k0), (1, .int 0)] := by rw [e9_2]; rw [e9_3]; rw [e9_4]; rw [e9_5]; exact hl9
                exact ih_13 (q + 1) H locs ls (by first | with_reducible assumption | omega) (by first | with_reducible assumption | omega) hP hD hS hl9
              · have c_9 : q < ft ∧ (st q).toInt = 1 ∧ (tn q).toInt = 0 := zp_1 c_9
                refine lv_aload_n hx hb dX11_count_91 rfl (lv_at hl 5 rfl) ?_
                refine va_get (D := (dC, dI)) (ci := 9) (v := .ref (a 11)) (C := RX11) (T := TX11) (N := 55) hx hb hts inX11 hown hK hP 0 rfl rfl 11 (Nat.le_of_ble_eq_true rfl) (hts _ mw_1170) (fun _ h9 => h9) rfl dX11_count_92 ?_
                refine lv_iload hx hb dX11_count_95 (lv_at hl 3 rfl) ?_
                refine z_iald hx hb hK hP 3 0 rfl rfl (e := q) rfl b9_4 (Nat.le_of_ble_eq_true rfl) dX11_count_97 ?_
                refine zz_i (v := nI (nN (mn q))) ((hmw q (by first | with_reducible assumption | assumption)).1) ?_
                refine lv_goto (tgt := 102) hx hb dX11_count_98 rfl ?_
                refine lv_iadd hx hb dX11_count_102 ?_
                refine zz_i (v := nI ((smP (lvF ft st tn) (fun g => nN (mn g)) q) + (nN (mn q)))) (nI_add (smP (lvF ft st tn) (fun g => nN (mn g)) q) (nN (mn q))) ?_
                refine lv_istore (lv' := [(5, .int (nI ((smP (lvF ft st tn) (fun g => nN (mn g)) q) + (nN (mn q))))), (4, .int (nI ((cntP (fun g => ¬ (tn g).toInt = 0) q) + 1))), (3, .int (nI ((cntP (fun g => (st g).toInt = 2) q) + 0))), (2, .int (nI ((cntP (fun g => (st g).toInt = 1) q) + 0))), (6, .int (nI q)), (0, .ref k0), (1, .int 0)]) hx hb dX11_count_103 hl (Nat.le_of_ble_eq_true rfl) rfl (fun ls hl => ?_)
                refine lv_iinc (v := nI (q + 1)) (lv' := [(6, .int (nI (q + 1))), (5, .int (nI ((smP (lvF ft st tn) (fun g => nN (mn g)) q) + (nN (mn q))))), (4, .int (nI ((cntP (fun g => ¬ (tn g).toInt = 0) q) + 1))), (3, .int (nI ((cntP (fun g => (st g).toInt = 2) q) + 0))), (2, .int (nI ((cntP (fun g => (st g).toInt = 1) q) + 0))), (0, .ref k0), (1, .int 0)]) hx hb dX11_count_105 hl (k := 4) rfl (nI_add q 1) (Nat.le_of_ble_eq_true rfl) rfl (fun ls hl => ?_)
                refine lv_goto (tgt := 13) hx hb dX11_count_108 rfl ?_
                have hl9 := lv_sub hl [0, 1, 2, 3, 4, 5, 6] rfl
                have e9_2 : nI (cntP (fun g => (st g).toInt = 1) (q + 1)) = (nI ((cntP (fun g => (st g).toInt = 1) q) + 0) : Int32) := by first | exact congrArg nI (cntP_y (P := fun g => (st g).toInt = 1) (show (st q).toInt = 1 by omega)) | exact congrArg nI (cntP_n0 (P := fun g => (st g).toInt = 1) (show ¬ (st q).toInt = 1 by omega))
                have e9_3 : nI (cntP (fun g => (st g).toInt = 2) (q + 1)) = (nI ((cntP (fun g => (st g).toInt = 2) q) + 0) : Int32) := by first | exact congrArg nI (cntP_y (P := fun g => (st g).toInt = 2) (show (st q).toInt = 2 by omega)) | exact congrArg nI (cntP_n0 (P := fun g => (st g).toInt = 2) (show ¬ (st q).toInt = 2 by omega))
                have e9_4 : nI (cntP (fun g => ¬ (tn g).toInt = 0) (q + 1)) = (nI ((cntP (fun g => ¬ (tn g).toInt = 0) q) + 1) : Int32) := by first | exact congrArg nI (cntP_y (P := fun g => ¬ (tn g).toInt = 0) (show ¬ (tn q).toInt = 0 by omega)) | exact congrArg nI (cntP_n0 (P := fun g => ¬ (tn g).toInt = 0) (show ¬ ¬ (tn q).toInt = 0 by omega))
                have e9_5 : nI (smP (lvF ft st tn) (fun g => nN (mn g)) (q + 1)) = (nI ((smP (lvF ft st tn) (fun g => nN (mn g)) q) + (nN (mn q))) : Int32) := by first | exact congrArg nI (smP_y (P := lvF ft st tn) (by first | with_reducible assumption | assumption)) | exact congrArg nI (smP_n (P := lvF ft st tn) (by first | with_reducible assumption | assumption))
                have hl9 : lv_has ls 7 [(6, .int (nI (q + 1))), (5, .int (nI (smP (lvF ft st tn) (fun g => nN (mn g)) (q + 1)))), (4, .int (nI (cntP (fun g => ¬ (tn g).toInt = 0) (q + 1)))), (3, .int (nI (cntP (fun g => (st g).toInt = 2) (q + 1)))), (2, .int (nI (cntP (fun g => (st g).toInt = 1) (q + 1)))), (0, .ref k0), (1, .int 0)] := by rw [e9_2]; rw [e9_3]; rw [e9_4]; rw [e9_5]; exact hl9
                exact ih_13 (q + 1) H locs ls (by first | with_reducible assumption | omega) (by first | with_reducible assumption | omega) hP hD hS hl9
          · have c_6 : (st q).toInt = 2 := zc_eq rfl rfl c_6
            refine lv_iconst (v := 1) hx hb dX11_count_53 rfl ?_
            refine lv_goto (tgt := 58) hx hb dX11_count_54 rfl ?_
            refine lv_iadd hx hb dX11_count_58 ?_
            refine zz_i (v := nI ((cntP (fun g => (st g).toInt = 2) q) + 1)) (nI_add (cntP (fun g => (st g).toInt = 2) q) 1) ?_
            refine lv_istore_n (lv' := [(3, .int (nI ((cntP (fun g => (st g).toInt = 2) q) + 1))), (2, .int (nI ((cntP (fun g => (st g).toInt = 1) q) + 0))), (6, .int (nI q)), (5, .int (nI (smP (lvF ft st tn) (fun g => nN (mn g)) q))), (4, .int (nI (cntP (fun g => ¬ (tn g).toInt = 0) q))), (0, .ref k0), (1, .int 0)]) hx hb dX11_count_59 rfl hl (Nat.le_of_ble_eq_true rfl) rfl (fun ls hl => ?_)
            refine lv_iload hx hb dX11_count_60 (lv_at hl 4 rfl) ?_
            refine lv_aload_n hx hb dX11_count_62 rfl (lv_at hl 5 rfl) ?_
            refine va_get (D := (dC, dI)) (ci := 9) (v := .ref (a 6)) (C := RX11) (T := TX11) (N := 55) hx hb hts inX11 hown hK hP 0 rfl rfl 6 (Nat.le_of_ble_eq_true rfl) (hts _ mw_1165) (fun _ h9 => h9) rfl dX11_count_63 ?_
            refine lv_iload hx hb dX11_count_66 (lv_at hl 2 rfl) ?_
            refine z_zald hx hb hK hP 2 1 rfl rfl (e := q) rfl b9_4 (Nat.le_of_ble_eq_true rfl) dX11_count_68 ?_
            refine lv_if_eq (tgt := 76) hx hb dX11_count_69 rfl (fun c_10 => ?_) (fun c_10 => ?_)
            · have c_10 : (tn q).toInt = 0 := zc_eq rfl rfl c_10
              refine lv_iconst (v := 0) hx hb dX11_count_76 rfl ?_
              refine lv_iadd hx hb dX11_count_77 ?_
              refine zz_i (v := nI ((cntP (fun g => ¬ (tn g).toInt = 0) q) + 0)) (nI_add (cntP (fun g => ¬ (tn g).toInt = 0) q) 0) ?_
              refine lv_istore (lv' := [(4, .int (nI ((cntP (fun g => ¬ (tn g).toInt = 0) q) + 0))), (3, .int (nI ((cntP (fun g => (st g).toInt = 2) q) + 1))), (2, .int (nI ((cntP (fun g => (st g).toInt = 1) q) + 0))), (6, .int (nI q)), (5, .int (nI (smP (lvF ft st tn) (fun g => nN (mn g)) q))), (0, .ref k0), (1, .int 0)]) hx hb dX11_count_78 hl (Nat.le_of_ble_eq_true rfl) rfl (fun ls hl => ?_)
              refine lv_iload hx hb dX11_count_80 (lv_at hl 4 rfl) ?_
              refine lv_aload_n hx hb dX11_count_82 rfl (lv_at hl 5 rfl) ?_
              refine lv_iload hx hb dX11_count_83 (lv_at hl 3 rfl) ?_
              obtain ⟨hPc, hDc, hFc, hI1⟩ := zi_sub (wc := [_, _, _]) hP hD hS hA [0, 1, 2] rfl rfl
              refine zcall (st1 := [.int (pI (q < ft ∧ (st q).toInt = 1 ∧ (tn q).toInt = 0)), .int (nI (smP (lvF ft st tn) (fun g => nN (mn g)) q))]) (va_runV (As := [.int (nI q)]) (rest := [.int (nI (smP (lvF ft st tn) (fun g => nN (mn g)) q))]) ⟨hx, hb, hml, hown, hts⟩ (k_M_is_n l dC dI cI cZ cF H.size k0 a I0 J0 q ft st tn (by first | with_reducible assumption | assumption) (by first | with_reducible assumption | omega) (by first | with_reducible assumption | omega)) (csV_179 hts rfl rfl ⟨Nat.le_of_ble_eq_true rfl, Nat.le_of_ble_eq_true rfl⟩) (zPV2 (q0 := 0) (ci := 9) hPc hDc hK hXN rfl rfl) rfl rfl hl.1 rfl (lv_room (Nat.le_of_ble_eq_true rfl)) dX11_count_85 ⟨Nat.le_of_ble_eq_true rfl, Nat.le_of_ble_eq_true rfl⟩) hS hFc hFc rfl (fun t H locs ht hB hk1 hS => ?_)
              obtain ⟨hP1, hD1⟩ := hB
              rw [ht] at hP1
              replace hP := z0 hP hD hk1 hP1 hI1
              clear hk1 hPc hDc hFc hP1 hD1 ht hI1
              refine lv_if_eq (tgt := 101) hx hb dX11_count_88 rfl (fun c_11 => ?_) (fun c_11 => ?_)
              · have c_11 : ¬ (q < ft ∧ (st q).toInt = 1 ∧ (tn q).toInt = 0) := zp_0 c_11
                refine lv_iconst (v := 0) hx hb dX11_count_101 rfl ?_
                refine lv_iadd hx hb dX11_count_102 ?_
                refine zz_i (v := nI ((smP (lvF ft st tn) (fun g => nN (mn g)) q) + 0)) (nI_add (smP (lvF ft st tn) (fun g => nN (mn g)) q) 0) ?_
                refine lv_istore (lv' := [(5, .int (nI ((smP (lvF ft st tn) (fun g => nN (mn g)) q) + 0))), (4, .int (nI ((cntP (fun g => ¬ (tn g).toInt = 0) q) + 0))), (3, .int (nI ((cntP (fun g => (st g).toInt = 2) q) + 1))), (2, .int (nI ((cntP (fun g => (st g).toInt = 1) q) + 0))), (6, .int (nI q)), (0, .ref k0), (1, .int 0)]) hx hb dX11_count_103 hl (Nat.le_of_ble_eq_true rfl) rfl (fun ls hl => ?_)
                refine lv_iinc (v := nI (q + 1)) (lv' := [(6, .int (nI (q + 1))), (5, .int (nI ((smP (lvF ft st tn) (fun g => nN (mn g)) q) + 0))), (4, .int (nI ((cntP (fun g => ¬ (tn g).toInt = 0) q) + 0))), (3, .int (nI ((cntP (fun g => (st g).toInt = 2) q) + 1))), (2, .int (nI ((cntP (fun g => (st g).toInt = 1) q) + 0))), (0, .ref k0), (1, .int 0)]) hx hb dX11_count_105 hl (k := 4) rfl (nI_add q 1) (Nat.le_of_ble_eq_true rfl) rfl (fun ls hl => ?_)
                refine lv_goto (tgt := 13) hx hb dX11_count_108 rfl ?_
                have hl9 := lv_sub hl [0, 1, 2, 3, 4, 5, 6] rfl
                have e9_2 : nI (cntP (fun g => (st g).toInt = 1) (q + 1)) = (nI ((cntP (fun g => (st g).toInt = 1) q) + 0) : Int32) := by first | exact congrArg nI (cntP_y (P := fun g => (st g).toInt = 1) (show (st q).toInt = 1 by omega)) | exact congrArg nI (cntP_n0 (P := fun g => (st g).toInt = 1) (show ¬ (st q).toInt = 1 by omega))
                have e9_3 : nI (cntP (fun g => (st g).toInt = 2) (q + 1)) = (nI ((cntP (fun g => (st g).toInt = 2) q) + 1) : Int32) := by first | exact congrArg nI (cntP_y (P := fun g => (st g).toInt = 2) (show (st q).toInt = 2 by omega)) | exact congrArg nI (cntP_n0 (P := fun g => (st g).toInt = 2) (show ¬ (st q).toInt = 2 by omega))
                have e9_4 : nI (cntP (fun g => ¬ (tn g).toInt = 0) (q + 1)) = (nI ((cntP (fun g => ¬ (tn g).toInt = 0) q) + 0) : Int32) := by first | exact congrArg nI (cntP_y (P := fun g => ¬ (tn g).toInt = 0) (show ¬ (tn q).toInt = 0 by omega)) | exact congrArg nI (cntP_n0 (P := fun g => ¬ (tn g).toInt = 0) (show ¬ ¬ (tn q).toInt = 0 by omega))
                have e9_5 : nI (smP (lvF ft st tn) (fun g => nN (mn g)) (q + 1)) = (nI ((smP (lvF ft st tn) (fun g => nN (mn g)) q) + 0) : Int32) := by first | exact congrArg nI (smP_y (P := lvF ft st tn) (by first | with_reducible assumption | assumption)) | exact congrArg nI (smP_n (P := lvF ft st tn) (by first | with_reducible assumption | assumption))
                have hl9 : lv_has ls 7 [(6, .int (nI (q + 1))), (5, .int (nI (smP (lvF ft st tn) (fun g => nN (mn g)) (q + 1)))), (4, .int (nI (cntP (fun g => ¬ (tn g).toInt = 0) (q + 1)))), (3, .int (nI (cntP (fun g => (st g).toInt = 2) (q + 1)))), (2, .int (nI (cntP (fun g => (st g).toInt = 1) (q + 1)))), (0, .ref k0), (1, .int 0)] := by rw [e9_2]; rw [e9_3]; rw [e9_4]; rw [e9_5]; exact hl9
                exact ih_13 (q + 1) H locs ls (by first | with_reducible assumption | omega) (by first | with_reducible assumption | omega) hP hD hS hl9
              · have c_11 : q < ft ∧ (st q).toInt = 1 ∧ (tn q).toInt = 0 := zp_1 c_11
                refine lv_aload_n hx hb dX11_count_91 rfl (lv_at hl 5 rfl) ?_
                refine va_get (D := (dC, dI)) (ci := 9) (v := .ref (a 11)) (C := RX11) (T := TX11) (N := 55) hx hb hts inX11 hown hK hP 0 rfl rfl 11 (Nat.le_of_ble_eq_true rfl) (hts _ mw_1170) (fun _ h9 => h9) rfl dX11_count_92 ?_
                refine lv_iload hx hb dX11_count_95 (lv_at hl 3 rfl) ?_
                refine z_iald hx hb hK hP 3 0 rfl rfl (e := q) rfl b9_4 (Nat.le_of_ble_eq_true rfl) dX11_count_97 ?_
                refine zz_i (v := nI (nN (mn q))) ((hmw q (by first | with_reducible assumption | assumption)).1) ?_
                refine lv_goto (tgt := 102) hx hb dX11_count_98 rfl ?_
                refine lv_iadd hx hb dX11_count_102 ?_
                refine zz_i (v := nI ((smP (lvF ft st tn) (fun g => nN (mn g)) q) + (nN (mn q)))) (nI_add (smP (lvF ft st tn) (fun g => nN (mn g)) q) (nN (mn q))) ?_
                refine lv_istore (lv' := [(5, .int (nI ((smP (lvF ft st tn) (fun g => nN (mn g)) q) + (nN (mn q))))), (4, .int (nI ((cntP (fun g => ¬ (tn g).toInt = 0) q) + 0))), (3, .int (nI ((cntP (fun g => (st g).toInt = 2) q) + 1))), (2, .int (nI ((cntP (fun g => (st g).toInt = 1) q) + 0))), (6, .int (nI q)), (0, .ref k0), (1, .int 0)]) hx hb dX11_count_103 hl (Nat.le_of_ble_eq_true rfl) rfl (fun ls hl => ?_)
                refine lv_iinc (v := nI (q + 1)) (lv' := [(6, .int (nI (q + 1))), (5, .int (nI ((smP (lvF ft st tn) (fun g => nN (mn g)) q) + (nN (mn q))))), (4, .int (nI ((cntP (fun g => ¬ (tn g).toInt = 0) q) + 0))), (3, .int (nI ((cntP (fun g => (st g).toInt = 2) q) + 1))), (2, .int (nI ((cntP (fun g => (st g).toInt = 1) q) + 0))), (0, .ref k0), (1, .int 0)]) hx hb dX11_count_105 hl (k := 4) rfl (nI_add q 1) (Nat.le_of_ble_eq_true rfl) rfl (fun ls hl => ?_)
                refine lv_goto (tgt := 13) hx hb dX11_count_108 rfl ?_
                have hl9 := lv_sub hl [0, 1, 2, 3, 4, 5, 6] rfl
                have e9_2 : nI (cntP (fun g => (st g).toInt = 1) (q + 1)) = (nI ((cntP (fun g => (st g).toInt = 1) q) + 0) : Int32) := by first | exact congrArg nI (cntP_y (P := fun g => (st g).toInt = 1) (show (st q).toInt = 1 by omega)) | exact congrArg nI (cntP_n0 (P := fun g => (st g).toInt = 1) (show ¬ (st q).toInt = 1 by omega))
                have e9_3 : nI (cntP (fun g => (st g).toInt = 2) (q + 1)) = (nI ((cntP (fun g => (st g).toInt = 2) q) + 1) : Int32) := by first | exact congrArg nI (cntP_y (P := fun g => (st g).toInt = 2) (show (st q).toInt = 2 by omega)) | exact congrArg nI (cntP_n0 (P := fun g => (st g).toInt = 2) (show ¬ (st q).toInt = 2 by omega))
                have e9_4 : nI (cntP (fun g => ¬ (tn g).toInt = 0) (q + 1)) = (nI ((cntP (fun g => ¬ (tn g).toInt = 0) q) + 0) : Int32) := by first | exact congrArg nI (cntP_y (P := fun g => ¬ (tn g).toInt = 0) (show ¬ (tn q).toInt = 0 by omega)) | exact congrArg nI (cntP_n0 (P := fun g => ¬ (tn g).toInt = 0) (show ¬ ¬ (tn q).toInt = 0 by omega))
                have e9_5 : nI (smP (lvF ft st tn) (fun g => nN (mn g)) (q + 1)) = (nI ((smP (lvF ft st tn) (fun g => nN (mn g)) q) + (nN (mn q))) : Int32) := by first | exact congrArg nI (smP_y (P := lvF ft st tn) (by first | with_reducible assumption | assumption)) | exact congrArg nI (smP_n (P := lvF ft st tn) (by first | with_reducible assumption | assumption))
                have hl9 : lv_has ls 7 [(6, .int (nI (q + 1))), (5, .int (nI (smP (lvF ft st tn) (fun g => nN (mn g)) (q + 1)))), (4, .int (nI (cntP (fun g => ¬ (tn g).toInt = 0) (q + 1)))), (3, .int (nI (cntP (fun g => (st g).toInt = 2) (q + 1)))), (2, .int (nI (cntP (fun g => (st g).toInt = 1) (q + 1)))), (0, .ref k0), (1, .int 0)] := by rw [e9_2]; rw [e9_3]; rw [e9_4]; rw [e9_5]; exact hl9
                exact ih_13 (q + 1) H locs ls (by first | with_reducible assumption | omega) (by first | with_reducible assumption | omega) hP hD hS hl9
            · have c_10 : ¬ (tn q).toInt = 0 := zc_ne rfl rfl c_10
              refine lv_iconst (v := 1) hx hb dX11_count_72 rfl ?_
              refine lv_goto (tgt := 77) hx hb dX11_count_73 rfl ?_
              refine lv_iadd hx hb dX11_count_77 ?_
              refine zz_i (v := nI ((cntP (fun g => ¬ (tn g).toInt = 0) q) + 1)) (nI_add (cntP (fun g => ¬ (tn g).toInt = 0) q) 1) ?_
              refine lv_istore (lv' := [(4, .int (nI ((cntP (fun g => ¬ (tn g).toInt = 0) q) + 1))), (3, .int (nI ((cntP (fun g => (st g).toInt = 2) q) + 1))), (2, .int (nI ((cntP (fun g => (st g).toInt = 1) q) + 0))), (6, .int (nI q)), (5, .int (nI (smP (lvF ft st tn) (fun g => nN (mn g)) q))), (0, .ref k0), (1, .int 0)]) hx hb dX11_count_78 hl (Nat.le_of_ble_eq_true rfl) rfl (fun ls hl => ?_)
              refine lv_iload hx hb dX11_count_80 (lv_at hl 4 rfl) ?_
              refine lv_aload_n hx hb dX11_count_82 rfl (lv_at hl 5 rfl) ?_
              refine lv_iload hx hb dX11_count_83 (lv_at hl 3 rfl) ?_
              obtain ⟨hPc, hDc, hFc, hI1⟩ := zi_sub (wc := [_, _, _]) hP hD hS hA [0, 1, 2] rfl rfl
              refine zcall (st1 := [.int (pI (q < ft ∧ (st q).toInt = 1 ∧ (tn q).toInt = 0)), .int (nI (smP (lvF ft st tn) (fun g => nN (mn g)) q))]) (va_runV (As := [.int (nI q)]) (rest := [.int (nI (smP (lvF ft st tn) (fun g => nN (mn g)) q))]) ⟨hx, hb, hml, hown, hts⟩ (k_M_is_n l dC dI cI cZ cF H.size k0 a I0 J0 q ft st tn (by first | with_reducible assumption | assumption) (by first | with_reducible assumption | omega) (by first | with_reducible assumption | omega)) (csV_179 hts rfl rfl ⟨Nat.le_of_ble_eq_true rfl, Nat.le_of_ble_eq_true rfl⟩) (zPV2 (q0 := 0) (ci := 9) hPc hDc hK hXN rfl rfl) rfl rfl hl.1 rfl (lv_room (Nat.le_of_ble_eq_true rfl)) dX11_count_85 ⟨Nat.le_of_ble_eq_true rfl, Nat.le_of_ble_eq_true rfl⟩) hS hFc hFc rfl (fun t H locs ht hB hk1 hS => ?_)
              obtain ⟨hP1, hD1⟩ := hB
              rw [ht] at hP1
              replace hP := z0 hP hD hk1 hP1 hI1
              clear hk1 hPc hDc hFc hP1 hD1 ht hI1
              refine lv_if_eq (tgt := 101) hx hb dX11_count_88 rfl (fun c_12 => ?_) (fun c_12 => ?_)
              · have c_12 : ¬ (q < ft ∧ (st q).toInt = 1 ∧ (tn q).toInt = 0) := zp_0 c_12
                refine lv_iconst (v := 0) hx hb dX11_count_101 rfl ?_
                refine lv_iadd hx hb dX11_count_102 ?_
                refine zz_i (v := nI ((smP (lvF ft st tn) (fun g => nN (mn g)) q) + 0)) (nI_add (smP (lvF ft st tn) (fun g => nN (mn g)) q) 0) ?_
                refine lv_istore (lv' := [(5, .int (nI ((smP (lvF ft st tn) (fun g => nN (mn g)) q) + 0))), (4, .int (nI ((cntP (fun g => ¬ (tn g).toInt = 0) q) + 1))), (3, .int (nI ((cntP (fun g => (st g).toInt = 2) q) + 1))), (2, .int (nI ((cntP (fun g => (st g).toInt = 1) q) + 0))), (6, .int (nI q)), (0, .ref k0), (1, .int 0)]) hx hb dX11_count_103 hl (Nat.le_of_ble_eq_true rfl) rfl (fun ls hl => ?_)
                refine lv_iinc (v := nI (q + 1)) (lv' := [(6, .int (nI (q + 1))), (5, .int (nI ((smP (lvF ft st tn) (fun g => nN (mn g)) q) + 0))), (4, .int (nI ((cntP (fun g => ¬ (tn g).toInt = 0) q) + 1))), (3, .int (nI ((cntP (fun g => (st g).toInt = 2) q) + 1))), (2, .int (nI ((cntP (fun g => (st g).toInt = 1) q) + 0))), (0, .ref k0), (1, .int 0)]) hx hb dX11_count_105 hl (k := 4) rfl (nI_add q 1) (Nat.le_of_ble_eq_true rfl) rfl (fun ls hl => ?_)
                refine lv_goto (tgt := 13) hx hb dX11_count_108 rfl ?_
                have hl9 := lv_sub hl [0, 1, 2, 3, 4, 5, 6] rfl
                have e9_2 : nI (cntP (fun g => (st g).toInt = 1) (q + 1)) = (nI ((cntP (fun g => (st g).toInt = 1) q) + 0) : Int32) := by first | exact congrArg nI (cntP_y (P := fun g => (st g).toInt = 1) (show (st q).toInt = 1 by omega)) | exact congrArg nI (cntP_n0 (P := fun g => (st g).toInt = 1) (show ¬ (st q).toInt = 1 by omega))
                have e9_3 : nI (cntP (fun g => (st g).toInt = 2) (q + 1)) = (nI ((cntP (fun g => (st g).toInt = 2) q) + 1) : Int32) := by first | exact congrArg nI (cntP_y (P := fun g => (st g).toInt = 2) (show (st q).toInt = 2 by omega)) | exact congrArg nI (cntP_n0 (P := fun g => (st g).toInt = 2) (show ¬ (st q).toInt = 2 by omega))
                have e9_4 : nI (cntP (fun g => ¬ (tn g).toInt = 0) (q + 1)) = (nI ((cntP (fun g => ¬ (tn g).toInt = 0) q) + 1) : Int32) := by first | exact congrArg nI (cntP_y (P := fun g => ¬ (tn g).toInt = 0) (show ¬ (tn q).toInt = 0 by omega)) | exact congrArg nI (cntP_n0 (P := fun g => ¬ (tn g).toInt = 0) (show ¬ ¬ (tn q).toInt = 0 by omega))
                have e9_5 : nI (smP (lvF ft st tn) (fun g => nN (mn g)) (q + 1)) = (nI ((smP (lvF ft st tn) (fun g => nN (mn g)) q) + 0) : Int32) := by first | exact congrArg nI (smP_y (P := lvF ft st tn) (by first | with_reducible assumption | assumption)) | exact congrArg nI (smP_n (P := lvF ft st tn) (by first | with_reducible assumption | assumption))
                have hl9 : lv_has ls 7 [(6, .int (nI (q + 1))), (5, .int (nI (smP (lvF ft st tn) (fun g => nN (mn g)) (q + 1)))), (4, .int (nI (cntP (fun g => ¬ (tn g).toInt = 0) (q + 1)))), (3, .int (nI (cntP (fun g => (st g).toInt = 2) (q + 1)))), (2, .int (nI (cntP (fun g => (st g).toInt = 1) (q + 1)))), (0, .ref k0), (1, .int 0)] := by rw [e9_2]; rw [e9_3]; rw [e9_4]; rw [e9_5]; exact hl9
                exact ih_13 (q + 1) H locs ls (by first | with_reducible assumption | omega) (by first | with_reducible assumption | omega) hP hD hS hl9
              · have c_12 : q < ft ∧ (st q).toInt = 1 ∧ (tn q).toInt = 0 := zp_1 c_12
                refine lv_aload_n hx hb dX11_count_91 rfl (lv_at hl 5 rfl) ?_
                refine va_get (D := (dC, dI)) (ci := 9) (v := .ref (a 11)) (C := RX11) (T := TX11) (N := 55) hx hb hts inX11 hown hK hP 0 rfl rfl 11 (Nat.le_of_ble_eq_true rfl) (hts _ mw_1170) (fun _ h9 => h9) rfl dX11_count_92 ?_
                refine lv_iload hx hb dX11_count_95 (lv_at hl 3 rfl) ?_
                refine z_iald hx hb hK hP 3 0 rfl rfl (e := q) rfl b9_4 (Nat.le_of_ble_eq_true rfl) dX11_count_97 ?_
                refine zz_i (v := nI (nN (mn q))) ((hmw q (by first | with_reducible assumption | assumption)).1) ?_
                refine lv_goto (tgt := 102) hx hb dX11_count_98 rfl ?_
                refine lv_iadd hx hb dX11_count_102 ?_
                refine zz_i (v := nI ((smP (lvF ft st tn) (fun g => nN (mn g)) q) + (nN (mn q)))) (nI_add (smP (lvF ft st tn) (fun g => nN (mn g)) q) (nN (mn q))) ?_
                refine lv_istore (lv' := [(5, .int (nI ((smP (lvF ft st tn) (fun g => nN (mn g)) q) + (nN (mn q))))), (4, .int (nI ((cntP (fun g => ¬ (tn g).toInt = 0) q) + 1))), (3, .int (nI ((cntP (fun g => (st g).toInt = 2) q) + 1))), (2, .int (nI ((cntP (fun g => (st g).toInt = 1) q) + 0))), (6, .int (nI q)), (0, .ref k0), (1, .int 0)]) hx hb dX11_count_103 hl (Nat.le_of_ble_eq_true rfl) rfl (fun ls hl => ?_)
                refine lv_iinc (v := nI (q + 1)) (lv' := [(6, .int (nI (q + 1))), (5, .int (nI ((smP (lvF ft st tn) (fun g => nN (mn g)) q) + (nN (mn q))))), (4, .int (nI ((cntP (fun g => ¬ (tn g).toInt = 0) q) + 1))), (3, .int (nI ((cntP (fun g => (st g).toInt = 2) q) + 1))), (2, .int (nI ((cntP (fun g => (st g).toInt = 1) q) + 0))), (0, .ref k0), (1, .int 0)]) hx hb dX11_count_105 hl (k := 4) rfl (nI_add q 1) (Nat.le_of_ble_eq_true rfl) rfl (fun ls hl => ?_)
                refine lv_goto (tgt := 13) hx hb dX11_count_108 rfl ?_
                have hl9 := lv_sub hl [0, 1, 2, 3, 4, 5, 6] rfl
                have e9_2 : nI (cntP (fun g => (st g).toInt = 1) (q + 1)) = (nI ((cntP (fun g => (st g).toInt = 1) q) + 0) : Int32) := by first | exact congrArg nI (cntP_y (P := fun g => (st g).toInt = 1) (show (st q).toInt = 1 by omega)) | exact congrArg nI (cntP_n0 (P := fun g => (st g).toInt = 1) (show ¬ (st q).toInt = 1 by omega))
                have e9_3 : nI (cntP (fun g => (st g).toInt = 2) (q + 1)) = (nI ((cntP (fun g => (st g).toInt = 2) q) + 1) : Int32) := by first | exact congrArg nI (cntP_y (P := fun g => (st g).toInt = 2) (show (st q).toInt = 2 by omega)) | exact congrArg nI (cntP_n0 (P := fun g => (st g).toInt = 2) (show ¬ (st q).toInt = 2 by omega))
                have e9_4 : nI (cntP (fun g => ¬ (tn g).toInt = 0) (q + 1)) = (nI ((cntP (fun g => ¬ (tn g).toInt = 0) q) + 1) : Int32) := by first | exact congrArg nI (cntP_y (P := fun g => ¬ (tn g).toInt = 0) (show ¬ (tn q).toInt = 0 by omega)) | exact congrArg nI (cntP_n0 (P := fun g => ¬ (tn g).toInt = 0) (show ¬ ¬ (tn q).toInt = 0 by omega))
                have e9_5 : nI (smP (lvF ft st tn) (fun g => nN (mn g)) (q + 1)) = (nI ((smP (lvF ft st tn) (fun g => nN (mn g)) q) + (nN (mn q))) : Int32) := by first | exact congrArg nI (smP_y (P := lvF ft st tn) (by first | with_reducible assumption | assumption)) | exact congrArg nI (smP_n (P := lvF ft st tn) (by first | with_reducible assumption | assumption))
                have hl9 : lv_has ls 7 [(6, .int (nI (q + 1))), (5, .int (nI (smP (lvF ft st tn) (fun g => nN (mn g)) (q + 1)))), (4, .int (nI (cntP (fun g => ¬ (tn g).toInt = 0) (q + 1)))), (3, .int (nI (cntP (fun g => (st g).toInt = 2) (q + 1)))), (2, .int (nI (cntP (fun g => (st g).toInt = 1) (q + 1)))), (0, .ref k0), (1, .int 0)] := by rw [e9_2]; rw [e9_3]; rw [e9_4]; rw [e9_5]; exact hl9
                exact ih_13 (q + 1) H locs ls (by first | with_reducible assumption | omega) (by first | with_reducible assumption | omega) hP hD hS hl9
        · have c_5 : (st q).toInt = 1 := zc_eq rfl rfl c_5
          refine lv_iconst (v := 1) hx hb dX11_count_34 rfl ?_
          refine lv_goto (tgt := 39) hx hb dX11_count_35 rfl ?_
          refine lv_iadd hx hb dX11_count_39 ?_
          refine zz_i (v := nI ((cntP (fun g => (st g).toInt = 1) q) + 1)) (nI_add (cntP (fun g => (st g).toInt = 1) q) 1) ?_
          refine lv_istore_n (lv' := [(2, .int (nI ((cntP (fun g => (st g).toInt = 1) q) + 1))), (6, .int (nI q)), (5, .int (nI (smP (lvF ft st tn) (fun g => nN (mn g)) q))), (4, .int (nI (cntP (fun g => ¬ (tn g).toInt = 0) q))), (3, .int (nI (cntP (fun g => (st g).toInt = 2) q))), (0, .ref k0), (1, .int 0)]) hx hb dX11_count_40 rfl hl (Nat.le_of_ble_eq_true rfl) rfl (fun ls hl => ?_)
          refine lv_iload_n hx hb dX11_count_41 rfl (lv_at hl 4 rfl) ?_
          refine lv_aload_n hx hb dX11_count_42 rfl (lv_at hl 5 rfl) ?_
          refine va_get (D := (dC, dI)) (ci := 9) (v := .ref (a 5)) (C := RX11) (T := TX11) (N := 55) hx hb hts inX11 hown hK hP 0 rfl rfl 5 (Nat.le_of_ble_eq_true rfl) (hts _ mw_1164) (fun _ h9 => h9) rfl dX11_count_43 ?_
          refine lv_iload hx hb dX11_count_46 (lv_at hl 1 rfl) ?_
          refine z_iald hx hb hK hP 1 0 rfl rfl (e := q) rfl b9_4 (Nat.le_of_ble_eq_true rfl) dX11_count_48 ?_
          refine lv_iconst (v := 2) hx hb dX11_count_49 rfl ?_
          refine lv_icmp_ne (tgt := 57) hx hb dX11_count_50 rfl (fun c_13 => ?_) (fun c_13 => ?_)
          · have c_13 : ¬ (st q).toInt = 2 := zc_ne rfl rfl c_13
            refine lv_iconst (v := 0) hx hb dX11_count_57 rfl ?_
            refine lv_iadd hx hb dX11_count_58 ?_
            refine zz_i (v := nI ((cntP (fun g => (st g).toInt = 2) q) + 0)) (nI_add (cntP (fun g => (st g).toInt = 2) q) 0) ?_
            refine lv_istore_n (lv' := [(3, .int (nI ((cntP (fun g => (st g).toInt = 2) q) + 0))), (2, .int (nI ((cntP (fun g => (st g).toInt = 1) q) + 1))), (6, .int (nI q)), (5, .int (nI (smP (lvF ft st tn) (fun g => nN (mn g)) q))), (4, .int (nI (cntP (fun g => ¬ (tn g).toInt = 0) q))), (0, .ref k0), (1, .int 0)]) hx hb dX11_count_59 rfl hl (Nat.le_of_ble_eq_true rfl) rfl (fun ls hl => ?_)
            refine lv_iload hx hb dX11_count_60 (lv_at hl 4 rfl) ?_
            refine lv_aload_n hx hb dX11_count_62 rfl (lv_at hl 5 rfl) ?_
            refine va_get (D := (dC, dI)) (ci := 9) (v := .ref (a 6)) (C := RX11) (T := TX11) (N := 55) hx hb hts inX11 hown hK hP 0 rfl rfl 6 (Nat.le_of_ble_eq_true rfl) (hts _ mw_1165) (fun _ h9 => h9) rfl dX11_count_63 ?_
            refine lv_iload hx hb dX11_count_66 (lv_at hl 2 rfl) ?_
            refine z_zald hx hb hK hP 2 1 rfl rfl (e := q) rfl b9_4 (Nat.le_of_ble_eq_true rfl) dX11_count_68 ?_
            refine lv_if_eq (tgt := 76) hx hb dX11_count_69 rfl (fun c_14 => ?_) (fun c_14 => ?_)
            · have c_14 : (tn q).toInt = 0 := zc_eq rfl rfl c_14
              refine lv_iconst (v := 0) hx hb dX11_count_76 rfl ?_
              refine lv_iadd hx hb dX11_count_77 ?_
              refine zz_i (v := nI ((cntP (fun g => ¬ (tn g).toInt = 0) q) + 0)) (nI_add (cntP (fun g => ¬ (tn g).toInt = 0) q) 0) ?_
              refine lv_istore (lv' := [(4, .int (nI ((cntP (fun g => ¬ (tn g).toInt = 0) q) + 0))), (3, .int (nI ((cntP (fun g => (st g).toInt = 2) q) + 0))), (2, .int (nI ((cntP (fun g => (st g).toInt = 1) q) + 1))), (6, .int (nI q)), (5, .int (nI (smP (lvF ft st tn) (fun g => nN (mn g)) q))), (0, .ref k0), (1, .int 0)]) hx hb dX11_count_78 hl (Nat.le_of_ble_eq_true rfl) rfl (fun ls hl => ?_)
              refine lv_iload hx hb dX11_count_80 (lv_at hl 4 rfl) ?_
              refine lv_aload_n hx hb dX11_count_82 rfl (lv_at hl 5 rfl) ?_
              refine lv_iload hx hb dX11_count_83 (lv_at hl 3 rfl) ?_
              obtain ⟨hPc, hDc, hFc, hI1⟩ := zi_sub (wc := [_, _, _]) hP hD hS hA [0, 1, 2] rfl rfl
              refine zcall (st1 := [.int (pI (q < ft ∧ (st q).toInt = 1 ∧ (tn q).toInt = 0)), .int (nI (smP (lvF ft st tn) (fun g => nN (mn g)) q))]) (va_runV (As := [.int (nI q)]) (rest := [.int (nI (smP (lvF ft st tn) (fun g => nN (mn g)) q))]) ⟨hx, hb, hml, hown, hts⟩ (k_M_is_n l dC dI cI cZ cF H.size k0 a I0 J0 q ft st tn (by first | with_reducible assumption | assumption) (by first | with_reducible assumption | omega) (by first | with_reducible assumption | omega)) (csV_179 hts rfl rfl ⟨Nat.le_of_ble_eq_true rfl, Nat.le_of_ble_eq_true rfl⟩) (zPV2 (q0 := 0) (ci := 9) hPc hDc hK hXN rfl rfl) rfl rfl hl.1 rfl (lv_room (Nat.le_of_ble_eq_true rfl)) dX11_count_85 ⟨Nat.le_of_ble_eq_true rfl, Nat.le_of_ble_eq_true rfl⟩) hS hFc hFc rfl (fun t H locs ht hB hk1 hS => ?_)
              obtain ⟨hP1, hD1⟩ := hB
              rw [ht] at hP1
              replace hP := z0 hP hD hk1 hP1 hI1
              clear hk1 hPc hDc hFc hP1 hD1 ht hI1
              refine lv_if_eq (tgt := 101) hx hb dX11_count_88 rfl (fun c_15 => ?_) (fun c_15 => ?_)
              · have c_15 : ¬ (q < ft ∧ (st q).toInt = 1 ∧ (tn q).toInt = 0) := zp_0 c_15
                refine lv_iconst (v := 0) hx hb dX11_count_101 rfl ?_
                refine lv_iadd hx hb dX11_count_102 ?_
                refine zz_i (v := nI ((smP (lvF ft st tn) (fun g => nN (mn g)) q) + 0)) (nI_add (smP (lvF ft st tn) (fun g => nN (mn g)) q) 0) ?_
                refine lv_istore (lv' := [(5, .int (nI ((smP (lvF ft st tn) (fun g => nN (mn g)) q) + 0))), (4, .int (nI ((cntP (fun g => ¬ (tn g).toInt = 0) q) + 0))), (3, .int (nI ((cntP (fun g => (st g).toInt = 2) q) + 0))), (2, .int (nI ((cntP (fun g => (st g).toInt = 1) q) + 1))), (6, .int (nI q)), (0, .ref k0), (1, .int 0)]) hx hb dX11_count_103 hl (Nat.le_of_ble_eq_true rfl) rfl (fun ls hl => ?_)
                refine lv_iinc (v := nI (q + 1)) (lv' := [(6, .int (nI (q + 1))), (5, .int (nI ((smP (lvF ft st tn) (fun g => nN (mn g)) q) + 0))), (4, .int (nI ((cntP (fun g => ¬ (tn g).toInt = 0) q) + 0))), (3, .int (nI ((cntP (fun g => (st g).toInt = 2) q) + 0))), (2, .int (nI ((cntP (fun g => (st g).toInt = 1) q) + 1))), (0, .ref k0), (1, .int 0)]) hx hb dX11_count_105 hl (k := 4) rfl (nI_add q 1) (Nat.le_of_ble_eq_true rfl) rfl (fun ls hl => ?_)
                refine lv_goto (tgt := 13) hx hb dX11_count_108 rfl ?_
                have hl9 := lv_sub hl [0, 1, 2, 3, 4, 5, 6] rfl
                have e9_2 : nI (cntP (fun g => (st g).toInt = 1) (q + 1)) = (nI ((cntP (fun g => (st g).toInt = 1) q) + 1) : Int32) := by first | exact congrArg nI (cntP_y (P := fun g => (st g).toInt = 1) (show (st q).toInt = 1 by omega)) | exact congrArg nI (cntP_n0 (P := fun g => (st g).toInt = 1) (show ¬ (st q).toInt = 1 by omega))
                have e9_3 : nI (cntP (fun g => (st g).toInt = 2) (q + 1)) = (nI ((cntP (fun g => (st g).toInt = 2) q) + 0) : Int32) := by first | exact congrArg nI (cntP_y (P := fun g => (st g).toInt = 2) (show (st q).toInt = 2 by omega)) | exact congrArg nI (cntP_n0 (P := fun g => (st g).toInt = 2) (show ¬ (st q).toInt = 2 by omega))
                have e9_4 : nI (cntP (fun g => ¬ (tn g).toInt = 0) (q + 1)) = (nI ((cntP (fun g => ¬ (tn g).toInt = 0) q) + 0) : Int32) := by first | exact congrArg nI (cntP_y (P := fun g => ¬ (tn g).toInt = 0) (show ¬ (tn q).toInt = 0 by omega)) | exact congrArg nI (cntP_n0 (P := fun g => ¬ (tn g).toInt = 0) (show ¬ ¬ (tn q).toInt = 0 by omega))
                have e9_5 : nI (smP (lvF ft st tn) (fun g => nN (mn g)) (q + 1)) = (nI ((smP (lvF ft st tn) (fun g => nN (mn g)) q) + 0) : Int32) := by first | exact congrArg nI (smP_y (P := lvF ft st tn) (by first | with_reducible assumption | assumption)) | exact congrArg nI (smP_n (P := lvF ft st tn) (by first | with_reducible assumption | assumption))
                have hl9 : lv_has ls 7 [(6, .int (nI (q + 1))), (5, .int (nI (smP (lvF ft st tn) (fun g => nN (mn g)) (q + 1)))), (4, .int (nI (cntP (fun g => ¬ (tn g).toInt = 0) (q + 1)))), (3, .int (nI (cntP (fun g => (st g).toInt = 2) (q + 1)))), (2, .int (nI (cntP (fun g => (st g).toInt = 1) (q + 1)))), (0, .ref k0), (1, .int 0)] := by rw [e9_2]; rw [e9_3]; rw [e9_4]; rw [e9_5]; exact hl9
                exact ih_13 (q + 1) H locs ls (by first | with_reducible assumption | omega) (by first | with_reducible assumption | omega) hP hD hS hl9
              · have c_15 : q < ft ∧ (st q).toInt = 1 ∧ (tn q).toInt = 0 := zp_1 c_15
                refine lv_aload_n hx hb dX11_count_91 rfl (lv_at hl 5 rfl) ?_
                refine va_get (D := (dC, dI)) (ci := 9) (v := .ref (a 11)) (C := RX11) (T := TX11) (N := 55) hx hb hts inX11 hown hK hP 0 rfl rfl 11 (Nat.le_of_ble_eq_true rfl) (hts _ mw_1170) (fun _ h9 => h9) rfl dX11_count_92 ?_
                refine lv_iload hx hb dX11_count_95 (lv_at hl 3 rfl) ?_
                refine z_iald hx hb hK hP 3 0 rfl rfl (e := q) rfl b9_4 (Nat.le_of_ble_eq_true rfl) dX11_count_97 ?_
                refine zz_i (v := nI (nN (mn q))) ((hmw q (by first | with_reducible assumption | assumption)).1) ?_
                refine lv_goto (tgt := 102) hx hb dX11_count_98 rfl ?_
                refine lv_iadd hx hb dX11_count_102 ?_
                refine zz_i (v := nI ((smP (lvF ft st tn) (fun g => nN (mn g)) q) + (nN (mn q)))) (nI_add (smP (lvF ft st tn) (fun g => nN (mn g)) q) (nN (mn q))) ?_
                refine lv_istore (lv' := [(5, .int (nI ((smP (lvF ft st tn) (fun g => nN (mn g)) q) + (nN (mn q))))), (4, .int (nI ((cntP (fun g => ¬ (tn g).toInt = 0) q) + 0))), (3, .int (nI ((cntP (fun g => (st g).toInt = 2) q) + 0))), (2, .int (nI ((cntP (fun g => (st g).toInt = 1) q) + 1))), (6, .int (nI q)), (0, .ref k0), (1, .int 0)]) hx hb dX11_count_103 hl (Nat.le_of_ble_eq_true rfl) rfl (fun ls hl => ?_)
                refine lv_iinc (v := nI (q + 1)) (lv' := [(6, .int (nI (q + 1))), (5, .int (nI ((smP (lvF ft st tn) (fun g => nN (mn g)) q) + (nN (mn q))))), (4, .int (nI ((cntP (fun g => ¬ (tn g).toInt = 0) q) + 0))), (3, .int (nI ((cntP (fun g => (st g).toInt = 2) q) + 0))), (2, .int (nI ((cntP (fun g => (st g).toInt = 1) q) + 1))), (0, .ref k0), (1, .int 0)]) hx hb dX11_count_105 hl (k := 4) rfl (nI_add q 1) (Nat.le_of_ble_eq_true rfl) rfl (fun ls hl => ?_)
                refine lv_goto (tgt := 13) hx hb dX11_count_108 rfl ?_
                have hl9 := lv_sub hl [0, 1, 2, 3, 4, 5, 6] rfl
                have e9_2 : nI (cntP (fun g => (st g).toInt = 1) (q + 1)) = (nI ((cntP (fun g => (st g).toInt = 1) q) + 1) : Int32) := by first | exact congrArg nI (cntP_y (P := fun g => (st g).toInt = 1) (show (st q).toInt = 1 by omega)) | exact congrArg nI (cntP_n0 (P := fun g => (st g).toInt = 1) (show ¬ (st q).toInt = 1 by omega))
                have e9_3 : nI (cntP (fun g => (st g).toInt = 2) (q + 1)) = (nI ((cntP (fun g => (st g).toInt = 2) q) + 0) : Int32) := by first | exact congrArg nI (cntP_y (P := fun g => (st g).toInt = 2) (show (st q).toInt = 2 by omega)) | exact congrArg nI (cntP_n0 (P := fun g => (st g).toInt = 2) (show ¬ (st q).toInt = 2 by omega))
                have e9_4 : nI (cntP (fun g => ¬ (tn g).toInt = 0) (q + 1)) = (nI ((cntP (fun g => ¬ (tn g).toInt = 0) q) + 0) : Int32) := by first | exact congrArg nI (cntP_y (P := fun g => ¬ (tn g).toInt = 0) (show ¬ (tn q).toInt = 0 by omega)) | exact congrArg nI (cntP_n0 (P := fun g => ¬ (tn g).toInt = 0) (show ¬ ¬ (tn q).toInt = 0 by omega))
                have e9_5 : nI (smP (lvF ft st tn) (fun g => nN (mn g)) (q + 1)) = (nI ((smP (lvF ft st tn) (fun g => nN (mn g)) q) + (nN (mn q))) : Int32) := by first | exact congrArg nI (smP_y (P := lvF ft st tn) (by first | with_reducible assumption | assumption)) | exact congrArg nI (smP_n (P := lvF ft st tn) (by first | with_reducible assumption | assumption))
                have hl9 : lv_has ls 7 [(6, .int (nI (q + 1))), (5, .int (nI (smP (lvF ft st tn) (fun g => nN (mn g)) (q + 1)))), (4, .int (nI (cntP (fun g => ¬ (tn g).toInt = 0) (q + 1)))), (3, .int (nI (cntP (fun g => (st g).toInt = 2) (q + 1)))), (2, .int (nI (cntP (fun g => (st g).toInt = 1) (q + 1)))), (0, .ref k0), (1, .int 0)] := by rw [e9_2]; rw [e9_3]; rw [e9_4]; rw [e9_5]; exact hl9
                exact ih_13 (q + 1) H locs ls (by first | with_reducible assumption | omega) (by first | with_reducible assumption | omega) hP hD hS hl9
            · have c_14 : ¬ (tn q).toInt = 0 := zc_ne rfl rfl c_14
              refine lv_iconst (v := 1) hx hb dX11_count_72 rfl ?_
              refine lv_goto (tgt := 77) hx hb dX11_count_73 rfl ?_
              refine lv_iadd hx hb dX11_count_77 ?_
              refine zz_i (v := nI ((cntP (fun g => ¬ (tn g).toInt = 0) q) + 1)) (nI_add (cntP (fun g => ¬ (tn g).toInt = 0) q) 1) ?_
              refine lv_istore (lv' := [(4, .int (nI ((cntP (fun g => ¬ (tn g).toInt = 0) q) + 1))), (3, .int (nI ((cntP (fun g => (st g).toInt = 2) q) + 0))), (2, .int (nI ((cntP (fun g => (st g).toInt = 1) q) + 1))), (6, .int (nI q)), (5, .int (nI (smP (lvF ft st tn) (fun g => nN (mn g)) q))), (0, .ref k0), (1, .int 0)]) hx hb dX11_count_78 hl (Nat.le_of_ble_eq_true rfl) rfl (fun ls hl => ?_)
              refine lv_iload hx hb dX11_count_80 (lv_at hl 4 rfl) ?_
              refine lv_aload_n hx hb dX11_count_82 rfl (lv_at hl 5 rfl) ?_
              refine lv_iload hx hb dX11_count_83 (lv_at hl 3 rfl) ?_
              obtain ⟨hPc, hDc, hFc, hI1⟩ := zi_sub (wc := [_, _, _]) hP hD hS hA [0, 1, 2] rfl rfl
              refine zcall (st1 := [.int (pI (q < ft ∧ (st q).toInt = 1 ∧ (tn q).toInt = 0)), .int (nI (smP (lvF ft st tn) (fun g => nN (mn g)) q))]) (va_runV (As := [.int (nI q)]) (rest := [.int (nI (smP (lvF ft st tn) (fun g => nN (mn g)) q))]) ⟨hx, hb, hml, hown, hts⟩ (k_M_is_n l dC dI cI cZ cF H.size k0 a I0 J0 q ft st tn (by first | with_reducible assumption | assumption) (by first | with_reducible assumption | omega) (by first | with_reducible assumption | omega)) (csV_179 hts rfl rfl ⟨Nat.le_of_ble_eq_true rfl, Nat.le_of_ble_eq_true rfl⟩) (zPV2 (q0 := 0) (ci := 9) hPc hDc hK hXN rfl rfl) rfl rfl hl.1 rfl (lv_room (Nat.le_of_ble_eq_true rfl)) dX11_count_85 ⟨Nat.le_of_ble_eq_true rfl, Nat.le_of_ble_eq_true rfl⟩) hS hFc hFc rfl (fun t H locs ht hB hk1 hS => ?_)
              obtain ⟨hP1, hD1⟩ := hB
              rw [ht] at hP1
              replace hP := z0 hP hD hk1 hP1 hI1
              clear hk1 hPc hDc hFc hP1 hD1 ht hI1
              refine lv_if_eq (tgt := 101) hx hb dX11_count_88 rfl (fun c_16 => ?_) (fun c_16 => ?_)
              · have c_16 : ¬ (q < ft ∧ (st q).toInt = 1 ∧ (tn q).toInt = 0) := zp_0 c_16
                refine lv_iconst (v := 0) hx hb dX11_count_101 rfl ?_
                refine lv_iadd hx hb dX11_count_102 ?_
                refine zz_i (v := nI ((smP (lvF ft st tn) (fun g => nN (mn g)) q) + 0)) (nI_add (smP (lvF ft st tn) (fun g => nN (mn g)) q) 0) ?_
                refine lv_istore (lv' := [(5, .int (nI ((smP (lvF ft st tn) (fun g => nN (mn g)) q) + 0))), (4, .int (nI ((cntP (fun g => ¬ (tn g).toInt = 0) q) + 1))), (3, .int (nI ((cntP (fun g => (st g).toInt = 2) q) + 0))), (2, .int (nI ((cntP (fun g => (st g).toInt = 1) q) + 1))), (6, .int (nI q)), (0, .ref k0), (1, .int 0)]) hx hb dX11_count_103 hl (Nat.le_of_ble_eq_true rfl) rfl (fun ls hl => ?_)
                refine lv_iinc (v := nI (q + 1)) (lv' := [(6, .int (nI (q + 1))), (5, .int (nI ((smP (lvF ft st tn) (fun g => nN (mn g)) q) + 0))), (4, .int (nI ((cntP (fun g => ¬ (tn g).toInt = 0) q) + 1))), (3, .int (nI ((cntP (fun g => (st g).toInt = 2) q) + 0))), (2, .int (nI ((cntP (fun g => (st g).toInt = 1) q) + 1))), (0, .ref k0), (1, .int 0)]) hx hb dX11_count_105 hl (k := 4) rfl (nI_add q 1) (Nat.le_of_ble_eq_true rfl) rfl (fun ls hl => ?_)
                refine lv_goto (tgt := 13) hx hb dX11_count_108 rfl ?_
                have hl9 := lv_sub hl [0, 1, 2, 3, 4, 5, 6] rfl
                have e9_2 : nI (cntP (fun g => (st g).toInt = 1) (q + 1)) = (nI ((cntP (fun g => (st g).toInt = 1) q) + 1) : Int32) := by first | exact congrArg nI (cntP_y (P := fun g => (st g).toInt = 1) (show (st q).toInt = 1 by omega)) | exact congrArg nI (cntP_n0 (P := fun g => (st g).toInt = 1) (show ¬ (st q).toInt = 1 by omega))
                have e9_3 : nI (cntP (fun g => (st g).toInt = 2) (q + 1)) = (nI ((cntP (fun g => (st g).toInt = 2) q) + 0) : Int32) := by first | exact congrArg nI (cntP_y (P := fun g => (st g).toInt = 2) (show (st q).toInt = 2 by omega)) | exact congrArg nI (cntP_n0 (P := fun g => (st g).toInt = 2) (show ¬ (st q).toInt = 2 by omega))
                have e9_4 : nI (cntP (fun g => ¬ (tn g).toInt = 0) (q + 1)) = (nI ((cntP (fun g => ¬ (tn g).toInt = 0) q) + 1) : Int32) := by first | exact congrArg nI (cntP_y (P := fun g => ¬ (tn g).toInt = 0) (show ¬ (tn q).toInt = 0 by omega)) | exact congrArg nI (cntP_n0 (P := fun g => ¬ (tn g).toInt = 0) (show ¬ ¬ (tn q).toInt = 0 by omega))
                have e9_5 : nI (smP (lvF ft st tn) (fun g => nN (mn g)) (q + 1)) = (nI ((smP (lvF ft st tn) (fun g => nN (mn g)) q) + 0) : Int32) := by first | exact congrArg nI (smP_y (P := lvF ft st tn) (by first | with_reducible assumption | assumption)) | exact congrArg nI (smP_n (P := lvF ft st tn) (by first | with_reducible assumption | assumption))
                have hl9 : lv_has ls 7 [(6, .int (nI (q + 1))), (5, .int (nI (smP (lvF ft st tn) (fun g => nN (mn g)) (q + 1)))), (4, .int (nI (cntP (fun g => ¬ (tn g).toInt = 0) (q + 1)))), (3, .int (nI (cntP (fun g => (st g).toInt = 2) (q + 1)))), (2, .int (nI (cntP (fun g => (st g).toInt = 1) (q + 1)))), (0, .ref k0), (1, .int 0)] := by rw [e9_2]; rw [e9_3]; rw [e9_4]; rw [e9_5]; exact hl9
                exact ih_13 (q + 1) H locs ls (by first | with_reducible assumption | omega) (by first | with_reducible assumption | omega) hP hD hS hl9
              · have c_16 : q < ft ∧ (st q).toInt = 1 ∧ (tn q).toInt = 0 := zp_1 c_16
                refine lv_aload_n hx hb dX11_count_91 rfl (lv_at hl 5 rfl) ?_
                refine va_get (D := (dC, dI)) (ci := 9) (v := .ref (a 11)) (C := RX11) (T := TX11) (N := 55) hx hb hts inX11 hown hK hP 0 rfl rfl 11 (Nat.le_of_ble_eq_true rfl) (hts _ mw_1170) (fun _ h9 => h9) rfl dX11_count_92 ?_
                refine lv_iload hx hb dX11_count_95 (lv_at hl 3 rfl) ?_
                refine z_iald hx hb hK hP 3 0 rfl rfl (e := q) rfl b9_4 (Nat.le_of_ble_eq_true rfl) dX11_count_97 ?_
                refine zz_i (v := nI (nN (mn q))) ((hmw q (by first | with_reducible assumption | assumption)).1) ?_
                refine lv_goto (tgt := 102) hx hb dX11_count_98 rfl ?_
                refine lv_iadd hx hb dX11_count_102 ?_
                refine zz_i (v := nI ((smP (lvF ft st tn) (fun g => nN (mn g)) q) + (nN (mn q)))) (nI_add (smP (lvF ft st tn) (fun g => nN (mn g)) q) (nN (mn q))) ?_
                refine lv_istore (lv' := [(5, .int (nI ((smP (lvF ft st tn) (fun g => nN (mn g)) q) + (nN (mn q))))), (4, .int (nI ((cntP (fun g => ¬ (tn g).toInt = 0) q) + 1))), (3, .int (nI ((cntP (fun g => (st g).toInt = 2) q) + 0))), (2, .int (nI ((cntP (fun g => (st g).toInt = 1) q) + 1))), (6, .int (nI q)), (0, .ref k0), (1, .int 0)]) hx hb dX11_count_103 hl (Nat.le_of_ble_eq_true rfl) rfl (fun ls hl => ?_)
                refine lv_iinc (v := nI (q + 1)) (lv' := [(6, .int (nI (q + 1))), (5, .int (nI ((smP (lvF ft st tn) (fun g => nN (mn g)) q) + (nN (mn q))))), (4, .int (nI ((cntP (fun g => ¬ (tn g).toInt = 0) q) + 1))), (3, .int (nI ((cntP (fun g => (st g).toInt = 2) q) + 0))), (2, .int (nI ((cntP (fun g => (st g).toInt = 1) q) + 1))), (0, .ref k0), (1, .int 0)]) hx hb dX11_count_105 hl (k := 4) rfl (nI_add q 1) (Nat.le_of_ble_eq_true rfl) rfl (fun ls hl => ?_)
                refine lv_goto (tgt := 13) hx hb dX11_count_108 rfl ?_
                have hl9 := lv_sub hl [0, 1, 2, 3, 4, 5, 6] rfl
                have e9_2 : nI (cntP (fun g => (st g).toInt = 1) (q + 1)) = (nI ((cntP (fun g => (st g).toInt = 1) q) + 1) : Int32) := by first | exact congrArg nI (cntP_y (P := fun g => (st g).toInt = 1) (show (st q).toInt = 1 by omega)) | exact congrArg nI (cntP_n0 (P := fun g => (st g).toInt = 1) (show ¬ (st q).toInt = 1 by omega))
                have e9_3 : nI (cntP (fun g => (st g).toInt = 2) (q + 1)) = (nI ((cntP (fun g => (st g).toInt = 2) q) + 0) : Int32) := by first | exact congrArg nI (cntP_y (P := fun g => (st g).toInt = 2) (show (st q).toInt = 2 by omega)) | exact congrArg nI (cntP_n0 (P := fun g => (st g).toInt = 2) (show ¬ (st q).toInt = 2 by omega))
                have e9_4 : nI (cntP (fun g => ¬ (tn g).toInt = 0) (q + 1)) = (nI ((cntP (fun g => ¬ (tn g).toInt = 0) q) + 1) : Int32) := by first | exact congrArg nI (cntP_y (P := fun g => ¬ (tn g).toInt = 0) (show ¬ (tn q).toInt = 0 by omega)) | exact congrArg nI (cntP_n0 (P := fun g => ¬ (tn g).toInt = 0) (show ¬ ¬ (tn q).toInt = 0 by omega))
                have e9_5 : nI (smP (lvF ft st tn) (fun g => nN (mn g)) (q + 1)) = (nI ((smP (lvF ft st tn) (fun g => nN (mn g)) q) + (nN (mn q))) : Int32) := by first | exact congrArg nI (smP_y (P := lvF ft st tn) (by first | with_reducible assumption | assumption)) | exact congrArg nI (smP_n (P := lvF ft st tn) (by first | with_reducible assumption | assumption))
                have hl9 : lv_has ls 7 [(6, .int (nI (q + 1))), (5, .int (nI (smP (lvF ft st tn) (fun g => nN (mn g)) (q + 1)))), (4, .int (nI (cntP (fun g => ¬ (tn g).toInt = 0) (q + 1)))), (3, .int (nI (cntP (fun g => (st g).toInt = 2) (q + 1)))), (2, .int (nI (cntP (fun g => (st g).toInt = 1) (q + 1)))), (0, .ref k0), (1, .int 0)] := by rw [e9_2]; rw [e9_3]; rw [e9_4]; rw [e9_5]; exact hl9
                exact ih_13 (q + 1) H locs ls (by first | with_reducible assumption | omega) (by first | with_reducible assumption | omega) hP hD hS hl9
          · have c_13 : (st q).toInt = 2 := zc_eq rfl rfl c_13
            refine lv_iconst (v := 1) hx hb dX11_count_53 rfl ?_
            refine lv_goto (tgt := 58) hx hb dX11_count_54 rfl ?_
            refine lv_iadd hx hb dX11_count_58 ?_
            refine zz_i (v := nI ((cntP (fun g => (st g).toInt = 2) q) + 1)) (nI_add (cntP (fun g => (st g).toInt = 2) q) 1) ?_
            refine lv_istore_n (lv' := [(3, .int (nI ((cntP (fun g => (st g).toInt = 2) q) + 1))), (2, .int (nI ((cntP (fun g => (st g).toInt = 1) q) + 1))), (6, .int (nI q)), (5, .int (nI (smP (lvF ft st tn) (fun g => nN (mn g)) q))), (4, .int (nI (cntP (fun g => ¬ (tn g).toInt = 0) q))), (0, .ref k0), (1, .int 0)]) hx hb dX11_count_59 rfl hl (Nat.le_of_ble_eq_true rfl) rfl (fun ls hl => ?_)
            refine lv_iload hx hb dX11_count_60 (lv_at hl 4 rfl) ?_
            refine lv_aload_n hx hb dX11_count_62 rfl (lv_at hl 5 rfl) ?_
            refine va_get (D := (dC, dI)) (ci := 9) (v := .ref (a 6)) (C := RX11) (T := TX11) (N := 55) hx hb hts inX11 hown hK hP 0 rfl rfl 6 (Nat.le_of_ble_eq_true rfl) (hts _ mw_1165) (fun _ h9 => h9) rfl dX11_count_63 ?_
            refine lv_iload hx hb dX11_count_66 (lv_at hl 2 rfl) ?_
            refine z_zald hx hb hK hP 2 1 rfl rfl (e := q) rfl b9_4 (Nat.le_of_ble_eq_true rfl) dX11_count_68 ?_
            refine lv_if_eq (tgt := 76) hx hb dX11_count_69 rfl (fun c_17 => ?_) (fun c_17 => ?_)
            · have c_17 : (tn q).toInt = 0 := zc_eq rfl rfl c_17
              refine lv_iconst (v := 0) hx hb dX11_count_76 rfl ?_
              refine lv_iadd hx hb dX11_count_77 ?_
              refine zz_i (v := nI ((cntP (fun g => ¬ (tn g).toInt = 0) q) + 0)) (nI_add (cntP (fun g => ¬ (tn g).toInt = 0) q) 0) ?_
              refine lv_istore (lv' := [(4, .int (nI ((cntP (fun g => ¬ (tn g).toInt = 0) q) + 0))), (3, .int (nI ((cntP (fun g => (st g).toInt = 2) q) + 1))), (2, .int (nI ((cntP (fun g => (st g).toInt = 1) q) + 1))), (6, .int (nI q)), (5, .int (nI (smP (lvF ft st tn) (fun g => nN (mn g)) q))), (0, .ref k0), (1, .int 0)]) hx hb dX11_count_78 hl (Nat.le_of_ble_eq_true rfl) rfl (fun ls hl => ?_)
              refine lv_iload hx hb dX11_count_80 (lv_at hl 4 rfl) ?_
              refine lv_aload_n hx hb dX11_count_82 rfl (lv_at hl 5 rfl) ?_
              refine lv_iload hx hb dX11_count_83 (lv_at hl 3 rfl) ?_
              obtain ⟨hPc, hDc, hFc, hI1⟩ := zi_sub (wc := [_, _, _]) hP hD hS hA [0, 1, 2] rfl rfl
              refine zcall (st1 := [.int (pI (q < ft ∧ (st q).toInt = 1 ∧ (tn q).toInt = 0)), .int (nI (smP (lvF ft st tn) (fun g => nN (mn g)) q))]) (va_runV (As := [.int (nI q)]) (rest := [.int (nI (smP (lvF ft st tn) (fun g => nN (mn g)) q))]) ⟨hx, hb, hml, hown, hts⟩ (k_M_is_n l dC dI cI cZ cF H.size k0 a I0 J0 q ft st tn (by first | with_reducible assumption | assumption) (by first | with_reducible assumption | omega) (by first | with_reducible assumption | omega)) (csV_179 hts rfl rfl ⟨Nat.le_of_ble_eq_true rfl, Nat.le_of_ble_eq_true rfl⟩) (zPV2 (q0 := 0) (ci := 9) hPc hDc hK hXN rfl rfl) rfl rfl hl.1 rfl (lv_room (Nat.le_of_ble_eq_true rfl)) dX11_count_85 ⟨Nat.le_of_ble_eq_true rfl, Nat.le_of_ble_eq_true rfl⟩) hS hFc hFc rfl (fun t H locs ht hB hk1 hS => ?_)
              obtain ⟨hP1, hD1⟩ := hB
              rw [ht] at hP1
              replace hP := z0 hP hD hk1 hP1 hI1
              clear hk1 hPc hDc hFc hP1 hD1 ht hI1
              refine lv_if_eq (tgt := 101) hx hb dX11_count_88 rfl (fun c_18 => ?_) (fun c_18 => ?_)
              · have c_18 : ¬ (q < ft ∧ (st q).toInt = 1 ∧ (tn q).toInt = 0) := zp_0 c_18
                refine lv_iconst (v := 0) hx hb dX11_count_101 rfl ?_
                refine lv_iadd hx hb dX11_count_102 ?_
                refine zz_i (v := nI ((smP (lvF ft st tn) (fun g => nN (mn g)) q) + 0)) (nI_add (smP (lvF ft st tn) (fun g => nN (mn g)) q) 0) ?_
                refine lv_istore (lv' := [(5, .int (nI ((smP (lvF ft st tn) (fun g => nN (mn g)) q) + 0))), (4, .int (nI ((cntP (fun g => ¬ (tn g).toInt = 0) q) + 0))), (3, .int (nI ((cntP (fun g => (st g).toInt = 2) q) + 1))), (2, .int (nI ((cntP (fun g => (st g).toInt = 1) q) + 1))), (6, .int (nI q)), (0, .ref k0), (1, .int 0)]) hx hb dX11_count_103 hl (Nat.le_of_ble_eq_true rfl) rfl (fun ls hl => ?_)
                refine lv_iinc (v := nI (q + 1)) (lv' := [(6, .int (nI (q + 1))), (5, .int (nI ((smP (lvF ft st tn) (fun g => nN (mn g)) q) + 0))), (4, .int (nI ((cntP (fun g => ¬ (tn g).toInt = 0) q) + 0))), (3, .int (nI ((cntP (fun g => (st g).toInt = 2) q) + 1))), (2, .int (nI ((cntP (fun g => (st g).toInt = 1) q) + 1))), (0, .ref k0), (1, .int 0)]) hx hb dX11_count_105 hl (k := 4) rfl (nI_add q 1) (Nat.le_of_ble_eq_true rfl) rfl (fun ls hl => ?_)
                refine lv_goto (tgt := 13) hx hb dX11_count_108 rfl ?_
                have hl9 := lv_sub hl [0, 1, 2, 3, 4, 5, 6] rfl
                have e9_2 : nI (cntP (fun g => (st g).toInt = 1) (q + 1)) = (nI ((cntP (fun g => (st g).toInt = 1) q) + 1) : Int32) := by first | exact congrArg nI (cntP_y (P := fun g => (st g).toInt = 1) (show (st q).toInt = 1 by omega)) | exact congrArg nI (cntP_n0 (P := fun g => (st g).toInt = 1) (show ¬ (st q).toInt = 1 by omega))
                have e9_3 : nI (cntP (fun g => (st g).toInt = 2) (q + 1)) = (nI ((cntP (fun g => (st g).toInt = 2) q) + 1) : Int32) := by first | exact congrArg nI (cntP_y (P := fun g => (st g).toInt = 2) (show (st q).toInt = 2 by omega)) | exact congrArg nI (cntP_n0 (P := fun g => (st g).toInt = 2) (show ¬ (st q).toInt = 2 by omega))
                have e9_4 : nI (cntP (fun g => ¬ (tn g).toInt = 0) (q + 1)) = (nI ((cntP (fun g => ¬ (tn g).toInt = 0) q) + 0) : Int32) := by first | exact congrArg nI (cntP_y (P := fun g => ¬ (tn g).toInt = 0) (show ¬ (tn q).toInt = 0 by omega)) | exact congrArg nI (cntP_n0 (P := fun g => ¬ (tn g).toInt = 0) (show ¬ ¬ (tn q).toInt = 0 by omega))
                have e9_5 : nI (smP (lvF ft st tn) (fun g => nN (mn g)) (q + 1)) = (nI ((smP (lvF ft st tn) (fun g => nN (mn g)) q) + 0) : Int32) := by first | exact congrArg nI (smP_y (P := lvF ft st tn) (by first | with_reducible assumption | assumption)) | exact congrArg nI (smP_n (P := lvF ft st tn) (by first | with_reducible assumption | assumption))
                have hl9 : lv_has ls 7 [(6, .int (nI (q + 1))), (5, .int (nI (smP (lvF ft st tn) (fun g => nN (mn g)) (q + 1)))), (4, .int (nI (cntP (fun g => ¬ (tn g).toInt = 0) (q + 1)))), (3, .int (nI (cntP (fun g => (st g).toInt = 2) (q + 1)))), (2, .int (nI (cntP (fun g => (st g).toInt = 1) (q + 1)))), (0, .ref k0), (1, .int 0)] := by rw [e9_2]; rw [e9_3]; rw [e9_4]; rw [e9_5]; exact hl9
                exact ih_13 (q + 1) H locs ls (by first | with_reducible assumption | omega) (by first | with_reducible assumption | omega) hP hD hS hl9
              · have c_18 : q < ft ∧ (st q).toInt = 1 ∧ (tn q).toInt = 0 := zp_1 c_18
                refine lv_aload_n hx hb dX11_count_91 rfl (lv_at hl 5 rfl) ?_
                refine va_get (D := (dC, dI)) (ci := 9) (v := .ref (a 11)) (C := RX11) (T := TX11) (N := 55) hx hb hts inX11 hown hK hP 0 rfl rfl 11 (Nat.le_of_ble_eq_true rfl) (hts _ mw_1170) (fun _ h9 => h9) rfl dX11_count_92 ?_
                refine lv_iload hx hb dX11_count_95 (lv_at hl 3 rfl) ?_
                refine z_iald hx hb hK hP 3 0 rfl rfl (e := q) rfl b9_4 (Nat.le_of_ble_eq_true rfl) dX11_count_97 ?_
                refine zz_i (v := nI (nN (mn q))) ((hmw q (by first | with_reducible assumption | assumption)).1) ?_
                refine lv_goto (tgt := 102) hx hb dX11_count_98 rfl ?_
                refine lv_iadd hx hb dX11_count_102 ?_
                refine zz_i (v := nI ((smP (lvF ft st tn) (fun g => nN (mn g)) q) + (nN (mn q)))) (nI_add (smP (lvF ft st tn) (fun g => nN (mn g)) q) (nN (mn q))) ?_
                refine lv_istore (lv' := [(5, .int (nI ((smP (lvF ft st tn) (fun g => nN (mn g)) q) + (nN (mn q))))), (4, .int (nI ((cntP (fun g => ¬ (tn g).toInt = 0) q) + 0))), (3, .int (nI ((cntP (fun g => (st g).toInt = 2) q) + 1))), (2, .int (nI ((cntP (fun g => (st g).toInt = 1) q) + 1))), (6, .int (nI q)), (0, .ref k0), (1, .int 0)]) hx hb dX11_count_103 hl (Nat.le_of_ble_eq_true rfl) rfl (fun ls hl => ?_)
                refine lv_iinc (v := nI (q + 1)) (lv' := [(6, .int (nI (q + 1))), (5, .int (nI ((smP (lvF ft st tn) (fun g => nN (mn g)) q) + (nN (mn q))))), (4, .int (nI ((cntP (fun g => ¬ (tn g).toInt = 0) q) + 0))), (3, .int (nI ((cntP (fun g => (st g).toInt = 2) q) + 1))), (2, .int (nI ((cntP (fun g => (st g).toInt = 1) q) + 1))), (0, .ref k0), (1, .int 0)]) hx hb dX11_count_105 hl (k := 4) rfl (nI_add q 1) (Nat.le_of_ble_eq_true rfl) rfl (fun ls hl => ?_)
                refine lv_goto (tgt := 13) hx hb dX11_count_108 rfl ?_
                have hl9 := lv_sub hl [0, 1, 2, 3, 4, 5, 6] rfl
                have e9_2 : nI (cntP (fun g => (st g).toInt = 1) (q + 1)) = (nI ((cntP (fun g => (st g).toInt = 1) q) + 1) : Int32) := by first | exact congrArg nI (cntP_y (P := fun g => (st g).toInt = 1) (show (st q).toInt = 1 by omega)) | exact congrArg nI (cntP_n0 (P := fun g => (st g).toInt = 1) (show ¬ (st q).toInt = 1 by omega))
                have e9_3 : nI (cntP (fun g => (st g).toInt = 2) (q + 1)) = (nI ((cntP (fun g => (st g).toInt = 2) q) + 1) : Int32) := by first | exact congrArg nI (cntP_y (P := fun g => (st g).toInt = 2) (show (st q).toInt = 2 by omega)) | exact congrArg nI (cntP_n0 (P := fun g => (st g).toInt = 2) (show ¬ (st q).toInt = 2 by omega))
                have e9_4 : nI (cntP (fun g => ¬ (tn g).toInt = 0) (q + 1)) = (nI ((cntP (fun g => ¬ (tn g).toInt = 0) q) + 0) : Int32) := by first | exact congrArg nI (cntP_y (P := fun g => ¬ (tn g).toInt = 0) (show ¬ (tn q).toInt = 0 by omega)) | exact congrArg nI (cntP_n0 (P := fun g => ¬ (tn g).toInt = 0) (show ¬ ¬ (tn q).toInt = 0 by omega))
                have e9_5 : nI (smP (lvF ft st tn) (fun g => nN (mn g)) (q + 1)) = (nI ((smP (lvF ft st tn) (fun g => nN (mn g)) q) + (nN (mn q))) : Int32) := by first | exact congrArg nI (smP_y (P := lvF ft st tn) (by first | with_reducible assumption | assumption)) | exact congrArg nI (smP_n (P := lvF ft st tn) (by first | with_reducible assumption | assumption))
                have hl9 : lv_has ls 7 [(6, .int (nI (q + 1))), (5, .int (nI (smP (lvF ft st tn) (fun g => nN (mn g)) (q + 1)))), (4, .int (nI (cntP (fun g => ¬ (tn g).toInt = 0) (q + 1)))), (3, .int (nI (cntP (fun g => (st g).toInt = 2) (q + 1)))), (2, .int (nI (cntP (fun g => (st g).toInt = 1) (q + 1)))), (0, .ref k0), (1, .int 0)] := by rw [e9_2]; rw [e9_3]; rw [e9_4]; rw [e9_5]; exact hl9
                exact ih_13 (q + 1) H locs ls (by first | with_reducible assumption | omega) (by first | with_reducible assumption | omega) hP hD hS hl9
            · have c_17 : ¬ (tn q).toInt = 0 := zc_ne rfl rfl c_17
              refine lv_iconst (v := 1) hx hb dX11_count_72 rfl ?_
              refine lv_goto (tgt := 77) hx hb dX11_count_73 rfl ?_
              refine lv_iadd hx hb dX11_count_77 ?_
              refine zz_i (v := nI ((cntP (fun g => ¬ (tn g).toInt = 0) q) + 1)) (nI_add (cntP (fun g => ¬ (tn g).toInt = 0) q) 1) ?_
              refine lv_istore (lv' := [(4, .int (nI ((cntP (fun g => ¬ (tn g).toInt = 0) q) + 1))), (3, .int (nI ((cntP (fun g => (st g).toInt = 2) q) + 1))), (2, .int (nI ((cntP (fun g => (st g).toInt = 1) q) + 1))), (6, .int (nI q)), (5, .int (nI (smP (lvF ft st tn) (fun g => nN (mn g)) q))), (0, .ref k0), (1, .int 0)]) hx hb dX11_count_78 hl (Nat.le_of_ble_eq_true rfl) rfl (fun ls hl => ?_)
              refine lv_iload hx hb dX11_count_80 (lv_at hl 4 rfl) ?_
              refine lv_aload_n hx hb dX11_count_82 rfl (lv_at hl 5 rfl) ?_
              refine lv_iload hx hb dX11_count_83 (lv_at hl 3 rfl) ?_
              obtain ⟨hPc, hDc, hFc, hI1⟩ := zi_sub (wc := [_, _, _]) hP hD hS hA [0, 1, 2] rfl rfl
              refine zcall (st1 := [.int (pI (q < ft ∧ (st q).toInt = 1 ∧ (tn q).toInt = 0)), .int (nI (smP (lvF ft st tn) (fun g => nN (mn g)) q))]) (va_runV (As := [.int (nI q)]) (rest := [.int (nI (smP (lvF ft st tn) (fun g => nN (mn g)) q))]) ⟨hx, hb, hml, hown, hts⟩ (k_M_is_n l dC dI cI cZ cF H.size k0 a I0 J0 q ft st tn (by first | with_reducible assumption | assumption) (by first | with_reducible assumption | omega) (by first | with_reducible assumption | omega)) (csV_179 hts rfl rfl ⟨Nat.le_of_ble_eq_true rfl, Nat.le_of_ble_eq_true rfl⟩) (zPV2 (q0 := 0) (ci := 9) hPc hDc hK hXN rfl rfl) rfl rfl hl.1 rfl (lv_room (Nat.le_of_ble_eq_true rfl)) dX11_count_85 ⟨Nat.le_of_ble_eq_true rfl, Nat.le_of_ble_eq_true rfl⟩) hS hFc hFc rfl (fun t H locs ht hB hk1 hS => ?_)
              obtain ⟨hP1, hD1⟩ := hB
              rw [ht] at hP1
              replace hP := z0 hP hD hk1 hP1 hI1
              clear hk1 hPc hDc hFc hP1 hD1 ht hI1
              refine lv_if_eq (tgt := 101) hx hb dX11_count_88 rfl (fun c_19 => ?_) (fun c_19 => ?_)
              · have c_19 : ¬ (q < ft ∧ (st q).toInt = 1 ∧ (tn q).toInt = 0) := zp_0 c_19
                refine lv_iconst (v := 0) hx hb dX11_count_101 rfl ?_
                refine lv_iadd hx hb dX11_count_102 ?_
                refine zz_i (v := nI ((smP (lvF ft st tn) (fun g => nN (mn g)) q) + 0)) (nI_add (smP (lvF ft st tn) (fun g => nN (mn g)) q) 0) ?_
                refine lv_istore (lv' := [(5, .int (nI ((smP (lvF ft st tn) (fun g => nN (mn g)) q) + 0))), (4, .int (nI ((cntP (fun g => ¬ (tn g).toInt = 0) q) + 1))), (3, .int (nI ((cntP (fun g => (st g).toInt = 2) q) + 1))), (2, .int (nI ((cntP (fun g => (st g).toInt = 1) q) + 1))), (6, .int (nI q)), (0, .ref k0), (1, .int 0)]) hx hb dX11_count_103 hl (Nat.le_of_ble_eq_true rfl) rfl (fun ls hl => ?_)
                refine lv_iinc (v := nI (q + 1)) (lv' := [(6, .int (nI (q + 1))), (5, .int (nI ((smP (lvF ft st tn) (fun g => nN (mn g)) q) + 0))), (4, .int (nI ((cntP (fun g => ¬ (tn g).toInt = 0) q) + 1))), (3, .int (nI ((cntP (fun g => (st g).toInt = 2) q) + 1))), (2, .int (nI ((cntP (fun g => (st g).toInt = 1) q) + 1))), (0, .ref k0), (1, .int 0)]) hx hb dX11_count_105 hl (k := 4) rfl (nI_add q 1) (Nat.le_of_ble_eq_true rfl) rfl (fun ls hl => ?_)
                refine lv_goto (tgt := 13) hx hb dX11_count_108 rfl ?_
                have hl9 := lv_sub hl [0, 1, 2, 3, 4, 5, 6] rfl
                have e9_2 : nI (cntP (fun g => (st g).toInt = 1) (q + 1)) = (nI ((cntP (fun g => (st g).toInt = 1) q) + 1) : Int32) := by first | exact congrArg nI (cntP_y (P := fun g => (st g).toInt = 1) (show (st q).toInt = 1 by omega)) | exact congrArg nI (cntP_n0 (P := fun g => (st g).toInt = 1) (show ¬ (st q).toInt = 1 by omega))
                have e9_3 : nI (cntP (fun g => (st g).toInt = 2) (q + 1)) = (nI ((cntP (fun g => (st g).toInt = 2) q) + 1) : Int32) := by first | exact congrArg nI (cntP_y (P := fun g => (st g).toInt = 2) (show (st q).toInt = 2 by omega)) | exact congrArg nI (cntP_n0 (P := fun g => (st g).toInt = 2) (show ¬ (st q).toInt = 2 by omega))
                have e9_4 : nI (cntP (fun g => ¬ (tn g).toInt = 0) (q + 1)) = (nI ((cntP (fun g => ¬ (tn g).toInt = 0) q) + 1) : Int32) := by first | exact congrArg nI (cntP_y (P := fun g => ¬ (tn g).toInt = 0) (show ¬ (tn q).toInt = 0 by omega)) | exact congrArg nI (cntP_n0 (P := fun g => ¬ (tn g).toInt = 0) (show ¬ ¬ (tn q).toInt = 0 by omega))
                have e9_5 : nI (smP (lvF ft st tn) (fun g => nN (mn g)) (q + 1)) = (nI ((smP (lvF ft st tn) (fun g => nN (mn g)) q) + 0) : Int32) := by first | exact congrArg nI (smP_y (P := lvF ft st tn) (by first | with_reducible assumption | assumption)) | exact congrArg nI (smP_n (P := lvF ft st tn) (by first | with_reducible assumption | assumption))
                have hl9 : lv_has ls 7 [(6, .int (nI (q + 1))), (5, .int (nI (smP (lvF ft st tn) (fun g => nN (mn g)) (q + 1)))), (4, .int (nI (cntP (fun g => ¬ (tn g).toInt = 0) (q + 1)))), (3, .int (nI (cntP (fun g => (st g).toInt = 2) (q + 1)))), (2, .int (nI (cntP (fun g => (st g).toInt = 1) (q + 1)))), (0, .ref k0), (1, .int 0)] := by rw [e9_2]; rw [e9_3]; rw [e9_4]; rw [e9_5]; exact hl9
                exact ih_13 (q + 1) H locs ls (by first | with_reducible assumption | omega) (by first | with_reducible assumption | omega) hP hD hS hl9
              · have c_19 : q < ft ∧ (st q).toInt = 1 ∧ (tn q).toInt = 0 := zp_1 c_19
                refine lv_aload_n hx hb dX11_count_91 rfl (lv_at hl 5 rfl) ?_
                refine va_get (D := (dC, dI)) (ci := 9) (v := .ref (a 11)) (C := RX11) (T := TX11) (N := 55) hx hb hts inX11 hown hK hP 0 rfl rfl 11 (Nat.le_of_ble_eq_true rfl) (hts _ mw_1170) (fun _ h9 => h9) rfl dX11_count_92 ?_
                refine lv_iload hx hb dX11_count_95 (lv_at hl 3 rfl) ?_
                refine z_iald hx hb hK hP 3 0 rfl rfl (e := q) rfl b9_4 (Nat.le_of_ble_eq_true rfl) dX11_count_97 ?_
                refine zz_i (v := nI (nN (mn q))) ((hmw q (by first | with_reducible assumption | assumption)).1) ?_
                refine lv_goto (tgt := 102) hx hb dX11_count_98 rfl ?_
                refine lv_iadd hx hb dX11_count_102 ?_
                refine zz_i (v := nI ((smP (lvF ft st tn) (fun g => nN (mn g)) q) + (nN (mn q)))) (nI_add (smP (lvF ft st tn) (fun g => nN (mn g)) q) (nN (mn q))) ?_
                refine lv_istore (lv' := [(5, .int (nI ((smP (lvF ft st tn) (fun g => nN (mn g)) q) + (nN (mn q))))), (4, .int (nI ((cntP (fun g => ¬ (tn g).toInt = 0) q) + 1))), (3, .int (nI ((cntP (fun g => (st g).toInt = 2) q) + 1))), (2, .int (nI ((cntP (fun g => (st g).toInt = 1) q) + 1))), (6, .int (nI q)), (0, .ref k0), (1, .int 0)]) hx hb dX11_count_103 hl (Nat.le_of_ble_eq_true rfl) rfl (fun ls hl => ?_)
                refine lv_iinc (v := nI (q + 1)) (lv' := [(6, .int (nI (q + 1))), (5, .int (nI ((smP (lvF ft st tn) (fun g => nN (mn g)) q) + (nN (mn q))))), (4, .int (nI ((cntP (fun g => ¬ (tn g).toInt = 0) q) + 1))), (3, .int (nI ((cntP (fun g => (st g).toInt = 2) q) + 1))), (2, .int (nI ((cntP (fun g => (st g).toInt = 1) q) + 1))), (0, .ref k0), (1, .int 0)]) hx hb dX11_count_105 hl (k := 4) rfl (nI_add q 1) (Nat.le_of_ble_eq_true rfl) rfl (fun ls hl => ?_)
                refine lv_goto (tgt := 13) hx hb dX11_count_108 rfl ?_
                have hl9 := lv_sub hl [0, 1, 2, 3, 4, 5, 6] rfl
                have e9_2 : nI (cntP (fun g => (st g).toInt = 1) (q + 1)) = (nI ((cntP (fun g => (st g).toInt = 1) q) + 1) : Int32) := by first | exact congrArg nI (cntP_y (P := fun g => (st g).toInt = 1) (show (st q).toInt = 1 by omega)) | exact congrArg nI (cntP_n0 (P := fun g => (st g).toInt = 1) (show ¬ (st q).toInt = 1 by omega))
                have e9_3 : nI (cntP (fun g => (st g).toInt = 2) (q + 1)) = (nI ((cntP (fun g => (st g).toInt = 2) q) + 1) : Int32) := by first | exact congrArg nI (cntP_y (P := fun g => (st g).toInt = 2) (show (st q).toInt = 2 by omega)) | exact congrArg nI (cntP_n0 (P := fun g => (st g).toInt = 2) (show ¬ (st q).toInt = 2 by omega))
                have e9_4 : nI (cntP (fun g => ¬ (tn g).toInt = 0) (q + 1)) = (nI ((cntP (fun g => ¬ (tn g).toInt = 0) q) + 1) : Int32) := by first | exact congrArg nI (cntP_y (P := fun g => ¬ (tn g).toInt = 0) (show ¬ (tn q).toInt = 0 by omega)) | exact congrArg nI (cntP_n0 (P := fun g => ¬ (tn g).toInt = 0) (show ¬ ¬ (tn q).toInt = 0 by omega))
                have e9_5 : nI (smP (lvF ft st tn) (fun g => nN (mn g)) (q + 1)) = (nI ((smP (lvF ft st tn) (fun g => nN (mn g)) q) + (nN (mn q))) : Int32) := by first | exact congrArg nI (smP_y (P := lvF ft st tn) (by first | with_reducible assumption | assumption)) | exact congrArg nI (smP_n (P := lvF ft st tn) (by first | with_reducible assumption | assumption))
                have hl9 : lv_has ls 7 [(6, .int (nI (q + 1))), (5, .int (nI (smP (lvF ft st tn) (fun g => nN (mn g)) (q + 1)))), (4, .int (nI (cntP (fun g => ¬ (tn g).toInt = 0) (q + 1)))), (3, .int (nI (cntP (fun g => (st g).toInt = 2) (q + 1)))), (2, .int (nI (cntP (fun g => (st g).toInt = 1) (q + 1)))), (0, .ref k0), (1, .int 0)] := by rw [e9_2]; rw [e9_3]; rw [e9_4]; rw [e9_5]; exact hl9
                exact ih_13 (q + 1) H locs ls (by first | with_reducible assumption | omega) (by first | with_reducible assumption | omega) hP hD hS hl9
  have e9_2 : nI (cntP (fun g => (st g).toInt = 1) 0) = (0 : Int32) := by rfl
  have e9_3 : nI (cntP (fun g => (st g).toInt = 2) 0) = (0 : Int32) := by rfl
  have e9_4 : nI (cntP (fun g => ¬ (tn g).toInt = 0) 0) = (0 : Int32) := by rfl
  have e9_5 : nI (smP (lvF ft st tn) (fun g => nN (mn g)) 0) = (0 : Int32) := by rfl
  have hl9 : lv_has ls 7 [(6, .int (nI 0)), (5, .int (nI (smP (lvF ft st tn) (fun g => nN (mn g)) 0))), (4, .int (nI (cntP (fun g => ¬ (tn g).toInt = 0) 0))), (3, .int (nI (cntP (fun g => (st g).toInt = 2) 0))), (2, .int (nI (cntP (fun g => (st g).toInt = 1) 0))), (0, .ref k0), (1, .int 0)] := by rw [e9_2]; rw [e9_3]; rw [e9_4]; rw [e9_5]; exact lv_sub hl [0, 1, 2, 3, 4, 5, 6] rfl
  exact hl_13 _ 0 s.heap [] ls (Nat.lt_succ_self _) (by first | with_reducible assumption | omega) hP hD hS hl9
set_option maxHeartbeats 4000000 in
set_option maxRecDepth 100000 in
theorem k_M_count_1 (l : Launch) (dC : Nat → ClassId) (dI : Nat → Nat → Nat) (cI cZ cF : ClassId) (sz : Nat) (k0 : Nat) (a : Nat → Nat) (I0 : Nat → Int32) (J0 : Nat → Int64) (ft : Nat) (st : Nat → Int32) (tn : Nat → Int32) (mn : Nat → Int32) (hft : I0 0 = nI ft) (h200 : ft ≤ 200) (hmw : ∀ q, lvF ft st tn q → mn q = nI (nN (mn q)) ∧ nN (mn q) ≤ 40) : zM l yX11_count cX11_count 7 (some .int) ({ frames := 2, cells := 0, slots := 0, locals := 42 } : Room) [.ref k0, .int 1] (dC, dI) (zTy cI cZ cF) [(om k0 a I0 J0), (oa (a 5) cI 201 st), (oa (a 6) cZ 201 tn), (oa (a 11) cI 201 mn)] sz (some (.int (nI (cntP (fun g => (st g).toInt = 1) ft)))) (fun A t => zPD (dC, dI) classes A [(om k0 a I0 J0), (oa (a 5) cI 201 st), (oa (a 6) cZ 201 tn), (oa (a 11) cI 201 mn)] t.heap) 0 0 := by
  refine zIn (own := "ScaleShopModel") (loc := [(0, .ref k0), (1, .int 1)]) rfl rfl rfl rfl (fun p e s m below meth c hx hb hr hts hown hlocks hml hnm9 A hA hS hP hD hK hXN Q9 hQ9 ls hl => ?_)
  refine lv_iconst (v := 0) hx hb dX11_count_0 rfl ?_
  refine lv_istore_n (lv' := [(2, .int 0), (0, .ref k0), (1, .int 1)]) hx hb dX11_count_1 rfl hl (Nat.le_of_ble_eq_true rfl) rfl (fun ls hl => ?_)
  refine lv_iconst (v := 0) hx hb dX11_count_2 rfl ?_
  refine lv_istore_n (lv' := [(3, .int 0), (2, .int 0), (0, .ref k0), (1, .int 1)]) hx hb dX11_count_3 rfl hl (Nat.le_of_ble_eq_true rfl) rfl (fun ls hl => ?_)
  refine lv_iconst (v := 0) hx hb dX11_count_4 rfl ?_
  refine lv_istore (lv' := [(4, .int 0), (3, .int 0), (2, .int 0), (0, .ref k0), (1, .int 1)]) hx hb dX11_count_5 hl (Nat.le_of_ble_eq_true rfl) rfl (fun ls hl => ?_)
  refine lv_iconst (v := 0) hx hb dX11_count_7 rfl ?_
  refine lv_istore (lv' := [(5, .int 0), (4, .int 0), (3, .int 0), (2, .int 0), (0, .ref k0), (1, .int 1)]) hx hb dX11_count_8 hl (Nat.le_of_ble_eq_true rfl) rfl (fun ls hl => ?_)
  refine lv_iconst (v := 0) hx hb dX11_count_10 rfl ?_
  refine lv_istore (lv' := [(6, .int 0), (5, .int 0), (4, .int 0), (3, .int 0), (2, .int 0), (0, .ref k0), (1, .int 1)]) hx hb dX11_count_11 hl (Nat.le_of_ble_eq_true rfl) rfl (fun ls hl => ?_)
  have hl_13 : ∀ (n9 : Nat) (q : Nat) (H : Heap) (locs : List Loc) (ls : Array Slot), ft - q < n9 → (q ≤ ft) → va_P (dC, dI) classes [(om k0 a I0 J0), (oa (a 5) cI 201 st), (oa (a 6) cZ 201 tn), (oa (a 11) cI 201 mn)] H → va_D A [(om k0 a I0 J0), (oa (a 5) cI 201 st), (oa (a 6) cZ 201 tn), (oa (a 11) cI 201 mn)] → va_S A s.heap H locs → lv_has ls 7 [(6, .int (nI q)), (5, .int (nI (smP (lvF ft st tn) (fun g => nN (mn g)) q))), (4, .int (nI (cntP (fun g => ¬ (tn g).toInt = 0) q))), (3, .int (nI (cntP (fun g => (st g).toInt = 2) q))), (2, .int (nI (cntP (fun g => (st g).toInt = 1) q))), (0, .ref k0), (1, .int 1)] → W p l e ({ frames := 2, cells := 0, slots := 0, locals := 42 } : Room) s m ([.ref k0, .int 1] : List Value).toArray below meth c H locs 0 0 Q9 (F0 m 13 ls []) := by
    intro n9
    induction n9 with
    | zero => intro q H locs ls hm; exact absurd hm (Nat.not_lt_zero _)
    | succ n9 ih_13 =>
      intro q H locs ls hm hq hP hD hS hl
      have hc2 := cntP_b (fun g => (st g).toInt = 1) q
      have hc3 := cntP_b (fun g => (st g).toInt = 2) q
      have hc4 := cntP_b (fun g => ¬ (tn g).toInt = 0) q
      have hc5 := smP_b (P := lvF ft st tn) (c := fun g => nN (mn g)) q (fun j _ h => (hmw j h).2)
      refine lv_iload hx hb dX11_count_13 (lv_at hl 0 rfl) ?_
      refine lv_aload_n hx hb dX11_count_15 rfl (lv_at hl 5 rfl) ?_
      refine va_get (D := (dC, dI)) (ci := 9) (v := .int (I0 0)) (C := RX11) (T := TX11) (N := 55) hx hb hts inX11 hown hK hP 0 rfl rfl 0 (Nat.le_of_ble_eq_true rfl) (hts _ mw_1159) (fun _ h9 => h9) rfl dX11_count_16 ?_
      refine zz_i (v := nI ft) (hft) ?_
      have b9_2 : zlt (q) := show q < 2147483648 by omega
      have b9_3 : zlt (ft) := show ft < 2147483648 by omega
      refine lv_icmp_ge (tgt := 111) hx hb dX11_count_19 rfl (fun c_1 => ?_) (fun c_1 => ?_)
      · have c_1 : ((ft : Nat) : Int) ≤ ((q : Nat) : Int) := zc_le (nI_toInt b9_3) (nI_toInt b9_2) c_1
        refine lv_iload_n hx hb dX11_count_111 rfl (lv_at hl 6 rfl) ?_
        refine lv_tableIn (tgt := 165) (off := 53) hx hb dX11_count_112 (by decide) (by decide) (by decide) (by decide) ?_
        refine lv_iload_n hx hb dX11_count_165 rfl (lv_at hl 4 rfl) ?_
        obtain ⟨hP9, hD9⟩ := zu_sub (wc := [_, _, _, _]) hP hD [true, true, true, true] rfl rfl
        rw [hQ9]
        exact W.iret (v := nI (cntP (fun g => (st g).toInt = 1) q)) hx hb hr (fun t ht hW => ⟨⟨congrArg (fun z => Outcome.returned (some (Value.int z))) (show (nI (cntP (fun g => (st g).toInt = 1) q) : Int32) = nI (cntP (fun g => (st g).toInt = 1) ft) from zn_eq (by rw [show q = ft by omega])), by rw [ht]; exact hP9, hD9⟩, hS.F ht⟩) hS.2.2 dX11_count_166
      · have c_1 : ((q : Nat) : Int) < ((ft : Nat) : Int) := zc_nle (nI_toInt b9_3) (nI_toInt b9_2) c_1
        refine lv_iload_n hx hb dX11_count_22 rfl (lv_at hl 4 rfl) ?_
        refine lv_aload_n hx hb dX11_count_23 rfl (lv_at hl 5 rfl) ?_
        refine va_get (D := (dC, dI)) (ci := 9) (v := .ref (a 5)) (C := RX11) (T := TX11) (N := 55) hx hb hts inX11 hown hK hP 0 rfl rfl 5 (Nat.le_of_ble_eq_true rfl) (hts _ mw_1164) (fun _ h9 => h9) rfl dX11_count_24 ?_
        refine lv_iload hx hb dX11_count_27 (lv_at hl 0 rfl) ?_
        have b9_4 : q < 201 := by omega
        refine z_iald hx hb hK hP 1 0 rfl rfl (e := q) rfl b9_4 (Nat.le_of_ble_eq_true rfl) dX11_count_29 ?_
        refine lv_iconst (v := 1) hx hb dX11_count_30 rfl ?_
        refine lv_icmp_ne (tgt := 38) hx hb dX11_count_31 rfl (fun c_5 => ?_) (fun c_5 => ?_)
        · have c_5 : ¬ (st q).toInt = 1 := zc_ne rfl rfl c_5
          refine lv_iconst (v := 0) hx hb dX11_count_38 rfl ?_
          refine lv_iadd hx hb dX11_count_39 ?_
          refine zz_i (v := nI ((cntP (fun g => (st g).toInt = 1) q) + 0)) (nI_add (cntP (fun g => (st g).toInt = 1) q) 0) ?_
          refine lv_istore_n (lv' := [(2, .int (nI ((cntP (fun g => (st g).toInt = 1) q) + 0))), (6, .int (nI q)), (5, .int (nI (smP (lvF ft st tn) (fun g => nN (mn g)) q))), (4, .int (nI (cntP (fun g => ¬ (tn g).toInt = 0) q))), (3, .int (nI (cntP (fun g => (st g).toInt = 2) q))), (0, .ref k0), (1, .int 1)]) hx hb dX11_count_40 rfl hl (Nat.le_of_ble_eq_true rfl) rfl (fun ls hl => ?_)
          refine lv_iload_n hx hb dX11_count_41 rfl (lv_at hl 4 rfl) ?_
          refine lv_aload_n hx hb dX11_count_42 rfl (lv_at hl 5 rfl) ?_
          refine va_get (D := (dC, dI)) (ci := 9) (v := .ref (a 5)) (C := RX11) (T := TX11) (N := 55) hx hb hts inX11 hown hK hP 0 rfl rfl 5 (Nat.le_of_ble_eq_true rfl) (hts _ mw_1164) (fun _ h9 => h9) rfl dX11_count_43 ?_
          refine lv_iload hx hb dX11_count_46 (lv_at hl 1 rfl) ?_
          refine z_iald hx hb hK hP 1 0 rfl rfl (e := q) rfl b9_4 (Nat.le_of_ble_eq_true rfl) dX11_count_48 ?_
          refine lv_iconst (v := 2) hx hb dX11_count_49 rfl ?_
          refine lv_icmp_ne (tgt := 57) hx hb dX11_count_50 rfl (fun c_6 => ?_) (fun c_6 => ?_)
          · have c_6 : ¬ (st q).toInt = 2 := zc_ne rfl rfl c_6
            refine lv_iconst (v := 0) hx hb dX11_count_57 rfl ?_
            refine lv_iadd hx hb dX11_count_58 ?_
            refine zz_i (v := nI ((cntP (fun g => (st g).toInt = 2) q) + 0)) (nI_add (cntP (fun g => (st g).toInt = 2) q) 0) ?_
            refine lv_istore_n (lv' := [(3, .int (nI ((cntP (fun g => (st g).toInt = 2) q) + 0))), (2, .int (nI ((cntP (fun g => (st g).toInt = 1) q) + 0))), (6, .int (nI q)), (5, .int (nI (smP (lvF ft st tn) (fun g => nN (mn g)) q))), (4, .int (nI (cntP (fun g => ¬ (tn g).toInt = 0) q))), (0, .ref k0), (1, .int 1)]) hx hb dX11_count_59 rfl hl (Nat.le_of_ble_eq_true rfl) rfl (fun ls hl => ?_)
            refine lv_iload hx hb dX11_count_60 (lv_at hl 4 rfl) ?_
            refine lv_aload_n hx hb dX11_count_62 rfl (lv_at hl 5 rfl) ?_
            refine va_get (D := (dC, dI)) (ci := 9) (v := .ref (a 6)) (C := RX11) (T := TX11) (N := 55) hx hb hts inX11 hown hK hP 0 rfl rfl 6 (Nat.le_of_ble_eq_true rfl) (hts _ mw_1165) (fun _ h9 => h9) rfl dX11_count_63 ?_
            refine lv_iload hx hb dX11_count_66 (lv_at hl 2 rfl) ?_
            refine z_zald hx hb hK hP 2 1 rfl rfl (e := q) rfl b9_4 (Nat.le_of_ble_eq_true rfl) dX11_count_68 ?_
            refine lv_if_eq (tgt := 76) hx hb dX11_count_69 rfl (fun c_7 => ?_) (fun c_7 => ?_)
            · have c_7 : (tn q).toInt = 0 := zc_eq rfl rfl c_7
              refine lv_iconst (v := 0) hx hb dX11_count_76 rfl ?_
              refine lv_iadd hx hb dX11_count_77 ?_
              refine zz_i (v := nI ((cntP (fun g => ¬ (tn g).toInt = 0) q) + 0)) (nI_add (cntP (fun g => ¬ (tn g).toInt = 0) q) 0) ?_
              refine lv_istore (lv' := [(4, .int (nI ((cntP (fun g => ¬ (tn g).toInt = 0) q) + 0))), (3, .int (nI ((cntP (fun g => (st g).toInt = 2) q) + 0))), (2, .int (nI ((cntP (fun g => (st g).toInt = 1) q) + 0))), (6, .int (nI q)), (5, .int (nI (smP (lvF ft st tn) (fun g => nN (mn g)) q))), (0, .ref k0), (1, .int 1)]) hx hb dX11_count_78 hl (Nat.le_of_ble_eq_true rfl) rfl (fun ls hl => ?_)
              refine lv_iload hx hb dX11_count_80 (lv_at hl 4 rfl) ?_
              refine lv_aload_n hx hb dX11_count_82 rfl (lv_at hl 5 rfl) ?_
              refine lv_iload hx hb dX11_count_83 (lv_at hl 3 rfl) ?_
              obtain ⟨hPc, hDc, hFc, hI1⟩ := zi_sub (wc := [_, _, _]) hP hD hS hA [0, 1, 2] rfl rfl
              refine zcall (st1 := [.int (pI (q < ft ∧ (st q).toInt = 1 ∧ (tn q).toInt = 0)), .int (nI (smP (lvF ft st tn) (fun g => nN (mn g)) q))]) (va_runV (As := [.int (nI q)]) (rest := [.int (nI (smP (lvF ft st tn) (fun g => nN (mn g)) q))]) ⟨hx, hb, hml, hown, hts⟩ (k_M_is_n l dC dI cI cZ cF H.size k0 a I0 J0 q ft st tn (by first | with_reducible assumption | assumption) (by first | with_reducible assumption | omega) (by first | with_reducible assumption | omega)) (csV_179 hts rfl rfl ⟨Nat.le_of_ble_eq_true rfl, Nat.le_of_ble_eq_true rfl⟩) (zPV2 (q0 := 0) (ci := 9) hPc hDc hK hXN rfl rfl) rfl rfl hl.1 rfl (lv_room (Nat.le_of_ble_eq_true rfl)) dX11_count_85 ⟨Nat.le_of_ble_eq_true rfl, Nat.le_of_ble_eq_true rfl⟩) hS hFc hFc rfl (fun t H locs ht hB hk1 hS => ?_)
              obtain ⟨hP1, hD1⟩ := hB
              rw [ht] at hP1
              replace hP := z0 hP hD hk1 hP1 hI1
              clear hk1 hPc hDc hFc hP1 hD1 ht hI1
              refine lv_if_eq (tgt := 101) hx hb dX11_count_88 rfl (fun c_8 => ?_) (fun c_8 => ?_)
              · have c_8 : ¬ (q < ft ∧ (st q).toInt = 1 ∧ (tn q).toInt = 0) := zp_0 c_8
                refine lv_iconst (v := 0) hx hb dX11_count_101 rfl ?_
                refine lv_iadd hx hb dX11_count_102 ?_
                refine zz_i (v := nI ((smP (lvF ft st tn) (fun g => nN (mn g)) q) + 0)) (nI_add (smP (lvF ft st tn) (fun g => nN (mn g)) q) 0) ?_
                refine lv_istore (lv' := [(5, .int (nI ((smP (lvF ft st tn) (fun g => nN (mn g)) q) + 0))), (4, .int (nI ((cntP (fun g => ¬ (tn g).toInt = 0) q) + 0))), (3, .int (nI ((cntP (fun g => (st g).toInt = 2) q) + 0))), (2, .int (nI ((cntP (fun g => (st g).toInt = 1) q) + 0))), (6, .int (nI q)), (0, .ref k0), (1, .int 1)]) hx hb dX11_count_103 hl (Nat.le_of_ble_eq_true rfl) rfl (fun ls hl => ?_)
                refine lv_iinc (v := nI (q + 1)) (lv' := [(6, .int (nI (q + 1))), (5, .int (nI ((smP (lvF ft st tn) (fun g => nN (mn g)) q) + 0))), (4, .int (nI ((cntP (fun g => ¬ (tn g).toInt = 0) q) + 0))), (3, .int (nI ((cntP (fun g => (st g).toInt = 2) q) + 0))), (2, .int (nI ((cntP (fun g => (st g).toInt = 1) q) + 0))), (0, .ref k0), (1, .int 1)]) hx hb dX11_count_105 hl (k := 4) rfl (nI_add q 1) (Nat.le_of_ble_eq_true rfl) rfl (fun ls hl => ?_)
                refine lv_goto (tgt := 13) hx hb dX11_count_108 rfl ?_
                have hl9 := lv_sub hl [0, 1, 2, 3, 4, 5, 6] rfl
                have e9_2 : nI (cntP (fun g => (st g).toInt = 1) (q + 1)) = (nI ((cntP (fun g => (st g).toInt = 1) q) + 0) : Int32) := by first | exact congrArg nI (cntP_y (P := fun g => (st g).toInt = 1) (show (st q).toInt = 1 by omega)) | exact congrArg nI (cntP_n0 (P := fun g => (st g).toInt = 1) (show ¬ (st q).toInt = 1 by omega))
                have e9_3 : nI (cntP (fun g => (st g).toInt = 2) (q + 1)) = (nI ((cntP (fun g => (st g).toInt = 2) q) + 0) : Int32) := by first | exact congrArg nI (cntP_y (P := fun g => (st g).toInt = 2) (show (st q).toInt = 2 by omega)) | exact congrArg nI (cntP_n0 (P := fun g => (st g).toInt = 2) (show ¬ (st q).toInt = 2 by omega))
                have e9_4 : nI (cntP (fun g => ¬ (tn g).toInt = 0) (q + 1)) = (nI ((cntP (fun g => ¬ (tn g).toInt = 0) q) + 0) : Int32) := by first | exact congrArg nI (cntP_y (P := fun g => ¬ (tn g).toInt = 0) (show ¬ (tn q).toInt = 0 by omega)) | exact congrArg nI (cntP_n0 (P := fun g => ¬ (tn g).toInt = 0) (show ¬ ¬ (tn q).toInt = 0 by omega))
                have e9_5 : nI (smP (lvF ft st tn) (fun g => nN (mn g)) (q + 1)) = (nI ((smP (lvF ft st tn) (fun g => nN (mn g)) q) + 0) : Int32) := by first | exact congrArg nI (smP_y (P := lvF ft st tn) (by first | with_reducible assumption | assumption)) | exact congrArg nI (smP_n (P := lvF ft st tn) (by first | with_reducible assumption | assumption))
                have hl9 : lv_has ls 7 [(6, .int (nI (q + 1))), (5, .int (nI (smP (lvF ft st tn) (fun g => nN (mn g)) (q + 1)))), (4, .int (nI (cntP (fun g => ¬ (tn g).toInt = 0) (q + 1)))), (3, .int (nI (cntP (fun g => (st g).toInt = 2) (q + 1)))), (2, .int (nI (cntP (fun g => (st g).toInt = 1) (q + 1)))), (0, .ref k0), (1, .int 1)] := by rw [e9_2]; rw [e9_3]; rw [e9_4]; rw [e9_5]; exact hl9
                exact ih_13 (q + 1) H locs ls (by first | with_reducible assumption | omega) (by first | with_reducible assumption | omega) hP hD hS hl9
              · have c_8 : q < ft ∧ (st q).toInt = 1 ∧ (tn q).toInt = 0 := zp_1 c_8
                refine lv_aload_n hx hb dX11_count_91 rfl (lv_at hl 5 rfl) ?_
                refine va_get (D := (dC, dI)) (ci := 9) (v := .ref (a 11)) (C := RX11) (T := TX11) (N := 55) hx hb hts inX11 hown hK hP 0 rfl rfl 11 (Nat.le_of_ble_eq_true rfl) (hts _ mw_1170) (fun _ h9 => h9) rfl dX11_count_92 ?_
                refine lv_iload hx hb dX11_count_95 (lv_at hl 3 rfl) ?_
                refine z_iald hx hb hK hP 3 0 rfl rfl (e := q) rfl b9_4 (Nat.le_of_ble_eq_true rfl) dX11_count_97 ?_
                refine zz_i (v := nI (nN (mn q))) ((hmw q (by first | with_reducible assumption | assumption)).1) ?_
                refine lv_goto (tgt := 102) hx hb dX11_count_98 rfl ?_
                refine lv_iadd hx hb dX11_count_102 ?_
                refine zz_i (v := nI ((smP (lvF ft st tn) (fun g => nN (mn g)) q) + (nN (mn q)))) (nI_add (smP (lvF ft st tn) (fun g => nN (mn g)) q) (nN (mn q))) ?_
                refine lv_istore (lv' := [(5, .int (nI ((smP (lvF ft st tn) (fun g => nN (mn g)) q) + (nN (mn q))))), (4, .int (nI ((cntP (fun g => ¬ (tn g).toInt = 0) q) + 0))), (3, .int (nI ((cntP (fun g => (st g).toInt = 2) q) + 0))), (2, .int (nI ((cntP (fun g => (st g).toInt = 1) q) + 0))), (6, .int (nI q)), (0, .ref k0), (1, .int 1)]) hx hb dX11_count_103 hl (Nat.le_of_ble_eq_true rfl) rfl (fun ls hl => ?_)
                refine lv_iinc (v := nI (q + 1)) (lv' := [(6, .int (nI (q + 1))), (5, .int (nI ((smP (lvF ft st tn) (fun g => nN (mn g)) q) + (nN (mn q))))), (4, .int (nI ((cntP (fun g => ¬ (tn g).toInt = 0) q) + 0))), (3, .int (nI ((cntP (fun g => (st g).toInt = 2) q) + 0))), (2, .int (nI ((cntP (fun g => (st g).toInt = 1) q) + 0))), (0, .ref k0), (1, .int 1)]) hx hb dX11_count_105 hl (k := 4) rfl (nI_add q 1) (Nat.le_of_ble_eq_true rfl) rfl (fun ls hl => ?_)
                refine lv_goto (tgt := 13) hx hb dX11_count_108 rfl ?_
                have hl9 := lv_sub hl [0, 1, 2, 3, 4, 5, 6] rfl
                have e9_2 : nI (cntP (fun g => (st g).toInt = 1) (q + 1)) = (nI ((cntP (fun g => (st g).toInt = 1) q) + 0) : Int32) := by first | exact congrArg nI (cntP_y (P := fun g => (st g).toInt = 1) (show (st q).toInt = 1 by omega)) | exact congrArg nI (cntP_n0 (P := fun g => (st g).toInt = 1) (show ¬ (st q).toInt = 1 by omega))
                have e9_3 : nI (cntP (fun g => (st g).toInt = 2) (q + 1)) = (nI ((cntP (fun g => (st g).toInt = 2) q) + 0) : Int32) := by first | exact congrArg nI (cntP_y (P := fun g => (st g).toInt = 2) (show (st q).toInt = 2 by omega)) | exact congrArg nI (cntP_n0 (P := fun g => (st g).toInt = 2) (show ¬ (st q).toInt = 2 by omega))
                have e9_4 : nI (cntP (fun g => ¬ (tn g).toInt = 0) (q + 1)) = (nI ((cntP (fun g => ¬ (tn g).toInt = 0) q) + 0) : Int32) := by first | exact congrArg nI (cntP_y (P := fun g => ¬ (tn g).toInt = 0) (show ¬ (tn q).toInt = 0 by omega)) | exact congrArg nI (cntP_n0 (P := fun g => ¬ (tn g).toInt = 0) (show ¬ ¬ (tn q).toInt = 0 by omega))
                have e9_5 : nI (smP (lvF ft st tn) (fun g => nN (mn g)) (q + 1)) = (nI ((smP (lvF ft st tn) (fun g => nN (mn g)) q) + (nN (mn q))) : Int32) := by first | exact congrArg nI (smP_y (P := lvF ft st tn) (by first | with_reducible assumption | assumption)) | exact congrArg nI (smP_n (P := lvF ft st tn) (by first | with_reducible assumption | assumption))
                have hl9 : lv_has ls 7 [(6, .int (nI (q + 1))), (5, .int (nI (smP (lvF ft st tn) (fun g => nN (mn g)) (q + 1)))), (4, .int (nI (cntP (fun g => ¬ (tn g).toInt = 0) (q + 1)))), (3, .int (nI (cntP (fun g => (st g).toInt = 2) (q + 1)))), (2, .int (nI (cntP (fun g => (st g).toInt = 1) (q + 1)))), (0, .ref k0), (1, .int 1)] := by rw [e9_2]; rw [e9_3]; rw [e9_4]; rw [e9_5]; exact hl9
                exact ih_13 (q + 1) H locs ls (by first | with_reducible assumption | omega) (by first | with_reducible assumption | omega) hP hD hS hl9
            · have c_7 : ¬ (tn q).toInt = 0 := zc_ne rfl rfl c_7
              refine lv_iconst (v := 1) hx hb dX11_count_72 rfl ?_
              refine lv_goto (tgt := 77) hx hb dX11_count_73 rfl ?_
              refine lv_iadd hx hb dX11_count_77 ?_
              refine zz_i (v := nI ((cntP (fun g => ¬ (tn g).toInt = 0) q) + 1)) (nI_add (cntP (fun g => ¬ (tn g).toInt = 0) q) 1) ?_
              refine lv_istore (lv' := [(4, .int (nI ((cntP (fun g => ¬ (tn g).toInt = 0) q) + 1))), (3, .int (nI ((cntP (fun g => (st g).toInt = 2) q) + 0))), (2, .int (nI ((cntP (fun g => (st g).toInt = 1) q) + 0))), (6, .int (nI q)), (5, .int (nI (smP (lvF ft st tn) (fun g => nN (mn g)) q))), (0, .ref k0), (1, .int 1)]) hx hb dX11_count_78 hl (Nat.le_of_ble_eq_true rfl) rfl (fun ls hl => ?_)
              refine lv_iload hx hb dX11_count_80 (lv_at hl 4 rfl) ?_
              refine lv_aload_n hx hb dX11_count_82 rfl (lv_at hl 5 rfl) ?_
              refine lv_iload hx hb dX11_count_83 (lv_at hl 3 rfl) ?_
              obtain ⟨hPc, hDc, hFc, hI1⟩ := zi_sub (wc := [_, _, _]) hP hD hS hA [0, 1, 2] rfl rfl
              refine zcall (st1 := [.int (pI (q < ft ∧ (st q).toInt = 1 ∧ (tn q).toInt = 0)), .int (nI (smP (lvF ft st tn) (fun g => nN (mn g)) q))]) (va_runV (As := [.int (nI q)]) (rest := [.int (nI (smP (lvF ft st tn) (fun g => nN (mn g)) q))]) ⟨hx, hb, hml, hown, hts⟩ (k_M_is_n l dC dI cI cZ cF H.size k0 a I0 J0 q ft st tn (by first | with_reducible assumption | assumption) (by first | with_reducible assumption | omega) (by first | with_reducible assumption | omega)) (csV_179 hts rfl rfl ⟨Nat.le_of_ble_eq_true rfl, Nat.le_of_ble_eq_true rfl⟩) (zPV2 (q0 := 0) (ci := 9) hPc hDc hK hXN rfl rfl) rfl rfl hl.1 rfl (lv_room (Nat.le_of_ble_eq_true rfl)) dX11_count_85 ⟨Nat.le_of_ble_eq_true rfl, Nat.le_of_ble_eq_true rfl⟩) hS hFc hFc rfl (fun t H locs ht hB hk1 hS => ?_)
              obtain ⟨hP1, hD1⟩ := hB
              rw [ht] at hP1
              replace hP := z0 hP hD hk1 hP1 hI1
              clear hk1 hPc hDc hFc hP1 hD1 ht hI1
              refine lv_if_eq (tgt := 101) hx hb dX11_count_88 rfl (fun c_9 => ?_) (fun c_9 => ?_)
              · have c_9 : ¬ (q < ft ∧ (st q).toInt = 1 ∧ (tn q).toInt = 0) := zp_0 c_9
                refine lv_iconst (v := 0) hx hb dX11_count_101 rfl ?_
                refine lv_iadd hx hb dX11_count_102 ?_
                refine zz_i (v := nI ((smP (lvF ft st tn) (fun g => nN (mn g)) q) + 0)) (nI_add (smP (lvF ft st tn) (fun g => nN (mn g)) q) 0) ?_
                refine lv_istore (lv' := [(5, .int (nI ((smP (lvF ft st tn) (fun g => nN (mn g)) q) + 0))), (4, .int (nI ((cntP (fun g => ¬ (tn g).toInt = 0) q) + 1))), (3, .int (nI ((cntP (fun g => (st g).toInt = 2) q) + 0))), (2, .int (nI ((cntP (fun g => (st g).toInt = 1) q) + 0))), (6, .int (nI q)), (0, .ref k0), (1, .int 1)]) hx hb dX11_count_103 hl (Nat.le_of_ble_eq_true rfl) rfl (fun ls hl => ?_)
                refine lv_iinc (v := nI (q + 1)) (lv' := [(6, .int (nI (q + 1))), (5, .int (nI ((smP (lvF ft st tn) (fun g => nN (mn g)) q) + 0))), (4, .int (nI ((cntP (fun g => ¬ (tn g).toInt = 0) q) + 1))), (3, .int (nI ((cntP (fun g => (st g).toInt = 2) q) + 0))), (2, .int (nI ((cntP (fun g => (st g).toInt = 1) q) + 0))), (0, .ref k0), (1, .int 1)]) hx hb dX11_count_105 hl (k := 4) rfl (nI_add q 1) (Nat.le_of_ble_eq_true rfl) rfl (fun ls hl => ?_)
                refine lv_goto (tgt := 13) hx hb dX11_count_108 rfl ?_
                have hl9 := lv_sub hl [0, 1, 2, 3, 4, 5, 6] rfl
                have e9_2 : nI (cntP (fun g => (st g).toInt = 1) (q + 1)) = (nI ((cntP (fun g => (st g).toInt = 1) q) + 0) : Int32) := by first | exact congrArg nI (cntP_y (P := fun g => (st g).toInt = 1) (show (st q).toInt = 1 by omega)) | exact congrArg nI (cntP_n0 (P := fun g => (st g).toInt = 1) (show ¬ (st q).toInt = 1 by omega))
                have e9_3 : nI (cntP (fun g => (st g).toInt = 2) (q + 1)) = (nI ((cntP (fun g => (st g).toInt = 2) q) + 0) : Int32) := by first | exact congrArg nI (cntP_y (P := fun g => (st g).toInt = 2) (show (st q).toInt = 2 by omega)) | exact congrArg nI (cntP_n0 (P := fun g => (st g).toInt = 2) (show ¬ (st q).toInt = 2 by omega))
                have e9_4 : nI (cntP (fun g => ¬ (tn g).toInt = 0) (q + 1)) = (nI ((cntP (fun g => ¬ (tn g).toInt = 0) q) + 1) : Int32) := by first | exact congrArg nI (cntP_y (P := fun g => ¬ (tn g).toInt = 0) (show ¬ (tn q).toInt = 0 by omega)) | exact congrArg nI (cntP_n0 (P := fun g => ¬ (tn g).toInt = 0) (show ¬ ¬ (tn q).toInt = 0 by omega))
                have e9_5 : nI (smP (lvF ft st tn) (fun g => nN (mn g)) (q + 1)) = (nI ((smP (lvF ft st tn) (fun g => nN (mn g)) q) + 0) : Int32) := by first | exact congrArg nI (smP_y (P := lvF ft st tn) (by first | with_reducible assumption | assumption)) | exact congrArg nI (smP_n (P := lvF ft st tn) (by first | with_reducible assumption | assumption))
                have hl9 : lv_has ls 7 [(6, .int (nI (q + 1))), (5, .int (nI (smP (lvF ft st tn) (fun g => nN (mn g)) (q + 1)))), (4, .int (nI (cntP (fun g => ¬ (tn g).toInt = 0) (q + 1)))), (3, .int (nI (cntP (fun g => (st g).toInt = 2) (q + 1)))), (2, .int (nI (cntP (fun g => (st g).toInt = 1) (q + 1)))), (0, .ref k0), (1, .int 1)] := by rw [e9_2]; rw [e9_3]; rw [e9_4]; rw [e9_5]; exact hl9
                exact ih_13 (q + 1) H locs ls (by first | with_reducible assumption | omega) (by first | with_reducible assumption | omega) hP hD hS hl9
              · have c_9 : q < ft ∧ (st q).toInt = 1 ∧ (tn q).toInt = 0 := zp_1 c_9
                refine lv_aload_n hx hb dX11_count_91 rfl (lv_at hl 5 rfl) ?_
                refine va_get (D := (dC, dI)) (ci := 9) (v := .ref (a 11)) (C := RX11) (T := TX11) (N := 55) hx hb hts inX11 hown hK hP 0 rfl rfl 11 (Nat.le_of_ble_eq_true rfl) (hts _ mw_1170) (fun _ h9 => h9) rfl dX11_count_92 ?_
                refine lv_iload hx hb dX11_count_95 (lv_at hl 3 rfl) ?_
                refine z_iald hx hb hK hP 3 0 rfl rfl (e := q) rfl b9_4 (Nat.le_of_ble_eq_true rfl) dX11_count_97 ?_
                refine zz_i (v := nI (nN (mn q))) ((hmw q (by first | with_reducible assumption | assumption)).1) ?_
                refine lv_goto (tgt := 102) hx hb dX11_count_98 rfl ?_
                refine lv_iadd hx hb dX11_count_102 ?_
                refine zz_i (v := nI ((smP (lvF ft st tn) (fun g => nN (mn g)) q) + (nN (mn q)))) (nI_add (smP (lvF ft st tn) (fun g => nN (mn g)) q) (nN (mn q))) ?_
                refine lv_istore (lv' := [(5, .int (nI ((smP (lvF ft st tn) (fun g => nN (mn g)) q) + (nN (mn q))))), (4, .int (nI ((cntP (fun g => ¬ (tn g).toInt = 0) q) + 1))), (3, .int (nI ((cntP (fun g => (st g).toInt = 2) q) + 0))), (2, .int (nI ((cntP (fun g => (st g).toInt = 1) q) + 0))), (6, .int (nI q)), (0, .ref k0), (1, .int 1)]) hx hb dX11_count_103 hl (Nat.le_of_ble_eq_true rfl) rfl (fun ls hl => ?_)
                refine lv_iinc (v := nI (q + 1)) (lv' := [(6, .int (nI (q + 1))), (5, .int (nI ((smP (lvF ft st tn) (fun g => nN (mn g)) q) + (nN (mn q))))), (4, .int (nI ((cntP (fun g => ¬ (tn g).toInt = 0) q) + 1))), (3, .int (nI ((cntP (fun g => (st g).toInt = 2) q) + 0))), (2, .int (nI ((cntP (fun g => (st g).toInt = 1) q) + 0))), (0, .ref k0), (1, .int 1)]) hx hb dX11_count_105 hl (k := 4) rfl (nI_add q 1) (Nat.le_of_ble_eq_true rfl) rfl (fun ls hl => ?_)
                refine lv_goto (tgt := 13) hx hb dX11_count_108 rfl ?_
                have hl9 := lv_sub hl [0, 1, 2, 3, 4, 5, 6] rfl
                have e9_2 : nI (cntP (fun g => (st g).toInt = 1) (q + 1)) = (nI ((cntP (fun g => (st g).toInt = 1) q) + 0) : Int32) := by first | exact congrArg nI (cntP_y (P := fun g => (st g).toInt = 1) (show (st q).toInt = 1 by omega)) | exact congrArg nI (cntP_n0 (P := fun g => (st g).toInt = 1) (show ¬ (st q).toInt = 1 by omega))
                have e9_3 : nI (cntP (fun g => (st g).toInt = 2) (q + 1)) = (nI ((cntP (fun g => (st g).toInt = 2) q) + 0) : Int32) := by first | exact congrArg nI (cntP_y (P := fun g => (st g).toInt = 2) (show (st q).toInt = 2 by omega)) | exact congrArg nI (cntP_n0 (P := fun g => (st g).toInt = 2) (show ¬ (st q).toInt = 2 by omega))
                have e9_4 : nI (cntP (fun g => ¬ (tn g).toInt = 0) (q + 1)) = (nI ((cntP (fun g => ¬ (tn g).toInt = 0) q) + 1) : Int32) := by first | exact congrArg nI (cntP_y (P := fun g => ¬ (tn g).toInt = 0) (show ¬ (tn q).toInt = 0 by omega)) | exact congrArg nI (cntP_n0 (P := fun g => ¬ (tn g).toInt = 0) (show ¬ ¬ (tn q).toInt = 0 by omega))
                have e9_5 : nI (smP (lvF ft st tn) (fun g => nN (mn g)) (q + 1)) = (nI ((smP (lvF ft st tn) (fun g => nN (mn g)) q) + (nN (mn q))) : Int32) := by first | exact congrArg nI (smP_y (P := lvF ft st tn) (by first | with_reducible assumption | assumption)) | exact congrArg nI (smP_n (P := lvF ft st tn) (by first | with_reducible assumption | assumption))
                have hl9 : lv_has ls 7 [(6, .int (nI (q + 1))), (5, .int (nI (smP (lvF ft st tn) (fun g => nN (mn g)) (q + 1)))), (4, .int (nI (cntP (fun g => ¬ (tn g).toInt = 0) (q + 1)))), (3, .int (nI (cntP (fun g => (st g).toInt = 2) (q + 1)))), (2, .int (nI (cntP (fun g => (st g).toInt = 1) (q + 1)))), (0, .ref k0), (1, .int 1)] := by rw [e9_2]; rw [e9_3]; rw [e9_4]; rw [e9_5]; exact hl9
                exact ih_13 (q + 1) H locs ls (by first | with_reducible assumption | omega) (by first | with_reducible assumption | omega) hP hD hS hl9
          · have c_6 : (st q).toInt = 2 := zc_eq rfl rfl c_6
            refine lv_iconst (v := 1) hx hb dX11_count_53 rfl ?_
            refine lv_goto (tgt := 58) hx hb dX11_count_54 rfl ?_
            refine lv_iadd hx hb dX11_count_58 ?_
            refine zz_i (v := nI ((cntP (fun g => (st g).toInt = 2) q) + 1)) (nI_add (cntP (fun g => (st g).toInt = 2) q) 1) ?_
            refine lv_istore_n (lv' := [(3, .int (nI ((cntP (fun g => (st g).toInt = 2) q) + 1))), (2, .int (nI ((cntP (fun g => (st g).toInt = 1) q) + 0))), (6, .int (nI q)), (5, .int (nI (smP (lvF ft st tn) (fun g => nN (mn g)) q))), (4, .int (nI (cntP (fun g => ¬ (tn g).toInt = 0) q))), (0, .ref k0), (1, .int 1)]) hx hb dX11_count_59 rfl hl (Nat.le_of_ble_eq_true rfl) rfl (fun ls hl => ?_)
            refine lv_iload hx hb dX11_count_60 (lv_at hl 4 rfl) ?_
            refine lv_aload_n hx hb dX11_count_62 rfl (lv_at hl 5 rfl) ?_
            refine va_get (D := (dC, dI)) (ci := 9) (v := .ref (a 6)) (C := RX11) (T := TX11) (N := 55) hx hb hts inX11 hown hK hP 0 rfl rfl 6 (Nat.le_of_ble_eq_true rfl) (hts _ mw_1165) (fun _ h9 => h9) rfl dX11_count_63 ?_
            refine lv_iload hx hb dX11_count_66 (lv_at hl 2 rfl) ?_
            refine z_zald hx hb hK hP 2 1 rfl rfl (e := q) rfl b9_4 (Nat.le_of_ble_eq_true rfl) dX11_count_68 ?_
            refine lv_if_eq (tgt := 76) hx hb dX11_count_69 rfl (fun c_10 => ?_) (fun c_10 => ?_)
            · have c_10 : (tn q).toInt = 0 := zc_eq rfl rfl c_10
              refine lv_iconst (v := 0) hx hb dX11_count_76 rfl ?_
              refine lv_iadd hx hb dX11_count_77 ?_
              refine zz_i (v := nI ((cntP (fun g => ¬ (tn g).toInt = 0) q) + 0)) (nI_add (cntP (fun g => ¬ (tn g).toInt = 0) q) 0) ?_
              refine lv_istore (lv' := [(4, .int (nI ((cntP (fun g => ¬ (tn g).toInt = 0) q) + 0))), (3, .int (nI ((cntP (fun g => (st g).toInt = 2) q) + 1))), (2, .int (nI ((cntP (fun g => (st g).toInt = 1) q) + 0))), (6, .int (nI q)), (5, .int (nI (smP (lvF ft st tn) (fun g => nN (mn g)) q))), (0, .ref k0), (1, .int 1)]) hx hb dX11_count_78 hl (Nat.le_of_ble_eq_true rfl) rfl (fun ls hl => ?_)
              refine lv_iload hx hb dX11_count_80 (lv_at hl 4 rfl) ?_
              refine lv_aload_n hx hb dX11_count_82 rfl (lv_at hl 5 rfl) ?_
              refine lv_iload hx hb dX11_count_83 (lv_at hl 3 rfl) ?_
              obtain ⟨hPc, hDc, hFc, hI1⟩ := zi_sub (wc := [_, _, _]) hP hD hS hA [0, 1, 2] rfl rfl
              refine zcall (st1 := [.int (pI (q < ft ∧ (st q).toInt = 1 ∧ (tn q).toInt = 0)), .int (nI (smP (lvF ft st tn) (fun g => nN (mn g)) q))]) (va_runV (As := [.int (nI q)]) (rest := [.int (nI (smP (lvF ft st tn) (fun g => nN (mn g)) q))]) ⟨hx, hb, hml, hown, hts⟩ (k_M_is_n l dC dI cI cZ cF H.size k0 a I0 J0 q ft st tn (by first | with_reducible assumption | assumption) (by first | with_reducible assumption | omega) (by first | with_reducible assumption | omega)) (csV_179 hts rfl rfl ⟨Nat.le_of_ble_eq_true rfl, Nat.le_of_ble_eq_true rfl⟩) (zPV2 (q0 := 0) (ci := 9) hPc hDc hK hXN rfl rfl) rfl rfl hl.1 rfl (lv_room (Nat.le_of_ble_eq_true rfl)) dX11_count_85 ⟨Nat.le_of_ble_eq_true rfl, Nat.le_of_ble_eq_true rfl⟩) hS hFc hFc rfl (fun t H locs ht hB hk1 hS => ?_)
              obtain ⟨hP1, hD1⟩ := hB
              rw [ht] at hP1
              replace hP := z0 hP hD hk1 hP1 hI1
              clear hk1 hPc hDc hFc hP1 hD1 ht hI1
              refine lv_if_eq (tgt := 101) hx hb dX11_count_88 rfl (fun c_11 => ?_) (fun c_11 => ?_)
              · have c_11 : ¬ (q < ft ∧ (st q).toInt = 1 ∧ (tn q).toInt = 0) := zp_0 c_11
                refine lv_iconst (v := 0) hx hb dX11_count_101 rfl ?_
                refine lv_iadd hx hb dX11_count_102 ?_
                refine zz_i (v := nI ((smP (lvF ft st tn) (fun g => nN (mn g)) q) + 0)) (nI_add (smP (lvF ft st tn) (fun g => nN (mn g)) q) 0) ?_
                refine lv_istore (lv' := [(5, .int (nI ((smP (lvF ft st tn) (fun g => nN (mn g)) q) + 0))), (4, .int (nI ((cntP (fun g => ¬ (tn g).toInt = 0) q) + 0))), (3, .int (nI ((cntP (fun g => (st g).toInt = 2) q) + 1))), (2, .int (nI ((cntP (fun g => (st g).toInt = 1) q) + 0))), (6, .int (nI q)), (0, .ref k0), (1, .int 1)]) hx hb dX11_count_103 hl (Nat.le_of_ble_eq_true rfl) rfl (fun ls hl => ?_)
                refine lv_iinc (v := nI (q + 1)) (lv' := [(6, .int (nI (q + 1))), (5, .int (nI ((smP (lvF ft st tn) (fun g => nN (mn g)) q) + 0))), (4, .int (nI ((cntP (fun g => ¬ (tn g).toInt = 0) q) + 0))), (3, .int (nI ((cntP (fun g => (st g).toInt = 2) q) + 1))), (2, .int (nI ((cntP (fun g => (st g).toInt = 1) q) + 0))), (0, .ref k0), (1, .int 1)]) hx hb dX11_count_105 hl (k := 4) rfl (nI_add q 1) (Nat.le_of_ble_eq_true rfl) rfl (fun ls hl => ?_)
                refine lv_goto (tgt := 13) hx hb dX11_count_108 rfl ?_
                have hl9 := lv_sub hl [0, 1, 2, 3, 4, 5, 6] rfl
                have e9_2 : nI (cntP (fun g => (st g).toInt = 1) (q + 1)) = (nI ((cntP (fun g => (st g).toInt = 1) q) + 0) : Int32) := by first | exact congrArg nI (cntP_y (P := fun g => (st g).toInt = 1) (show (st q).toInt = 1 by omega)) | exact congrArg nI (cntP_n0 (P := fun g => (st g).toInt = 1) (show ¬ (st q).toInt = 1 by omega))
                have e9_3 : nI (cntP (fun g => (st g).toInt = 2) (q + 1)) = (nI ((cntP (fun g => (st g).toInt = 2) q) + 1) : Int32) := by first | exact congrArg nI (cntP_y (P := fun g => (st g).toInt = 2) (show (st q).toInt = 2 by omega)) | exact congrArg nI (cntP_n0 (P := fun g => (st g).toInt = 2) (show ¬ (st q).toInt = 2 by omega))
                have e9_4 : nI (cntP (fun g => ¬ (tn g).toInt = 0) (q + 1)) = (nI ((cntP (fun g => ¬ (tn g).toInt = 0) q) + 0) : Int32) := by first | exact congrArg nI (cntP_y (P := fun g => ¬ (tn g).toInt = 0) (show ¬ (tn q).toInt = 0 by omega)) | exact congrArg nI (cntP_n0 (P := fun g => ¬ (tn g).toInt = 0) (show ¬ ¬ (tn q).toInt = 0 by omega))
                have e9_5 : nI (smP (lvF ft st tn) (fun g => nN (mn g)) (q + 1)) = (nI ((smP (lvF ft st tn) (fun g => nN (mn g)) q) + 0) : Int32) := by first | exact congrArg nI (smP_y (P := lvF ft st tn) (by first | with_reducible assumption | assumption)) | exact congrArg nI (smP_n (P := lvF ft st tn) (by first | with_reducible assumption | assumption))
                have hl9 : lv_has ls 7 [(6, .int (nI (q + 1))), (5, .int (nI (smP (lvF ft st tn) (fun g => nN (mn g)) (q + 1)))), (4, .int (nI (cntP (fun g => ¬ (tn g).toInt = 0) (q + 1)))), (3, .int (nI (cntP (fun g => (st g).toInt = 2) (q + 1)))), (2, .int (nI (cntP (fun g => (st g).toInt = 1) (q + 1)))), (0, .ref k0), (1, .int 1)] := by rw [e9_2]; rw [e9_3]; rw [e9_4]; rw [e9_5]; exact hl9
                exact ih_13 (q + 1) H locs ls (by first | with_reducible assumption | omega) (by first | with_reducible assumption | omega) hP hD hS hl9
              · have c_11 : q < ft ∧ (st q).toInt = 1 ∧ (tn q).toInt = 0 := zp_1 c_11
                refine lv_aload_n hx hb dX11_count_91 rfl (lv_at hl 5 rfl) ?_
                refine va_get (D := (dC, dI)) (ci := 9) (v := .ref (a 11)) (C := RX11) (T := TX11) (N := 55) hx hb hts inX11 hown hK hP 0 rfl rfl 11 (Nat.le_of_ble_eq_true rfl) (hts _ mw_1170) (fun _ h9 => h9) rfl dX11_count_92 ?_
                refine lv_iload hx hb dX11_count_95 (lv_at hl 3 rfl) ?_
                refine z_iald hx hb hK hP 3 0 rfl rfl (e := q) rfl b9_4 (Nat.le_of_ble_eq_true rfl) dX11_count_97 ?_
                refine zz_i (v := nI (nN (mn q))) ((hmw q (by first | with_reducible assumption | assumption)).1) ?_
                refine lv_goto (tgt := 102) hx hb dX11_count_98 rfl ?_
                refine lv_iadd hx hb dX11_count_102 ?_
                refine zz_i (v := nI ((smP (lvF ft st tn) (fun g => nN (mn g)) q) + (nN (mn q)))) (nI_add (smP (lvF ft st tn) (fun g => nN (mn g)) q) (nN (mn q))) ?_
                refine lv_istore (lv' := [(5, .int (nI ((smP (lvF ft st tn) (fun g => nN (mn g)) q) + (nN (mn q))))), (4, .int (nI ((cntP (fun g => ¬ (tn g).toInt = 0) q) + 0))), (3, .int (nI ((cntP (fun g => (st g).toInt = 2) q) + 1))), (2, .int (nI ((cntP (fun g => (st g).toInt = 1) q) + 0))), (6, .int (nI q)), (0, .ref k0), (1, .int 1)]) hx hb dX11_count_103 hl (Nat.le_of_ble_eq_true rfl) rfl (fun ls hl => ?_)
                refine lv_iinc (v := nI (q + 1)) (lv' := [(6, .int (nI (q + 1))), (5, .int (nI ((smP (lvF ft st tn) (fun g => nN (mn g)) q) + (nN (mn q))))), (4, .int (nI ((cntP (fun g => ¬ (tn g).toInt = 0) q) + 0))), (3, .int (nI ((cntP (fun g => (st g).toInt = 2) q) + 1))), (2, .int (nI ((cntP (fun g => (st g).toInt = 1) q) + 0))), (0, .ref k0), (1, .int 1)]) hx hb dX11_count_105 hl (k := 4) rfl (nI_add q 1) (Nat.le_of_ble_eq_true rfl) rfl (fun ls hl => ?_)
                refine lv_goto (tgt := 13) hx hb dX11_count_108 rfl ?_
                have hl9 := lv_sub hl [0, 1, 2, 3, 4, 5, 6] rfl
                have e9_2 : nI (cntP (fun g => (st g).toInt = 1) (q + 1)) = (nI ((cntP (fun g => (st g).toInt = 1) q) + 0) : Int32) := by first | exact congrArg nI (cntP_y (P := fun g => (st g).toInt = 1) (show (st q).toInt = 1 by omega)) | exact congrArg nI (cntP_n0 (P := fun g => (st g).toInt = 1) (show ¬ (st q).toInt = 1 by omega))
                have e9_3 : nI (cntP (fun g => (st g).toInt = 2) (q + 1)) = (nI ((cntP (fun g => (st g).toInt = 2) q) + 1) : Int32) := by first | exact congrArg nI (cntP_y (P := fun g => (st g).toInt = 2) (show (st q).toInt = 2 by omega)) | exact congrArg nI (cntP_n0 (P := fun g => (st g).toInt = 2) (show ¬ (st q).toInt = 2 by omega))
                have e9_4 : nI (cntP (fun g => ¬ (tn g).toInt = 0) (q + 1)) = (nI ((cntP (fun g => ¬ (tn g).toInt = 0) q) + 0) : Int32) := by first | exact congrArg nI (cntP_y (P := fun g => ¬ (tn g).toInt = 0) (show ¬ (tn q).toInt = 0 by omega)) | exact congrArg nI (cntP_n0 (P := fun g => ¬ (tn g).toInt = 0) (show ¬ ¬ (tn q).toInt = 0 by omega))
                have e9_5 : nI (smP (lvF ft st tn) (fun g => nN (mn g)) (q + 1)) = (nI ((smP (lvF ft st tn) (fun g => nN (mn g)) q) + (nN (mn q))) : Int32) := by first | exact congrArg nI (smP_y (P := lvF ft st tn) (by first | with_reducible assumption | assumption)) | exact congrArg nI (smP_n (P := lvF ft st tn) (by first | with_reducible assumption | assumption))
                have hl9 : lv_has ls 7 [(6, .int (nI (q + 1))), (5, .int (nI (smP (lvF ft st tn) (fun g => nN (mn g)) (q + 1)))), (4, .int (nI (cntP (fun g => ¬ (tn g).toInt = 0) (q + 1)))), (3, .int (nI (cntP (fun g => (st g).toInt = 2) (q + 1)))), (2, .int (nI (cntP (fun g => (st g).toInt = 1) (q + 1)))), (0, .ref k0), (1, .int 1)] := by rw [e9_2]; rw [e9_3]; rw [e9_4]; rw [e9_5]; exact hl9
                exact ih_13 (q + 1) H locs ls (by first | with_reducible assumption | omega) (by first | with_reducible assumption | omega) hP hD hS hl9
            · have c_10 : ¬ (tn q).toInt = 0 := zc_ne rfl rfl c_10
              refine lv_iconst (v := 1) hx hb dX11_count_72 rfl ?_
              refine lv_goto (tgt := 77) hx hb dX11_count_73 rfl ?_
              refine lv_iadd hx hb dX11_count_77 ?_
              refine zz_i (v := nI ((cntP (fun g => ¬ (tn g).toInt = 0) q) + 1)) (nI_add (cntP (fun g => ¬ (tn g).toInt = 0) q) 1) ?_
              refine lv_istore (lv' := [(4, .int (nI ((cntP (fun g => ¬ (tn g).toInt = 0) q) + 1))), (3, .int (nI ((cntP (fun g => (st g).toInt = 2) q) + 1))), (2, .int (nI ((cntP (fun g => (st g).toInt = 1) q) + 0))), (6, .int (nI q)), (5, .int (nI (smP (lvF ft st tn) (fun g => nN (mn g)) q))), (0, .ref k0), (1, .int 1)]) hx hb dX11_count_78 hl (Nat.le_of_ble_eq_true rfl) rfl (fun ls hl => ?_)
              refine lv_iload hx hb dX11_count_80 (lv_at hl 4 rfl) ?_
              refine lv_aload_n hx hb dX11_count_82 rfl (lv_at hl 5 rfl) ?_
              refine lv_iload hx hb dX11_count_83 (lv_at hl 3 rfl) ?_
              obtain ⟨hPc, hDc, hFc, hI1⟩ := zi_sub (wc := [_, _, _]) hP hD hS hA [0, 1, 2] rfl rfl
              refine zcall (st1 := [.int (pI (q < ft ∧ (st q).toInt = 1 ∧ (tn q).toInt = 0)), .int (nI (smP (lvF ft st tn) (fun g => nN (mn g)) q))]) (va_runV (As := [.int (nI q)]) (rest := [.int (nI (smP (lvF ft st tn) (fun g => nN (mn g)) q))]) ⟨hx, hb, hml, hown, hts⟩ (k_M_is_n l dC dI cI cZ cF H.size k0 a I0 J0 q ft st tn (by first | with_reducible assumption | assumption) (by first | with_reducible assumption | omega) (by first | with_reducible assumption | omega)) (csV_179 hts rfl rfl ⟨Nat.le_of_ble_eq_true rfl, Nat.le_of_ble_eq_true rfl⟩) (zPV2 (q0 := 0) (ci := 9) hPc hDc hK hXN rfl rfl) rfl rfl hl.1 rfl (lv_room (Nat.le_of_ble_eq_true rfl)) dX11_count_85 ⟨Nat.le_of_ble_eq_true rfl, Nat.le_of_ble_eq_true rfl⟩) hS hFc hFc rfl (fun t H locs ht hB hk1 hS => ?_)
              obtain ⟨hP1, hD1⟩ := hB
              rw [ht] at hP1
              replace hP := z0 hP hD hk1 hP1 hI1
              clear hk1 hPc hDc hFc hP1 hD1 ht hI1
              refine lv_if_eq (tgt := 101) hx hb dX11_count_88 rfl (fun c_12 => ?_) (fun c_12 => ?_)
              · have c_12 : ¬ (q < ft ∧ (st q).toInt = 1 ∧ (tn q).toInt = 0) := zp_0 c_12
                refine lv_iconst (v := 0) hx hb dX11_count_101 rfl ?_
                refine lv_iadd hx hb dX11_count_102 ?_
                refine zz_i (v := nI ((smP (lvF ft st tn) (fun g => nN (mn g)) q) + 0)) (nI_add (smP (lvF ft st tn) (fun g => nN (mn g)) q) 0) ?_
                refine lv_istore (lv' := [(5, .int (nI ((smP (lvF ft st tn) (fun g => nN (mn g)) q) + 0))), (4, .int (nI ((cntP (fun g => ¬ (tn g).toInt = 0) q) + 1))), (3, .int (nI ((cntP (fun g => (st g).toInt = 2) q) + 1))), (2, .int (nI ((cntP (fun g => (st g).toInt = 1) q) + 0))), (6, .int (nI q)), (0, .ref k0), (1, .int 1)]) hx hb dX11_count_103 hl (Nat.le_of_ble_eq_true rfl) rfl (fun ls hl => ?_)
                refine lv_iinc (v := nI (q + 1)) (lv' := [(6, .int (nI (q + 1))), (5, .int (nI ((smP (lvF ft st tn) (fun g => nN (mn g)) q) + 0))), (4, .int (nI ((cntP (fun g => ¬ (tn g).toInt = 0) q) + 1))), (3, .int (nI ((cntP (fun g => (st g).toInt = 2) q) + 1))), (2, .int (nI ((cntP (fun g => (st g).toInt = 1) q) + 0))), (0, .ref k0), (1, .int 1)]) hx hb dX11_count_105 hl (k := 4) rfl (nI_add q 1) (Nat.le_of_ble_eq_true rfl) rfl (fun ls hl => ?_)
                refine lv_goto (tgt := 13) hx hb dX11_count_108 rfl ?_
                have hl9 := lv_sub hl [0, 1, 2, 3, 4, 5, 6] rfl
                have e9_2 : nI (cntP (fun g => (st g).toInt = 1) (q + 1)) = (nI ((cntP (fun g => (st g).toInt = 1) q) + 0) : Int32) := by first | exact congrArg nI (cntP_y (P := fun g => (st g).toInt = 1) (show (st q).toInt = 1 by omega)) | exact congrArg nI (cntP_n0 (P := fun g => (st g).toInt = 1) (show ¬ (st q).toInt = 1 by omega))
                have e9_3 : nI (cntP (fun g => (st g).toInt = 2) (q + 1)) = (nI ((cntP (fun g => (st g).toInt = 2) q) + 1) : Int32) := by first | exact congrArg nI (cntP_y (P := fun g => (st g).toInt = 2) (show (st q).toInt = 2 by omega)) | exact congrArg nI (cntP_n0 (P := fun g => (st g).toInt = 2) (show ¬ (st q).toInt = 2 by omega))
                have e9_4 : nI (cntP (fun g => ¬ (tn g).toInt = 0) (q + 1)) = (nI ((cntP (fun g => ¬ (tn g).toInt = 0) q) + 1) : Int32) := by first | exact congrArg nI (cntP_y (P := fun g => ¬ (tn g).toInt = 0) (show ¬ (tn q).toInt = 0 by omega)) | exact congrArg nI (cntP_n0 (P := fun g => ¬ (tn g).toInt = 0) (show ¬ ¬ (tn q).toInt = 0 by omega))
                have e9_5 : nI (smP (lvF ft st tn) (fun g => nN (mn g)) (q + 1)) = (nI ((smP (lvF ft st tn) (fun g => nN (mn g)) q) + 0) : Int32) := by first | exact congrArg nI (smP_y (P := lvF ft st tn) (by first | with_reducible assumption | assumption)) | exact congrArg nI (smP_n (P := lvF ft st tn) (by first | with_reducible assumption | assumption))
                have hl9 : lv_has ls 7 [(6, .int (nI (q + 1))), (5, .int (nI (smP (lvF ft st tn) (fun g => nN (mn g)) (q + 1)))), (4, .int (nI (cntP (fun g => ¬ (tn g).toInt = 0) (q + 1)))), (3, .int (nI (cntP (fun g => (st g).toInt = 2) (q + 1)))), (2, .int (nI (cntP (fun g => (st g).toInt = 1) (q + 1)))), (0, .ref k0), (1, .int 1)] := by rw [e9_2]; rw [e9_3]; rw [e9_4]; rw [e9_5]; exact hl9
                exact ih_13 (q + 1) H locs ls (by first | with_reducible assumption | omega) (by first | with_reducible assumption | omega) hP hD hS hl9
              · have c_12 : q < ft ∧ (st q).toInt = 1 ∧ (tn q).toInt = 0 := zp_1 c_12
                refine lv_aload_n hx hb dX11_count_91 rfl (lv_at hl 5 rfl) ?_
                refine va_get (D := (dC, dI)) (ci := 9) (v := .ref (a 11)) (C := RX11) (T := TX11) (N := 55) hx hb hts inX11 hown hK hP 0 rfl rfl 11 (Nat.le_of_ble_eq_true rfl) (hts _ mw_1170) (fun _ h9 => h9) rfl dX11_count_92 ?_
                refine lv_iload hx hb dX11_count_95 (lv_at hl 3 rfl) ?_
                refine z_iald hx hb hK hP 3 0 rfl rfl (e := q) rfl b9_4 (Nat.le_of_ble_eq_true rfl) dX11_count_97 ?_
                refine zz_i (v := nI (nN (mn q))) ((hmw q (by first | with_reducible assumption | assumption)).1) ?_
                refine lv_goto (tgt := 102) hx hb dX11_count_98 rfl ?_
                refine lv_iadd hx hb dX11_count_102 ?_
                refine zz_i (v := nI ((smP (lvF ft st tn) (fun g => nN (mn g)) q) + (nN (mn q)))) (nI_add (smP (lvF ft st tn) (fun g => nN (mn g)) q) (nN (mn q))) ?_
                refine lv_istore (lv' := [(5, .int (nI ((smP (lvF ft st tn) (fun g => nN (mn g)) q) + (nN (mn q))))), (4, .int (nI ((cntP (fun g => ¬ (tn g).toInt = 0) q) + 1))), (3, .int (nI ((cntP (fun g => (st g).toInt = 2) q) + 1))), (2, .int (nI ((cntP (fun g => (st g).toInt = 1) q) + 0))), (6, .int (nI q)), (0, .ref k0), (1, .int 1)]) hx hb dX11_count_103 hl (Nat.le_of_ble_eq_true rfl) rfl (fun ls hl => ?_)
                refine lv_iinc (v := nI (q + 1)) (lv' := [(6, .int (nI (q + 1))), (5, .int (nI ((smP (lvF ft st tn) (fun g => nN (mn g)) q) + (nN (mn q))))), (4, .int (nI ((cntP (fun g => ¬ (tn g).toInt = 0) q) + 1))), (3, .int (nI ((cntP (fun g => (st g).toInt = 2) q) + 1))), (2, .int (nI ((cntP (fun g => (st g).toInt = 1) q) + 0))), (0, .ref k0), (1, .int 1)]) hx hb dX11_count_105 hl (k := 4) rfl (nI_add q 1) (Nat.le_of_ble_eq_true rfl) rfl (fun ls hl => ?_)
                refine lv_goto (tgt := 13) hx hb dX11_count_108 rfl ?_
                have hl9 := lv_sub hl [0, 1, 2, 3, 4, 5, 6] rfl
                have e9_2 : nI (cntP (fun g => (st g).toInt = 1) (q + 1)) = (nI ((cntP (fun g => (st g).toInt = 1) q) + 0) : Int32) := by first | exact congrArg nI (cntP_y (P := fun g => (st g).toInt = 1) (show (st q).toInt = 1 by omega)) | exact congrArg nI (cntP_n0 (P := fun g => (st g).toInt = 1) (show ¬ (st q).toInt = 1 by omega))
                have e9_3 : nI (cntP (fun g => (st g).toInt = 2) (q + 1)) = (nI ((cntP (fun g => (st g).toInt = 2) q) + 1) : Int32) := by first | exact congrArg nI (cntP_y (P := fun g => (st g).toInt = 2) (show (st q).toInt = 2 by omega)) | exact congrArg nI (cntP_n0 (P := fun g => (st g).toInt = 2) (show ¬ (st q).toInt = 2 by omega))
                have e9_4 : nI (cntP (fun g => ¬ (tn g).toInt = 0) (q + 1)) = (nI ((cntP (fun g => ¬ (tn g).toInt = 0) q) + 1) : Int32) := by first | exact congrArg nI (cntP_y (P := fun g => ¬ (tn g).toInt = 0) (show ¬ (tn q).toInt = 0 by omega)) | exact congrArg nI (cntP_n0 (P := fun g => ¬ (tn g).toInt = 0) (show ¬ ¬ (tn q).toInt = 0 by omega))
                have e9_5 : nI (smP (lvF ft st tn) (fun g => nN (mn g)) (q + 1)) = (nI ((smP (lvF ft st tn) (fun g => nN (mn g)) q) + (nN (mn q))) : Int32) := by first | exact congrArg nI (smP_y (P := lvF ft st tn) (by first | with_reducible assumption | assumption)) | exact congrArg nI (smP_n (P := lvF ft st tn) (by first | with_reducible assumption | assumption))
                have hl9 : lv_has ls 7 [(6, .int (nI (q + 1))), (5, .int (nI (smP (lvF ft st tn) (fun g => nN (mn g)) (q + 1)))), (4, .int (nI (cntP (fun g => ¬ (tn g).toInt = 0) (q + 1)))), (3, .int (nI (cntP (fun g => (st g).toInt = 2) (q + 1)))), (2, .int (nI (cntP (fun g => (st g).toInt = 1) (q + 1)))), (0, .ref k0), (1, .int 1)] := by rw [e9_2]; rw [e9_3]; rw [e9_4]; rw [e9_5]; exact hl9
                exact ih_13 (q + 1) H locs ls (by first | with_reducible assumption | omega) (by first | with_reducible assumption | omega) hP hD hS hl9
        · have c_5 : (st q).toInt = 1 := zc_eq rfl rfl c_5
          refine lv_iconst (v := 1) hx hb dX11_count_34 rfl ?_
          refine lv_goto (tgt := 39) hx hb dX11_count_35 rfl ?_
          refine lv_iadd hx hb dX11_count_39 ?_
          refine zz_i (v := nI ((cntP (fun g => (st g).toInt = 1) q) + 1)) (nI_add (cntP (fun g => (st g).toInt = 1) q) 1) ?_
          refine lv_istore_n (lv' := [(2, .int (nI ((cntP (fun g => (st g).toInt = 1) q) + 1))), (6, .int (nI q)), (5, .int (nI (smP (lvF ft st tn) (fun g => nN (mn g)) q))), (4, .int (nI (cntP (fun g => ¬ (tn g).toInt = 0) q))), (3, .int (nI (cntP (fun g => (st g).toInt = 2) q))), (0, .ref k0), (1, .int 1)]) hx hb dX11_count_40 rfl hl (Nat.le_of_ble_eq_true rfl) rfl (fun ls hl => ?_)
          refine lv_iload_n hx hb dX11_count_41 rfl (lv_at hl 4 rfl) ?_
          refine lv_aload_n hx hb dX11_count_42 rfl (lv_at hl 5 rfl) ?_
          refine va_get (D := (dC, dI)) (ci := 9) (v := .ref (a 5)) (C := RX11) (T := TX11) (N := 55) hx hb hts inX11 hown hK hP 0 rfl rfl 5 (Nat.le_of_ble_eq_true rfl) (hts _ mw_1164) (fun _ h9 => h9) rfl dX11_count_43 ?_
          refine lv_iload hx hb dX11_count_46 (lv_at hl 1 rfl) ?_
          refine z_iald hx hb hK hP 1 0 rfl rfl (e := q) rfl b9_4 (Nat.le_of_ble_eq_true rfl) dX11_count_48 ?_
          refine lv_iconst (v := 2) hx hb dX11_count_49 rfl ?_
          refine lv_icmp_ne (tgt := 57) hx hb dX11_count_50 rfl (fun c_13 => ?_) (fun c_13 => ?_)
          · have c_13 : ¬ (st q).toInt = 2 := zc_ne rfl rfl c_13
            refine lv_iconst (v := 0) hx hb dX11_count_57 rfl ?_
            refine lv_iadd hx hb dX11_count_58 ?_
            refine zz_i (v := nI ((cntP (fun g => (st g).toInt = 2) q) + 0)) (nI_add (cntP (fun g => (st g).toInt = 2) q) 0) ?_
            refine lv_istore_n (lv' := [(3, .int (nI ((cntP (fun g => (st g).toInt = 2) q) + 0))), (2, .int (nI ((cntP (fun g => (st g).toInt = 1) q) + 1))), (6, .int (nI q)), (5, .int (nI (smP (lvF ft st tn) (fun g => nN (mn g)) q))), (4, .int (nI (cntP (fun g => ¬ (tn g).toInt = 0) q))), (0, .ref k0), (1, .int 1)]) hx hb dX11_count_59 rfl hl (Nat.le_of_ble_eq_true rfl) rfl (fun ls hl => ?_)
            refine lv_iload hx hb dX11_count_60 (lv_at hl 4 rfl) ?_
            refine lv_aload_n hx hb dX11_count_62 rfl (lv_at hl 5 rfl) ?_
            refine va_get (D := (dC, dI)) (ci := 9) (v := .ref (a 6)) (C := RX11) (T := TX11) (N := 55) hx hb hts inX11 hown hK hP 0 rfl rfl 6 (Nat.le_of_ble_eq_true rfl) (hts _ mw_1165) (fun _ h9 => h9) rfl dX11_count_63 ?_
            refine lv_iload hx hb dX11_count_66 (lv_at hl 2 rfl) ?_
            refine z_zald hx hb hK hP 2 1 rfl rfl (e := q) rfl b9_4 (Nat.le_of_ble_eq_true rfl) dX11_count_68 ?_
            refine lv_if_eq (tgt := 76) hx hb dX11_count_69 rfl (fun c_14 => ?_) (fun c_14 => ?_)
            · have c_14 : (tn q).toInt = 0 := zc_eq rfl rfl c_14
              refine lv_iconst (v := 0) hx hb dX11_count_76 rfl ?_
              refine lv_iadd hx hb dX11_count_77 ?_
              refine zz_i (v := nI ((cntP (fun g => ¬ (tn g).toInt = 0) q) + 0)) (nI_add (cntP (fun g => ¬ (tn g).toInt = 0) q) 0) ?_
              refine lv_istore (lv' := [(4, .int (nI ((cntP (fun g => ¬ (tn g).toInt = 0) q) + 0))), (3, .int (nI ((cntP (fun g => (st g).toInt = 2) q) + 0))), (2, .int (nI ((cntP (fun g => (st g).toInt = 1) q) + 1))), (6, .int (nI q)), (5, .int (nI (smP (lvF ft st tn) (fun g => nN (mn g)) q))), (0, .ref k0), (1, .int 1)]) hx hb dX11_count_78 hl (Nat.le_of_ble_eq_true rfl) rfl (fun ls hl => ?_)
              refine lv_iload hx hb dX11_count_80 (lv_at hl 4 rfl) ?_
              refine lv_aload_n hx hb dX11_count_82 rfl (lv_at hl 5 rfl) ?_
              refine lv_iload hx hb dX11_count_83 (lv_at hl 3 rfl) ?_
              obtain ⟨hPc, hDc, hFc, hI1⟩ := zi_sub (wc := [_, _, _]) hP hD hS hA [0, 1, 2] rfl rfl
              refine zcall (st1 := [.int (pI (q < ft ∧ (st q).toInt = 1 ∧ (tn q).toInt = 0)), .int (nI (smP (lvF ft st tn) (fun g => nN (mn g)) q))]) (va_runV (As := [.int (nI q)]) (rest := [.int (nI (smP (lvF ft st tn) (fun g => nN (mn g)) q))]) ⟨hx, hb, hml, hown, hts⟩ (k_M_is_n l dC dI cI cZ cF H.size k0 a I0 J0 q ft st tn (by first | with_reducible assumption | assumption) (by first | with_reducible assumption | omega) (by first | with_reducible assumption | omega)) (csV_179 hts rfl rfl ⟨Nat.le_of_ble_eq_true rfl, Nat.le_of_ble_eq_true rfl⟩) (zPV2 (q0 := 0) (ci := 9) hPc hDc hK hXN rfl rfl) rfl rfl hl.1 rfl (lv_room (Nat.le_of_ble_eq_true rfl)) dX11_count_85 ⟨Nat.le_of_ble_eq_true rfl, Nat.le_of_ble_eq_true rfl⟩) hS hFc hFc rfl (fun t H locs ht hB hk1 hS => ?_)
              obtain ⟨hP1, hD1⟩ := hB
              rw [ht] at hP1
              replace hP := z0 hP hD hk1 hP1 hI1
              clear hk1 hPc hDc hFc hP1 hD1 ht hI1
              refine lv_if_eq (tgt := 101) hx hb dX11_count_88 rfl (fun c_15 => ?_) (fun c_15 => ?_)
              · have c_15 : ¬ (q < ft ∧ (st q).toInt = 1 ∧ (tn q).toInt = 0) := zp_0 c_15
                refine lv_iconst (v := 0) hx hb dX11_count_101 rfl ?_
                refine lv_iadd hx hb dX11_count_102 ?_
                refine zz_i (v := nI ((smP (lvF ft st tn) (fun g => nN (mn g)) q) + 0)) (nI_add (smP (lvF ft st tn) (fun g => nN (mn g)) q) 0) ?_
                refine lv_istore (lv' := [(5, .int (nI ((smP (lvF ft st tn) (fun g => nN (mn g)) q) + 0))), (4, .int (nI ((cntP (fun g => ¬ (tn g).toInt = 0) q) + 0))), (3, .int (nI ((cntP (fun g => (st g).toInt = 2) q) + 0))), (2, .int (nI ((cntP (fun g => (st g).toInt = 1) q) + 1))), (6, .int (nI q)), (0, .ref k0), (1, .int 1)]) hx hb dX11_count_103 hl (Nat.le_of_ble_eq_true rfl) rfl (fun ls hl => ?_)
                refine lv_iinc (v := nI (q + 1)) (lv' := [(6, .int (nI (q + 1))), (5, .int (nI ((smP (lvF ft st tn) (fun g => nN (mn g)) q) + 0))), (4, .int (nI ((cntP (fun g => ¬ (tn g).toInt = 0) q) + 0))), (3, .int (nI ((cntP (fun g => (st g).toInt = 2) q) + 0))), (2, .int (nI ((cntP (fun g => (st g).toInt = 1) q) + 1))), (0, .ref k0), (1, .int 1)]) hx hb dX11_count_105 hl (k := 4) rfl (nI_add q 1) (Nat.le_of_ble_eq_true rfl) rfl (fun ls hl => ?_)
                refine lv_goto (tgt := 13) hx hb dX11_count_108 rfl ?_
                have hl9 := lv_sub hl [0, 1, 2, 3, 4, 5, 6] rfl
                have e9_2 : nI (cntP (fun g => (st g).toInt = 1) (q + 1)) = (nI ((cntP (fun g => (st g).toInt = 1) q) + 1) : Int32) := by first | exact congrArg nI (cntP_y (P := fun g => (st g).toInt = 1) (show (st q).toInt = 1 by omega)) | exact congrArg nI (cntP_n0 (P := fun g => (st g).toInt = 1) (show ¬ (st q).toInt = 1 by omega))
                have e9_3 : nI (cntP (fun g => (st g).toInt = 2) (q + 1)) = (nI ((cntP (fun g => (st g).toInt = 2) q) + 0) : Int32) := by first | exact congrArg nI (cntP_y (P := fun g => (st g).toInt = 2) (show (st q).toInt = 2 by omega)) | exact congrArg nI (cntP_n0 (P := fun g => (st g).toInt = 2) (show ¬ (st q).toInt = 2 by omega))
                have e9_4 : nI (cntP (fun g => ¬ (tn g).toInt = 0) (q + 1)) = (nI ((cntP (fun g => ¬ (tn g).toInt = 0) q) + 0) : Int32) := by first | exact congrArg nI (cntP_y (P := fun g => ¬ (tn g).toInt = 0) (show ¬ (tn q).toInt = 0 by omega)) | exact congrArg nI (cntP_n0 (P := fun g => ¬ (tn g).toInt = 0) (show ¬ ¬ (tn q).toInt = 0 by omega))
                have e9_5 : nI (smP (lvF ft st tn) (fun g => nN (mn g)) (q + 1)) = (nI ((smP (lvF ft st tn) (fun g => nN (mn g)) q) + 0) : Int32) := by first | exact congrArg nI (smP_y (P := lvF ft st tn) (by first | with_reducible assumption | assumption)) | exact congrArg nI (smP_n (P := lvF ft st tn) (by first | with_reducible assumption | assumption))
                have hl9 : lv_has ls 7 [(6, .int (nI (q + 1))), (5, .int (nI (smP (lvF ft st tn) (fun g => nN (mn g)) (q + 1)))), (4, .int (nI (cntP (fun g => ¬ (tn g).toInt = 0) (q + 1)))), (3, .int (nI (cntP (fun g => (st g).toInt = 2) (q + 1)))), (2, .int (nI (cntP (fun g => (st g).toInt = 1) (q + 1)))), (0, .ref k0), (1, .int 1)] := by rw [e9_2]; rw [e9_3]; rw [e9_4]; rw [e9_5]; exact hl9
                exact ih_13 (q + 1) H locs ls (by first | with_reducible assumption | omega) (by first | with_reducible assumption | omega) hP hD hS hl9
              · have c_15 : q < ft ∧ (st q).toInt = 1 ∧ (tn q).toInt = 0 := zp_1 c_15
                refine lv_aload_n hx hb dX11_count_91 rfl (lv_at hl 5 rfl) ?_
                refine va_get (D := (dC, dI)) (ci := 9) (v := .ref (a 11)) (C := RX11) (T := TX11) (N := 55) hx hb hts inX11 hown hK hP 0 rfl rfl 11 (Nat.le_of_ble_eq_true rfl) (hts _ mw_1170) (fun _ h9 => h9) rfl dX11_count_92 ?_
                refine lv_iload hx hb dX11_count_95 (lv_at hl 3 rfl) ?_
                refine z_iald hx hb hK hP 3 0 rfl rfl (e := q) rfl b9_4 (Nat.le_of_ble_eq_true rfl) dX11_count_97 ?_
                refine zz_i (v := nI (nN (mn q))) ((hmw q (by first | with_reducible assumption | assumption)).1) ?_
                refine lv_goto (tgt := 102) hx hb dX11_count_98 rfl ?_
                refine lv_iadd hx hb dX11_count_102 ?_
                refine zz_i (v := nI ((smP (lvF ft st tn) (fun g => nN (mn g)) q) + (nN (mn q)))) (nI_add (smP (lvF ft st tn) (fun g => nN (mn g)) q) (nN (mn q))) ?_
                refine lv_istore (lv' := [(5, .int (nI ((smP (lvF ft st tn) (fun g => nN (mn g)) q) + (nN (mn q))))), (4, .int (nI ((cntP (fun g => ¬ (tn g).toInt = 0) q) + 0))), (3, .int (nI ((cntP (fun g => (st g).toInt = 2) q) + 0))), (2, .int (nI ((cntP (fun g => (st g).toInt = 1) q) + 1))), (6, .int (nI q)), (0, .ref k0), (1, .int 1)]) hx hb dX11_count_103 hl (Nat.le_of_ble_eq_true rfl) rfl (fun ls hl => ?_)
                refine lv_iinc (v := nI (q + 1)) (lv' := [(6, .int (nI (q + 1))), (5, .int (nI ((smP (lvF ft st tn) (fun g => nN (mn g)) q) + (nN (mn q))))), (4, .int (nI ((cntP (fun g => ¬ (tn g).toInt = 0) q) + 0))), (3, .int (nI ((cntP (fun g => (st g).toInt = 2) q) + 0))), (2, .int (nI ((cntP (fun g => (st g).toInt = 1) q) + 1))), (0, .ref k0), (1, .int 1)]) hx hb dX11_count_105 hl (k := 4) rfl (nI_add q 1) (Nat.le_of_ble_eq_true rfl) rfl (fun ls hl => ?_)
                refine lv_goto (tgt := 13) hx hb dX11_count_108 rfl ?_
                have hl9 := lv_sub hl [0, 1, 2, 3, 4, 5, 6] rfl
                have e9_2 : nI (cntP (fun g => (st g).toInt = 1) (q + 1)) = (nI ((cntP (fun g => (st g).toInt = 1) q) + 1) : Int32) := by first | exact congrArg nI (cntP_y (P := fun g => (st g).toInt = 1) (show (st q).toInt = 1 by omega)) | exact congrArg nI (cntP_n0 (P := fun g => (st g).toInt = 1) (show ¬ (st q).toInt = 1 by omega))
                have e9_3 : nI (cntP (fun g => (st g).toInt = 2) (q + 1)) = (nI ((cntP (fun g => (st g).toInt = 2) q) + 0) : Int32) := by first | exact congrArg nI (cntP_y (P := fun g => (st g).toInt = 2) (show (st q).toInt = 2 by omega)) | exact congrArg nI (cntP_n0 (P := fun g => (st g).toInt = 2) (show ¬ (st q).toInt = 2 by omega))
                have e9_4 : nI (cntP (fun g => ¬ (tn g).toInt = 0) (q + 1)) = (nI ((cntP (fun g => ¬ (tn g).toInt = 0) q) + 0) : Int32) := by first | exact congrArg nI (cntP_y (P := fun g => ¬ (tn g).toInt = 0) (show ¬ (tn q).toInt = 0 by omega)) | exact congrArg nI (cntP_n0 (P := fun g => ¬ (tn g).toInt = 0) (show ¬ ¬ (tn q).toInt = 0 by omega))
                have e9_5 : nI (smP (lvF ft st tn) (fun g => nN (mn g)) (q + 1)) = (nI ((smP (lvF ft st tn) (fun g => nN (mn g)) q) + (nN (mn q))) : Int32) := by first | exact congrArg nI (smP_y (P := lvF ft st tn) (by first | with_reducible assumption | assumption)) | exact congrArg nI (smP_n (P := lvF ft st tn) (by first | with_reducible assumption | assumption))
                have hl9 : lv_has ls 7 [(6, .int (nI (q + 1))), (5, .int (nI (smP (lvF ft st tn) (fun g => nN (mn g)) (q + 1)))), (4, .int (nI (cntP (fun g => ¬ (tn g).toInt = 0) (q + 1)))), (3, .int (nI (cntP (fun g => (st g).toInt = 2) (q + 1)))), (2, .int (nI (cntP (fun g => (st g).toInt = 1) (q + 1)))), (0, .ref k0), (1, .int 1)] := by rw [e9_2]; rw [e9_3]; rw [e9_4]; rw [e9_5]; exact hl9
                exact ih_13 (q + 1) H locs ls (by first | with_reducible assumption | omega) (by first | with_reducible assumption | omega) hP hD hS hl9
            · have c_14 : ¬ (tn q).toInt = 0 := zc_ne rfl rfl c_14
              refine lv_iconst (v := 1) hx hb dX11_count_72 rfl ?_
              refine lv_goto (tgt := 77) hx hb dX11_count_73 rfl ?_
              refine lv_iadd hx hb dX11_count_77 ?_
              refine zz_i (v := nI ((cntP (fun g => ¬ (tn g).toInt = 0) q) + 1)) (nI_add (cntP (fun g => ¬ (tn g).toInt = 0) q) 1) ?_
              refine lv_istore (lv' := [(4, .int (nI ((cntP (fun g => ¬ (tn g).toInt = 0) q) + 1))), (3, .int (nI ((cntP (fun g => (st g).toInt = 2) q) + 0))), (2, .int (nI ((cntP (fun g => (st g).toInt = 1) q) + 1))), (6, .int (nI q)), (5, .int (nI (smP (lvF ft st tn) (fun g => nN (mn g)) q))), (0, .ref k0), (1, .int 1)]) hx hb dX11_count_78 hl (Nat.le_of_ble_eq_true rfl) rfl (fun ls hl => ?_)
              refine lv_iload hx hb dX11_count_80 (lv_at hl 4 rfl) ?_
              refine lv_aload_n hx hb dX11_count_82 rfl (lv_at hl 5 rfl) ?_
              refine lv_iload hx hb dX11_count_83 (lv_at hl 3 rfl) ?_
              obtain ⟨hPc, hDc, hFc, hI1⟩ := zi_sub (wc := [_, _, _]) hP hD hS hA [0, 1, 2] rfl rfl
              refine zcall (st1 := [.int (pI (q < ft ∧ (st q).toInt = 1 ∧ (tn q).toInt = 0)), .int (nI (smP (lvF ft st tn) (fun g => nN (mn g)) q))]) (va_runV (As := [.int (nI q)]) (rest := [.int (nI (smP (lvF ft st tn) (fun g => nN (mn g)) q))]) ⟨hx, hb, hml, hown, hts⟩ (k_M_is_n l dC dI cI cZ cF H.size k0 a I0 J0 q ft st tn (by first | with_reducible assumption | assumption) (by first | with_reducible assumption | omega) (by first | with_reducible assumption | omega)) (csV_179 hts rfl rfl ⟨Nat.le_of_ble_eq_true rfl, Nat.le_of_ble_eq_true rfl⟩) (zPV2 (q0 := 0) (ci := 9) hPc hDc hK hXN rfl rfl) rfl rfl hl.1 rfl (lv_room (Nat.le_of_ble_eq_true rfl)) dX11_count_85 ⟨Nat.le_of_ble_eq_true rfl, Nat.le_of_ble_eq_true rfl⟩) hS hFc hFc rfl (fun t H locs ht hB hk1 hS => ?_)
              obtain ⟨hP1, hD1⟩ := hB
              rw [ht] at hP1
              replace hP := z0 hP hD hk1 hP1 hI1
              clear hk1 hPc hDc hFc hP1 hD1 ht hI1
              refine lv_if_eq (tgt := 101) hx hb dX11_count_88 rfl (fun c_16 => ?_) (fun c_16 => ?_)
              · have c_16 : ¬ (q < ft ∧ (st q).toInt = 1 ∧ (tn q).toInt = 0) := zp_0 c_16
                refine lv_iconst (v := 0) hx hb dX11_count_101 rfl ?_
                refine lv_iadd hx hb dX11_count_102 ?_
                refine zz_i (v := nI ((smP (lvF ft st tn) (fun g => nN (mn g)) q) + 0)) (nI_add (smP (lvF ft st tn) (fun g => nN (mn g)) q) 0) ?_
                refine lv_istore (lv' := [(5, .int (nI ((smP (lvF ft st tn) (fun g => nN (mn g)) q) + 0))), (4, .int (nI ((cntP (fun g => ¬ (tn g).toInt = 0) q) + 1))), (3, .int (nI ((cntP (fun g => (st g).toInt = 2) q) + 0))), (2, .int (nI ((cntP (fun g => (st g).toInt = 1) q) + 1))), (6, .int (nI q)), (0, .ref k0), (1, .int 1)]) hx hb dX11_count_103 hl (Nat.le_of_ble_eq_true rfl) rfl (fun ls hl => ?_)
                refine lv_iinc (v := nI (q + 1)) (lv' := [(6, .int (nI (q + 1))), (5, .int (nI ((smP (lvF ft st tn) (fun g => nN (mn g)) q) + 0))), (4, .int (nI ((cntP (fun g => ¬ (tn g).toInt = 0) q) + 1))), (3, .int (nI ((cntP (fun g => (st g).toInt = 2) q) + 0))), (2, .int (nI ((cntP (fun g => (st g).toInt = 1) q) + 1))), (0, .ref k0), (1, .int 1)]) hx hb dX11_count_105 hl (k := 4) rfl (nI_add q 1) (Nat.le_of_ble_eq_true rfl) rfl (fun ls hl => ?_)
                refine lv_goto (tgt := 13) hx hb dX11_count_108 rfl ?_
                have hl9 := lv_sub hl [0, 1, 2, 3, 4, 5, 6] rfl
                have e9_2 : nI (cntP (fun g => (st g).toInt = 1) (q + 1)) = (nI ((cntP (fun g => (st g).toInt = 1) q) + 1) : Int32) := by first | exact congrArg nI (cntP_y (P := fun g => (st g).toInt = 1) (show (st q).toInt = 1 by omega)) | exact congrArg nI (cntP_n0 (P := fun g => (st g).toInt = 1) (show ¬ (st q).toInt = 1 by omega))
                have e9_3 : nI (cntP (fun g => (st g).toInt = 2) (q + 1)) = (nI ((cntP (fun g => (st g).toInt = 2) q) + 0) : Int32) := by first | exact congrArg nI (cntP_y (P := fun g => (st g).toInt = 2) (show (st q).toInt = 2 by omega)) | exact congrArg nI (cntP_n0 (P := fun g => (st g).toInt = 2) (show ¬ (st q).toInt = 2 by omega))
                have e9_4 : nI (cntP (fun g => ¬ (tn g).toInt = 0) (q + 1)) = (nI ((cntP (fun g => ¬ (tn g).toInt = 0) q) + 1) : Int32) := by first | exact congrArg nI (cntP_y (P := fun g => ¬ (tn g).toInt = 0) (show ¬ (tn q).toInt = 0 by omega)) | exact congrArg nI (cntP_n0 (P := fun g => ¬ (tn g).toInt = 0) (show ¬ ¬ (tn q).toInt = 0 by omega))
                have e9_5 : nI (smP (lvF ft st tn) (fun g => nN (mn g)) (q + 1)) = (nI ((smP (lvF ft st tn) (fun g => nN (mn g)) q) + 0) : Int32) := by first | exact congrArg nI (smP_y (P := lvF ft st tn) (by first | with_reducible assumption | assumption)) | exact congrArg nI (smP_n (P := lvF ft st tn) (by first | with_reducible assumption | assumption))
                have hl9 : lv_has ls 7 [(6, .int (nI (q + 1))), (5, .int (nI (smP (lvF ft st tn) (fun g => nN (mn g)) (q + 1)))), (4, .int (nI (cntP (fun g => ¬ (tn g).toInt = 0) (q + 1)))), (3, .int (nI (cntP (fun g => (st g).toInt = 2) (q + 1)))), (2, .int (nI (cntP (fun g => (st g).toInt = 1) (q + 1)))), (0, .ref k0), (1, .int 1)] := by rw [e9_2]; rw [e9_3]; rw [e9_4]; rw [e9_5]; exact hl9
                exact ih_13 (q + 1) H locs ls (by first | with_reducible assumption | omega) (by first | with_reducible assumption | omega) hP hD hS hl9
              · have c_16 : q < ft ∧ (st q).toInt = 1 ∧ (tn q).toInt = 0 := zp_1 c_16
                refine lv_aload_n hx hb dX11_count_91 rfl (lv_at hl 5 rfl) ?_
                refine va_get (D := (dC, dI)) (ci := 9) (v := .ref (a 11)) (C := RX11) (T := TX11) (N := 55) hx hb hts inX11 hown hK hP 0 rfl rfl 11 (Nat.le_of_ble_eq_true rfl) (hts _ mw_1170) (fun _ h9 => h9) rfl dX11_count_92 ?_
                refine lv_iload hx hb dX11_count_95 (lv_at hl 3 rfl) ?_
                refine z_iald hx hb hK hP 3 0 rfl rfl (e := q) rfl b9_4 (Nat.le_of_ble_eq_true rfl) dX11_count_97 ?_
                refine zz_i (v := nI (nN (mn q))) ((hmw q (by first | with_reducible assumption | assumption)).1) ?_
                refine lv_goto (tgt := 102) hx hb dX11_count_98 rfl ?_
                refine lv_iadd hx hb dX11_count_102 ?_
                refine zz_i (v := nI ((smP (lvF ft st tn) (fun g => nN (mn g)) q) + (nN (mn q)))) (nI_add (smP (lvF ft st tn) (fun g => nN (mn g)) q) (nN (mn q))) ?_
                refine lv_istore (lv' := [(5, .int (nI ((smP (lvF ft st tn) (fun g => nN (mn g)) q) + (nN (mn q))))), (4, .int (nI ((cntP (fun g => ¬ (tn g).toInt = 0) q) + 1))), (3, .int (nI ((cntP (fun g => (st g).toInt = 2) q) + 0))), (2, .int (nI ((cntP (fun g => (st g).toInt = 1) q) + 1))), (6, .int (nI q)), (0, .ref k0), (1, .int 1)]) hx hb dX11_count_103 hl (Nat.le_of_ble_eq_true rfl) rfl (fun ls hl => ?_)
                refine lv_iinc (v := nI (q + 1)) (lv' := [(6, .int (nI (q + 1))), (5, .int (nI ((smP (lvF ft st tn) (fun g => nN (mn g)) q) + (nN (mn q))))), (4, .int (nI ((cntP (fun g => ¬ (tn g).toInt = 0) q) + 1))), (3, .int (nI ((cntP (fun g => (st g).toInt = 2) q) + 0))), (2, .int (nI ((cntP (fun g => (st g).toInt = 1) q) + 1))), (0, .ref k0), (1, .int 1)]) hx hb dX11_count_105 hl (k := 4) rfl (nI_add q 1) (Nat.le_of_ble_eq_true rfl) rfl (fun ls hl => ?_)
                refine lv_goto (tgt := 13) hx hb dX11_count_108 rfl ?_
                have hl9 := lv_sub hl [0, 1, 2, 3, 4, 5, 6] rfl
                have e9_2 : nI (cntP (fun g => (st g).toInt = 1) (q + 1)) = (nI ((cntP (fun g => (st g).toInt = 1) q) + 1) : Int32) := by first | exact congrArg nI (cntP_y (P := fun g => (st g).toInt = 1) (show (st q).toInt = 1 by omega)) | exact congrArg nI (cntP_n0 (P := fun g => (st g).toInt = 1) (show ¬ (st q).toInt = 1 by omega))
                have e9_3 : nI (cntP (fun g => (st g).toInt = 2) (q + 1)) = (nI ((cntP (fun g => (st g).toInt = 2) q) + 0) : Int32) := by first | exact congrArg nI (cntP_y (P := fun g => (st g).toInt = 2) (show (st q).toInt = 2 by omega)) | exact congrArg nI (cntP_n0 (P := fun g => (st g).toInt = 2) (show ¬ (st q).toInt = 2 by omega))
                have e9_4 : nI (cntP (fun g => ¬ (tn g).toInt = 0) (q + 1)) = (nI ((cntP (fun g => ¬ (tn g).toInt = 0) q) + 1) : Int32) := by first | exact congrArg nI (cntP_y (P := fun g => ¬ (tn g).toInt = 0) (show ¬ (tn q).toInt = 0 by omega)) | exact congrArg nI (cntP_n0 (P := fun g => ¬ (tn g).toInt = 0) (show ¬ ¬ (tn q).toInt = 0 by omega))
                have e9_5 : nI (smP (lvF ft st tn) (fun g => nN (mn g)) (q + 1)) = (nI ((smP (lvF ft st tn) (fun g => nN (mn g)) q) + (nN (mn q))) : Int32) := by first | exact congrArg nI (smP_y (P := lvF ft st tn) (by first | with_reducible assumption | assumption)) | exact congrArg nI (smP_n (P := lvF ft st tn) (by first | with_reducible assumption | assumption))
                have hl9 : lv_has ls 7 [(6, .int (nI (q + 1))), (5, .int (nI (smP (lvF ft st tn) (fun g => nN (mn g)) (q + 1)))), (4, .int (nI (cntP (fun g => ¬ (tn g).toInt = 0) (q + 1)))), (3, .int (nI (cntP (fun g => (st g).toInt = 2) (q + 1)))), (2, .int (nI (cntP (fun g => (st g).toInt = 1) (q + 1)))), (0, .ref k0), (1, .int 1)] := by rw [e9_2]; rw [e9_3]; rw [e9_4]; rw [e9_5]; exact hl9
                exact ih_13 (q + 1) H locs ls (by first | with_reducible assumption | omega) (by first | with_reducible assumption | omega) hP hD hS hl9
          · have c_13 : (st q).toInt = 2 := zc_eq rfl rfl c_13
            refine lv_iconst (v := 1) hx hb dX11_count_53 rfl ?_
            refine lv_goto (tgt := 58) hx hb dX11_count_54 rfl ?_
            refine lv_iadd hx hb dX11_count_58 ?_
            refine zz_i (v := nI ((cntP (fun g => (st g).toInt = 2) q) + 1)) (nI_add (cntP (fun g => (st g).toInt = 2) q) 1) ?_
            refine lv_istore_n (lv' := [(3, .int (nI ((cntP (fun g => (st g).toInt = 2) q) + 1))), (2, .int (nI ((cntP (fun g => (st g).toInt = 1) q) + 1))), (6, .int (nI q)), (5, .int (nI (smP (lvF ft st tn) (fun g => nN (mn g)) q))), (4, .int (nI (cntP (fun g => ¬ (tn g).toInt = 0) q))), (0, .ref k0), (1, .int 1)]) hx hb dX11_count_59 rfl hl (Nat.le_of_ble_eq_true rfl) rfl (fun ls hl => ?_)
            refine lv_iload hx hb dX11_count_60 (lv_at hl 4 rfl) ?_
            refine lv_aload_n hx hb dX11_count_62 rfl (lv_at hl 5 rfl) ?_
            refine va_get (D := (dC, dI)) (ci := 9) (v := .ref (a 6)) (C := RX11) (T := TX11) (N := 55) hx hb hts inX11 hown hK hP 0 rfl rfl 6 (Nat.le_of_ble_eq_true rfl) (hts _ mw_1165) (fun _ h9 => h9) rfl dX11_count_63 ?_
            refine lv_iload hx hb dX11_count_66 (lv_at hl 2 rfl) ?_
            refine z_zald hx hb hK hP 2 1 rfl rfl (e := q) rfl b9_4 (Nat.le_of_ble_eq_true rfl) dX11_count_68 ?_
            refine lv_if_eq (tgt := 76) hx hb dX11_count_69 rfl (fun c_17 => ?_) (fun c_17 => ?_)
            · have c_17 : (tn q).toInt = 0 := zc_eq rfl rfl c_17
              refine lv_iconst (v := 0) hx hb dX11_count_76 rfl ?_
              refine lv_iadd hx hb dX11_count_77 ?_
              refine zz_i (v := nI ((cntP (fun g => ¬ (tn g).toInt = 0) q) + 0)) (nI_add (cntP (fun g => ¬ (tn g).toInt = 0) q) 0) ?_
              refine lv_istore (lv' := [(4, .int (nI ((cntP (fun g => ¬ (tn g).toInt = 0) q) + 0))), (3, .int (nI ((cntP (fun g => (st g).toInt = 2) q) + 1))), (2, .int (nI ((cntP (fun g => (st g).toInt = 1) q) + 1))), (6, .int (nI q)), (5, .int (nI (smP (lvF ft st tn) (fun g => nN (mn g)) q))), (0, .ref k0), (1, .int 1)]) hx hb dX11_count_78 hl (Nat.le_of_ble_eq_true rfl) rfl (fun ls hl => ?_)
              refine lv_iload hx hb dX11_count_80 (lv_at hl 4 rfl) ?_
              refine lv_aload_n hx hb dX11_count_82 rfl (lv_at hl 5 rfl) ?_
              refine lv_iload hx hb dX11_count_83 (lv_at hl 3 rfl) ?_
              obtain ⟨hPc, hDc, hFc, hI1⟩ := zi_sub (wc := [_, _, _]) hP hD hS hA [0, 1, 2] rfl rfl
              refine zcall (st1 := [.int (pI (q < ft ∧ (st q).toInt = 1 ∧ (tn q).toInt = 0)), .int (nI (smP (lvF ft st tn) (fun g => nN (mn g)) q))]) (va_runV (As := [.int (nI q)]) (rest := [.int (nI (smP (lvF ft st tn) (fun g => nN (mn g)) q))]) ⟨hx, hb, hml, hown, hts⟩ (k_M_is_n l dC dI cI cZ cF H.size k0 a I0 J0 q ft st tn (by first | with_reducible assumption | assumption) (by first | with_reducible assumption | omega) (by first | with_reducible assumption | omega)) (csV_179 hts rfl rfl ⟨Nat.le_of_ble_eq_true rfl, Nat.le_of_ble_eq_true rfl⟩) (zPV2 (q0 := 0) (ci := 9) hPc hDc hK hXN rfl rfl) rfl rfl hl.1 rfl (lv_room (Nat.le_of_ble_eq_true rfl)) dX11_count_85 ⟨Nat.le_of_ble_eq_true rfl, Nat.le_of_ble_eq_true rfl⟩) hS hFc hFc rfl (fun t H locs ht hB hk1 hS => ?_)
              obtain ⟨hP1, hD1⟩ := hB
              rw [ht] at hP1
              replace hP := z0 hP hD hk1 hP1 hI1
              clear hk1 hPc hDc hFc hP1 hD1 ht hI1
              refine lv_if_eq (tgt := 101) hx hb dX11_count_88 rfl (fun c_18 => ?_) (fun c_18 => ?_)
              · have c_18 : ¬ (q < ft ∧ (st q).toInt = 1 ∧ (tn q).toInt = 0) := zp_0 c_18
                refine lv_iconst (v := 0) hx hb dX11_count_101 rfl ?_
                refine lv_iadd hx hb dX11_count_102 ?_
                refine zz_i (v := nI ((smP (lvF ft st tn) (fun g => nN (mn g)) q) + 0)) (nI_add (smP (lvF ft st tn) (fun g => nN (mn g)) q) 0) ?_
                refine lv_istore (lv' := [(5, .int (nI ((smP (lvF ft st tn) (fun g => nN (mn g)) q) + 0))), (4, .int (nI ((cntP (fun g => ¬ (tn g).toInt = 0) q) + 0))), (3, .int (nI ((cntP (fun g => (st g).toInt = 2) q) + 1))), (2, .int (nI ((cntP (fun g => (st g).toInt = 1) q) + 1))), (6, .int (nI q)), (0, .ref k0), (1, .int 1)]) hx hb dX11_count_103 hl (Nat.le_of_ble_eq_true rfl) rfl (fun ls hl => ?_)
                refine lv_iinc (v := nI (q + 1)) (lv' := [(6, .int (nI (q + 1))), (5, .int (nI ((smP (lvF ft st tn) (fun g => nN (mn g)) q) + 0))), (4, .int (nI ((cntP (fun g => ¬ (tn g).toInt = 0) q) + 0))), (3, .int (nI ((cntP (fun g => (st g).toInt = 2) q) + 1))), (2, .int (nI ((cntP (fun g => (st g).toInt = 1) q) + 1))), (0, .ref k0), (1, .int 1)]) hx hb dX11_count_105 hl (k := 4) rfl (nI_add q 1) (Nat.le_of_ble_eq_true rfl) rfl (fun ls hl => ?_)
                refine lv_goto (tgt := 13) hx hb dX11_count_108 rfl ?_
                have hl9 := lv_sub hl [0, 1, 2, 3, 4, 5, 6] rfl
                have e9_2 : nI (cntP (fun g => (st g).toInt = 1) (q + 1)) = (nI ((cntP (fun g => (st g).toInt = 1) q) + 1) : Int32) := by first | exact congrArg nI (cntP_y (P := fun g => (st g).toInt = 1) (show (st q).toInt = 1 by omega)) | exact congrArg nI (cntP_n0 (P := fun g => (st g).toInt = 1) (show ¬ (st q).toInt = 1 by omega))
                have e9_3 : nI (cntP (fun g => (st g).toInt = 2) (q + 1)) = (nI ((cntP (fun g => (st g).toInt = 2) q) + 1) : Int32) := by first | exact congrArg nI (cntP_y (P := fun g => (st g).toInt = 2) (show (st q).toInt = 2 by omega)) | exact congrArg nI (cntP_n0 (P := fun g => (st g).toInt = 2) (show ¬ (st q).toInt = 2 by omega))
                have e9_4 : nI (cntP (fun g => ¬ (tn g).toInt = 0) (q + 1)) = (nI ((cntP (fun g => ¬ (tn g).toInt = 0) q) + 0) : Int32) := by first | exact congrArg nI (cntP_y (P := fun g => ¬ (tn g).toInt = 0) (show ¬ (tn q).toInt = 0 by omega)) | exact congrArg nI (cntP_n0 (P := fun g => ¬ (tn g).toInt = 0) (show ¬ ¬ (tn q).toInt = 0 by omega))
                have e9_5 : nI (smP (lvF ft st tn) (fun g => nN (mn g)) (q + 1)) = (nI ((smP (lvF ft st tn) (fun g => nN (mn g)) q) + 0) : Int32) := by first | exact congrArg nI (smP_y (P := lvF ft st tn) (by first | with_reducible assumption | assumption)) | exact congrArg nI (smP_n (P := lvF ft st tn) (by first | with_reducible assumption | assumption))
                have hl9 : lv_has ls 7 [(6, .int (nI (q + 1))), (5, .int (nI (smP (lvF ft st tn) (fun g => nN (mn g)) (q + 1)))), (4, .int (nI (cntP (fun g => ¬ (tn g).toInt = 0) (q + 1)))), (3, .int (nI (cntP (fun g => (st g).toInt = 2) (q + 1)))), (2, .int (nI (cntP (fun g => (st g).toInt = 1) (q + 1)))), (0, .ref k0), (1, .int 1)] := by rw [e9_2]; rw [e9_3]; rw [e9_4]; rw [e9_5]; exact hl9
                exact ih_13 (q + 1) H locs ls (by first | with_reducible assumption | omega) (by first | with_reducible assumption | omega) hP hD hS hl9
              · have c_18 : q < ft ∧ (st q).toInt = 1 ∧ (tn q).toInt = 0 := zp_1 c_18
                refine lv_aload_n hx hb dX11_count_91 rfl (lv_at hl 5 rfl) ?_
                refine va_get (D := (dC, dI)) (ci := 9) (v := .ref (a 11)) (C := RX11) (T := TX11) (N := 55) hx hb hts inX11 hown hK hP 0 rfl rfl 11 (Nat.le_of_ble_eq_true rfl) (hts _ mw_1170) (fun _ h9 => h9) rfl dX11_count_92 ?_
                refine lv_iload hx hb dX11_count_95 (lv_at hl 3 rfl) ?_
                refine z_iald hx hb hK hP 3 0 rfl rfl (e := q) rfl b9_4 (Nat.le_of_ble_eq_true rfl) dX11_count_97 ?_
                refine zz_i (v := nI (nN (mn q))) ((hmw q (by first | with_reducible assumption | assumption)).1) ?_
                refine lv_goto (tgt := 102) hx hb dX11_count_98 rfl ?_
                refine lv_iadd hx hb dX11_count_102 ?_
                refine zz_i (v := nI ((smP (lvF ft st tn) (fun g => nN (mn g)) q) + (nN (mn q)))) (nI_add (smP (lvF ft st tn) (fun g => nN (mn g)) q) (nN (mn q))) ?_
                refine lv_istore (lv' := [(5, .int (nI ((smP (lvF ft st tn) (fun g => nN (mn g)) q) + (nN (mn q))))), (4, .int (nI ((cntP (fun g => ¬ (tn g).toInt = 0) q) + 0))), (3, .int (nI ((cntP (fun g => (st g).toInt = 2) q) + 1))), (2, .int (nI ((cntP (fun g => (st g).toInt = 1) q) + 1))), (6, .int (nI q)), (0, .ref k0), (1, .int 1)]) hx hb dX11_count_103 hl (Nat.le_of_ble_eq_true rfl) rfl (fun ls hl => ?_)
                refine lv_iinc (v := nI (q + 1)) (lv' := [(6, .int (nI (q + 1))), (5, .int (nI ((smP (lvF ft st tn) (fun g => nN (mn g)) q) + (nN (mn q))))), (4, .int (nI ((cntP (fun g => ¬ (tn g).toInt = 0) q) + 0))), (3, .int (nI ((cntP (fun g => (st g).toInt = 2) q) + 1))), (2, .int (nI ((cntP (fun g => (st g).toInt = 1) q) + 1))), (0, .ref k0), (1, .int 1)]) hx hb dX11_count_105 hl (k := 4) rfl (nI_add q 1) (Nat.le_of_ble_eq_true rfl) rfl (fun ls hl => ?_)
                refine lv_goto (tgt := 13) hx hb dX11_count_108 rfl ?_
                have hl9 := lv_sub hl [0, 1, 2, 3, 4, 5, 6] rfl
                have e9_2 : nI (cntP (fun g => (st g).toInt = 1) (q + 1)) = (nI ((cntP (fun g => (st g).toInt = 1) q) + 1) : Int32) := by first | exact congrArg nI (cntP_y (P := fun g => (st g).toInt = 1) (show (st q).toInt = 1 by omega)) | exact congrArg nI (cntP_n0 (P := fun g => (st g).toInt = 1) (show ¬ (st q).toInt = 1 by omega))
                have e9_3 : nI (cntP (fun g => (st g).toInt = 2) (q + 1)) = (nI ((cntP (fun g => (st g).toInt = 2) q) + 1) : Int32) := by first | exact congrArg nI (cntP_y (P := fun g => (st g).toInt = 2) (show (st q).toInt = 2 by omega)) | exact congrArg nI (cntP_n0 (P := fun g => (st g).toInt = 2) (show ¬ (st q).toInt = 2 by omega))
                have e9_4 : nI (cntP (fun g => ¬ (tn g).toInt = 0) (q + 1)) = (nI ((cntP (fun g => ¬ (tn g).toInt = 0) q) + 0) : Int32) := by first | exact congrArg nI (cntP_y (P := fun g => ¬ (tn g).toInt = 0) (show ¬ (tn q).toInt = 0 by omega)) | exact congrArg nI (cntP_n0 (P := fun g => ¬ (tn g).toInt = 0) (show ¬ ¬ (tn q).toInt = 0 by omega))
                have e9_5 : nI (smP (lvF ft st tn) (fun g => nN (mn g)) (q + 1)) = (nI ((smP (lvF ft st tn) (fun g => nN (mn g)) q) + (nN (mn q))) : Int32) := by first | exact congrArg nI (smP_y (P := lvF ft st tn) (by first | with_reducible assumption | assumption)) | exact congrArg nI (smP_n (P := lvF ft st tn) (by first | with_reducible assumption | assumption))
                have hl9 : lv_has ls 7 [(6, .int (nI (q + 1))), (5, .int (nI (smP (lvF ft st tn) (fun g => nN (mn g)) (q + 1)))), (4, .int (nI (cntP (fun g => ¬ (tn g).toInt = 0) (q + 1)))), (3, .int (nI (cntP (fun g => (st g).toInt = 2) (q + 1)))), (2, .int (nI (cntP (fun g => (st g).toInt = 1) (q + 1)))), (0, .ref k0), (1, .int 1)] := by rw [e9_2]; rw [e9_3]; rw [e9_4]; rw [e9_5]; exact hl9
                exact ih_13 (q + 1) H locs ls (by first | with_reducible assumption | omega) (by first | with_reducible assumption | omega) hP hD hS hl9
            · have c_17 : ¬ (tn q).toInt = 0 := zc_ne rfl rfl c_17
              refine lv_iconst (v := 1) hx hb dX11_count_72 rfl ?_
              refine lv_goto (tgt := 77) hx hb dX11_count_73 rfl ?_
              refine lv_iadd hx hb dX11_count_77 ?_
              refine zz_i (v := nI ((cntP (fun g => ¬ (tn g).toInt = 0) q) + 1)) (nI_add (cntP (fun g => ¬ (tn g).toInt = 0) q) 1) ?_
              refine lv_istore (lv' := [(4, .int (nI ((cntP (fun g => ¬ (tn g).toInt = 0) q) + 1))), (3, .int (nI ((cntP (fun g => (st g).toInt = 2) q) + 1))), (2, .int (nI ((cntP (fun g => (st g).toInt = 1) q) + 1))), (6, .int (nI q)), (5, .int (nI (smP (lvF ft st tn) (fun g => nN (mn g)) q))), (0, .ref k0), (1, .int 1)]) hx hb dX11_count_78 hl (Nat.le_of_ble_eq_true rfl) rfl (fun ls hl => ?_)
              refine lv_iload hx hb dX11_count_80 (lv_at hl 4 rfl) ?_
              refine lv_aload_n hx hb dX11_count_82 rfl (lv_at hl 5 rfl) ?_
              refine lv_iload hx hb dX11_count_83 (lv_at hl 3 rfl) ?_
              obtain ⟨hPc, hDc, hFc, hI1⟩ := zi_sub (wc := [_, _, _]) hP hD hS hA [0, 1, 2] rfl rfl
              refine zcall (st1 := [.int (pI (q < ft ∧ (st q).toInt = 1 ∧ (tn q).toInt = 0)), .int (nI (smP (lvF ft st tn) (fun g => nN (mn g)) q))]) (va_runV (As := [.int (nI q)]) (rest := [.int (nI (smP (lvF ft st tn) (fun g => nN (mn g)) q))]) ⟨hx, hb, hml, hown, hts⟩ (k_M_is_n l dC dI cI cZ cF H.size k0 a I0 J0 q ft st tn (by first | with_reducible assumption | assumption) (by first | with_reducible assumption | omega) (by first | with_reducible assumption | omega)) (csV_179 hts rfl rfl ⟨Nat.le_of_ble_eq_true rfl, Nat.le_of_ble_eq_true rfl⟩) (zPV2 (q0 := 0) (ci := 9) hPc hDc hK hXN rfl rfl) rfl rfl hl.1 rfl (lv_room (Nat.le_of_ble_eq_true rfl)) dX11_count_85 ⟨Nat.le_of_ble_eq_true rfl, Nat.le_of_ble_eq_true rfl⟩) hS hFc hFc rfl (fun t H locs ht hB hk1 hS => ?_)
              obtain ⟨hP1, hD1⟩ := hB
              rw [ht] at hP1
              replace hP := z0 hP hD hk1 hP1 hI1
              clear hk1 hPc hDc hFc hP1 hD1 ht hI1
              refine lv_if_eq (tgt := 101) hx hb dX11_count_88 rfl (fun c_19 => ?_) (fun c_19 => ?_)
              · have c_19 : ¬ (q < ft ∧ (st q).toInt = 1 ∧ (tn q).toInt = 0) := zp_0 c_19
                refine lv_iconst (v := 0) hx hb dX11_count_101 rfl ?_
                refine lv_iadd hx hb dX11_count_102 ?_
                refine zz_i (v := nI ((smP (lvF ft st tn) (fun g => nN (mn g)) q) + 0)) (nI_add (smP (lvF ft st tn) (fun g => nN (mn g)) q) 0) ?_
                refine lv_istore (lv' := [(5, .int (nI ((smP (lvF ft st tn) (fun g => nN (mn g)) q) + 0))), (4, .int (nI ((cntP (fun g => ¬ (tn g).toInt = 0) q) + 1))), (3, .int (nI ((cntP (fun g => (st g).toInt = 2) q) + 1))), (2, .int (nI ((cntP (fun g => (st g).toInt = 1) q) + 1))), (6, .int (nI q)), (0, .ref k0), (1, .int 1)]) hx hb dX11_count_103 hl (Nat.le_of_ble_eq_true rfl) rfl (fun ls hl => ?_)
                refine lv_iinc (v := nI (q + 1)) (lv' := [(6, .int (nI (q + 1))), (5, .int (nI ((smP (lvF ft st tn) (fun g => nN (mn g)) q) + 0))), (4, .int (nI ((cntP (fun g => ¬ (tn g).toInt = 0) q) + 1))), (3, .int (nI ((cntP (fun g => (st g).toInt = 2) q) + 1))), (2, .int (nI ((cntP (fun g => (st g).toInt = 1) q) + 1))), (0, .ref k0), (1, .int 1)]) hx hb dX11_count_105 hl (k := 4) rfl (nI_add q 1) (Nat.le_of_ble_eq_true rfl) rfl (fun ls hl => ?_)
                refine lv_goto (tgt := 13) hx hb dX11_count_108 rfl ?_
                have hl9 := lv_sub hl [0, 1, 2, 3, 4, 5, 6] rfl
                have e9_2 : nI (cntP (fun g => (st g).toInt = 1) (q + 1)) = (nI ((cntP (fun g => (st g).toInt = 1) q) + 1) : Int32) := by first | exact congrArg nI (cntP_y (P := fun g => (st g).toInt = 1) (show (st q).toInt = 1 by omega)) | exact congrArg nI (cntP_n0 (P := fun g => (st g).toInt = 1) (show ¬ (st q).toInt = 1 by omega))
                have e9_3 : nI (cntP (fun g => (st g).toInt = 2) (q + 1)) = (nI ((cntP (fun g => (st g).toInt = 2) q) + 1) : Int32) := by first | exact congrArg nI (cntP_y (P := fun g => (st g).toInt = 2) (show (st q).toInt = 2 by omega)) | exact congrArg nI (cntP_n0 (P := fun g => (st g).toInt = 2) (show ¬ (st q).toInt = 2 by omega))
                have e9_4 : nI (cntP (fun g => ¬ (tn g).toInt = 0) (q + 1)) = (nI ((cntP (fun g => ¬ (tn g).toInt = 0) q) + 1) : Int32) := by first | exact congrArg nI (cntP_y (P := fun g => ¬ (tn g).toInt = 0) (show ¬ (tn q).toInt = 0 by omega)) | exact congrArg nI (cntP_n0 (P := fun g => ¬ (tn g).toInt = 0) (show ¬ ¬ (tn q).toInt = 0 by omega))
                have e9_5 : nI (smP (lvF ft st tn) (fun g => nN (mn g)) (q + 1)) = (nI ((smP (lvF ft st tn) (fun g => nN (mn g)) q) + 0) : Int32) := by first | exact congrArg nI (smP_y (P := lvF ft st tn) (by first | with_reducible assumption | assumption)) | exact congrArg nI (smP_n (P := lvF ft st tn) (by first | with_reducible assumption | assumption))
                have hl9 : lv_has ls 7 [(6, .int (nI (q + 1))), (5, .int (nI (smP (lvF ft st tn) (fun g => nN (mn g)) (q + 1)))), (4, .int (nI (cntP (fun g => ¬ (tn g).toInt = 0) (q + 1)))), (3, .int (nI (cntP (fun g => (st g).toInt = 2) (q + 1)))), (2, .int (nI (cntP (fun g => (st g).toInt = 1) (q + 1)))), (0, .ref k0), (1, .int 1)] := by rw [e9_2]; rw [e9_3]; rw [e9_4]; rw [e9_5]; exact hl9
                exact ih_13 (q + 1) H locs ls (by first | with_reducible assumption | omega) (by first | with_reducible assumption | omega) hP hD hS hl9
              · have c_19 : q < ft ∧ (st q).toInt = 1 ∧ (tn q).toInt = 0 := zp_1 c_19
                refine lv_aload_n hx hb dX11_count_91 rfl (lv_at hl 5 rfl) ?_
                refine va_get (D := (dC, dI)) (ci := 9) (v := .ref (a 11)) (C := RX11) (T := TX11) (N := 55) hx hb hts inX11 hown hK hP 0 rfl rfl 11 (Nat.le_of_ble_eq_true rfl) (hts _ mw_1170) (fun _ h9 => h9) rfl dX11_count_92 ?_
                refine lv_iload hx hb dX11_count_95 (lv_at hl 3 rfl) ?_
                refine z_iald hx hb hK hP 3 0 rfl rfl (e := q) rfl b9_4 (Nat.le_of_ble_eq_true rfl) dX11_count_97 ?_
                refine zz_i (v := nI (nN (mn q))) ((hmw q (by first | with_reducible assumption | assumption)).1) ?_
                refine lv_goto (tgt := 102) hx hb dX11_count_98 rfl ?_
                refine lv_iadd hx hb dX11_count_102 ?_
                refine zz_i (v := nI ((smP (lvF ft st tn) (fun g => nN (mn g)) q) + (nN (mn q)))) (nI_add (smP (lvF ft st tn) (fun g => nN (mn g)) q) (nN (mn q))) ?_
                refine lv_istore (lv' := [(5, .int (nI ((smP (lvF ft st tn) (fun g => nN (mn g)) q) + (nN (mn q))))), (4, .int (nI ((cntP (fun g => ¬ (tn g).toInt = 0) q) + 1))), (3, .int (nI ((cntP (fun g => (st g).toInt = 2) q) + 1))), (2, .int (nI ((cntP (fun g => (st g).toInt = 1) q) + 1))), (6, .int (nI q)), (0, .ref k0), (1, .int 1)]) hx hb dX11_count_103 hl (Nat.le_of_ble_eq_true rfl) rfl (fun ls hl => ?_)
                refine lv_iinc (v := nI (q + 1)) (lv' := [(6, .int (nI (q + 1))), (5, .int (nI ((smP (lvF ft st tn) (fun g => nN (mn g)) q) + (nN (mn q))))), (4, .int (nI ((cntP (fun g => ¬ (tn g).toInt = 0) q) + 1))), (3, .int (nI ((cntP (fun g => (st g).toInt = 2) q) + 1))), (2, .int (nI ((cntP (fun g => (st g).toInt = 1) q) + 1))), (0, .ref k0), (1, .int 1)]) hx hb dX11_count_105 hl (k := 4) rfl (nI_add q 1) (Nat.le_of_ble_eq_true rfl) rfl (fun ls hl => ?_)
                refine lv_goto (tgt := 13) hx hb dX11_count_108 rfl ?_
                have hl9 := lv_sub hl [0, 1, 2, 3, 4, 5, 6] rfl
                have e9_2 : nI (cntP (fun g => (st g).toInt = 1) (q + 1)) = (nI ((cntP (fun g => (st g).toInt = 1) q) + 1) : Int32) := by first | exact congrArg nI (cntP_y (P := fun g => (st g).toInt = 1) (show (st q).toInt = 1 by omega)) | exact congrArg nI (cntP_n0 (P := fun g => (st g).toInt = 1) (show ¬ (st q).toInt = 1 by omega))
                have e9_3 : nI (cntP (fun g => (st g).toInt = 2) (q + 1)) = (nI ((cntP (fun g => (st g).toInt = 2) q) + 1) : Int32) := by first | exact congrArg nI (cntP_y (P := fun g => (st g).toInt = 2) (show (st q).toInt = 2 by omega)) | exact congrArg nI (cntP_n0 (P := fun g => (st g).toInt = 2) (show ¬ (st q).toInt = 2 by omega))
                have e9_4 : nI (cntP (fun g => ¬ (tn g).toInt = 0) (q + 1)) = (nI ((cntP (fun g => ¬ (tn g).toInt = 0) q) + 1) : Int32) := by first | exact congrArg nI (cntP_y (P := fun g => ¬ (tn g).toInt = 0) (show ¬ (tn q).toInt = 0 by omega)) | exact congrArg nI (cntP_n0 (P := fun g => ¬ (tn g).toInt = 0) (show ¬ ¬ (tn q).toInt = 0 by omega))
                have e9_5 : nI (smP (lvF ft st tn) (fun g => nN (mn g)) (q + 1)) = (nI ((smP (lvF ft st tn) (fun g => nN (mn g)) q) + (nN (mn q))) : Int32) := by first | exact congrArg nI (smP_y (P := lvF ft st tn) (by first | with_reducible assumption | assumption)) | exact congrArg nI (smP_n (P := lvF ft st tn) (by first | with_reducible assumption | assumption))
                have hl9 : lv_has ls 7 [(6, .int (nI (q + 1))), (5, .int (nI (smP (lvF ft st tn) (fun g => nN (mn g)) (q + 1)))), (4, .int (nI (cntP (fun g => ¬ (tn g).toInt = 0) (q + 1)))), (3, .int (nI (cntP (fun g => (st g).toInt = 2) (q + 1)))), (2, .int (nI (cntP (fun g => (st g).toInt = 1) (q + 1)))), (0, .ref k0), (1, .int 1)] := by rw [e9_2]; rw [e9_3]; rw [e9_4]; rw [e9_5]; exact hl9
                exact ih_13 (q + 1) H locs ls (by first | with_reducible assumption | omega) (by first | with_reducible assumption | omega) hP hD hS hl9
  have e9_2 : nI (cntP (fun g => (st g).toInt = 1) 0) = (0 : Int32) := by rfl
  have e9_3 : nI (cntP (fun g => (st g).toInt = 2) 0) = (0 : Int32) := by rfl
  have e9_4 : nI (cntP (fun g => ¬ (tn g).toInt = 0) 0) = (0 : Int32) := by rfl
  have e9_5 : nI (smP (lvF ft st tn) (fun g => nN (mn g)) 0) = (0 : Int32) := by rfl
  have hl9 : lv_has ls 7 [(6, .int (nI 0)), (5, .int (nI (smP (lvF ft st tn) (fun g => nN (mn g)) 0))), (4, .int (nI (cntP (fun g => ¬ (tn g).toInt = 0) 0))), (3, .int (nI (cntP (fun g => (st g).toInt = 2) 0))), (2, .int (nI (cntP (fun g => (st g).toInt = 1) 0))), (0, .ref k0), (1, .int 1)] := by rw [e9_2]; rw [e9_3]; rw [e9_4]; rw [e9_5]; exact lv_sub hl [0, 1, 2, 3, 4, 5, 6] rfl
  exact hl_13 _ 0 s.heap [] ls (Nat.lt_succ_self _) (by first | with_reducible assumption | omega) hP hD hS hl9
set_option maxHeartbeats 4000000 in
set_option maxRecDepth 100000 in
theorem k_M_count_2 (l : Launch) (dC : Nat → ClassId) (dI : Nat → Nat → Nat) (cI cZ cF : ClassId) (sz : Nat) (k0 : Nat) (a : Nat → Nat) (I0 : Nat → Int32) (J0 : Nat → Int64) (ft : Nat) (st : Nat → Int32) (tn : Nat → Int32) (mn : Nat → Int32) (hft : I0 0 = nI ft) (h200 : ft ≤ 200) (hmw : ∀ q, lvF ft st tn q → mn q = nI (nN (mn q)) ∧ nN (mn q) ≤ 40) : zM l yX11_count cX11_count 7 (some .int) ({ frames := 2, cells := 0, slots := 0, locals := 42 } : Room) [.ref k0, .int 2] (dC, dI) (zTy cI cZ cF) [(om k0 a I0 J0), (oa (a 5) cI 201 st), (oa (a 6) cZ 201 tn), (oa (a 11) cI 201 mn)] sz (some (.int (nI (cntP (fun g => (st g).toInt = 2) ft)))) (fun A t => zPD (dC, dI) classes A [(om k0 a I0 J0), (oa (a 5) cI 201 st), (oa (a 6) cZ 201 tn), (oa (a 11) cI 201 mn)] t.heap) 0 0 := by
  refine zIn (own := "ScaleShopModel") (loc := [(0, .ref k0), (1, .int 2)]) rfl rfl rfl rfl (fun p e s m below meth c hx hb hr hts hown hlocks hml hnm9 A hA hS hP hD hK hXN Q9 hQ9 ls hl => ?_)
  refine lv_iconst (v := 0) hx hb dX11_count_0 rfl ?_
  refine lv_istore_n (lv' := [(2, .int 0), (0, .ref k0), (1, .int 2)]) hx hb dX11_count_1 rfl hl (Nat.le_of_ble_eq_true rfl) rfl (fun ls hl => ?_)
  refine lv_iconst (v := 0) hx hb dX11_count_2 rfl ?_
  refine lv_istore_n (lv' := [(3, .int 0), (2, .int 0), (0, .ref k0), (1, .int 2)]) hx hb dX11_count_3 rfl hl (Nat.le_of_ble_eq_true rfl) rfl (fun ls hl => ?_)
  refine lv_iconst (v := 0) hx hb dX11_count_4 rfl ?_
  refine lv_istore (lv' := [(4, .int 0), (3, .int 0), (2, .int 0), (0, .ref k0), (1, .int 2)]) hx hb dX11_count_5 hl (Nat.le_of_ble_eq_true rfl) rfl (fun ls hl => ?_)
  refine lv_iconst (v := 0) hx hb dX11_count_7 rfl ?_
  refine lv_istore (lv' := [(5, .int 0), (4, .int 0), (3, .int 0), (2, .int 0), (0, .ref k0), (1, .int 2)]) hx hb dX11_count_8 hl (Nat.le_of_ble_eq_true rfl) rfl (fun ls hl => ?_)
  refine lv_iconst (v := 0) hx hb dX11_count_10 rfl ?_
  refine lv_istore (lv' := [(6, .int 0), (5, .int 0), (4, .int 0), (3, .int 0), (2, .int 0), (0, .ref k0), (1, .int 2)]) hx hb dX11_count_11 hl (Nat.le_of_ble_eq_true rfl) rfl (fun ls hl => ?_)
  have hl_13 : ∀ (n9 : Nat) (q : Nat) (H : Heap) (locs : List Loc) (ls : Array Slot), ft - q < n9 → (q ≤ ft) → va_P (dC, dI) classes [(om k0 a I0 J0), (oa (a 5) cI 201 st), (oa (a 6) cZ 201 tn), (oa (a 11) cI 201 mn)] H → va_D A [(om k0 a I0 J0), (oa (a 5) cI 201 st), (oa (a 6) cZ 201 tn), (oa (a 11) cI 201 mn)] → va_S A s.heap H locs → lv_has ls 7 [(6, .int (nI q)), (5, .int (nI (smP (lvF ft st tn) (fun g => nN (mn g)) q))), (4, .int (nI (cntP (fun g => ¬ (tn g).toInt = 0) q))), (3, .int (nI (cntP (fun g => (st g).toInt = 2) q))), (2, .int (nI (cntP (fun g => (st g).toInt = 1) q))), (0, .ref k0), (1, .int 2)] → W p l e ({ frames := 2, cells := 0, slots := 0, locals := 42 } : Room) s m ([.ref k0, .int 2] : List Value).toArray below meth c H locs 0 0 Q9 (F0 m 13 ls []) := by
    intro n9
    induction n9 with
    | zero => intro q H locs ls hm; exact absurd hm (Nat.not_lt_zero _)
    | succ n9 ih_13 =>
      intro q H locs ls hm hq hP hD hS hl
      have hc2 := cntP_b (fun g => (st g).toInt = 1) q
      have hc3 := cntP_b (fun g => (st g).toInt = 2) q
      have hc4 := cntP_b (fun g => ¬ (tn g).toInt = 0) q
      have hc5 := smP_b (P := lvF ft st tn) (c := fun g => nN (mn g)) q (fun j _ h => (hmw j h).2)
      refine lv_iload hx hb dX11_count_13 (lv_at hl 0 rfl) ?_
      refine lv_aload_n hx hb dX11_count_15 rfl (lv_at hl 5 rfl) ?_
      refine va_get (D := (dC, dI)) (ci := 9) (v := .int (I0 0)) (C := RX11) (T := TX11) (N := 55) hx hb hts inX11 hown hK hP 0 rfl rfl 0 (Nat.le_of_ble_eq_true rfl) (hts _ mw_1159) (fun _ h9 => h9) rfl dX11_count_16 ?_
      refine zz_i (v := nI ft) (hft) ?_
      have b9_2 : zlt (q) := show q < 2147483648 by omega
      have b9_3 : zlt (ft) := show ft < 2147483648 by omega
      refine lv_icmp_ge (tgt := 111) hx hb dX11_count_19 rfl (fun c_1 => ?_) (fun c_1 => ?_)
      · have c_1 : ((ft : Nat) : Int) ≤ ((q : Nat) : Int) := zc_le (nI_toInt b9_3) (nI_toInt b9_2) c_1
        refine lv_iload_n hx hb dX11_count_111 rfl (lv_at hl 6 rfl) ?_
        refine lv_tableIn (tgt := 167) (off := 55) hx hb dX11_count_112 (by decide) (by decide) (by decide) (by decide) ?_
        refine lv_iload_n hx hb dX11_count_167 rfl (lv_at hl 3 rfl) ?_
        obtain ⟨hP9, hD9⟩ := zu_sub (wc := [_, _, _, _]) hP hD [true, true, true, true] rfl rfl
        rw [hQ9]
        exact W.iret (v := nI (cntP (fun g => (st g).toInt = 2) q)) hx hb hr (fun t ht hW => ⟨⟨congrArg (fun z => Outcome.returned (some (Value.int z))) (show (nI (cntP (fun g => (st g).toInt = 2) q) : Int32) = nI (cntP (fun g => (st g).toInt = 2) ft) from zn_eq (by rw [show q = ft by omega])), by rw [ht]; exact hP9, hD9⟩, hS.F ht⟩) hS.2.2 dX11_count_168
      · have c_1 : ((q : Nat) : Int) < ((ft : Nat) : Int) := zc_nle (nI_toInt b9_3) (nI_toInt b9_2) c_1
        refine lv_iload_n hx hb dX11_count_22 rfl (lv_at hl 4 rfl) ?_
        refine lv_aload_n hx hb dX11_count_23 rfl (lv_at hl 5 rfl) ?_
        refine va_get (D := (dC, dI)) (ci := 9) (v := .ref (a 5)) (C := RX11) (T := TX11) (N := 55) hx hb hts inX11 hown hK hP 0 rfl rfl 5 (Nat.le_of_ble_eq_true rfl) (hts _ mw_1164) (fun _ h9 => h9) rfl dX11_count_24 ?_
        refine lv_iload hx hb dX11_count_27 (lv_at hl 0 rfl) ?_
        have b9_4 : q < 201 := by omega
        refine z_iald hx hb hK hP 1 0 rfl rfl (e := q) rfl b9_4 (Nat.le_of_ble_eq_true rfl) dX11_count_29 ?_
        refine lv_iconst (v := 1) hx hb dX11_count_30 rfl ?_
        refine lv_icmp_ne (tgt := 38) hx hb dX11_count_31 rfl (fun c_5 => ?_) (fun c_5 => ?_)
        · have c_5 : ¬ (st q).toInt = 1 := zc_ne rfl rfl c_5
          refine lv_iconst (v := 0) hx hb dX11_count_38 rfl ?_
          refine lv_iadd hx hb dX11_count_39 ?_
          refine zz_i (v := nI ((cntP (fun g => (st g).toInt = 1) q) + 0)) (nI_add (cntP (fun g => (st g).toInt = 1) q) 0) ?_
          refine lv_istore_n (lv' := [(2, .int (nI ((cntP (fun g => (st g).toInt = 1) q) + 0))), (6, .int (nI q)), (5, .int (nI (smP (lvF ft st tn) (fun g => nN (mn g)) q))), (4, .int (nI (cntP (fun g => ¬ (tn g).toInt = 0) q))), (3, .int (nI (cntP (fun g => (st g).toInt = 2) q))), (0, .ref k0), (1, .int 2)]) hx hb dX11_count_40 rfl hl (Nat.le_of_ble_eq_true rfl) rfl (fun ls hl => ?_)
          refine lv_iload_n hx hb dX11_count_41 rfl (lv_at hl 4 rfl) ?_
          refine lv_aload_n hx hb dX11_count_42 rfl (lv_at hl 5 rfl) ?_
          refine va_get (D := (dC, dI)) (ci := 9) (v := .ref (a 5)) (C := RX11) (T := TX11) (N := 55) hx hb hts inX11 hown hK hP 0 rfl rfl 5 (Nat.le_of_ble_eq_true rfl) (hts _ mw_1164) (fun _ h9 => h9) rfl dX11_count_43 ?_
          refine lv_iload hx hb dX11_count_46 (lv_at hl 1 rfl) ?_
          refine z_iald hx hb hK hP 1 0 rfl rfl (e := q) rfl b9_4 (Nat.le_of_ble_eq_true rfl) dX11_count_48 ?_
          refine lv_iconst (v := 2) hx hb dX11_count_49 rfl ?_
          refine lv_icmp_ne (tgt := 57) hx hb dX11_count_50 rfl (fun c_6 => ?_) (fun c_6 => ?_)
          · have c_6 : ¬ (st q).toInt = 2 := zc_ne rfl rfl c_6
            refine lv_iconst (v := 0) hx hb dX11_count_57 rfl ?_
            refine lv_iadd hx hb dX11_count_58 ?_
            refine zz_i (v := nI ((cntP (fun g => (st g).toInt = 2) q) + 0)) (nI_add (cntP (fun g => (st g).toInt = 2) q) 0) ?_
            refine lv_istore_n (lv' := [(3, .int (nI ((cntP (fun g => (st g).toInt = 2) q) + 0))), (2, .int (nI ((cntP (fun g => (st g).toInt = 1) q) + 0))), (6, .int (nI q)), (5, .int (nI (smP (lvF ft st tn) (fun g => nN (mn g)) q))), (4, .int (nI (cntP (fun g => ¬ (tn g).toInt = 0) q))), (0, .ref k0), (1, .int 2)]) hx hb dX11_count_59 rfl hl (Nat.le_of_ble_eq_true rfl) rfl (fun ls hl => ?_)
            refine lv_iload hx hb dX11_count_60 (lv_at hl 4 rfl) ?_
            refine lv_aload_n hx hb dX11_count_62 rfl (lv_at hl 5 rfl) ?_
            refine va_get (D := (dC, dI)) (ci := 9) (v := .ref (a 6)) (C := RX11) (T := TX11) (N := 55) hx hb hts inX11 hown hK hP 0 rfl rfl 6 (Nat.le_of_ble_eq_true rfl) (hts _ mw_1165) (fun _ h9 => h9) rfl dX11_count_63 ?_
            refine lv_iload hx hb dX11_count_66 (lv_at hl 2 rfl) ?_
            refine z_zald hx hb hK hP 2 1 rfl rfl (e := q) rfl b9_4 (Nat.le_of_ble_eq_true rfl) dX11_count_68 ?_
            refine lv_if_eq (tgt := 76) hx hb dX11_count_69 rfl (fun c_7 => ?_) (fun c_7 => ?_)
            · have c_7 : (tn q).toInt = 0 := zc_eq rfl rfl c_7
              refine lv_iconst (v := 0) hx hb dX11_count_76 rfl ?_
              refine lv_iadd hx hb dX11_count_77 ?_
              refine zz_i (v := nI ((cntP (fun g => ¬ (tn g).toInt = 0) q) + 0)) (nI_add (cntP (fun g => ¬ (tn g).toInt = 0) q) 0) ?_
              refine lv_istore (lv' := [(4, .int (nI ((cntP (fun g => ¬ (tn g).toInt = 0) q) + 0))), (3, .int (nI ((cntP (fun g => (st g).toInt = 2) q) + 0))), (2, .int (nI ((cntP (fun g => (st g).toInt = 1) q) + 0))), (6, .int (nI q)), (5, .int (nI (smP (lvF ft st tn) (fun g => nN (mn g)) q))), (0, .ref k0), (1, .int 2)]) hx hb dX11_count_78 hl (Nat.le_of_ble_eq_true rfl) rfl (fun ls hl => ?_)
              refine lv_iload hx hb dX11_count_80 (lv_at hl 4 rfl) ?_
              refine lv_aload_n hx hb dX11_count_82 rfl (lv_at hl 5 rfl) ?_
              refine lv_iload hx hb dX11_count_83 (lv_at hl 3 rfl) ?_
              obtain ⟨hPc, hDc, hFc, hI1⟩ := zi_sub (wc := [_, _, _]) hP hD hS hA [0, 1, 2] rfl rfl
              refine zcall (st1 := [.int (pI (q < ft ∧ (st q).toInt = 1 ∧ (tn q).toInt = 0)), .int (nI (smP (lvF ft st tn) (fun g => nN (mn g)) q))]) (va_runV (As := [.int (nI q)]) (rest := [.int (nI (smP (lvF ft st tn) (fun g => nN (mn g)) q))]) ⟨hx, hb, hml, hown, hts⟩ (k_M_is_n l dC dI cI cZ cF H.size k0 a I0 J0 q ft st tn (by first | with_reducible assumption | assumption) (by first | with_reducible assumption | omega) (by first | with_reducible assumption | omega)) (csV_179 hts rfl rfl ⟨Nat.le_of_ble_eq_true rfl, Nat.le_of_ble_eq_true rfl⟩) (zPV2 (q0 := 0) (ci := 9) hPc hDc hK hXN rfl rfl) rfl rfl hl.1 rfl (lv_room (Nat.le_of_ble_eq_true rfl)) dX11_count_85 ⟨Nat.le_of_ble_eq_true rfl, Nat.le_of_ble_eq_true rfl⟩) hS hFc hFc rfl (fun t H locs ht hB hk1 hS => ?_)
              obtain ⟨hP1, hD1⟩ := hB
              rw [ht] at hP1
              replace hP := z0 hP hD hk1 hP1 hI1
              clear hk1 hPc hDc hFc hP1 hD1 ht hI1
              refine lv_if_eq (tgt := 101) hx hb dX11_count_88 rfl (fun c_8 => ?_) (fun c_8 => ?_)
              · have c_8 : ¬ (q < ft ∧ (st q).toInt = 1 ∧ (tn q).toInt = 0) := zp_0 c_8
                refine lv_iconst (v := 0) hx hb dX11_count_101 rfl ?_
                refine lv_iadd hx hb dX11_count_102 ?_
                refine zz_i (v := nI ((smP (lvF ft st tn) (fun g => nN (mn g)) q) + 0)) (nI_add (smP (lvF ft st tn) (fun g => nN (mn g)) q) 0) ?_
                refine lv_istore (lv' := [(5, .int (nI ((smP (lvF ft st tn) (fun g => nN (mn g)) q) + 0))), (4, .int (nI ((cntP (fun g => ¬ (tn g).toInt = 0) q) + 0))), (3, .int (nI ((cntP (fun g => (st g).toInt = 2) q) + 0))), (2, .int (nI ((cntP (fun g => (st g).toInt = 1) q) + 0))), (6, .int (nI q)), (0, .ref k0), (1, .int 2)]) hx hb dX11_count_103 hl (Nat.le_of_ble_eq_true rfl) rfl (fun ls hl => ?_)
                refine lv_iinc (v := nI (q + 1)) (lv' := [(6, .int (nI (q + 1))), (5, .int (nI ((smP (lvF ft st tn) (fun g => nN (mn g)) q) + 0))), (4, .int (nI ((cntP (fun g => ¬ (tn g).toInt = 0) q) + 0))), (3, .int (nI ((cntP (fun g => (st g).toInt = 2) q) + 0))), (2, .int (nI ((cntP (fun g => (st g).toInt = 1) q) + 0))), (0, .ref k0), (1, .int 2)]) hx hb dX11_count_105 hl (k := 4) rfl (nI_add q 1) (Nat.le_of_ble_eq_true rfl) rfl (fun ls hl => ?_)
                refine lv_goto (tgt := 13) hx hb dX11_count_108 rfl ?_
                have hl9 := lv_sub hl [0, 1, 2, 3, 4, 5, 6] rfl
                have e9_2 : nI (cntP (fun g => (st g).toInt = 1) (q + 1)) = (nI ((cntP (fun g => (st g).toInt = 1) q) + 0) : Int32) := by first | exact congrArg nI (cntP_y (P := fun g => (st g).toInt = 1) (show (st q).toInt = 1 by omega)) | exact congrArg nI (cntP_n0 (P := fun g => (st g).toInt = 1) (show ¬ (st q).toInt = 1 by omega))
                have e9_3 : nI (cntP (fun g => (st g).toInt = 2) (q + 1)) = (nI ((cntP (fun g => (st g).toInt = 2) q) + 0) : Int32) := by first | exact congrArg nI (cntP_y (P := fun g => (st g).toInt = 2) (show (st q).toInt = 2 by omega)) | exact congrArg nI (cntP_n0 (P := fun g => (st g).toInt = 2) (show ¬ (st q).toInt = 2 by omega))
                have e9_4 : nI (cntP (fun g => ¬ (tn g).toInt = 0) (q + 1)) = (nI ((cntP (fun g => ¬ (tn g).toInt = 0) q) + 0) : Int32) := by first | exact congrArg nI (cntP_y (P := fun g => ¬ (tn g).toInt = 0) (show ¬ (tn q).toInt = 0 by omega)) | exact congrArg nI (cntP_n0 (P := fun g => ¬ (tn g).toInt = 0) (show ¬ ¬ (tn q).toInt = 0 by omega))
                have e9_5 : nI (smP (lvF ft st tn) (fun g => nN (mn g)) (q + 1)) = (nI ((smP (lvF ft st tn) (fun g => nN (mn g)) q) + 0) : Int32) := by first | exact congrArg nI (smP_y (P := lvF ft st tn) (by first | with_reducible assumption | assumption)) | exact congrArg nI (smP_n (P := lvF ft st tn) (by first | with_reducible assumption | assumption))
                have hl9 : lv_has ls 7 [(6, .int (nI (q + 1))), (5, .int (nI (smP (lvF ft st tn) (fun g => nN (mn g)) (q + 1)))), (4, .int (nI (cntP (fun g => ¬ (tn g).toInt = 0) (q + 1)))), (3, .int (nI (cntP (fun g => (st g).toInt = 2) (q + 1)))), (2, .int (nI (cntP (fun g => (st g).toInt = 1) (q + 1)))), (0, .ref k0), (1, .int 2)] := by rw [e9_2]; rw [e9_3]; rw [e9_4]; rw [e9_5]; exact hl9
                exact ih_13 (q + 1) H locs ls (by first | with_reducible assumption | omega) (by first | with_reducible assumption | omega) hP hD hS hl9
              · have c_8 : q < ft ∧ (st q).toInt = 1 ∧ (tn q).toInt = 0 := zp_1 c_8
                refine lv_aload_n hx hb dX11_count_91 rfl (lv_at hl 5 rfl) ?_
                refine va_get (D := (dC, dI)) (ci := 9) (v := .ref (a 11)) (C := RX11) (T := TX11) (N := 55) hx hb hts inX11 hown hK hP 0 rfl rfl 11 (Nat.le_of_ble_eq_true rfl) (hts _ mw_1170) (fun _ h9 => h9) rfl dX11_count_92 ?_
                refine lv_iload hx hb dX11_count_95 (lv_at hl 3 rfl) ?_
                refine z_iald hx hb hK hP 3 0 rfl rfl (e := q) rfl b9_4 (Nat.le_of_ble_eq_true rfl) dX11_count_97 ?_
                refine zz_i (v := nI (nN (mn q))) ((hmw q (by first | with_reducible assumption | assumption)).1) ?_
                refine lv_goto (tgt := 102) hx hb dX11_count_98 rfl ?_
                refine lv_iadd hx hb dX11_count_102 ?_
                refine zz_i (v := nI ((smP (lvF ft st tn) (fun g => nN (mn g)) q) + (nN (mn q)))) (nI_add (smP (lvF ft st tn) (fun g => nN (mn g)) q) (nN (mn q))) ?_
                refine lv_istore (lv' := [(5, .int (nI ((smP (lvF ft st tn) (fun g => nN (mn g)) q) + (nN (mn q))))), (4, .int (nI ((cntP (fun g => ¬ (tn g).toInt = 0) q) + 0))), (3, .int (nI ((cntP (fun g => (st g).toInt = 2) q) + 0))), (2, .int (nI ((cntP (fun g => (st g).toInt = 1) q) + 0))), (6, .int (nI q)), (0, .ref k0), (1, .int 2)]) hx hb dX11_count_103 hl (Nat.le_of_ble_eq_true rfl) rfl (fun ls hl => ?_)
                refine lv_iinc (v := nI (q + 1)) (lv' := [(6, .int (nI (q + 1))), (5, .int (nI ((smP (lvF ft st tn) (fun g => nN (mn g)) q) + (nN (mn q))))), (4, .int (nI ((cntP (fun g => ¬ (tn g).toInt = 0) q) + 0))), (3, .int (nI ((cntP (fun g => (st g).toInt = 2) q) + 0))), (2, .int (nI ((cntP (fun g => (st g).toInt = 1) q) + 0))), (0, .ref k0), (1, .int 2)]) hx hb dX11_count_105 hl (k := 4) rfl (nI_add q 1) (Nat.le_of_ble_eq_true rfl) rfl (fun ls hl => ?_)
                refine lv_goto (tgt := 13) hx hb dX11_count_108 rfl ?_
                have hl9 := lv_sub hl [0, 1, 2, 3, 4, 5, 6] rfl
                have e9_2 : nI (cntP (fun g => (st g).toInt = 1) (q + 1)) = (nI ((cntP (fun g => (st g).toInt = 1) q) + 0) : Int32) := by first | exact congrArg nI (cntP_y (P := fun g => (st g).toInt = 1) (show (st q).toInt = 1 by omega)) | exact congrArg nI (cntP_n0 (P := fun g => (st g).toInt = 1) (show ¬ (st q).toInt = 1 by omega))
                have e9_3 : nI (cntP (fun g => (st g).toInt = 2) (q + 1)) = (nI ((cntP (fun g => (st g).toInt = 2) q) + 0) : Int32) := by first | exact congrArg nI (cntP_y (P := fun g => (st g).toInt = 2) (show (st q).toInt = 2 by omega)) | exact congrArg nI (cntP_n0 (P := fun g => (st g).toInt = 2) (show ¬ (st q).toInt = 2 by omega))
                have e9_4 : nI (cntP (fun g => ¬ (tn g).toInt = 0) (q + 1)) = (nI ((cntP (fun g => ¬ (tn g).toInt = 0) q) + 0) : Int32) := by first | exact congrArg nI (cntP_y (P := fun g => ¬ (tn g).toInt = 0) (show ¬ (tn q).toInt = 0 by omega)) | exact congrArg nI (cntP_n0 (P := fun g => ¬ (tn g).toInt = 0) (show ¬ ¬ (tn q).toInt = 0 by omega))
                have e9_5 : nI (smP (lvF ft st tn) (fun g => nN (mn g)) (q + 1)) = (nI ((smP (lvF ft st tn) (fun g => nN (mn g)) q) + (nN (mn q))) : Int32) := by first | exact congrArg nI (smP_y (P := lvF ft st tn) (by first | with_reducible assumption | assumption)) | exact congrArg nI (smP_n (P := lvF ft st tn) (by first | with_reducible assumption | assumption))
                have hl9 : lv_has ls 7 [(6, .int (nI (q + 1))), (5, .int (nI (smP (lvF ft st tn) (fun g => nN (mn g)) (q + 1)))), (4, .int (nI (cntP (fun g => ¬ (tn g).toInt = 0) (q + 1)))), (3, .int (nI (cntP (fun g => (st g).toInt = 2) (q + 1)))), (2, .int (nI (cntP (fun g => (st g).toInt = 1) (q + 1)))), (0, .ref k0), (1, .int 2)] := by rw [e9_2]; rw [e9_3]; rw [e9_4]; rw [e9_5]; exact hl9
                exact ih_13 (q + 1) H locs ls (by first | with_reducible assumption | omega) (by first | with_reducible assumption | omega) hP hD hS hl9
            · have c_7 : ¬ (tn q).toInt = 0 := zc_ne rfl rfl c_7
              refine lv_iconst (v := 1) hx hb dX11_count_72 rfl ?_
              refine lv_goto (tgt := 77) hx hb dX11_count_73 rfl ?_
              refine lv_iadd hx hb dX11_count_77 ?_
              refine zz_i (v := nI ((cntP (fun g => ¬ (tn g).toInt = 0) q) + 1)) (nI_add (cntP (fun g => ¬ (tn g).toInt = 0) q) 1) ?_
              refine lv_istore (lv' := [(4, .int (nI ((cntP (fun g => ¬ (tn g).toInt = 0) q) + 1))), (3, .int (nI ((cntP (fun g => (st g).toInt = 2) q) + 0))), (2, .int (nI ((cntP (fun g => (st g).toInt = 1) q) + 0))), (6, .int (nI q)), (5, .int (nI (smP (lvF ft st tn) (fun g => nN (mn g)) q))), (0, .ref k0), (1, .int 2)]) hx hb dX11_count_78 hl (Nat.le_of_ble_eq_true rfl) rfl (fun ls hl => ?_)
              refine lv_iload hx hb dX11_count_80 (lv_at hl 4 rfl) ?_
              refine lv_aload_n hx hb dX11_count_82 rfl (lv_at hl 5 rfl) ?_
              refine lv_iload hx hb dX11_count_83 (lv_at hl 3 rfl) ?_
              obtain ⟨hPc, hDc, hFc, hI1⟩ := zi_sub (wc := [_, _, _]) hP hD hS hA [0, 1, 2] rfl rfl
              refine zcall (st1 := [.int (pI (q < ft ∧ (st q).toInt = 1 ∧ (tn q).toInt = 0)), .int (nI (smP (lvF ft st tn) (fun g => nN (mn g)) q))]) (va_runV (As := [.int (nI q)]) (rest := [.int (nI (smP (lvF ft st tn) (fun g => nN (mn g)) q))]) ⟨hx, hb, hml, hown, hts⟩ (k_M_is_n l dC dI cI cZ cF H.size k0 a I0 J0 q ft st tn (by first | with_reducible assumption | assumption) (by first | with_reducible assumption | omega) (by first | with_reducible assumption | omega)) (csV_179 hts rfl rfl ⟨Nat.le_of_ble_eq_true rfl, Nat.le_of_ble_eq_true rfl⟩) (zPV2 (q0 := 0) (ci := 9) hPc hDc hK hXN rfl rfl) rfl rfl hl.1 rfl (lv_room (Nat.le_of_ble_eq_true rfl)) dX11_count_85 ⟨Nat.le_of_ble_eq_true rfl, Nat.le_of_ble_eq_true rfl⟩) hS hFc hFc rfl (fun t H locs ht hB hk1 hS => ?_)
              obtain ⟨hP1, hD1⟩ := hB
              rw [ht] at hP1
              replace hP := z0 hP hD hk1 hP1 hI1
              clear hk1 hPc hDc hFc hP1 hD1 ht hI1
              refine lv_if_eq (tgt := 101) hx hb dX11_count_88 rfl (fun c_9 => ?_) (fun c_9 => ?_)
              · have c_9 : ¬ (q < ft ∧ (st q).toInt = 1 ∧ (tn q).toInt = 0) := zp_0 c_9
                refine lv_iconst (v := 0) hx hb dX11_count_101 rfl ?_
                refine lv_iadd hx hb dX11_count_102 ?_
                refine zz_i (v := nI ((smP (lvF ft st tn) (fun g => nN (mn g)) q) + 0)) (nI_add (smP (lvF ft st tn) (fun g => nN (mn g)) q) 0) ?_
                refine lv_istore (lv' := [(5, .int (nI ((smP (lvF ft st tn) (fun g => nN (mn g)) q) + 0))), (4, .int (nI ((cntP (fun g => ¬ (tn g).toInt = 0) q) + 1))), (3, .int (nI ((cntP (fun g => (st g).toInt = 2) q) + 0))), (2, .int (nI ((cntP (fun g => (st g).toInt = 1) q) + 0))), (6, .int (nI q)), (0, .ref k0), (1, .int 2)]) hx hb dX11_count_103 hl (Nat.le_of_ble_eq_true rfl) rfl (fun ls hl => ?_)
                refine lv_iinc (v := nI (q + 1)) (lv' := [(6, .int (nI (q + 1))), (5, .int (nI ((smP (lvF ft st tn) (fun g => nN (mn g)) q) + 0))), (4, .int (nI ((cntP (fun g => ¬ (tn g).toInt = 0) q) + 1))), (3, .int (nI ((cntP (fun g => (st g).toInt = 2) q) + 0))), (2, .int (nI ((cntP (fun g => (st g).toInt = 1) q) + 0))), (0, .ref k0), (1, .int 2)]) hx hb dX11_count_105 hl (k := 4) rfl (nI_add q 1) (Nat.le_of_ble_eq_true rfl) rfl (fun ls hl => ?_)
                refine lv_goto (tgt := 13) hx hb dX11_count_108 rfl ?_
                have hl9 := lv_sub hl [0, 1, 2, 3, 4, 5, 6] rfl
                have e9_2 : nI (cntP (fun g => (st g).toInt = 1) (q + 1)) = (nI ((cntP (fun g => (st g).toInt = 1) q) + 0) : Int32) := by first | exact congrArg nI (cntP_y (P := fun g => (st g).toInt = 1) (show (st q).toInt = 1 by omega)) | exact congrArg nI (cntP_n0 (P := fun g => (st g).toInt = 1) (show ¬ (st q).toInt = 1 by omega))
                have e9_3 : nI (cntP (fun g => (st g).toInt = 2) (q + 1)) = (nI ((cntP (fun g => (st g).toInt = 2) q) + 0) : Int32) := by first | exact congrArg nI (cntP_y (P := fun g => (st g).toInt = 2) (show (st q).toInt = 2 by omega)) | exact congrArg nI (cntP_n0 (P := fun g => (st g).toInt = 2) (show ¬ (st q).toInt = 2 by omega))
                have e9_4 : nI (cntP (fun g => ¬ (tn g).toInt = 0) (q + 1)) = (nI ((cntP (fun g => ¬ (tn g).toInt = 0) q) + 1) : Int32) := by first | exact congrArg nI (cntP_y (P := fun g => ¬ (tn g).toInt = 0) (show ¬ (tn q).toInt = 0 by omega)) | exact congrArg nI (cntP_n0 (P := fun g => ¬ (tn g).toInt = 0) (show ¬ ¬ (tn q).toInt = 0 by omega))
                have e9_5 : nI (smP (lvF ft st tn) (fun g => nN (mn g)) (q + 1)) = (nI ((smP (lvF ft st tn) (fun g => nN (mn g)) q) + 0) : Int32) := by first | exact congrArg nI (smP_y (P := lvF ft st tn) (by first | with_reducible assumption | assumption)) | exact congrArg nI (smP_n (P := lvF ft st tn) (by first | with_reducible assumption | assumption))
                have hl9 : lv_has ls 7 [(6, .int (nI (q + 1))), (5, .int (nI (smP (lvF ft st tn) (fun g => nN (mn g)) (q + 1)))), (4, .int (nI (cntP (fun g => ¬ (tn g).toInt = 0) (q + 1)))), (3, .int (nI (cntP (fun g => (st g).toInt = 2) (q + 1)))), (2, .int (nI (cntP (fun g => (st g).toInt = 1) (q + 1)))), (0, .ref k0), (1, .int 2)] := by rw [e9_2]; rw [e9_3]; rw [e9_4]; rw [e9_5]; exact hl9
                exact ih_13 (q + 1) H locs ls (by first | with_reducible assumption | omega) (by first | with_reducible assumption | omega) hP hD hS hl9
              · have c_9 : q < ft ∧ (st q).toInt = 1 ∧ (tn q).toInt = 0 := zp_1 c_9
                refine lv_aload_n hx hb dX11_count_91 rfl (lv_at hl 5 rfl) ?_
                refine va_get (D := (dC, dI)) (ci := 9) (v := .ref (a 11)) (C := RX11) (T := TX11) (N := 55) hx hb hts inX11 hown hK hP 0 rfl rfl 11 (Nat.le_of_ble_eq_true rfl) (hts _ mw_1170) (fun _ h9 => h9) rfl dX11_count_92 ?_
                refine lv_iload hx hb dX11_count_95 (lv_at hl 3 rfl) ?_
                refine z_iald hx hb hK hP 3 0 rfl rfl (e := q) rfl b9_4 (Nat.le_of_ble_eq_true rfl) dX11_count_97 ?_
                refine zz_i (v := nI (nN (mn q))) ((hmw q (by first | with_reducible assumption | assumption)).1) ?_
                refine lv_goto (tgt := 102) hx hb dX11_count_98 rfl ?_
                refine lv_iadd hx hb dX11_count_102 ?_
                refine zz_i (v := nI ((smP (lvF ft st tn) (fun g => nN (mn g)) q) + (nN (mn q)))) (nI_add (smP (lvF ft st tn) (fun g => nN (mn g)) q) (nN (mn q))) ?_
                refine lv_istore (lv' := [(5, .int (nI ((smP (lvF ft st tn) (fun g => nN (mn g)) q) + (nN (mn q))))), (4, .int (nI ((cntP (fun g => ¬ (tn g).toInt = 0) q) + 1))), (3, .int (nI ((cntP (fun g => (st g).toInt = 2) q) + 0))), (2, .int (nI ((cntP (fun g => (st g).toInt = 1) q) + 0))), (6, .int (nI q)), (0, .ref k0), (1, .int 2)]) hx hb dX11_count_103 hl (Nat.le_of_ble_eq_true rfl) rfl (fun ls hl => ?_)
                refine lv_iinc (v := nI (q + 1)) (lv' := [(6, .int (nI (q + 1))), (5, .int (nI ((smP (lvF ft st tn) (fun g => nN (mn g)) q) + (nN (mn q))))), (4, .int (nI ((cntP (fun g => ¬ (tn g).toInt = 0) q) + 1))), (3, .int (nI ((cntP (fun g => (st g).toInt = 2) q) + 0))), (2, .int (nI ((cntP (fun g => (st g).toInt = 1) q) + 0))), (0, .ref k0), (1, .int 2)]) hx hb dX11_count_105 hl (k := 4) rfl (nI_add q 1) (Nat.le_of_ble_eq_true rfl) rfl (fun ls hl => ?_)
                refine lv_goto (tgt := 13) hx hb dX11_count_108 rfl ?_
                have hl9 := lv_sub hl [0, 1, 2, 3, 4, 5, 6] rfl
                have e9_2 : nI (cntP (fun g => (st g).toInt = 1) (q + 1)) = (nI ((cntP (fun g => (st g).toInt = 1) q) + 0) : Int32) := by first | exact congrArg nI (cntP_y (P := fun g => (st g).toInt = 1) (show (st q).toInt = 1 by omega)) | exact congrArg nI (cntP_n0 (P := fun g => (st g).toInt = 1) (show ¬ (st q).toInt = 1 by omega))
                have e9_3 : nI (cntP (fun g => (st g).toInt = 2) (q + 1)) = (nI ((cntP (fun g => (st g).toInt = 2) q) + 0) : Int32) := by first | exact congrArg nI (cntP_y (P := fun g => (st g).toInt = 2) (show (st q).toInt = 2 by omega)) | exact congrArg nI (cntP_n0 (P := fun g => (st g).toInt = 2) (show ¬ (st q).toInt = 2 by omega))
                have e9_4 : nI (cntP (fun g => ¬ (tn g).toInt = 0) (q + 1)) = (nI ((cntP (fun g => ¬ (tn g).toInt = 0) q) + 1) : Int32) := by first | exact congrArg nI (cntP_y (P := fun g => ¬ (tn g).toInt = 0) (show ¬ (tn q).toInt = 0 by omega)) | exact congrArg nI (cntP_n0 (P := fun g => ¬ (tn g).toInt = 0) (show ¬ ¬ (tn q).toInt = 0 by omega))
                have e9_5 : nI (smP (lvF ft st tn) (fun g => nN (mn g)) (q + 1)) = (nI ((smP (lvF ft st tn) (fun g => nN (mn g)) q) + (nN (mn q))) : Int32) := by first | exact congrArg nI (smP_y (P := lvF ft st tn) (by first | with_reducible assumption | assumption)) | exact congrArg nI (smP_n (P := lvF ft st tn) (by first | with_reducible assumption | assumption))
                have hl9 : lv_has ls 7 [(6, .int (nI (q + 1))), (5, .int (nI (smP (lvF ft st tn) (fun g => nN (mn g)) (q + 1)))), (4, .int (nI (cntP (fun g => ¬ (tn g).toInt = 0) (q + 1)))), (3, .int (nI (cntP (fun g => (st g).toInt = 2) (q + 1)))), (2, .int (nI (cntP (fun g => (st g).toInt = 1) (q + 1)))), (0, .ref k0), (1, .int 2)] := by rw [e9_2]; rw [e9_3]; rw [e9_4]; rw [e9_5]; exact hl9
                exact ih_13 (q + 1) H locs ls (by first | with_reducible assumption | omega) (by first | with_reducible assumption | omega) hP hD hS hl9
          · have c_6 : (st q).toInt = 2 := zc_eq rfl rfl c_6
            refine lv_iconst (v := 1) hx hb dX11_count_53 rfl ?_
            refine lv_goto (tgt := 58) hx hb dX11_count_54 rfl ?_
            refine lv_iadd hx hb dX11_count_58 ?_
            refine zz_i (v := nI ((cntP (fun g => (st g).toInt = 2) q) + 1)) (nI_add (cntP (fun g => (st g).toInt = 2) q) 1) ?_
            refine lv_istore_n (lv' := [(3, .int (nI ((cntP (fun g => (st g).toInt = 2) q) + 1))), (2, .int (nI ((cntP (fun g => (st g).toInt = 1) q) + 0))), (6, .int (nI q)), (5, .int (nI (smP (lvF ft st tn) (fun g => nN (mn g)) q))), (4, .int (nI (cntP (fun g => ¬ (tn g).toInt = 0) q))), (0, .ref k0), (1, .int 2)]) hx hb dX11_count_59 rfl hl (Nat.le_of_ble_eq_true rfl) rfl (fun ls hl => ?_)
            refine lv_iload hx hb dX11_count_60 (lv_at hl 4 rfl) ?_
            refine lv_aload_n hx hb dX11_count_62 rfl (lv_at hl 5 rfl) ?_
            refine va_get (D := (dC, dI)) (ci := 9) (v := .ref (a 6)) (C := RX11) (T := TX11) (N := 55) hx hb hts inX11 hown hK hP 0 rfl rfl 6 (Nat.le_of_ble_eq_true rfl) (hts _ mw_1165) (fun _ h9 => h9) rfl dX11_count_63 ?_
            refine lv_iload hx hb dX11_count_66 (lv_at hl 2 rfl) ?_
            refine z_zald hx hb hK hP 2 1 rfl rfl (e := q) rfl b9_4 (Nat.le_of_ble_eq_true rfl) dX11_count_68 ?_
            refine lv_if_eq (tgt := 76) hx hb dX11_count_69 rfl (fun c_10 => ?_) (fun c_10 => ?_)
            · have c_10 : (tn q).toInt = 0 := zc_eq rfl rfl c_10
              refine lv_iconst (v := 0) hx hb dX11_count_76 rfl ?_
              refine lv_iadd hx hb dX11_count_77 ?_
              refine zz_i (v := nI ((cntP (fun g => ¬ (tn g).toInt = 0) q) + 0)) (nI_add (cntP (fun g => ¬ (tn g).toInt = 0) q) 0) ?_
              refine lv_istore (lv' := [(4, .int (nI ((cntP (fun g => ¬ (tn g).toInt = 0) q) + 0))), (3, .int (nI ((cntP (fun g => (st g).toInt = 2) q) + 1))), (2, .int (nI ((cntP (fun g => (st g).toInt = 1) q) + 0))), (6, .int (nI q)), (5, .int (nI (smP (lvF ft st tn) (fun g => nN (mn g)) q))), (0, .ref k0), (1, .int 2)]) hx hb dX11_count_78 hl (Nat.le_of_ble_eq_true rfl) rfl (fun ls hl => ?_)
              refine lv_iload hx hb dX11_count_80 (lv_at hl 4 rfl) ?_
              refine lv_aload_n hx hb dX11_count_82 rfl (lv_at hl 5 rfl) ?_
              refine lv_iload hx hb dX11_count_83 (lv_at hl 3 rfl) ?_
              obtain ⟨hPc, hDc, hFc, hI1⟩ := zi_sub (wc := [_, _, _]) hP hD hS hA [0, 1, 2] rfl rfl
              refine zcall (st1 := [.int (pI (q < ft ∧ (st q).toInt = 1 ∧ (tn q).toInt = 0)), .int (nI (smP (lvF ft st tn) (fun g => nN (mn g)) q))]) (va_runV (As := [.int (nI q)]) (rest := [.int (nI (smP (lvF ft st tn) (fun g => nN (mn g)) q))]) ⟨hx, hb, hml, hown, hts⟩ (k_M_is_n l dC dI cI cZ cF H.size k0 a I0 J0 q ft st tn (by first | with_reducible assumption | assumption) (by first | with_reducible assumption | omega) (by first | with_reducible assumption | omega)) (csV_179 hts rfl rfl ⟨Nat.le_of_ble_eq_true rfl, Nat.le_of_ble_eq_true rfl⟩) (zPV2 (q0 := 0) (ci := 9) hPc hDc hK hXN rfl rfl) rfl rfl hl.1 rfl (lv_room (Nat.le_of_ble_eq_true rfl)) dX11_count_85 ⟨Nat.le_of_ble_eq_true rfl, Nat.le_of_ble_eq_true rfl⟩) hS hFc hFc rfl (fun t H locs ht hB hk1 hS => ?_)
              obtain ⟨hP1, hD1⟩ := hB
              rw [ht] at hP1
              replace hP := z0 hP hD hk1 hP1 hI1
              clear hk1 hPc hDc hFc hP1 hD1 ht hI1
              refine lv_if_eq (tgt := 101) hx hb dX11_count_88 rfl (fun c_11 => ?_) (fun c_11 => ?_)
              · have c_11 : ¬ (q < ft ∧ (st q).toInt = 1 ∧ (tn q).toInt = 0) := zp_0 c_11
                refine lv_iconst (v := 0) hx hb dX11_count_101 rfl ?_
                refine lv_iadd hx hb dX11_count_102 ?_
                refine zz_i (v := nI ((smP (lvF ft st tn) (fun g => nN (mn g)) q) + 0)) (nI_add (smP (lvF ft st tn) (fun g => nN (mn g)) q) 0) ?_
                refine lv_istore (lv' := [(5, .int (nI ((smP (lvF ft st tn) (fun g => nN (mn g)) q) + 0))), (4, .int (nI ((cntP (fun g => ¬ (tn g).toInt = 0) q) + 0))), (3, .int (nI ((cntP (fun g => (st g).toInt = 2) q) + 1))), (2, .int (nI ((cntP (fun g => (st g).toInt = 1) q) + 0))), (6, .int (nI q)), (0, .ref k0), (1, .int 2)]) hx hb dX11_count_103 hl (Nat.le_of_ble_eq_true rfl) rfl (fun ls hl => ?_)
                refine lv_iinc (v := nI (q + 1)) (lv' := [(6, .int (nI (q + 1))), (5, .int (nI ((smP (lvF ft st tn) (fun g => nN (mn g)) q) + 0))), (4, .int (nI ((cntP (fun g => ¬ (tn g).toInt = 0) q) + 0))), (3, .int (nI ((cntP (fun g => (st g).toInt = 2) q) + 1))), (2, .int (nI ((cntP (fun g => (st g).toInt = 1) q) + 0))), (0, .ref k0), (1, .int 2)]) hx hb dX11_count_105 hl (k := 4) rfl (nI_add q 1) (Nat.le_of_ble_eq_true rfl) rfl (fun ls hl => ?_)
                refine lv_goto (tgt := 13) hx hb dX11_count_108 rfl ?_
                have hl9 := lv_sub hl [0, 1, 2, 3, 4, 5, 6] rfl
                have e9_2 : nI (cntP (fun g => (st g).toInt = 1) (q + 1)) = (nI ((cntP (fun g => (st g).toInt = 1) q) + 0) : Int32) := by first | exact congrArg nI (cntP_y (P := fun g => (st g).toInt = 1) (show (st q).toInt = 1 by omega)) | exact congrArg nI (cntP_n0 (P := fun g => (st g).toInt = 1) (show ¬ (st q).toInt = 1 by omega))
                have e9_3 : nI (cntP (fun g => (st g).toInt = 2) (q + 1)) = (nI ((cntP (fun g => (st g).toInt = 2) q) + 1) : Int32) := by first | exact congrArg nI (cntP_y (P := fun g => (st g).toInt = 2) (show (st q).toInt = 2 by omega)) | exact congrArg nI (cntP_n0 (P := fun g => (st g).toInt = 2) (show ¬ (st q).toInt = 2 by omega))
                have e9_4 : nI (cntP (fun g => ¬ (tn g).toInt = 0) (q + 1)) = (nI ((cntP (fun g => ¬ (tn g).toInt = 0) q) + 0) : Int32) := by first | exact congrArg nI (cntP_y (P := fun g => ¬ (tn g).toInt = 0) (show ¬ (tn q).toInt = 0 by omega)) | exact congrArg nI (cntP_n0 (P := fun g => ¬ (tn g).toInt = 0) (show ¬ ¬ (tn q).toInt = 0 by omega))
                have e9_5 : nI (smP (lvF ft st tn) (fun g => nN (mn g)) (q + 1)) = (nI ((smP (lvF ft st tn) (fun g => nN (mn g)) q) + 0) : Int32) := by first | exact congrArg nI (smP_y (P := lvF ft st tn) (by first | with_reducible assumption | assumption)) | exact congrArg nI (smP_n (P := lvF ft st tn) (by first | with_reducible assumption | assumption))
                have hl9 : lv_has ls 7 [(6, .int (nI (q + 1))), (5, .int (nI (smP (lvF ft st tn) (fun g => nN (mn g)) (q + 1)))), (4, .int (nI (cntP (fun g => ¬ (tn g).toInt = 0) (q + 1)))), (3, .int (nI (cntP (fun g => (st g).toInt = 2) (q + 1)))), (2, .int (nI (cntP (fun g => (st g).toInt = 1) (q + 1)))), (0, .ref k0), (1, .int 2)] := by rw [e9_2]; rw [e9_3]; rw [e9_4]; rw [e9_5]; exact hl9
                exact ih_13 (q + 1) H locs ls (by first | with_reducible assumption | omega) (by first | with_reducible assumption | omega) hP hD hS hl9
              · have c_11 : q < ft ∧ (st q).toInt = 1 ∧ (tn q).toInt = 0 := zp_1 c_11
                refine lv_aload_n hx hb dX11_count_91 rfl (lv_at hl 5 rfl) ?_
                refine va_get (D := (dC, dI)) (ci := 9) (v := .ref (a 11)) (C := RX11) (T := TX11) (N := 55) hx hb hts inX11 hown hK hP 0 rfl rfl 11 (Nat.le_of_ble_eq_true rfl) (hts _ mw_1170) (fun _ h9 => h9) rfl dX11_count_92 ?_
                refine lv_iload hx hb dX11_count_95 (lv_at hl 3 rfl) ?_
                refine z_iald hx hb hK hP 3 0 rfl rfl (e := q) rfl b9_4 (Nat.le_of_ble_eq_true rfl) dX11_count_97 ?_
                refine zz_i (v := nI (nN (mn q))) ((hmw q (by first | with_reducible assumption | assumption)).1) ?_
                refine lv_goto (tgt := 102) hx hb dX11_count_98 rfl ?_
                refine lv_iadd hx hb dX11_count_102 ?_
                refine zz_i (v := nI ((smP (lvF ft st tn) (fun g => nN (mn g)) q) + (nN (mn q)))) (nI_add (smP (lvF ft st tn) (fun g => nN (mn g)) q) (nN (mn q))) ?_
                refine lv_istore (lv' := [(5, .int (nI ((smP (lvF ft st tn) (fun g => nN (mn g)) q) + (nN (mn q))))), (4, .int (nI ((cntP (fun g => ¬ (tn g).toInt = 0) q) + 0))), (3, .int (nI ((cntP (fun g => (st g).toInt = 2) q) + 1))), (2, .int (nI ((cntP (fun g => (st g).toInt = 1) q) + 0))), (6, .int (nI q)), (0, .ref k0), (1, .int 2)]) hx hb dX11_count_103 hl (Nat.le_of_ble_eq_true rfl) rfl (fun ls hl => ?_)
                refine lv_iinc (v := nI (q + 1)) (lv' := [(6, .int (nI (q + 1))), (5, .int (nI ((smP (lvF ft st tn) (fun g => nN (mn g)) q) + (nN (mn q))))), (4, .int (nI ((cntP (fun g => ¬ (tn g).toInt = 0) q) + 0))), (3, .int (nI ((cntP (fun g => (st g).toInt = 2) q) + 1))), (2, .int (nI ((cntP (fun g => (st g).toInt = 1) q) + 0))), (0, .ref k0), (1, .int 2)]) hx hb dX11_count_105 hl (k := 4) rfl (nI_add q 1) (Nat.le_of_ble_eq_true rfl) rfl (fun ls hl => ?_)
                refine lv_goto (tgt := 13) hx hb dX11_count_108 rfl ?_
                have hl9 := lv_sub hl [0, 1, 2, 3, 4, 5, 6] rfl
                have e9_2 : nI (cntP (fun g => (st g).toInt = 1) (q + 1)) = (nI ((cntP (fun g => (st g).toInt = 1) q) + 0) : Int32) := by first | exact congrArg nI (cntP_y (P := fun g => (st g).toInt = 1) (show (st q).toInt = 1 by omega)) | exact congrArg nI (cntP_n0 (P := fun g => (st g).toInt = 1) (show ¬ (st q).toInt = 1 by omega))
                have e9_3 : nI (cntP (fun g => (st g).toInt = 2) (q + 1)) = (nI ((cntP (fun g => (st g).toInt = 2) q) + 1) : Int32) := by first | exact congrArg nI (cntP_y (P := fun g => (st g).toInt = 2) (show (st q).toInt = 2 by omega)) | exact congrArg nI (cntP_n0 (P := fun g => (st g).toInt = 2) (show ¬ (st q).toInt = 2 by omega))
                have e9_4 : nI (cntP (fun g => ¬ (tn g).toInt = 0) (q + 1)) = (nI ((cntP (fun g => ¬ (tn g).toInt = 0) q) + 0) : Int32) := by first | exact congrArg nI (cntP_y (P := fun g => ¬ (tn g).toInt = 0) (show ¬ (tn q).toInt = 0 by omega)) | exact congrArg nI (cntP_n0 (P := fun g => ¬ (tn g).toInt = 0) (show ¬ ¬ (tn q).toInt = 0 by omega))
                have e9_5 : nI (smP (lvF ft st tn) (fun g => nN (mn g)) (q + 1)) = (nI ((smP (lvF ft st tn) (fun g => nN (mn g)) q) + (nN (mn q))) : Int32) := by first | exact congrArg nI (smP_y (P := lvF ft st tn) (by first | with_reducible assumption | assumption)) | exact congrArg nI (smP_n (P := lvF ft st tn) (by first | with_reducible assumption | assumption))
                have hl9 : lv_has ls 7 [(6, .int (nI (q + 1))), (5, .int (nI (smP (lvF ft st tn) (fun g => nN (mn g)) (q + 1)))), (4, .int (nI (cntP (fun g => ¬ (tn g).toInt = 0) (q + 1)))), (3, .int (nI (cntP (fun g => (st g).toInt = 2) (q + 1)))), (2, .int (nI (cntP (fun g => (st g).toInt = 1) (q + 1)))), (0, .ref k0), (1, .int 2)] := by rw [e9_2]; rw [e9_3]; rw [e9_4]; rw [e9_5]; exact hl9
                exact ih_13 (q + 1) H locs ls (by first | with_reducible assumption | omega) (by first | with_reducible assumption | omega) hP hD hS hl9
            · have c_10 : ¬ (tn q).toInt = 0 := zc_ne rfl rfl c_10
              refine lv_iconst (v := 1) hx hb dX11_count_72 rfl ?_
              refine lv_goto (tgt := 77) hx hb dX11_count_73 rfl ?_
              refine lv_iadd hx hb dX11_count_77 ?_
              refine zz_i (v := nI ((cntP (fun g => ¬ (tn g).toInt = 0) q) + 1)) (nI_add (cntP (fun g => ¬ (tn g).toInt = 0) q) 1) ?_
              refine lv_istore (lv' := [(4, .int (nI ((cntP (fun g => ¬ (tn g).toInt = 0) q) + 1))), (3, .int (nI ((cntP (fun g => (st g).toInt = 2) q) + 1))), (2, .int (nI ((cntP (fun g => (st g).toInt = 1) q) + 0))), (6, .int (nI q)), (5, .int (nI (smP (lvF ft st tn) (fun g => nN (mn g)) q))), (0, .ref k0), (1, .int 2)]) hx hb dX11_count_78 hl (Nat.le_of_ble_eq_true rfl) rfl (fun ls hl => ?_)
              refine lv_iload hx hb dX11_count_80 (lv_at hl 4 rfl) ?_
              refine lv_aload_n hx hb dX11_count_82 rfl (lv_at hl 5 rfl) ?_
              refine lv_iload hx hb dX11_count_83 (lv_at hl 3 rfl) ?_
              obtain ⟨hPc, hDc, hFc, hI1⟩ := zi_sub (wc := [_, _, _]) hP hD hS hA [0, 1, 2] rfl rfl
              refine zcall (st1 := [.int (pI (q < ft ∧ (st q).toInt = 1 ∧ (tn q).toInt = 0)), .int (nI (smP (lvF ft st tn) (fun g => nN (mn g)) q))]) (va_runV (As := [.int (nI q)]) (rest := [.int (nI (smP (lvF ft st tn) (fun g => nN (mn g)) q))]) ⟨hx, hb, hml, hown, hts⟩ (k_M_is_n l dC dI cI cZ cF H.size k0 a I0 J0 q ft st tn (by first | with_reducible assumption | assumption) (by first | with_reducible assumption | omega) (by first | with_reducible assumption | omega)) (csV_179 hts rfl rfl ⟨Nat.le_of_ble_eq_true rfl, Nat.le_of_ble_eq_true rfl⟩) (zPV2 (q0 := 0) (ci := 9) hPc hDc hK hXN rfl rfl) rfl rfl hl.1 rfl (lv_room (Nat.le_of_ble_eq_true rfl)) dX11_count_85 ⟨Nat.le_of_ble_eq_true rfl, Nat.le_of_ble_eq_true rfl⟩) hS hFc hFc rfl (fun t H locs ht hB hk1 hS => ?_)
              obtain ⟨hP1, hD1⟩ := hB
              rw [ht] at hP1
              replace hP := z0 hP hD hk1 hP1 hI1
              clear hk1 hPc hDc hFc hP1 hD1 ht hI1
              refine lv_if_eq (tgt := 101) hx hb dX11_count_88 rfl (fun c_12 => ?_) (fun c_12 => ?_)
              · have c_12 : ¬ (q < ft ∧ (st q).toInt = 1 ∧ (tn q).toInt = 0) := zp_0 c_12
                refine lv_iconst (v := 0) hx hb dX11_count_101 rfl ?_
                refine lv_iadd hx hb dX11_count_102 ?_
                refine zz_i (v := nI ((smP (lvF ft st tn) (fun g => nN (mn g)) q) + 0)) (nI_add (smP (lvF ft st tn) (fun g => nN (mn g)) q) 0) ?_
                refine lv_istore (lv' := [(5, .int (nI ((smP (lvF ft st tn) (fun g => nN (mn g)) q) + 0))), (4, .int (nI ((cntP (fun g => ¬ (tn g).toInt = 0) q) + 1))), (3, .int (nI ((cntP (fun g => (st g).toInt = 2) q) + 1))), (2, .int (nI ((cntP (fun g => (st g).toInt = 1) q) + 0))), (6, .int (nI q)), (0, .ref k0), (1, .int 2)]) hx hb dX11_count_103 hl (Nat.le_of_ble_eq_true rfl) rfl (fun ls hl => ?_)
                refine lv_iinc (v := nI (q + 1)) (lv' := [(6, .int (nI (q + 1))), (5, .int (nI ((smP (lvF ft st tn) (fun g => nN (mn g)) q) + 0))), (4, .int (nI ((cntP (fun g => ¬ (tn g).toInt = 0) q) + 1))), (3, .int (nI ((cntP (fun g => (st g).toInt = 2) q) + 1))), (2, .int (nI ((cntP (fun g => (st g).toInt = 1) q) + 0))), (0, .ref k0), (1, .int 2)]) hx hb dX11_count_105 hl (k := 4) rfl (nI_add q 1) (Nat.le_of_ble_eq_true rfl) rfl (fun ls hl => ?_)
                refine lv_goto (tgt := 13) hx hb dX11_count_108 rfl ?_
                have hl9 := lv_sub hl [0, 1, 2, 3, 4, 5, 6] rfl
                have e9_2 : nI (cntP (fun g => (st g).toInt = 1) (q + 1)) = (nI ((cntP (fun g => (st g).toInt = 1) q) + 0) : Int32) := by first | exact congrArg nI (cntP_y (P := fun g => (st g).toInt = 1) (show (st q).toInt = 1 by omega)) | exact congrArg nI (cntP_n0 (P := fun g => (st g).toInt = 1) (show ¬ (st q).toInt = 1 by omega))
                have e9_3 : nI (cntP (fun g => (st g).toInt = 2) (q + 1)) = (nI ((cntP (fun g => (st g).toInt = 2) q) + 1) : Int32) := by first | exact congrArg nI (cntP_y (P := fun g => (st g).toInt = 2) (show (st q).toInt = 2 by omega)) | exact congrArg nI (cntP_n0 (P := fun g => (st g).toInt = 2) (show ¬ (st q).toInt = 2 by omega))
                have e9_4 : nI (cntP (fun g => ¬ (tn g).toInt = 0) (q + 1)) = (nI ((cntP (fun g => ¬ (tn g).toInt = 0) q) + 1) : Int32) := by first | exact congrArg nI (cntP_y (P := fun g => ¬ (tn g).toInt = 0) (show ¬ (tn q).toInt = 0 by omega)) | exact congrArg nI (cntP_n0 (P := fun g => ¬ (tn g).toInt = 0) (show ¬ ¬ (tn q).toInt = 0 by omega))
                have e9_5 : nI (smP (lvF ft st tn) (fun g => nN (mn g)) (q + 1)) = (nI ((smP (lvF ft st tn) (fun g => nN (mn g)) q) + 0) : Int32) := by first | exact congrArg nI (smP_y (P := lvF ft st tn) (by first | with_reducible assumption | assumption)) | exact congrArg nI (smP_n (P := lvF ft st tn) (by first | with_reducible assumption | assumption))
                have hl9 : lv_has ls 7 [(6, .int (nI (q + 1))), (5, .int (nI (smP (lvF ft st tn) (fun g => nN (mn g)) (q + 1)))), (4, .int (nI (cntP (fun g => ¬ (tn g).toInt = 0) (q + 1)))), (3, .int (nI (cntP (fun g => (st g).toInt = 2) (q + 1)))), (2, .int (nI (cntP (fun g => (st g).toInt = 1) (q + 1)))), (0, .ref k0), (1, .int 2)] := by rw [e9_2]; rw [e9_3]; rw [e9_4]; rw [e9_5]; exact hl9
                exact ih_13 (q + 1) H locs ls (by first | with_reducible assumption | omega) (by first | with_reducible assumption | omega) hP hD hS hl9
              · have c_12 : q < ft ∧ (st q).toInt = 1 ∧ (tn q).toInt = 0 := zp_1 c_12
                refine lv_aload_n hx hb dX11_count_91 rfl (lv_at hl 5 rfl) ?_
                refine va_get (D := (dC, dI)) (ci := 9) (v := .ref (a 11)) (C := RX11) (T := TX11) (N := 55) hx hb hts inX11 hown hK hP 0 rfl rfl 11 (Nat.le_of_ble_eq_true rfl) (hts _ mw_1170) (fun _ h9 => h9) rfl dX11_count_92 ?_
                refine lv_iload hx hb dX11_count_95 (lv_at hl 3 rfl) ?_
                refine z_iald hx hb hK hP 3 0 rfl rfl (e := q) rfl b9_4 (Nat.le_of_ble_eq_true rfl) dX11_count_97 ?_
                refine zz_i (v := nI (nN (mn q))) ((hmw q (by first | with_reducible assumption | assumption)).1) ?_
                refine lv_goto (tgt := 102) hx hb dX11_count_98 rfl ?_
                refine lv_iadd hx hb dX11_count_102 ?_
                refine zz_i (v := nI ((smP (lvF ft st tn) (fun g => nN (mn g)) q) + (nN (mn q)))) (nI_add (smP (lvF ft st tn) (fun g => nN (mn g)) q) (nN (mn q))) ?_
                refine lv_istore (lv' := [(5, .int (nI ((smP (lvF ft st tn) (fun g => nN (mn g)) q) + (nN (mn q))))), (4, .int (nI ((cntP (fun g => ¬ (tn g).toInt = 0) q) + 1))), (3, .int (nI ((cntP (fun g => (st g).toInt = 2) q) + 1))), (2, .int (nI ((cntP (fun g => (st g).toInt = 1) q) + 0))), (6, .int (nI q)), (0, .ref k0), (1, .int 2)]) hx hb dX11_count_103 hl (Nat.le_of_ble_eq_true rfl) rfl (fun ls hl => ?_)
                refine lv_iinc (v := nI (q + 1)) (lv' := [(6, .int (nI (q + 1))), (5, .int (nI ((smP (lvF ft st tn) (fun g => nN (mn g)) q) + (nN (mn q))))), (4, .int (nI ((cntP (fun g => ¬ (tn g).toInt = 0) q) + 1))), (3, .int (nI ((cntP (fun g => (st g).toInt = 2) q) + 1))), (2, .int (nI ((cntP (fun g => (st g).toInt = 1) q) + 0))), (0, .ref k0), (1, .int 2)]) hx hb dX11_count_105 hl (k := 4) rfl (nI_add q 1) (Nat.le_of_ble_eq_true rfl) rfl (fun ls hl => ?_)
                refine lv_goto (tgt := 13) hx hb dX11_count_108 rfl ?_
                have hl9 := lv_sub hl [0, 1, 2, 3, 4, 5, 6] rfl
                have e9_2 : nI (cntP (fun g => (st g).toInt = 1) (q + 1)) = (nI ((cntP (fun g => (st g).toInt = 1) q) + 0) : Int32) := by first | exact congrArg nI (cntP_y (P := fun g => (st g).toInt = 1) (show (st q).toInt = 1 by omega)) | exact congrArg nI (cntP_n0 (P := fun g => (st g).toInt = 1) (show ¬ (st q).toInt = 1 by omega))
                have e9_3 : nI (cntP (fun g => (st g).toInt = 2) (q + 1)) = (nI ((cntP (fun g => (st g).toInt = 2) q) + 1) : Int32) := by first | exact congrArg nI (cntP_y (P := fun g => (st g).toInt = 2) (show (st q).toInt = 2 by omega)) | exact congrArg nI (cntP_n0 (P := fun g => (st g).toInt = 2) (show ¬ (st q).toInt = 2 by omega))
                have e9_4 : nI (cntP (fun g => ¬ (tn g).toInt = 0) (q + 1)) = (nI ((cntP (fun g => ¬ (tn g).toInt = 0) q) + 1) : Int32) := by first | exact congrArg nI (cntP_y (P := fun g => ¬ (tn g).toInt = 0) (show ¬ (tn q).toInt = 0 by omega)) | exact congrArg nI (cntP_n0 (P := fun g => ¬ (tn g).toInt = 0) (show ¬ ¬ (tn q).toInt = 0 by omega))
                have e9_5 : nI (smP (lvF ft st tn) (fun g => nN (mn g)) (q + 1)) = (nI ((smP (lvF ft st tn) (fun g => nN (mn g)) q) + (nN (mn q))) : Int32) := by first | exact congrArg nI (smP_y (P := lvF ft st tn) (by first | with_reducible assumption | assumption)) | exact congrArg nI (smP_n (P := lvF ft st tn) (by first | with_reducible assumption | assumption))
                have hl9 : lv_has ls 7 [(6, .int (nI (q + 1))), (5, .int (nI (smP (lvF ft st tn) (fun g => nN (mn g)) (q + 1)))), (4, .int (nI (cntP (fun g => ¬ (tn g).toInt = 0) (q + 1)))), (3, .int (nI (cntP (fun g => (st g).toInt = 2) (q + 1)))), (2, .int (nI (cntP (fun g => (st g).toInt = 1) (q + 1)))), (0, .ref k0), (1, .int 2)] := by rw [e9_2]; rw [e9_3]; rw [e9_4]; rw [e9_5]; exact hl9
                exact ih_13 (q + 1) H locs ls (by first | with_reducible assumption | omega) (by first | with_reducible assumption | omega) hP hD hS hl9
        · have c_5 : (st q).toInt = 1 := zc_eq rfl rfl c_5
          refine lv_iconst (v := 1) hx hb dX11_count_34 rfl ?_
          refine lv_goto (tgt := 39) hx hb dX11_count_35 rfl ?_
          refine lv_iadd hx hb dX11_count_39 ?_
          refine zz_i (v := nI ((cntP (fun g => (st g).toInt = 1) q) + 1)) (nI_add (cntP (fun g => (st g).toInt = 1) q) 1) ?_
          refine lv_istore_n (lv' := [(2, .int (nI ((cntP (fun g => (st g).toInt = 1) q) + 1))), (6, .int (nI q)), (5, .int (nI (smP (lvF ft st tn) (fun g => nN (mn g)) q))), (4, .int (nI (cntP (fun g => ¬ (tn g).toInt = 0) q))), (3, .int (nI (cntP (fun g => (st g).toInt = 2) q))), (0, .ref k0), (1, .int 2)]) hx hb dX11_count_40 rfl hl (Nat.le_of_ble_eq_true rfl) rfl (fun ls hl => ?_)
          refine lv_iload_n hx hb dX11_count_41 rfl (lv_at hl 4 rfl) ?_
          refine lv_aload_n hx hb dX11_count_42 rfl (lv_at hl 5 rfl) ?_
          refine va_get (D := (dC, dI)) (ci := 9) (v := .ref (a 5)) (C := RX11) (T := TX11) (N := 55) hx hb hts inX11 hown hK hP 0 rfl rfl 5 (Nat.le_of_ble_eq_true rfl) (hts _ mw_1164) (fun _ h9 => h9) rfl dX11_count_43 ?_
          refine lv_iload hx hb dX11_count_46 (lv_at hl 1 rfl) ?_
          refine z_iald hx hb hK hP 1 0 rfl rfl (e := q) rfl b9_4 (Nat.le_of_ble_eq_true rfl) dX11_count_48 ?_
          refine lv_iconst (v := 2) hx hb dX11_count_49 rfl ?_
          refine lv_icmp_ne (tgt := 57) hx hb dX11_count_50 rfl (fun c_13 => ?_) (fun c_13 => ?_)
          · have c_13 : ¬ (st q).toInt = 2 := zc_ne rfl rfl c_13
            refine lv_iconst (v := 0) hx hb dX11_count_57 rfl ?_
            refine lv_iadd hx hb dX11_count_58 ?_
            refine zz_i (v := nI ((cntP (fun g => (st g).toInt = 2) q) + 0)) (nI_add (cntP (fun g => (st g).toInt = 2) q) 0) ?_
            refine lv_istore_n (lv' := [(3, .int (nI ((cntP (fun g => (st g).toInt = 2) q) + 0))), (2, .int (nI ((cntP (fun g => (st g).toInt = 1) q) + 1))), (6, .int (nI q)), (5, .int (nI (smP (lvF ft st tn) (fun g => nN (mn g)) q))), (4, .int (nI (cntP (fun g => ¬ (tn g).toInt = 0) q))), (0, .ref k0), (1, .int 2)]) hx hb dX11_count_59 rfl hl (Nat.le_of_ble_eq_true rfl) rfl (fun ls hl => ?_)
            refine lv_iload hx hb dX11_count_60 (lv_at hl 4 rfl) ?_
            refine lv_aload_n hx hb dX11_count_62 rfl (lv_at hl 5 rfl) ?_
            refine va_get (D := (dC, dI)) (ci := 9) (v := .ref (a 6)) (C := RX11) (T := TX11) (N := 55) hx hb hts inX11 hown hK hP 0 rfl rfl 6 (Nat.le_of_ble_eq_true rfl) (hts _ mw_1165) (fun _ h9 => h9) rfl dX11_count_63 ?_
            refine lv_iload hx hb dX11_count_66 (lv_at hl 2 rfl) ?_
            refine z_zald hx hb hK hP 2 1 rfl rfl (e := q) rfl b9_4 (Nat.le_of_ble_eq_true rfl) dX11_count_68 ?_
            refine lv_if_eq (tgt := 76) hx hb dX11_count_69 rfl (fun c_14 => ?_) (fun c_14 => ?_)
            · have c_14 : (tn q).toInt = 0 := zc_eq rfl rfl c_14
              refine lv_iconst (v := 0) hx hb dX11_count_76 rfl ?_
              refine lv_iadd hx hb dX11_count_77 ?_
              refine zz_i (v := nI ((cntP (fun g => ¬ (tn g).toInt = 0) q) + 0)) (nI_add (cntP (fun g => ¬ (tn g).toInt = 0) q) 0) ?_
              refine lv_istore (lv' := [(4, .int (nI ((cntP (fun g => ¬ (tn g).toInt = 0) q) + 0))), (3, .int (nI ((cntP (fun g => (st g).toInt = 2) q) + 0))), (2, .int (nI ((cntP (fun g => (st g).toInt = 1) q) + 1))), (6, .int (nI q)), (5, .int (nI (smP (lvF ft st tn) (fun g => nN (mn g)) q))), (0, .ref k0), (1, .int 2)]) hx hb dX11_count_78 hl (Nat.le_of_ble_eq_true rfl) rfl (fun ls hl => ?_)
              refine lv_iload hx hb dX11_count_80 (lv_at hl 4 rfl) ?_
              refine lv_aload_n hx hb dX11_count_82 rfl (lv_at hl 5 rfl) ?_
              refine lv_iload hx hb dX11_count_83 (lv_at hl 3 rfl) ?_
              obtain ⟨hPc, hDc, hFc, hI1⟩ := zi_sub (wc := [_, _, _]) hP hD hS hA [0, 1, 2] rfl rfl
              refine zcall (st1 := [.int (pI (q < ft ∧ (st q).toInt = 1 ∧ (tn q).toInt = 0)), .int (nI (smP (lvF ft st tn) (fun g => nN (mn g)) q))]) (va_runV (As := [.int (nI q)]) (rest := [.int (nI (smP (lvF ft st tn) (fun g => nN (mn g)) q))]) ⟨hx, hb, hml, hown, hts⟩ (k_M_is_n l dC dI cI cZ cF H.size k0 a I0 J0 q ft st tn (by first | with_reducible assumption | assumption) (by first | with_reducible assumption | omega) (by first | with_reducible assumption | omega)) (csV_179 hts rfl rfl ⟨Nat.le_of_ble_eq_true rfl, Nat.le_of_ble_eq_true rfl⟩) (zPV2 (q0 := 0) (ci := 9) hPc hDc hK hXN rfl rfl) rfl rfl hl.1 rfl (lv_room (Nat.le_of_ble_eq_true rfl)) dX11_count_85 ⟨Nat.le_of_ble_eq_true rfl, Nat.le_of_ble_eq_true rfl⟩) hS hFc hFc rfl (fun t H locs ht hB hk1 hS => ?_)
              obtain ⟨hP1, hD1⟩ := hB
              rw [ht] at hP1
              replace hP := z0 hP hD hk1 hP1 hI1
              clear hk1 hPc hDc hFc hP1 hD1 ht hI1
              refine lv_if_eq (tgt := 101) hx hb dX11_count_88 rfl (fun c_15 => ?_) (fun c_15 => ?_)
              · have c_15 : ¬ (q < ft ∧ (st q).toInt = 1 ∧ (tn q).toInt = 0) := zp_0 c_15
                refine lv_iconst (v := 0) hx hb dX11_count_101 rfl ?_
                refine lv_iadd hx hb dX11_count_102 ?_
                refine zz_i (v := nI ((smP (lvF ft st tn) (fun g => nN (mn g)) q) + 0)) (nI_add (smP (lvF ft st tn) (fun g => nN (mn g)) q) 0) ?_
                refine lv_istore (lv' := [(5, .int (nI ((smP (lvF ft st tn) (fun g => nN (mn g)) q) + 0))), (4, .int (nI ((cntP (fun g => ¬ (tn g).toInt = 0) q) + 0))), (3, .int (nI ((cntP (fun g => (st g).toInt = 2) q) + 0))), (2, .int (nI ((cntP (fun g => (st g).toInt = 1) q) + 1))), (6, .int (nI q)), (0, .ref k0), (1, .int 2)]) hx hb dX11_count_103 hl (Nat.le_of_ble_eq_true rfl) rfl (fun ls hl => ?_)
                refine lv_iinc (v := nI (q + 1)) (lv' := [(6, .int (nI (q + 1))), (5, .int (nI ((smP (lvF ft st tn) (fun g => nN (mn g)) q) + 0))), (4, .int (nI ((cntP (fun g => ¬ (tn g).toInt = 0) q) + 0))), (3, .int (nI ((cntP (fun g => (st g).toInt = 2) q) + 0))), (2, .int (nI ((cntP (fun g => (st g).toInt = 1) q) + 1))), (0, .ref k0), (1, .int 2)]) hx hb dX11_count_105 hl (k := 4) rfl (nI_add q 1) (Nat.le_of_ble_eq_true rfl) rfl (fun ls hl => ?_)
                refine lv_goto (tgt := 13) hx hb dX11_count_108 rfl ?_
                have hl9 := lv_sub hl [0, 1, 2, 3, 4, 5, 6] rfl
                have e9_2 : nI (cntP (fun g => (st g).toInt = 1) (q + 1)) = (nI ((cntP (fun g => (st g).toInt = 1) q) + 1) : Int32) := by first | exact congrArg nI (cntP_y (P := fun g => (st g).toInt = 1) (show (st q).toInt = 1 by omega)) | exact congrArg nI (cntP_n0 (P := fun g => (st g).toInt = 1) (show ¬ (st q).toInt = 1 by omega))
                have e9_3 : nI (cntP (fun g => (st g).toInt = 2) (q + 1)) = (nI ((cntP (fun g => (st g).toInt = 2) q) + 0) : Int32) := by first | exact congrArg nI (cntP_y (P := fun g => (st g).toInt = 2) (show (st q).toInt = 2 by omega)) | exact congrArg nI (cntP_n0 (P := fun g => (st g).toInt = 2) (show ¬ (st q).toInt = 2 by omega))
                have e9_4 : nI (cntP (fun g => ¬ (tn g).toInt = 0) (q + 1)) = (nI ((cntP (fun g => ¬ (tn g).toInt = 0) q) + 0) : Int32) := by first | exact congrArg nI (cntP_y (P := fun g => ¬ (tn g).toInt = 0) (show ¬ (tn q).toInt = 0 by omega)) | exact congrArg nI (cntP_n0 (P := fun g => ¬ (tn g).toInt = 0) (show ¬ ¬ (tn q).toInt = 0 by omega))
                have e9_5 : nI (smP (lvF ft st tn) (fun g => nN (mn g)) (q + 1)) = (nI ((smP (lvF ft st tn) (fun g => nN (mn g)) q) + 0) : Int32) := by first | exact congrArg nI (smP_y (P := lvF ft st tn) (by first | with_reducible assumption | assumption)) | exact congrArg nI (smP_n (P := lvF ft st tn) (by first | with_reducible assumption | assumption))
                have hl9 : lv_has ls 7 [(6, .int (nI (q + 1))), (5, .int (nI (smP (lvF ft st tn) (fun g => nN (mn g)) (q + 1)))), (4, .int (nI (cntP (fun g => ¬ (tn g).toInt = 0) (q + 1)))), (3, .int (nI (cntP (fun g => (st g).toInt = 2) (q + 1)))), (2, .int (nI (cntP (fun g => (st g).toInt = 1) (q + 1)))), (0, .ref k0), (1, .int 2)] := by rw [e9_2]; rw [e9_3]; rw [e9_4]; rw [e9_5]; exact hl9
                exact ih_13 (q + 1) H locs ls (by first | with_reducible assumption | omega) (by first | with_reducible assumption | omega) hP hD hS hl9
              · have c_15 : q < ft ∧ (st q).toInt = 1 ∧ (tn q).toInt = 0 := zp_1 c_15
                refine lv_aload_n hx hb dX11_count_91 rfl (lv_at hl 5 rfl) ?_
                refine va_get (D := (dC, dI)) (ci := 9) (v := .ref (a 11)) (C := RX11) (T := TX11) (N := 55) hx hb hts inX11 hown hK hP 0 rfl rfl 11 (Nat.le_of_ble_eq_true rfl) (hts _ mw_1170) (fun _ h9 => h9) rfl dX11_count_92 ?_
                refine lv_iload hx hb dX11_count_95 (lv_at hl 3 rfl) ?_
                refine z_iald hx hb hK hP 3 0 rfl rfl (e := q) rfl b9_4 (Nat.le_of_ble_eq_true rfl) dX11_count_97 ?_
                refine zz_i (v := nI (nN (mn q))) ((hmw q (by first | with_reducible assumption | assumption)).1) ?_
                refine lv_goto (tgt := 102) hx hb dX11_count_98 rfl ?_
                refine lv_iadd hx hb dX11_count_102 ?_
                refine zz_i (v := nI ((smP (lvF ft st tn) (fun g => nN (mn g)) q) + (nN (mn q)))) (nI_add (smP (lvF ft st tn) (fun g => nN (mn g)) q) (nN (mn q))) ?_
                refine lv_istore (lv' := [(5, .int (nI ((smP (lvF ft st tn) (fun g => nN (mn g)) q) + (nN (mn q))))), (4, .int (nI ((cntP (fun g => ¬ (tn g).toInt = 0) q) + 0))), (3, .int (nI ((cntP (fun g => (st g).toInt = 2) q) + 0))), (2, .int (nI ((cntP (fun g => (st g).toInt = 1) q) + 1))), (6, .int (nI q)), (0, .ref k0), (1, .int 2)]) hx hb dX11_count_103 hl (Nat.le_of_ble_eq_true rfl) rfl (fun ls hl => ?_)
                refine lv_iinc (v := nI (q + 1)) (lv' := [(6, .int (nI (q + 1))), (5, .int (nI ((smP (lvF ft st tn) (fun g => nN (mn g)) q) + (nN (mn q))))), (4, .int (nI ((cntP (fun g => ¬ (tn g).toInt = 0) q) + 0))), (3, .int (nI ((cntP (fun g => (st g).toInt = 2) q) + 0))), (2, .int (nI ((cntP (fun g => (st g).toInt = 1) q) + 1))), (0, .ref k0), (1, .int 2)]) hx hb dX11_count_105 hl (k := 4) rfl (nI_add q 1) (Nat.le_of_ble_eq_true rfl) rfl (fun ls hl => ?_)
                refine lv_goto (tgt := 13) hx hb dX11_count_108 rfl ?_
                have hl9 := lv_sub hl [0, 1, 2, 3, 4, 5, 6] rfl
                have e9_2 : nI (cntP (fun g => (st g).toInt = 1) (q + 1)) = (nI ((cntP (fun g => (st g).toInt = 1) q) + 1) : Int32) := by first | exact congrArg nI (cntP_y (P := fun g => (st g).toInt = 1) (show (st q).toInt = 1 by omega)) | exact congrArg nI (cntP_n0 (P := fun g => (st g).toInt = 1) (show ¬ (st q).toInt = 1 by omega))
                have e9_3 : nI (cntP (fun g => (st g).toInt = 2) (q + 1)) = (nI ((cntP (fun g => (st g).toInt = 2) q) + 0) : Int32) := by first | exact congrArg nI (cntP_y (P := fun g => (st g).toInt = 2) (show (st q).toInt = 2 by omega)) | exact congrArg nI (cntP_n0 (P := fun g => (st g).toInt = 2) (show ¬ (st q).toInt = 2 by omega))
                have e9_4 : nI (cntP (fun g => ¬ (tn g).toInt = 0) (q + 1)) = (nI ((cntP (fun g => ¬ (tn g).toInt = 0) q) + 0) : Int32) := by first | exact congrArg nI (cntP_y (P := fun g => ¬ (tn g).toInt = 0) (show ¬ (tn q).toInt = 0 by omega)) | exact congrArg nI (cntP_n0 (P := fun g => ¬ (tn g).toInt = 0) (show ¬ ¬ (tn q).toInt = 0 by omega))
                have e9_5 : nI (smP (lvF ft st tn) (fun g => nN (mn g)) (q + 1)) = (nI ((smP (lvF ft st tn) (fun g => nN (mn g)) q) + (nN (mn q))) : Int32) := by first | exact congrArg nI (smP_y (P := lvF ft st tn) (by first | with_reducible assumption | assumption)) | exact congrArg nI (smP_n (P := lvF ft st tn) (by first | with_reducible assumption | assumption))
                have hl9 : lv_has ls 7 [(6, .int (nI (q + 1))), (5, .int (nI (smP (lvF ft st tn) (fun g => nN (mn g)) (q + 1)))), (4, .int (nI (cntP (fun g => ¬ (tn g).toInt = 0) (q + 1)))), (3, .int (nI (cntP (fun g => (st g).toInt = 2) (q + 1)))), (2, .int (nI (cntP (fun g => (st g).toInt = 1) (q + 1)))), (0, .ref k0), (1, .int 2)] := by rw [e9_2]; rw [e9_3]; rw [e9_4]; rw [e9_5]; exact hl9
                exact ih_13 (q + 1) H locs ls (by first | with_reducible assumption | omega) (by first | with_reducible assumption | omega) hP hD hS hl9
            · have c_14 : ¬ (tn q).toInt = 0 := zc_ne rfl rfl c_14
              refine lv_iconst (v := 1) hx hb dX11_count_72 rfl ?_
              refine lv_goto (tgt := 77) hx hb dX11_count_73 rfl ?_
              refine lv_iadd hx hb dX11_count_77 ?_
              refine zz_i (v := nI ((cntP (fun g => ¬ (tn g).toInt = 0) q) + 1)) (nI_add (cntP (fun g => ¬ (tn g).toInt = 0) q) 1) ?_
              refine lv_istore (lv' := [(4, .int (nI ((cntP (fun g => ¬ (tn g).toInt = 0) q) + 1))), (3, .int (nI ((cntP (fun g => (st g).toInt = 2) q) + 0))), (2, .int (nI ((cntP (fun g => (st g).toInt = 1) q) + 1))), (6, .int (nI q)), (5, .int (nI (smP (lvF ft st tn) (fun g => nN (mn g)) q))), (0, .ref k0), (1, .int 2)]) hx hb dX11_count_78 hl (Nat.le_of_ble_eq_true rfl) rfl (fun ls hl => ?_)
              refine lv_iload hx hb dX11_count_80 (lv_at hl 4 rfl) ?_
              refine lv_aload_n hx hb dX11_count_82 rfl (lv_at hl 5 rfl) ?_
              refine lv_iload hx hb dX11_count_83 (lv_at hl 3 rfl) ?_
              obtain ⟨hPc, hDc, hFc, hI1⟩ := zi_sub (wc := [_, _, _]) hP hD hS hA [0, 1, 2] rfl rfl
              refine zcall (st1 := [.int (pI (q < ft ∧ (st q).toInt = 1 ∧ (tn q).toInt = 0)), .int (nI (smP (lvF ft st tn) (fun g => nN (mn g)) q))]) (va_runV (As := [.int (nI q)]) (rest := [.int (nI (smP (lvF ft st tn) (fun g => nN (mn g)) q))]) ⟨hx, hb, hml, hown, hts⟩ (k_M_is_n l dC dI cI cZ cF H.size k0 a I0 J0 q ft st tn (by first | with_reducible assumption | assumption) (by first | with_reducible assumption | omega) (by first | with_reducible assumption | omega)) (csV_179 hts rfl rfl ⟨Nat.le_of_ble_eq_true rfl, Nat.le_of_ble_eq_true rfl⟩) (zPV2 (q0 := 0) (ci := 9) hPc hDc hK hXN rfl rfl) rfl rfl hl.1 rfl (lv_room (Nat.le_of_ble_eq_true rfl)) dX11_count_85 ⟨Nat.le_of_ble_eq_true rfl, Nat.le_of_ble_eq_true rfl⟩) hS hFc hFc rfl (fun t H locs ht hB hk1 hS => ?_)
              obtain ⟨hP1, hD1⟩ := hB
              rw [ht] at hP1
              replace hP := z0 hP hD hk1 hP1 hI1
              clear hk1 hPc hDc hFc hP1 hD1 ht hI1
              refine lv_if_eq (tgt := 101) hx hb dX11_count_88 rfl (fun c_16 => ?_) (fun c_16 => ?_)
              · have c_16 : ¬ (q < ft ∧ (st q).toInt = 1 ∧ (tn q).toInt = 0) := zp_0 c_16
                refine lv_iconst (v := 0) hx hb dX11_count_101 rfl ?_
                refine lv_iadd hx hb dX11_count_102 ?_
                refine zz_i (v := nI ((smP (lvF ft st tn) (fun g => nN (mn g)) q) + 0)) (nI_add (smP (lvF ft st tn) (fun g => nN (mn g)) q) 0) ?_
                refine lv_istore (lv' := [(5, .int (nI ((smP (lvF ft st tn) (fun g => nN (mn g)) q) + 0))), (4, .int (nI ((cntP (fun g => ¬ (tn g).toInt = 0) q) + 1))), (3, .int (nI ((cntP (fun g => (st g).toInt = 2) q) + 0))), (2, .int (nI ((cntP (fun g => (st g).toInt = 1) q) + 1))), (6, .int (nI q)), (0, .ref k0), (1, .int 2)]) hx hb dX11_count_103 hl (Nat.le_of_ble_eq_true rfl) rfl (fun ls hl => ?_)
                refine lv_iinc (v := nI (q + 1)) (lv' := [(6, .int (nI (q + 1))), (5, .int (nI ((smP (lvF ft st tn) (fun g => nN (mn g)) q) + 0))), (4, .int (nI ((cntP (fun g => ¬ (tn g).toInt = 0) q) + 1))), (3, .int (nI ((cntP (fun g => (st g).toInt = 2) q) + 0))), (2, .int (nI ((cntP (fun g => (st g).toInt = 1) q) + 1))), (0, .ref k0), (1, .int 2)]) hx hb dX11_count_105 hl (k := 4) rfl (nI_add q 1) (Nat.le_of_ble_eq_true rfl) rfl (fun ls hl => ?_)
                refine lv_goto (tgt := 13) hx hb dX11_count_108 rfl ?_
                have hl9 := lv_sub hl [0, 1, 2, 3, 4, 5, 6] rfl
                have e9_2 : nI (cntP (fun g => (st g).toInt = 1) (q + 1)) = (nI ((cntP (fun g => (st g).toInt = 1) q) + 1) : Int32) := by first | exact congrArg nI (cntP_y (P := fun g => (st g).toInt = 1) (show (st q).toInt = 1 by omega)) | exact congrArg nI (cntP_n0 (P := fun g => (st g).toInt = 1) (show ¬ (st q).toInt = 1 by omega))
                have e9_3 : nI (cntP (fun g => (st g).toInt = 2) (q + 1)) = (nI ((cntP (fun g => (st g).toInt = 2) q) + 0) : Int32) := by first | exact congrArg nI (cntP_y (P := fun g => (st g).toInt = 2) (show (st q).toInt = 2 by omega)) | exact congrArg nI (cntP_n0 (P := fun g => (st g).toInt = 2) (show ¬ (st q).toInt = 2 by omega))
                have e9_4 : nI (cntP (fun g => ¬ (tn g).toInt = 0) (q + 1)) = (nI ((cntP (fun g => ¬ (tn g).toInt = 0) q) + 1) : Int32) := by first | exact congrArg nI (cntP_y (P := fun g => ¬ (tn g).toInt = 0) (show ¬ (tn q).toInt = 0 by omega)) | exact congrArg nI (cntP_n0 (P := fun g => ¬ (tn g).toInt = 0) (show ¬ ¬ (tn q).toInt = 0 by omega))
                have e9_5 : nI (smP (lvF ft st tn) (fun g => nN (mn g)) (q + 1)) = (nI ((smP (lvF ft st tn) (fun g => nN (mn g)) q) + 0) : Int32) := by first | exact congrArg nI (smP_y (P := lvF ft st tn) (by first | with_reducible assumption | assumption)) | exact congrArg nI (smP_n (P := lvF ft st tn) (by first | with_reducible assumption | assumption))
                have hl9 : lv_has ls 7 [(6, .int (nI (q + 1))), (5, .int (nI (smP (lvF ft st tn) (fun g => nN (mn g)) (q + 1)))), (4, .int (nI (cntP (fun g => ¬ (tn g).toInt = 0) (q + 1)))), (3, .int (nI (cntP (fun g => (st g).toInt = 2) (q + 1)))), (2, .int (nI (cntP (fun g => (st g).toInt = 1) (q + 1)))), (0, .ref k0), (1, .int 2)] := by rw [e9_2]; rw [e9_3]; rw [e9_4]; rw [e9_5]; exact hl9
                exact ih_13 (q + 1) H locs ls (by first | with_reducible assumption | omega) (by first | with_reducible assumption | omega) hP hD hS hl9
              · have c_16 : q < ft ∧ (st q).toInt = 1 ∧ (tn q).toInt = 0 := zp_1 c_16
                refine lv_aload_n hx hb dX11_count_91 rfl (lv_at hl 5 rfl) ?_
                refine va_get (D := (dC, dI)) (ci := 9) (v := .ref (a 11)) (C := RX11) (T := TX11) (N := 55) hx hb hts inX11 hown hK hP 0 rfl rfl 11 (Nat.le_of_ble_eq_true rfl) (hts _ mw_1170) (fun _ h9 => h9) rfl dX11_count_92 ?_
                refine lv_iload hx hb dX11_count_95 (lv_at hl 3 rfl) ?_
                refine z_iald hx hb hK hP 3 0 rfl rfl (e := q) rfl b9_4 (Nat.le_of_ble_eq_true rfl) dX11_count_97 ?_
                refine zz_i (v := nI (nN (mn q))) ((hmw q (by first | with_reducible assumption | assumption)).1) ?_
                refine lv_goto (tgt := 102) hx hb dX11_count_98 rfl ?_
                refine lv_iadd hx hb dX11_count_102 ?_
                refine zz_i (v := nI ((smP (lvF ft st tn) (fun g => nN (mn g)) q) + (nN (mn q)))) (nI_add (smP (lvF ft st tn) (fun g => nN (mn g)) q) (nN (mn q))) ?_
                refine lv_istore (lv' := [(5, .int (nI ((smP (lvF ft st tn) (fun g => nN (mn g)) q) + (nN (mn q))))), (4, .int (nI ((cntP (fun g => ¬ (tn g).toInt = 0) q) + 1))), (3, .int (nI ((cntP (fun g => (st g).toInt = 2) q) + 0))), (2, .int (nI ((cntP (fun g => (st g).toInt = 1) q) + 1))), (6, .int (nI q)), (0, .ref k0), (1, .int 2)]) hx hb dX11_count_103 hl (Nat.le_of_ble_eq_true rfl) rfl (fun ls hl => ?_)
                refine lv_iinc (v := nI (q + 1)) (lv' := [(6, .int (nI (q + 1))), (5, .int (nI ((smP (lvF ft st tn) (fun g => nN (mn g)) q) + (nN (mn q))))), (4, .int (nI ((cntP (fun g => ¬ (tn g).toInt = 0) q) + 1))), (3, .int (nI ((cntP (fun g => (st g).toInt = 2) q) + 0))), (2, .int (nI ((cntP (fun g => (st g).toInt = 1) q) + 1))), (0, .ref k0), (1, .int 2)]) hx hb dX11_count_105 hl (k := 4) rfl (nI_add q 1) (Nat.le_of_ble_eq_true rfl) rfl (fun ls hl => ?_)
                refine lv_goto (tgt := 13) hx hb dX11_count_108 rfl ?_
                have hl9 := lv_sub hl [0, 1, 2, 3, 4, 5, 6] rfl
                have e9_2 : nI (cntP (fun g => (st g).toInt = 1) (q + 1)) = (nI ((cntP (fun g => (st g).toInt = 1) q) + 1) : Int32) := by first | exact congrArg nI (cntP_y (P := fun g => (st g).toInt = 1) (show (st q).toInt = 1 by omega)) | exact congrArg nI (cntP_n0 (P := fun g => (st g).toInt = 1) (show ¬ (st q).toInt = 1 by omega))
                have e9_3 : nI (cntP (fun g => (st g).toInt = 2) (q + 1)) = (nI ((cntP (fun g => (st g).toInt = 2) q) + 0) : Int32) := by first | exact congrArg nI (cntP_y (P := fun g => (st g).toInt = 2) (show (st q).toInt = 2 by omega)) | exact congrArg nI (cntP_n0 (P := fun g => (st g).toInt = 2) (show ¬ (st q).toInt = 2 by omega))
                have e9_4 : nI (cntP (fun g => ¬ (tn g).toInt = 0) (q + 1)) = (nI ((cntP (fun g => ¬ (tn g).toInt = 0) q) + 1) : Int32) := by first | exact congrArg nI (cntP_y (P := fun g => ¬ (tn g).toInt = 0) (show ¬ (tn q).toInt = 0 by omega)) | exact congrArg nI (cntP_n0 (P := fun g => ¬ (tn g).toInt = 0) (show ¬ ¬ (tn q).toInt = 0 by omega))
                have e9_5 : nI (smP (lvF ft st tn) (fun g => nN (mn g)) (q + 1)) = (nI ((smP (lvF ft st tn) (fun g => nN (mn g)) q) + (nN (mn q))) : Int32) := by first | exact congrArg nI (smP_y (P := lvF ft st tn) (by first | with_reducible assumption | assumption)) | exact congrArg nI (smP_n (P := lvF ft st tn) (by first | with_reducible assumption | assumption))
                have hl9 : lv_has ls 7 [(6, .int (nI (q + 1))), (5, .int (nI (smP (lvF ft st tn) (fun g => nN (mn g)) (q + 1)))), (4, .int (nI (cntP (fun g => ¬ (tn g).toInt = 0) (q + 1)))), (3, .int (nI (cntP (fun g => (st g).toInt = 2) (q + 1)))), (2, .int (nI (cntP (fun g => (st g).toInt = 1) (q + 1)))), (0, .ref k0), (1, .int 2)] := by rw [e9_2]; rw [e9_3]; rw [e9_4]; rw [e9_5]; exact hl9
                exact ih_13 (q + 1) H locs ls (by first | with_reducible assumption | omega) (by first | with_reducible assumption | omega) hP hD hS hl9
          · have c_13 : (st q).toInt = 2 := zc_eq rfl rfl c_13
            refine lv_iconst (v := 1) hx hb dX11_count_53 rfl ?_
            refine lv_goto (tgt := 58) hx hb dX11_count_54 rfl ?_
            refine lv_iadd hx hb dX11_count_58 ?_
            refine zz_i (v := nI ((cntP (fun g => (st g).toInt = 2) q) + 1)) (nI_add (cntP (fun g => (st g).toInt = 2) q) 1) ?_
            refine lv_istore_n (lv' := [(3, .int (nI ((cntP (fun g => (st g).toInt = 2) q) + 1))), (2, .int (nI ((cntP (fun g => (st g).toInt = 1) q) + 1))), (6, .int (nI q)), (5, .int (nI (smP (lvF ft st tn) (fun g => nN (mn g)) q))), (4, .int (nI (cntP (fun g => ¬ (tn g).toInt = 0) q))), (0, .ref k0), (1, .int 2)]) hx hb dX11_count_59 rfl hl (Nat.le_of_ble_eq_true rfl) rfl (fun ls hl => ?_)
            refine lv_iload hx hb dX11_count_60 (lv_at hl 4 rfl) ?_
            refine lv_aload_n hx hb dX11_count_62 rfl (lv_at hl 5 rfl) ?_
            refine va_get (D := (dC, dI)) (ci := 9) (v := .ref (a 6)) (C := RX11) (T := TX11) (N := 55) hx hb hts inX11 hown hK hP 0 rfl rfl 6 (Nat.le_of_ble_eq_true rfl) (hts _ mw_1165) (fun _ h9 => h9) rfl dX11_count_63 ?_
            refine lv_iload hx hb dX11_count_66 (lv_at hl 2 rfl) ?_
            refine z_zald hx hb hK hP 2 1 rfl rfl (e := q) rfl b9_4 (Nat.le_of_ble_eq_true rfl) dX11_count_68 ?_
            refine lv_if_eq (tgt := 76) hx hb dX11_count_69 rfl (fun c_17 => ?_) (fun c_17 => ?_)
            · have c_17 : (tn q).toInt = 0 := zc_eq rfl rfl c_17
              refine lv_iconst (v := 0) hx hb dX11_count_76 rfl ?_
              refine lv_iadd hx hb dX11_count_77 ?_
              refine zz_i (v := nI ((cntP (fun g => ¬ (tn g).toInt = 0) q) + 0)) (nI_add (cntP (fun g => ¬ (tn g).toInt = 0) q) 0) ?_
              refine lv_istore (lv' := [(4, .int (nI ((cntP (fun g => ¬ (tn g).toInt = 0) q) + 0))), (3, .int (nI ((cntP (fun g => (st g).toInt = 2) q) + 1))), (2, .int (nI ((cntP (fun g => (st g).toInt = 1) q) + 1))), (6, .int (nI q)), (5, .int (nI (smP (lvF ft st tn) (fun g => nN (mn g)) q))), (0, .ref k0), (1, .int 2)]) hx hb dX11_count_78 hl (Nat.le_of_ble_eq_true rfl) rfl (fun ls hl => ?_)
              refine lv_iload hx hb dX11_count_80 (lv_at hl 4 rfl) ?_
              refine lv_aload_n hx hb dX11_count_82 rfl (lv_at hl 5 rfl) ?_
              refine lv_iload hx hb dX11_count_83 (lv_at hl 3 rfl) ?_
              obtain ⟨hPc, hDc, hFc, hI1⟩ := zi_sub (wc := [_, _, _]) hP hD hS hA [0, 1, 2] rfl rfl
              refine zcall (st1 := [.int (pI (q < ft ∧ (st q).toInt = 1 ∧ (tn q).toInt = 0)), .int (nI (smP (lvF ft st tn) (fun g => nN (mn g)) q))]) (va_runV (As := [.int (nI q)]) (rest := [.int (nI (smP (lvF ft st tn) (fun g => nN (mn g)) q))]) ⟨hx, hb, hml, hown, hts⟩ (k_M_is_n l dC dI cI cZ cF H.size k0 a I0 J0 q ft st tn (by first | with_reducible assumption | assumption) (by first | with_reducible assumption | omega) (by first | with_reducible assumption | omega)) (csV_179 hts rfl rfl ⟨Nat.le_of_ble_eq_true rfl, Nat.le_of_ble_eq_true rfl⟩) (zPV2 (q0 := 0) (ci := 9) hPc hDc hK hXN rfl rfl) rfl rfl hl.1 rfl (lv_room (Nat.le_of_ble_eq_true rfl)) dX11_count_85 ⟨Nat.le_of_ble_eq_true rfl, Nat.le_of_ble_eq_true rfl⟩) hS hFc hFc rfl (fun t H locs ht hB hk1 hS => ?_)
              obtain ⟨hP1, hD1⟩ := hB
              rw [ht] at hP1
              replace hP := z0 hP hD hk1 hP1 hI1
              clear hk1 hPc hDc hFc hP1 hD1 ht hI1
              refine lv_if_eq (tgt := 101) hx hb dX11_count_88 rfl (fun c_18 => ?_) (fun c_18 => ?_)
              · have c_18 : ¬ (q < ft ∧ (st q).toInt = 1 ∧ (tn q).toInt = 0) := zp_0 c_18
                refine lv_iconst (v := 0) hx hb dX11_count_101 rfl ?_
                refine lv_iadd hx hb dX11_count_102 ?_
                refine zz_i (v := nI ((smP (lvF ft st tn) (fun g => nN (mn g)) q) + 0)) (nI_add (smP (lvF ft st tn) (fun g => nN (mn g)) q) 0) ?_
                refine lv_istore (lv' := [(5, .int (nI ((smP (lvF ft st tn) (fun g => nN (mn g)) q) + 0))), (4, .int (nI ((cntP (fun g => ¬ (tn g).toInt = 0) q) + 0))), (3, .int (nI ((cntP (fun g => (st g).toInt = 2) q) + 1))), (2, .int (nI ((cntP (fun g => (st g).toInt = 1) q) + 1))), (6, .int (nI q)), (0, .ref k0), (1, .int 2)]) hx hb dX11_count_103 hl (Nat.le_of_ble_eq_true rfl) rfl (fun ls hl => ?_)
                refine lv_iinc (v := nI (q + 1)) (lv' := [(6, .int (nI (q + 1))), (5, .int (nI ((smP (lvF ft st tn) (fun g => nN (mn g)) q) + 0))), (4, .int (nI ((cntP (fun g => ¬ (tn g).toInt = 0) q) + 0))), (3, .int (nI ((cntP (fun g => (st g).toInt = 2) q) + 1))), (2, .int (nI ((cntP (fun g => (st g).toInt = 1) q) + 1))), (0, .ref k0), (1, .int 2)]) hx hb dX11_count_105 hl (k := 4) rfl (nI_add q 1) (Nat.le_of_ble_eq_true rfl) rfl (fun ls hl => ?_)
                refine lv_goto (tgt := 13) hx hb dX11_count_108 rfl ?_
                have hl9 := lv_sub hl [0, 1, 2, 3, 4, 5, 6] rfl
                have e9_2 : nI (cntP (fun g => (st g).toInt = 1) (q + 1)) = (nI ((cntP (fun g => (st g).toInt = 1) q) + 1) : Int32) := by first | exact congrArg nI (cntP_y (P := fun g => (st g).toInt = 1) (show (st q).toInt = 1 by omega)) | exact congrArg nI (cntP_n0 (P := fun g => (st g).toInt = 1) (show ¬ (st q).toInt = 1 by omega))
                have e9_3 : nI (cntP (fun g => (st g).toInt = 2) (q + 1)) = (nI ((cntP (fun g => (st g).toInt = 2) q) + 1) : Int32) := by first | exact congrArg nI (cntP_y (P := fun g => (st g).toInt = 2) (show (st q).toInt = 2 by omega)) | exact congrArg nI (cntP_n0 (P := fun g => (st g).toInt = 2) (show ¬ (st q).toInt = 2 by omega))
                have e9_4 : nI (cntP (fun g => ¬ (tn g).toInt = 0) (q + 1)) = (nI ((cntP (fun g => ¬ (tn g).toInt = 0) q) + 0) : Int32) := by first | exact congrArg nI (cntP_y (P := fun g => ¬ (tn g).toInt = 0) (show ¬ (tn q).toInt = 0 by omega)) | exact congrArg nI (cntP_n0 (P := fun g => ¬ (tn g).toInt = 0) (show ¬ ¬ (tn q).toInt = 0 by omega))
                have e9_5 : nI (smP (lvF ft st tn) (fun g => nN (mn g)) (q + 1)) = (nI ((smP (lvF ft st tn) (fun g => nN (mn g)) q) + 0) : Int32) := by first | exact congrArg nI (smP_y (P := lvF ft st tn) (by first | with_reducible assumption | assumption)) | exact congrArg nI (smP_n (P := lvF ft st tn) (by first | with_reducible assumption | assumption))
                have hl9 : lv_has ls 7 [(6, .int (nI (q + 1))), (5, .int (nI (smP (lvF ft st tn) (fun g => nN (mn g)) (q + 1)))), (4, .int (nI (cntP (fun g => ¬ (tn g).toInt = 0) (q + 1)))), (3, .int (nI (cntP (fun g => (st g).toInt = 2) (q + 1)))), (2, .int (nI (cntP (fun g => (st g).toInt = 1) (q + 1)))), (0, .ref k0), (1, .int 2)] := by rw [e9_2]; rw [e9_3]; rw [e9_4]; rw [e9_5]; exact hl9
                exact ih_13 (q + 1) H locs ls (by first | with_reducible assumption | omega) (by first | with_reducible assumption | omega) hP hD hS hl9
              · have c_18 : q < ft ∧ (st q).toInt = 1 ∧ (tn q).toInt = 0 := zp_1 c_18
                refine lv_aload_n hx hb dX11_count_91 rfl (lv_at hl 5 rfl) ?_
                refine va_get (D := (dC, dI)) (ci := 9) (v := .ref (a 11)) (C := RX11) (T := TX11) (N := 55) hx hb hts inX11 hown hK hP 0 rfl rfl 11 (Nat.le_of_ble_eq_true rfl) (hts _ mw_1170) (fun _ h9 => h9) rfl dX11_count_92 ?_
                refine lv_iload hx hb dX11_count_95 (lv_at hl 3 rfl) ?_
                refine z_iald hx hb hK hP 3 0 rfl rfl (e := q) rfl b9_4 (Nat.le_of_ble_eq_true rfl) dX11_count_97 ?_
                refine zz_i (v := nI (nN (mn q))) ((hmw q (by first | with_reducible assumption | assumption)).1) ?_
                refine lv_goto (tgt := 102) hx hb dX11_count_98 rfl ?_
                refine lv_iadd hx hb dX11_count_102 ?_
                refine zz_i (v := nI ((smP (lvF ft st tn) (fun g => nN (mn g)) q) + (nN (mn q)))) (nI_add (smP (lvF ft st tn) (fun g => nN (mn g)) q) (nN (mn q))) ?_
                refine lv_istore (lv' := [(5, .int (nI ((smP (lvF ft st tn) (fun g => nN (mn g)) q) + (nN (mn q))))), (4, .int (nI ((cntP (fun g => ¬ (tn g).toInt = 0) q) + 0))), (3, .int (nI ((cntP (fun g => (st g).toInt = 2) q) + 1))), (2, .int (nI ((cntP (fun g => (st g).toInt = 1) q) + 1))), (6, .int (nI q)), (0, .ref k0), (1, .int 2)]) hx hb dX11_count_103 hl (Nat.le_of_ble_eq_true rfl) rfl (fun ls hl => ?_)
                refine lv_iinc (v := nI (q + 1)) (lv' := [(6, .int (nI (q + 1))), (5, .int (nI ((smP (lvF ft st tn) (fun g => nN (mn g)) q) + (nN (mn q))))), (4, .int (nI ((cntP (fun g => ¬ (tn g).toInt = 0) q) + 0))), (3, .int (nI ((cntP (fun g => (st g).toInt = 2) q) + 1))), (2, .int (nI ((cntP (fun g => (st g).toInt = 1) q) + 1))), (0, .ref k0), (1, .int 2)]) hx hb dX11_count_105 hl (k := 4) rfl (nI_add q 1) (Nat.le_of_ble_eq_true rfl) rfl (fun ls hl => ?_)
                refine lv_goto (tgt := 13) hx hb dX11_count_108 rfl ?_
                have hl9 := lv_sub hl [0, 1, 2, 3, 4, 5, 6] rfl
                have e9_2 : nI (cntP (fun g => (st g).toInt = 1) (q + 1)) = (nI ((cntP (fun g => (st g).toInt = 1) q) + 1) : Int32) := by first | exact congrArg nI (cntP_y (P := fun g => (st g).toInt = 1) (show (st q).toInt = 1 by omega)) | exact congrArg nI (cntP_n0 (P := fun g => (st g).toInt = 1) (show ¬ (st q).toInt = 1 by omega))
                have e9_3 : nI (cntP (fun g => (st g).toInt = 2) (q + 1)) = (nI ((cntP (fun g => (st g).toInt = 2) q) + 1) : Int32) := by first | exact congrArg nI (cntP_y (P := fun g => (st g).toInt = 2) (show (st q).toInt = 2 by omega)) | exact congrArg nI (cntP_n0 (P := fun g => (st g).toInt = 2) (show ¬ (st q).toInt = 2 by omega))
                have e9_4 : nI (cntP (fun g => ¬ (tn g).toInt = 0) (q + 1)) = (nI ((cntP (fun g => ¬ (tn g).toInt = 0) q) + 0) : Int32) := by first | exact congrArg nI (cntP_y (P := fun g => ¬ (tn g).toInt = 0) (show ¬ (tn q).toInt = 0 by omega)) | exact congrArg nI (cntP_n0 (P := fun g => ¬ (tn g).toInt = 0) (show ¬ ¬ (tn q).toInt = 0 by omega))
                have e9_5 : nI (smP (lvF ft st tn) (fun g => nN (mn g)) (q + 1)) = (nI ((smP (lvF ft st tn) (fun g => nN (mn g)) q) + (nN (mn q))) : Int32) := by first | exact congrArg nI (smP_y (P := lvF ft st tn) (by first | with_reducible assumption | assumption)) | exact congrArg nI (smP_n (P := lvF ft st tn) (by first | with_reducible assumption | assumption))
                have hl9 : lv_has ls 7 [(6, .int (nI (q + 1))), (5, .int (nI (smP (lvF ft st tn) (fun g => nN (mn g)) (q + 1)))), (4, .int (nI (cntP (fun g => ¬ (tn g).toInt = 0) (q + 1)))), (3, .int (nI (cntP (fun g => (st g).toInt = 2) (q + 1)))), (2, .int (nI (cntP (fun g => (st g).toInt = 1) (q + 1)))), (0, .ref k0), (1, .int 2)] := by rw [e9_2]; rw [e9_3]; rw [e9_4]; rw [e9_5]; exact hl9
                exact ih_13 (q + 1) H locs ls (by first | with_reducible assumption | omega) (by first | with_reducible assumption | omega) hP hD hS hl9
            · have c_17 : ¬ (tn q).toInt = 0 := zc_ne rfl rfl c_17
              refine lv_iconst (v := 1) hx hb dX11_count_72 rfl ?_
              refine lv_goto (tgt := 77) hx hb dX11_count_73 rfl ?_
              refine lv_iadd hx hb dX11_count_77 ?_
              refine zz_i (v := nI ((cntP (fun g => ¬ (tn g).toInt = 0) q) + 1)) (nI_add (cntP (fun g => ¬ (tn g).toInt = 0) q) 1) ?_
              refine lv_istore (lv' := [(4, .int (nI ((cntP (fun g => ¬ (tn g).toInt = 0) q) + 1))), (3, .int (nI ((cntP (fun g => (st g).toInt = 2) q) + 1))), (2, .int (nI ((cntP (fun g => (st g).toInt = 1) q) + 1))), (6, .int (nI q)), (5, .int (nI (smP (lvF ft st tn) (fun g => nN (mn g)) q))), (0, .ref k0), (1, .int 2)]) hx hb dX11_count_78 hl (Nat.le_of_ble_eq_true rfl) rfl (fun ls hl => ?_)
              refine lv_iload hx hb dX11_count_80 (lv_at hl 4 rfl) ?_
              refine lv_aload_n hx hb dX11_count_82 rfl (lv_at hl 5 rfl) ?_
              refine lv_iload hx hb dX11_count_83 (lv_at hl 3 rfl) ?_
              obtain ⟨hPc, hDc, hFc, hI1⟩ := zi_sub (wc := [_, _, _]) hP hD hS hA [0, 1, 2] rfl rfl
              refine zcall (st1 := [.int (pI (q < ft ∧ (st q).toInt = 1 ∧ (tn q).toInt = 0)), .int (nI (smP (lvF ft st tn) (fun g => nN (mn g)) q))]) (va_runV (As := [.int (nI q)]) (rest := [.int (nI (smP (lvF ft st tn) (fun g => nN (mn g)) q))]) ⟨hx, hb, hml, hown, hts⟩ (k_M_is_n l dC dI cI cZ cF H.size k0 a I0 J0 q ft st tn (by first | with_reducible assumption | assumption) (by first | with_reducible assumption | omega) (by first | with_reducible assumption | omega)) (csV_179 hts rfl rfl ⟨Nat.le_of_ble_eq_true rfl, Nat.le_of_ble_eq_true rfl⟩) (zPV2 (q0 := 0) (ci := 9) hPc hDc hK hXN rfl rfl) rfl rfl hl.1 rfl (lv_room (Nat.le_of_ble_eq_true rfl)) dX11_count_85 ⟨Nat.le_of_ble_eq_true rfl, Nat.le_of_ble_eq_true rfl⟩) hS hFc hFc rfl (fun t H locs ht hB hk1 hS => ?_)
              obtain ⟨hP1, hD1⟩ := hB
              rw [ht] at hP1
              replace hP := z0 hP hD hk1 hP1 hI1
              clear hk1 hPc hDc hFc hP1 hD1 ht hI1
              refine lv_if_eq (tgt := 101) hx hb dX11_count_88 rfl (fun c_19 => ?_) (fun c_19 => ?_)
              · have c_19 : ¬ (q < ft ∧ (st q).toInt = 1 ∧ (tn q).toInt = 0) := zp_0 c_19
                refine lv_iconst (v := 0) hx hb dX11_count_101 rfl ?_
                refine lv_iadd hx hb dX11_count_102 ?_
                refine zz_i (v := nI ((smP (lvF ft st tn) (fun g => nN (mn g)) q) + 0)) (nI_add (smP (lvF ft st tn) (fun g => nN (mn g)) q) 0) ?_
                refine lv_istore (lv' := [(5, .int (nI ((smP (lvF ft st tn) (fun g => nN (mn g)) q) + 0))), (4, .int (nI ((cntP (fun g => ¬ (tn g).toInt = 0) q) + 1))), (3, .int (nI ((cntP (fun g => (st g).toInt = 2) q) + 1))), (2, .int (nI ((cntP (fun g => (st g).toInt = 1) q) + 1))), (6, .int (nI q)), (0, .ref k0), (1, .int 2)]) hx hb dX11_count_103 hl (Nat.le_of_ble_eq_true rfl) rfl (fun ls hl => ?_)
                refine lv_iinc (v := nI (q + 1)) (lv' := [(6, .int (nI (q + 1))), (5, .int (nI ((smP (lvF ft st tn) (fun g => nN (mn g)) q) + 0))), (4, .int (nI ((cntP (fun g => ¬ (tn g).toInt = 0) q) + 1))), (3, .int (nI ((cntP (fun g => (st g).toInt = 2) q) + 1))), (2, .int (nI ((cntP (fun g => (st g).toInt = 1) q) + 1))), (0, .ref k0), (1, .int 2)]) hx hb dX11_count_105 hl (k := 4) rfl (nI_add q 1) (Nat.le_of_ble_eq_true rfl) rfl (fun ls hl => ?_)
                refine lv_goto (tgt := 13) hx hb dX11_count_108 rfl ?_
                have hl9 := lv_sub hl [0, 1, 2, 3, 4, 5, 6] rfl
                have e9_2 : nI (cntP (fun g => (st g).toInt = 1) (q + 1)) = (nI ((cntP (fun g => (st g).toInt = 1) q) + 1) : Int32) := by first | exact congrArg nI (cntP_y (P := fun g => (st g).toInt = 1) (show (st q).toInt = 1 by omega)) | exact congrArg nI (cntP_n0 (P := fun g => (st g).toInt = 1) (show ¬ (st q).toInt = 1 by omega))
                have e9_3 : nI (cntP (fun g => (st g).toInt = 2) (q + 1)) = (nI ((cntP (fun g => (st g).toInt = 2) q) + 1) : Int32) := by first | exact congrArg nI (cntP_y (P := fun g => (st g).toInt = 2) (show (st q).toInt = 2 by omega)) | exact congrArg nI (cntP_n0 (P := fun g => (st g).toInt = 2) (show ¬ (st q).toInt = 2 by omega))
                have e9_4 : nI (cntP (fun g => ¬ (tn g).toInt = 0) (q + 1)) = (nI ((cntP (fun g => ¬ (tn g).toInt = 0) q) + 1) : Int32) := by first | exact congrArg nI (cntP_y (P := fun g => ¬ (tn g).toInt = 0) (show ¬ (tn q).toInt = 0 by omega)) | exact congrArg nI (cntP_n0 (P := fun g => ¬ (tn g).toInt = 0) (show ¬ ¬ (tn q).toInt = 0 by omega))
                have e9_5 : nI (smP (lvF ft st tn) (fun g => nN (mn g)) (q + 1)) = (nI ((smP (lvF ft st tn) (fun g => nN (mn g)) q) + 0) : Int32) := by first | exact congrArg nI (smP_y (P := lvF ft st tn) (by first | with_reducible assumption | assumption)) | exact congrArg nI (smP_n (P := lvF ft st tn) (by first | with_reducible assumption | assumption))
                have hl9 : lv_has ls 7 [(6, .int (nI (q + 1))), (5, .int (nI (smP (lvF ft st tn) (fun g => nN (mn g)) (q + 1)))), (4, .int (nI (cntP (fun g => ¬ (tn g).toInt = 0) (q + 1)))), (3, .int (nI (cntP (fun g => (st g).toInt = 2) (q + 1)))), (2, .int (nI (cntP (fun g => (st g).toInt = 1) (q + 1)))), (0, .ref k0), (1, .int 2)] := by rw [e9_2]; rw [e9_3]; rw [e9_4]; rw [e9_5]; exact hl9
                exact ih_13 (q + 1) H locs ls (by first | with_reducible assumption | omega) (by first | with_reducible assumption | omega) hP hD hS hl9
              · have c_19 : q < ft ∧ (st q).toInt = 1 ∧ (tn q).toInt = 0 := zp_1 c_19
                refine lv_aload_n hx hb dX11_count_91 rfl (lv_at hl 5 rfl) ?_
                refine va_get (D := (dC, dI)) (ci := 9) (v := .ref (a 11)) (C := RX11) (T := TX11) (N := 55) hx hb hts inX11 hown hK hP 0 rfl rfl 11 (Nat.le_of_ble_eq_true rfl) (hts _ mw_1170) (fun _ h9 => h9) rfl dX11_count_92 ?_
                refine lv_iload hx hb dX11_count_95 (lv_at hl 3 rfl) ?_
                refine z_iald hx hb hK hP 3 0 rfl rfl (e := q) rfl b9_4 (Nat.le_of_ble_eq_true rfl) dX11_count_97 ?_
                refine zz_i (v := nI (nN (mn q))) ((hmw q (by first | with_reducible assumption | assumption)).1) ?_
                refine lv_goto (tgt := 102) hx hb dX11_count_98 rfl ?_
                refine lv_iadd hx hb dX11_count_102 ?_
                refine zz_i (v := nI ((smP (lvF ft st tn) (fun g => nN (mn g)) q) + (nN (mn q)))) (nI_add (smP (lvF ft st tn) (fun g => nN (mn g)) q) (nN (mn q))) ?_
                refine lv_istore (lv' := [(5, .int (nI ((smP (lvF ft st tn) (fun g => nN (mn g)) q) + (nN (mn q))))), (4, .int (nI ((cntP (fun g => ¬ (tn g).toInt = 0) q) + 1))), (3, .int (nI ((cntP (fun g => (st g).toInt = 2) q) + 1))), (2, .int (nI ((cntP (fun g => (st g).toInt = 1) q) + 1))), (6, .int (nI q)), (0, .ref k0), (1, .int 2)]) hx hb dX11_count_103 hl (Nat.le_of_ble_eq_true rfl) rfl (fun ls hl => ?_)
                refine lv_iinc (v := nI (q + 1)) (lv' := [(6, .int (nI (q + 1))), (5, .int (nI ((smP (lvF ft st tn) (fun g => nN (mn g)) q) + (nN (mn q))))), (4, .int (nI ((cntP (fun g => ¬ (tn g).toInt = 0) q) + 1))), (3, .int (nI ((cntP (fun g => (st g).toInt = 2) q) + 1))), (2, .int (nI ((cntP (fun g => (st g).toInt = 1) q) + 1))), (0, .ref k0), (1, .int 2)]) hx hb dX11_count_105 hl (k := 4) rfl (nI_add q 1) (Nat.le_of_ble_eq_true rfl) rfl (fun ls hl => ?_)
                refine lv_goto (tgt := 13) hx hb dX11_count_108 rfl ?_
                have hl9 := lv_sub hl [0, 1, 2, 3, 4, 5, 6] rfl
                have e9_2 : nI (cntP (fun g => (st g).toInt = 1) (q + 1)) = (nI ((cntP (fun g => (st g).toInt = 1) q) + 1) : Int32) := by first | exact congrArg nI (cntP_y (P := fun g => (st g).toInt = 1) (show (st q).toInt = 1 by omega)) | exact congrArg nI (cntP_n0 (P := fun g => (st g).toInt = 1) (show ¬ (st q).toInt = 1 by omega))
                have e9_3 : nI (cntP (fun g => (st g).toInt = 2) (q + 1)) = (nI ((cntP (fun g => (st g).toInt = 2) q) + 1) : Int32) := by first | exact congrArg nI (cntP_y (P := fun g => (st g).toInt = 2) (show (st q).toInt = 2 by omega)) | exact congrArg nI (cntP_n0 (P := fun g => (st g).toInt = 2) (show ¬ (st q).toInt = 2 by omega))
                have e9_4 : nI (cntP (fun g => ¬ (tn g).toInt = 0) (q + 1)) = (nI ((cntP (fun g => ¬ (tn g).toInt = 0) q) + 1) : Int32) := by first | exact congrArg nI (cntP_y (P := fun g => ¬ (tn g).toInt = 0) (show ¬ (tn q).toInt = 0 by omega)) | exact congrArg nI (cntP_n0 (P := fun g => ¬ (tn g).toInt = 0) (show ¬ ¬ (tn q).toInt = 0 by omega))
                have e9_5 : nI (smP (lvF ft st tn) (fun g => nN (mn g)) (q + 1)) = (nI ((smP (lvF ft st tn) (fun g => nN (mn g)) q) + (nN (mn q))) : Int32) := by first | exact congrArg nI (smP_y (P := lvF ft st tn) (by first | with_reducible assumption | assumption)) | exact congrArg nI (smP_n (P := lvF ft st tn) (by first | with_reducible assumption | assumption))
                have hl9 : lv_has ls 7 [(6, .int (nI (q + 1))), (5, .int (nI (smP (lvF ft st tn) (fun g => nN (mn g)) (q + 1)))), (4, .int (nI (cntP (fun g => ¬ (tn g).toInt = 0) (q + 1)))), (3, .int (nI (cntP (fun g => (st g).toInt = 2) (q + 1)))), (2, .int (nI (cntP (fun g => (st g).toInt = 1) (q + 1)))), (0, .ref k0), (1, .int 2)] := by rw [e9_2]; rw [e9_3]; rw [e9_4]; rw [e9_5]; exact hl9
                exact ih_13 (q + 1) H locs ls (by first | with_reducible assumption | omega) (by first | with_reducible assumption | omega) hP hD hS hl9
  have e9_2 : nI (cntP (fun g => (st g).toInt = 1) 0) = (0 : Int32) := by rfl
  have e9_3 : nI (cntP (fun g => (st g).toInt = 2) 0) = (0 : Int32) := by rfl
  have e9_4 : nI (cntP (fun g => ¬ (tn g).toInt = 0) 0) = (0 : Int32) := by rfl
  have e9_5 : nI (smP (lvF ft st tn) (fun g => nN (mn g)) 0) = (0 : Int32) := by rfl
  have hl9 : lv_has ls 7 [(6, .int (nI 0)), (5, .int (nI (smP (lvF ft st tn) (fun g => nN (mn g)) 0))), (4, .int (nI (cntP (fun g => ¬ (tn g).toInt = 0) 0))), (3, .int (nI (cntP (fun g => (st g).toInt = 2) 0))), (2, .int (nI (cntP (fun g => (st g).toInt = 1) 0))), (0, .ref k0), (1, .int 2)] := by rw [e9_2]; rw [e9_3]; rw [e9_4]; rw [e9_5]; exact lv_sub hl [0, 1, 2, 3, 4, 5, 6] rfl
  exact hl_13 _ 0 s.heap [] ls (Nat.lt_succ_self _) (by first | with_reducible assumption | omega) hP hD hS hl9
set_option maxHeartbeats 4000000 in
set_option maxRecDepth 100000 in
theorem k_M_count_3 (l : Launch) (dC : Nat → ClassId) (dI : Nat → Nat → Nat) (cI cZ cF : ClassId) (sz : Nat) (k0 : Nat) (a : Nat → Nat) (I0 : Nat → Int32) (J0 : Nat → Int64) (ft : Nat) (st : Nat → Int32) (tn : Nat → Int32) (mn : Nat → Int32) (hft : I0 0 = nI ft) (h200 : ft ≤ 200) (hmw : ∀ q, lvF ft st tn q → mn q = nI (nN (mn q)) ∧ nN (mn q) ≤ 40) : zM l yX11_count cX11_count 7 (some .int) ({ frames := 2, cells := 0, slots := 0, locals := 42 } : Room) [.ref k0, .int 3] (dC, dI) (zTy cI cZ cF) [(om k0 a I0 J0), (oa (a 5) cI 201 st), (oa (a 6) cZ 201 tn), (oa (a 11) cI 201 mn)] sz (some (.int (nI (cntP (fun g => ¬ (tn g).toInt = 0) ft)))) (fun A t => zPD (dC, dI) classes A [(om k0 a I0 J0), (oa (a 5) cI 201 st), (oa (a 6) cZ 201 tn), (oa (a 11) cI 201 mn)] t.heap) 0 0 := by
  refine zIn (own := "ScaleShopModel") (loc := [(0, .ref k0), (1, .int 3)]) rfl rfl rfl rfl (fun p e s m below meth c hx hb hr hts hown hlocks hml hnm9 A hA hS hP hD hK hXN Q9 hQ9 ls hl => ?_)
  refine lv_iconst (v := 0) hx hb dX11_count_0 rfl ?_
  refine lv_istore_n (lv' := [(2, .int 0), (0, .ref k0), (1, .int 3)]) hx hb dX11_count_1 rfl hl (Nat.le_of_ble_eq_true rfl) rfl (fun ls hl => ?_)
  refine lv_iconst (v := 0) hx hb dX11_count_2 rfl ?_
  refine lv_istore_n (lv' := [(3, .int 0), (2, .int 0), (0, .ref k0), (1, .int 3)]) hx hb dX11_count_3 rfl hl (Nat.le_of_ble_eq_true rfl) rfl (fun ls hl => ?_)
  refine lv_iconst (v := 0) hx hb dX11_count_4 rfl ?_
  refine lv_istore (lv' := [(4, .int 0), (3, .int 0), (2, .int 0), (0, .ref k0), (1, .int 3)]) hx hb dX11_count_5 hl (Nat.le_of_ble_eq_true rfl) rfl (fun ls hl => ?_)
  refine lv_iconst (v := 0) hx hb dX11_count_7 rfl ?_
  refine lv_istore (lv' := [(5, .int 0), (4, .int 0), (3, .int 0), (2, .int 0), (0, .ref k0), (1, .int 3)]) hx hb dX11_count_8 hl (Nat.le_of_ble_eq_true rfl) rfl (fun ls hl => ?_)
  refine lv_iconst (v := 0) hx hb dX11_count_10 rfl ?_
  refine lv_istore (lv' := [(6, .int 0), (5, .int 0), (4, .int 0), (3, .int 0), (2, .int 0), (0, .ref k0), (1, .int 3)]) hx hb dX11_count_11 hl (Nat.le_of_ble_eq_true rfl) rfl (fun ls hl => ?_)
  have hl_13 : ∀ (n9 : Nat) (q : Nat) (H : Heap) (locs : List Loc) (ls : Array Slot), ft - q < n9 → (q ≤ ft) → va_P (dC, dI) classes [(om k0 a I0 J0), (oa (a 5) cI 201 st), (oa (a 6) cZ 201 tn), (oa (a 11) cI 201 mn)] H → va_D A [(om k0 a I0 J0), (oa (a 5) cI 201 st), (oa (a 6) cZ 201 tn), (oa (a 11) cI 201 mn)] → va_S A s.heap H locs → lv_has ls 7 [(6, .int (nI q)), (5, .int (nI (smP (lvF ft st tn) (fun g => nN (mn g)) q))), (4, .int (nI (cntP (fun g => ¬ (tn g).toInt = 0) q))), (3, .int (nI (cntP (fun g => (st g).toInt = 2) q))), (2, .int (nI (cntP (fun g => (st g).toInt = 1) q))), (0, .ref k0), (1, .int 3)] → W p l e ({ frames := 2, cells := 0, slots := 0, locals := 42 } : Room) s m ([.ref k0, .int 3] : List Value).toArray below meth c H locs 0 0 Q9 (F0 m 13 ls []) := by
    intro n9
    induction n9 with
    | zero => intro q H locs ls hm; exact absurd hm (Nat.not_lt_zero _)
    | succ n9 ih_13 =>
      intro q H locs ls hm hq hP hD hS hl
      have hc2 := cntP_b (fun g => (st g).toInt = 1) q
      have hc3 := cntP_b (fun g => (st g).toInt = 2) q
      have hc4 := cntP_b (fun g => ¬ (tn g).toInt = 0) q
      have hc5 := smP_b (P := lvF ft st tn) (c := fun g => nN (mn g)) q (fun j _ h => (hmw j h).2)
      refine lv_iload hx hb dX11_count_13 (lv_at hl 0 rfl) ?_
      refine lv_aload_n hx hb dX11_count_15 rfl (lv_at hl 5 rfl) ?_
      refine va_get (D := (dC, dI)) (ci := 9) (v := .int (I0 0)) (C := RX11) (T := TX11) (N := 55) hx hb hts inX11 hown hK hP 0 rfl rfl 0 (Nat.le_of_ble_eq_true rfl) (hts _ mw_1159) (fun _ h9 => h9) rfl dX11_count_16 ?_
      refine zz_i (v := nI ft) (hft) ?_
      have b9_2 : zlt (q) := show q < 2147483648 by omega
      have b9_3 : zlt (ft) := show ft < 2147483648 by omega
      refine lv_icmp_ge (tgt := 111) hx hb dX11_count_19 rfl (fun c_1 => ?_) (fun c_1 => ?_)
      · have c_1 : ((ft : Nat) : Int) ≤ ((q : Nat) : Int) := zc_le (nI_toInt b9_3) (nI_toInt b9_2) c_1
        refine lv_iload_n hx hb dX11_count_111 rfl (lv_at hl 6 rfl) ?_
        refine lv_tableIn (tgt := 169) (off := 57) hx hb dX11_count_112 (by decide) (by decide) (by decide) (by decide) ?_
        refine lv_iload hx hb dX11_count_169 (lv_at hl 2 rfl) ?_
        obtain ⟨hP9, hD9⟩ := zu_sub (wc := [_, _, _, _]) hP hD [true, true, true, true] rfl rfl
        rw [hQ9]
        exact W.iret (v := nI (cntP (fun g => ¬ (tn g).toInt = 0) q)) hx hb hr (fun t ht hW => ⟨⟨congrArg (fun z => Outcome.returned (some (Value.int z))) (show (nI (cntP (fun g => ¬ (tn g).toInt = 0) q) : Int32) = nI (cntP (fun g => ¬ (tn g).toInt = 0) ft) from zn_eq (by rw [show q = ft by omega])), by rw [ht]; exact hP9, hD9⟩, hS.F ht⟩) hS.2.2 dX11_count_171
      · have c_1 : ((q : Nat) : Int) < ((ft : Nat) : Int) := zc_nle (nI_toInt b9_3) (nI_toInt b9_2) c_1
        refine lv_iload_n hx hb dX11_count_22 rfl (lv_at hl 4 rfl) ?_
        refine lv_aload_n hx hb dX11_count_23 rfl (lv_at hl 5 rfl) ?_
        refine va_get (D := (dC, dI)) (ci := 9) (v := .ref (a 5)) (C := RX11) (T := TX11) (N := 55) hx hb hts inX11 hown hK hP 0 rfl rfl 5 (Nat.le_of_ble_eq_true rfl) (hts _ mw_1164) (fun _ h9 => h9) rfl dX11_count_24 ?_
        refine lv_iload hx hb dX11_count_27 (lv_at hl 0 rfl) ?_
        have b9_4 : q < 201 := by omega
        refine z_iald hx hb hK hP 1 0 rfl rfl (e := q) rfl b9_4 (Nat.le_of_ble_eq_true rfl) dX11_count_29 ?_
        refine lv_iconst (v := 1) hx hb dX11_count_30 rfl ?_
        refine lv_icmp_ne (tgt := 38) hx hb dX11_count_31 rfl (fun c_5 => ?_) (fun c_5 => ?_)
        · have c_5 : ¬ (st q).toInt = 1 := zc_ne rfl rfl c_5
          refine lv_iconst (v := 0) hx hb dX11_count_38 rfl ?_
          refine lv_iadd hx hb dX11_count_39 ?_
          refine zz_i (v := nI ((cntP (fun g => (st g).toInt = 1) q) + 0)) (nI_add (cntP (fun g => (st g).toInt = 1) q) 0) ?_
          refine lv_istore_n (lv' := [(2, .int (nI ((cntP (fun g => (st g).toInt = 1) q) + 0))), (6, .int (nI q)), (5, .int (nI (smP (lvF ft st tn) (fun g => nN (mn g)) q))), (4, .int (nI (cntP (fun g => ¬ (tn g).toInt = 0) q))), (3, .int (nI (cntP (fun g => (st g).toInt = 2) q))), (0, .ref k0), (1, .int 3)]) hx hb dX11_count_40 rfl hl (Nat.le_of_ble_eq_true rfl) rfl (fun ls hl => ?_)
          refine lv_iload_n hx hb dX11_count_41 rfl (lv_at hl 4 rfl) ?_
          refine lv_aload_n hx hb dX11_count_42 rfl (lv_at hl 5 rfl) ?_
          refine va_get (D := (dC, dI)) (ci := 9) (v := .ref (a 5)) (C := RX11) (T := TX11) (N := 55) hx hb hts inX11 hown hK hP 0 rfl rfl 5 (Nat.le_of_ble_eq_true rfl) (hts _ mw_1164) (fun _ h9 => h9) rfl dX11_count_43 ?_
          refine lv_iload hx hb dX11_count_46 (lv_at hl 1 rfl) ?_
          refine z_iald hx hb hK hP 1 0 rfl rfl (e := q) rfl b9_4 (Nat.le_of_ble_eq_true rfl) dX11_count_48 ?_
          refine lv_iconst (v := 2) hx hb dX11_count_49 rfl ?_
          refine lv_icmp_ne (tgt := 57) hx hb dX11_count_50 rfl (fun c_6 => ?_) (fun c_6 => ?_)
          · have c_6 : ¬ (st q).toInt = 2 := zc_ne rfl rfl c_6
            refine lv_iconst (v := 0) hx hb dX11_count_57 rfl ?_
            refine lv_iadd hx hb dX11_count_58 ?_
            refine zz_i (v := nI ((cntP (fun g => (st g).toInt = 2) q) + 0)) (nI_add (cntP (fun g => (st g).toInt = 2) q) 0) ?_
            refine lv_istore_n (lv' := [(3, .int (nI ((cntP (fun g => (st g).toInt = 2) q) + 0))), (2, .int (nI ((cntP (fun g => (st g).toInt = 1) q) + 0))), (6, .int (nI q)), (5, .int (nI (smP (lvF ft st tn) (fun g => nN (mn g)) q))), (4, .int (nI (cntP (fun g => ¬ (tn g).toInt = 0) q))), (0, .ref k0), (1, .int 3)]) hx hb dX11_count_59 rfl hl (Nat.le_of_ble_eq_true rfl) rfl (fun ls hl => ?_)
            refine lv_iload hx hb dX11_count_60 (lv_at hl 4 rfl) ?_
            refine lv_aload_n hx hb dX11_count_62 rfl (lv_at hl 5 rfl) ?_
            refine va_get (D := (dC, dI)) (ci := 9) (v := .ref (a 6)) (C := RX11) (T := TX11) (N := 55) hx hb hts inX11 hown hK hP 0 rfl rfl 6 (Nat.le_of_ble_eq_true rfl) (hts _ mw_1165) (fun _ h9 => h9) rfl dX11_count_63 ?_
            refine lv_iload hx hb dX11_count_66 (lv_at hl 2 rfl) ?_
            refine z_zald hx hb hK hP 2 1 rfl rfl (e := q) rfl b9_4 (Nat.le_of_ble_eq_true rfl) dX11_count_68 ?_
            refine lv_if_eq (tgt := 76) hx hb dX11_count_69 rfl (fun c_7 => ?_) (fun c_7 => ?_)
            · have c_7 : (tn q).toInt = 0 := zc_eq rfl rfl c_7
              refine lv_iconst (v := 0) hx hb dX11_count_76 rfl ?_
              refine lv_iadd hx hb dX11_count_77 ?_
              refine zz_i (v := nI ((cntP (fun g => ¬ (tn g).toInt = 0) q) + 0)) (nI_add (cntP (fun g => ¬ (tn g).toInt = 0) q) 0) ?_
              refine lv_istore (lv' := [(4, .int (nI ((cntP (fun g => ¬ (tn g).toInt = 0) q) + 0))), (3, .int (nI ((cntP (fun g => (st g).toInt = 2) q) + 0))), (2, .int (nI ((cntP (fun g => (st g).toInt = 1) q) + 0))), (6, .int (nI q)), (5, .int (nI (smP (lvF ft st tn) (fun g => nN (mn g)) q))), (0, .ref k0), (1, .int 3)]) hx hb dX11_count_78 hl (Nat.le_of_ble_eq_true rfl) rfl (fun ls hl => ?_)
              refine lv_iload hx hb dX11_count_80 (lv_at hl 4 rfl) ?_
              refine lv_aload_n hx hb dX11_count_82 rfl (lv_at hl 5 rfl) ?_
              refine lv_iload hx hb dX11_count_83 (lv_at hl 3 rfl) ?_
              obtain ⟨hPc, hDc, hFc, hI1⟩ := zi_sub (wc := [_, _, _]) hP hD hS hA [0, 1, 2] rfl rfl
              refine zcall (st1 := [.int (pI (q < ft ∧ (st q).toInt = 1 ∧ (tn q).toInt = 0)), .int (nI (smP (lvF ft st tn) (fun g => nN (mn g)) q))]) (va_runV (As := [.int (nI q)]) (rest := [.int (nI (smP (lvF ft st tn) (fun g => nN (mn g)) q))]) ⟨hx, hb, hml, hown, hts⟩ (k_M_is_n l dC dI cI cZ cF H.size k0 a I0 J0 q ft st tn (by first | with_reducible assumption | assumption) (by first | with_reducible assumption | omega) (by first | with_reducible assumption | omega)) (csV_179 hts rfl rfl ⟨Nat.le_of_ble_eq_true rfl, Nat.le_of_ble_eq_true rfl⟩) (zPV2 (q0 := 0) (ci := 9) hPc hDc hK hXN rfl rfl) rfl rfl hl.1 rfl (lv_room (Nat.le_of_ble_eq_true rfl)) dX11_count_85 ⟨Nat.le_of_ble_eq_true rfl, Nat.le_of_ble_eq_true rfl⟩) hS hFc hFc rfl (fun t H locs ht hB hk1 hS => ?_)
              obtain ⟨hP1, hD1⟩ := hB
              rw [ht] at hP1
              replace hP := z0 hP hD hk1 hP1 hI1
              clear hk1 hPc hDc hFc hP1 hD1 ht hI1
              refine lv_if_eq (tgt := 101) hx hb dX11_count_88 rfl (fun c_8 => ?_) (fun c_8 => ?_)
              · have c_8 : ¬ (q < ft ∧ (st q).toInt = 1 ∧ (tn q).toInt = 0) := zp_0 c_8
                refine lv_iconst (v := 0) hx hb dX11_count_101 rfl ?_
                refine lv_iadd hx hb dX11_count_102 ?_
                refine zz_i (v := nI ((smP (lvF ft st tn) (fun g => nN (mn g)) q) + 0)) (nI_add (smP (lvF ft st tn) (fun g => nN (mn g)) q) 0) ?_
                refine lv_istore (lv' := [(5, .int (nI ((smP (lvF ft st tn) (fun g => nN (mn g)) q) + 0))), (4, .int (nI ((cntP (fun g => ¬ (tn g).toInt = 0) q) + 0))), (3, .int (nI ((cntP (fun g => (st g).toInt = 2) q) + 0))), (2, .int (nI ((cntP (fun g => (st g).toInt = 1) q) + 0))), (6, .int (nI q)), (0, .ref k0), (1, .int 3)]) hx hb dX11_count_103 hl (Nat.le_of_ble_eq_true rfl) rfl (fun ls hl => ?_)
                refine lv_iinc (v := nI (q + 1)) (lv' := [(6, .int (nI (q + 1))), (5, .int (nI ((smP (lvF ft st tn) (fun g => nN (mn g)) q) + 0))), (4, .int (nI ((cntP (fun g => ¬ (tn g).toInt = 0) q) + 0))), (3, .int (nI ((cntP (fun g => (st g).toInt = 2) q) + 0))), (2, .int (nI ((cntP (fun g => (st g).toInt = 1) q) + 0))), (0, .ref k0), (1, .int 3)]) hx hb dX11_count_105 hl (k := 4) rfl (nI_add q 1) (Nat.le_of_ble_eq_true rfl) rfl (fun ls hl => ?_)
                refine lv_goto (tgt := 13) hx hb dX11_count_108 rfl ?_
                have hl9 := lv_sub hl [0, 1, 2, 3, 4, 5, 6] rfl
                have e9_2 : nI (cntP (fun g => (st g).toInt = 1) (q + 1)) = (nI ((cntP (fun g => (st g).toInt = 1) q) + 0) : Int32) := by first | exact congrArg nI (cntP_y (P := fun g => (st g).toInt = 1) (show (st q).toInt = 1 by omega)) | exact congrArg nI (cntP_n0 (P := fun g => (st g).toInt = 1) (show ¬ (st q).toInt = 1 by omega))
                have e9_3 : nI (cntP (fun g => (st g).toInt = 2) (q + 1)) = (nI ((cntP (fun g => (st g).toInt = 2) q) + 0) : Int32) := by first | exact congrArg nI (cntP_y (P := fun g => (st g).toInt = 2) (show (st q).toInt = 2 by omega)) | exact congrArg nI (cntP_n0 (P := fun g => (st g).toInt = 2) (show ¬ (st q).toInt = 2 by omega))
                have e9_4 : nI (cntP (fun g => ¬ (tn g).toInt = 0) (q + 1)) = (nI ((cntP (fun g => ¬ (tn g).toInt = 0) q) + 0) : Int32) := by first | exact congrArg nI (cntP_y (P := fun g => ¬ (tn g).toInt = 0) (show ¬ (tn q).toInt = 0 by omega)) | exact congrArg nI (cntP_n0 (P := fun g => ¬ (tn g).toInt = 0) (show ¬ ¬ (tn q).toInt = 0 by omega))
                have e9_5 : nI (smP (lvF ft st tn) (fun g => nN (mn g)) (q + 1)) = (nI ((smP (lvF ft st tn) (fun g => nN (mn g)) q) + 0) : Int32) := by first | exact congrArg nI (smP_y (P := lvF ft st tn) (by first | with_reducible assumption | assumption)) | exact congrArg nI (smP_n (P := lvF ft st tn) (by first | with_reducible assumption | assumption))
                have hl9 : lv_has ls 7 [(6, .int (nI (q + 1))), (5, .int (nI (smP (lvF ft st tn) (fun g => nN (mn g)) (q + 1)))), (4, .int (nI (cntP (fun g => ¬ (tn g).toInt = 0) (q + 1)))), (3, .int (nI (cntP (fun g => (st g).toInt = 2) (q + 1)))), (2, .int (nI (cntP (fun g => (st g).toInt = 1) (q + 1)))), (0, .ref k0), (1, .int 3)] := by rw [e9_2]; rw [e9_3]; rw [e9_4]; rw [e9_5]; exact hl9
                exact ih_13 (q + 1) H locs ls (by first | with_reducible assumption | omega) (by first | with_reducible assumption | omega) hP hD hS hl9
              · have c_8 : q < ft ∧ (st q).toInt = 1 ∧ (tn q).toInt = 0 := zp_1 c_8
                refine lv_aload_n hx hb dX11_count_91 rfl (lv_at hl 5 rfl) ?_
                refine va_get (D := (dC, dI)) (ci := 9) (v := .ref (a 11)) (C := RX11) (T := TX11) (N := 55) hx hb hts inX11 hown hK hP 0 rfl rfl 11 (Nat.le_of_ble_eq_true rfl) (hts _ mw_1170) (fun _ h9 => h9) rfl dX11_count_92 ?_
                refine lv_iload hx hb dX11_count_95 (lv_at hl 3 rfl) ?_
                refine z_iald hx hb hK hP 3 0 rfl rfl (e := q) rfl b9_4 (Nat.le_of_ble_eq_true rfl) dX11_count_97 ?_
                refine zz_i (v := nI (nN (mn q))) ((hmw q (by first | with_reducible assumption | assumption)).1) ?_
                refine lv_goto (tgt := 102) hx hb dX11_count_98 rfl ?_
                refine lv_iadd hx hb dX11_count_102 ?_
                refine zz_i (v := nI ((smP (lvF ft st tn) (fun g => nN (mn g)) q) + (nN (mn q)))) (nI_add (smP (lvF ft st tn) (fun g => nN (mn g)) q) (nN (mn q))) ?_
                refine lv_istore (lv' := [(5, .int (nI ((smP (lvF ft st tn) (fun g => nN (mn g)) q) + (nN (mn q))))), (4, .int (nI ((cntP (fun g => ¬ (tn g).toInt = 0) q) + 0))), (3, .int (nI ((cntP (fun g => (st g).toInt = 2) q) + 0))), (2, .int (nI ((cntP (fun g => (st g).toInt = 1) q) + 0))), (6, .int (nI q)), (0, .ref k0), (1, .int 3)]) hx hb dX11_count_103 hl (Nat.le_of_ble_eq_true rfl) rfl (fun ls hl => ?_)
                refine lv_iinc (v := nI (q + 1)) (lv' := [(6, .int (nI (q + 1))), (5, .int (nI ((smP (lvF ft st tn) (fun g => nN (mn g)) q) + (nN (mn q))))), (4, .int (nI ((cntP (fun g => ¬ (tn g).toInt = 0) q) + 0))), (3, .int (nI ((cntP (fun g => (st g).toInt = 2) q) + 0))), (2, .int (nI ((cntP (fun g => (st g).toInt = 1) q) + 0))), (0, .ref k0), (1, .int 3)]) hx hb dX11_count_105 hl (k := 4) rfl (nI_add q 1) (Nat.le_of_ble_eq_true rfl) rfl (fun ls hl => ?_)
                refine lv_goto (tgt := 13) hx hb dX11_count_108 rfl ?_
                have hl9 := lv_sub hl [0, 1, 2, 3, 4, 5, 6] rfl
                have e9_2 : nI (cntP (fun g => (st g).toInt = 1) (q + 1)) = (nI ((cntP (fun g => (st g).toInt = 1) q) + 0) : Int32) := by first | exact congrArg nI (cntP_y (P := fun g => (st g).toInt = 1) (show (st q).toInt = 1 by omega)) | exact congrArg nI (cntP_n0 (P := fun g => (st g).toInt = 1) (show ¬ (st q).toInt = 1 by omega))
                have e9_3 : nI (cntP (fun g => (st g).toInt = 2) (q + 1)) = (nI ((cntP (fun g => (st g).toInt = 2) q) + 0) : Int32) := by first | exact congrArg nI (cntP_y (P := fun g => (st g).toInt = 2) (show (st q).toInt = 2 by omega)) | exact congrArg nI (cntP_n0 (P := fun g => (st g).toInt = 2) (show ¬ (st q).toInt = 2 by omega))
                have e9_4 : nI (cntP (fun g => ¬ (tn g).toInt = 0) (q + 1)) = (nI ((cntP (fun g => ¬ (tn g).toInt = 0) q) + 0) : Int32) := by first | exact congrArg nI (cntP_y (P := fun g => ¬ (tn g).toInt = 0) (show ¬ (tn q).toInt = 0 by omega)) | exact congrArg nI (cntP_n0 (P := fun g => ¬ (tn g).toInt = 0) (show ¬ ¬ (tn q).toInt = 0 by omega))
                have e9_5 : nI (smP (lvF ft st tn) (fun g => nN (mn g)) (q + 1)) = (nI ((smP (lvF ft st tn) (fun g => nN (mn g)) q) + (nN (mn q))) : Int32) := by first | exact congrArg nI (smP_y (P := lvF ft st tn) (by first | with_reducible assumption | assumption)) | exact congrArg nI (smP_n (P := lvF ft st tn) (by first | with_reducible assumption | assumption))
                have hl9 : lv_has ls 7 [(6, .int (nI (q + 1))), (5, .int (nI (smP (lvF ft st tn) (fun g => nN (mn g)) (q + 1)))), (4, .int (nI (cntP (fun g => ¬ (tn g).toInt = 0) (q + 1)))), (3, .int (nI (cntP (fun g => (st g).toInt = 2) (q + 1)))), (2, .int (nI (cntP (fun g => (st g).toInt = 1) (q + 1)))), (0, .ref k0), (1, .int 3)] := by rw [e9_2]; rw [e9_3]; rw [e9_4]; rw [e9_5]; exact hl9
                exact ih_13 (q + 1) H locs ls (by first | with_reducible assumption | omega) (by first | with_reducible assumption | omega) hP hD hS hl9
            · have c_7 : ¬ (tn q).toInt = 0 := zc_ne rfl rfl c_7
              refine lv_iconst (v := 1) hx hb dX11_count_72 rfl ?_
              refine lv_goto (tgt := 77) hx hb dX11_count_73 rfl ?_
              refine lv_iadd hx hb dX11_count_77 ?_
              refine zz_i (v := nI ((cntP (fun g => ¬ (tn g).toInt = 0) q) + 1)) (nI_add (cntP (fun g => ¬ (tn g).toInt = 0) q) 1) ?_
              refine lv_istore (lv' := [(4, .int (nI ((cntP (fun g => ¬ (tn g).toInt = 0) q) + 1))), (3, .int (nI ((cntP (fun g => (st g).toInt = 2) q) + 0))), (2, .int (nI ((cntP (fun g => (st g).toInt = 1) q) + 0))), (6, .int (nI q)), (5, .int (nI (smP (lvF ft st tn) (fun g => nN (mn g)) q))), (0, .ref k0), (1, .int 3)]) hx hb dX11_count_78 hl (Nat.le_of_ble_eq_true rfl) rfl (fun ls hl => ?_)
              refine lv_iload hx hb dX11_count_80 (lv_at hl 4 rfl) ?_
              refine lv_aload_n hx hb dX11_count_82 rfl (lv_at hl 5 rfl) ?_
              refine lv_iload hx hb dX11_count_83 (lv_at hl 3 rfl) ?_
              obtain ⟨hPc, hDc, hFc, hI1⟩ := zi_sub (wc := [_, _, _]) hP hD hS hA [0, 1, 2] rfl rfl
              refine zcall (st1 := [.int (pI (q < ft ∧ (st q).toInt = 1 ∧ (tn q).toInt = 0)), .int (nI (smP (lvF ft st tn) (fun g => nN (mn g)) q))]) (va_runV (As := [.int (nI q)]) (rest := [.int (nI (smP (lvF ft st tn) (fun g => nN (mn g)) q))]) ⟨hx, hb, hml, hown, hts⟩ (k_M_is_n l dC dI cI cZ cF H.size k0 a I0 J0 q ft st tn (by first | with_reducible assumption | assumption) (by first | with_reducible assumption | omega) (by first | with_reducible assumption | omega)) (csV_179 hts rfl rfl ⟨Nat.le_of_ble_eq_true rfl, Nat.le_of_ble_eq_true rfl⟩) (zPV2 (q0 := 0) (ci := 9) hPc hDc hK hXN rfl rfl) rfl rfl hl.1 rfl (lv_room (Nat.le_of_ble_eq_true rfl)) dX11_count_85 ⟨Nat.le_of_ble_eq_true rfl, Nat.le_of_ble_eq_true rfl⟩) hS hFc hFc rfl (fun t H locs ht hB hk1 hS => ?_)
              obtain ⟨hP1, hD1⟩ := hB
              rw [ht] at hP1
              replace hP := z0 hP hD hk1 hP1 hI1
              clear hk1 hPc hDc hFc hP1 hD1 ht hI1
              refine lv_if_eq (tgt := 101) hx hb dX11_count_88 rfl (fun c_9 => ?_) (fun c_9 => ?_)
              · have c_9 : ¬ (q < ft ∧ (st q).toInt = 1 ∧ (tn q).toInt = 0) := zp_0 c_9
                refine lv_iconst (v := 0) hx hb dX11_count_101 rfl ?_
                refine lv_iadd hx hb dX11_count_102 ?_
                refine zz_i (v := nI ((smP (lvF ft st tn) (fun g => nN (mn g)) q) + 0)) (nI_add (smP (lvF ft st tn) (fun g => nN (mn g)) q) 0) ?_
                refine lv_istore (lv' := [(5, .int (nI ((smP (lvF ft st tn) (fun g => nN (mn g)) q) + 0))), (4, .int (nI ((cntP (fun g => ¬ (tn g).toInt = 0) q) + 1))), (3, .int (nI ((cntP (fun g => (st g).toInt = 2) q) + 0))), (2, .int (nI ((cntP (fun g => (st g).toInt = 1) q) + 0))), (6, .int (nI q)), (0, .ref k0), (1, .int 3)]) hx hb dX11_count_103 hl (Nat.le_of_ble_eq_true rfl) rfl (fun ls hl => ?_)
                refine lv_iinc (v := nI (q + 1)) (lv' := [(6, .int (nI (q + 1))), (5, .int (nI ((smP (lvF ft st tn) (fun g => nN (mn g)) q) + 0))), (4, .int (nI ((cntP (fun g => ¬ (tn g).toInt = 0) q) + 1))), (3, .int (nI ((cntP (fun g => (st g).toInt = 2) q) + 0))), (2, .int (nI ((cntP (fun g => (st g).toInt = 1) q) + 0))), (0, .ref k0), (1, .int 3)]) hx hb dX11_count_105 hl (k := 4) rfl (nI_add q 1) (Nat.le_of_ble_eq_true rfl) rfl (fun ls hl => ?_)
                refine lv_goto (tgt := 13) hx hb dX11_count_108 rfl ?_
                have hl9 := lv_sub hl [0, 1, 2, 3, 4, 5, 6] rfl
                have e9_2 : nI (cntP (fun g => (st g).toInt = 1) (q + 1)) = (nI ((cntP (fun g => (st g).toInt = 1) q) + 0) : Int32) := by first | exact congrArg nI (cntP_y (P := fun g => (st g).toInt = 1) (show (st q).toInt = 1 by omega)) | exact congrArg nI (cntP_n0 (P := fun g => (st g).toInt = 1) (show ¬ (st q).toInt = 1 by omega))
                have e9_3 : nI (cntP (fun g => (st g).toInt = 2) (q + 1)) = (nI ((cntP (fun g => (st g).toInt = 2) q) + 0) : Int32) := by first | exact congrArg nI (cntP_y (P := fun g => (st g).toInt = 2) (show (st q).toInt = 2 by omega)) | exact congrArg nI (cntP_n0 (P := fun g => (st g).toInt = 2) (show ¬ (st q).toInt = 2 by omega))
                have e9_4 : nI (cntP (fun g => ¬ (tn g).toInt = 0) (q + 1)) = (nI ((cntP (fun g => ¬ (tn g).toInt = 0) q) + 1) : Int32) := by first | exact congrArg nI (cntP_y (P := fun g => ¬ (tn g).toInt = 0) (show ¬ (tn q).toInt = 0 by omega)) | exact congrArg nI (cntP_n0 (P := fun g => ¬ (tn g).toInt = 0) (show ¬ ¬ (tn q).toInt = 0 by omega))
                have e9_5 : nI (smP (lvF ft st tn) (fun g => nN (mn g)) (q + 1)) = (nI ((smP (lvF ft st tn) (fun g => nN (mn g)) q) + 0) : Int32) := by first | exact congrArg nI (smP_y (P := lvF ft st tn) (by first | with_reducible assumption | assumption)) | exact congrArg nI (smP_n (P := lvF ft st tn) (by first | with_reducible assumption | assumption))
                have hl9 : lv_has ls 7 [(6, .int (nI (q + 1))), (5, .int (nI (smP (lvF ft st tn) (fun g => nN (mn g)) (q + 1)))), (4, .int (nI (cntP (fun g => ¬ (tn g).toInt = 0) (q + 1)))), (3, .int (nI (cntP (fun g => (st g).toInt = 2) (q + 1)))), (2, .int (nI (cntP (fun g => (st g).toInt = 1) (q + 1)))), (0, .ref k0), (1, .int 3)] := by rw [e9_2]; rw [e9_3]; rw [e9_4]; rw [e9_5]; exact hl9
                exact ih_13 (q + 1) H locs ls (by first | with_reducible assumption | omega) (by first | with_reducible assumption | omega) hP hD hS hl9
              · have c_9 : q < ft ∧ (st q).toInt = 1 ∧ (tn q).toInt = 0 := zp_1 c_9
                refine lv_aload_n hx hb dX11_count_91 rfl (lv_at hl 5 rfl) ?_
                refine va_get (D := (dC, dI)) (ci := 9) (v := .ref (a 11)) (C := RX11) (T := TX11) (N := 55) hx hb hts inX11 hown hK hP 0 rfl rfl 11 (Nat.le_of_ble_eq_true rfl) (hts _ mw_1170) (fun _ h9 => h9) rfl dX11_count_92 ?_
                refine lv_iload hx hb dX11_count_95 (lv_at hl 3 rfl) ?_
                refine z_iald hx hb hK hP 3 0 rfl rfl (e := q) rfl b9_4 (Nat.le_of_ble_eq_true rfl) dX11_count_97 ?_
                refine zz_i (v := nI (nN (mn q))) ((hmw q (by first | with_reducible assumption | assumption)).1) ?_
                refine lv_goto (tgt := 102) hx hb dX11_count_98 rfl ?_
                refine lv_iadd hx hb dX11_count_102 ?_
                refine zz_i (v := nI ((smP (lvF ft st tn) (fun g => nN (mn g)) q) + (nN (mn q)))) (nI_add (smP (lvF ft st tn) (fun g => nN (mn g)) q) (nN (mn q))) ?_
                refine lv_istore (lv' := [(5, .int (nI ((smP (lvF ft st tn) (fun g => nN (mn g)) q) + (nN (mn q))))), (4, .int (nI ((cntP (fun g => ¬ (tn g).toInt = 0) q) + 1))), (3, .int (nI ((cntP (fun g => (st g).toInt = 2) q) + 0))), (2, .int (nI ((cntP (fun g => (st g).toInt = 1) q) + 0))), (6, .int (nI q)), (0, .ref k0), (1, .int 3)]) hx hb dX11_count_103 hl (Nat.le_of_ble_eq_true rfl) rfl (fun ls hl => ?_)
                refine lv_iinc (v := nI (q + 1)) (lv' := [(6, .int (nI (q + 1))), (5, .int (nI ((smP (lvF ft st tn) (fun g => nN (mn g)) q) + (nN (mn q))))), (4, .int (nI ((cntP (fun g => ¬ (tn g).toInt = 0) q) + 1))), (3, .int (nI ((cntP (fun g => (st g).toInt = 2) q) + 0))), (2, .int (nI ((cntP (fun g => (st g).toInt = 1) q) + 0))), (0, .ref k0), (1, .int 3)]) hx hb dX11_count_105 hl (k := 4) rfl (nI_add q 1) (Nat.le_of_ble_eq_true rfl) rfl (fun ls hl => ?_)
                refine lv_goto (tgt := 13) hx hb dX11_count_108 rfl ?_
                have hl9 := lv_sub hl [0, 1, 2, 3, 4, 5, 6] rfl
                have e9_2 : nI (cntP (fun g => (st g).toInt = 1) (q + 1)) = (nI ((cntP (fun g => (st g).toInt = 1) q) + 0) : Int32) := by first | exact congrArg nI (cntP_y (P := fun g => (st g).toInt = 1) (show (st q).toInt = 1 by omega)) | exact congrArg nI (cntP_n0 (P := fun g => (st g).toInt = 1) (show ¬ (st q).toInt = 1 by omega))
                have e9_3 : nI (cntP (fun g => (st g).toInt = 2) (q + 1)) = (nI ((cntP (fun g => (st g).toInt = 2) q) + 0) : Int32) := by first | exact congrArg nI (cntP_y (P := fun g => (st g).toInt = 2) (show (st q).toInt = 2 by omega)) | exact congrArg nI (cntP_n0 (P := fun g => (st g).toInt = 2) (show ¬ (st q).toInt = 2 by omega))
                have e9_4 : nI (cntP (fun g => ¬ (tn g).toInt = 0) (q + 1)) = (nI ((cntP (fun g => ¬ (tn g).toInt = 0) q) + 1) : Int32) := by first | exact congrArg nI (cntP_y (P := fun g => ¬ (tn g).toInt = 0) (show ¬ (tn q).toInt = 0 by omega)) | exact congrArg nI (cntP_n0 (P := fun g => ¬ (tn g).toInt = 0) (show ¬ ¬ (tn q).toInt = 0 by omega))
                have e9_5 : nI (smP (lvF ft st tn) (fun g => nN (mn g)) (q + 1)) = (nI ((smP (lvF ft st tn) (fun g => nN (mn g)) q) + (nN (mn q))) : Int32) := by first | exact congrArg nI (smP_y (P := lvF ft st tn) (by first | with_reducible assumption | assumption)) | exact congrArg nI (smP_n (P := lvF ft st tn) (by first | with_reducible assumption | assumption))
                have hl9 : lv_has ls 7 [(6, .int (nI (q + 1))), (5, .int (nI (smP (lvF ft st tn) (fun g => nN (mn g)) (q + 1)))), (4, .int (nI (cntP (fun g => ¬ (tn g).toInt = 0) (q + 1)))), (3, .int (nI (cntP (fun g => (st g).toInt = 2) (q + 1)))), (2, .int (nI (cntP (fun g => (st g).toInt = 1) (q + 1)))), (0, .ref k0), (1, .int 3)] := by rw [e9_2]; rw [e9_3]; rw [e9_4]; rw [e9_5]; exact hl9
                exact ih_13 (q + 1) H locs ls (by first | with_reducible assumption | omega) (by first | with_reducible assumption | omega) hP hD hS hl9
          · have c_6 : (st q).toInt = 2 := zc_eq rfl rfl c_6
            refine lv_iconst (v := 1) hx hb dX11_count_53 rfl ?_
            refine lv_goto (tgt := 58) hx hb dX11_count_54 rfl ?_
            refine lv_iadd hx hb dX11_count_58 ?_
            refine zz_i (v := nI ((cntP (fun g => (st g).toInt = 2) q) + 1)) (nI_add (cntP (fun g => (st g).toInt = 2) q) 1) ?_
            refine lv_istore_n (lv' := [(3, .int (nI ((cntP (fun g => (st g).toInt = 2) q) + 1))), (2, .int (nI ((cntP (fun g => (st g).toInt = 1) q) + 0))), (6, .int (nI q)), (5, .int (nI (smP (lvF ft st tn) (fun g => nN (mn g)) q))), (4, .int (nI (cntP (fun g => ¬ (tn g).toInt = 0) q))), (0, .ref k0), (1, .int 3)]) hx hb dX11_count_59 rfl hl (Nat.le_of_ble_eq_true rfl) rfl (fun ls hl => ?_)
            refine lv_iload hx hb dX11_count_60 (lv_at hl 4 rfl) ?_
            refine lv_aload_n hx hb dX11_count_62 rfl (lv_at hl 5 rfl) ?_
            refine va_get (D := (dC, dI)) (ci := 9) (v := .ref (a 6)) (C := RX11) (T := TX11) (N := 55) hx hb hts inX11 hown hK hP 0 rfl rfl 6 (Nat.le_of_ble_eq_true rfl) (hts _ mw_1165) (fun _ h9 => h9) rfl dX11_count_63 ?_
            refine lv_iload hx hb dX11_count_66 (lv_at hl 2 rfl) ?_
            refine z_zald hx hb hK hP 2 1 rfl rfl (e := q) rfl b9_4 (Nat.le_of_ble_eq_true rfl) dX11_count_68 ?_
            refine lv_if_eq (tgt := 76) hx hb dX11_count_69 rfl (fun c_10 => ?_) (fun c_10 => ?_)
            · have c_10 : (tn q).toInt = 0 := zc_eq rfl rfl c_10
              refine lv_iconst (v := 0) hx hb dX11_count_76 rfl ?_
              refine lv_iadd hx hb dX11_count_77 ?_
              refine zz_i (v := nI ((cntP (fun g => ¬ (tn g).toInt = 0) q) + 0)) (nI_add (cntP (fun g => ¬ (tn g).toInt = 0) q) 0) ?_
              refine lv_istore (lv' := [(4, .int (nI ((cntP (fun g => ¬ (tn g).toInt = 0) q) + 0))), (3, .int (nI ((cntP (fun g => (st g).toInt = 2) q) + 1))), (2, .int (nI ((cntP (fun g => (st g).toInt = 1) q) + 0))), (6, .int (nI q)), (5, .int (nI (smP (lvF ft st tn) (fun g => nN (mn g)) q))), (0, .ref k0), (1, .int 3)]) hx hb dX11_count_78 hl (Nat.le_of_ble_eq_true rfl) rfl (fun ls hl => ?_)
              refine lv_iload hx hb dX11_count_80 (lv_at hl 4 rfl) ?_
              refine lv_aload_n hx hb dX11_count_82 rfl (lv_at hl 5 rfl) ?_
              refine lv_iload hx hb dX11_count_83 (lv_at hl 3 rfl) ?_
              obtain ⟨hPc, hDc, hFc, hI1⟩ := zi_sub (wc := [_, _, _]) hP hD hS hA [0, 1, 2] rfl rfl
              refine zcall (st1 := [.int (pI (q < ft ∧ (st q).toInt = 1 ∧ (tn q).toInt = 0)), .int (nI (smP (lvF ft st tn) (fun g => nN (mn g)) q))]) (va_runV (As := [.int (nI q)]) (rest := [.int (nI (smP (lvF ft st tn) (fun g => nN (mn g)) q))]) ⟨hx, hb, hml, hown, hts⟩ (k_M_is_n l dC dI cI cZ cF H.size k0 a I0 J0 q ft st tn (by first | with_reducible assumption | assumption) (by first | with_reducible assumption | omega) (by first | with_reducible assumption | omega)) (csV_179 hts rfl rfl ⟨Nat.le_of_ble_eq_true rfl, Nat.le_of_ble_eq_true rfl⟩) (zPV2 (q0 := 0) (ci := 9) hPc hDc hK hXN rfl rfl) rfl rfl hl.1 rfl (lv_room (Nat.le_of_ble_eq_true rfl)) dX11_count_85 ⟨Nat.le_of_ble_eq_true rfl, Nat.le_of_ble_eq_true rfl⟩) hS hFc hFc rfl (fun t H locs ht hB hk1 hS => ?_)
              obtain ⟨hP1, hD1⟩ := hB
              rw [ht] at hP1
              replace hP := z0 hP hD hk1 hP1 hI1
              clear hk1 hPc hDc hFc hP1 hD1 ht hI1
              refine lv_if_eq (tgt := 101) hx hb dX11_count_88 rfl (fun c_11 => ?_) (fun c_11 => ?_)
              · have c_11 : ¬ (q < ft ∧ (st q).toInt = 1 ∧ (tn q).toInt = 0) := zp_0 c_11
                refine lv_iconst (v := 0) hx hb dX11_count_101 rfl ?_
                refine lv_iadd hx hb dX11_count_102 ?_
                refine zz_i (v := nI ((smP (lvF ft st tn) (fun g => nN (mn g)) q) + 0)) (nI_add (smP (lvF ft st tn) (fun g => nN (mn g)) q) 0) ?_
                refine lv_istore (lv' := [(5, .int (nI ((smP (lvF ft st tn) (fun g => nN (mn g)) q) + 0))), (4, .int (nI ((cntP (fun g => ¬ (tn g).toInt = 0) q) + 0))), (3, .int (nI ((cntP (fun g => (st g).toInt = 2) q) + 1))), (2, .int (nI ((cntP (fun g => (st g).toInt = 1) q) + 0))), (6, .int (nI q)), (0, .ref k0), (1, .int 3)]) hx hb dX11_count_103 hl (Nat.le_of_ble_eq_true rfl) rfl (fun ls hl => ?_)
                refine lv_iinc (v := nI (q + 1)) (lv' := [(6, .int (nI (q + 1))), (5, .int (nI ((smP (lvF ft st tn) (fun g => nN (mn g)) q) + 0))), (4, .int (nI ((cntP (fun g => ¬ (tn g).toInt = 0) q) + 0))), (3, .int (nI ((cntP (fun g => (st g).toInt = 2) q) + 1))), (2, .int (nI ((cntP (fun g => (st g).toInt = 1) q) + 0))), (0, .ref k0), (1, .int 3)]) hx hb dX11_count_105 hl (k := 4) rfl (nI_add q 1) (Nat.le_of_ble_eq_true rfl) rfl (fun ls hl => ?_)
                refine lv_goto (tgt := 13) hx hb dX11_count_108 rfl ?_
                have hl9 := lv_sub hl [0, 1, 2, 3, 4, 5, 6] rfl
                have e9_2 : nI (cntP (fun g => (st g).toInt = 1) (q + 1)) = (nI ((cntP (fun g => (st g).toInt = 1) q) + 0) : Int32) := by first | exact congrArg nI (cntP_y (P := fun g => (st g).toInt = 1) (show (st q).toInt = 1 by omega)) | exact congrArg nI (cntP_n0 (P := fun g => (st g).toInt = 1) (show ¬ (st q).toInt = 1 by omega))
                have e9_3 : nI (cntP (fun g => (st g).toInt = 2) (q + 1)) = (nI ((cntP (fun g => (st g).toInt = 2) q) + 1) : Int32) := by first | exact congrArg nI (cntP_y (P := fun g => (st g).toInt = 2) (show (st q).toInt = 2 by omega)) | exact congrArg nI (cntP_n0 (P := fun g => (st g).toInt = 2) (show ¬ (st q).toInt = 2 by omega))
                have e9_4 : nI (cntP (fun g => ¬ (tn g).toInt = 0) (q + 1)) = (nI ((cntP (fun g => ¬ (tn g).toInt = 0) q) + 0) : Int32) := by first | exact congrArg nI (cntP_y (P := fun g => ¬ (tn g).toInt = 0) (show ¬ (tn q).toInt = 0 by omega)) | exact congrArg nI (cntP_n0 (P := fun g => ¬ (tn g).toInt = 0) (show ¬ ¬ (tn q).toInt = 0 by omega))
                have e9_5 : nI (smP (lvF ft st tn) (fun g => nN (mn g)) (q + 1)) = (nI ((smP (lvF ft st tn) (fun g => nN (mn g)) q) + 0) : Int32) := by first | exact congrArg nI (smP_y (P := lvF ft st tn) (by first | with_reducible assumption | assumption)) | exact congrArg nI (smP_n (P := lvF ft st tn) (by first | with_reducible assumption | assumption))
                have hl9 : lv_has ls 7 [(6, .int (nI (q + 1))), (5, .int (nI (smP (lvF ft st tn) (fun g => nN (mn g)) (q + 1)))), (4, .int (nI (cntP (fun g => ¬ (tn g).toInt = 0) (q + 1)))), (3, .int (nI (cntP (fun g => (st g).toInt = 2) (q + 1)))), (2, .int (nI (cntP (fun g => (st g).toInt = 1) (q + 1)))), (0, .ref k0), (1, .int 3)] := by rw [e9_2]; rw [e9_3]; rw [e9_4]; rw [e9_5]; exact hl9
                exact ih_13 (q + 1) H locs ls (by first | with_reducible assumption | omega) (by first | with_reducible assumption | omega) hP hD hS hl9
              · have c_11 : q < ft ∧ (st q).toInt = 1 ∧ (tn q).toInt = 0 := zp_1 c_11
                refine lv_aload_n hx hb dX11_count_91 rfl (lv_at hl 5 rfl) ?_
                refine va_get (D := (dC, dI)) (ci := 9) (v := .ref (a 11)) (C := RX11) (T := TX11) (N := 55) hx hb hts inX11 hown hK hP 0 rfl rfl 11 (Nat.le_of_ble_eq_true rfl) (hts _ mw_1170) (fun _ h9 => h9) rfl dX11_count_92 ?_
                refine lv_iload hx hb dX11_count_95 (lv_at hl 3 rfl) ?_
                refine z_iald hx hb hK hP 3 0 rfl rfl (e := q) rfl b9_4 (Nat.le_of_ble_eq_true rfl) dX11_count_97 ?_
                refine zz_i (v := nI (nN (mn q))) ((hmw q (by first | with_reducible assumption | assumption)).1) ?_
                refine lv_goto (tgt := 102) hx hb dX11_count_98 rfl ?_
                refine lv_iadd hx hb dX11_count_102 ?_
                refine zz_i (v := nI ((smP (lvF ft st tn) (fun g => nN (mn g)) q) + (nN (mn q)))) (nI_add (smP (lvF ft st tn) (fun g => nN (mn g)) q) (nN (mn q))) ?_
                refine lv_istore (lv' := [(5, .int (nI ((smP (lvF ft st tn) (fun g => nN (mn g)) q) + (nN (mn q))))), (4, .int (nI ((cntP (fun g => ¬ (tn g).toInt = 0) q) + 0))), (3, .int (nI ((cntP (fun g => (st g).toInt = 2) q) + 1))), (2, .int (nI ((cntP (fun g => (st g).toInt = 1) q) + 0))), (6, .int (nI q)), (0, .ref k0), (1, .int 3)]) hx hb dX11_count_103 hl (Nat.le_of_ble_eq_true rfl) rfl (fun ls hl => ?_)
                refine lv_iinc (v := nI (q + 1)) (lv' := [(6, .int (nI (q + 1))), (5, .int (nI ((smP (lvF ft st tn) (fun g => nN (mn g)) q) + (nN (mn q))))), (4, .int (nI ((cntP (fun g => ¬ (tn g).toInt = 0) q) + 0))), (3, .int (nI ((cntP (fun g => (st g).toInt = 2) q) + 1))), (2, .int (nI ((cntP (fun g => (st g).toInt = 1) q) + 0))), (0, .ref k0), (1, .int 3)]) hx hb dX11_count_105 hl (k := 4) rfl (nI_add q 1) (Nat.le_of_ble_eq_true rfl) rfl (fun ls hl => ?_)
                refine lv_goto (tgt := 13) hx hb dX11_count_108 rfl ?_
                have hl9 := lv_sub hl [0, 1, 2, 3, 4, 5, 6] rfl
                have e9_2 : nI (cntP (fun g => (st g).toInt = 1) (q + 1)) = (nI ((cntP (fun g => (st g).toInt = 1) q) + 0) : Int32) := by first | exact congrArg nI (cntP_y (P := fun g => (st g).toInt = 1) (show (st q).toInt = 1 by omega)) | exact congrArg nI (cntP_n0 (P := fun g => (st g).toInt = 1) (show ¬ (st q).toInt = 1 by omega))
                have e9_3 : nI (cntP (fun g => (st g).toInt = 2) (q + 1)) = (nI ((cntP (fun g => (st g).toInt = 2) q) + 1) : Int32) := by first | exact congrArg nI (cntP_y (P := fun g => (st g).toInt = 2) (show (st q).toInt = 2 by omega)) | exact congrArg nI (cntP_n0 (P := fun g => (st g).toInt = 2) (show ¬ (st q).toInt = 2 by omega))
                have e9_4 : nI (cntP (fun g => ¬ (tn g).toInt = 0) (q + 1)) = (nI ((cntP (fun g => ¬ (tn g).toInt = 0) q) + 0) : Int32) := by first | exact congrArg nI (cntP_y (P := fun g => ¬ (tn g).toInt = 0) (show ¬ (tn q).toInt = 0 by omega)) | exact congrArg nI (cntP_n0 (P := fun g => ¬ (tn g).toInt = 0) (show ¬ ¬ (tn q).toInt = 0 by omega))
                have e9_5 : nI (smP (lvF ft st tn) (fun g => nN (mn g)) (q + 1)) = (nI ((smP (lvF ft st tn) (fun g => nN (mn g)) q) + (nN (mn q))) : Int32) := by first | exact congrArg nI (smP_y (P := lvF ft st tn) (by first | with_reducible assumption | assumption)) | exact congrArg nI (smP_n (P := lvF ft st tn) (by first | with_reducible assumption | assumption))
                have hl9 : lv_has ls 7 [(6, .int (nI (q + 1))), (5, .int (nI (smP (lvF ft st tn) (fun g => nN (mn g)) (q + 1)))), (4, .int (nI (cntP (fun g => ¬ (tn g).toInt = 0) (q + 1)))), (3, .int (nI (cntP (fun g => (st g).toInt = 2) (q + 1)))), (2, .int (nI (cntP (fun g => (st g).toInt = 1) (q + 1)))), (0, .ref k0), (1, .int 3)] := by rw [e9_2]; rw [e9_3]; rw [e9_4]; rw [e9_5]; exact hl9
                exact ih_13 (q + 1) H locs ls (by first | with_reducible assumption | omega) (by first | with_reducible assumption | omega) hP hD hS hl9
            · have c_10 : ¬ (tn q).toInt = 0 := zc_ne rfl rfl c_10
              refine lv_iconst (v := 1) hx hb dX11_count_72 rfl ?_
              refine lv_goto (tgt := 77) hx hb dX11_count_73 rfl ?_
              refine lv_iadd hx hb dX11_count_77 ?_
              refine zz_i (v := nI ((cntP (fun g => ¬ (tn g).toInt = 0) q) + 1)) (nI_add (cntP (fun g => ¬ (tn g).toInt = 0) q) 1) ?_
              refine lv_istore (lv' := [(4, .int (nI ((cntP (fun g => ¬ (tn g).toInt = 0) q) + 1))), (3, .int (nI ((cntP (fun g => (st g).toInt = 2) q) + 1))), (2, .int (nI ((cntP (fun g => (st g).toInt = 1) q) + 0))), (6, .int (nI q)), (5, .int (nI (smP (lvF ft st tn) (fun g => nN (mn g)) q))), (0, .ref k0), (1, .int 3)]) hx hb dX11_count_78 hl (Nat.le_of_ble_eq_true rfl) rfl (fun ls hl => ?_)
              refine lv_iload hx hb dX11_count_80 (lv_at hl 4 rfl) ?_
              refine lv_aload_n hx hb dX11_count_82 rfl (lv_at hl 5 rfl) ?_
              refine lv_iload hx hb dX11_count_83 (lv_at hl 3 rfl) ?_
              obtain ⟨hPc, hDc, hFc, hI1⟩ := zi_sub (wc := [_, _, _]) hP hD hS hA [0, 1, 2] rfl rfl
              refine zcall (st1 := [.int (pI (q < ft ∧ (st q).toInt = 1 ∧ (tn q).toInt = 0)), .int (nI (smP (lvF ft st tn) (fun g => nN (mn g)) q))]) (va_runV (As := [.int (nI q)]) (rest := [.int (nI (smP (lvF ft st tn) (fun g => nN (mn g)) q))]) ⟨hx, hb, hml, hown, hts⟩ (k_M_is_n l dC dI cI cZ cF H.size k0 a I0 J0 q ft st tn (by first | with_reducible assumption | assumption) (by first | with_reducible assumption | omega) (by first | with_reducible assumption | omega)) (csV_179 hts rfl rfl ⟨Nat.le_of_ble_eq_true rfl, Nat.le_of_ble_eq_true rfl⟩) (zPV2 (q0 := 0) (ci := 9) hPc hDc hK hXN rfl rfl) rfl rfl hl.1 rfl (lv_room (Nat.le_of_ble_eq_true rfl)) dX11_count_85 ⟨Nat.le_of_ble_eq_true rfl, Nat.le_of_ble_eq_true rfl⟩) hS hFc hFc rfl (fun t H locs ht hB hk1 hS => ?_)
              obtain ⟨hP1, hD1⟩ := hB
              rw [ht] at hP1
              replace hP := z0 hP hD hk1 hP1 hI1
              clear hk1 hPc hDc hFc hP1 hD1 ht hI1
              refine lv_if_eq (tgt := 101) hx hb dX11_count_88 rfl (fun c_12 => ?_) (fun c_12 => ?_)
              · have c_12 : ¬ (q < ft ∧ (st q).toInt = 1 ∧ (tn q).toInt = 0) := zp_0 c_12
                refine lv_iconst (v := 0) hx hb dX11_count_101 rfl ?_
                refine lv_iadd hx hb dX11_count_102 ?_
                refine zz_i (v := nI ((smP (lvF ft st tn) (fun g => nN (mn g)) q) + 0)) (nI_add (smP (lvF ft st tn) (fun g => nN (mn g)) q) 0) ?_
                refine lv_istore (lv' := [(5, .int (nI ((smP (lvF ft st tn) (fun g => nN (mn g)) q) + 0))), (4, .int (nI ((cntP (fun g => ¬ (tn g).toInt = 0) q) + 1))), (3, .int (nI ((cntP (fun g => (st g).toInt = 2) q) + 1))), (2, .int (nI ((cntP (fun g => (st g).toInt = 1) q) + 0))), (6, .int (nI q)), (0, .ref k0), (1, .int 3)]) hx hb dX11_count_103 hl (Nat.le_of_ble_eq_true rfl) rfl (fun ls hl => ?_)
                refine lv_iinc (v := nI (q + 1)) (lv' := [(6, .int (nI (q + 1))), (5, .int (nI ((smP (lvF ft st tn) (fun g => nN (mn g)) q) + 0))), (4, .int (nI ((cntP (fun g => ¬ (tn g).toInt = 0) q) + 1))), (3, .int (nI ((cntP (fun g => (st g).toInt = 2) q) + 1))), (2, .int (nI ((cntP (fun g => (st g).toInt = 1) q) + 0))), (0, .ref k0), (1, .int 3)]) hx hb dX11_count_105 hl (k := 4) rfl (nI_add q 1) (Nat.le_of_ble_eq_true rfl) rfl (fun ls hl => ?_)
                refine lv_goto (tgt := 13) hx hb dX11_count_108 rfl ?_
                have hl9 := lv_sub hl [0, 1, 2, 3, 4, 5, 6] rfl
                have e9_2 : nI (cntP (fun g => (st g).toInt = 1) (q + 1)) = (nI ((cntP (fun g => (st g).toInt = 1) q) + 0) : Int32) := by first | exact congrArg nI (cntP_y (P := fun g => (st g).toInt = 1) (show (st q).toInt = 1 by omega)) | exact congrArg nI (cntP_n0 (P := fun g => (st g).toInt = 1) (show ¬ (st q).toInt = 1 by omega))
                have e9_3 : nI (cntP (fun g => (st g).toInt = 2) (q + 1)) = (nI ((cntP (fun g => (st g).toInt = 2) q) + 1) : Int32) := by first | exact congrArg nI (cntP_y (P := fun g => (st g).toInt = 2) (show (st q).toInt = 2 by omega)) | exact congrArg nI (cntP_n0 (P := fun g => (st g).toInt = 2) (show ¬ (st q).toInt = 2 by omega))
                have e9_4 : nI (cntP (fun g => ¬ (tn g).toInt = 0) (q + 1)) = (nI ((cntP (fun g => ¬ (tn g).toInt = 0) q) + 1) : Int32) := by first | exact congrArg nI (cntP_y (P := fun g => ¬ (tn g).toInt = 0) (show ¬ (tn q).toInt = 0 by omega)) | exact congrArg nI (cntP_n0 (P := fun g => ¬ (tn g).toInt = 0) (show ¬ ¬ (tn q).toInt = 0 by omega))
                have e9_5 : nI (smP (lvF ft st tn) (fun g => nN (mn g)) (q + 1)) = (nI ((smP (lvF ft st tn) (fun g => nN (mn g)) q) + 0) : Int32) := by first | exact congrArg nI (smP_y (P := lvF ft st tn) (by first | with_reducible assumption | assumption)) | exact congrArg nI (smP_n (P := lvF ft st tn) (by first | with_reducible assumption | assumption))
                have hl9 : lv_has ls 7 [(6, .int (nI (q + 1))), (5, .int (nI (smP (lvF ft st tn) (fun g => nN (mn g)) (q + 1)))), (4, .int (nI (cntP (fun g => ¬ (tn g).toInt = 0) (q + 1)))), (3, .int (nI (cntP (fun g => (st g).toInt = 2) (q + 1)))), (2, .int (nI (cntP (fun g => (st g).toInt = 1) (q + 1)))), (0, .ref k0), (1, .int 3)] := by rw [e9_2]; rw [e9_3]; rw [e9_4]; rw [e9_5]; exact hl9
                exact ih_13 (q + 1) H locs ls (by first | with_reducible assumption | omega) (by first | with_reducible assumption | omega) hP hD hS hl9
              · have c_12 : q < ft ∧ (st q).toInt = 1 ∧ (tn q).toInt = 0 := zp_1 c_12
                refine lv_aload_n hx hb dX11_count_91 rfl (lv_at hl 5 rfl) ?_
                refine va_get (D := (dC, dI)) (ci := 9) (v := .ref (a 11)) (C := RX11) (T := TX11) (N := 55) hx hb hts inX11 hown hK hP 0 rfl rfl 11 (Nat.le_of_ble_eq_true rfl) (hts _ mw_1170) (fun _ h9 => h9) rfl dX11_count_92 ?_
                refine lv_iload hx hb dX11_count_95 (lv_at hl 3 rfl) ?_
                refine z_iald hx hb hK hP 3 0 rfl rfl (e := q) rfl b9_4 (Nat.le_of_ble_eq_true rfl) dX11_count_97 ?_
                refine zz_i (v := nI (nN (mn q))) ((hmw q (by first | with_reducible assumption | assumption)).1) ?_
                refine lv_goto (tgt := 102) hx hb dX11_count_98 rfl ?_
                refine lv_iadd hx hb dX11_count_102 ?_
                refine zz_i (v := nI ((smP (lvF ft st tn) (fun g => nN (mn g)) q) + (nN (mn q)))) (nI_add (smP (lvF ft st tn) (fun g => nN (mn g)) q) (nN (mn q))) ?_
                refine lv_istore (lv' := [(5, .int (nI ((smP (lvF ft st tn) (fun g => nN (mn g)) q) + (nN (mn q))))), (4, .int (nI ((cntP (fun g => ¬ (tn g).toInt = 0) q) + 1))), (3, .int (nI ((cntP (fun g => (st g).toInt = 2) q) + 1))), (2, .int (nI ((cntP (fun g => (st g).toInt = 1) q) + 0))), (6, .int (nI q)), (0, .ref k0), (1, .int 3)]) hx hb dX11_count_103 hl (Nat.le_of_ble_eq_true rfl) rfl (fun ls hl => ?_)
                refine lv_iinc (v := nI (q + 1)) (lv' := [(6, .int (nI (q + 1))), (5, .int (nI ((smP (lvF ft st tn) (fun g => nN (mn g)) q) + (nN (mn q))))), (4, .int (nI ((cntP (fun g => ¬ (tn g).toInt = 0) q) + 1))), (3, .int (nI ((cntP (fun g => (st g).toInt = 2) q) + 1))), (2, .int (nI ((cntP (fun g => (st g).toInt = 1) q) + 0))), (0, .ref k0), (1, .int 3)]) hx hb dX11_count_105 hl (k := 4) rfl (nI_add q 1) (Nat.le_of_ble_eq_true rfl) rfl (fun ls hl => ?_)
                refine lv_goto (tgt := 13) hx hb dX11_count_108 rfl ?_
                have hl9 := lv_sub hl [0, 1, 2, 3, 4, 5, 6] rfl
                have e9_2 : nI (cntP (fun g => (st g).toInt = 1) (q + 1)) = (nI ((cntP (fun g => (st g).toInt = 1) q) + 0) : Int32) := by first | exact congrArg nI (cntP_y (P := fun g => (st g).toInt = 1) (show (st q).toInt = 1 by omega)) | exact congrArg nI (cntP_n0 (P := fun g => (st g).toInt = 1) (show ¬ (st q).toInt = 1 by omega))
                have e9_3 : nI (cntP (fun g => (st g).toInt = 2) (q + 1)) = (nI ((cntP (fun g => (st g).toInt = 2) q) + 1) : Int32) := by first | exact congrArg nI (cntP_y (P := fun g => (st g).toInt = 2) (show (st q).toInt = 2 by omega)) | exact congrArg nI (cntP_n0 (P := fun g => (st g).toInt = 2) (show ¬ (st q).toInt = 2 by omega))
                have e9_4 : nI (cntP (fun g => ¬ (tn g).toInt = 0) (q + 1)) = (nI ((cntP (fun g => ¬ (tn g).toInt = 0) q) + 1) : Int32) := by first | exact congrArg nI (cntP_y (P := fun g => ¬ (tn g).toInt = 0) (show ¬ (tn q).toInt = 0 by omega)) | exact congrArg nI (cntP_n0 (P := fun g => ¬ (tn g).toInt = 0) (show ¬ ¬ (tn q).toInt = 0 by omega))
                have e9_5 : nI (smP (lvF ft st tn) (fun g => nN (mn g)) (q + 1)) = (nI ((smP (lvF ft st tn) (fun g => nN (mn g)) q) + (nN (mn q))) : Int32) := by first | exact congrArg nI (smP_y (P := lvF ft st tn) (by first | with_reducible assumption | assumption)) | exact congrArg nI (smP_n (P := lvF ft st tn) (by first | with_reducible assumption | assumption))
                have hl9 : lv_has ls 7 [(6, .int (nI (q + 1))), (5, .int (nI (smP (lvF ft st tn) (fun g => nN (mn g)) (q + 1)))), (4, .int (nI (cntP (fun g => ¬ (tn g).toInt = 0) (q + 1)))), (3, .int (nI (cntP (fun g => (st g).toInt = 2) (q + 1)))), (2, .int (nI (cntP (fun g => (st g).toInt = 1) (q + 1)))), (0, .ref k0), (1, .int 3)] := by rw [e9_2]; rw [e9_3]; rw [e9_4]; rw [e9_5]; exact hl9
                exact ih_13 (q + 1) H locs ls (by first | with_reducible assumption | omega) (by first | with_reducible assumption | omega) hP hD hS hl9
        · have c_5 : (st q).toInt = 1 := zc_eq rfl rfl c_5
          refine lv_iconst (v := 1) hx hb dX11_count_34 rfl ?_
          refine lv_goto (tgt := 39) hx hb dX11_count_35 rfl ?_
          refine lv_iadd hx hb dX11_count_39 ?_
          refine zz_i (v := nI ((cntP (fun g => (st g).toInt = 1) q) + 1)) (nI_add (cntP (fun g => (st g).toInt = 1) q) 1) ?_
          refine lv_istore_n (lv' := [(2, .int (nI ((cntP (fun g => (st g).toInt = 1) q) + 1))), (6, .int (nI q)), (5, .int (nI (smP (lvF ft st tn) (fun g => nN (mn g)) q))), (4, .int (nI (cntP (fun g => ¬ (tn g).toInt = 0) q))), (3, .int (nI (cntP (fun g => (st g).toInt = 2) q))), (0, .ref k0), (1, .int 3)]) hx hb dX11_count_40 rfl hl (Nat.le_of_ble_eq_true rfl) rfl (fun ls hl => ?_)
          refine lv_iload_n hx hb dX11_count_41 rfl (lv_at hl 4 rfl) ?_
          refine lv_aload_n hx hb dX11_count_42 rfl (lv_at hl 5 rfl) ?_
          refine va_get (D := (dC, dI)) (ci := 9) (v := .ref (a 5)) (C := RX11) (T := TX11) (N := 55) hx hb hts inX11 hown hK hP 0 rfl rfl 5 (Nat.le_of_ble_eq_true rfl) (hts _ mw_1164) (fun _ h9 => h9) rfl dX11_count_43 ?_
          refine lv_iload hx hb dX11_count_46 (lv_at hl 1 rfl) ?_
          refine z_iald hx hb hK hP 1 0 rfl rfl (e := q) rfl b9_4 (Nat.le_of_ble_eq_true rfl) dX11_count_48 ?_
          refine lv_iconst (v := 2) hx hb dX11_count_49 rfl ?_
          refine lv_icmp_ne (tgt := 57) hx hb dX11_count_50 rfl (fun c_13 => ?_) (fun c_13 => ?_)
          · have c_13 : ¬ (st q).toInt = 2 := zc_ne rfl rfl c_13
            refine lv_iconst (v := 0) hx hb dX11_count_57 rfl ?_
            refine lv_iadd hx hb dX11_count_58 ?_
            refine zz_i (v := nI ((cntP (fun g => (st g).toInt = 2) q) + 0)) (nI_add (cntP (fun g => (st g).toInt = 2) q) 0) ?_
            refine lv_istore_n (lv' := [(3, .int (nI ((cntP (fun g => (st g).toInt = 2) q) + 0))), (2, .int (nI ((cntP (fun g => (st g).toInt = 1) q) + 1))), (6, .int (nI q)), (5, .int (nI (smP (lvF ft st tn) (fun g => nN (mn g)) q))), (4, .int (nI (cntP (fun g => ¬ (tn g).toInt = 0) q))), (0, .ref k0), (1, .int 3)]) hx hb dX11_count_59 rfl hl (Nat.le_of_ble_eq_true rfl) rfl (fun ls hl => ?_)
            refine lv_iload hx hb dX11_count_60 (lv_at hl 4 rfl) ?_
            refine lv_aload_n hx hb dX11_count_62 rfl (lv_at hl 5 rfl) ?_
            refine va_get (D := (dC, dI)) (ci := 9) (v := .ref (a 6)) (C := RX11) (T := TX11) (N := 55) hx hb hts inX11 hown hK hP 0 rfl rfl 6 (Nat.le_of_ble_eq_true rfl) (hts _ mw_1165) (fun _ h9 => h9) rfl dX11_count_63 ?_
            refine lv_iload hx hb dX11_count_66 (lv_at hl 2 rfl) ?_
            refine z_zald hx hb hK hP 2 1 rfl rfl (e := q) rfl b9_4 (Nat.le_of_ble_eq_true rfl) dX11_count_68 ?_
            refine lv_if_eq (tgt := 76) hx hb dX11_count_69 rfl (fun c_14 => ?_) (fun c_14 => ?_)
            · have c_14 : (tn q).toInt = 0 := zc_eq rfl rfl c_14
              refine lv_iconst (v := 0) hx hb dX11_count_76 rfl ?_
              refine lv_iadd hx hb dX11_count_77 ?_
              refine zz_i (v := nI ((cntP (fun g => ¬ (tn g).toInt = 0) q) + 0)) (nI_add (cntP (fun g => ¬ (tn g).toInt = 0) q) 0) ?_
              refine lv_istore (lv' := [(4, .int (nI ((cntP (fun g => ¬ (tn g).toInt = 0) q) + 0))), (3, .int (nI ((cntP (fun g => (st g).toInt = 2) q) + 0))), (2, .int (nI ((cntP (fun g => (st g).toInt = 1) q) + 1))), (6, .int (nI q)), (5, .int (nI (smP (lvF ft st tn) (fun g => nN (mn g)) q))), (0, .ref k0), (1, .int 3)]) hx hb dX11_count_78 hl (Nat.le_of_ble_eq_true rfl) rfl (fun ls hl => ?_)
              refine lv_iload hx hb dX11_count_80 (lv_at hl 4 rfl) ?_
              refine lv_aload_n hx hb dX11_count_82 rfl (lv_at hl 5 rfl) ?_
              refine lv_iload hx hb dX11_count_83 (lv_at hl 3 rfl) ?_
              obtain ⟨hPc, hDc, hFc, hI1⟩ := zi_sub (wc := [_, _, _]) hP hD hS hA [0, 1, 2] rfl rfl
              refine zcall (st1 := [.int (pI (q < ft ∧ (st q).toInt = 1 ∧ (tn q).toInt = 0)), .int (nI (smP (lvF ft st tn) (fun g => nN (mn g)) q))]) (va_runV (As := [.int (nI q)]) (rest := [.int (nI (smP (lvF ft st tn) (fun g => nN (mn g)) q))]) ⟨hx, hb, hml, hown, hts⟩ (k_M_is_n l dC dI cI cZ cF H.size k0 a I0 J0 q ft st tn (by first | with_reducible assumption | assumption) (by first | with_reducible assumption | omega) (by first | with_reducible assumption | omega)) (csV_179 hts rfl rfl ⟨Nat.le_of_ble_eq_true rfl, Nat.le_of_ble_eq_true rfl⟩) (zPV2 (q0 := 0) (ci := 9) hPc hDc hK hXN rfl rfl) rfl rfl hl.1 rfl (lv_room (Nat.le_of_ble_eq_true rfl)) dX11_count_85 ⟨Nat.le_of_ble_eq_true rfl, Nat.le_of_ble_eq_true rfl⟩) hS hFc hFc rfl (fun t H locs ht hB hk1 hS => ?_)
              obtain ⟨hP1, hD1⟩ := hB
              rw [ht] at hP1
              replace hP := z0 hP hD hk1 hP1 hI1
              clear hk1 hPc hDc hFc hP1 hD1 ht hI1
              refine lv_if_eq (tgt := 101) hx hb dX11_count_88 rfl (fun c_15 => ?_) (fun c_15 => ?_)
              · have c_15 : ¬ (q < ft ∧ (st q).toInt = 1 ∧ (tn q).toInt = 0) := zp_0 c_15
                refine lv_iconst (v := 0) hx hb dX11_count_101 rfl ?_
                refine lv_iadd hx hb dX11_count_102 ?_
                refine zz_i (v := nI ((smP (lvF ft st tn) (fun g => nN (mn g)) q) + 0)) (nI_add (smP (lvF ft st tn) (fun g => nN (mn g)) q) 0) ?_
                refine lv_istore (lv' := [(5, .int (nI ((smP (lvF ft st tn) (fun g => nN (mn g)) q) + 0))), (4, .int (nI ((cntP (fun g => ¬ (tn g).toInt = 0) q) + 0))), (3, .int (nI ((cntP (fun g => (st g).toInt = 2) q) + 0))), (2, .int (nI ((cntP (fun g => (st g).toInt = 1) q) + 1))), (6, .int (nI q)), (0, .ref k0), (1, .int 3)]) hx hb dX11_count_103 hl (Nat.le_of_ble_eq_true rfl) rfl (fun ls hl => ?_)
                refine lv_iinc (v := nI (q + 1)) (lv' := [(6, .int (nI (q + 1))), (5, .int (nI ((smP (lvF ft st tn) (fun g => nN (mn g)) q) + 0))), (4, .int (nI ((cntP (fun g => ¬ (tn g).toInt = 0) q) + 0))), (3, .int (nI ((cntP (fun g => (st g).toInt = 2) q) + 0))), (2, .int (nI ((cntP (fun g => (st g).toInt = 1) q) + 1))), (0, .ref k0), (1, .int 3)]) hx hb dX11_count_105 hl (k := 4) rfl (nI_add q 1) (Nat.le_of_ble_eq_true rfl) rfl (fun ls hl => ?_)
                refine lv_goto (tgt := 13) hx hb dX11_count_108 rfl ?_
                have hl9 := lv_sub hl [0, 1, 2, 3, 4, 5, 6] rfl
                have e9_2 : nI (cntP (fun g => (st g).toInt = 1) (q + 1)) = (nI ((cntP (fun g => (st g).toInt = 1) q) + 1) : Int32) := by first | exact congrArg nI (cntP_y (P := fun g => (st g).toInt = 1) (show (st q).toInt = 1 by omega)) | exact congrArg nI (cntP_n0 (P := fun g => (st g).toInt = 1) (show ¬ (st q).toInt = 1 by omega))
                have e9_3 : nI (cntP (fun g => (st g).toInt = 2) (q + 1)) = (nI ((cntP (fun g => (st g).toInt = 2) q) + 0) : Int32) := by first | exact congrArg nI (cntP_y (P := fun g => (st g).toInt = 2) (show (st q).toInt = 2 by omega)) | exact congrArg nI (cntP_n0 (P := fun g => (st g).toInt = 2) (show ¬ (st q).toInt = 2 by omega))
                have e9_4 : nI (cntP (fun g => ¬ (tn g).toInt = 0) (q + 1)) = (nI ((cntP (fun g => ¬ (tn g).toInt = 0) q) + 0) : Int32) := by first | exact congrArg nI (cntP_y (P := fun g => ¬ (tn g).toInt = 0) (show ¬ (tn q).toInt = 0 by omega)) | exact congrArg nI (cntP_n0 (P := fun g => ¬ (tn g).toInt = 0) (show ¬ ¬ (tn q).toInt = 0 by omega))
                have e9_5 : nI (smP (lvF ft st tn) (fun g => nN (mn g)) (q + 1)) = (nI ((smP (lvF ft st tn) (fun g => nN (mn g)) q) + 0) : Int32) := by first | exact congrArg nI (smP_y (P := lvF ft st tn) (by first | with_reducible assumption | assumption)) | exact congrArg nI (smP_n (P := lvF ft st tn) (by first | with_reducible assumption | assumption))
                have hl9 : lv_has ls 7 [(6, .int (nI (q + 1))), (5, .int (nI (smP (lvF ft st tn) (fun g => nN (mn g)) (q + 1)))), (4, .int (nI (cntP (fun g => ¬ (tn g).toInt = 0) (q + 1)))), (3, .int (nI (cntP (fun g => (st g).toInt = 2) (q + 1)))), (2, .int (nI (cntP (fun g => (st g).toInt = 1) (q + 1)))), (0, .ref k0), (1, .int 3)] := by rw [e9_2]; rw [e9_3]; rw [e9_4]; rw [e9_5]; exact hl9
                exact ih_13 (q + 1) H locs ls (by first | with_reducible assumption | omega) (by first | with_reducible assumption | omega) hP hD hS hl9
              · have c_15 : q < ft ∧ (st q).toInt = 1 ∧ (tn q).toInt = 0 := zp_1 c_15
                refine lv_aload_n hx hb dX11_count_91 rfl (lv_at hl 5 rfl) ?_
                refine va_get (D := (dC, dI)) (ci := 9) (v := .ref (a 11)) (C := RX11) (T := TX11) (N := 55) hx hb hts inX11 hown hK hP 0 rfl rfl 11 (Nat.le_of_ble_eq_true rfl) (hts _ mw_1170) (fun _ h9 => h9) rfl dX11_count_92 ?_
                refine lv_iload hx hb dX11_count_95 (lv_at hl 3 rfl) ?_
                refine z_iald hx hb hK hP 3 0 rfl rfl (e := q) rfl b9_4 (Nat.le_of_ble_eq_true rfl) dX11_count_97 ?_
                refine zz_i (v := nI (nN (mn q))) ((hmw q (by first | with_reducible assumption | assumption)).1) ?_
                refine lv_goto (tgt := 102) hx hb dX11_count_98 rfl ?_
                refine lv_iadd hx hb dX11_count_102 ?_
                refine zz_i (v := nI ((smP (lvF ft st tn) (fun g => nN (mn g)) q) + (nN (mn q)))) (nI_add (smP (lvF ft st tn) (fun g => nN (mn g)) q) (nN (mn q))) ?_
                refine lv_istore (lv' := [(5, .int (nI ((smP (lvF ft st tn) (fun g => nN (mn g)) q) + (nN (mn q))))), (4, .int (nI ((cntP (fun g => ¬ (tn g).toInt = 0) q) + 0))), (3, .int (nI ((cntP (fun g => (st g).toInt = 2) q) + 0))), (2, .int (nI ((cntP (fun g => (st g).toInt = 1) q) + 1))), (6, .int (nI q)), (0, .ref k0), (1, .int 3)]) hx hb dX11_count_103 hl (Nat.le_of_ble_eq_true rfl) rfl (fun ls hl => ?_)
                refine lv_iinc (v := nI (q + 1)) (lv' := [(6, .int (nI (q + 1))), (5, .int (nI ((smP (lvF ft st tn) (fun g => nN (mn g)) q) + (nN (mn q))))), (4, .int (nI ((cntP (fun g => ¬ (tn g).toInt = 0) q) + 0))), (3, .int (nI ((cntP (fun g => (st g).toInt = 2) q) + 0))), (2, .int (nI ((cntP (fun g => (st g).toInt = 1) q) + 1))), (0, .ref k0), (1, .int 3)]) hx hb dX11_count_105 hl (k := 4) rfl (nI_add q 1) (Nat.le_of_ble_eq_true rfl) rfl (fun ls hl => ?_)
                refine lv_goto (tgt := 13) hx hb dX11_count_108 rfl ?_
                have hl9 := lv_sub hl [0, 1, 2, 3, 4, 5, 6] rfl
                have e9_2 : nI (cntP (fun g => (st g).toInt = 1) (q + 1)) = (nI ((cntP (fun g => (st g).toInt = 1) q) + 1) : Int32) := by first | exact congrArg nI (cntP_y (P := fun g => (st g).toInt = 1) (show (st q).toInt = 1 by omega)) | exact congrArg nI (cntP_n0 (P := fun g => (st g).toInt = 1) (show ¬ (st q).toInt = 1 by omega))
                have e9_3 : nI (cntP (fun g => (st g).toInt = 2) (q + 1)) = (nI ((cntP (fun g => (st g).toInt = 2) q) + 0) : Int32) := by first | exact congrArg nI (cntP_y (P := fun g => (st g).toInt = 2) (show (st q).toInt = 2 by omega)) | exact congrArg nI (cntP_n0 (P := fun g => (st g).toInt = 2) (show ¬ (st q).toInt = 2 by omega))
                have e9_4 : nI (cntP (fun g => ¬ (tn g).toInt = 0) (q + 1)) = (nI ((cntP (fun g => ¬ (tn g).toInt = 0) q) + 0) : Int32) := by first | exact congrArg nI (cntP_y (P := fun g => ¬ (tn g).toInt = 0) (show ¬ (tn q).toInt = 0 by omega)) | exact congrArg nI (cntP_n0 (P := fun g => ¬ (tn g).toInt = 0) (show ¬ ¬ (tn q).toInt = 0 by omega))
                have e9_5 : nI (smP (lvF ft st tn) (fun g => nN (mn g)) (q + 1)) = (nI ((smP (lvF ft st tn) (fun g => nN (mn g)) q) + (nN (mn q))) : Int32) := by first | exact congrArg nI (smP_y (P := lvF ft st tn) (by first | with_reducible assumption | assumption)) | exact congrArg nI (smP_n (P := lvF ft st tn) (by first | with_reducible assumption | assumption))
                have hl9 : lv_has ls 7 [(6, .int (nI (q + 1))), (5, .int (nI (smP (lvF ft st tn) (fun g => nN (mn g)) (q + 1)))), (4, .int (nI (cntP (fun g => ¬ (tn g).toInt = 0) (q + 1)))), (3, .int (nI (cntP (fun g => (st g).toInt = 2) (q + 1)))), (2, .int (nI (cntP (fun g => (st g).toInt = 1) (q + 1)))), (0, .ref k0), (1, .int 3)] := by rw [e9_2]; rw [e9_3]; rw [e9_4]; rw [e9_5]; exact hl9
                exact ih_13 (q + 1) H locs ls (by first | with_reducible assumption | omega) (by first | with_reducible assumption | omega) hP hD hS hl9
            · have c_14 : ¬ (tn q).toInt = 0 := zc_ne rfl rfl c_14
              refine lv_iconst (v := 1) hx hb dX11_count_72 rfl ?_
              refine lv_goto (tgt := 77) hx hb dX11_count_73 rfl ?_
              refine lv_iadd hx hb dX11_count_77 ?_
              refine zz_i (v := nI ((cntP (fun g => ¬ (tn g).toInt = 0) q) + 1)) (nI_add (cntP (fun g => ¬ (tn g).toInt = 0) q) 1) ?_
              refine lv_istore (lv' := [(4, .int (nI ((cntP (fun g => ¬ (tn g).toInt = 0) q) + 1))), (3, .int (nI ((cntP (fun g => (st g).toInt = 2) q) + 0))), (2, .int (nI ((cntP (fun g => (st g).toInt = 1) q) + 1))), (6, .int (nI q)), (5, .int (nI (smP (lvF ft st tn) (fun g => nN (mn g)) q))), (0, .ref k0), (1, .int 3)]) hx hb dX11_count_78 hl (Nat.le_of_ble_eq_true rfl) rfl (fun ls hl => ?_)
              refine lv_iload hx hb dX11_count_80 (lv_at hl 4 rfl) ?_
              refine lv_aload_n hx hb dX11_count_82 rfl (lv_at hl 5 rfl) ?_
              refine lv_iload hx hb dX11_count_83 (lv_at hl 3 rfl) ?_
              obtain ⟨hPc, hDc, hFc, hI1⟩ := zi_sub (wc := [_, _, _]) hP hD hS hA [0, 1, 2] rfl rfl
              refine zcall (st1 := [.int (pI (q < ft ∧ (st q).toInt = 1 ∧ (tn q).toInt = 0)), .int (nI (smP (lvF ft st tn) (fun g => nN (mn g)) q))]) (va_runV (As := [.int (nI q)]) (rest := [.int (nI (smP (lvF ft st tn) (fun g => nN (mn g)) q))]) ⟨hx, hb, hml, hown, hts⟩ (k_M_is_n l dC dI cI cZ cF H.size k0 a I0 J0 q ft st tn (by first | with_reducible assumption | assumption) (by first | with_reducible assumption | omega) (by first | with_reducible assumption | omega)) (csV_179 hts rfl rfl ⟨Nat.le_of_ble_eq_true rfl, Nat.le_of_ble_eq_true rfl⟩) (zPV2 (q0 := 0) (ci := 9) hPc hDc hK hXN rfl rfl) rfl rfl hl.1 rfl (lv_room (Nat.le_of_ble_eq_true rfl)) dX11_count_85 ⟨Nat.le_of_ble_eq_true rfl, Nat.le_of_ble_eq_true rfl⟩) hS hFc hFc rfl (fun t H locs ht hB hk1 hS => ?_)
              obtain ⟨hP1, hD1⟩ := hB
              rw [ht] at hP1
              replace hP := z0 hP hD hk1 hP1 hI1
              clear hk1 hPc hDc hFc hP1 hD1 ht hI1
              refine lv_if_eq (tgt := 101) hx hb dX11_count_88 rfl (fun c_16 => ?_) (fun c_16 => ?_)
              · have c_16 : ¬ (q < ft ∧ (st q).toInt = 1 ∧ (tn q).toInt = 0) := zp_0 c_16
                refine lv_iconst (v := 0) hx hb dX11_count_101 rfl ?_
                refine lv_iadd hx hb dX11_count_102 ?_
                refine zz_i (v := nI ((smP (lvF ft st tn) (fun g => nN (mn g)) q) + 0)) (nI_add (smP (lvF ft st tn) (fun g => nN (mn g)) q) 0) ?_
                refine lv_istore (lv' := [(5, .int (nI ((smP (lvF ft st tn) (fun g => nN (mn g)) q) + 0))), (4, .int (nI ((cntP (fun g => ¬ (tn g).toInt = 0) q) + 1))), (3, .int (nI ((cntP (fun g => (st g).toInt = 2) q) + 0))), (2, .int (nI ((cntP (fun g => (st g).toInt = 1) q) + 1))), (6, .int (nI q)), (0, .ref k0), (1, .int 3)]) hx hb dX11_count_103 hl (Nat.le_of_ble_eq_true rfl) rfl (fun ls hl => ?_)
                refine lv_iinc (v := nI (q + 1)) (lv' := [(6, .int (nI (q + 1))), (5, .int (nI ((smP (lvF ft st tn) (fun g => nN (mn g)) q) + 0))), (4, .int (nI ((cntP (fun g => ¬ (tn g).toInt = 0) q) + 1))), (3, .int (nI ((cntP (fun g => (st g).toInt = 2) q) + 0))), (2, .int (nI ((cntP (fun g => (st g).toInt = 1) q) + 1))), (0, .ref k0), (1, .int 3)]) hx hb dX11_count_105 hl (k := 4) rfl (nI_add q 1) (Nat.le_of_ble_eq_true rfl) rfl (fun ls hl => ?_)
                refine lv_goto (tgt := 13) hx hb dX11_count_108 rfl ?_
                have hl9 := lv_sub hl [0, 1, 2, 3, 4, 5, 6] rfl
                have e9_2 : nI (cntP (fun g => (st g).toInt = 1) (q + 1)) = (nI ((cntP (fun g => (st g).toInt = 1) q) + 1) : Int32) := by first | exact congrArg nI (cntP_y (P := fun g => (st g).toInt = 1) (show (st q).toInt = 1 by omega)) | exact congrArg nI (cntP_n0 (P := fun g => (st g).toInt = 1) (show ¬ (st q).toInt = 1 by omega))
                have e9_3 : nI (cntP (fun g => (st g).toInt = 2) (q + 1)) = (nI ((cntP (fun g => (st g).toInt = 2) q) + 0) : Int32) := by first | exact congrArg nI (cntP_y (P := fun g => (st g).toInt = 2) (show (st q).toInt = 2 by omega)) | exact congrArg nI (cntP_n0 (P := fun g => (st g).toInt = 2) (show ¬ (st q).toInt = 2 by omega))
                have e9_4 : nI (cntP (fun g => ¬ (tn g).toInt = 0) (q + 1)) = (nI ((cntP (fun g => ¬ (tn g).toInt = 0) q) + 1) : Int32) := by first | exact congrArg nI (cntP_y (P := fun g => ¬ (tn g).toInt = 0) (show ¬ (tn q).toInt = 0 by omega)) | exact congrArg nI (cntP_n0 (P := fun g => ¬ (tn g).toInt = 0) (show ¬ ¬ (tn q).toInt = 0 by omega))
                have e9_5 : nI (smP (lvF ft st tn) (fun g => nN (mn g)) (q + 1)) = (nI ((smP (lvF ft st tn) (fun g => nN (mn g)) q) + 0) : Int32) := by first | exact congrArg nI (smP_y (P := lvF ft st tn) (by first | with_reducible assumption | assumption)) | exact congrArg nI (smP_n (P := lvF ft st tn) (by first | with_reducible assumption | assumption))
                have hl9 : lv_has ls 7 [(6, .int (nI (q + 1))), (5, .int (nI (smP (lvF ft st tn) (fun g => nN (mn g)) (q + 1)))), (4, .int (nI (cntP (fun g => ¬ (tn g).toInt = 0) (q + 1)))), (3, .int (nI (cntP (fun g => (st g).toInt = 2) (q + 1)))), (2, .int (nI (cntP (fun g => (st g).toInt = 1) (q + 1)))), (0, .ref k0), (1, .int 3)] := by rw [e9_2]; rw [e9_3]; rw [e9_4]; rw [e9_5]; exact hl9
                exact ih_13 (q + 1) H locs ls (by first | with_reducible assumption | omega) (by first | with_reducible assumption | omega) hP hD hS hl9
              · have c_16 : q < ft ∧ (st q).toInt = 1 ∧ (tn q).toInt = 0 := zp_1 c_16
                refine lv_aload_n hx hb dX11_count_91 rfl (lv_at hl 5 rfl) ?_
                refine va_get (D := (dC, dI)) (ci := 9) (v := .ref (a 11)) (C := RX11) (T := TX11) (N := 55) hx hb hts inX11 hown hK hP 0 rfl rfl 11 (Nat.le_of_ble_eq_true rfl) (hts _ mw_1170) (fun _ h9 => h9) rfl dX11_count_92 ?_
                refine lv_iload hx hb dX11_count_95 (lv_at hl 3 rfl) ?_
                refine z_iald hx hb hK hP 3 0 rfl rfl (e := q) rfl b9_4 (Nat.le_of_ble_eq_true rfl) dX11_count_97 ?_
                refine zz_i (v := nI (nN (mn q))) ((hmw q (by first | with_reducible assumption | assumption)).1) ?_
                refine lv_goto (tgt := 102) hx hb dX11_count_98 rfl ?_
                refine lv_iadd hx hb dX11_count_102 ?_
                refine zz_i (v := nI ((smP (lvF ft st tn) (fun g => nN (mn g)) q) + (nN (mn q)))) (nI_add (smP (lvF ft st tn) (fun g => nN (mn g)) q) (nN (mn q))) ?_
                refine lv_istore (lv' := [(5, .int (nI ((smP (lvF ft st tn) (fun g => nN (mn g)) q) + (nN (mn q))))), (4, .int (nI ((cntP (fun g => ¬ (tn g).toInt = 0) q) + 1))), (3, .int (nI ((cntP (fun g => (st g).toInt = 2) q) + 0))), (2, .int (nI ((cntP (fun g => (st g).toInt = 1) q) + 1))), (6, .int (nI q)), (0, .ref k0), (1, .int 3)]) hx hb dX11_count_103 hl (Nat.le_of_ble_eq_true rfl) rfl (fun ls hl => ?_)
                refine lv_iinc (v := nI (q + 1)) (lv' := [(6, .int (nI (q + 1))), (5, .int (nI ((smP (lvF ft st tn) (fun g => nN (mn g)) q) + (nN (mn q))))), (4, .int (nI ((cntP (fun g => ¬ (tn g).toInt = 0) q) + 1))), (3, .int (nI ((cntP (fun g => (st g).toInt = 2) q) + 0))), (2, .int (nI ((cntP (fun g => (st g).toInt = 1) q) + 1))), (0, .ref k0), (1, .int 3)]) hx hb dX11_count_105 hl (k := 4) rfl (nI_add q 1) (Nat.le_of_ble_eq_true rfl) rfl (fun ls hl => ?_)
                refine lv_goto (tgt := 13) hx hb dX11_count_108 rfl ?_
                have hl9 := lv_sub hl [0, 1, 2, 3, 4, 5, 6] rfl
                have e9_2 : nI (cntP (fun g => (st g).toInt = 1) (q + 1)) = (nI ((cntP (fun g => (st g).toInt = 1) q) + 1) : Int32) := by first | exact congrArg nI (cntP_y (P := fun g => (st g).toInt = 1) (show (st q).toInt = 1 by omega)) | exact congrArg nI (cntP_n0 (P := fun g => (st g).toInt = 1) (show ¬ (st q).toInt = 1 by omega))
                have e9_3 : nI (cntP (fun g => (st g).toInt = 2) (q + 1)) = (nI ((cntP (fun g => (st g).toInt = 2) q) + 0) : Int32) := by first | exact congrArg nI (cntP_y (P := fun g => (st g).toInt = 2) (show (st q).toInt = 2 by omega)) | exact congrArg nI (cntP_n0 (P := fun g => (st g).toInt = 2) (show ¬ (st q).toInt = 2 by omega))
                have e9_4 : nI (cntP (fun g => ¬ (tn g).toInt = 0) (q + 1)) = (nI ((cntP (fun g => ¬ (tn g).toInt = 0) q) + 1) : Int32) := by first | exact congrArg nI (cntP_y (P := fun g => ¬ (tn g).toInt = 0) (show ¬ (tn q).toInt = 0 by omega)) | exact congrArg nI (cntP_n0 (P := fun g => ¬ (tn g).toInt = 0) (show ¬ ¬ (tn q).toInt = 0 by omega))
                have e9_5 : nI (smP (lvF ft st tn) (fun g => nN (mn g)) (q + 1)) = (nI ((smP (lvF ft st tn) (fun g => nN (mn g)) q) + (nN (mn q))) : Int32) := by first | exact congrArg nI (smP_y (P := lvF ft st tn) (by first | with_reducible assumption | assumption)) | exact congrArg nI (smP_n (P := lvF ft st tn) (by first | with_reducible assumption | assumption))
                have hl9 : lv_has ls 7 [(6, .int (nI (q + 1))), (5, .int (nI (smP (lvF ft st tn) (fun g => nN (mn g)) (q + 1)))), (4, .int (nI (cntP (fun g => ¬ (tn g).toInt = 0) (q + 1)))), (3, .int (nI (cntP (fun g => (st g).toInt = 2) (q + 1)))), (2, .int (nI (cntP (fun g => (st g).toInt = 1) (q + 1)))), (0, .ref k0), (1, .int 3)] := by rw [e9_2]; rw [e9_3]; rw [e9_4]; rw [e9_5]; exact hl9
                exact ih_13 (q + 1) H locs ls (by first | with_reducible assumption | omega) (by first | with_reducible assumption | omega) hP hD hS hl9
          · have c_13 : (st q).toInt = 2 := zc_eq rfl rfl c_13
            refine lv_iconst (v := 1) hx hb dX11_count_53 rfl ?_
            refine lv_goto (tgt := 58) hx hb dX11_count_54 rfl ?_
            refine lv_iadd hx hb dX11_count_58 ?_
            refine zz_i (v := nI ((cntP (fun g => (st g).toInt = 2) q) + 1)) (nI_add (cntP (fun g => (st g).toInt = 2) q) 1) ?_
            refine lv_istore_n (lv' := [(3, .int (nI ((cntP (fun g => (st g).toInt = 2) q) + 1))), (2, .int (nI ((cntP (fun g => (st g).toInt = 1) q) + 1))), (6, .int (nI q)), (5, .int (nI (smP (lvF ft st tn) (fun g => nN (mn g)) q))), (4, .int (nI (cntP (fun g => ¬ (tn g).toInt = 0) q))), (0, .ref k0), (1, .int 3)]) hx hb dX11_count_59 rfl hl (Nat.le_of_ble_eq_true rfl) rfl (fun ls hl => ?_)
            refine lv_iload hx hb dX11_count_60 (lv_at hl 4 rfl) ?_
            refine lv_aload_n hx hb dX11_count_62 rfl (lv_at hl 5 rfl) ?_
            refine va_get (D := (dC, dI)) (ci := 9) (v := .ref (a 6)) (C := RX11) (T := TX11) (N := 55) hx hb hts inX11 hown hK hP 0 rfl rfl 6 (Nat.le_of_ble_eq_true rfl) (hts _ mw_1165) (fun _ h9 => h9) rfl dX11_count_63 ?_
            refine lv_iload hx hb dX11_count_66 (lv_at hl 2 rfl) ?_
            refine z_zald hx hb hK hP 2 1 rfl rfl (e := q) rfl b9_4 (Nat.le_of_ble_eq_true rfl) dX11_count_68 ?_
            refine lv_if_eq (tgt := 76) hx hb dX11_count_69 rfl (fun c_17 => ?_) (fun c_17 => ?_)
            · have c_17 : (tn q).toInt = 0 := zc_eq rfl rfl c_17
              refine lv_iconst (v := 0) hx hb dX11_count_76 rfl ?_
              refine lv_iadd hx hb dX11_count_77 ?_
              refine zz_i (v := nI ((cntP (fun g => ¬ (tn g).toInt = 0) q) + 0)) (nI_add (cntP (fun g => ¬ (tn g).toInt = 0) q) 0) ?_
              refine lv_istore (lv' := [(4, .int (nI ((cntP (fun g => ¬ (tn g).toInt = 0) q) + 0))), (3, .int (nI ((cntP (fun g => (st g).toInt = 2) q) + 1))), (2, .int (nI ((cntP (fun g => (st g).toInt = 1) q) + 1))), (6, .int (nI q)), (5, .int (nI (smP (lvF ft st tn) (fun g => nN (mn g)) q))), (0, .ref k0), (1, .int 3)]) hx hb dX11_count_78 hl (Nat.le_of_ble_eq_true rfl) rfl (fun ls hl => ?_)
              refine lv_iload hx hb dX11_count_80 (lv_at hl 4 rfl) ?_
              refine lv_aload_n hx hb dX11_count_82 rfl (lv_at hl 5 rfl) ?_
              refine lv_iload hx hb dX11_count_83 (lv_at hl 3 rfl) ?_
              obtain ⟨hPc, hDc, hFc, hI1⟩ := zi_sub (wc := [_, _, _]) hP hD hS hA [0, 1, 2] rfl rfl
              refine zcall (st1 := [.int (pI (q < ft ∧ (st q).toInt = 1 ∧ (tn q).toInt = 0)), .int (nI (smP (lvF ft st tn) (fun g => nN (mn g)) q))]) (va_runV (As := [.int (nI q)]) (rest := [.int (nI (smP (lvF ft st tn) (fun g => nN (mn g)) q))]) ⟨hx, hb, hml, hown, hts⟩ (k_M_is_n l dC dI cI cZ cF H.size k0 a I0 J0 q ft st tn (by first | with_reducible assumption | assumption) (by first | with_reducible assumption | omega) (by first | with_reducible assumption | omega)) (csV_179 hts rfl rfl ⟨Nat.le_of_ble_eq_true rfl, Nat.le_of_ble_eq_true rfl⟩) (zPV2 (q0 := 0) (ci := 9) hPc hDc hK hXN rfl rfl) rfl rfl hl.1 rfl (lv_room (Nat.le_of_ble_eq_true rfl)) dX11_count_85 ⟨Nat.le_of_ble_eq_true rfl, Nat.le_of_ble_eq_true rfl⟩) hS hFc hFc rfl (fun t H locs ht hB hk1 hS => ?_)
              obtain ⟨hP1, hD1⟩ := hB
              rw [ht] at hP1
              replace hP := z0 hP hD hk1 hP1 hI1
              clear hk1 hPc hDc hFc hP1 hD1 ht hI1
              refine lv_if_eq (tgt := 101) hx hb dX11_count_88 rfl (fun c_18 => ?_) (fun c_18 => ?_)
              · have c_18 : ¬ (q < ft ∧ (st q).toInt = 1 ∧ (tn q).toInt = 0) := zp_0 c_18
                refine lv_iconst (v := 0) hx hb dX11_count_101 rfl ?_
                refine lv_iadd hx hb dX11_count_102 ?_
                refine zz_i (v := nI ((smP (lvF ft st tn) (fun g => nN (mn g)) q) + 0)) (nI_add (smP (lvF ft st tn) (fun g => nN (mn g)) q) 0) ?_
                refine lv_istore (lv' := [(5, .int (nI ((smP (lvF ft st tn) (fun g => nN (mn g)) q) + 0))), (4, .int (nI ((cntP (fun g => ¬ (tn g).toInt = 0) q) + 0))), (3, .int (nI ((cntP (fun g => (st g).toInt = 2) q) + 1))), (2, .int (nI ((cntP (fun g => (st g).toInt = 1) q) + 1))), (6, .int (nI q)), (0, .ref k0), (1, .int 3)]) hx hb dX11_count_103 hl (Nat.le_of_ble_eq_true rfl) rfl (fun ls hl => ?_)
                refine lv_iinc (v := nI (q + 1)) (lv' := [(6, .int (nI (q + 1))), (5, .int (nI ((smP (lvF ft st tn) (fun g => nN (mn g)) q) + 0))), (4, .int (nI ((cntP (fun g => ¬ (tn g).toInt = 0) q) + 0))), (3, .int (nI ((cntP (fun g => (st g).toInt = 2) q) + 1))), (2, .int (nI ((cntP (fun g => (st g).toInt = 1) q) + 1))), (0, .ref k0), (1, .int 3)]) hx hb dX11_count_105 hl (k := 4) rfl (nI_add q 1) (Nat.le_of_ble_eq_true rfl) rfl (fun ls hl => ?_)
                refine lv_goto (tgt := 13) hx hb dX11_count_108 rfl ?_
                have hl9 := lv_sub hl [0, 1, 2, 3, 4, 5, 6] rfl
                have e9_2 : nI (cntP (fun g => (st g).toInt = 1) (q + 1)) = (nI ((cntP (fun g => (st g).toInt = 1) q) + 1) : Int32) := by first | exact congrArg nI (cntP_y (P := fun g => (st g).toInt = 1) (show (st q).toInt = 1 by omega)) | exact congrArg nI (cntP_n0 (P := fun g => (st g).toInt = 1) (show ¬ (st q).toInt = 1 by omega))
                have e9_3 : nI (cntP (fun g => (st g).toInt = 2) (q + 1)) = (nI ((cntP (fun g => (st g).toInt = 2) q) + 1) : Int32) := by first | exact congrArg nI (cntP_y (P := fun g => (st g).toInt = 2) (show (st q).toInt = 2 by omega)) | exact congrArg nI (cntP_n0 (P := fun g => (st g).toInt = 2) (show ¬ (st q).toInt = 2 by omega))
                have e9_4 : nI (cntP (fun g => ¬ (tn g).toInt = 0) (q + 1)) = (nI ((cntP (fun g => ¬ (tn g).toInt = 0) q) + 0) : Int32) := by first | exact congrArg nI (cntP_y (P := fun g => ¬ (tn g).toInt = 0) (show ¬ (tn q).toInt = 0 by omega)) | exact congrArg nI (cntP_n0 (P := fun g => ¬ (tn g).toInt = 0) (show ¬ ¬ (tn q).toInt = 0 by omega))
                have e9_5 : nI (smP (lvF ft st tn) (fun g => nN (mn g)) (q + 1)) = (nI ((smP (lvF ft st tn) (fun g => nN (mn g)) q) + 0) : Int32) := by first | exact congrArg nI (smP_y (P := lvF ft st tn) (by first | with_reducible assumption | assumption)) | exact congrArg nI (smP_n (P := lvF ft st tn) (by first | with_reducible assumption | assumption))
                have hl9 : lv_has ls 7 [(6, .int (nI (q + 1))), (5, .int (nI (smP (lvF ft st tn) (fun g => nN (mn g)) (q + 1)))), (4, .int (nI (cntP (fun g => ¬ (tn g).toInt = 0) (q + 1)))), (3, .int (nI (cntP (fun g => (st g).toInt = 2) (q + 1)))), (2, .int (nI (cntP (fun g => (st g).toInt = 1) (q + 1)))), (0, .ref k0), (1, .int 3)] := by rw [e9_2]; rw [e9_3]; rw [e9_4]; rw [e9_5]; exact hl9
                exact ih_13 (q + 1) H locs ls (by first | with_reducible assumption | omega) (by first | with_reducible assumption | omega) hP hD hS hl9
              · have c_18 : q < ft ∧ (st q).toInt = 1 ∧ (tn q).toInt = 0 := zp_1 c_18
                refine lv_aload_n hx hb dX11_count_91 rfl (lv_at hl 5 rfl) ?_
                refine va_get (D := (dC, dI)) (ci := 9) (v := .ref (a 11)) (C := RX11) (T := TX11) (N := 55) hx hb hts inX11 hown hK hP 0 rfl rfl 11 (Nat.le_of_ble_eq_true rfl) (hts _ mw_1170) (fun _ h9 => h9) rfl dX11_count_92 ?_
                refine lv_iload hx hb dX11_count_95 (lv_at hl 3 rfl) ?_
                refine z_iald hx hb hK hP 3 0 rfl rfl (e := q) rfl b9_4 (Nat.le_of_ble_eq_true rfl) dX11_count_97 ?_
                refine zz_i (v := nI (nN (mn q))) ((hmw q (by first | with_reducible assumption | assumption)).1) ?_
                refine lv_goto (tgt := 102) hx hb dX11_count_98 rfl ?_
                refine lv_iadd hx hb dX11_count_102 ?_
                refine zz_i (v := nI ((smP (lvF ft st tn) (fun g => nN (mn g)) q) + (nN (mn q)))) (nI_add (smP (lvF ft st tn) (fun g => nN (mn g)) q) (nN (mn q))) ?_
                refine lv_istore (lv' := [(5, .int (nI ((smP (lvF ft st tn) (fun g => nN (mn g)) q) + (nN (mn q))))), (4, .int (nI ((cntP (fun g => ¬ (tn g).toInt = 0) q) + 0))), (3, .int (nI ((cntP (fun g => (st g).toInt = 2) q) + 1))), (2, .int (nI ((cntP (fun g => (st g).toInt = 1) q) + 1))), (6, .int (nI q)), (0, .ref k0), (1, .int 3)]) hx hb dX11_count_103 hl (Nat.le_of_ble_eq_true rfl) rfl (fun ls hl => ?_)
                refine lv_iinc (v := nI (q + 1)) (lv' := [(6, .int (nI (q + 1))), (5, .int (nI ((smP (lvF ft st tn) (fun g => nN (mn g)) q) + (nN (mn q))))), (4, .int (nI ((cntP (fun g => ¬ (tn g).toInt = 0) q) + 0))), (3, .int (nI ((cntP (fun g => (st g).toInt = 2) q) + 1))), (2, .int (nI ((cntP (fun g => (st g).toInt = 1) q) + 1))), (0, .ref k0), (1, .int 3)]) hx hb dX11_count_105 hl (k := 4) rfl (nI_add q 1) (Nat.le_of_ble_eq_true rfl) rfl (fun ls hl => ?_)
                refine lv_goto (tgt := 13) hx hb dX11_count_108 rfl ?_
                have hl9 := lv_sub hl [0, 1, 2, 3, 4, 5, 6] rfl
                have e9_2 : nI (cntP (fun g => (st g).toInt = 1) (q + 1)) = (nI ((cntP (fun g => (st g).toInt = 1) q) + 1) : Int32) := by first | exact congrArg nI (cntP_y (P := fun g => (st g).toInt = 1) (show (st q).toInt = 1 by omega)) | exact congrArg nI (cntP_n0 (P := fun g => (st g).toInt = 1) (show ¬ (st q).toInt = 1 by omega))
                have e9_3 : nI (cntP (fun g => (st g).toInt = 2) (q + 1)) = (nI ((cntP (fun g => (st g).toInt = 2) q) + 1) : Int32) := by first | exact congrArg nI (cntP_y (P := fun g => (st g).toInt = 2) (show (st q).toInt = 2 by omega)) | exact congrArg nI (cntP_n0 (P := fun g => (st g).toInt = 2) (show ¬ (st q).toInt = 2 by omega))
                have e9_4 : nI (cntP (fun g => ¬ (tn g).toInt = 0) (q + 1)) = (nI ((cntP (fun g => ¬ (tn g).toInt = 0) q) + 0) : Int32) := by first | exact congrArg nI (cntP_y (P := fun g => ¬ (tn g).toInt = 0) (show ¬ (tn q).toInt = 0 by omega)) | exact congrArg nI (cntP_n0 (P := fun g => ¬ (tn g).toInt = 0) (show ¬ ¬ (tn q).toInt = 0 by omega))
                have e9_5 : nI (smP (lvF ft st tn) (fun g => nN (mn g)) (q + 1)) = (nI ((smP (lvF ft st tn) (fun g => nN (mn g)) q) + (nN (mn q))) : Int32) := by first | exact congrArg nI (smP_y (P := lvF ft st tn) (by first | with_reducible assumption | assumption)) | exact congrArg nI (smP_n (P := lvF ft st tn) (by first | with_reducible assumption | assumption))
                have hl9 : lv_has ls 7 [(6, .int (nI (q + 1))), (5, .int (nI (smP (lvF ft st tn) (fun g => nN (mn g)) (q + 1)))), (4, .int (nI (cntP (fun g => ¬ (tn g).toInt = 0) (q + 1)))), (3, .int (nI (cntP (fun g => (st g).toInt = 2) (q + 1)))), (2, .int (nI (cntP (fun g => (st g).toInt = 1) (q + 1)))), (0, .ref k0), (1, .int 3)] := by rw [e9_2]; rw [e9_3]; rw [e9_4]; rw [e9_5]; exact hl9
                exact ih_13 (q + 1) H locs ls (by first | with_reducible assumption | omega) (by first | with_reducible assumption | omega) hP hD hS hl9
            · have c_17 : ¬ (tn q).toInt = 0 := zc_ne rfl rfl c_17
              refine lv_iconst (v := 1) hx hb dX11_count_72 rfl ?_
              refine lv_goto (tgt := 77) hx hb dX11_count_73 rfl ?_
              refine lv_iadd hx hb dX11_count_77 ?_
              refine zz_i (v := nI ((cntP (fun g => ¬ (tn g).toInt = 0) q) + 1)) (nI_add (cntP (fun g => ¬ (tn g).toInt = 0) q) 1) ?_
              refine lv_istore (lv' := [(4, .int (nI ((cntP (fun g => ¬ (tn g).toInt = 0) q) + 1))), (3, .int (nI ((cntP (fun g => (st g).toInt = 2) q) + 1))), (2, .int (nI ((cntP (fun g => (st g).toInt = 1) q) + 1))), (6, .int (nI q)), (5, .int (nI (smP (lvF ft st tn) (fun g => nN (mn g)) q))), (0, .ref k0), (1, .int 3)]) hx hb dX11_count_78 hl (Nat.le_of_ble_eq_true rfl) rfl (fun ls hl => ?_)
              refine lv_iload hx hb dX11_count_80 (lv_at hl 4 rfl) ?_
              refine lv_aload_n hx hb dX11_count_82 rfl (lv_at hl 5 rfl) ?_
              refine lv_iload hx hb dX11_count_83 (lv_at hl 3 rfl) ?_
              obtain ⟨hPc, hDc, hFc, hI1⟩ := zi_sub (wc := [_, _, _]) hP hD hS hA [0, 1, 2] rfl rfl
              refine zcall (st1 := [.int (pI (q < ft ∧ (st q).toInt = 1 ∧ (tn q).toInt = 0)), .int (nI (smP (lvF ft st tn) (fun g => nN (mn g)) q))]) (va_runV (As := [.int (nI q)]) (rest := [.int (nI (smP (lvF ft st tn) (fun g => nN (mn g)) q))]) ⟨hx, hb, hml, hown, hts⟩ (k_M_is_n l dC dI cI cZ cF H.size k0 a I0 J0 q ft st tn (by first | with_reducible assumption | assumption) (by first | with_reducible assumption | omega) (by first | with_reducible assumption | omega)) (csV_179 hts rfl rfl ⟨Nat.le_of_ble_eq_true rfl, Nat.le_of_ble_eq_true rfl⟩) (zPV2 (q0 := 0) (ci := 9) hPc hDc hK hXN rfl rfl) rfl rfl hl.1 rfl (lv_room (Nat.le_of_ble_eq_true rfl)) dX11_count_85 ⟨Nat.le_of_ble_eq_true rfl, Nat.le_of_ble_eq_true rfl⟩) hS hFc hFc rfl (fun t H locs ht hB hk1 hS => ?_)
              obtain ⟨hP1, hD1⟩ := hB
              rw [ht] at hP1
              replace hP := z0 hP hD hk1 hP1 hI1
              clear hk1 hPc hDc hFc hP1 hD1 ht hI1
              refine lv_if_eq (tgt := 101) hx hb dX11_count_88 rfl (fun c_19 => ?_) (fun c_19 => ?_)
              · have c_19 : ¬ (q < ft ∧ (st q).toInt = 1 ∧ (tn q).toInt = 0) := zp_0 c_19
                refine lv_iconst (v := 0) hx hb dX11_count_101 rfl ?_
                refine lv_iadd hx hb dX11_count_102 ?_
                refine zz_i (v := nI ((smP (lvF ft st tn) (fun g => nN (mn g)) q) + 0)) (nI_add (smP (lvF ft st tn) (fun g => nN (mn g)) q) 0) ?_
                refine lv_istore (lv' := [(5, .int (nI ((smP (lvF ft st tn) (fun g => nN (mn g)) q) + 0))), (4, .int (nI ((cntP (fun g => ¬ (tn g).toInt = 0) q) + 1))), (3, .int (nI ((cntP (fun g => (st g).toInt = 2) q) + 1))), (2, .int (nI ((cntP (fun g => (st g).toInt = 1) q) + 1))), (6, .int (nI q)), (0, .ref k0), (1, .int 3)]) hx hb dX11_count_103 hl (Nat.le_of_ble_eq_true rfl) rfl (fun ls hl => ?_)
                refine lv_iinc (v := nI (q + 1)) (lv' := [(6, .int (nI (q + 1))), (5, .int (nI ((smP (lvF ft st tn) (fun g => nN (mn g)) q) + 0))), (4, .int (nI ((cntP (fun g => ¬ (tn g).toInt = 0) q) + 1))), (3, .int (nI ((cntP (fun g => (st g).toInt = 2) q) + 1))), (2, .int (nI ((cntP (fun g => (st g).toInt = 1) q) + 1))), (0, .ref k0), (1, .int 3)]) hx hb dX11_count_105 hl (k := 4) rfl (nI_add q 1) (Nat.le_of_ble_eq_true rfl) rfl (fun ls hl => ?_)
                refine lv_goto (tgt := 13) hx hb dX11_count_108 rfl ?_
                have hl9 := lv_sub hl [0, 1, 2, 3, 4, 5, 6] rfl
                have e9_2 : nI (cntP (fun g => (st g).toInt = 1) (q + 1)) = (nI ((cntP (fun g => (st g).toInt = 1) q) + 1) : Int32) := by first | exact congrArg nI (cntP_y (P := fun g => (st g).toInt = 1) (show (st q).toInt = 1 by omega)) | exact congrArg nI (cntP_n0 (P := fun g => (st g).toInt = 1) (show ¬ (st q).toInt = 1 by omega))
                have e9_3 : nI (cntP (fun g => (st g).toInt = 2) (q + 1)) = (nI ((cntP (fun g => (st g).toInt = 2) q) + 1) : Int32) := by first | exact congrArg nI (cntP_y (P := fun g => (st g).toInt = 2) (show (st q).toInt = 2 by omega)) | exact congrArg nI (cntP_n0 (P := fun g => (st g).toInt = 2) (show ¬ (st q).toInt = 2 by omega))
                have e9_4 : nI (cntP (fun g => ¬ (tn g).toInt = 0) (q + 1)) = (nI ((cntP (fun g => ¬ (tn g).toInt = 0) q) + 1) : Int32) := by first | exact congrArg nI (cntP_y (P := fun g => ¬ (tn g).toInt = 0) (show ¬ (tn q).toInt = 0 by omega)) | exact congrArg nI (cntP_n0 (P := fun g => ¬ (tn g).toInt = 0) (show ¬ ¬ (tn q).toInt = 0 by omega))
                have e9_5 : nI (smP (lvF ft st tn) (fun g => nN (mn g)) (q + 1)) = (nI ((smP (lvF ft st tn) (fun g => nN (mn g)) q) + 0) : Int32) := by first | exact congrArg nI (smP_y (P := lvF ft st tn) (by first | with_reducible assumption | assumption)) | exact congrArg nI (smP_n (P := lvF ft st tn) (by first | with_reducible assumption | assumption))
                have hl9 : lv_has ls 7 [(6, .int (nI (q + 1))), (5, .int (nI (smP (lvF ft st tn) (fun g => nN (mn g)) (q + 1)))), (4, .int (nI (cntP (fun g => ¬ (tn g).toInt = 0) (q + 1)))), (3, .int (nI (cntP (fun g => (st g).toInt = 2) (q + 1)))), (2, .int (nI (cntP (fun g => (st g).toInt = 1) (q + 1)))), (0, .ref k0), (1, .int 3)] := by rw [e9_2]; rw [e9_3]; rw [e9_4]; rw [e9_5]; exact hl9
                exact ih_13 (q + 1) H locs ls (by first | with_reducible assumption | omega) (by first | with_reducible assumption | omega) hP hD hS hl9
              · have c_19 : q < ft ∧ (st q).toInt = 1 ∧ (tn q).toInt = 0 := zp_1 c_19
                refine lv_aload_n hx hb dX11_count_91 rfl (lv_at hl 5 rfl) ?_
                refine va_get (D := (dC, dI)) (ci := 9) (v := .ref (a 11)) (C := RX11) (T := TX11) (N := 55) hx hb hts inX11 hown hK hP 0 rfl rfl 11 (Nat.le_of_ble_eq_true rfl) (hts _ mw_1170) (fun _ h9 => h9) rfl dX11_count_92 ?_
                refine lv_iload hx hb dX11_count_95 (lv_at hl 3 rfl) ?_
                refine z_iald hx hb hK hP 3 0 rfl rfl (e := q) rfl b9_4 (Nat.le_of_ble_eq_true rfl) dX11_count_97 ?_
                refine zz_i (v := nI (nN (mn q))) ((hmw q (by first | with_reducible assumption | assumption)).1) ?_
                refine lv_goto (tgt := 102) hx hb dX11_count_98 rfl ?_
                refine lv_iadd hx hb dX11_count_102 ?_
                refine zz_i (v := nI ((smP (lvF ft st tn) (fun g => nN (mn g)) q) + (nN (mn q)))) (nI_add (smP (lvF ft st tn) (fun g => nN (mn g)) q) (nN (mn q))) ?_
                refine lv_istore (lv' := [(5, .int (nI ((smP (lvF ft st tn) (fun g => nN (mn g)) q) + (nN (mn q))))), (4, .int (nI ((cntP (fun g => ¬ (tn g).toInt = 0) q) + 1))), (3, .int (nI ((cntP (fun g => (st g).toInt = 2) q) + 1))), (2, .int (nI ((cntP (fun g => (st g).toInt = 1) q) + 1))), (6, .int (nI q)), (0, .ref k0), (1, .int 3)]) hx hb dX11_count_103 hl (Nat.le_of_ble_eq_true rfl) rfl (fun ls hl => ?_)
                refine lv_iinc (v := nI (q + 1)) (lv' := [(6, .int (nI (q + 1))), (5, .int (nI ((smP (lvF ft st tn) (fun g => nN (mn g)) q) + (nN (mn q))))), (4, .int (nI ((cntP (fun g => ¬ (tn g).toInt = 0) q) + 1))), (3, .int (nI ((cntP (fun g => (st g).toInt = 2) q) + 1))), (2, .int (nI ((cntP (fun g => (st g).toInt = 1) q) + 1))), (0, .ref k0), (1, .int 3)]) hx hb dX11_count_105 hl (k := 4) rfl (nI_add q 1) (Nat.le_of_ble_eq_true rfl) rfl (fun ls hl => ?_)
                refine lv_goto (tgt := 13) hx hb dX11_count_108 rfl ?_
                have hl9 := lv_sub hl [0, 1, 2, 3, 4, 5, 6] rfl
                have e9_2 : nI (cntP (fun g => (st g).toInt = 1) (q + 1)) = (nI ((cntP (fun g => (st g).toInt = 1) q) + 1) : Int32) := by first | exact congrArg nI (cntP_y (P := fun g => (st g).toInt = 1) (show (st q).toInt = 1 by omega)) | exact congrArg nI (cntP_n0 (P := fun g => (st g).toInt = 1) (show ¬ (st q).toInt = 1 by omega))
                have e9_3 : nI (cntP (fun g => (st g).toInt = 2) (q + 1)) = (nI ((cntP (fun g => (st g).toInt = 2) q) + 1) : Int32) := by first | exact congrArg nI (cntP_y (P := fun g => (st g).toInt = 2) (show (st q).toInt = 2 by omega)) | exact congrArg nI (cntP_n0 (P := fun g => (st g).toInt = 2) (show ¬ (st q).toInt = 2 by omega))
                have e9_4 : nI (cntP (fun g => ¬ (tn g).toInt = 0) (q + 1)) = (nI ((cntP (fun g => ¬ (tn g).toInt = 0) q) + 1) : Int32) := by first | exact congrArg nI (cntP_y (P := fun g => ¬ (tn g).toInt = 0) (show ¬ (tn q).toInt = 0 by omega)) | exact congrArg nI (cntP_n0 (P := fun g => ¬ (tn g).toInt = 0) (show ¬ ¬ (tn q).toInt = 0 by omega))
                have e9_5 : nI (smP (lvF ft st tn) (fun g => nN (mn g)) (q + 1)) = (nI ((smP (lvF ft st tn) (fun g => nN (mn g)) q) + (nN (mn q))) : Int32) := by first | exact congrArg nI (smP_y (P := lvF ft st tn) (by first | with_reducible assumption | assumption)) | exact congrArg nI (smP_n (P := lvF ft st tn) (by first | with_reducible assumption | assumption))
                have hl9 : lv_has ls 7 [(6, .int (nI (q + 1))), (5, .int (nI (smP (lvF ft st tn) (fun g => nN (mn g)) (q + 1)))), (4, .int (nI (cntP (fun g => ¬ (tn g).toInt = 0) (q + 1)))), (3, .int (nI (cntP (fun g => (st g).toInt = 2) (q + 1)))), (2, .int (nI (cntP (fun g => (st g).toInt = 1) (q + 1)))), (0, .ref k0), (1, .int 3)] := by rw [e9_2]; rw [e9_3]; rw [e9_4]; rw [e9_5]; exact hl9
                exact ih_13 (q + 1) H locs ls (by first | with_reducible assumption | omega) (by first | with_reducible assumption | omega) hP hD hS hl9
  have e9_2 : nI (cntP (fun g => (st g).toInt = 1) 0) = (0 : Int32) := by rfl
  have e9_3 : nI (cntP (fun g => (st g).toInt = 2) 0) = (0 : Int32) := by rfl
  have e9_4 : nI (cntP (fun g => ¬ (tn g).toInt = 0) 0) = (0 : Int32) := by rfl
  have e9_5 : nI (smP (lvF ft st tn) (fun g => nN (mn g)) 0) = (0 : Int32) := by rfl
  have hl9 : lv_has ls 7 [(6, .int (nI 0)), (5, .int (nI (smP (lvF ft st tn) (fun g => nN (mn g)) 0))), (4, .int (nI (cntP (fun g => ¬ (tn g).toInt = 0) 0))), (3, .int (nI (cntP (fun g => (st g).toInt = 2) 0))), (2, .int (nI (cntP (fun g => (st g).toInt = 1) 0))), (0, .ref k0), (1, .int 3)] := by rw [e9_2]; rw [e9_3]; rw [e9_4]; rw [e9_5]; exact lv_sub hl [0, 1, 2, 3, 4, 5, 6] rfl
  exact hl_13 _ 0 s.heap [] ls (Nat.lt_succ_self _) (by first | with_reducible assumption | omega) hP hD hS hl9
set_option maxHeartbeats 4000000 in
set_option maxRecDepth 100000 in
theorem k_M_count_4 (l : Launch) (dC : Nat → ClassId) (dI : Nat → Nat → Nat) (cI cZ cF : ClassId) (sz : Nat) (k0 : Nat) (a : Nat → Nat) (I0 : Nat → Int32) (J0 : Nat → Int64) (ft : Nat) (st : Nat → Int32) (tn : Nat → Int32) (mn : Nat → Int32) (hft : I0 0 = nI ft) (h200 : ft ≤ 200) (hmw : ∀ q, lvF ft st tn q → mn q = nI (nN (mn q)) ∧ nN (mn q) ≤ 40) : zM l yX11_count cX11_count 7 (some .int) ({ frames := 2, cells := 0, slots := 0, locals := 42 } : Room) [.ref k0, .int 4] (dC, dI) (zTy cI cZ cF) [(om k0 a I0 J0), (oa (a 5) cI 201 st), (oa (a 6) cZ 201 tn), (oa (a 11) cI 201 mn)] sz (some (.int (nI (smP (lvF ft st tn) (fun g => nN (mn g)) ft)))) (fun A t => zPD (dC, dI) classes A [(om k0 a I0 J0), (oa (a 5) cI 201 st), (oa (a 6) cZ 201 tn), (oa (a 11) cI 201 mn)] t.heap) 0 0 := by
  refine zIn (own := "ScaleShopModel") (loc := [(0, .ref k0), (1, .int 4)]) rfl rfl rfl rfl (fun p e s m below meth c hx hb hr hts hown hlocks hml hnm9 A hA hS hP hD hK hXN Q9 hQ9 ls hl => ?_)
  refine lv_iconst (v := 0) hx hb dX11_count_0 rfl ?_
  refine lv_istore_n (lv' := [(2, .int 0), (0, .ref k0), (1, .int 4)]) hx hb dX11_count_1 rfl hl (Nat.le_of_ble_eq_true rfl) rfl (fun ls hl => ?_)
  refine lv_iconst (v := 0) hx hb dX11_count_2 rfl ?_
  refine lv_istore_n (lv' := [(3, .int 0), (2, .int 0), (0, .ref k0), (1, .int 4)]) hx hb dX11_count_3 rfl hl (Nat.le_of_ble_eq_true rfl) rfl (fun ls hl => ?_)
  refine lv_iconst (v := 0) hx hb dX11_count_4 rfl ?_
  refine lv_istore (lv' := [(4, .int 0), (3, .int 0), (2, .int 0), (0, .ref k0), (1, .int 4)]) hx hb dX11_count_5 hl (Nat.le_of_ble_eq_true rfl) rfl (fun ls hl => ?_)
  refine lv_iconst (v := 0) hx hb dX11_count_7 rfl ?_
  refine lv_istore (lv' := [(5, .int 0), (4, .int 0), (3, .int 0), (2, .int 0), (0, .ref k0), (1, .int 4)]) hx hb dX11_count_8 hl (Nat.le_of_ble_eq_true rfl) rfl (fun ls hl => ?_)
  refine lv_iconst (v := 0) hx hb dX11_count_10 rfl ?_
  refine lv_istore (lv' := [(6, .int 0), (5, .int 0), (4, .int 0), (3, .int 0), (2, .int 0), (0, .ref k0), (1, .int 4)]) hx hb dX11_count_11 hl (Nat.le_of_ble_eq_true rfl) rfl (fun ls hl => ?_)
  have hl_13 : ∀ (n9 : Nat) (q : Nat) (H : Heap) (locs : List Loc) (ls : Array Slot), ft - q < n9 → (q ≤ ft) → va_P (dC, dI) classes [(om k0 a I0 J0), (oa (a 5) cI 201 st), (oa (a 6) cZ 201 tn), (oa (a 11) cI 201 mn)] H → va_D A [(om k0 a I0 J0), (oa (a 5) cI 201 st), (oa (a 6) cZ 201 tn), (oa (a 11) cI 201 mn)] → va_S A s.heap H locs → lv_has ls 7 [(6, .int (nI q)), (5, .int (nI (smP (lvF ft st tn) (fun g => nN (mn g)) q))), (4, .int (nI (cntP (fun g => ¬ (tn g).toInt = 0) q))), (3, .int (nI (cntP (fun g => (st g).toInt = 2) q))), (2, .int (nI (cntP (fun g => (st g).toInt = 1) q))), (0, .ref k0), (1, .int 4)] → W p l e ({ frames := 2, cells := 0, slots := 0, locals := 42 } : Room) s m ([.ref k0, .int 4] : List Value).toArray below meth c H locs 0 0 Q9 (F0 m 13 ls []) := by
    intro n9
    induction n9 with
    | zero => intro q H locs ls hm; exact absurd hm (Nat.not_lt_zero _)
    | succ n9 ih_13 =>
      intro q H locs ls hm hq hP hD hS hl
      have hc2 := cntP_b (fun g => (st g).toInt = 1) q
      have hc3 := cntP_b (fun g => (st g).toInt = 2) q
      have hc4 := cntP_b (fun g => ¬ (tn g).toInt = 0) q
      have hc5 := smP_b (P := lvF ft st tn) (c := fun g => nN (mn g)) q (fun j _ h => (hmw j h).2)
      refine lv_iload hx hb dX11_count_13 (lv_at hl 0 rfl) ?_
      refine lv_aload_n hx hb dX11_count_15 rfl (lv_at hl 5 rfl) ?_
      refine va_get (D := (dC, dI)) (ci := 9) (v := .int (I0 0)) (C := RX11) (T := TX11) (N := 55) hx hb hts inX11 hown hK hP 0 rfl rfl 0 (Nat.le_of_ble_eq_true rfl) (hts _ mw_1159) (fun _ h9 => h9) rfl dX11_count_16 ?_
      refine zz_i (v := nI ft) (hft) ?_
      have b9_2 : zlt (q) := show q < 2147483648 by omega
      have b9_3 : zlt (ft) := show ft < 2147483648 by omega
      refine lv_icmp_ge (tgt := 111) hx hb dX11_count_19 rfl (fun c_1 => ?_) (fun c_1 => ?_)
      · have c_1 : ((ft : Nat) : Int) ≤ ((q : Nat) : Int) := zc_le (nI_toInt b9_3) (nI_toInt b9_2) c_1
        refine lv_iload_n hx hb dX11_count_111 rfl (lv_at hl 6 rfl) ?_
        refine lv_tableIn (tgt := 172) (off := 60) hx hb dX11_count_112 (by decide) (by decide) (by decide) (by decide) ?_
        refine lv_iload hx hb dX11_count_172 (lv_at hl 1 rfl) ?_
        obtain ⟨hP9, hD9⟩ := zu_sub (wc := [_, _, _, _]) hP hD [true, true, true, true] rfl rfl
        rw [hQ9]
        exact W.iret (v := nI (smP (lvF ft st tn) (fun g => nN (mn g)) q)) hx hb hr (fun t ht hW => ⟨⟨congrArg (fun z => Outcome.returned (some (Value.int z))) (show (nI (smP (lvF ft st tn) (fun g => nN (mn g)) q) : Int32) = nI (smP (lvF ft st tn) (fun g => nN (mn g)) ft) from zn_eq (by rw [show q = ft by omega])), by rw [ht]; exact hP9, hD9⟩, hS.F ht⟩) hS.2.2 dX11_count_174
      · have c_1 : ((q : Nat) : Int) < ((ft : Nat) : Int) := zc_nle (nI_toInt b9_3) (nI_toInt b9_2) c_1
        refine lv_iload_n hx hb dX11_count_22 rfl (lv_at hl 4 rfl) ?_
        refine lv_aload_n hx hb dX11_count_23 rfl (lv_at hl 5 rfl) ?_
        refine va_get (D := (dC, dI)) (ci := 9) (v := .ref (a 5)) (C := RX11) (T := TX11) (N := 55) hx hb hts inX11 hown hK hP 0 rfl rfl 5 (Nat.le_of_ble_eq_true rfl) (hts _ mw_1164) (fun _ h9 => h9) rfl dX11_count_24 ?_
        refine lv_iload hx hb dX11_count_27 (lv_at hl 0 rfl) ?_
        have b9_4 : q < 201 := by omega
        refine z_iald hx hb hK hP 1 0 rfl rfl (e := q) rfl b9_4 (Nat.le_of_ble_eq_true rfl) dX11_count_29 ?_
        refine lv_iconst (v := 1) hx hb dX11_count_30 rfl ?_
        refine lv_icmp_ne (tgt := 38) hx hb dX11_count_31 rfl (fun c_5 => ?_) (fun c_5 => ?_)
        · have c_5 : ¬ (st q).toInt = 1 := zc_ne rfl rfl c_5
          refine lv_iconst (v := 0) hx hb dX11_count_38 rfl ?_
          refine lv_iadd hx hb dX11_count_39 ?_
          refine zz_i (v := nI ((cntP (fun g => (st g).toInt = 1) q) + 0)) (nI_add (cntP (fun g => (st g).toInt = 1) q) 0) ?_
          refine lv_istore_n (lv' := [(2, .int (nI ((cntP (fun g => (st g).toInt = 1) q) + 0))), (6, .int (nI q)), (5, .int (nI (smP (lvF ft st tn) (fun g => nN (mn g)) q))), (4, .int (nI (cntP (fun g => ¬ (tn g).toInt = 0) q))), (3, .int (nI (cntP (fun g => (st g).toInt = 2) q))), (0, .ref k0), (1, .int 4)]) hx hb dX11_count_40 rfl hl (Nat.le_of_ble_eq_true rfl) rfl (fun ls hl => ?_)
          refine lv_iload_n hx hb dX11_count_41 rfl (lv_at hl 4 rfl) ?_
          refine lv_aload_n hx hb dX11_count_42 rfl (lv_at hl 5 rfl) ?_
          refine va_get (D := (dC, dI)) (ci := 9) (v := .ref (a 5)) (C := RX11) (T := TX11) (N := 55) hx hb hts inX11 hown hK hP 0 rfl rfl 5 (Nat.le_of_ble_eq_true rfl) (hts _ mw_1164) (fun _ h9 => h9) rfl dX11_count_43 ?_
          refine lv_iload hx hb dX11_count_46 (lv_at hl 1 rfl) ?_
          refine z_iald hx hb hK hP 1 0 rfl rfl (e := q) rfl b9_4 (Nat.le_of_ble_eq_true rfl) dX11_count_48 ?_
          refine lv_iconst (v := 2) hx hb dX11_count_49 rfl ?_
          refine lv_icmp_ne (tgt := 57) hx hb dX11_count_50 rfl (fun c_6 => ?_) (fun c_6 => ?_)
          · have c_6 : ¬ (st q).toInt = 2 := zc_ne rfl rfl c_6
            refine lv_iconst (v := 0) hx hb dX11_count_57 rfl ?_
            refine lv_iadd hx hb dX11_count_58 ?_
            refine zz_i (v := nI ((cntP (fun g => (st g).toInt = 2) q) + 0)) (nI_add (cntP (fun g => (st g).toInt = 2) q) 0) ?_
            refine lv_istore_n (lv' := [(3, .int (nI ((cntP (fun g => (st g).toInt = 2) q) + 0))), (2, .int (nI ((cntP (fun g => (st g).toInt = 1) q) + 0))), (6, .int (nI q)), (5, .int (nI (smP (lvF ft st tn) (fun g => nN (mn g)) q))), (4, .int (nI (cntP (fun g => ¬ (tn g).toInt = 0) q))), (0, .ref k0), (1, .int 4)]) hx hb dX11_count_59 rfl hl (Nat.le_of_ble_eq_true rfl) rfl (fun ls hl => ?_)
            refine lv_iload hx hb dX11_count_60 (lv_at hl 4 rfl) ?_
            refine lv_aload_n hx hb dX11_count_62 rfl (lv_at hl 5 rfl) ?_
            refine va_get (D := (dC, dI)) (ci := 9) (v := .ref (a 6)) (C := RX11) (T := TX11) (N := 55) hx hb hts inX11 hown hK hP 0 rfl rfl 6 (Nat.le_of_ble_eq_true rfl) (hts _ mw_1165) (fun _ h9 => h9) rfl dX11_count_63 ?_
            refine lv_iload hx hb dX11_count_66 (lv_at hl 2 rfl) ?_
            refine z_zald hx hb hK hP 2 1 rfl rfl (e := q) rfl b9_4 (Nat.le_of_ble_eq_true rfl) dX11_count_68 ?_
            refine lv_if_eq (tgt := 76) hx hb dX11_count_69 rfl (fun c_7 => ?_) (fun c_7 => ?_)
            · have c_7 : (tn q).toInt = 0 := zc_eq rfl rfl c_7
              refine lv_iconst (v := 0) hx hb dX11_count_76 rfl ?_
              refine lv_iadd hx hb dX11_count_77 ?_
              refine zz_i (v := nI ((cntP (fun g => ¬ (tn g).toInt = 0) q) + 0)) (nI_add (cntP (fun g => ¬ (tn g).toInt = 0) q) 0) ?_
              refine lv_istore (lv' := [(4, .int (nI ((cntP (fun g => ¬ (tn g).toInt = 0) q) + 0))), (3, .int (nI ((cntP (fun g => (st g).toInt = 2) q) + 0))), (2, .int (nI ((cntP (fun g => (st g).toInt = 1) q) + 0))), (6, .int (nI q)), (5, .int (nI (smP (lvF ft st tn) (fun g => nN (mn g)) q))), (0, .ref k0), (1, .int 4)]) hx hb dX11_count_78 hl (Nat.le_of_ble_eq_true rfl) rfl (fun ls hl => ?_)
              refine lv_iload hx hb dX11_count_80 (lv_at hl 4 rfl) ?_
              refine lv_aload_n hx hb dX11_count_82 rfl (lv_at hl 5 rfl) ?_
              refine lv_iload hx hb dX11_count_83 (lv_at hl 3 rfl) ?_
              obtain ⟨hPc, hDc, hFc, hI1⟩ := zi_sub (wc := [_, _, _]) hP hD hS hA [0, 1, 2] rfl rfl
              refine zcall (st1 := [.int (pI (q < ft ∧ (st q).toInt = 1 ∧ (tn q).toInt = 0)), .int (nI (smP (lvF ft st tn) (fun g => nN (mn g)) q))]) (va_runV (As := [.int (nI q)]) (rest := [.int (nI (smP (lvF ft st tn) (fun g => nN (mn g)) q))]) ⟨hx, hb, hml, hown, hts⟩ (k_M_is_n l dC dI cI cZ cF H.size k0 a I0 J0 q ft st tn (by first | with_reducible assumption | assumption) (by first | with_reducible assumption | omega) (by first | with_reducible assumption | omega)) (csV_179 hts rfl rfl ⟨Nat.le_of_ble_eq_true rfl, Nat.le_of_ble_eq_true rfl⟩) (zPV2 (q0 := 0) (ci := 9) hPc hDc hK hXN rfl rfl) rfl rfl hl.1 rfl (lv_room (Nat.le_of_ble_eq_true rfl)) dX11_count_85 ⟨Nat.le_of_ble_eq_true rfl, Nat.le_of_ble_eq_true rfl⟩) hS hFc hFc rfl (fun t H locs ht hB hk1 hS => ?_)
              obtain ⟨hP1, hD1⟩ := hB
              rw [ht] at hP1
              replace hP := z0 hP hD hk1 hP1 hI1
              clear hk1 hPc hDc hFc hP1 hD1 ht hI1
              refine lv_if_eq (tgt := 101) hx hb dX11_count_88 rfl (fun c_8 => ?_) (fun c_8 => ?_)
              · have c_8 : ¬ (q < ft ∧ (st q).toInt = 1 ∧ (tn q).toInt = 0) := zp_0 c_8
                refine lv_iconst (v := 0) hx hb dX11_count_101 rfl ?_
                refine lv_iadd hx hb dX11_count_102 ?_
                refine zz_i (v := nI ((smP (lvF ft st tn) (fun g => nN (mn g)) q) + 0)) (nI_add (smP (lvF ft st tn) (fun g => nN (mn g)) q) 0) ?_
                refine lv_istore (lv' := [(5, .int (nI ((smP (lvF ft st tn) (fun g => nN (mn g)) q) + 0))), (4, .int (nI ((cntP (fun g => ¬ (tn g).toInt = 0) q) + 0))), (3, .int (nI ((cntP (fun g => (st g).toInt = 2) q) + 0))), (2, .int (nI ((cntP (fun g => (st g).toInt = 1) q) + 0))), (6, .int (nI q)), (0, .ref k0), (1, .int 4)]) hx hb dX11_count_103 hl (Nat.le_of_ble_eq_true rfl) rfl (fun ls hl => ?_)
                refine lv_iinc (v := nI (q + 1)) (lv' := [(6, .int (nI (q + 1))), (5, .int (nI ((smP (lvF ft st tn) (fun g => nN (mn g)) q) + 0))), (4, .int (nI ((cntP (fun g => ¬ (tn g).toInt = 0) q) + 0))), (3, .int (nI ((cntP (fun g => (st g).toInt = 2) q) + 0))), (2, .int (nI ((cntP (fun g => (st g).toInt = 1) q) + 0))), (0, .ref k0), (1, .int 4)]) hx hb dX11_count_105 hl (k := 4) rfl (nI_add q 1) (Nat.le_of_ble_eq_true rfl) rfl (fun ls hl => ?_)
                refine lv_goto (tgt := 13) hx hb dX11_count_108 rfl ?_
                have hl9 := lv_sub hl [0, 1, 2, 3, 4, 5, 6] rfl
                have e9_2 : nI (cntP (fun g => (st g).toInt = 1) (q + 1)) = (nI ((cntP (fun g => (st g).toInt = 1) q) + 0) : Int32) := by first | exact congrArg nI (cntP_y (P := fun g => (st g).toInt = 1) (show (st q).toInt = 1 by omega)) | exact congrArg nI (cntP_n0 (P := fun g => (st g).toInt = 1) (show ¬ (st q).toInt = 1 by omega))
                have e9_3 : nI (cntP (fun g => (st g).toInt = 2) (q + 1)) = (nI ((cntP (fun g => (st g).toInt = 2) q) + 0) : Int32) := by first | exact congrArg nI (cntP_y (P := fun g => (st g).toInt = 2) (show (st q).toInt = 2 by omega)) | exact congrArg nI (cntP_n0 (P := fun g => (st g).toInt = 2) (show ¬ (st q).toInt = 2 by omega))
                have e9_4 : nI (cntP (fun g => ¬ (tn g).toInt = 0) (q + 1)) = (nI ((cntP (fun g => ¬ (tn g).toInt = 0) q) + 0) : Int32) := by first | exact congrArg nI (cntP_y (P := fun g => ¬ (tn g).toInt = 0) (show ¬ (tn q).toInt = 0 by omega)) | exact congrArg nI (cntP_n0 (P := fun g => ¬ (tn g).toInt = 0) (show ¬ ¬ (tn q).toInt = 0 by omega))
                have e9_5 : nI (smP (lvF ft st tn) (fun g => nN (mn g)) (q + 1)) = (nI ((smP (lvF ft st tn) (fun g => nN (mn g)) q) + 0) : Int32) := by first | exact congrArg nI (smP_y (P := lvF ft st tn) (by first | with_reducible assumption | assumption)) | exact congrArg nI (smP_n (P := lvF ft st tn) (by first | with_reducible assumption | assumption))
                have hl9 : lv_has ls 7 [(6, .int (nI (q + 1))), (5, .int (nI (smP (lvF ft st tn) (fun g => nN (mn g)) (q + 1)))), (4, .int (nI (cntP (fun g => ¬ (tn g).toInt = 0) (q + 1)))), (3, .int (nI (cntP (fun g => (st g).toInt = 2) (q + 1)))), (2, .int (nI (cntP (fun g => (st g).toInt = 1) (q + 1)))), (0, .ref k0), (1, .int 4)] := by rw [e9_2]; rw [e9_3]; rw [e9_4]; rw [e9_5]; exact hl9
                exact ih_13 (q + 1) H locs ls (by first | with_reducible assumption | omega) (by first | with_reducible assumption | omega) hP hD hS hl9
              · have c_8 : q < ft ∧ (st q).toInt = 1 ∧ (tn q).toInt = 0 := zp_1 c_8
                refine lv_aload_n hx hb dX11_count_91 rfl (lv_at hl 5 rfl) ?_
                refine va_get (D := (dC, dI)) (ci := 9) (v := .ref (a 11)) (C := RX11) (T := TX11) (N := 55) hx hb hts inX11 hown hK hP 0 rfl rfl 11 (Nat.le_of_ble_eq_true rfl) (hts _ mw_1170) (fun _ h9 => h9) rfl dX11_count_92 ?_
                refine lv_iload hx hb dX11_count_95 (lv_at hl 3 rfl) ?_
                refine z_iald hx hb hK hP 3 0 rfl rfl (e := q) rfl b9_4 (Nat.le_of_ble_eq_true rfl) dX11_count_97 ?_
                refine zz_i (v := nI (nN (mn q))) ((hmw q (by first | with_reducible assumption | assumption)).1) ?_
                refine lv_goto (tgt := 102) hx hb dX11_count_98 rfl ?_
                refine lv_iadd hx hb dX11_count_102 ?_
                refine zz_i (v := nI ((smP (lvF ft st tn) (fun g => nN (mn g)) q) + (nN (mn q)))) (nI_add (smP (lvF ft st tn) (fun g => nN (mn g)) q) (nN (mn q))) ?_
                refine lv_istore (lv' := [(5, .int (nI ((smP (lvF ft st tn) (fun g => nN (mn g)) q) + (nN (mn q))))), (4, .int (nI ((cntP (fun g => ¬ (tn g).toInt = 0) q) + 0))), (3, .int (nI ((cntP (fun g => (st g).toInt = 2) q) + 0))), (2, .int (nI ((cntP (fun g => (st g).toInt = 1) q) + 0))), (6, .int (nI q)), (0, .ref k0), (1, .int 4)]) hx hb dX11_count_103 hl (Nat.le_of_ble_eq_true rfl) rfl (fun ls hl => ?_)
                refine lv_iinc (v := nI (q + 1)) (lv' := [(6, .int (nI (q + 1))), (5, .int (nI ((smP (lvF ft st tn) (fun g => nN (mn g)) q) + (nN (mn q))))), (4, .int (nI ((cntP (fun g => ¬ (tn g).toInt = 0) q) + 0))), (3, .int (nI ((cntP (fun g => (st g).toInt = 2) q) + 0))), (2, .int (nI ((cntP (fun g => (st g).toInt = 1) q) + 0))), (0, .ref k0), (1, .int 4)]) hx hb dX11_count_105 hl (k := 4) rfl (nI_add q 1) (Nat.le_of_ble_eq_true rfl) rfl (fun ls hl => ?_)
                refine lv_goto (tgt := 13) hx hb dX11_count_108 rfl ?_
                have hl9 := lv_sub hl [0, 1, 2, 3, 4, 5, 6] rfl
                have e9_2 : nI (cntP (fun g => (st g).toInt = 1) (q + 1)) = (nI ((cntP (fun g => (st g).toInt = 1) q) + 0) : Int32) := by first | exact congrArg nI (cntP_y (P := fun g => (st g).toInt = 1) (show (st q).toInt = 1 by omega)) | exact congrArg nI (cntP_n0 (P := fun g => (st g).toInt = 1) (show ¬ (st q).toInt = 1 by omega))
                have e9_3 : nI (cntP (fun g => (st g).toInt = 2) (q + 1)) = (nI ((cntP (fun g => (st g).toInt = 2) q) + 0) : Int32) := by first | exact congrArg nI (cntP_y (P := fun g => (st g).toInt = 2) (show (st q).toInt = 2 by omega)) | exact congrArg nI (cntP_n0 (P := fun g => (st g).toInt = 2) (show ¬ (st q).toInt = 2 by omega))
                have e9_4 : nI (cntP (fun g => ¬ (tn g).toInt = 0) (q + 1)) = (nI ((cntP (fun g => ¬ (tn g).toInt = 0) q) + 0) : Int32) := by first | exact congrArg nI (cntP_y (P := fun g => ¬ (tn g).toInt = 0) (show ¬ (tn q).toInt = 0 by omega)) | exact congrArg nI (cntP_n0 (P := fun g => ¬ (tn g).toInt = 0) (show ¬ ¬ (tn q).toInt = 0 by omega))
                have e9_5 : nI (smP (lvF ft st tn) (fun g => nN (mn g)) (q + 1)) = (nI ((smP (lvF ft st tn) (fun g => nN (mn g)) q) + (nN (mn q))) : Int32) := by first | exact congrArg nI (smP_y (P := lvF ft st tn) (by first | with_reducible assumption | assumption)) | exact congrArg nI (smP_n (P := lvF ft st tn) (by first | with_reducible assumption | assumption))
                have hl9 : lv_has ls 7 [(6, .int (nI (q + 1))), (5, .int (nI (smP (lvF ft st tn) (fun g => nN (mn g)) (q + 1)))), (4, .int (nI (cntP (fun g => ¬ (tn g).toInt = 0) (q + 1)))), (3, .int (nI (cntP (fun g => (st g).toInt = 2) (q + 1)))), (2, .int (nI (cntP (fun g => (st g).toInt = 1) (q + 1)))), (0, .ref k0), (1, .int 4)] := by rw [e9_2]; rw [e9_3]; rw [e9_4]; rw [e9_5]; exact hl9
                exact ih_13 (q + 1) H locs ls (by first | with_reducible assumption | omega) (by first | with_reducible assumption | omega) hP hD hS hl9
            · have c_7 : ¬ (tn q).toInt = 0 := zc_ne rfl rfl c_7
              refine lv_iconst (v := 1) hx hb dX11_count_72 rfl ?_
              refine lv_goto (tgt := 77) hx hb dX11_count_73 rfl ?_
              refine lv_iadd hx hb dX11_count_77 ?_
              refine zz_i (v := nI ((cntP (fun g => ¬ (tn g).toInt = 0) q) + 1)) (nI_add (cntP (fun g => ¬ (tn g).toInt = 0) q) 1) ?_
              refine lv_istore (lv' := [(4, .int (nI ((cntP (fun g => ¬ (tn g).toInt = 0) q) + 1))), (3, .int (nI ((cntP (fun g => (st g).toInt = 2) q) + 0))), (2, .int (nI ((cntP (fun g => (st g).toInt = 1) q) + 0))), (6, .int (nI q)), (5, .int (nI (smP (lvF ft st tn) (fun g => nN (mn g)) q))), (0, .ref k0), (1, .int 4)]) hx hb dX11_count_78 hl (Nat.le_of_ble_eq_true rfl) rfl (fun ls hl => ?_)
              refine lv_iload hx hb dX11_count_80 (lv_at hl 4 rfl) ?_
              refine lv_aload_n hx hb dX11_count_82 rfl (lv_at hl 5 rfl) ?_
              refine lv_iload hx hb dX11_count_83 (lv_at hl 3 rfl) ?_
              obtain ⟨hPc, hDc, hFc, hI1⟩ := zi_sub (wc := [_, _, _]) hP hD hS hA [0, 1, 2] rfl rfl
              refine zcall (st1 := [.int (pI (q < ft ∧ (st q).toInt = 1 ∧ (tn q).toInt = 0)), .int (nI (smP (lvF ft st tn) (fun g => nN (mn g)) q))]) (va_runV (As := [.int (nI q)]) (rest := [.int (nI (smP (lvF ft st tn) (fun g => nN (mn g)) q))]) ⟨hx, hb, hml, hown, hts⟩ (k_M_is_n l dC dI cI cZ cF H.size k0 a I0 J0 q ft st tn (by first | with_reducible assumption | assumption) (by first | with_reducible assumption | omega) (by first | with_reducible assumption | omega)) (csV_179 hts rfl rfl ⟨Nat.le_of_ble_eq_true rfl, Nat.le_of_ble_eq_true rfl⟩) (zPV2 (q0 := 0) (ci := 9) hPc hDc hK hXN rfl rfl) rfl rfl hl.1 rfl (lv_room (Nat.le_of_ble_eq_true rfl)) dX11_count_85 ⟨Nat.le_of_ble_eq_true rfl, Nat.le_of_ble_eq_true rfl⟩) hS hFc hFc rfl (fun t H locs ht hB hk1 hS => ?_)
              obtain ⟨hP1, hD1⟩ := hB
              rw [ht] at hP1
              replace hP := z0 hP hD hk1 hP1 hI1
              clear hk1 hPc hDc hFc hP1 hD1 ht hI1
              refine lv_if_eq (tgt := 101) hx hb dX11_count_88 rfl (fun c_9 => ?_) (fun c_9 => ?_)
              · have c_9 : ¬ (q < ft ∧ (st q).toInt = 1 ∧ (tn q).toInt = 0) := zp_0 c_9
                refine lv_iconst (v := 0) hx hb dX11_count_101 rfl ?_
                refine lv_iadd hx hb dX11_count_102 ?_
                refine zz_i (v := nI ((smP (lvF ft st tn) (fun g => nN (mn g)) q) + 0)) (nI_add (smP (lvF ft st tn) (fun g => nN (mn g)) q) 0) ?_
                refine lv_istore (lv' := [(5, .int (nI ((smP (lvF ft st tn) (fun g => nN (mn g)) q) + 0))), (4, .int (nI ((cntP (fun g => ¬ (tn g).toInt = 0) q) + 1))), (3, .int (nI ((cntP (fun g => (st g).toInt = 2) q) + 0))), (2, .int (nI ((cntP (fun g => (st g).toInt = 1) q) + 0))), (6, .int (nI q)), (0, .ref k0), (1, .int 4)]) hx hb dX11_count_103 hl (Nat.le_of_ble_eq_true rfl) rfl (fun ls hl => ?_)
                refine lv_iinc (v := nI (q + 1)) (lv' := [(6, .int (nI (q + 1))), (5, .int (nI ((smP (lvF ft st tn) (fun g => nN (mn g)) q) + 0))), (4, .int (nI ((cntP (fun g => ¬ (tn g).toInt = 0) q) + 1))), (3, .int (nI ((cntP (fun g => (st g).toInt = 2) q) + 0))), (2, .int (nI ((cntP (fun g => (st g).toInt = 1) q) + 0))), (0, .ref k0), (1, .int 4)]) hx hb dX11_count_105 hl (k := 4) rfl (nI_add q 1) (Nat.le_of_ble_eq_true rfl) rfl (fun ls hl => ?_)
                refine lv_goto (tgt := 13) hx hb dX11_count_108 rfl ?_
                have hl9 := lv_sub hl [0, 1, 2, 3, 4, 5, 6] rfl
                have e9_2 : nI (cntP (fun g => (st g).toInt = 1) (q + 1)) = (nI ((cntP (fun g => (st g).toInt = 1) q) + 0) : Int32) := by first | exact congrArg nI (cntP_y (P := fun g => (st g).toInt = 1) (show (st q).toInt = 1 by omega)) | exact congrArg nI (cntP_n0 (P := fun g => (st g).toInt = 1) (show ¬ (st q).toInt = 1 by omega))
                have e9_3 : nI (cntP (fun g => (st g).toInt = 2) (q + 1)) = (nI ((cntP (fun g => (st g).toInt = 2) q) + 0) : Int32) := by first | exact congrArg nI (cntP_y (P := fun g => (st g).toInt = 2) (show (st q).toInt = 2 by omega)) | exact congrArg nI (cntP_n0 (P := fun g => (st g).toInt = 2) (show ¬ (st q).toInt = 2 by omega))
                have e9_4 : nI (cntP (fun g => ¬ (tn g).toInt = 0) (q + 1)) = (nI ((cntP (fun g => ¬ (tn g).toInt = 0) q) + 1) : Int32) := by first | exact congrArg nI (cntP_y (P := fun g => ¬ (tn g).toInt = 0) (show ¬ (tn q).toInt = 0 by omega)) | exact congrArg nI (cntP_n0 (P := fun g => ¬ (tn g).toInt = 0) (show ¬ ¬ (tn q).toInt = 0 by omega))
                have e9_5 : nI (smP (lvF ft st tn) (fun g => nN (mn g)) (q + 1)) = (nI ((smP (lvF ft st tn) (fun g => nN (mn g)) q) + 0) : Int32) := by first | exact congrArg nI (smP_y (P := lvF ft st tn) (by first | with_reducible assumption | assumption)) | exact congrArg nI (smP_n (P := lvF ft st tn) (by first | with_reducible assumption | assumption))
                have hl9 : lv_has ls 7 [(6, .int (nI (q + 1))), (5, .int (nI (smP (lvF ft st tn) (fun g => nN (mn g)) (q + 1)))), (4, .int (nI (cntP (fun g => ¬ (tn g).toInt = 0) (q + 1)))), (3, .int (nI (cntP (fun g => (st g).toInt = 2) (q + 1)))), (2, .int (nI (cntP (fun g => (st g).toInt = 1) (q + 1)))), (0, .ref k0), (1, .int 4)] := by rw [e9_2]; rw [e9_3]; rw [e9_4]; rw [e9_5]; exact hl9
                exact ih_13 (q + 1) H locs ls (by first | with_reducible assumption | omega) (by first | with_reducible assumption | omega) hP hD hS hl9
              · have c_9 : q < ft ∧ (st q).toInt = 1 ∧ (tn q).toInt = 0 := zp_1 c_9
                refine lv_aload_n hx hb dX11_count_91 rfl (lv_at hl 5 rfl) ?_
                refine va_get (D := (dC, dI)) (ci := 9) (v := .ref (a 11)) (C := RX11) (T := TX11) (N := 55) hx hb hts inX11 hown hK hP 0 rfl rfl 11 (Nat.le_of_ble_eq_true rfl) (hts _ mw_1170) (fun _ h9 => h9) rfl dX11_count_92 ?_
                refine lv_iload hx hb dX11_count_95 (lv_at hl 3 rfl) ?_
                refine z_iald hx hb hK hP 3 0 rfl rfl (e := q) rfl b9_4 (Nat.le_of_ble_eq_true rfl) dX11_count_97 ?_
                refine zz_i (v := nI (nN (mn q))) ((hmw q (by first | with_reducible assumption | assumption)).1) ?_
                refine lv_goto (tgt := 102) hx hb dX11_count_98 rfl ?_
                refine lv_iadd hx hb dX11_count_102 ?_
                refine zz_i (v := nI ((smP (lvF ft st tn) (fun g => nN (mn g)) q) + (nN (mn q)))) (nI_add (smP (lvF ft st tn) (fun g => nN (mn g)) q) (nN (mn q))) ?_
                refine lv_istore (lv' := [(5, .int (nI ((smP (lvF ft st tn) (fun g => nN (mn g)) q) + (nN (mn q))))), (4, .int (nI ((cntP (fun g => ¬ (tn g).toInt = 0) q) + 1))), (3, .int (nI ((cntP (fun g => (st g).toInt = 2) q) + 0))), (2, .int (nI ((cntP (fun g => (st g).toInt = 1) q) + 0))), (6, .int (nI q)), (0, .ref k0), (1, .int 4)]) hx hb dX11_count_103 hl (Nat.le_of_ble_eq_true rfl) rfl (fun ls hl => ?_)
                refine lv_iinc (v := nI (q + 1)) (lv' := [(6, .int (nI (q + 1))), (5, .int (nI ((smP (lvF ft st tn) (fun g => nN (mn g)) q) + (nN (mn q))))), (4, .int (nI ((cntP (fun g => ¬ (tn g).toInt = 0) q) + 1))), (3, .int (nI ((cntP (fun g => (st g).toInt = 2) q) + 0))), (2, .int (nI ((cntP (fun g => (st g).toInt = 1) q) + 0))), (0, .ref k0), (1, .int 4)]) hx hb dX11_count_105 hl (k := 4) rfl (nI_add q 1) (Nat.le_of_ble_eq_true rfl) rfl (fun ls hl => ?_)
                refine lv_goto (tgt := 13) hx hb dX11_count_108 rfl ?_
                have hl9 := lv_sub hl [0, 1, 2, 3, 4, 5, 6] rfl
                have e9_2 : nI (cntP (fun g => (st g).toInt = 1) (q + 1)) = (nI ((cntP (fun g => (st g).toInt = 1) q) + 0) : Int32) := by first | exact congrArg nI (cntP_y (P := fun g => (st g).toInt = 1) (show (st q).toInt = 1 by omega)) | exact congrArg nI (cntP_n0 (P := fun g => (st g).toInt = 1) (show ¬ (st q).toInt = 1 by omega))
                have e9_3 : nI (cntP (fun g => (st g).toInt = 2) (q + 1)) = (nI ((cntP (fun g => (st g).toInt = 2) q) + 0) : Int32) := by first | exact congrArg nI (cntP_y (P := fun g => (st g).toInt = 2) (show (st q).toInt = 2 by omega)) | exact congrArg nI (cntP_n0 (P := fun g => (st g).toInt = 2) (show ¬ (st q).toInt = 2 by omega))
                have e9_4 : nI (cntP (fun g => ¬ (tn g).toInt = 0) (q + 1)) = (nI ((cntP (fun g => ¬ (tn g).toInt = 0) q) + 1) : Int32) := by first | exact congrArg nI (cntP_y (P := fun g => ¬ (tn g).toInt = 0) (show ¬ (tn q).toInt = 0 by omega)) | exact congrArg nI (cntP_n0 (P := fun g => ¬ (tn g).toInt = 0) (show ¬ ¬ (tn q).toInt = 0 by omega))
                have e9_5 : nI (smP (lvF ft st tn) (fun g => nN (mn g)) (q + 1)) = (nI ((smP (lvF ft st tn) (fun g => nN (mn g)) q) + (nN (mn q))) : Int32) := by first | exact congrArg nI (smP_y (P := lvF ft st tn) (by first | with_reducible assumption | assumption)) | exact congrArg nI (smP_n (P := lvF ft st tn) (by first | with_reducible assumption | assumption))
                have hl9 : lv_has ls 7 [(6, .int (nI (q + 1))), (5, .int (nI (smP (lvF ft st tn) (fun g => nN (mn g)) (q + 1)))), (4, .int (nI (cntP (fun g => ¬ (tn g).toInt = 0) (q + 1)))), (3, .int (nI (cntP (fun g => (st g).toInt = 2) (q + 1)))), (2, .int (nI (cntP (fun g => (st g).toInt = 1) (q + 1)))), (0, .ref k0), (1, .int 4)] := by rw [e9_2]; rw [e9_3]; rw [e9_4]; rw [e9_5]; exact hl9
                exact ih_13 (q + 1) H locs ls (by first | with_reducible assumption | omega) (by first | with_reducible assumption | omega) hP hD hS hl9
          · have c_6 : (st q).toInt = 2 := zc_eq rfl rfl c_6
            refine lv_iconst (v := 1) hx hb dX11_count_53 rfl ?_
            refine lv_goto (tgt := 58) hx hb dX11_count_54 rfl ?_
            refine lv_iadd hx hb dX11_count_58 ?_
            refine zz_i (v := nI ((cntP (fun g => (st g).toInt = 2) q) + 1)) (nI_add (cntP (fun g => (st g).toInt = 2) q) 1) ?_
            refine lv_istore_n (lv' := [(3, .int (nI ((cntP (fun g => (st g).toInt = 2) q) + 1))), (2, .int (nI ((cntP (fun g => (st g).toInt = 1) q) + 0))), (6, .int (nI q)), (5, .int (nI (smP (lvF ft st tn) (fun g => nN (mn g)) q))), (4, .int (nI (cntP (fun g => ¬ (tn g).toInt = 0) q))), (0, .ref k0), (1, .int 4)]) hx hb dX11_count_59 rfl hl (Nat.le_of_ble_eq_true rfl) rfl (fun ls hl => ?_)
            refine lv_iload hx hb dX11_count_60 (lv_at hl 4 rfl) ?_
            refine lv_aload_n hx hb dX11_count_62 rfl (lv_at hl 5 rfl) ?_
            refine va_get (D := (dC, dI)) (ci := 9) (v := .ref (a 6)) (C := RX11) (T := TX11) (N := 55) hx hb hts inX11 hown hK hP 0 rfl rfl 6 (Nat.le_of_ble_eq_true rfl) (hts _ mw_1165) (fun _ h9 => h9) rfl dX11_count_63 ?_
            refine lv_iload hx hb dX11_count_66 (lv_at hl 2 rfl) ?_
            refine z_zald hx hb hK hP 2 1 rfl rfl (e := q) rfl b9_4 (Nat.le_of_ble_eq_true rfl) dX11_count_68 ?_
            refine lv_if_eq (tgt := 76) hx hb dX11_count_69 rfl (fun c_10 => ?_) (fun c_10 => ?_)
            · have c_10 : (tn q).toInt = 0 := zc_eq rfl rfl c_10
              refine lv_iconst (v := 0) hx hb dX11_count_76 rfl ?_
              refine lv_iadd hx hb dX11_count_77 ?_
              refine zz_i (v := nI ((cntP (fun g => ¬ (tn g).toInt = 0) q) + 0)) (nI_add (cntP (fun g => ¬ (tn g).toInt = 0) q) 0) ?_
              refine lv_istore (lv' := [(4, .int (nI ((cntP (fun g => ¬ (tn g).toInt = 0) q) + 0))), (3, .int (nI ((cntP (fun g => (st g).toInt = 2) q) + 1))), (2, .int (nI ((cntP (fun g => (st g).toInt = 1) q) + 0))), (6, .int (nI q)), (5, .int (nI (smP (lvF ft st tn) (fun g => nN (mn g)) q))), (0, .ref k0), (1, .int 4)]) hx hb dX11_count_78 hl (Nat.le_of_ble_eq_true rfl) rfl (fun ls hl => ?_)
              refine lv_iload hx hb dX11_count_80 (lv_at hl 4 rfl) ?_
              refine lv_aload_n hx hb dX11_count_82 rfl (lv_at hl 5 rfl) ?_
              refine lv_iload hx hb dX11_count_83 (lv_at hl 3 rfl) ?_
              obtain ⟨hPc, hDc, hFc, hI1⟩ := zi_sub (wc := [_, _, _]) hP hD hS hA [0, 1, 2] rfl rfl
              refine zcall (st1 := [.int (pI (q < ft ∧ (st q).toInt = 1 ∧ (tn q).toInt = 0)), .int (nI (smP (lvF ft st tn) (fun g => nN (mn g)) q))]) (va_runV (As := [.int (nI q)]) (rest := [.int (nI (smP (lvF ft st tn) (fun g => nN (mn g)) q))]) ⟨hx, hb, hml, hown, hts⟩ (k_M_is_n l dC dI cI cZ cF H.size k0 a I0 J0 q ft st tn (by first | with_reducible assumption | assumption) (by first | with_reducible assumption | omega) (by first | with_reducible assumption | omega)) (csV_179 hts rfl rfl ⟨Nat.le_of_ble_eq_true rfl, Nat.le_of_ble_eq_true rfl⟩) (zPV2 (q0 := 0) (ci := 9) hPc hDc hK hXN rfl rfl) rfl rfl hl.1 rfl (lv_room (Nat.le_of_ble_eq_true rfl)) dX11_count_85 ⟨Nat.le_of_ble_eq_true rfl, Nat.le_of_ble_eq_true rfl⟩) hS hFc hFc rfl (fun t H locs ht hB hk1 hS => ?_)
              obtain ⟨hP1, hD1⟩ := hB
              rw [ht] at hP1
              replace hP := z0 hP hD hk1 hP1 hI1
              clear hk1 hPc hDc hFc hP1 hD1 ht hI1
              refine lv_if_eq (tgt := 101) hx hb dX11_count_88 rfl (fun c_11 => ?_) (fun c_11 => ?_)
              · have c_11 : ¬ (q < ft ∧ (st q).toInt = 1 ∧ (tn q).toInt = 0) := zp_0 c_11
                refine lv_iconst (v := 0) hx hb dX11_count_101 rfl ?_
                refine lv_iadd hx hb dX11_count_102 ?_
                refine zz_i (v := nI ((smP (lvF ft st tn) (fun g => nN (mn g)) q) + 0)) (nI_add (smP (lvF ft st tn) (fun g => nN (mn g)) q) 0) ?_
                refine lv_istore (lv' := [(5, .int (nI ((smP (lvF ft st tn) (fun g => nN (mn g)) q) + 0))), (4, .int (nI ((cntP (fun g => ¬ (tn g).toInt = 0) q) + 0))), (3, .int (nI ((cntP (fun g => (st g).toInt = 2) q) + 1))), (2, .int (nI ((cntP (fun g => (st g).toInt = 1) q) + 0))), (6, .int (nI q)), (0, .ref k0), (1, .int 4)]) hx hb dX11_count_103 hl (Nat.le_of_ble_eq_true rfl) rfl (fun ls hl => ?_)
                refine lv_iinc (v := nI (q + 1)) (lv' := [(6, .int (nI (q + 1))), (5, .int (nI ((smP (lvF ft st tn) (fun g => nN (mn g)) q) + 0))), (4, .int (nI ((cntP (fun g => ¬ (tn g).toInt = 0) q) + 0))), (3, .int (nI ((cntP (fun g => (st g).toInt = 2) q) + 1))), (2, .int (nI ((cntP (fun g => (st g).toInt = 1) q) + 0))), (0, .ref k0), (1, .int 4)]) hx hb dX11_count_105 hl (k := 4) rfl (nI_add q 1) (Nat.le_of_ble_eq_true rfl) rfl (fun ls hl => ?_)
                refine lv_goto (tgt := 13) hx hb dX11_count_108 rfl ?_
                have hl9 := lv_sub hl [0, 1, 2, 3, 4, 5, 6] rfl
                have e9_2 : nI (cntP (fun g => (st g).toInt = 1) (q + 1)) = (nI ((cntP (fun g => (st g).toInt = 1) q) + 0) : Int32) := by first | exact congrArg nI (cntP_y (P := fun g => (st g).toInt = 1) (show (st q).toInt = 1 by omega)) | exact congrArg nI (cntP_n0 (P := fun g => (st g).toInt = 1) (show ¬ (st q).toInt = 1 by omega))
                have e9_3 : nI (cntP (fun g => (st g).toInt = 2) (q + 1)) = (nI ((cntP (fun g => (st g).toInt = 2) q) + 1) : Int32) := by first | exact congrArg nI (cntP_y (P := fun g => (st g).toInt = 2) (show (st q).toInt = 2 by omega)) | exact congrArg nI (cntP_n0 (P := fun g => (st g).toInt = 2) (show ¬ (st q).toInt = 2 by omega))
                have e9_4 : nI (cntP (fun g => ¬ (tn g).toInt = 0) (q + 1)) = (nI ((cntP (fun g => ¬ (tn g).toInt = 0) q) + 0) : Int32) := by first | exact congrArg nI (cntP_y (P := fun g => ¬ (tn g).toInt = 0) (show ¬ (tn q).toInt = 0 by omega)) | exact congrArg nI (cntP_n0 (P := fun g => ¬ (tn g).toInt = 0) (show ¬ ¬ (tn q).toInt = 0 by omega))
                have e9_5 : nI (smP (lvF ft st tn) (fun g => nN (mn g)) (q + 1)) = (nI ((smP (lvF ft st tn) (fun g => nN (mn g)) q) + 0) : Int32) := by first | exact congrArg nI (smP_y (P := lvF ft st tn) (by first | with_reducible assumption | assumption)) | exact congrArg nI (smP_n (P := lvF ft st tn) (by first | with_reducible assumption | assumption))
                have hl9 : lv_has ls 7 [(6, .int (nI (q + 1))), (5, .int (nI (smP (lvF ft st tn) (fun g => nN (mn g)) (q + 1)))), (4, .int (nI (cntP (fun g => ¬ (tn g).toInt = 0) (q + 1)))), (3, .int (nI (cntP (fun g => (st g).toInt = 2) (q + 1)))), (2, .int (nI (cntP (fun g => (st g).toInt = 1) (q + 1)))), (0, .ref k0), (1, .int 4)] := by rw [e9_2]; rw [e9_3]; rw [e9_4]; rw [e9_5]; exact hl9
                exact ih_13 (q + 1) H locs ls (by first | with_reducible assumption | omega) (by first | with_reducible assumption | omega) hP hD hS hl9
              · have c_11 : q < ft ∧ (st q).toInt = 1 ∧ (tn q).toInt = 0 := zp_1 c_11
                refine lv_aload_n hx hb dX11_count_91 rfl (lv_at hl 5 rfl) ?_
                refine va_get (D := (dC, dI)) (ci := 9) (v := .ref (a 11)) (C := RX11) (T := TX11) (N := 55) hx hb hts inX11 hown hK hP 0 rfl rfl 11 (Nat.le_of_ble_eq_true rfl) (hts _ mw_1170) (fun _ h9 => h9) rfl dX11_count_92 ?_
                refine lv_iload hx hb dX11_count_95 (lv_at hl 3 rfl) ?_
                refine z_iald hx hb hK hP 3 0 rfl rfl (e := q) rfl b9_4 (Nat.le_of_ble_eq_true rfl) dX11_count_97 ?_
                refine zz_i (v := nI (nN (mn q))) ((hmw q (by first | with_reducible assumption | assumption)).1) ?_
                refine lv_goto (tgt := 102) hx hb dX11_count_98 rfl ?_
                refine lv_iadd hx hb dX11_count_102 ?_
                refine zz_i (v := nI ((smP (lvF ft st tn) (fun g => nN (mn g)) q) + (nN (mn q)))) (nI_add (smP (lvF ft st tn) (fun g => nN (mn g)) q) (nN (mn q))) ?_
                refine lv_istore (lv' := [(5, .int (nI ((smP (lvF ft st tn) (fun g => nN (mn g)) q) + (nN (mn q))))), (4, .int (nI ((cntP (fun g => ¬ (tn g).toInt = 0) q) + 0))), (3, .int (nI ((cntP (fun g => (st g).toInt = 2) q) + 1))), (2, .int (nI ((cntP (fun g => (st g).toInt = 1) q) + 0))), (6, .int (nI q)), (0, .ref k0), (1, .int 4)]) hx hb dX11_count_103 hl (Nat.le_of_ble_eq_true rfl) rfl (fun ls hl => ?_)
                refine lv_iinc (v := nI (q + 1)) (lv' := [(6, .int (nI (q + 1))), (5, .int (nI ((smP (lvF ft st tn) (fun g => nN (mn g)) q) + (nN (mn q))))), (4, .int (nI ((cntP (fun g => ¬ (tn g).toInt = 0) q) + 0))), (3, .int (nI ((cntP (fun g => (st g).toInt = 2) q) + 1))), (2, .int (nI ((cntP (fun g => (st g).toInt = 1) q) + 0))), (0, .ref k0), (1, .int 4)]) hx hb dX11_count_105 hl (k := 4) rfl (nI_add q 1) (Nat.le_of_ble_eq_true rfl) rfl (fun ls hl => ?_)
                refine lv_goto (tgt := 13) hx hb dX11_count_108 rfl ?_
                have hl9 := lv_sub hl [0, 1, 2, 3, 4, 5, 6] rfl
                have e9_2 : nI (cntP (fun g => (st g).toInt = 1) (q + 1)) = (nI ((cntP (fun g => (st g).toInt = 1) q) + 0) : Int32) := by first | exact congrArg nI (cntP_y (P := fun g => (st g).toInt = 1) (show (st q).toInt = 1 by omega)) | exact congrArg nI (cntP_n0 (P := fun g => (st g).toInt = 1) (show ¬ (st q).toInt = 1 by omega))
                have e9_3 : nI (cntP (fun g => (st g).toInt = 2) (q + 1)) = (nI ((cntP (fun g => (st g).toInt = 2) q) + 1) : Int32) := by first | exact congrArg nI (cntP_y (P := fun g => (st g).toInt = 2) (show (st q).toInt = 2 by omega)) | exact congrArg nI (cntP_n0 (P := fun g => (st g).toInt = 2) (show ¬ (st q).toInt = 2 by omega))
                have e9_4 : nI (cntP (fun g => ¬ (tn g).toInt = 0) (q + 1)) = (nI ((cntP (fun g => ¬ (tn g).toInt = 0) q) + 0) : Int32) := by first | exact congrArg nI (cntP_y (P := fun g => ¬ (tn g).toInt = 0) (show ¬ (tn q).toInt = 0 by omega)) | exact congrArg nI (cntP_n0 (P := fun g => ¬ (tn g).toInt = 0) (show ¬ ¬ (tn q).toInt = 0 by omega))
                have e9_5 : nI (smP (lvF ft st tn) (fun g => nN (mn g)) (q + 1)) = (nI ((smP (lvF ft st tn) (fun g => nN (mn g)) q) + (nN (mn q))) : Int32) := by first | exact congrArg nI (smP_y (P := lvF ft st tn) (by first | with_reducible assumption | assumption)) | exact congrArg nI (smP_n (P := lvF ft st tn) (by first | with_reducible assumption | assumption))
                have hl9 : lv_has ls 7 [(6, .int (nI (q + 1))), (5, .int (nI (smP (lvF ft st tn) (fun g => nN (mn g)) (q + 1)))), (4, .int (nI (cntP (fun g => ¬ (tn g).toInt = 0) (q + 1)))), (3, .int (nI (cntP (fun g => (st g).toInt = 2) (q + 1)))), (2, .int (nI (cntP (fun g => (st g).toInt = 1) (q + 1)))), (0, .ref k0), (1, .int 4)] := by rw [e9_2]; rw [e9_3]; rw [e9_4]; rw [e9_5]; exact hl9
                exact ih_13 (q + 1) H locs ls (by first | with_reducible assumption | omega) (by first | with_reducible assumption | omega) hP hD hS hl9
            · have c_10 : ¬ (tn q).toInt = 0 := zc_ne rfl rfl c_10
              refine lv_iconst (v := 1) hx hb dX11_count_72 rfl ?_
              refine lv_goto (tgt := 77) hx hb dX11_count_73 rfl ?_
              refine lv_iadd hx hb dX11_count_77 ?_
              refine zz_i (v := nI ((cntP (fun g => ¬ (tn g).toInt = 0) q) + 1)) (nI_add (cntP (fun g => ¬ (tn g).toInt = 0) q) 1) ?_
              refine lv_istore (lv' := [(4, .int (nI ((cntP (fun g => ¬ (tn g).toInt = 0) q) + 1))), (3, .int (nI ((cntP (fun g => (st g).toInt = 2) q) + 1))), (2, .int (nI ((cntP (fun g => (st g).toInt = 1) q) + 0))), (6, .int (nI q)), (5, .int (nI (smP (lvF ft st tn) (fun g => nN (mn g)) q))), (0, .ref k0), (1, .int 4)]) hx hb dX11_count_78 hl (Nat.le_of_ble_eq_true rfl) rfl (fun ls hl => ?_)
              refine lv_iload hx hb dX11_count_80 (lv_at hl 4 rfl) ?_
              refine lv_aload_n hx hb dX11_count_82 rfl (lv_at hl 5 rfl) ?_
              refine lv_iload hx hb dX11_count_83 (lv_at hl 3 rfl) ?_
              obtain ⟨hPc, hDc, hFc, hI1⟩ := zi_sub (wc := [_, _, _]) hP hD hS hA [0, 1, 2] rfl rfl
              refine zcall (st1 := [.int (pI (q < ft ∧ (st q).toInt = 1 ∧ (tn q).toInt = 0)), .int (nI (smP (lvF ft st tn) (fun g => nN (mn g)) q))]) (va_runV (As := [.int (nI q)]) (rest := [.int (nI (smP (lvF ft st tn) (fun g => nN (mn g)) q))]) ⟨hx, hb, hml, hown, hts⟩ (k_M_is_n l dC dI cI cZ cF H.size k0 a I0 J0 q ft st tn (by first | with_reducible assumption | assumption) (by first | with_reducible assumption | omega) (by first | with_reducible assumption | omega)) (csV_179 hts rfl rfl ⟨Nat.le_of_ble_eq_true rfl, Nat.le_of_ble_eq_true rfl⟩) (zPV2 (q0 := 0) (ci := 9) hPc hDc hK hXN rfl rfl) rfl rfl hl.1 rfl (lv_room (Nat.le_of_ble_eq_true rfl)) dX11_count_85 ⟨Nat.le_of_ble_eq_true rfl, Nat.le_of_ble_eq_true rfl⟩) hS hFc hFc rfl (fun t H locs ht hB hk1 hS => ?_)
              obtain ⟨hP1, hD1⟩ := hB
              rw [ht] at hP1
              replace hP := z0 hP hD hk1 hP1 hI1
              clear hk1 hPc hDc hFc hP1 hD1 ht hI1
              refine lv_if_eq (tgt := 101) hx hb dX11_count_88 rfl (fun c_12 => ?_) (fun c_12 => ?_)
              · have c_12 : ¬ (q < ft ∧ (st q).toInt = 1 ∧ (tn q).toInt = 0) := zp_0 c_12
                refine lv_iconst (v := 0) hx hb dX11_count_101 rfl ?_
                refine lv_iadd hx hb dX11_count_102 ?_
                refine zz_i (v := nI ((smP (lvF ft st tn) (fun g => nN (mn g)) q) + 0)) (nI_add (smP (lvF ft st tn) (fun g => nN (mn g)) q) 0) ?_
                refine lv_istore (lv' := [(5, .int (nI ((smP (lvF ft st tn) (fun g => nN (mn g)) q) + 0))), (4, .int (nI ((cntP (fun g => ¬ (tn g).toInt = 0) q) + 1))), (3, .int (nI ((cntP (fun g => (st g).toInt = 2) q) + 1))), (2, .int (nI ((cntP (fun g => (st g).toInt = 1) q) + 0))), (6, .int (nI q)), (0, .ref k0), (1, .int 4)]) hx hb dX11_count_103 hl (Nat.le_of_ble_eq_true rfl) rfl (fun ls hl => ?_)
                refine lv_iinc (v := nI (q + 1)) (lv' := [(6, .int (nI (q + 1))), (5, .int (nI ((smP (lvF ft st tn) (fun g => nN (mn g)) q) + 0))), (4, .int (nI ((cntP (fun g => ¬ (tn g).toInt = 0) q) + 1))), (3, .int (nI ((cntP (fun g => (st g).toInt = 2) q) + 1))), (2, .int (nI ((cntP (fun g => (st g).toInt = 1) q) + 0))), (0, .ref k0), (1, .int 4)]) hx hb dX11_count_105 hl (k := 4) rfl (nI_add q 1) (Nat.le_of_ble_eq_true rfl) rfl (fun ls hl => ?_)
                refine lv_goto (tgt := 13) hx hb dX11_count_108 rfl ?_
                have hl9 := lv_sub hl [0, 1, 2, 3, 4, 5, 6] rfl
                have e9_2 : nI (cntP (fun g => (st g).toInt = 1) (q + 1)) = (nI ((cntP (fun g => (st g).toInt = 1) q) + 0) : Int32) := by first | exact congrArg nI (cntP_y (P := fun g => (st g).toInt = 1) (show (st q).toInt = 1 by omega)) | exact congrArg nI (cntP_n0 (P := fun g => (st g).toInt = 1) (show ¬ (st q).toInt = 1 by omega))
                have e9_3 : nI (cntP (fun g => (st g).toInt = 2) (q + 1)) = (nI ((cntP (fun g => (st g).toInt = 2) q) + 1) : Int32) := by first | exact congrArg nI (cntP_y (P := fun g => (st g).toInt = 2) (show (st q).toInt = 2 by omega)) | exact congrArg nI (cntP_n0 (P := fun g => (st g).toInt = 2) (show ¬ (st q).toInt = 2 by omega))
                have e9_4 : nI (cntP (fun g => ¬ (tn g).toInt = 0) (q + 1)) = (nI ((cntP (fun g => ¬ (tn g).toInt = 0) q) + 1) : Int32) := by first | exact congrArg nI (cntP_y (P := fun g => ¬ (tn g).toInt = 0) (show ¬ (tn q).toInt = 0 by omega)) | exact congrArg nI (cntP_n0 (P := fun g => ¬ (tn g).toInt = 0) (show ¬ ¬ (tn q).toInt = 0 by omega))
                have e9_5 : nI (smP (lvF ft st tn) (fun g => nN (mn g)) (q + 1)) = (nI ((smP (lvF ft st tn) (fun g => nN (mn g)) q) + 0) : Int32) := by first | exact congrArg nI (smP_y (P := lvF ft st tn) (by first | with_reducible assumption | assumption)) | exact congrArg nI (smP_n (P := lvF ft st tn) (by first | with_reducible assumption | assumption))
                have hl9 : lv_has ls 7 [(6, .int (nI (q + 1))), (5, .int (nI (smP (lvF ft st tn) (fun g => nN (mn g)) (q + 1)))), (4, .int (nI (cntP (fun g => ¬ (tn g).toInt = 0) (q + 1)))), (3, .int (nI (cntP (fun g => (st g).toInt = 2) (q + 1)))), (2, .int (nI (cntP (fun g => (st g).toInt = 1) (q + 1)))), (0, .ref k0), (1, .int 4)] := by rw [e9_2]; rw [e9_3]; rw [e9_4]; rw [e9_5]; exact hl9
                exact ih_13 (q + 1) H locs ls (by first | with_reducible assumption | omega) (by first | with_reducible assumption | omega) hP hD hS hl9
              · have c_12 : q < ft ∧ (st q).toInt = 1 ∧ (tn q).toInt = 0 := zp_1 c_12
                refine lv_aload_n hx hb dX11_count_91 rfl (lv_at hl 5 rfl) ?_
                refine va_get (D := (dC, dI)) (ci := 9) (v := .ref (a 11)) (C := RX11) (T := TX11) (N := 55) hx hb hts inX11 hown hK hP 0 rfl rfl 11 (Nat.le_of_ble_eq_true rfl) (hts _ mw_1170) (fun _ h9 => h9) rfl dX11_count_92 ?_
                refine lv_iload hx hb dX11_count_95 (lv_at hl 3 rfl) ?_
                refine z_iald hx hb hK hP 3 0 rfl rfl (e := q) rfl b9_4 (Nat.le_of_ble_eq_true rfl) dX11_count_97 ?_
                refine zz_i (v := nI (nN (mn q))) ((hmw q (by first | with_reducible assumption | assumption)).1) ?_
                refine lv_goto (tgt := 102) hx hb dX11_count_98 rfl ?_
                refine lv_iadd hx hb dX11_count_102 ?_
                refine zz_i (v := nI ((smP (lvF ft st tn) (fun g => nN (mn g)) q) + (nN (mn q)))) (nI_add (smP (lvF ft st tn) (fun g => nN (mn g)) q) (nN (mn q))) ?_
                refine lv_istore (lv' := [(5, .int (nI ((smP (lvF ft st tn) (fun g => nN (mn g)) q) + (nN (mn q))))), (4, .int (nI ((cntP (fun g => ¬ (tn g).toInt = 0) q) + 1))), (3, .int (nI ((cntP (fun g => (st g).toInt = 2) q) + 1))), (2, .int (nI ((cntP (fun g => (st g).toInt = 1) q) + 0))), (6, .int (nI q)), (0, .ref k0), (1, .int 4)]) hx hb dX11_count_103 hl (Nat.le_of_ble_eq_true rfl) rfl (fun ls hl => ?_)
                refine lv_iinc (v := nI (q + 1)) (lv' := [(6, .int (nI (q + 1))), (5, .int (nI ((smP (lvF ft st tn) (fun g => nN (mn g)) q) + (nN (mn q))))), (4, .int (nI ((cntP (fun g => ¬ (tn g).toInt = 0) q) + 1))), (3, .int (nI ((cntP (fun g => (st g).toInt = 2) q) + 1))), (2, .int (nI ((cntP (fun g => (st g).toInt = 1) q) + 0))), (0, .ref k0), (1, .int 4)]) hx hb dX11_count_105 hl (k := 4) rfl (nI_add q 1) (Nat.le_of_ble_eq_true rfl) rfl (fun ls hl => ?_)
                refine lv_goto (tgt := 13) hx hb dX11_count_108 rfl ?_
                have hl9 := lv_sub hl [0, 1, 2, 3, 4, 5, 6] rfl
                have e9_2 : nI (cntP (fun g => (st g).toInt = 1) (q + 1)) = (nI ((cntP (fun g => (st g).toInt = 1) q) + 0) : Int32) := by first | exact congrArg nI (cntP_y (P := fun g => (st g).toInt = 1) (show (st q).toInt = 1 by omega)) | exact congrArg nI (cntP_n0 (P := fun g => (st g).toInt = 1) (show ¬ (st q).toInt = 1 by omega))
                have e9_3 : nI (cntP (fun g => (st g).toInt = 2) (q + 1)) = (nI ((cntP (fun g => (st g).toInt = 2) q) + 1) : Int32) := by first | exact congrArg nI (cntP_y (P := fun g => (st g).toInt = 2) (show (st q).toInt = 2 by omega)) | exact congrArg nI (cntP_n0 (P := fun g => (st g).toInt = 2) (show ¬ (st q).toInt = 2 by omega))
                have e9_4 : nI (cntP (fun g => ¬ (tn g).toInt = 0) (q + 1)) = (nI ((cntP (fun g => ¬ (tn g).toInt = 0) q) + 1) : Int32) := by first | exact congrArg nI (cntP_y (P := fun g => ¬ (tn g).toInt = 0) (show ¬ (tn q).toInt = 0 by omega)) | exact congrArg nI (cntP_n0 (P := fun g => ¬ (tn g).toInt = 0) (show ¬ ¬ (tn q).toInt = 0 by omega))
                have e9_5 : nI (smP (lvF ft st tn) (fun g => nN (mn g)) (q + 1)) = (nI ((smP (lvF ft st tn) (fun g => nN (mn g)) q) + (nN (mn q))) : Int32) := by first | exact congrArg nI (smP_y (P := lvF ft st tn) (by first | with_reducible assumption | assumption)) | exact congrArg nI (smP_n (P := lvF ft st tn) (by first | with_reducible assumption | assumption))
                have hl9 : lv_has ls 7 [(6, .int (nI (q + 1))), (5, .int (nI (smP (lvF ft st tn) (fun g => nN (mn g)) (q + 1)))), (4, .int (nI (cntP (fun g => ¬ (tn g).toInt = 0) (q + 1)))), (3, .int (nI (cntP (fun g => (st g).toInt = 2) (q + 1)))), (2, .int (nI (cntP (fun g => (st g).toInt = 1) (q + 1)))), (0, .ref k0), (1, .int 4)] := by rw [e9_2]; rw [e9_3]; rw [e9_4]; rw [e9_5]; exact hl9
                exact ih_13 (q + 1) H locs ls (by first | with_reducible assumption | omega) (by first | with_reducible assumption | omega) hP hD hS hl9
        · have c_5 : (st q).toInt = 1 := zc_eq rfl rfl c_5
          refine lv_iconst (v := 1) hx hb dX11_count_34 rfl ?_
          refine lv_goto (tgt := 39) hx hb dX11_count_35 rfl ?_
          refine lv_iadd hx hb dX11_count_39 ?_
          refine zz_i (v := nI ((cntP (fun g => (st g).toInt = 1) q) + 1)) (nI_add (cntP (fun g => (st g).toInt = 1) q) 1) ?_
          refine lv_istore_n (lv' := [(2, .int (nI ((cntP (fun g => (st g).toInt = 1) q) + 1))), (6, .int (nI q)), (5, .int (nI (smP (lvF ft st tn) (fun g => nN (mn g)) q))), (4, .int (nI (cntP (fun g => ¬ (tn g).toInt = 0) q))), (3, .int (nI (cntP (fun g => (st g).toInt = 2) q))), (0, .ref k0), (1, .int 4)]) hx hb dX11_count_40 rfl hl (Nat.le_of_ble_eq_true rfl) rfl (fun ls hl => ?_)
          refine lv_iload_n hx hb dX11_count_41 rfl (lv_at hl 4 rfl) ?_
          refine lv_aload_n hx hb dX11_count_42 rfl (lv_at hl 5 rfl) ?_
          refine va_get (D := (dC, dI)) (ci := 9) (v := .ref (a 5)) (C := RX11) (T := TX11) (N := 55) hx hb hts inX11 hown hK hP 0 rfl rfl 5 (Nat.le_of_ble_eq_true rfl) (hts _ mw_1164) (fun _ h9 => h9) rfl dX11_count_43 ?_
          refine lv_iload hx hb dX11_count_46 (lv_at hl 1 rfl) ?_
          refine z_iald hx hb hK hP 1 0 rfl rfl (e := q) rfl b9_4 (Nat.le_of_ble_eq_true rfl) dX11_count_48 ?_
          refine lv_iconst (v := 2) hx hb dX11_count_49 rfl ?_
          refine lv_icmp_ne (tgt := 57) hx hb dX11_count_50 rfl (fun c_13 => ?_) (fun c_13 => ?_)
          · have c_13 : ¬ (st q).toInt = 2 := zc_ne rfl rfl c_13
            refine lv_iconst (v := 0) hx hb dX11_count_57 rfl ?_
            refine lv_iadd hx hb dX11_count_58 ?_
            refine zz_i (v := nI ((cntP (fun g => (st g).toInt = 2) q) + 0)) (nI_add (cntP (fun g => (st g).toInt = 2) q) 0) ?_
            refine lv_istore_n (lv' := [(3, .int (nI ((cntP (fun g => (st g).toInt = 2) q) + 0))), (2, .int (nI ((cntP (fun g => (st g).toInt = 1) q) + 1))), (6, .int (nI q)), (5, .int (nI (smP (lvF ft st tn) (fun g => nN (mn g)) q))), (4, .int (nI (cntP (fun g => ¬ (tn g).toInt = 0) q))), (0, .ref k0), (1, .int 4)]) hx hb dX11_count_59 rfl hl (Nat.le_of_ble_eq_true rfl) rfl (fun ls hl => ?_)
            refine lv_iload hx hb dX11_count_60 (lv_at hl 4 rfl) ?_
            refine lv_aload_n hx hb dX11_count_62 rfl (lv_at hl 5 rfl) ?_
            refine va_get (D := (dC, dI)) (ci := 9) (v := .ref (a 6)) (C := RX11) (T := TX11) (N := 55) hx hb hts inX11 hown hK hP 0 rfl rfl 6 (Nat.le_of_ble_eq_true rfl) (hts _ mw_1165) (fun _ h9 => h9) rfl dX11_count_63 ?_
            refine lv_iload hx hb dX11_count_66 (lv_at hl 2 rfl) ?_
            refine z_zald hx hb hK hP 2 1 rfl rfl (e := q) rfl b9_4 (Nat.le_of_ble_eq_true rfl) dX11_count_68 ?_
            refine lv_if_eq (tgt := 76) hx hb dX11_count_69 rfl (fun c_14 => ?_) (fun c_14 => ?_)
            · have c_14 : (tn q).toInt = 0 := zc_eq rfl rfl c_14
              refine lv_iconst (v := 0) hx hb dX11_count_76 rfl ?_
              refine lv_iadd hx hb dX11_count_77 ?_
              refine zz_i (v := nI ((cntP (fun g => ¬ (tn g).toInt = 0) q) + 0)) (nI_add (cntP (fun g => ¬ (tn g).toInt = 0) q) 0) ?_
              refine lv_istore (lv' := [(4, .int (nI ((cntP (fun g => ¬ (tn g).toInt = 0) q) + 0))), (3, .int (nI ((cntP (fun g => (st g).toInt = 2) q) + 0))), (2, .int (nI ((cntP (fun g => (st g).toInt = 1) q) + 1))), (6, .int (nI q)), (5, .int (nI (smP (lvF ft st tn) (fun g => nN (mn g)) q))), (0, .ref k0), (1, .int 4)]) hx hb dX11_count_78 hl (Nat.le_of_ble_eq_true rfl) rfl (fun ls hl => ?_)
              refine lv_iload hx hb dX11_count_80 (lv_at hl 4 rfl) ?_
              refine lv_aload_n hx hb dX11_count_82 rfl (lv_at hl 5 rfl) ?_
              refine lv_iload hx hb dX11_count_83 (lv_at hl 3 rfl) ?_
              obtain ⟨hPc, hDc, hFc, hI1⟩ := zi_sub (wc := [_, _, _]) hP hD hS hA [0, 1, 2] rfl rfl
              refine zcall (st1 := [.int (pI (q < ft ∧ (st q).toInt = 1 ∧ (tn q).toInt = 0)), .int (nI (smP (lvF ft st tn) (fun g => nN (mn g)) q))]) (va_runV (As := [.int (nI q)]) (rest := [.int (nI (smP (lvF ft st tn) (fun g => nN (mn g)) q))]) ⟨hx, hb, hml, hown, hts⟩ (k_M_is_n l dC dI cI cZ cF H.size k0 a I0 J0 q ft st tn (by first | with_reducible assumption | assumption) (by first | with_reducible assumption | omega) (by first | with_reducible assumption | omega)) (csV_179 hts rfl rfl ⟨Nat.le_of_ble_eq_true rfl, Nat.le_of_ble_eq_true rfl⟩) (zPV2 (q0 := 0) (ci := 9) hPc hDc hK hXN rfl rfl) rfl rfl hl.1 rfl (lv_room (Nat.le_of_ble_eq_true rfl)) dX11_count_85 ⟨Nat.le_of_ble_eq_true rfl, Nat.le_of_ble_eq_true rfl⟩) hS hFc hFc rfl (fun t H locs ht hB hk1 hS => ?_)
              obtain ⟨hP1, hD1⟩ := hB
              rw [ht] at hP1
              replace hP := z0 hP hD hk1 hP1 hI1
              clear hk1 hPc hDc hFc hP1 hD1 ht hI1
              refine lv_if_eq (tgt := 101) hx hb dX11_count_88 rfl (fun c_15 => ?_) (fun c_15 => ?_)
              · have c_15 : ¬ (q < ft ∧ (st q).toInt = 1 ∧ (tn q).toInt = 0) := zp_0 c_15
                refine lv_iconst (v := 0) hx hb dX11_count_101 rfl ?_
                refine lv_iadd hx hb dX11_count_102 ?_
                refine zz_i (v := nI ((smP (lvF ft st tn) (fun g => nN (mn g)) q) + 0)) (nI_add (smP (lvF ft st tn) (fun g => nN (mn g)) q) 0) ?_
                refine lv_istore (lv' := [(5, .int (nI ((smP (lvF ft st tn) (fun g => nN (mn g)) q) + 0))), (4, .int (nI ((cntP (fun g => ¬ (tn g).toInt = 0) q) + 0))), (3, .int (nI ((cntP (fun g => (st g).toInt = 2) q) + 0))), (2, .int (nI ((cntP (fun g => (st g).toInt = 1) q) + 1))), (6, .int (nI q)), (0, .ref k0), (1, .int 4)]) hx hb dX11_count_103 hl (Nat.le_of_ble_eq_true rfl) rfl (fun ls hl => ?_)
                refine lv_iinc (v := nI (q + 1)) (lv' := [(6, .int (nI (q + 1))), (5, .int (nI ((smP (lvF ft st tn) (fun g => nN (mn g)) q) + 0))), (4, .int (nI ((cntP (fun g => ¬ (tn g).toInt = 0) q) + 0))), (3, .int (nI ((cntP (fun g => (st g).toInt = 2) q) + 0))), (2, .int (nI ((cntP (fun g => (st g).toInt = 1) q) + 1))), (0, .ref k0), (1, .int 4)]) hx hb dX11_count_105 hl (k := 4) rfl (nI_add q 1) (Nat.le_of_ble_eq_true rfl) rfl (fun ls hl => ?_)
                refine lv_goto (tgt := 13) hx hb dX11_count_108 rfl ?_
                have hl9 := lv_sub hl [0, 1, 2, 3, 4, 5, 6] rfl
                have e9_2 : nI (cntP (fun g => (st g).toInt = 1) (q + 1)) = (nI ((cntP (fun g => (st g).toInt = 1) q) + 1) : Int32) := by first | exact congrArg nI (cntP_y (P := fun g => (st g).toInt = 1) (show (st q).toInt = 1 by omega)) | exact congrArg nI (cntP_n0 (P := fun g => (st g).toInt = 1) (show ¬ (st q).toInt = 1 by omega))
                have e9_3 : nI (cntP (fun g => (st g).toInt = 2) (q + 1)) = (nI ((cntP (fun g => (st g).toInt = 2) q) + 0) : Int32) := by first | exact congrArg nI (cntP_y (P := fun g => (st g).toInt = 2) (show (st q).toInt = 2 by omega)) | exact congrArg nI (cntP_n0 (P := fun g => (st g).toInt = 2) (show ¬ (st q).toInt = 2 by omega))
                have e9_4 : nI (cntP (fun g => ¬ (tn g).toInt = 0) (q + 1)) = (nI ((cntP (fun g => ¬ (tn g).toInt = 0) q) + 0) : Int32) := by first | exact congrArg nI (cntP_y (P := fun g => ¬ (tn g).toInt = 0) (show ¬ (tn q).toInt = 0 by omega)) | exact congrArg nI (cntP_n0 (P := fun g => ¬ (tn g).toInt = 0) (show ¬ ¬ (tn q).toInt = 0 by omega))
                have e9_5 : nI (smP (lvF ft st tn) (fun g => nN (mn g)) (q + 1)) = (nI ((smP (lvF ft st tn) (fun g => nN (mn g)) q) + 0) : Int32) := by first | exact congrArg nI (smP_y (P := lvF ft st tn) (by first | with_reducible assumption | assumption)) | exact congrArg nI (smP_n (P := lvF ft st tn) (by first | with_reducible assumption | assumption))
                have hl9 : lv_has ls 7 [(6, .int (nI (q + 1))), (5, .int (nI (smP (lvF ft st tn) (fun g => nN (mn g)) (q + 1)))), (4, .int (nI (cntP (fun g => ¬ (tn g).toInt = 0) (q + 1)))), (3, .int (nI (cntP (fun g => (st g).toInt = 2) (q + 1)))), (2, .int (nI (cntP (fun g => (st g).toInt = 1) (q + 1)))), (0, .ref k0), (1, .int 4)] := by rw [e9_2]; rw [e9_3]; rw [e9_4]; rw [e9_5]; exact hl9
                exact ih_13 (q + 1) H locs ls (by first | with_reducible assumption | omega) (by first | with_reducible assumption | omega) hP hD hS hl9
              · have c_15 : q < ft ∧ (st q).toInt = 1 ∧ (tn q).toInt = 0 := zp_1 c_15
                refine lv_aload_n hx hb dX11_count_91 rfl (lv_at hl 5 rfl) ?_
                refine va_get (D := (dC, dI)) (ci := 9) (v := .ref (a 11)) (C := RX11) (T := TX11) (N := 55) hx hb hts inX11 hown hK hP 0 rfl rfl 11 (Nat.le_of_ble_eq_true rfl) (hts _ mw_1170) (fun _ h9 => h9) rfl dX11_count_92 ?_
                refine lv_iload hx hb dX11_count_95 (lv_at hl 3 rfl) ?_
                refine z_iald hx hb hK hP 3 0 rfl rfl (e := q) rfl b9_4 (Nat.le_of_ble_eq_true rfl) dX11_count_97 ?_
                refine zz_i (v := nI (nN (mn q))) ((hmw q (by first | with_reducible assumption | assumption)).1) ?_
                refine lv_goto (tgt := 102) hx hb dX11_count_98 rfl ?_
                refine lv_iadd hx hb dX11_count_102 ?_
                refine zz_i (v := nI ((smP (lvF ft st tn) (fun g => nN (mn g)) q) + (nN (mn q)))) (nI_add (smP (lvF ft st tn) (fun g => nN (mn g)) q) (nN (mn q))) ?_
                refine lv_istore (lv' := [(5, .int (nI ((smP (lvF ft st tn) (fun g => nN (mn g)) q) + (nN (mn q))))), (4, .int (nI ((cntP (fun g => ¬ (tn g).toInt = 0) q) + 0))), (3, .int (nI ((cntP (fun g => (st g).toInt = 2) q) + 0))), (2, .int (nI ((cntP (fun g => (st g).toInt = 1) q) + 1))), (6, .int (nI q)), (0, .ref k0), (1, .int 4)]) hx hb dX11_count_103 hl (Nat.le_of_ble_eq_true rfl) rfl (fun ls hl => ?_)
                refine lv_iinc (v := nI (q + 1)) (lv' := [(6, .int (nI (q + 1))), (5, .int (nI ((smP (lvF ft st tn) (fun g => nN (mn g)) q) + (nN (mn q))))), (4, .int (nI ((cntP (fun g => ¬ (tn g).toInt = 0) q) + 0))), (3, .int (nI ((cntP (fun g => (st g).toInt = 2) q) + 0))), (2, .int (nI ((cntP (fun g => (st g).toInt = 1) q) + 1))), (0, .ref k0), (1, .int 4)]) hx hb dX11_count_105 hl (k := 4) rfl (nI_add q 1) (Nat.le_of_ble_eq_true rfl) rfl (fun ls hl => ?_)
                refine lv_goto (tgt := 13) hx hb dX11_count_108 rfl ?_
                have hl9 := lv_sub hl [0, 1, 2, 3, 4, 5, 6] rfl
                have e9_2 : nI (cntP (fun g => (st g).toInt = 1) (q + 1)) = (nI ((cntP (fun g => (st g).toInt = 1) q) + 1) : Int32) := by first | exact congrArg nI (cntP_y (P := fun g => (st g).toInt = 1) (show (st q).toInt = 1 by omega)) | exact congrArg nI (cntP_n0 (P := fun g => (st g).toInt = 1) (show ¬ (st q).toInt = 1 by omega))
                have e9_3 : nI (cntP (fun g => (st g).toInt = 2) (q + 1)) = (nI ((cntP (fun g => (st g).toInt = 2) q) + 0) : Int32) := by first | exact congrArg nI (cntP_y (P := fun g => (st g).toInt = 2) (show (st q).toInt = 2 by omega)) | exact congrArg nI (cntP_n0 (P := fun g => (st g).toInt = 2) (show ¬ (st q).toInt = 2 by omega))
                have e9_4 : nI (cntP (fun g => ¬ (tn g).toInt = 0) (q + 1)) = (nI ((cntP (fun g => ¬ (tn g).toInt = 0) q) + 0) : Int32) := by first | exact congrArg nI (cntP_y (P := fun g => ¬ (tn g).toInt = 0) (show ¬ (tn q).toInt = 0 by omega)) | exact congrArg nI (cntP_n0 (P := fun g => ¬ (tn g).toInt = 0) (show ¬ ¬ (tn q).toInt = 0 by omega))
                have e9_5 : nI (smP (lvF ft st tn) (fun g => nN (mn g)) (q + 1)) = (nI ((smP (lvF ft st tn) (fun g => nN (mn g)) q) + (nN (mn q))) : Int32) := by first | exact congrArg nI (smP_y (P := lvF ft st tn) (by first | with_reducible assumption | assumption)) | exact congrArg nI (smP_n (P := lvF ft st tn) (by first | with_reducible assumption | assumption))
                have hl9 : lv_has ls 7 [(6, .int (nI (q + 1))), (5, .int (nI (smP (lvF ft st tn) (fun g => nN (mn g)) (q + 1)))), (4, .int (nI (cntP (fun g => ¬ (tn g).toInt = 0) (q + 1)))), (3, .int (nI (cntP (fun g => (st g).toInt = 2) (q + 1)))), (2, .int (nI (cntP (fun g => (st g).toInt = 1) (q + 1)))), (0, .ref k0), (1, .int 4)] := by rw [e9_2]; rw [e9_3]; rw [e9_4]; rw [e9_5]; exact hl9
                exact ih_13 (q + 1) H locs ls (by first | with_reducible assumption | omega) (by first | with_reducible assumption | omega) hP hD hS hl9
            · have c_14 : ¬ (tn q).toInt = 0 := zc_ne rfl rfl c_14
              refine lv_iconst (v := 1) hx hb dX11_count_72 rfl ?_
              refine lv_goto (tgt := 77) hx hb dX11_count_73 rfl ?_
              refine lv_iadd hx hb dX11_count_77 ?_
              refine zz_i (v := nI ((cntP (fun g => ¬ (tn g).toInt = 0) q) + 1)) (nI_add (cntP (fun g => ¬ (tn g).toInt = 0) q) 1) ?_
              refine lv_istore (lv' := [(4, .int (nI ((cntP (fun g => ¬ (tn g).toInt = 0) q) + 1))), (3, .int (nI ((cntP (fun g => (st g).toInt = 2) q) + 0))), (2, .int (nI ((cntP (fun g => (st g).toInt = 1) q) + 1))), (6, .int (nI q)), (5, .int (nI (smP (lvF ft st tn) (fun g => nN (mn g)) q))), (0, .ref k0), (1, .int 4)]) hx hb dX11_count_78 hl (Nat.le_of_ble_eq_true rfl) rfl (fun ls hl => ?_)
              refine lv_iload hx hb dX11_count_80 (lv_at hl 4 rfl) ?_
              refine lv_aload_n hx hb dX11_count_82 rfl (lv_at hl 5 rfl) ?_
              refine lv_iload hx hb dX11_count_83 (lv_at hl 3 rfl) ?_
              obtain ⟨hPc, hDc, hFc, hI1⟩ := zi_sub (wc := [_, _, _]) hP hD hS hA [0, 1, 2] rfl rfl
              refine zcall (st1 := [.int (pI (q < ft ∧ (st q).toInt = 1 ∧ (tn q).toInt = 0)), .int (nI (smP (lvF ft st tn) (fun g => nN (mn g)) q))]) (va_runV (As := [.int (nI q)]) (rest := [.int (nI (smP (lvF ft st tn) (fun g => nN (mn g)) q))]) ⟨hx, hb, hml, hown, hts⟩ (k_M_is_n l dC dI cI cZ cF H.size k0 a I0 J0 q ft st tn (by first | with_reducible assumption | assumption) (by first | with_reducible assumption | omega) (by first | with_reducible assumption | omega)) (csV_179 hts rfl rfl ⟨Nat.le_of_ble_eq_true rfl, Nat.le_of_ble_eq_true rfl⟩) (zPV2 (q0 := 0) (ci := 9) hPc hDc hK hXN rfl rfl) rfl rfl hl.1 rfl (lv_room (Nat.le_of_ble_eq_true rfl)) dX11_count_85 ⟨Nat.le_of_ble_eq_true rfl, Nat.le_of_ble_eq_true rfl⟩) hS hFc hFc rfl (fun t H locs ht hB hk1 hS => ?_)
              obtain ⟨hP1, hD1⟩ := hB
              rw [ht] at hP1
              replace hP := z0 hP hD hk1 hP1 hI1
              clear hk1 hPc hDc hFc hP1 hD1 ht hI1
              refine lv_if_eq (tgt := 101) hx hb dX11_count_88 rfl (fun c_16 => ?_) (fun c_16 => ?_)
              · have c_16 : ¬ (q < ft ∧ (st q).toInt = 1 ∧ (tn q).toInt = 0) := zp_0 c_16
                refine lv_iconst (v := 0) hx hb dX11_count_101 rfl ?_
                refine lv_iadd hx hb dX11_count_102 ?_
                refine zz_i (v := nI ((smP (lvF ft st tn) (fun g => nN (mn g)) q) + 0)) (nI_add (smP (lvF ft st tn) (fun g => nN (mn g)) q) 0) ?_
                refine lv_istore (lv' := [(5, .int (nI ((smP (lvF ft st tn) (fun g => nN (mn g)) q) + 0))), (4, .int (nI ((cntP (fun g => ¬ (tn g).toInt = 0) q) + 1))), (3, .int (nI ((cntP (fun g => (st g).toInt = 2) q) + 0))), (2, .int (nI ((cntP (fun g => (st g).toInt = 1) q) + 1))), (6, .int (nI q)), (0, .ref k0), (1, .int 4)]) hx hb dX11_count_103 hl (Nat.le_of_ble_eq_true rfl) rfl (fun ls hl => ?_)
                refine lv_iinc (v := nI (q + 1)) (lv' := [(6, .int (nI (q + 1))), (5, .int (nI ((smP (lvF ft st tn) (fun g => nN (mn g)) q) + 0))), (4, .int (nI ((cntP (fun g => ¬ (tn g).toInt = 0) q) + 1))), (3, .int (nI ((cntP (fun g => (st g).toInt = 2) q) + 0))), (2, .int (nI ((cntP (fun g => (st g).toInt = 1) q) + 1))), (0, .ref k0), (1, .int 4)]) hx hb dX11_count_105 hl (k := 4) rfl (nI_add q 1) (Nat.le_of_ble_eq_true rfl) rfl (fun ls hl => ?_)
                refine lv_goto (tgt := 13) hx hb dX11_count_108 rfl ?_
                have hl9 := lv_sub hl [0, 1, 2, 3, 4, 5, 6] rfl
                have e9_2 : nI (cntP (fun g => (st g).toInt = 1) (q + 1)) = (nI ((cntP (fun g => (st g).toInt = 1) q) + 1) : Int32) := by first | exact congrArg nI (cntP_y (P := fun g => (st g).toInt = 1) (show (st q).toInt = 1 by omega)) | exact congrArg nI (cntP_n0 (P := fun g => (st g).toInt = 1) (show ¬ (st q).toInt = 1 by omega))
                have e9_3 : nI (cntP (fun g => (st g).toInt = 2) (q + 1)) = (nI ((cntP (fun g => (st g).toInt = 2) q) + 0) : Int32) := by first | exact congrArg nI (cntP_y (P := fun g => (st g).toInt = 2) (show (st q).toInt = 2 by omega)) | exact congrArg nI (cntP_n0 (P := fun g => (st g).toInt = 2) (show ¬ (st q).toInt = 2 by omega))
                have e9_4 : nI (cntP (fun g => ¬ (tn g).toInt = 0) (q + 1)) = (nI ((cntP (fun g => ¬ (tn g).toInt = 0) q) + 1) : Int32) := by first | exact congrArg nI (cntP_y (P := fun g => ¬ (tn g).toInt = 0) (show ¬ (tn q).toInt = 0 by omega)) | exact congrArg nI (cntP_n0 (P := fun g => ¬ (tn g).toInt = 0) (show ¬ ¬ (tn q).toInt = 0 by omega))
                have e9_5 : nI (smP (lvF ft st tn) (fun g => nN (mn g)) (q + 1)) = (nI ((smP (lvF ft st tn) (fun g => nN (mn g)) q) + 0) : Int32) := by first | exact congrArg nI (smP_y (P := lvF ft st tn) (by first | with_reducible assumption | assumption)) | exact congrArg nI (smP_n (P := lvF ft st tn) (by first | with_reducible assumption | assumption))
                have hl9 : lv_has ls 7 [(6, .int (nI (q + 1))), (5, .int (nI (smP (lvF ft st tn) (fun g => nN (mn g)) (q + 1)))), (4, .int (nI (cntP (fun g => ¬ (tn g).toInt = 0) (q + 1)))), (3, .int (nI (cntP (fun g => (st g).toInt = 2) (q + 1)))), (2, .int (nI (cntP (fun g => (st g).toInt = 1) (q + 1)))), (0, .ref k0), (1, .int 4)] := by rw [e9_2]; rw [e9_3]; rw [e9_4]; rw [e9_5]; exact hl9
                exact ih_13 (q + 1) H locs ls (by first | with_reducible assumption | omega) (by first | with_reducible assumption | omega) hP hD hS hl9
              · have c_16 : q < ft ∧ (st q).toInt = 1 ∧ (tn q).toInt = 0 := zp_1 c_16
                refine lv_aload_n hx hb dX11_count_91 rfl (lv_at hl 5 rfl) ?_
                refine va_get (D := (dC, dI)) (ci := 9) (v := .ref (a 11)) (C := RX11) (T := TX11) (N := 55) hx hb hts inX11 hown hK hP 0 rfl rfl 11 (Nat.le_of_ble_eq_true rfl) (hts _ mw_1170) (fun _ h9 => h9) rfl dX11_count_92 ?_
                refine lv_iload hx hb dX11_count_95 (lv_at hl 3 rfl) ?_
                refine z_iald hx hb hK hP 3 0 rfl rfl (e := q) rfl b9_4 (Nat.le_of_ble_eq_true rfl) dX11_count_97 ?_
                refine zz_i (v := nI (nN (mn q))) ((hmw q (by first | with_reducible assumption | assumption)).1) ?_
                refine lv_goto (tgt := 102) hx hb dX11_count_98 rfl ?_
                refine lv_iadd hx hb dX11_count_102 ?_
                refine zz_i (v := nI ((smP (lvF ft st tn) (fun g => nN (mn g)) q) + (nN (mn q)))) (nI_add (smP (lvF ft st tn) (fun g => nN (mn g)) q) (nN (mn q))) ?_
                refine lv_istore (lv' := [(5, .int (nI ((smP (lvF ft st tn) (fun g => nN (mn g)) q) + (nN (mn q))))), (4, .int (nI ((cntP (fun g => ¬ (tn g).toInt = 0) q) + 1))), (3, .int (nI ((cntP (fun g => (st g).toInt = 2) q) + 0))), (2, .int (nI ((cntP (fun g => (st g).toInt = 1) q) + 1))), (6, .int (nI q)), (0, .ref k0), (1, .int 4)]) hx hb dX11_count_103 hl (Nat.le_of_ble_eq_true rfl) rfl (fun ls hl => ?_)
                refine lv_iinc (v := nI (q + 1)) (lv' := [(6, .int (nI (q + 1))), (5, .int (nI ((smP (lvF ft st tn) (fun g => nN (mn g)) q) + (nN (mn q))))), (4, .int (nI ((cntP (fun g => ¬ (tn g).toInt = 0) q) + 1))), (3, .int (nI ((cntP (fun g => (st g).toInt = 2) q) + 0))), (2, .int (nI ((cntP (fun g => (st g).toInt = 1) q) + 1))), (0, .ref k0), (1, .int 4)]) hx hb dX11_count_105 hl (k := 4) rfl (nI_add q 1) (Nat.le_of_ble_eq_true rfl) rfl (fun ls hl => ?_)
                refine lv_goto (tgt := 13) hx hb dX11_count_108 rfl ?_
                have hl9 := lv_sub hl [0, 1, 2, 3, 4, 5, 6] rfl
                have e9_2 : nI (cntP (fun g => (st g).toInt = 1) (q + 1)) = (nI ((cntP (fun g => (st g).toInt = 1) q) + 1) : Int32) := by first | exact congrArg nI (cntP_y (P := fun g => (st g).toInt = 1) (show (st q).toInt = 1 by omega)) | exact congrArg nI (cntP_n0 (P := fun g => (st g).toInt = 1) (show ¬ (st q).toInt = 1 by omega))
                have e9_3 : nI (cntP (fun g => (st g).toInt = 2) (q + 1)) = (nI ((cntP (fun g => (st g).toInt = 2) q) + 0) : Int32) := by first | exact congrArg nI (cntP_y (P := fun g => (st g).toInt = 2) (show (st q).toInt = 2 by omega)) | exact congrArg nI (cntP_n0 (P := fun g => (st g).toInt = 2) (show ¬ (st q).toInt = 2 by omega))
                have e9_4 : nI (cntP (fun g => ¬ (tn g).toInt = 0) (q + 1)) = (nI ((cntP (fun g => ¬ (tn g).toInt = 0) q) + 1) : Int32) := by first | exact congrArg nI (cntP_y (P := fun g => ¬ (tn g).toInt = 0) (show ¬ (tn q).toInt = 0 by omega)) | exact congrArg nI (cntP_n0 (P := fun g => ¬ (tn g).toInt = 0) (show ¬ ¬ (tn q).toInt = 0 by omega))
                have e9_5 : nI (smP (lvF ft st tn) (fun g => nN (mn g)) (q + 1)) = (nI ((smP (lvF ft st tn) (fun g => nN (mn g)) q) + (nN (mn q))) : Int32) := by first | exact congrArg nI (smP_y (P := lvF ft st tn) (by first | with_reducible assumption | assumption)) | exact congrArg nI (smP_n (P := lvF ft st tn) (by first | with_reducible assumption | assumption))
                have hl9 : lv_has ls 7 [(6, .int (nI (q + 1))), (5, .int (nI (smP (lvF ft st tn) (fun g => nN (mn g)) (q + 1)))), (4, .int (nI (cntP (fun g => ¬ (tn g).toInt = 0) (q + 1)))), (3, .int (nI (cntP (fun g => (st g).toInt = 2) (q + 1)))), (2, .int (nI (cntP (fun g => (st g).toInt = 1) (q + 1)))), (0, .ref k0), (1, .int 4)] := by rw [e9_2]; rw [e9_3]; rw [e9_4]; rw [e9_5]; exact hl9
                exact ih_13 (q + 1) H locs ls (by first | with_reducible assumption | omega) (by first | with_reducible assumption | omega) hP hD hS hl9
          · have c_13 : (st q).toInt = 2 := zc_eq rfl rfl c_13
            refine lv_iconst (v := 1) hx hb dX11_count_53 rfl ?_
            refine lv_goto (tgt := 58) hx hb dX11_count_54 rfl ?_
            refine lv_iadd hx hb dX11_count_58 ?_
            refine zz_i (v := nI ((cntP (fun g => (st g).toInt = 2) q) + 1)) (nI_add (cntP (fun g => (st g).toInt = 2) q) 1) ?_
            refine lv_istore_n (lv' := [(3, .int (nI ((cntP (fun g => (st g).toInt = 2) q) + 1))), (2, .int (nI ((cntP (fun g => (st g).toInt = 1) q) + 1))), (6, .int (nI q)), (5, .int (nI (smP (lvF ft st tn) (fun g => nN (mn g)) q))), (4, .int (nI (cntP (fun g => ¬ (tn g).toInt = 0) q))), (0, .ref k0), (1, .int 4)]) hx hb dX11_count_59 rfl hl (Nat.le_of_ble_eq_true rfl) rfl (fun ls hl => ?_)
            refine lv_iload hx hb dX11_count_60 (lv_at hl 4 rfl) ?_
            refine lv_aload_n hx hb dX11_count_62 rfl (lv_at hl 5 rfl) ?_
            refine va_get (D := (dC, dI)) (ci := 9) (v := .ref (a 6)) (C := RX11) (T := TX11) (N := 55) hx hb hts inX11 hown hK hP 0 rfl rfl 6 (Nat.le_of_ble_eq_true rfl) (hts _ mw_1165) (fun _ h9 => h9) rfl dX11_count_63 ?_
            refine lv_iload hx hb dX11_count_66 (lv_at hl 2 rfl) ?_
            refine z_zald hx hb hK hP 2 1 rfl rfl (e := q) rfl b9_4 (Nat.le_of_ble_eq_true rfl) dX11_count_68 ?_
            refine lv_if_eq (tgt := 76) hx hb dX11_count_69 rfl (fun c_17 => ?_) (fun c_17 => ?_)
            · have c_17 : (tn q).toInt = 0 := zc_eq rfl rfl c_17
              refine lv_iconst (v := 0) hx hb dX11_count_76 rfl ?_
              refine lv_iadd hx hb dX11_count_77 ?_
              refine zz_i (v := nI ((cntP (fun g => ¬ (tn g).toInt = 0) q) + 0)) (nI_add (cntP (fun g => ¬ (tn g).toInt = 0) q) 0) ?_
              refine lv_istore (lv' := [(4, .int (nI ((cntP (fun g => ¬ (tn g).toInt = 0) q) + 0))), (3, .int (nI ((cntP (fun g => (st g).toInt = 2) q) + 1))), (2, .int (nI ((cntP (fun g => (st g).toInt = 1) q) + 1))), (6, .int (nI q)), (5, .int (nI (smP (lvF ft st tn) (fun g => nN (mn g)) q))), (0, .ref k0), (1, .int 4)]) hx hb dX11_count_78 hl (Nat.le_of_ble_eq_true rfl) rfl (fun ls hl => ?_)
              refine lv_iload hx hb dX11_count_80 (lv_at hl 4 rfl) ?_
              refine lv_aload_n hx hb dX11_count_82 rfl (lv_at hl 5 rfl) ?_
              refine lv_iload hx hb dX11_count_83 (lv_at hl 3 rfl) ?_
              obtain ⟨hPc, hDc, hFc, hI1⟩ := zi_sub (wc := [_, _, _]) hP hD hS hA [0, 1, 2] rfl rfl
              refine zcall (st1 := [.int (pI (q < ft ∧ (st q).toInt = 1 ∧ (tn q).toInt = 0)), .int (nI (smP (lvF ft st tn) (fun g => nN (mn g)) q))]) (va_runV (As := [.int (nI q)]) (rest := [.int (nI (smP (lvF ft st tn) (fun g => nN (mn g)) q))]) ⟨hx, hb, hml, hown, hts⟩ (k_M_is_n l dC dI cI cZ cF H.size k0 a I0 J0 q ft st tn (by first | with_reducible assumption | assumption) (by first | with_reducible assumption | omega) (by first | with_reducible assumption | omega)) (csV_179 hts rfl rfl ⟨Nat.le_of_ble_eq_true rfl, Nat.le_of_ble_eq_true rfl⟩) (zPV2 (q0 := 0) (ci := 9) hPc hDc hK hXN rfl rfl) rfl rfl hl.1 rfl (lv_room (Nat.le_of_ble_eq_true rfl)) dX11_count_85 ⟨Nat.le_of_ble_eq_true rfl, Nat.le_of_ble_eq_true rfl⟩) hS hFc hFc rfl (fun t H locs ht hB hk1 hS => ?_)
              obtain ⟨hP1, hD1⟩ := hB
              rw [ht] at hP1
              replace hP := z0 hP hD hk1 hP1 hI1
              clear hk1 hPc hDc hFc hP1 hD1 ht hI1
              refine lv_if_eq (tgt := 101) hx hb dX11_count_88 rfl (fun c_18 => ?_) (fun c_18 => ?_)
              · have c_18 : ¬ (q < ft ∧ (st q).toInt = 1 ∧ (tn q).toInt = 0) := zp_0 c_18
                refine lv_iconst (v := 0) hx hb dX11_count_101 rfl ?_
                refine lv_iadd hx hb dX11_count_102 ?_
                refine zz_i (v := nI ((smP (lvF ft st tn) (fun g => nN (mn g)) q) + 0)) (nI_add (smP (lvF ft st tn) (fun g => nN (mn g)) q) 0) ?_
                refine lv_istore (lv' := [(5, .int (nI ((smP (lvF ft st tn) (fun g => nN (mn g)) q) + 0))), (4, .int (nI ((cntP (fun g => ¬ (tn g).toInt = 0) q) + 0))), (3, .int (nI ((cntP (fun g => (st g).toInt = 2) q) + 1))), (2, .int (nI ((cntP (fun g => (st g).toInt = 1) q) + 1))), (6, .int (nI q)), (0, .ref k0), (1, .int 4)]) hx hb dX11_count_103 hl (Nat.le_of_ble_eq_true rfl) rfl (fun ls hl => ?_)
                refine lv_iinc (v := nI (q + 1)) (lv' := [(6, .int (nI (q + 1))), (5, .int (nI ((smP (lvF ft st tn) (fun g => nN (mn g)) q) + 0))), (4, .int (nI ((cntP (fun g => ¬ (tn g).toInt = 0) q) + 0))), (3, .int (nI ((cntP (fun g => (st g).toInt = 2) q) + 1))), (2, .int (nI ((cntP (fun g => (st g).toInt = 1) q) + 1))), (0, .ref k0), (1, .int 4)]) hx hb dX11_count_105 hl (k := 4) rfl (nI_add q 1) (Nat.le_of_ble_eq_true rfl) rfl (fun ls hl => ?_)
                refine lv_goto (tgt := 13) hx hb dX11_count_108 rfl ?_
                have hl9 := lv_sub hl [0, 1, 2, 3, 4, 5, 6] rfl
                have e9_2 : nI (cntP (fun g => (st g).toInt = 1) (q + 1)) = (nI ((cntP (fun g => (st g).toInt = 1) q) + 1) : Int32) := by first | exact congrArg nI (cntP_y (P := fun g => (st g).toInt = 1) (show (st q).toInt = 1 by omega)) | exact congrArg nI (cntP_n0 (P := fun g => (st g).toInt = 1) (show ¬ (st q).toInt = 1 by omega))
                have e9_3 : nI (cntP (fun g => (st g).toInt = 2) (q + 1)) = (nI ((cntP (fun g => (st g).toInt = 2) q) + 1) : Int32) := by first | exact congrArg nI (cntP_y (P := fun g => (st g).toInt = 2) (show (st q).toInt = 2 by omega)) | exact congrArg nI (cntP_n0 (P := fun g => (st g).toInt = 2) (show ¬ (st q).toInt = 2 by omega))
                have e9_4 : nI (cntP (fun g => ¬ (tn g).toInt = 0) (q + 1)) = (nI ((cntP (fun g => ¬ (tn g).toInt = 0) q) + 0) : Int32) := by first | exact congrArg nI (cntP_y (P := fun g => ¬ (tn g).toInt = 0) (show ¬ (tn q).toInt = 0 by omega)) | exact congrArg nI (cntP_n0 (P := fun g => ¬ (tn g).toInt = 0) (show ¬ ¬ (tn q).toInt = 0 by omega))
                have e9_5 : nI (smP (lvF ft st tn) (fun g => nN (mn g)) (q + 1)) = (nI ((smP (lvF ft st tn) (fun g => nN (mn g)) q) + 0) : Int32) := by first | exact congrArg nI (smP_y (P := lvF ft st tn) (by first | with_reducible assumption | assumption)) | exact congrArg nI (smP_n (P := lvF ft st tn) (by first | with_reducible assumption | assumption))
                have hl9 : lv_has ls 7 [(6, .int (nI (q + 1))), (5, .int (nI (smP (lvF ft st tn) (fun g => nN (mn g)) (q + 1)))), (4, .int (nI (cntP (fun g => ¬ (tn g).toInt = 0) (q + 1)))), (3, .int (nI (cntP (fun g => (st g).toInt = 2) (q + 1)))), (2, .int (nI (cntP (fun g => (st g).toInt = 1) (q + 1)))), (0, .ref k0), (1, .int 4)] := by rw [e9_2]; rw [e9_3]; rw [e9_4]; rw [e9_5]; exact hl9
                exact ih_13 (q + 1) H locs ls (by first | with_reducible assumption | omega) (by first | with_reducible assumption | omega) hP hD hS hl9
              · have c_18 : q < ft ∧ (st q).toInt = 1 ∧ (tn q).toInt = 0 := zp_1 c_18
                refine lv_aload_n hx hb dX11_count_91 rfl (lv_at hl 5 rfl) ?_
                refine va_get (D := (dC, dI)) (ci := 9) (v := .ref (a 11)) (C := RX11) (T := TX11) (N := 55) hx hb hts inX11 hown hK hP 0 rfl rfl 11 (Nat.le_of_ble_eq_true rfl) (hts _ mw_1170) (fun _ h9 => h9) rfl dX11_count_92 ?_
                refine lv_iload hx hb dX11_count_95 (lv_at hl 3 rfl) ?_
                refine z_iald hx hb hK hP 3 0 rfl rfl (e := q) rfl b9_4 (Nat.le_of_ble_eq_true rfl) dX11_count_97 ?_
                refine zz_i (v := nI (nN (mn q))) ((hmw q (by first | with_reducible assumption | assumption)).1) ?_
                refine lv_goto (tgt := 102) hx hb dX11_count_98 rfl ?_
                refine lv_iadd hx hb dX11_count_102 ?_
                refine zz_i (v := nI ((smP (lvF ft st tn) (fun g => nN (mn g)) q) + (nN (mn q)))) (nI_add (smP (lvF ft st tn) (fun g => nN (mn g)) q) (nN (mn q))) ?_
                refine lv_istore (lv' := [(5, .int (nI ((smP (lvF ft st tn) (fun g => nN (mn g)) q) + (nN (mn q))))), (4, .int (nI ((cntP (fun g => ¬ (tn g).toInt = 0) q) + 0))), (3, .int (nI ((cntP (fun g => (st g).toInt = 2) q) + 1))), (2, .int (nI ((cntP (fun g => (st g).toInt = 1) q) + 1))), (6, .int (nI q)), (0, .ref k0), (1, .int 4)]) hx hb dX11_count_103 hl (Nat.le_of_ble_eq_true rfl) rfl (fun ls hl => ?_)
                refine lv_iinc (v := nI (q + 1)) (lv' := [(6, .int (nI (q + 1))), (5, .int (nI ((smP (lvF ft st tn) (fun g => nN (mn g)) q) + (nN (mn q))))), (4, .int (nI ((cntP (fun g => ¬ (tn g).toInt = 0) q) + 0))), (3, .int (nI ((cntP (fun g => (st g).toInt = 2) q) + 1))), (2, .int (nI ((cntP (fun g => (st g).toInt = 1) q) + 1))), (0, .ref k0), (1, .int 4)]) hx hb dX11_count_105 hl (k := 4) rfl (nI_add q 1) (Nat.le_of_ble_eq_true rfl) rfl (fun ls hl => ?_)
                refine lv_goto (tgt := 13) hx hb dX11_count_108 rfl ?_
                have hl9 := lv_sub hl [0, 1, 2, 3, 4, 5, 6] rfl
                have e9_2 : nI (cntP (fun g => (st g).toInt = 1) (q + 1)) = (nI ((cntP (fun g => (st g).toInt = 1) q) + 1) : Int32) := by first | exact congrArg nI (cntP_y (P := fun g => (st g).toInt = 1) (show (st q).toInt = 1 by omega)) | exact congrArg nI (cntP_n0 (P := fun g => (st g).toInt = 1) (show ¬ (st q).toInt = 1 by omega))
                have e9_3 : nI (cntP (fun g => (st g).toInt = 2) (q + 1)) = (nI ((cntP (fun g => (st g).toInt = 2) q) + 1) : Int32) := by first | exact congrArg nI (cntP_y (P := fun g => (st g).toInt = 2) (show (st q).toInt = 2 by omega)) | exact congrArg nI (cntP_n0 (P := fun g => (st g).toInt = 2) (show ¬ (st q).toInt = 2 by omega))
                have e9_4 : nI (cntP (fun g => ¬ (tn g).toInt = 0) (q + 1)) = (nI ((cntP (fun g => ¬ (tn g).toInt = 0) q) + 0) : Int32) := by first | exact congrArg nI (cntP_y (P := fun g => ¬ (tn g).toInt = 0) (show ¬ (tn q).toInt = 0 by omega)) | exact congrArg nI (cntP_n0 (P := fun g => ¬ (tn g).toInt = 0) (show ¬ ¬ (tn q).toInt = 0 by omega))
                have e9_5 : nI (smP (lvF ft st tn) (fun g => nN (mn g)) (q + 1)) = (nI ((smP (lvF ft st tn) (fun g => nN (mn g)) q) + (nN (mn q))) : Int32) := by first | exact congrArg nI (smP_y (P := lvF ft st tn) (by first | with_reducible assumption | assumption)) | exact congrArg nI (smP_n (P := lvF ft st tn) (by first | with_reducible assumption | assumption))
                have hl9 : lv_has ls 7 [(6, .int (nI (q + 1))), (5, .int (nI (smP (lvF ft st tn) (fun g => nN (mn g)) (q + 1)))), (4, .int (nI (cntP (fun g => ¬ (tn g).toInt = 0) (q + 1)))), (3, .int (nI (cntP (fun g => (st g).toInt = 2) (q + 1)))), (2, .int (nI (cntP (fun g => (st g).toInt = 1) (q + 1)))), (0, .ref k0), (1, .int 4)] := by rw [e9_2]; rw [e9_3]; rw [e9_4]; rw [e9_5]; exact hl9
                exact ih_13 (q + 1) H locs ls (by first | with_reducible assumption | omega) (by first | with_reducible assumption | omega) hP hD hS hl9
            · have c_17 : ¬ (tn q).toInt = 0 := zc_ne rfl rfl c_17
              refine lv_iconst (v := 1) hx hb dX11_count_72 rfl ?_
              refine lv_goto (tgt := 77) hx hb dX11_count_73 rfl ?_
              refine lv_iadd hx hb dX11_count_77 ?_
              refine zz_i (v := nI ((cntP (fun g => ¬ (tn g).toInt = 0) q) + 1)) (nI_add (cntP (fun g => ¬ (tn g).toInt = 0) q) 1) ?_
              refine lv_istore (lv' := [(4, .int (nI ((cntP (fun g => ¬ (tn g).toInt = 0) q) + 1))), (3, .int (nI ((cntP (fun g => (st g).toInt = 2) q) + 1))), (2, .int (nI ((cntP (fun g => (st g).toInt = 1) q) + 1))), (6, .int (nI q)), (5, .int (nI (smP (lvF ft st tn) (fun g => nN (mn g)) q))), (0, .ref k0), (1, .int 4)]) hx hb dX11_count_78 hl (Nat.le_of_ble_eq_true rfl) rfl (fun ls hl => ?_)
              refine lv_iload hx hb dX11_count_80 (lv_at hl 4 rfl) ?_
              refine lv_aload_n hx hb dX11_count_82 rfl (lv_at hl 5 rfl) ?_
              refine lv_iload hx hb dX11_count_83 (lv_at hl 3 rfl) ?_
              obtain ⟨hPc, hDc, hFc, hI1⟩ := zi_sub (wc := [_, _, _]) hP hD hS hA [0, 1, 2] rfl rfl
              refine zcall (st1 := [.int (pI (q < ft ∧ (st q).toInt = 1 ∧ (tn q).toInt = 0)), .int (nI (smP (lvF ft st tn) (fun g => nN (mn g)) q))]) (va_runV (As := [.int (nI q)]) (rest := [.int (nI (smP (lvF ft st tn) (fun g => nN (mn g)) q))]) ⟨hx, hb, hml, hown, hts⟩ (k_M_is_n l dC dI cI cZ cF H.size k0 a I0 J0 q ft st tn (by first | with_reducible assumption | assumption) (by first | with_reducible assumption | omega) (by first | with_reducible assumption | omega)) (csV_179 hts rfl rfl ⟨Nat.le_of_ble_eq_true rfl, Nat.le_of_ble_eq_true rfl⟩) (zPV2 (q0 := 0) (ci := 9) hPc hDc hK hXN rfl rfl) rfl rfl hl.1 rfl (lv_room (Nat.le_of_ble_eq_true rfl)) dX11_count_85 ⟨Nat.le_of_ble_eq_true rfl, Nat.le_of_ble_eq_true rfl⟩) hS hFc hFc rfl (fun t H locs ht hB hk1 hS => ?_)
              obtain ⟨hP1, hD1⟩ := hB
              rw [ht] at hP1
              replace hP := z0 hP hD hk1 hP1 hI1
              clear hk1 hPc hDc hFc hP1 hD1 ht hI1
              refine lv_if_eq (tgt := 101) hx hb dX11_count_88 rfl (fun c_19 => ?_) (fun c_19 => ?_)
              · have c_19 : ¬ (q < ft ∧ (st q).toInt = 1 ∧ (tn q).toInt = 0) := zp_0 c_19
                refine lv_iconst (v := 0) hx hb dX11_count_101 rfl ?_
                refine lv_iadd hx hb dX11_count_102 ?_
                refine zz_i (v := nI ((smP (lvF ft st tn) (fun g => nN (mn g)) q) + 0)) (nI_add (smP (lvF ft st tn) (fun g => nN (mn g)) q) 0) ?_
                refine lv_istore (lv' := [(5, .int (nI ((smP (lvF ft st tn) (fun g => nN (mn g)) q) + 0))), (4, .int (nI ((cntP (fun g => ¬ (tn g).toInt = 0) q) + 1))), (3, .int (nI ((cntP (fun g => (st g).toInt = 2) q) + 1))), (2, .int (nI ((cntP (fun g => (st g).toInt = 1) q) + 1))), (6, .int (nI q)), (0, .ref k0), (1, .int 4)]) hx hb dX11_count_103 hl (Nat.le_of_ble_eq_true rfl) rfl (fun ls hl => ?_)
                refine lv_iinc (v := nI (q + 1)) (lv' := [(6, .int (nI (q + 1))), (5, .int (nI ((smP (lvF ft st tn) (fun g => nN (mn g)) q) + 0))), (4, .int (nI ((cntP (fun g => ¬ (tn g).toInt = 0) q) + 1))), (3, .int (nI ((cntP (fun g => (st g).toInt = 2) q) + 1))), (2, .int (nI ((cntP (fun g => (st g).toInt = 1) q) + 1))), (0, .ref k0), (1, .int 4)]) hx hb dX11_count_105 hl (k := 4) rfl (nI_add q 1) (Nat.le_of_ble_eq_true rfl) rfl (fun ls hl => ?_)
                refine lv_goto (tgt := 13) hx hb dX11_count_108 rfl ?_
                have hl9 := lv_sub hl [0, 1, 2, 3, 4, 5, 6] rfl
                have e9_2 : nI (cntP (fun g => (st g).toInt = 1) (q + 1)) = (nI ((cntP (fun g => (st g).toInt = 1) q) + 1) : Int32) := by first | exact congrArg nI (cntP_y (P := fun g => (st g).toInt = 1) (show (st q).toInt = 1 by omega)) | exact congrArg nI (cntP_n0 (P := fun g => (st g).toInt = 1) (show ¬ (st q).toInt = 1 by omega))
                have e9_3 : nI (cntP (fun g => (st g).toInt = 2) (q + 1)) = (nI ((cntP (fun g => (st g).toInt = 2) q) + 1) : Int32) := by first | exact congrArg nI (cntP_y (P := fun g => (st g).toInt = 2) (show (st q).toInt = 2 by omega)) | exact congrArg nI (cntP_n0 (P := fun g => (st g).toInt = 2) (show ¬ (st q).toInt = 2 by omega))
                have e9_4 : nI (cntP (fun g => ¬ (tn g).toInt = 0) (q + 1)) = (nI ((cntP (fun g => ¬ (tn g).toInt = 0) q) + 1) : Int32) := by first | exact congrArg nI (cntP_y (P := fun g => ¬ (tn g).toInt = 0) (show ¬ (tn q).toInt = 0 by omega)) | exact congrArg nI (cntP_n0 (P := fun g => ¬ (tn g).toInt = 0) (show ¬ ¬ (tn q).toInt = 0 by omega))
                have e9_5 : nI (smP (lvF ft st tn) (fun g => nN (mn g)) (q + 1)) = (nI ((smP (lvF ft st tn) (fun g => nN (mn g)) q) + 0) : Int32) := by first | exact congrArg nI (smP_y (P := lvF ft st tn) (by first | with_reducible assumption | assumption)) | exact congrArg nI (smP_n (P := lvF ft st tn) (by first | with_reducible assumption | assumption))
                have hl9 : lv_has ls 7 [(6, .int (nI (q + 1))), (5, .int (nI (smP (lvF ft st tn) (fun g => nN (mn g)) (q + 1)))), (4, .int (nI (cntP (fun g => ¬ (tn g).toInt = 0) (q + 1)))), (3, .int (nI (cntP (fun g => (st g).toInt = 2) (q + 1)))), (2, .int (nI (cntP (fun g => (st g).toInt = 1) (q + 1)))), (0, .ref k0), (1, .int 4)] := by rw [e9_2]; rw [e9_3]; rw [e9_4]; rw [e9_5]; exact hl9
                exact ih_13 (q + 1) H locs ls (by first | with_reducible assumption | omega) (by first | with_reducible assumption | omega) hP hD hS hl9
              · have c_19 : q < ft ∧ (st q).toInt = 1 ∧ (tn q).toInt = 0 := zp_1 c_19
                refine lv_aload_n hx hb dX11_count_91 rfl (lv_at hl 5 rfl) ?_
                refine va_get (D := (dC, dI)) (ci := 9) (v := .ref (a 11)) (C := RX11) (T := TX11) (N := 55) hx hb hts inX11 hown hK hP 0 rfl rfl 11 (Nat.le_of_ble_eq_true rfl) (hts _ mw_1170) (fun _ h9 => h9) rfl dX11_count_92 ?_
                refine lv_iload hx hb dX11_count_95 (lv_at hl 3 rfl) ?_
                refine z_iald hx hb hK hP 3 0 rfl rfl (e := q) rfl b9_4 (Nat.le_of_ble_eq_true rfl) dX11_count_97 ?_
                refine zz_i (v := nI (nN (mn q))) ((hmw q (by first | with_reducible assumption | assumption)).1) ?_
                refine lv_goto (tgt := 102) hx hb dX11_count_98 rfl ?_
                refine lv_iadd hx hb dX11_count_102 ?_
                refine zz_i (v := nI ((smP (lvF ft st tn) (fun g => nN (mn g)) q) + (nN (mn q)))) (nI_add (smP (lvF ft st tn) (fun g => nN (mn g)) q) (nN (mn q))) ?_
                refine lv_istore (lv' := [(5, .int (nI ((smP (lvF ft st tn) (fun g => nN (mn g)) q) + (nN (mn q))))), (4, .int (nI ((cntP (fun g => ¬ (tn g).toInt = 0) q) + 1))), (3, .int (nI ((cntP (fun g => (st g).toInt = 2) q) + 1))), (2, .int (nI ((cntP (fun g => (st g).toInt = 1) q) + 1))), (6, .int (nI q)), (0, .ref k0), (1, .int 4)]) hx hb dX11_count_103 hl (Nat.le_of_ble_eq_true rfl) rfl (fun ls hl => ?_)
                refine lv_iinc (v := nI (q + 1)) (lv' := [(6, .int (nI (q + 1))), (5, .int (nI ((smP (lvF ft st tn) (fun g => nN (mn g)) q) + (nN (mn q))))), (4, .int (nI ((cntP (fun g => ¬ (tn g).toInt = 0) q) + 1))), (3, .int (nI ((cntP (fun g => (st g).toInt = 2) q) + 1))), (2, .int (nI ((cntP (fun g => (st g).toInt = 1) q) + 1))), (0, .ref k0), (1, .int 4)]) hx hb dX11_count_105 hl (k := 4) rfl (nI_add q 1) (Nat.le_of_ble_eq_true rfl) rfl (fun ls hl => ?_)
                refine lv_goto (tgt := 13) hx hb dX11_count_108 rfl ?_
                have hl9 := lv_sub hl [0, 1, 2, 3, 4, 5, 6] rfl
                have e9_2 : nI (cntP (fun g => (st g).toInt = 1) (q + 1)) = (nI ((cntP (fun g => (st g).toInt = 1) q) + 1) : Int32) := by first | exact congrArg nI (cntP_y (P := fun g => (st g).toInt = 1) (show (st q).toInt = 1 by omega)) | exact congrArg nI (cntP_n0 (P := fun g => (st g).toInt = 1) (show ¬ (st q).toInt = 1 by omega))
                have e9_3 : nI (cntP (fun g => (st g).toInt = 2) (q + 1)) = (nI ((cntP (fun g => (st g).toInt = 2) q) + 1) : Int32) := by first | exact congrArg nI (cntP_y (P := fun g => (st g).toInt = 2) (show (st q).toInt = 2 by omega)) | exact congrArg nI (cntP_n0 (P := fun g => (st g).toInt = 2) (show ¬ (st q).toInt = 2 by omega))
                have e9_4 : nI (cntP (fun g => ¬ (tn g).toInt = 0) (q + 1)) = (nI ((cntP (fun g => ¬ (tn g).toInt = 0) q) + 1) : Int32) := by first | exact congrArg nI (cntP_y (P := fun g => ¬ (tn g).toInt = 0) (show ¬ (tn q).toInt = 0 by omega)) | exact congrArg nI (cntP_n0 (P := fun g => ¬ (tn g).toInt = 0) (show ¬ ¬ (tn q).toInt = 0 by omega))
                have e9_5 : nI (smP (lvF ft st tn) (fun g => nN (mn g)) (q + 1)) = (nI ((smP (lvF ft st tn) (fun g => nN (mn g)) q) + (nN (mn q))) : Int32) := by first | exact congrArg nI (smP_y (P := lvF ft st tn) (by first | with_reducible assumption | assumption)) | exact congrArg nI (smP_n (P := lvF ft st tn) (by first | with_reducible assumption | assumption))
                have hl9 : lv_has ls 7 [(6, .int (nI (q + 1))), (5, .int (nI (smP (lvF ft st tn) (fun g => nN (mn g)) (q + 1)))), (4, .int (nI (cntP (fun g => ¬ (tn g).toInt = 0) (q + 1)))), (3, .int (nI (cntP (fun g => (st g).toInt = 2) (q + 1)))), (2, .int (nI (cntP (fun g => (st g).toInt = 1) (q + 1)))), (0, .ref k0), (1, .int 4)] := by rw [e9_2]; rw [e9_3]; rw [e9_4]; rw [e9_5]; exact hl9
                exact ih_13 (q + 1) H locs ls (by first | with_reducible assumption | omega) (by first | with_reducible assumption | omega) hP hD hS hl9
  have e9_2 : nI (cntP (fun g => (st g).toInt = 1) 0) = (0 : Int32) := by rfl
  have e9_3 : nI (cntP (fun g => (st g).toInt = 2) 0) = (0 : Int32) := by rfl
  have e9_4 : nI (cntP (fun g => ¬ (tn g).toInt = 0) 0) = (0 : Int32) := by rfl
  have e9_5 : nI (smP (lvF ft st tn) (fun g => nN (mn g)) 0) = (0 : Int32) := by rfl
  have hl9 : lv_has ls 7 [(6, .int (nI 0)), (5, .int (nI (smP (lvF ft st tn) (fun g => nN (mn g)) 0))), (4, .int (nI (cntP (fun g => ¬ (tn g).toInt = 0) 0))), (3, .int (nI (cntP (fun g => (st g).toInt = 2) 0))), (2, .int (nI (cntP (fun g => (st g).toInt = 1) 0))), (0, .ref k0), (1, .int 4)] := by rw [e9_2]; rw [e9_3]; rw [e9_4]; rw [e9_5]; exact lv_sub hl [0, 1, 2, 3, 4, 5, 6] rfl
  exact hl_13 _ 0 s.heap [] ls (Nat.lt_succ_self _) (by first | with_reducible assumption | omega) hP hD hS hl9
set_option maxHeartbeats 4000000 in
set_option maxRecDepth 100000 in
theorem k_M_count_5 (l : Launch) (dC : Nat → ClassId) (dI : Nat → Nat → Nat) (cI cZ cF : ClassId) (sz : Nat) (k0 : Nat) (a : Nat → Nat) (I0 : Nat → Int32) (J0 : Nat → Int64) (ft : Nat) (st : Nat → Int32) (tn : Nat → Int32) (mn : Nat → Int32) (hft : I0 0 = nI ft) (h200 : ft ≤ 200) (hmw : ∀ q, lvF ft st tn q → mn q = nI (nN (mn q)) ∧ nN (mn q) ≤ 40) : zM l yX11_count cX11_count 7 (some .int) ({ frames := 2, cells := 0, slots := 0, locals := 42 } : Room) [.ref k0, .int 5] (dC, dI) (zTy cI cZ cF) [(om k0 a I0 J0), (oa (a 5) cI 201 st), (oa (a 6) cZ 201 tn), (oa (a 11) cI 201 mn)] sz (some (.int (I0 19))) (fun A t => zPD (dC, dI) classes A [(om k0 a I0 J0), (oa (a 5) cI 201 st), (oa (a 6) cZ 201 tn), (oa (a 11) cI 201 mn)] t.heap) 0 0 := by
  refine zIn (own := "ScaleShopModel") (loc := [(0, .ref k0), (1, .int 5)]) rfl rfl rfl rfl (fun p e s m below meth c hx hb hr hts hown hlocks hml hnm9 A hA hS hP hD hK hXN Q9 hQ9 ls hl => ?_)
  refine lv_iconst (v := 0) hx hb dX11_count_0 rfl ?_
  refine lv_istore_n (lv' := [(2, .int 0), (0, .ref k0), (1, .int 5)]) hx hb dX11_count_1 rfl hl (Nat.le_of_ble_eq_true rfl) rfl (fun ls hl => ?_)
  refine lv_iconst (v := 0) hx hb dX11_count_2 rfl ?_
  refine lv_istore_n (lv' := [(3, .int 0), (2, .int 0), (0, .ref k0), (1, .int 5)]) hx hb dX11_count_3 rfl hl (Nat.le_of_ble_eq_true rfl) rfl (fun ls hl => ?_)
  refine lv_iconst (v := 0) hx hb dX11_count_4 rfl ?_
  refine lv_istore (lv' := [(4, .int 0), (3, .int 0), (2, .int 0), (0, .ref k0), (1, .int 5)]) hx hb dX11_count_5 hl (Nat.le_of_ble_eq_true rfl) rfl (fun ls hl => ?_)
  refine lv_iconst (v := 0) hx hb dX11_count_7 rfl ?_
  refine lv_istore (lv' := [(5, .int 0), (4, .int 0), (3, .int 0), (2, .int 0), (0, .ref k0), (1, .int 5)]) hx hb dX11_count_8 hl (Nat.le_of_ble_eq_true rfl) rfl (fun ls hl => ?_)
  refine lv_iconst (v := 0) hx hb dX11_count_10 rfl ?_
  refine lv_istore (lv' := [(6, .int 0), (5, .int 0), (4, .int 0), (3, .int 0), (2, .int 0), (0, .ref k0), (1, .int 5)]) hx hb dX11_count_11 hl (Nat.le_of_ble_eq_true rfl) rfl (fun ls hl => ?_)
  have hl_13 : ∀ (n9 : Nat) (q : Nat) (H : Heap) (locs : List Loc) (ls : Array Slot), ft - q < n9 → (q ≤ ft) → va_P (dC, dI) classes [(om k0 a I0 J0), (oa (a 5) cI 201 st), (oa (a 6) cZ 201 tn), (oa (a 11) cI 201 mn)] H → va_D A [(om k0 a I0 J0), (oa (a 5) cI 201 st), (oa (a 6) cZ 201 tn), (oa (a 11) cI 201 mn)] → va_S A s.heap H locs → lv_has ls 7 [(6, .int (nI q)), (5, .int (nI (smP (lvF ft st tn) (fun g => nN (mn g)) q))), (4, .int (nI (cntP (fun g => ¬ (tn g).toInt = 0) q))), (3, .int (nI (cntP (fun g => (st g).toInt = 2) q))), (2, .int (nI (cntP (fun g => (st g).toInt = 1) q))), (0, .ref k0), (1, .int 5)] → W p l e ({ frames := 2, cells := 0, slots := 0, locals := 42 } : Room) s m ([.ref k0, .int 5] : List Value).toArray below meth c H locs 0 0 Q9 (F0 m 13 ls []) := by
    intro n9
    induction n9 with
    | zero => intro q H locs ls hm; exact absurd hm (Nat.not_lt_zero _)
    | succ n9 ih_13 =>
      intro q H locs ls hm hq hP hD hS hl
      have hc2 := cntP_b (fun g => (st g).toInt = 1) q
      have hc3 := cntP_b (fun g => (st g).toInt = 2) q
      have hc4 := cntP_b (fun g => ¬ (tn g).toInt = 0) q
      have hc5 := smP_b (P := lvF ft st tn) (c := fun g => nN (mn g)) q (fun j _ h => (hmw j h).2)
      refine lv_iload hx hb dX11_count_13 (lv_at hl 0 rfl) ?_
      refine lv_aload_n hx hb dX11_count_15 rfl (lv_at hl 5 rfl) ?_
      refine va_get (D := (dC, dI)) (ci := 9) (v := .int (I0 0)) (C := RX11) (T := TX11) (N := 55) hx hb hts inX11 hown hK hP 0 rfl rfl 0 (Nat.le_of_ble_eq_true rfl) (hts _ mw_1159) (fun _ h9 => h9) rfl dX11_count_16 ?_
      refine zz_i (v := nI ft) (hft) ?_
      have b9_2 : zlt (q) := show q < 2147483648 by omega
      have b9_3 : zlt (ft) := show ft < 2147483648 by omega
      refine lv_icmp_ge (tgt := 111) hx hb dX11_count_19 rfl (fun c_1 => ?_) (fun c_1 => ?_)
      · have c_1 : ((ft : Nat) : Int) ≤ ((q : Nat) : Int) := zc_le (nI_toInt b9_3) (nI_toInt b9_2) c_1
        refine lv_iload_n hx hb dX11_count_111 rfl (lv_at hl 6 rfl) ?_
        refine lv_tableIn (tgt := 175) (off := 63) hx hb dX11_count_112 (by decide) (by decide) (by decide) (by decide) ?_
        refine lv_aload_n hx hb dX11_count_175 rfl (lv_at hl 5 rfl) ?_
        refine va_get (D := (dC, dI)) (ci := 9) (v := .int (I0 19)) (C := RX11) (T := TX11) (N := 55) hx hb hts inX11 hown hK hP 0 rfl rfl 19 (Nat.le_of_ble_eq_true rfl) (hts _ mw_1178) (fun _ h9 => h9) rfl dX11_count_176 ?_
        obtain ⟨hP9, hD9⟩ := zu_sub (wc := [_, _, _, _]) hP hD [true, true, true, true] rfl rfl
        rw [hQ9]
        exact W.iret (v := I0 19) hx hb hr (fun t ht hW => ⟨⟨rfl, by rw [ht]; exact hP9, hD9⟩, hS.F ht⟩) hS.2.2 dX11_count_179
      · have c_1 : ((q : Nat) : Int) < ((ft : Nat) : Int) := zc_nle (nI_toInt b9_3) (nI_toInt b9_2) c_1
        refine lv_iload_n hx hb dX11_count_22 rfl (lv_at hl 4 rfl) ?_
        refine lv_aload_n hx hb dX11_count_23 rfl (lv_at hl 5 rfl) ?_
        refine va_get (D := (dC, dI)) (ci := 9) (v := .ref (a 5)) (C := RX11) (T := TX11) (N := 55) hx hb hts inX11 hown hK hP 0 rfl rfl 5 (Nat.le_of_ble_eq_true rfl) (hts _ mw_1164) (fun _ h9 => h9) rfl dX11_count_24 ?_
        refine lv_iload hx hb dX11_count_27 (lv_at hl 0 rfl) ?_
        have b9_4 : q < 201 := by omega
        refine z_iald hx hb hK hP 1 0 rfl rfl (e := q) rfl b9_4 (Nat.le_of_ble_eq_true rfl) dX11_count_29 ?_
        refine lv_iconst (v := 1) hx hb dX11_count_30 rfl ?_
        refine lv_icmp_ne (tgt := 38) hx hb dX11_count_31 rfl (fun c_5 => ?_) (fun c_5 => ?_)
        · have c_5 : ¬ (st q).toInt = 1 := zc_ne rfl rfl c_5
          refine lv_iconst (v := 0) hx hb dX11_count_38 rfl ?_
          refine lv_iadd hx hb dX11_count_39 ?_
          refine zz_i (v := nI ((cntP (fun g => (st g).toInt = 1) q) + 0)) (nI_add (cntP (fun g => (st g).toInt = 1) q) 0) ?_
          refine lv_istore_n (lv' := [(2, .int (nI ((cntP (fun g => (st g).toInt = 1) q) + 0))), (6, .int (nI q)), (5, .int (nI (smP (lvF ft st tn) (fun g => nN (mn g)) q))), (4, .int (nI (cntP (fun g => ¬ (tn g).toInt = 0) q))), (3, .int (nI (cntP (fun g => (st g).toInt = 2) q))), (0, .ref k0), (1, .int 5)]) hx hb dX11_count_40 rfl hl (Nat.le_of_ble_eq_true rfl) rfl (fun ls hl => ?_)
          refine lv_iload_n hx hb dX11_count_41 rfl (lv_at hl 4 rfl) ?_
          refine lv_aload_n hx hb dX11_count_42 rfl (lv_at hl 5 rfl) ?_
          refine va_get (D := (dC, dI)) (ci := 9) (v := .ref (a 5)) (C := RX11) (T := TX11) (N := 55) hx hb hts inX11 hown hK hP 0 rfl rfl 5 (Nat.le_of_ble_eq_true rfl) (hts _ mw_1164) (fun _ h9 => h9) rfl dX11_count_43 ?_
          refine lv_iload hx hb dX11_count_46 (lv_at hl 1 rfl) ?_
          refine z_iald hx hb hK hP 1 0 rfl rfl (e := q) rfl b9_4 (Nat.le_of_ble_eq_true rfl) dX11_count_48 ?_
          refine lv_iconst (v := 2) hx hb dX11_count_49 rfl ?_
          refine lv_icmp_ne (tgt := 57) hx hb dX11_count_50 rfl (fun c_6 => ?_) (fun c_6 => ?_)
          · have c_6 : ¬ (st q).toInt = 2 := zc_ne rfl rfl c_6
            refine lv_iconst (v := 0) hx hb dX11_count_57 rfl ?_
            refine lv_iadd hx hb dX11_count_58 ?_
            refine zz_i (v := nI ((cntP (fun g => (st g).toInt = 2) q) + 0)) (nI_add (cntP (fun g => (st g).toInt = 2) q) 0) ?_
            refine lv_istore_n (lv' := [(3, .int (nI ((cntP (fun g => (st g).toInt = 2) q) + 0))), (2, .int (nI ((cntP (fun g => (st g).toInt = 1) q) + 0))), (6, .int (nI q)), (5, .int (nI (smP (lvF ft st tn) (fun g => nN (mn g)) q))), (4, .int (nI (cntP (fun g => ¬ (tn g).toInt = 0) q))), (0, .ref k0), (1, .int 5)]) hx hb dX11_count_59 rfl hl (Nat.le_of_ble_eq_true rfl) rfl (fun ls hl => ?_)
            refine lv_iload hx hb dX11_count_60 (lv_at hl 4 rfl) ?_
            refine lv_aload_n hx hb dX11_count_62 rfl (lv_at hl 5 rfl) ?_
            refine va_get (D := (dC, dI)) (ci := 9) (v := .ref (a 6)) (C := RX11) (T := TX11) (N := 55) hx hb hts inX11 hown hK hP 0 rfl rfl 6 (Nat.le_of_ble_eq_true rfl) (hts _ mw_1165) (fun _ h9 => h9) rfl dX11_count_63 ?_
            refine lv_iload hx hb dX11_count_66 (lv_at hl 2 rfl) ?_
            refine z_zald hx hb hK hP 2 1 rfl rfl (e := q) rfl b9_4 (Nat.le_of_ble_eq_true rfl) dX11_count_68 ?_
            refine lv_if_eq (tgt := 76) hx hb dX11_count_69 rfl (fun c_7 => ?_) (fun c_7 => ?_)
            · have c_7 : (tn q).toInt = 0 := zc_eq rfl rfl c_7
              refine lv_iconst (v := 0) hx hb dX11_count_76 rfl ?_
              refine lv_iadd hx hb dX11_count_77 ?_
              refine zz_i (v := nI ((cntP (fun g => ¬ (tn g).toInt = 0) q) + 0)) (nI_add (cntP (fun g => ¬ (tn g).toInt = 0) q) 0) ?_
              refine lv_istore (lv' := [(4, .int (nI ((cntP (fun g => ¬ (tn g).toInt = 0) q) + 0))), (3, .int (nI ((cntP (fun g => (st g).toInt = 2) q) + 0))), (2, .int (nI ((cntP (fun g => (st g).toInt = 1) q) + 0))), (6, .int (nI q)), (5, .int (nI (smP (lvF ft st tn) (fun g => nN (mn g)) q))), (0, .ref k0), (1, .int 5)]) hx hb dX11_count_78 hl (Nat.le_of_ble_eq_true rfl) rfl (fun ls hl => ?_)
              refine lv_iload hx hb dX11_count_80 (lv_at hl 4 rfl) ?_
              refine lv_aload_n hx hb dX11_count_82 rfl (lv_at hl 5 rfl) ?_
              refine lv_iload hx hb dX11_count_83 (lv_at hl 3 rfl) ?_
              obtain ⟨hPc, hDc, hFc, hI1⟩ := zi_sub (wc := [_, _, _]) hP hD hS hA [0, 1, 2] rfl rfl
              refine zcall (st1 := [.int (pI (q < ft ∧ (st q).toInt = 1 ∧ (tn q).toInt = 0)), .int (nI (smP (lvF ft st tn) (fun g => nN (mn g)) q))]) (va_runV (As := [.int (nI q)]) (rest := [.int (nI (smP (lvF ft st tn) (fun g => nN (mn g)) q))]) ⟨hx, hb, hml, hown, hts⟩ (k_M_is_n l dC dI cI cZ cF H.size k0 a I0 J0 q ft st tn (by first | with_reducible assumption | assumption) (by first | with_reducible assumption | omega) (by first | with_reducible assumption | omega)) (csV_179 hts rfl rfl ⟨Nat.le_of_ble_eq_true rfl, Nat.le_of_ble_eq_true rfl⟩) (zPV2 (q0 := 0) (ci := 9) hPc hDc hK hXN rfl rfl) rfl rfl hl.1 rfl (lv_room (Nat.le_of_ble_eq_true rfl)) dX11_count_85 ⟨Nat.le_of_ble_eq_true rfl, Nat.le_of_ble_eq_true rfl⟩) hS hFc hFc rfl (fun t H locs ht hB hk1 hS => ?_)
              obtain ⟨hP1, hD1⟩ := hB
              rw [ht] at hP1
              replace hP := z0 hP hD hk1 hP1 hI1
              clear hk1 hPc hDc hFc hP1 hD1 ht hI1
              refine lv_if_eq (tgt := 101) hx hb dX11_count_88 rfl (fun c_8 => ?_) (fun c_8 => ?_)
              · have c_8 : ¬ (q < ft ∧ (st q).toInt = 1 ∧ (tn q).toInt = 0) := zp_0 c_8
                refine lv_iconst (v := 0) hx hb dX11_count_101 rfl ?_
                refine lv_iadd hx hb dX11_count_102 ?_
                refine zz_i (v := nI ((smP (lvF ft st tn) (fun g => nN (mn g)) q) + 0)) (nI_add (smP (lvF ft st tn) (fun g => nN (mn g)) q) 0) ?_
                refine lv_istore (lv' := [(5, .int (nI ((smP (lvF ft st tn) (fun g => nN (mn g)) q) + 0))), (4, .int (nI ((cntP (fun g => ¬ (tn g).toInt = 0) q) + 0))), (3, .int (nI ((cntP (fun g => (st g).toInt = 2) q) + 0))), (2, .int (nI ((cntP (fun g => (st g).toInt = 1) q) + 0))), (6, .int (nI q)), (0, .ref k0), (1, .int 5)]) hx hb dX11_count_103 hl (Nat.le_of_ble_eq_true rfl) rfl (fun ls hl => ?_)
                refine lv_iinc (v := nI (q + 1)) (lv' := [(6, .int (nI (q + 1))), (5, .int (nI ((smP (lvF ft st tn) (fun g => nN (mn g)) q) + 0))), (4, .int (nI ((cntP (fun g => ¬ (tn g).toInt = 0) q) + 0))), (3, .int (nI ((cntP (fun g => (st g).toInt = 2) q) + 0))), (2, .int (nI ((cntP (fun g => (st g).toInt = 1) q) + 0))), (0, .ref k0), (1, .int 5)]) hx hb dX11_count_105 hl (k := 4) rfl (nI_add q 1) (Nat.le_of_ble_eq_true rfl) rfl (fun ls hl => ?_)
                refine lv_goto (tgt := 13) hx hb dX11_count_108 rfl ?_
                have hl9 := lv_sub hl [0, 1, 2, 3, 4, 5, 6] rfl
                have e9_2 : nI (cntP (fun g => (st g).toInt = 1) (q + 1)) = (nI ((cntP (fun g => (st g).toInt = 1) q) + 0) : Int32) := by first | exact congrArg nI (cntP_y (P := fun g => (st g).toInt = 1) (show (st q).toInt = 1 by omega)) | exact congrArg nI (cntP_n0 (P := fun g => (st g).toInt = 1) (show ¬ (st q).toInt = 1 by omega))
                have e9_3 : nI (cntP (fun g => (st g).toInt = 2) (q + 1)) = (nI ((cntP (fun g => (st g).toInt = 2) q) + 0) : Int32) := by first | exact congrArg nI (cntP_y (P := fun g => (st g).toInt = 2) (show (st q).toInt = 2 by omega)) | exact congrArg nI (cntP_n0 (P := fun g => (st g).toInt = 2) (show ¬ (st q).toInt = 2 by omega))
                have e9_4 : nI (cntP (fun g => ¬ (tn g).toInt = 0) (q + 1)) = (nI ((cntP (fun g => ¬ (tn g).toInt = 0) q) + 0) : Int32) := by first | exact congrArg nI (cntP_y (P := fun g => ¬ (tn g).toInt = 0) (show ¬ (tn q).toInt = 0 by omega)) | exact congrArg nI (cntP_n0 (P := fun g => ¬ (tn g).toInt = 0) (show ¬ ¬ (tn q).toInt = 0 by omega))
                have e9_5 : nI (smP (lvF ft st tn) (fun g => nN (mn g)) (q + 1)) = (nI ((smP (lvF ft st tn) (fun g => nN (mn g)) q) + 0) : Int32) := by first | exact congrArg nI (smP_y (P := lvF ft st tn) (by first | with_reducible assumption | assumption)) | exact congrArg nI (smP_n (P := lvF ft st tn) (by first | with_reducible assumption | assumption))
                have hl9 : lv_has ls 7 [(6, .int (nI (q + 1))), (5, .int (nI (smP (lvF ft st tn) (fun g => nN (mn g)) (q + 1)))), (4, .int (nI (cntP (fun g => ¬ (tn g).toInt = 0) (q + 1)))), (3, .int (nI (cntP (fun g => (st g).toInt = 2) (q + 1)))), (2, .int (nI (cntP (fun g => (st g).toInt = 1) (q + 1)))), (0, .ref k0), (1, .int 5)] := by rw [e9_2]; rw [e9_3]; rw [e9_4]; rw [e9_5]; exact hl9
                exact ih_13 (q + 1) H locs ls (by first | with_reducible assumption | omega) (by first | with_reducible assumption | omega) hP hD hS hl9
              · have c_8 : q < ft ∧ (st q).toInt = 1 ∧ (tn q).toInt = 0 := zp_1 c_8
                refine lv_aload_n hx hb dX11_count_91 rfl (lv_at hl 5 rfl) ?_
                refine va_get (D := (dC, dI)) (ci := 9) (v := .ref (a 11)) (C := RX11) (T := TX11) (N := 55) hx hb hts inX11 hown hK hP 0 rfl rfl 11 (Nat.le_of_ble_eq_true rfl) (hts _ mw_1170) (fun _ h9 => h9) rfl dX11_count_92 ?_
                refine lv_iload hx hb dX11_count_95 (lv_at hl 3 rfl) ?_
                refine z_iald hx hb hK hP 3 0 rfl rfl (e := q) rfl b9_4 (Nat.le_of_ble_eq_true rfl) dX11_count_97 ?_
                refine zz_i (v := nI (nN (mn q))) ((hmw q (by first | with_reducible assumption | assumption)).1) ?_
                refine lv_goto (tgt := 102) hx hb dX11_count_98 rfl ?_
                refine lv_iadd hx hb dX11_count_102 ?_
                refine zz_i (v := nI ((smP (lvF ft st tn) (fun g => nN (mn g)) q) + (nN (mn q)))) (nI_add (smP (lvF ft st tn) (fun g => nN (mn g)) q) (nN (mn q))) ?_
                refine lv_istore (lv' := [(5, .int (nI ((smP (lvF ft st tn) (fun g => nN (mn g)) q) + (nN (mn q))))), (4, .int (nI ((cntP (fun g => ¬ (tn g).toInt = 0) q) + 0))), (3, .int (nI ((cntP (fun g => (st g).toInt = 2) q) + 0))), (2, .int (nI ((cntP (fun g => (st g).toInt = 1) q) + 0))), (6, .int (nI q)), (0, .ref k0), (1, .int 5)]) hx hb dX11_count_103 hl (Nat.le_of_ble_eq_true rfl) rfl (fun ls hl => ?_)
                refine lv_iinc (v := nI (q + 1)) (lv' := [(6, .int (nI (q + 1))), (5, .int (nI ((smP (lvF ft st tn) (fun g => nN (mn g)) q) + (nN (mn q))))), (4, .int (nI ((cntP (fun g => ¬ (tn g).toInt = 0) q) + 0))), (3, .int (nI ((cntP (fun g => (st g).toInt = 2) q) + 0))), (2, .int (nI ((cntP (fun g => (st g).toInt = 1) q) + 0))), (0, .ref k0), (1, .int 5)]) hx hb dX11_count_105 hl (k := 4) rfl (nI_add q 1) (Nat.le_of_ble_eq_true rfl) rfl (fun ls hl => ?_)
                refine lv_goto (tgt := 13) hx hb dX11_count_108 rfl ?_
                have hl9 := lv_sub hl [0, 1, 2, 3, 4, 5, 6] rfl
                have e9_2 : nI (cntP (fun g => (st g).toInt = 1) (q + 1)) = (nI ((cntP (fun g => (st g).toInt = 1) q) + 0) : Int32) := by first | exact congrArg nI (cntP_y (P := fun g => (st g).toInt = 1) (show (st q).toInt = 1 by omega)) | exact congrArg nI (cntP_n0 (P := fun g => (st g).toInt = 1) (show ¬ (st q).toInt = 1 by omega))
                have e9_3 : nI (cntP (fun g => (st g).toInt = 2) (q + 1)) = (nI ((cntP (fun g => (st g).toInt = 2) q) + 0) : Int32) := by first | exact congrArg nI (cntP_y (P := fun g => (st g).toInt = 2) (show (st q).toInt = 2 by omega)) | exact congrArg nI (cntP_n0 (P := fun g => (st g).toInt = 2) (show ¬ (st q).toInt = 2 by omega))
                have e9_4 : nI (cntP (fun g => ¬ (tn g).toInt = 0) (q + 1)) = (nI ((cntP (fun g => ¬ (tn g).toInt = 0) q) + 0) : Int32) := by first | exact congrArg nI (cntP_y (P := fun g => ¬ (tn g).toInt = 0) (show ¬ (tn q).toInt = 0 by omega)) | exact congrArg nI (cntP_n0 (P := fun g => ¬ (tn g).toInt = 0) (show ¬ ¬ (tn q).toInt = 0 by omega))
                have e9_5 : nI (smP (lvF ft st tn) (fun g => nN (mn g)) (q + 1)) = (nI ((smP (lvF ft st tn) (fun g => nN (mn g)) q) + (nN (mn q))) : Int32) := by first | exact congrArg nI (smP_y (P := lvF ft st tn) (by first | with_reducible assumption | assumption)) | exact congrArg nI (smP_n (P := lvF ft st tn) (by first | with_reducible assumption | assumption))
                have hl9 : lv_has ls 7 [(6, .int (nI (q + 1))), (5, .int (nI (smP (lvF ft st tn) (fun g => nN (mn g)) (q + 1)))), (4, .int (nI (cntP (fun g => ¬ (tn g).toInt = 0) (q + 1)))), (3, .int (nI (cntP (fun g => (st g).toInt = 2) (q + 1)))), (2, .int (nI (cntP (fun g => (st g).toInt = 1) (q + 1)))), (0, .ref k0), (1, .int 5)] := by rw [e9_2]; rw [e9_3]; rw [e9_4]; rw [e9_5]; exact hl9
                exact ih_13 (q + 1) H locs ls (by first | with_reducible assumption | omega) (by first | with_reducible assumption | omega) hP hD hS hl9
            · have c_7 : ¬ (tn q).toInt = 0 := zc_ne rfl rfl c_7
              refine lv_iconst (v := 1) hx hb dX11_count_72 rfl ?_
              refine lv_goto (tgt := 77) hx hb dX11_count_73 rfl ?_
              refine lv_iadd hx hb dX11_count_77 ?_
              refine zz_i (v := nI ((cntP (fun g => ¬ (tn g).toInt = 0) q) + 1)) (nI_add (cntP (fun g => ¬ (tn g).toInt = 0) q) 1) ?_
              refine lv_istore (lv' := [(4, .int (nI ((cntP (fun g => ¬ (tn g).toInt = 0) q) + 1))), (3, .int (nI ((cntP (fun g => (st g).toInt = 2) q) + 0))), (2, .int (nI ((cntP (fun g => (st g).toInt = 1) q) + 0))), (6, .int (nI q)), (5, .int (nI (smP (lvF ft st tn) (fun g => nN (mn g)) q))), (0, .ref k0), (1, .int 5)]) hx hb dX11_count_78 hl (Nat.le_of_ble_eq_true rfl) rfl (fun ls hl => ?_)
              refine lv_iload hx hb dX11_count_80 (lv_at hl 4 rfl) ?_
              refine lv_aload_n hx hb dX11_count_82 rfl (lv_at hl 5 rfl) ?_
              refine lv_iload hx hb dX11_count_83 (lv_at hl 3 rfl) ?_
              obtain ⟨hPc, hDc, hFc, hI1⟩ := zi_sub (wc := [_, _, _]) hP hD hS hA [0, 1, 2] rfl rfl
              refine zcall (st1 := [.int (pI (q < ft ∧ (st q).toInt = 1 ∧ (tn q).toInt = 0)), .int (nI (smP (lvF ft st tn) (fun g => nN (mn g)) q))]) (va_runV (As := [.int (nI q)]) (rest := [.int (nI (smP (lvF ft st tn) (fun g => nN (mn g)) q))]) ⟨hx, hb, hml, hown, hts⟩ (k_M_is_n l dC dI cI cZ cF H.size k0 a I0 J0 q ft st tn (by first | with_reducible assumption | assumption) (by first | with_reducible assumption | omega) (by first | with_reducible assumption | omega)) (csV_179 hts rfl rfl ⟨Nat.le_of_ble_eq_true rfl, Nat.le_of_ble_eq_true rfl⟩) (zPV2 (q0 := 0) (ci := 9) hPc hDc hK hXN rfl rfl) rfl rfl hl.1 rfl (lv_room (Nat.le_of_ble_eq_true rfl)) dX11_count_85 ⟨Nat.le_of_ble_eq_true rfl, Nat.le_of_ble_eq_true rfl⟩) hS hFc hFc rfl (fun t H locs ht hB hk1 hS => ?_)
              obtain ⟨hP1, hD1⟩ := hB
              rw [ht] at hP1
              replace hP := z0 hP hD hk1 hP1 hI1
              clear hk1 hPc hDc hFc hP1 hD1 ht hI1
              refine lv_if_eq (tgt := 101) hx hb dX11_count_88 rfl (fun c_9 => ?_) (fun c_9 => ?_)
              · have c_9 : ¬ (q < ft ∧ (st q).toInt = 1 ∧ (tn q).toInt = 0) := zp_0 c_9
                refine lv_iconst (v := 0) hx hb dX11_count_101 rfl ?_
                refine lv_iadd hx hb dX11_count_102 ?_
                refine zz_i (v := nI ((smP (lvF ft st tn) (fun g => nN (mn g)) q) + 0)) (nI_add (smP (lvF ft st tn) (fun g => nN (mn g)) q) 0) ?_
                refine lv_istore (lv' := [(5, .int (nI ((smP (lvF ft st tn) (fun g => nN (mn g)) q) + 0))), (4, .int (nI ((cntP (fun g => ¬ (tn g).toInt = 0) q) + 1))), (3, .int (nI ((cntP (fun g => (st g).toInt = 2) q) + 0))), (2, .int (nI ((cntP (fun g => (st g).toInt = 1) q) + 0))), (6, .int (nI q)), (0, .ref k0), (1, .int 5)]) hx hb dX11_count_103 hl (Nat.le_of_ble_eq_true rfl) rfl (fun ls hl => ?_)
                refine lv_iinc (v := nI (q + 1)) (lv' := [(6, .int (nI (q + 1))), (5, .int (nI ((smP (lvF ft st tn) (fun g => nN (mn g)) q) + 0))), (4, .int (nI ((cntP (fun g => ¬ (tn g).toInt = 0) q) + 1))), (3, .int (nI ((cntP (fun g => (st g).toInt = 2) q) + 0))), (2, .int (nI ((cntP (fun g => (st g).toInt = 1) q) + 0))), (0, .ref k0), (1, .int 5)]) hx hb dX11_count_105 hl (k := 4) rfl (nI_add q 1) (Nat.le_of_ble_eq_true rfl) rfl (fun ls hl => ?_)
                refine lv_goto (tgt := 13) hx hb dX11_count_108 rfl ?_
                have hl9 := lv_sub hl [0, 1, 2, 3, 4, 5, 6] rfl
                have e9_2 : nI (cntP (fun g => (st g).toInt = 1) (q + 1)) = (nI ((cntP (fun g => (st g).toInt = 1) q) + 0) : Int32) := by first | exact congrArg nI (cntP_y (P := fun g => (st g).toInt = 1) (show (st q).toInt = 1 by omega)) | exact congrArg nI (cntP_n0 (P := fun g => (st g).toInt = 1) (show ¬ (st q).toInt = 1 by omega))
                have e9_3 : nI (cntP (fun g => (st g).toInt = 2) (q + 1)) = (nI ((cntP (fun g => (st g).toInt = 2) q) + 0) : Int32) := by first | exact congrArg nI (cntP_y (P := fun g => (st g).toInt = 2) (show (st q).toInt = 2 by omega)) | exact congrArg nI (cntP_n0 (P := fun g => (st g).toInt = 2) (show ¬ (st q).toInt = 2 by omega))
                have e9_4 : nI (cntP (fun g => ¬ (tn g).toInt = 0) (q + 1)) = (nI ((cntP (fun g => ¬ (tn g).toInt = 0) q) + 1) : Int32) := by first | exact congrArg nI (cntP_y (P := fun g => ¬ (tn g).toInt = 0) (show ¬ (tn q).toInt = 0 by omega)) | exact congrArg nI (cntP_n0 (P := fun g => ¬ (tn g).toInt = 0) (show ¬ ¬ (tn q).toInt = 0 by omega))
                have e9_5 : nI (smP (lvF ft st tn) (fun g => nN (mn g)) (q + 1)) = (nI ((smP (lvF ft st tn) (fun g => nN (mn g)) q) + 0) : Int32) := by first | exact congrArg nI (smP_y (P := lvF ft st tn) (by first | with_reducible assumption | assumption)) | exact congrArg nI (smP_n (P := lvF ft st tn) (by first | with_reducible assumption | assumption))
                have hl9 : lv_has ls 7 [(6, .int (nI (q + 1))), (5, .int (nI (smP (lvF ft st tn) (fun g => nN (mn g)) (q + 1)))), (4, .int (nI (cntP (fun g => ¬ (tn g).toInt = 0) (q + 1)))), (3, .int (nI (cntP (fun g => (st g).toInt = 2) (q + 1)))), (2, .int (nI (cntP (fun g => (st g).toInt = 1) (q + 1)))), (0, .ref k0), (1, .int 5)] := by rw [e9_2]; rw [e9_3]; rw [e9_4]; rw [e9_5]; exact hl9
                exact ih_13 (q + 1) H locs ls (by first | with_reducible assumption | omega) (by first | with_reducible assumption | omega) hP hD hS hl9
              · have c_9 : q < ft ∧ (st q).toInt = 1 ∧ (tn q).toInt = 0 := zp_1 c_9
                refine lv_aload_n hx hb dX11_count_91 rfl (lv_at hl 5 rfl) ?_
                refine va_get (D := (dC, dI)) (ci := 9) (v := .ref (a 11)) (C := RX11) (T := TX11) (N := 55) hx hb hts inX11 hown hK hP 0 rfl rfl 11 (Nat.le_of_ble_eq_true rfl) (hts _ mw_1170) (fun _ h9 => h9) rfl dX11_count_92 ?_
                refine lv_iload hx hb dX11_count_95 (lv_at hl 3 rfl) ?_
                refine z_iald hx hb hK hP 3 0 rfl rfl (e := q) rfl b9_4 (Nat.le_of_ble_eq_true rfl) dX11_count_97 ?_
                refine zz_i (v := nI (nN (mn q))) ((hmw q (by first | with_reducible assumption | assumption)).1) ?_
                refine lv_goto (tgt := 102) hx hb dX11_count_98 rfl ?_
                refine lv_iadd hx hb dX11_count_102 ?_
                refine zz_i (v := nI ((smP (lvF ft st tn) (fun g => nN (mn g)) q) + (nN (mn q)))) (nI_add (smP (lvF ft st tn) (fun g => nN (mn g)) q) (nN (mn q))) ?_
                refine lv_istore (lv' := [(5, .int (nI ((smP (lvF ft st tn) (fun g => nN (mn g)) q) + (nN (mn q))))), (4, .int (nI ((cntP (fun g => ¬ (tn g).toInt = 0) q) + 1))), (3, .int (nI ((cntP (fun g => (st g).toInt = 2) q) + 0))), (2, .int (nI ((cntP (fun g => (st g).toInt = 1) q) + 0))), (6, .int (nI q)), (0, .ref k0), (1, .int 5)]) hx hb dX11_count_103 hl (Nat.le_of_ble_eq_true rfl) rfl (fun ls hl => ?_)
                refine lv_iinc (v := nI (q + 1)) (lv' := [(6, .int (nI (q + 1))), (5, .int (nI ((smP (lvF ft st tn) (fun g => nN (mn g)) q) + (nN (mn q))))), (4, .int (nI ((cntP (fun g => ¬ (tn g).toInt = 0) q) + 1))), (3, .int (nI ((cntP (fun g => (st g).toInt = 2) q) + 0))), (2, .int (nI ((cntP (fun g => (st g).toInt = 1) q) + 0))), (0, .ref k0), (1, .int 5)]) hx hb dX11_count_105 hl (k := 4) rfl (nI_add q 1) (Nat.le_of_ble_eq_true rfl) rfl (fun ls hl => ?_)
                refine lv_goto (tgt := 13) hx hb dX11_count_108 rfl ?_
                have hl9 := lv_sub hl [0, 1, 2, 3, 4, 5, 6] rfl
                have e9_2 : nI (cntP (fun g => (st g).toInt = 1) (q + 1)) = (nI ((cntP (fun g => (st g).toInt = 1) q) + 0) : Int32) := by first | exact congrArg nI (cntP_y (P := fun g => (st g).toInt = 1) (show (st q).toInt = 1 by omega)) | exact congrArg nI (cntP_n0 (P := fun g => (st g).toInt = 1) (show ¬ (st q).toInt = 1 by omega))
                have e9_3 : nI (cntP (fun g => (st g).toInt = 2) (q + 1)) = (nI ((cntP (fun g => (st g).toInt = 2) q) + 0) : Int32) := by first | exact congrArg nI (cntP_y (P := fun g => (st g).toInt = 2) (show (st q).toInt = 2 by omega)) | exact congrArg nI (cntP_n0 (P := fun g => (st g).toInt = 2) (show ¬ (st q).toInt = 2 by omega))
                have e9_4 : nI (cntP (fun g => ¬ (tn g).toInt = 0) (q + 1)) = (nI ((cntP (fun g => ¬ (tn g).toInt = 0) q) + 1) : Int32) := by first | exact congrArg nI (cntP_y (P := fun g => ¬ (tn g).toInt = 0) (show ¬ (tn q).toInt = 0 by omega)) | exact congrArg nI (cntP_n0 (P := fun g => ¬ (tn g).toInt = 0) (show ¬ ¬ (tn q).toInt = 0 by omega))
                have e9_5 : nI (smP (lvF ft st tn) (fun g => nN (mn g)) (q + 1)) = (nI ((smP (lvF ft st tn) (fun g => nN (mn g)) q) + (nN (mn q))) : Int32) := by first | exact congrArg nI (smP_y (P := lvF ft st tn) (by first | with_reducible assumption | assumption)) | exact congrArg nI (smP_n (P := lvF ft st tn) (by first | with_reducible assumption | assumption))
                have hl9 : lv_has ls 7 [(6, .int (nI (q + 1))), (5, .int (nI (smP (lvF ft st tn) (fun g => nN (mn g)) (q + 1)))), (4, .int (nI (cntP (fun g => ¬ (tn g).toInt = 0) (q + 1)))), (3, .int (nI (cntP (fun g => (st g).toInt = 2) (q + 1)))), (2, .int (nI (cntP (fun g => (st g).toInt = 1) (q + 1)))), (0, .ref k0), (1, .int 5)] := by rw [e9_2]; rw [e9_3]; rw [e9_4]; rw [e9_5]; exact hl9
                exact ih_13 (q + 1) H locs ls (by first | with_reducible assumption | omega) (by first | with_reducible assumption | omega) hP hD hS hl9
          · have c_6 : (st q).toInt = 2 := zc_eq rfl rfl c_6
            refine lv_iconst (v := 1) hx hb dX11_count_53 rfl ?_
            refine lv_goto (tgt := 58) hx hb dX11_count_54 rfl ?_
            refine lv_iadd hx hb dX11_count_58 ?_
            refine zz_i (v := nI ((cntP (fun g => (st g).toInt = 2) q) + 1)) (nI_add (cntP (fun g => (st g).toInt = 2) q) 1) ?_
            refine lv_istore_n (lv' := [(3, .int (nI ((cntP (fun g => (st g).toInt = 2) q) + 1))), (2, .int (nI ((cntP (fun g => (st g).toInt = 1) q) + 0))), (6, .int (nI q)), (5, .int (nI (smP (lvF ft st tn) (fun g => nN (mn g)) q))), (4, .int (nI (cntP (fun g => ¬ (tn g).toInt = 0) q))), (0, .ref k0), (1, .int 5)]) hx hb dX11_count_59 rfl hl (Nat.le_of_ble_eq_true rfl) rfl (fun ls hl => ?_)
            refine lv_iload hx hb dX11_count_60 (lv_at hl 4 rfl) ?_
            refine lv_aload_n hx hb dX11_count_62 rfl (lv_at hl 5 rfl) ?_
            refine va_get (D := (dC, dI)) (ci := 9) (v := .ref (a 6)) (C := RX11) (T := TX11) (N := 55) hx hb hts inX11 hown hK hP 0 rfl rfl 6 (Nat.le_of_ble_eq_true rfl) (hts _ mw_1165) (fun _ h9 => h9) rfl dX11_count_63 ?_
            refine lv_iload hx hb dX11_count_66 (lv_at hl 2 rfl) ?_
            refine z_zald hx hb hK hP 2 1 rfl rfl (e := q) rfl b9_4 (Nat.le_of_ble_eq_true rfl) dX11_count_68 ?_
            refine lv_if_eq (tgt := 76) hx hb dX11_count_69 rfl (fun c_10 => ?_) (fun c_10 => ?_)
            · have c_10 : (tn q).toInt = 0 := zc_eq rfl rfl c_10
              refine lv_iconst (v := 0) hx hb dX11_count_76 rfl ?_
              refine lv_iadd hx hb dX11_count_77 ?_
              refine zz_i (v := nI ((cntP (fun g => ¬ (tn g).toInt = 0) q) + 0)) (nI_add (cntP (fun g => ¬ (tn g).toInt = 0) q) 0) ?_
              refine lv_istore (lv' := [(4, .int (nI ((cntP (fun g => ¬ (tn g).toInt = 0) q) + 0))), (3, .int (nI ((cntP (fun g => (st g).toInt = 2) q) + 1))), (2, .int (nI ((cntP (fun g => (st g).toInt = 1) q) + 0))), (6, .int (nI q)), (5, .int (nI (smP (lvF ft st tn) (fun g => nN (mn g)) q))), (0, .ref k0), (1, .int 5)]) hx hb dX11_count_78 hl (Nat.le_of_ble_eq_true rfl) rfl (fun ls hl => ?_)
              refine lv_iload hx hb dX11_count_80 (lv_at hl 4 rfl) ?_
              refine lv_aload_n hx hb dX11_count_82 rfl (lv_at hl 5 rfl) ?_
              refine lv_iload hx hb dX11_count_83 (lv_at hl 3 rfl) ?_
              obtain ⟨hPc, hDc, hFc, hI1⟩ := zi_sub (wc := [_, _, _]) hP hD hS hA [0, 1, 2] rfl rfl
              refine zcall (st1 := [.int (pI (q < ft ∧ (st q).toInt = 1 ∧ (tn q).toInt = 0)), .int (nI (smP (lvF ft st tn) (fun g => nN (mn g)) q))]) (va_runV (As := [.int (nI q)]) (rest := [.int (nI (smP (lvF ft st tn) (fun g => nN (mn g)) q))]) ⟨hx, hb, hml, hown, hts⟩ (k_M_is_n l dC dI cI cZ cF H.size k0 a I0 J0 q ft st tn (by first | with_reducible assumption | assumption) (by first | with_reducible assumption | omega) (by first | with_reducible assumption | omega)) (csV_179 hts rfl rfl ⟨Nat.le_of_ble_eq_true rfl, Nat.le_of_ble_eq_true rfl⟩) (zPV2 (q0 := 0) (ci := 9) hPc hDc hK hXN rfl rfl) rfl rfl hl.1 rfl (lv_room (Nat.le_of_ble_eq_true rfl)) dX11_count_85 ⟨Nat.le_of_ble_eq_true rfl, Nat.le_of_ble_eq_true rfl⟩) hS hFc hFc rfl (fun t H locs ht hB hk1 hS => ?_)
              obtain ⟨hP1, hD1⟩ := hB
              rw [ht] at hP1
              replace hP := z0 hP hD hk1 hP1 hI1
              clear hk1 hPc hDc hFc hP1 hD1 ht hI1
              refine lv_if_eq (tgt := 101) hx hb dX11_count_88 rfl (fun c_11 => ?_) (fun c_11 => ?_)
              · have c_11 : ¬ (q < ft ∧ (st q).toInt = 1 ∧ (tn q).toInt = 0) := zp_0 c_11
                refine lv_iconst (v := 0) hx hb dX11_count_101 rfl ?_
                refine lv_iadd hx hb dX11_count_102 ?_
                refine zz_i (v := nI ((smP (lvF ft st tn) (fun g => nN (mn g)) q) + 0)) (nI_add (smP (lvF ft st tn) (fun g => nN (mn g)) q) 0) ?_
                refine lv_istore (lv' := [(5, .int (nI ((smP (lvF ft st tn) (fun g => nN (mn g)) q) + 0))), (4, .int (nI ((cntP (fun g => ¬ (tn g).toInt = 0) q) + 0))), (3, .int (nI ((cntP (fun g => (st g).toInt = 2) q) + 1))), (2, .int (nI ((cntP (fun g => (st g).toInt = 1) q) + 0))), (6, .int (nI q)), (0, .ref k0), (1, .int 5)]) hx hb dX11_count_103 hl (Nat.le_of_ble_eq_true rfl) rfl (fun ls hl => ?_)
                refine lv_iinc (v := nI (q + 1)) (lv' := [(6, .int (nI (q + 1))), (5, .int (nI ((smP (lvF ft st tn) (fun g => nN (mn g)) q) + 0))), (4, .int (nI ((cntP (fun g => ¬ (tn g).toInt = 0) q) + 0))), (3, .int (nI ((cntP (fun g => (st g).toInt = 2) q) + 1))), (2, .int (nI ((cntP (fun g => (st g).toInt = 1) q) + 0))), (0, .ref k0), (1, .int 5)]) hx hb dX11_count_105 hl (k := 4) rfl (nI_add q 1) (Nat.le_of_ble_eq_true rfl) rfl (fun ls hl => ?_)
                refine lv_goto (tgt := 13) hx hb dX11_count_108 rfl ?_
                have hl9 := lv_sub hl [0, 1, 2, 3, 4, 5, 6] rfl
                have e9_2 : nI (cntP (fun g => (st g).toInt = 1) (q + 1)) = (nI ((cntP (fun g => (st g).toInt = 1) q) + 0) : Int32) := by first | exact congrArg nI (cntP_y (P := fun g => (st g).toInt = 1) (show (st q).toInt = 1 by omega)) | exact congrArg nI (cntP_n0 (P := fun g => (st g).toInt = 1) (show ¬ (st q).toInt = 1 by omega))
                have e9_3 : nI (cntP (fun g => (st g).toInt = 2) (q + 1)) = (nI ((cntP (fun g => (st g).toInt = 2) q) + 1) : Int32) := by first | exact congrArg nI (cntP_y (P := fun g => (st g).toInt = 2) (show (st q).toInt = 2 by omega)) | exact congrArg nI (cntP_n0 (P := fun g => (st g).toInt = 2) (show ¬ (st q).toInt = 2 by omega))
                have e9_4 : nI (cntP (fun g => ¬ (tn g).toInt = 0) (q + 1)) = (nI ((cntP (fun g => ¬ (tn g).toInt = 0) q) + 0) : Int32) := by first | exact congrArg nI (cntP_y (P := fun g => ¬ (tn g).toInt = 0) (show ¬ (tn q).toInt = 0 by omega)) | exact congrArg nI (cntP_n0 (P := fun g => ¬ (tn g).toInt = 0) (show ¬ ¬ (tn q).toInt = 0 by omega))
                have e9_5 : nI (smP (lvF ft st tn) (fun g => nN (mn g)) (q + 1)) = (nI ((smP (lvF ft st tn) (fun g => nN (mn g)) q) + 0) : Int32) := by first | exact congrArg nI (smP_y (P := lvF ft st tn) (by first | with_reducible assumption | assumption)) | exact congrArg nI (smP_n (P := lvF ft st tn) (by first | with_reducible assumption | assumption))
                have hl9 : lv_has ls 7 [(6, .int (nI (q + 1))), (5, .int (nI (smP (lvF ft st tn) (fun g => nN (mn g)) (q + 1)))), (4, .int (nI (cntP (fun g => ¬ (tn g).toInt = 0) (q + 1)))), (3, .int (nI (cntP (fun g => (st g).toInt = 2) (q + 1)))), (2, .int (nI (cntP (fun g => (st g).toInt = 1) (q + 1)))), (0, .ref k0), (1, .int 5)] := by rw [e9_2]; rw [e9_3]; rw [e9_4]; rw [e9_5]; exact hl9
                exact ih_13 (q + 1) H locs ls (by first | with_reducible assumption | omega) (by first | with_reducible assumption | omega) hP hD hS hl9
              · have c_11 : q < ft ∧ (st q).toInt = 1 ∧ (tn q).toInt = 0 := zp_1 c_11
                refine lv_aload_n hx hb dX11_count_91 rfl (lv_at hl 5 rfl) ?_
                refine va_get (D := (dC, dI)) (ci := 9) (v := .ref (a 11)) (C := RX11) (T := TX11) (N := 55) hx hb hts inX11 hown hK hP 0 rfl rfl 11 (Nat.le_of_ble_eq_true rfl) (hts _ mw_1170) (fun _ h9 => h9) rfl dX11_count_92 ?_
                refine lv_iload hx hb dX11_count_95 (lv_at hl 3 rfl) ?_
                refine z_iald hx hb hK hP 3 0 rfl rfl (e := q) rfl b9_4 (Nat.le_of_ble_eq_true rfl) dX11_count_97 ?_
                refine zz_i (v := nI (nN (mn q))) ((hmw q (by first | with_reducible assumption | assumption)).1) ?_
                refine lv_goto (tgt := 102) hx hb dX11_count_98 rfl ?_
                refine lv_iadd hx hb dX11_count_102 ?_
                refine zz_i (v := nI ((smP (lvF ft st tn) (fun g => nN (mn g)) q) + (nN (mn q)))) (nI_add (smP (lvF ft st tn) (fun g => nN (mn g)) q) (nN (mn q))) ?_
                refine lv_istore (lv' := [(5, .int (nI ((smP (lvF ft st tn) (fun g => nN (mn g)) q) + (nN (mn q))))), (4, .int (nI ((cntP (fun g => ¬ (tn g).toInt = 0) q) + 0))), (3, .int (nI ((cntP (fun g => (st g).toInt = 2) q) + 1))), (2, .int (nI ((cntP (fun g => (st g).toInt = 1) q) + 0))), (6, .int (nI q)), (0, .ref k0), (1, .int 5)]) hx hb dX11_count_103 hl (Nat.le_of_ble_eq_true rfl) rfl (fun ls hl => ?_)
                refine lv_iinc (v := nI (q + 1)) (lv' := [(6, .int (nI (q + 1))), (5, .int (nI ((smP (lvF ft st tn) (fun g => nN (mn g)) q) + (nN (mn q))))), (4, .int (nI ((cntP (fun g => ¬ (tn g).toInt = 0) q) + 0))), (3, .int (nI ((cntP (fun g => (st g).toInt = 2) q) + 1))), (2, .int (nI ((cntP (fun g => (st g).toInt = 1) q) + 0))), (0, .ref k0), (1, .int 5)]) hx hb dX11_count_105 hl (k := 4) rfl (nI_add q 1) (Nat.le_of_ble_eq_true rfl) rfl (fun ls hl => ?_)
                refine lv_goto (tgt := 13) hx hb dX11_count_108 rfl ?_
                have hl9 := lv_sub hl [0, 1, 2, 3, 4, 5, 6] rfl
                have e9_2 : nI (cntP (fun g => (st g).toInt = 1) (q + 1)) = (nI ((cntP (fun g => (st g).toInt = 1) q) + 0) : Int32) := by first | exact congrArg nI (cntP_y (P := fun g => (st g).toInt = 1) (show (st q).toInt = 1 by omega)) | exact congrArg nI (cntP_n0 (P := fun g => (st g).toInt = 1) (show ¬ (st q).toInt = 1 by omega))
                have e9_3 : nI (cntP (fun g => (st g).toInt = 2) (q + 1)) = (nI ((cntP (fun g => (st g).toInt = 2) q) + 1) : Int32) := by first | exact congrArg nI (cntP_y (P := fun g => (st g).toInt = 2) (show (st q).toInt = 2 by omega)) | exact congrArg nI (cntP_n0 (P := fun g => (st g).toInt = 2) (show ¬ (st q).toInt = 2 by omega))
                have e9_4 : nI (cntP (fun g => ¬ (tn g).toInt = 0) (q + 1)) = (nI ((cntP (fun g => ¬ (tn g).toInt = 0) q) + 0) : Int32) := by first | exact congrArg nI (cntP_y (P := fun g => ¬ (tn g).toInt = 0) (show ¬ (tn q).toInt = 0 by omega)) | exact congrArg nI (cntP_n0 (P := fun g => ¬ (tn g).toInt = 0) (show ¬ ¬ (tn q).toInt = 0 by omega))
                have e9_5 : nI (smP (lvF ft st tn) (fun g => nN (mn g)) (q + 1)) = (nI ((smP (lvF ft st tn) (fun g => nN (mn g)) q) + (nN (mn q))) : Int32) := by first | exact congrArg nI (smP_y (P := lvF ft st tn) (by first | with_reducible assumption | assumption)) | exact congrArg nI (smP_n (P := lvF ft st tn) (by first | with_reducible assumption | assumption))
                have hl9 : lv_has ls 7 [(6, .int (nI (q + 1))), (5, .int (nI (smP (lvF ft st tn) (fun g => nN (mn g)) (q + 1)))), (4, .int (nI (cntP (fun g => ¬ (tn g).toInt = 0) (q + 1)))), (3, .int (nI (cntP (fun g => (st g).toInt = 2) (q + 1)))), (2, .int (nI (cntP (fun g => (st g).toInt = 1) (q + 1)))), (0, .ref k0), (1, .int 5)] := by rw [e9_2]; rw [e9_3]; rw [e9_4]; rw [e9_5]; exact hl9
                exact ih_13 (q + 1) H locs ls (by first | with_reducible assumption | omega) (by first | with_reducible assumption | omega) hP hD hS hl9
            · have c_10 : ¬ (tn q).toInt = 0 := zc_ne rfl rfl c_10
              refine lv_iconst (v := 1) hx hb dX11_count_72 rfl ?_
              refine lv_goto (tgt := 77) hx hb dX11_count_73 rfl ?_
              refine lv_iadd hx hb dX11_count_77 ?_
              refine zz_i (v := nI ((cntP (fun g => ¬ (tn g).toInt = 0) q) + 1)) (nI_add (cntP (fun g => ¬ (tn g).toInt = 0) q) 1) ?_
              refine lv_istore (lv' := [(4, .int (nI ((cntP (fun g => ¬ (tn g).toInt = 0) q) + 1))), (3, .int (nI ((cntP (fun g => (st g).toInt = 2) q) + 1))), (2, .int (nI ((cntP (fun g => (st g).toInt = 1) q) + 0))), (6, .int (nI q)), (5, .int (nI (smP (lvF ft st tn) (fun g => nN (mn g)) q))), (0, .ref k0), (1, .int 5)]) hx hb dX11_count_78 hl (Nat.le_of_ble_eq_true rfl) rfl (fun ls hl => ?_)
              refine lv_iload hx hb dX11_count_80 (lv_at hl 4 rfl) ?_
              refine lv_aload_n hx hb dX11_count_82 rfl (lv_at hl 5 rfl) ?_
              refine lv_iload hx hb dX11_count_83 (lv_at hl 3 rfl) ?_
              obtain ⟨hPc, hDc, hFc, hI1⟩ := zi_sub (wc := [_, _, _]) hP hD hS hA [0, 1, 2] rfl rfl
              refine zcall (st1 := [.int (pI (q < ft ∧ (st q).toInt = 1 ∧ (tn q).toInt = 0)), .int (nI (smP (lvF ft st tn) (fun g => nN (mn g)) q))]) (va_runV (As := [.int (nI q)]) (rest := [.int (nI (smP (lvF ft st tn) (fun g => nN (mn g)) q))]) ⟨hx, hb, hml, hown, hts⟩ (k_M_is_n l dC dI cI cZ cF H.size k0 a I0 J0 q ft st tn (by first | with_reducible assumption | assumption) (by first | with_reducible assumption | omega) (by first | with_reducible assumption | omega)) (csV_179 hts rfl rfl ⟨Nat.le_of_ble_eq_true rfl, Nat.le_of_ble_eq_true rfl⟩) (zPV2 (q0 := 0) (ci := 9) hPc hDc hK hXN rfl rfl) rfl rfl hl.1 rfl (lv_room (Nat.le_of_ble_eq_true rfl)) dX11_count_85 ⟨Nat.le_of_ble_eq_true rfl, Nat.le_of_ble_eq_true rfl⟩) hS hFc hFc rfl (fun t H locs ht hB hk1 hS => ?_)
              obtain ⟨hP1, hD1⟩ := hB
              rw [ht] at hP1
              replace hP := z0 hP hD hk1 hP1 hI1
              clear hk1 hPc hDc hFc hP1 hD1 ht hI1
              refine lv_if_eq (tgt := 101) hx hb dX11_count_88 rfl (fun c_12 => ?_) (fun c_12 => ?_)
              · have c_12 : ¬ (q < ft ∧ (st q).toInt = 1 ∧ (tn q).toInt = 0) := zp_0 c_12
                refine lv_iconst (v := 0) hx hb dX11_count_101 rfl ?_
                refine lv_iadd hx hb dX11_count_102 ?_
                refine zz_i (v := nI ((smP (lvF ft st tn) (fun g => nN (mn g)) q) + 0)) (nI_add (smP (lvF ft st tn) (fun g => nN (mn g)) q) 0) ?_
                refine lv_istore (lv' := [(5, .int (nI ((smP (lvF ft st tn) (fun g => nN (mn g)) q) + 0))), (4, .int (nI ((cntP (fun g => ¬ (tn g).toInt = 0) q) + 1))), (3, .int (nI ((cntP (fun g => (st g).toInt = 2) q) + 1))), (2, .int (nI ((cntP (fun g => (st g).toInt = 1) q) + 0))), (6, .int (nI q)), (0, .ref k0), (1, .int 5)]) hx hb dX11_count_103 hl (Nat.le_of_ble_eq_true rfl) rfl (fun ls hl => ?_)
                refine lv_iinc (v := nI (q + 1)) (lv' := [(6, .int (nI (q + 1))), (5, .int (nI ((smP (lvF ft st tn) (fun g => nN (mn g)) q) + 0))), (4, .int (nI ((cntP (fun g => ¬ (tn g).toInt = 0) q) + 1))), (3, .int (nI ((cntP (fun g => (st g).toInt = 2) q) + 1))), (2, .int (nI ((cntP (fun g => (st g).toInt = 1) q) + 0))), (0, .ref k0), (1, .int 5)]) hx hb dX11_count_105 hl (k := 4) rfl (nI_add q 1) (Nat.le_of_ble_eq_true rfl) rfl (fun ls hl => ?_)
                refine lv_goto (tgt := 13) hx hb dX11_count_108 rfl ?_
                have hl9 := lv_sub hl [0, 1, 2, 3, 4, 5, 6] rfl
                have e9_2 : nI (cntP (fun g => (st g).toInt = 1) (q + 1)) = (nI ((cntP (fun g => (st g).toInt = 1) q) + 0) : Int32) := by first | exact congrArg nI (cntP_y (P := fun g => (st g).toInt = 1) (show (st q).toInt = 1 by omega)) | exact congrArg nI (cntP_n0 (P := fun g => (st g).toInt = 1) (show ¬ (st q).toInt = 1 by omega))
                have e9_3 : nI (cntP (fun g => (st g).toInt = 2) (q + 1)) = (nI ((cntP (fun g => (st g).toInt = 2) q) + 1) : Int32) := by first | exact congrArg nI (cntP_y (P := fun g => (st g).toInt = 2) (show (st q).toInt = 2 by omega)) | exact congrArg nI (cntP_n0 (P := fun g => (st g).toInt = 2) (show ¬ (st q).toInt = 2 by omega))
                have e9_4 : nI (cntP (fun g => ¬ (tn g).toInt = 0) (q + 1)) = (nI ((cntP (fun g => ¬ (tn g).toInt = 0) q) + 1) : Int32) := by first | exact congrArg nI (cntP_y (P := fun g => ¬ (tn g).toInt = 0) (show ¬ (tn q).toInt = 0 by omega)) | exact congrArg nI (cntP_n0 (P := fun g => ¬ (tn g).toInt = 0) (show ¬ ¬ (tn q).toInt = 0 by omega))
                have e9_5 : nI (smP (lvF ft st tn) (fun g => nN (mn g)) (q + 1)) = (nI ((smP (lvF ft st tn) (fun g => nN (mn g)) q) + 0) : Int32) := by first | exact congrArg nI (smP_y (P := lvF ft st tn) (by first | with_reducible assumption | assumption)) | exact congrArg nI (smP_n (P := lvF ft st tn) (by first | with_reducible assumption | assumption))
                have hl9 : lv_has ls 7 [(6, .int (nI (q + 1))), (5, .int (nI (smP (lvF ft st tn) (fun g => nN (mn g)) (q + 1)))), (4, .int (nI (cntP (fun g => ¬ (tn g).toInt = 0) (q + 1)))), (3, .int (nI (cntP (fun g => (st g).toInt = 2) (q + 1)))), (2, .int (nI (cntP (fun g => (st g).toInt = 1) (q + 1)))), (0, .ref k0), (1, .int 5)] := by rw [e9_2]; rw [e9_3]; rw [e9_4]; rw [e9_5]; exact hl9
                exact ih_13 (q + 1) H locs ls (by first | with_reducible assumption | omega) (by first | with_reducible assumption | omega) hP hD hS hl9
              · have c_12 : q < ft ∧ (st q).toInt = 1 ∧ (tn q).toInt = 0 := zp_1 c_12
                refine lv_aload_n hx hb dX11_count_91 rfl (lv_at hl 5 rfl) ?_
                refine va_get (D := (dC, dI)) (ci := 9) (v := .ref (a 11)) (C := RX11) (T := TX11) (N := 55) hx hb hts inX11 hown hK hP 0 rfl rfl 11 (Nat.le_of_ble_eq_true rfl) (hts _ mw_1170) (fun _ h9 => h9) rfl dX11_count_92 ?_
                refine lv_iload hx hb dX11_count_95 (lv_at hl 3 rfl) ?_
                refine z_iald hx hb hK hP 3 0 rfl rfl (e := q) rfl b9_4 (Nat.le_of_ble_eq_true rfl) dX11_count_97 ?_
                refine zz_i (v := nI (nN (mn q))) ((hmw q (by first | with_reducible assumption | assumption)).1) ?_
                refine lv_goto (tgt := 102) hx hb dX11_count_98 rfl ?_
                refine lv_iadd hx hb dX11_count_102 ?_
                refine zz_i (v := nI ((smP (lvF ft st tn) (fun g => nN (mn g)) q) + (nN (mn q)))) (nI_add (smP (lvF ft st tn) (fun g => nN (mn g)) q) (nN (mn q))) ?_
                refine lv_istore (lv' := [(5, .int (nI ((smP (lvF ft st tn) (fun g => nN (mn g)) q) + (nN (mn q))))), (4, .int (nI ((cntP (fun g => ¬ (tn g).toInt = 0) q) + 1))), (3, .int (nI ((cntP (fun g => (st g).toInt = 2) q) + 1))), (2, .int (nI ((cntP (fun g => (st g).toInt = 1) q) + 0))), (6, .int (nI q)), (0, .ref k0), (1, .int 5)]) hx hb dX11_count_103 hl (Nat.le_of_ble_eq_true rfl) rfl (fun ls hl => ?_)
                refine lv_iinc (v := nI (q + 1)) (lv' := [(6, .int (nI (q + 1))), (5, .int (nI ((smP (lvF ft st tn) (fun g => nN (mn g)) q) + (nN (mn q))))), (4, .int (nI ((cntP (fun g => ¬ (tn g).toInt = 0) q) + 1))), (3, .int (nI ((cntP (fun g => (st g).toInt = 2) q) + 1))), (2, .int (nI ((cntP (fun g => (st g).toInt = 1) q) + 0))), (0, .ref k0), (1, .int 5)]) hx hb dX11_count_105 hl (k := 4) rfl (nI_add q 1) (Nat.le_of_ble_eq_true rfl) rfl (fun ls hl => ?_)
                refine lv_goto (tgt := 13) hx hb dX11_count_108 rfl ?_
                have hl9 := lv_sub hl [0, 1, 2, 3, 4, 5, 6] rfl
                have e9_2 : nI (cntP (fun g => (st g).toInt = 1) (q + 1)) = (nI ((cntP (fun g => (st g).toInt = 1) q) + 0) : Int32) := by first | exact congrArg nI (cntP_y (P := fun g => (st g).toInt = 1) (show (st q).toInt = 1 by omega)) | exact congrArg nI (cntP_n0 (P := fun g => (st g).toInt = 1) (show ¬ (st q).toInt = 1 by omega))
                have e9_3 : nI (cntP (fun g => (st g).toInt = 2) (q + 1)) = (nI ((cntP (fun g => (st g).toInt = 2) q) + 1) : Int32) := by first | exact congrArg nI (cntP_y (P := fun g => (st g).toInt = 2) (show (st q).toInt = 2 by omega)) | exact congrArg nI (cntP_n0 (P := fun g => (st g).toInt = 2) (show ¬ (st q).toInt = 2 by omega))
                have e9_4 : nI (cntP (fun g => ¬ (tn g).toInt = 0) (q + 1)) = (nI ((cntP (fun g => ¬ (tn g).toInt = 0) q) + 1) : Int32) := by first | exact congrArg nI (cntP_y (P := fun g => ¬ (tn g).toInt = 0) (show ¬ (tn q).toInt = 0 by omega)) | exact congrArg nI (cntP_n0 (P := fun g => ¬ (tn g).toInt = 0) (show ¬ ¬ (tn q).toInt = 0 by omega))
                have e9_5 : nI (smP (lvF ft st tn) (fun g => nN (mn g)) (q + 1)) = (nI ((smP (lvF ft st tn) (fun g => nN (mn g)) q) + (nN (mn q))) : Int32) := by first | exact congrArg nI (smP_y (P := lvF ft st tn) (by first | with_reducible assumption | assumption)) | exact congrArg nI (smP_n (P := lvF ft st tn) (by first | with_reducible assumption | assumption))
                have hl9 : lv_has ls 7 [(6, .int (nI (q + 1))), (5, .int (nI (smP (lvF ft st tn) (fun g => nN (mn g)) (q + 1)))), (4, .int (nI (cntP (fun g => ¬ (tn g).toInt = 0) (q + 1)))), (3, .int (nI (cntP (fun g => (st g).toInt = 2) (q + 1)))), (2, .int (nI (cntP (fun g => (st g).toInt = 1) (q + 1)))), (0, .ref k0), (1, .int 5)] := by rw [e9_2]; rw [e9_3]; rw [e9_4]; rw [e9_5]; exact hl9
                exact ih_13 (q + 1) H locs ls (by first | with_reducible assumption | omega) (by first | with_reducible assumption | omega) hP hD hS hl9
        · have c_5 : (st q).toInt = 1 := zc_eq rfl rfl c_5
          refine lv_iconst (v := 1) hx hb dX11_count_34 rfl ?_
          refine lv_goto (tgt := 39) hx hb dX11_count_35 rfl ?_
          refine lv_iadd hx hb dX11_count_39 ?_
          refine zz_i (v := nI ((cntP (fun g => (st g).toInt = 1) q) + 1)) (nI_add (cntP (fun g => (st g).toInt = 1) q) 1) ?_
          refine lv_istore_n (lv' := [(2, .int (nI ((cntP (fun g => (st g).toInt = 1) q) + 1))), (6, .int (nI q)), (5, .int (nI (smP (lvF ft st tn) (fun g => nN (mn g)) q))), (4, .int (nI (cntP (fun g => ¬ (tn g).toInt = 0) q))), (3, .int (nI (cntP (fun g => (st g).toInt = 2) q))), (0, .ref k0), (1, .int 5)]) hx hb dX11_count_40 rfl hl (Nat.le_of_ble_eq_true rfl) rfl (fun ls hl => ?_)
          refine lv_iload_n hx hb dX11_count_41 rfl (lv_at hl 4 rfl) ?_
          refine lv_aload_n hx hb dX11_count_42 rfl (lv_at hl 5 rfl) ?_
          refine va_get (D := (dC, dI)) (ci := 9) (v := .ref (a 5)) (C := RX11) (T := TX11) (N := 55) hx hb hts inX11 hown hK hP 0 rfl rfl 5 (Nat.le_of_ble_eq_true rfl) (hts _ mw_1164) (fun _ h9 => h9) rfl dX11_count_43 ?_
          refine lv_iload hx hb dX11_count_46 (lv_at hl 1 rfl) ?_
          refine z_iald hx hb hK hP 1 0 rfl rfl (e := q) rfl b9_4 (Nat.le_of_ble_eq_true rfl) dX11_count_48 ?_
          refine lv_iconst (v := 2) hx hb dX11_count_49 rfl ?_
          refine lv_icmp_ne (tgt := 57) hx hb dX11_count_50 rfl (fun c_13 => ?_) (fun c_13 => ?_)
          · have c_13 : ¬ (st q).toInt = 2 := zc_ne rfl rfl c_13
            refine lv_iconst (v := 0) hx hb dX11_count_57 rfl ?_
            refine lv_iadd hx hb dX11_count_58 ?_
            refine zz_i (v := nI ((cntP (fun g => (st g).toInt = 2) q) + 0)) (nI_add (cntP (fun g => (st g).toInt = 2) q) 0) ?_
            refine lv_istore_n (lv' := [(3, .int (nI ((cntP (fun g => (st g).toInt = 2) q) + 0))), (2, .int (nI ((cntP (fun g => (st g).toInt = 1) q) + 1))), (6, .int (nI q)), (5, .int (nI (smP (lvF ft st tn) (fun g => nN (mn g)) q))), (4, .int (nI (cntP (fun g => ¬ (tn g).toInt = 0) q))), (0, .ref k0), (1, .int 5)]) hx hb dX11_count_59 rfl hl (Nat.le_of_ble_eq_true rfl) rfl (fun ls hl => ?_)
            refine lv_iload hx hb dX11_count_60 (lv_at hl 4 rfl) ?_
            refine lv_aload_n hx hb dX11_count_62 rfl (lv_at hl 5 rfl) ?_
            refine va_get (D := (dC, dI)) (ci := 9) (v := .ref (a 6)) (C := RX11) (T := TX11) (N := 55) hx hb hts inX11 hown hK hP 0 rfl rfl 6 (Nat.le_of_ble_eq_true rfl) (hts _ mw_1165) (fun _ h9 => h9) rfl dX11_count_63 ?_
            refine lv_iload hx hb dX11_count_66 (lv_at hl 2 rfl) ?_
            refine z_zald hx hb hK hP 2 1 rfl rfl (e := q) rfl b9_4 (Nat.le_of_ble_eq_true rfl) dX11_count_68 ?_
            refine lv_if_eq (tgt := 76) hx hb dX11_count_69 rfl (fun c_14 => ?_) (fun c_14 => ?_)
            · have c_14 : (tn q).toInt = 0 := zc_eq rfl rfl c_14
              refine lv_iconst (v := 0) hx hb dX11_count_76 rfl ?_
              refine lv_iadd hx hb dX11_count_77 ?_
              refine zz_i (v := nI ((cntP (fun g => ¬ (tn g).toInt = 0) q) + 0)) (nI_add (cntP (fun g => ¬ (tn g).toInt = 0) q) 0) ?_
              refine lv_istore (lv' := [(4, .int (nI ((cntP (fun g => ¬ (tn g).toInt = 0) q) + 0))), (3, .int (nI ((cntP (fun g => (st g).toInt = 2) q) + 0))), (2, .int (nI ((cntP (fun g => (st g).toInt = 1) q) + 1))), (6, .int (nI q)), (5, .int (nI (smP (lvF ft st tn) (fun g => nN (mn g)) q))), (0, .ref k0), (1, .int 5)]) hx hb dX11_count_78 hl (Nat.le_of_ble_eq_true rfl) rfl (fun ls hl => ?_)
              refine lv_iload hx hb dX11_count_80 (lv_at hl 4 rfl) ?_
              refine lv_aload_n hx hb dX11_count_82 rfl (lv_at hl 5 rfl) ?_
              refine lv_iload hx hb dX11_count_83 (lv_at hl 3 rfl) ?_
              obtain ⟨hPc, hDc, hFc, hI1⟩ := zi_sub (wc := [_, _, _]) hP hD hS hA [0, 1, 2] rfl rfl
              refine zcall (st1 := [.int (pI (q < ft ∧ (st q).toInt = 1 ∧ (tn q).toInt = 0)), .int (nI (smP (lvF ft st tn) (fun g => nN (mn g)) q))]) (va_runV (As := [.int (nI q)]) (rest := [.int (nI (smP (lvF ft st tn) (fun g => nN (mn g)) q))]) ⟨hx, hb, hml, hown, hts⟩ (k_M_is_n l dC dI cI cZ cF H.size k0 a I0 J0 q ft st tn (by first | with_reducible assumption | assumption) (by first | with_reducible assumption | omega) (by first | with_reducible assumption | omega)) (csV_179 hts rfl rfl ⟨Nat.le_of_ble_eq_true rfl, Nat.le_of_ble_eq_true rfl⟩) (zPV2 (q0 := 0) (ci := 9) hPc hDc hK hXN rfl rfl) rfl rfl hl.1 rfl (lv_room (Nat.le_of_ble_eq_true rfl)) dX11_count_85 ⟨Nat.le_of_ble_eq_true rfl, Nat.le_of_ble_eq_true rfl⟩) hS hFc hFc rfl (fun t H locs ht hB hk1 hS => ?_)
              obtain ⟨hP1, hD1⟩ := hB
              rw [ht] at hP1
              replace hP := z0 hP hD hk1 hP1 hI1
              clear hk1 hPc hDc hFc hP1 hD1 ht hI1
              refine lv_if_eq (tgt := 101) hx hb dX11_count_88 rfl (fun c_15 => ?_) (fun c_15 => ?_)
              · have c_15 : ¬ (q < ft ∧ (st q).toInt = 1 ∧ (tn q).toInt = 0) := zp_0 c_15
                refine lv_iconst (v := 0) hx hb dX11_count_101 rfl ?_
                refine lv_iadd hx hb dX11_count_102 ?_
                refine zz_i (v := nI ((smP (lvF ft st tn) (fun g => nN (mn g)) q) + 0)) (nI_add (smP (lvF ft st tn) (fun g => nN (mn g)) q) 0) ?_
                refine lv_istore (lv' := [(5, .int (nI ((smP (lvF ft st tn) (fun g => nN (mn g)) q) + 0))), (4, .int (nI ((cntP (fun g => ¬ (tn g).toInt = 0) q) + 0))), (3, .int (nI ((cntP (fun g => (st g).toInt = 2) q) + 0))), (2, .int (nI ((cntP (fun g => (st g).toInt = 1) q) + 1))), (6, .int (nI q)), (0, .ref k0), (1, .int 5)]) hx hb dX11_count_103 hl (Nat.le_of_ble_eq_true rfl) rfl (fun ls hl => ?_)
                refine lv_iinc (v := nI (q + 1)) (lv' := [(6, .int (nI (q + 1))), (5, .int (nI ((smP (lvF ft st tn) (fun g => nN (mn g)) q) + 0))), (4, .int (nI ((cntP (fun g => ¬ (tn g).toInt = 0) q) + 0))), (3, .int (nI ((cntP (fun g => (st g).toInt = 2) q) + 0))), (2, .int (nI ((cntP (fun g => (st g).toInt = 1) q) + 1))), (0, .ref k0), (1, .int 5)]) hx hb dX11_count_105 hl (k := 4) rfl (nI_add q 1) (Nat.le_of_ble_eq_true rfl) rfl (fun ls hl => ?_)
                refine lv_goto (tgt := 13) hx hb dX11_count_108 rfl ?_
                have hl9 := lv_sub hl [0, 1, 2, 3, 4, 5, 6] rfl
                have e9_2 : nI (cntP (fun g => (st g).toInt = 1) (q + 1)) = (nI ((cntP (fun g => (st g).toInt = 1) q) + 1) : Int32) := by first | exact congrArg nI (cntP_y (P := fun g => (st g).toInt = 1) (show (st q).toInt = 1 by omega)) | exact congrArg nI (cntP_n0 (P := fun g => (st g).toInt = 1) (show ¬ (st q).toInt = 1 by omega))
                have e9_3 : nI (cntP (fun g => (st g).toInt = 2) (q + 1)) = (nI ((cntP (fun g => (st g).toInt = 2) q) + 0) : Int32) := by first | exact congrArg nI (cntP_y (P := fun g => (st g).toInt = 2) (show (st q).toInt = 2 by omega)) | exact congrArg nI (cntP_n0 (P := fun g => (st g).toInt = 2) (show ¬ (st q).toInt = 2 by omega))
                have e9_4 : nI (cntP (fun g => ¬ (tn g).toInt = 0) (q + 1)) = (nI ((cntP (fun g => ¬ (tn g).toInt = 0) q) + 0) : Int32) := by first | exact congrArg nI (cntP_y (P := fun g => ¬ (tn g).toInt = 0) (show ¬ (tn q).toInt = 0 by omega)) | exact congrArg nI (cntP_n0 (P := fun g => ¬ (tn g).toInt = 0) (show ¬ ¬ (tn q).toInt = 0 by omega))
                have e9_5 : nI (smP (lvF ft st tn) (fun g => nN (mn g)) (q + 1)) = (nI ((smP (lvF ft st tn) (fun g => nN (mn g)) q) + 0) : Int32) := by first | exact congrArg nI (smP_y (P := lvF ft st tn) (by first | with_reducible assumption | assumption)) | exact congrArg nI (smP_n (P := lvF ft st tn) (by first | with_reducible assumption | assumption))
                have hl9 : lv_has ls 7 [(6, .int (nI (q + 1))), (5, .int (nI (smP (lvF ft st tn) (fun g => nN (mn g)) (q + 1)))), (4, .int (nI (cntP (fun g => ¬ (tn g).toInt = 0) (q + 1)))), (3, .int (nI (cntP (fun g => (st g).toInt = 2) (q + 1)))), (2, .int (nI (cntP (fun g => (st g).toInt = 1) (q + 1)))), (0, .ref k0), (1, .int 5)] := by rw [e9_2]; rw [e9_3]; rw [e9_4]; rw [e9_5]; exact hl9
                exact ih_13 (q + 1) H locs ls (by first | with_reducible assumption | omega) (by first | with_reducible assumption | omega) hP hD hS hl9
              · have c_15 : q < ft ∧ (st q).toInt = 1 ∧ (tn q).toInt = 0 := zp_1 c_15
                refine lv_aload_n hx hb dX11_count_91 rfl (lv_at hl 5 rfl) ?_
                refine va_get (D := (dC, dI)) (ci := 9) (v := .ref (a 11)) (C := RX11) (T := TX11) (N := 55) hx hb hts inX11 hown hK hP 0 rfl rfl 11 (Nat.le_of_ble_eq_true rfl) (hts _ mw_1170) (fun _ h9 => h9) rfl dX11_count_92 ?_
                refine lv_iload hx hb dX11_count_95 (lv_at hl 3 rfl) ?_
                refine z_iald hx hb hK hP 3 0 rfl rfl (e := q) rfl b9_4 (Nat.le_of_ble_eq_true rfl) dX11_count_97 ?_
                refine zz_i (v := nI (nN (mn q))) ((hmw q (by first | with_reducible assumption | assumption)).1) ?_
                refine lv_goto (tgt := 102) hx hb dX11_count_98 rfl ?_
                refine lv_iadd hx hb dX11_count_102 ?_
                refine zz_i (v := nI ((smP (lvF ft st tn) (fun g => nN (mn g)) q) + (nN (mn q)))) (nI_add (smP (lvF ft st tn) (fun g => nN (mn g)) q) (nN (mn q))) ?_
                refine lv_istore (lv' := [(5, .int (nI ((smP (lvF ft st tn) (fun g => nN (mn g)) q) + (nN (mn q))))), (4, .int (nI ((cntP (fun g => ¬ (tn g).toInt = 0) q) + 0))), (3, .int (nI ((cntP (fun g => (st g).toInt = 2) q) + 0))), (2, .int (nI ((cntP (fun g => (st g).toInt = 1) q) + 1))), (6, .int (nI q)), (0, .ref k0), (1, .int 5)]) hx hb dX11_count_103 hl (Nat.le_of_ble_eq_true rfl) rfl (fun ls hl => ?_)
                refine lv_iinc (v := nI (q + 1)) (lv' := [(6, .int (nI (q + 1))), (5, .int (nI ((smP (lvF ft st tn) (fun g => nN (mn g)) q) + (nN (mn q))))), (4, .int (nI ((cntP (fun g => ¬ (tn g).toInt = 0) q) + 0))), (3, .int (nI ((cntP (fun g => (st g).toInt = 2) q) + 0))), (2, .int (nI ((cntP (fun g => (st g).toInt = 1) q) + 1))), (0, .ref k0), (1, .int 5)]) hx hb dX11_count_105 hl (k := 4) rfl (nI_add q 1) (Nat.le_of_ble_eq_true rfl) rfl (fun ls hl => ?_)
                refine lv_goto (tgt := 13) hx hb dX11_count_108 rfl ?_
                have hl9 := lv_sub hl [0, 1, 2, 3, 4, 5, 6] rfl
                have e9_2 : nI (cntP (fun g => (st g).toInt = 1) (q + 1)) = (nI ((cntP (fun g => (st g).toInt = 1) q) + 1) : Int32) := by first | exact congrArg nI (cntP_y (P := fun g => (st g).toInt = 1) (show (st q).toInt = 1 by omega)) | exact congrArg nI (cntP_n0 (P := fun g => (st g).toInt = 1) (show ¬ (st q).toInt = 1 by omega))
                have e9_3 : nI (cntP (fun g => (st g).toInt = 2) (q + 1)) = (nI ((cntP (fun g => (st g).toInt = 2) q) + 0) : Int32) := by first | exact congrArg nI (cntP_y (P := fun g => (st g).toInt = 2) (show (st q).toInt = 2 by omega)) | exact congrArg nI (cntP_n0 (P := fun g => (st g).toInt = 2) (show ¬ (st q).toInt = 2 by omega))
                have e9_4 : nI (cntP (fun g => ¬ (tn g).toInt = 0) (q + 1)) = (nI ((cntP (fun g => ¬ (tn g).toInt = 0) q) + 0) : Int32) := by first | exact congrArg nI (cntP_y (P := fun g => ¬ (tn g).toInt = 0) (show ¬ (tn q).toInt = 0 by omega)) | exact congrArg nI (cntP_n0 (P := fun g => ¬ (tn g).toInt = 0) (show ¬ ¬ (tn q).toInt = 0 by omega))
                have e9_5 : nI (smP (lvF ft st tn) (fun g => nN (mn g)) (q + 1)) = (nI ((smP (lvF ft st tn) (fun g => nN (mn g)) q) + (nN (mn q))) : Int32) := by first | exact congrArg nI (smP_y (P := lvF ft st tn) (by first | with_reducible assumption | assumption)) | exact congrArg nI (smP_n (P := lvF ft st tn) (by first | with_reducible assumption | assumption))
                have hl9 : lv_has ls 7 [(6, .int (nI (q + 1))), (5, .int (nI (smP (lvF ft st tn) (fun g => nN (mn g)) (q + 1)))), (4, .int (nI (cntP (fun g => ¬ (tn g).toInt = 0) (q + 1)))), (3, .int (nI (cntP (fun g => (st g).toInt = 2) (q + 1)))), (2, .int (nI (cntP (fun g => (st g).toInt = 1) (q + 1)))), (0, .ref k0), (1, .int 5)] := by rw [e9_2]; rw [e9_3]; rw [e9_4]; rw [e9_5]; exact hl9
                exact ih_13 (q + 1) H locs ls (by first | with_reducible assumption | omega) (by first | with_reducible assumption | omega) hP hD hS hl9
            · have c_14 : ¬ (tn q).toInt = 0 := zc_ne rfl rfl c_14
              refine lv_iconst (v := 1) hx hb dX11_count_72 rfl ?_
              refine lv_goto (tgt := 77) hx hb dX11_count_73 rfl ?_
              refine lv_iadd hx hb dX11_count_77 ?_
              refine zz_i (v := nI ((cntP (fun g => ¬ (tn g).toInt = 0) q) + 1)) (nI_add (cntP (fun g => ¬ (tn g).toInt = 0) q) 1) ?_
              refine lv_istore (lv' := [(4, .int (nI ((cntP (fun g => ¬ (tn g).toInt = 0) q) + 1))), (3, .int (nI ((cntP (fun g => (st g).toInt = 2) q) + 0))), (2, .int (nI ((cntP (fun g => (st g).toInt = 1) q) + 1))), (6, .int (nI q)), (5, .int (nI (smP (lvF ft st tn) (fun g => nN (mn g)) q))), (0, .ref k0), (1, .int 5)]) hx hb dX11_count_78 hl (Nat.le_of_ble_eq_true rfl) rfl (fun ls hl => ?_)
              refine lv_iload hx hb dX11_count_80 (lv_at hl 4 rfl) ?_
              refine lv_aload_n hx hb dX11_count_82 rfl (lv_at hl 5 rfl) ?_
              refine lv_iload hx hb dX11_count_83 (lv_at hl 3 rfl) ?_
              obtain ⟨hPc, hDc, hFc, hI1⟩ := zi_sub (wc := [_, _, _]) hP hD hS hA [0, 1, 2] rfl rfl
              refine zcall (st1 := [.int (pI (q < ft ∧ (st q).toInt = 1 ∧ (tn q).toInt = 0)), .int (nI (smP (lvF ft st tn) (fun g => nN (mn g)) q))]) (va_runV (As := [.int (nI q)]) (rest := [.int (nI (smP (lvF ft st tn) (fun g => nN (mn g)) q))]) ⟨hx, hb, hml, hown, hts⟩ (k_M_is_n l dC dI cI cZ cF H.size k0 a I0 J0 q ft st tn (by first | with_reducible assumption | assumption) (by first | with_reducible assumption | omega) (by first | with_reducible assumption | omega)) (csV_179 hts rfl rfl ⟨Nat.le_of_ble_eq_true rfl, Nat.le_of_ble_eq_true rfl⟩) (zPV2 (q0 := 0) (ci := 9) hPc hDc hK hXN rfl rfl) rfl rfl hl.1 rfl (lv_room (Nat.le_of_ble_eq_true rfl)) dX11_count_85 ⟨Nat.le_of_ble_eq_true rfl, Nat.le_of_ble_eq_true rfl⟩) hS hFc hFc rfl (fun t H locs ht hB hk1 hS => ?_)
              obtain ⟨hP1, hD1⟩ := hB
              rw [ht] at hP1
              replace hP := z0 hP hD hk1 hP1 hI1
              clear hk1 hPc hDc hFc hP1 hD1 ht hI1
              refine lv_if_eq (tgt := 101) hx hb dX11_count_88 rfl (fun c_16 => ?_) (fun c_16 => ?_)
              · have c_16 : ¬ (q < ft ∧ (st q).toInt = 1 ∧ (tn q).toInt = 0) := zp_0 c_16
                refine lv_iconst (v := 0) hx hb dX11_count_101 rfl ?_
                refine lv_iadd hx hb dX11_count_102 ?_
                refine zz_i (v := nI ((smP (lvF ft st tn) (fun g => nN (mn g)) q) + 0)) (nI_add (smP (lvF ft st tn) (fun g => nN (mn g)) q) 0) ?_
                refine lv_istore (lv' := [(5, .int (nI ((smP (lvF ft st tn) (fun g => nN (mn g)) q) + 0))), (4, .int (nI ((cntP (fun g => ¬ (tn g).toInt = 0) q) + 1))), (3, .int (nI ((cntP (fun g => (st g).toInt = 2) q) + 0))), (2, .int (nI ((cntP (fun g => (st g).toInt = 1) q) + 1))), (6, .int (nI q)), (0, .ref k0), (1, .int 5)]) hx hb dX11_count_103 hl (Nat.le_of_ble_eq_true rfl) rfl (fun ls hl => ?_)
                refine lv_iinc (v := nI (q + 1)) (lv' := [(6, .int (nI (q + 1))), (5, .int (nI ((smP (lvF ft st tn) (fun g => nN (mn g)) q) + 0))), (4, .int (nI ((cntP (fun g => ¬ (tn g).toInt = 0) q) + 1))), (3, .int (nI ((cntP (fun g => (st g).toInt = 2) q) + 0))), (2, .int (nI ((cntP (fun g => (st g).toInt = 1) q) + 1))), (0, .ref k0), (1, .int 5)]) hx hb dX11_count_105 hl (k := 4) rfl (nI_add q 1) (Nat.le_of_ble_eq_true rfl) rfl (fun ls hl => ?_)
                refine lv_goto (tgt := 13) hx hb dX11_count_108 rfl ?_
                have hl9 := lv_sub hl [0, 1, 2, 3, 4, 5, 6] rfl
                have e9_2 : nI (cntP (fun g => (st g).toInt = 1) (q + 1)) = (nI ((cntP (fun g => (st g).toInt = 1) q) + 1) : Int32) := by first | exact congrArg nI (cntP_y (P := fun g => (st g).toInt = 1) (show (st q).toInt = 1 by omega)) | exact congrArg nI (cntP_n0 (P := fun g => (st g).toInt = 1) (show ¬ (st q).toInt = 1 by omega))
                have e9_3 : nI (cntP (fun g => (st g).toInt = 2) (q + 1)) = (nI ((cntP (fun g => (st g).toInt = 2) q) + 0) : Int32) := by first | exact congrArg nI (cntP_y (P := fun g => (st g).toInt = 2) (show (st q).toInt = 2 by omega)) | exact congrArg nI (cntP_n0 (P := fun g => (st g).toInt = 2) (show ¬ (st q).toInt = 2 by omega))
                have e9_4 : nI (cntP (fun g => ¬ (tn g).toInt = 0) (q + 1)) = (nI ((cntP (fun g => ¬ (tn g).toInt = 0) q) + 1) : Int32) := by first | exact congrArg nI (cntP_y (P := fun g => ¬ (tn g).toInt = 0) (show ¬ (tn q).toInt = 0 by omega)) | exact congrArg nI (cntP_n0 (P := fun g => ¬ (tn g).toInt = 0) (show ¬ ¬ (tn q).toInt = 0 by omega))
                have e9_5 : nI (smP (lvF ft st tn) (fun g => nN (mn g)) (q + 1)) = (nI ((smP (lvF ft st tn) (fun g => nN (mn g)) q) + 0) : Int32) := by first | exact congrArg nI (smP_y (P := lvF ft st tn) (by first | with_reducible assumption | assumption)) | exact congrArg nI (smP_n (P := lvF ft st tn) (by first | with_reducible assumption | assumption))
                have hl9 : lv_has ls 7 [(6, .int (nI (q + 1))), (5, .int (nI (smP (lvF ft st tn) (fun g => nN (mn g)) (q + 1)))), (4, .int (nI (cntP (fun g => ¬ (tn g).toInt = 0) (q + 1)))), (3, .int (nI (cntP (fun g => (st g).toInt = 2) (q + 1)))), (2, .int (nI (cntP (fun g => (st g).toInt = 1) (q + 1)))), (0, .ref k0), (1, .int 5)] := by rw [e9_2]; rw [e9_3]; rw [e9_4]; rw [e9_5]; exact hl9
                exact ih_13 (q + 1) H locs ls (by first | with_reducible assumption | omega) (by first | with_reducible assumption | omega) hP hD hS hl9
              · have c_16 : q < ft ∧ (st q).toInt = 1 ∧ (tn q).toInt = 0 := zp_1 c_16
                refine lv_aload_n hx hb dX11_count_91 rfl (lv_at hl 5 rfl) ?_
                refine va_get (D := (dC, dI)) (ci := 9) (v := .ref (a 11)) (C := RX11) (T := TX11) (N := 55) hx hb hts inX11 hown hK hP 0 rfl rfl 11 (Nat.le_of_ble_eq_true rfl) (hts _ mw_1170) (fun _ h9 => h9) rfl dX11_count_92 ?_
                refine lv_iload hx hb dX11_count_95 (lv_at hl 3 rfl) ?_
                refine z_iald hx hb hK hP 3 0 rfl rfl (e := q) rfl b9_4 (Nat.le_of_ble_eq_true rfl) dX11_count_97 ?_
                refine zz_i (v := nI (nN (mn q))) ((hmw q (by first | with_reducible assumption | assumption)).1) ?_
                refine lv_goto (tgt := 102) hx hb dX11_count_98 rfl ?_
                refine lv_iadd hx hb dX11_count_102 ?_
                refine zz_i (v := nI ((smP (lvF ft st tn) (fun g => nN (mn g)) q) + (nN (mn q)))) (nI_add (smP (lvF ft st tn) (fun g => nN (mn g)) q) (nN (mn q))) ?_
                refine lv_istore (lv' := [(5, .int (nI ((smP (lvF ft st tn) (fun g => nN (mn g)) q) + (nN (mn q))))), (4, .int (nI ((cntP (fun g => ¬ (tn g).toInt = 0) q) + 1))), (3, .int (nI ((cntP (fun g => (st g).toInt = 2) q) + 0))), (2, .int (nI ((cntP (fun g => (st g).toInt = 1) q) + 1))), (6, .int (nI q)), (0, .ref k0), (1, .int 5)]) hx hb dX11_count_103 hl (Nat.le_of_ble_eq_true rfl) rfl (fun ls hl => ?_)
                refine lv_iinc (v := nI (q + 1)) (lv' := [(6, .int (nI (q + 1))), (5, .int (nI ((smP (lvF ft st tn) (fun g => nN (mn g)) q) + (nN (mn q))))), (4, .int (nI ((cntP (fun g => ¬ (tn g).toInt = 0) q) + 1))), (3, .int (nI ((cntP (fun g => (st g).toInt = 2) q) + 0))), (2, .int (nI ((cntP (fun g => (st g).toInt = 1) q) + 1))), (0, .ref k0), (1, .int 5)]) hx hb dX11_count_105 hl (k := 4) rfl (nI_add q 1) (Nat.le_of_ble_eq_true rfl) rfl (fun ls hl => ?_)
                refine lv_goto (tgt := 13) hx hb dX11_count_108 rfl ?_
                have hl9 := lv_sub hl [0, 1, 2, 3, 4, 5, 6] rfl
                have e9_2 : nI (cntP (fun g => (st g).toInt = 1) (q + 1)) = (nI ((cntP (fun g => (st g).toInt = 1) q) + 1) : Int32) := by first | exact congrArg nI (cntP_y (P := fun g => (st g).toInt = 1) (show (st q).toInt = 1 by omega)) | exact congrArg nI (cntP_n0 (P := fun g => (st g).toInt = 1) (show ¬ (st q).toInt = 1 by omega))
                have e9_3 : nI (cntP (fun g => (st g).toInt = 2) (q + 1)) = (nI ((cntP (fun g => (st g).toInt = 2) q) + 0) : Int32) := by first | exact congrArg nI (cntP_y (P := fun g => (st g).toInt = 2) (show (st q).toInt = 2 by omega)) | exact congrArg nI (cntP_n0 (P := fun g => (st g).toInt = 2) (show ¬ (st q).toInt = 2 by omega))
                have e9_4 : nI (cntP (fun g => ¬ (tn g).toInt = 0) (q + 1)) = (nI ((cntP (fun g => ¬ (tn g).toInt = 0) q) + 1) : Int32) := by first | exact congrArg nI (cntP_y (P := fun g => ¬ (tn g).toInt = 0) (show ¬ (tn q).toInt = 0 by omega)) | exact congrArg nI (cntP_n0 (P := fun g => ¬ (tn g).toInt = 0) (show ¬ ¬ (tn q).toInt = 0 by omega))
                have e9_5 : nI (smP (lvF ft st tn) (fun g => nN (mn g)) (q + 1)) = (nI ((smP (lvF ft st tn) (fun g => nN (mn g)) q) + (nN (mn q))) : Int32) := by first | exact congrArg nI (smP_y (P := lvF ft st tn) (by first | with_reducible assumption | assumption)) | exact congrArg nI (smP_n (P := lvF ft st tn) (by first | with_reducible assumption | assumption))
                have hl9 : lv_has ls 7 [(6, .int (nI (q + 1))), (5, .int (nI (smP (lvF ft st tn) (fun g => nN (mn g)) (q + 1)))), (4, .int (nI (cntP (fun g => ¬ (tn g).toInt = 0) (q + 1)))), (3, .int (nI (cntP (fun g => (st g).toInt = 2) (q + 1)))), (2, .int (nI (cntP (fun g => (st g).toInt = 1) (q + 1)))), (0, .ref k0), (1, .int 5)] := by rw [e9_2]; rw [e9_3]; rw [e9_4]; rw [e9_5]; exact hl9
                exact ih_13 (q + 1) H locs ls (by first | with_reducible assumption | omega) (by first | with_reducible assumption | omega) hP hD hS hl9
          · have c_13 : (st q).toInt = 2 := zc_eq rfl rfl c_13
            refine lv_iconst (v := 1) hx hb dX11_count_53 rfl ?_
            refine lv_goto (tgt := 58) hx hb dX11_count_54 rfl ?_
            refine lv_iadd hx hb dX11_count_58 ?_
            refine zz_i (v := nI ((cntP (fun g => (st g).toInt = 2) q) + 1)) (nI_add (cntP (fun g => (st g).toInt = 2) q) 1) ?_
            refine lv_istore_n (lv' := [(3, .int (nI ((cntP (fun g => (st g).toInt = 2) q) + 1))), (2, .int (nI ((cntP (fun g => (st g).toInt = 1) q) + 1))), (6, .int (nI q)), (5, .int (nI (smP (lvF ft st tn) (fun g => nN (mn g)) q))), (4, .int (nI (cntP (fun g => ¬ (tn g).toInt = 0) q))), (0, .ref k0), (1, .int 5)]) hx hb dX11_count_59 rfl hl (Nat.le_of_ble_eq_true rfl) rfl (fun ls hl => ?_)
            refine lv_iload hx hb dX11_count_60 (lv_at hl 4 rfl) ?_
            refine lv_aload_n hx hb dX11_count_62 rfl (lv_at hl 5 rfl) ?_
            refine va_get (D := (dC, dI)) (ci := 9) (v := .ref (a 6)) (C := RX11) (T := TX11) (N := 55) hx hb hts inX11 hown hK hP 0 rfl rfl 6 (Nat.le_of_ble_eq_true rfl) (hts _ mw_1165) (fun _ h9 => h9) rfl dX11_count_63 ?_
            refine lv_iload hx hb dX11_count_66 (lv_at hl 2 rfl) ?_
            refine z_zald hx hb hK hP 2 1 rfl rfl (e := q) rfl b9_4 (Nat.le_of_ble_eq_true rfl) dX11_count_68 ?_
            refine lv_if_eq (tgt := 76) hx hb dX11_count_69 rfl (fun c_17 => ?_) (fun c_17 => ?_)
            · have c_17 : (tn q).toInt = 0 := zc_eq rfl rfl c_17
              refine lv_iconst (v := 0) hx hb dX11_count_76 rfl ?_
              refine lv_iadd hx hb dX11_count_77 ?_
              refine zz_i (v := nI ((cntP (fun g => ¬ (tn g).toInt = 0) q) + 0)) (nI_add (cntP (fun g => ¬ (tn g).toInt = 0) q) 0) ?_
              refine lv_istore (lv' := [(4, .int (nI ((cntP (fun g => ¬ (tn g).toInt = 0) q) + 0))), (3, .int (nI ((cntP (fun g => (st g).toInt = 2) q) + 1))), (2, .int (nI ((cntP (fun g => (st g).toInt = 1) q) + 1))), (6, .int (nI q)), (5, .int (nI (smP (lvF ft st tn) (fun g => nN (mn g)) q))), (0, .ref k0), (1, .int 5)]) hx hb dX11_count_78 hl (Nat.le_of_ble_eq_true rfl) rfl (fun ls hl => ?_)
              refine lv_iload hx hb dX11_count_80 (lv_at hl 4 rfl) ?_
              refine lv_aload_n hx hb dX11_count_82 rfl (lv_at hl 5 rfl) ?_
              refine lv_iload hx hb dX11_count_83 (lv_at hl 3 rfl) ?_
              obtain ⟨hPc, hDc, hFc, hI1⟩ := zi_sub (wc := [_, _, _]) hP hD hS hA [0, 1, 2] rfl rfl
              refine zcall (st1 := [.int (pI (q < ft ∧ (st q).toInt = 1 ∧ (tn q).toInt = 0)), .int (nI (smP (lvF ft st tn) (fun g => nN (mn g)) q))]) (va_runV (As := [.int (nI q)]) (rest := [.int (nI (smP (lvF ft st tn) (fun g => nN (mn g)) q))]) ⟨hx, hb, hml, hown, hts⟩ (k_M_is_n l dC dI cI cZ cF H.size k0 a I0 J0 q ft st tn (by first | with_reducible assumption | assumption) (by first | with_reducible assumption | omega) (by first | with_reducible assumption | omega)) (csV_179 hts rfl rfl ⟨Nat.le_of_ble_eq_true rfl, Nat.le_of_ble_eq_true rfl⟩) (zPV2 (q0 := 0) (ci := 9) hPc hDc hK hXN rfl rfl) rfl rfl hl.1 rfl (lv_room (Nat.le_of_ble_eq_true rfl)) dX11_count_85 ⟨Nat.le_of_ble_eq_true rfl, Nat.le_of_ble_eq_true rfl⟩) hS hFc hFc rfl (fun t H locs ht hB hk1 hS => ?_)
              obtain ⟨hP1, hD1⟩ := hB
              rw [ht] at hP1
              replace hP := z0 hP hD hk1 hP1 hI1
              clear hk1 hPc hDc hFc hP1 hD1 ht hI1
              refine lv_if_eq (tgt := 101) hx hb dX11_count_88 rfl (fun c_18 => ?_) (fun c_18 => ?_)
              · have c_18 : ¬ (q < ft ∧ (st q).toInt = 1 ∧ (tn q).toInt = 0) := zp_0 c_18
                refine lv_iconst (v := 0) hx hb dX11_count_101 rfl ?_
                refine lv_iadd hx hb dX11_count_102 ?_
                refine zz_i (v := nI ((smP (lvF ft st tn) (fun g => nN (mn g)) q) + 0)) (nI_add (smP (lvF ft st tn) (fun g => nN (mn g)) q) 0) ?_
                refine lv_istore (lv' := [(5, .int (nI ((smP (lvF ft st tn) (fun g => nN (mn g)) q) + 0))), (4, .int (nI ((cntP (fun g => ¬ (tn g).toInt = 0) q) + 0))), (3, .int (nI ((cntP (fun g => (st g).toInt = 2) q) + 1))), (2, .int (nI ((cntP (fun g => (st g).toInt = 1) q) + 1))), (6, .int (nI q)), (0, .ref k0), (1, .int 5)]) hx hb dX11_count_103 hl (Nat.le_of_ble_eq_true rfl) rfl (fun ls hl => ?_)
                refine lv_iinc (v := nI (q + 1)) (lv' := [(6, .int (nI (q + 1))), (5, .int (nI ((smP (lvF ft st tn) (fun g => nN (mn g)) q) + 0))), (4, .int (nI ((cntP (fun g => ¬ (tn g).toInt = 0) q) + 0))), (3, .int (nI ((cntP (fun g => (st g).toInt = 2) q) + 1))), (2, .int (nI ((cntP (fun g => (st g).toInt = 1) q) + 1))), (0, .ref k0), (1, .int 5)]) hx hb dX11_count_105 hl (k := 4) rfl (nI_add q 1) (Nat.le_of_ble_eq_true rfl) rfl (fun ls hl => ?_)
                refine lv_goto (tgt := 13) hx hb dX11_count_108 rfl ?_
                have hl9 := lv_sub hl [0, 1, 2, 3, 4, 5, 6] rfl
                have e9_2 : nI (cntP (fun g => (st g).toInt = 1) (q + 1)) = (nI ((cntP (fun g => (st g).toInt = 1) q) + 1) : Int32) := by first | exact congrArg nI (cntP_y (P := fun g => (st g).toInt = 1) (show (st q).toInt = 1 by omega)) | exact congrArg nI (cntP_n0 (P := fun g => (st g).toInt = 1) (show ¬ (st q).toInt = 1 by omega))
                have e9_3 : nI (cntP (fun g => (st g).toInt = 2) (q + 1)) = (nI ((cntP (fun g => (st g).toInt = 2) q) + 1) : Int32) := by first | exact congrArg nI (cntP_y (P := fun g => (st g).toInt = 2) (show (st q).toInt = 2 by omega)) | exact congrArg nI (cntP_n0 (P := fun g => (st g).toInt = 2) (show ¬ (st q).toInt = 2 by omega))
                have e9_4 : nI (cntP (fun g => ¬ (tn g).toInt = 0) (q + 1)) = (nI ((cntP (fun g => ¬ (tn g).toInt = 0) q) + 0) : Int32) := by first | exact congrArg nI (cntP_y (P := fun g => ¬ (tn g).toInt = 0) (show ¬ (tn q).toInt = 0 by omega)) | exact congrArg nI (cntP_n0 (P := fun g => ¬ (tn g).toInt = 0) (show ¬ ¬ (tn q).toInt = 0 by omega))
                have e9_5 : nI (smP (lvF ft st tn) (fun g => nN (mn g)) (q + 1)) = (nI ((smP (lvF ft st tn) (fun g => nN (mn g)) q) + 0) : Int32) := by first | exact congrArg nI (smP_y (P := lvF ft st tn) (by first | with_reducible assumption | assumption)) | exact congrArg nI (smP_n (P := lvF ft st tn) (by first | with_reducible assumption | assumption))
                have hl9 : lv_has ls 7 [(6, .int (nI (q + 1))), (5, .int (nI (smP (lvF ft st tn) (fun g => nN (mn g)) (q + 1)))), (4, .int (nI (cntP (fun g => ¬ (tn g).toInt = 0) (q + 1)))), (3, .int (nI (cntP (fun g => (st g).toInt = 2) (q + 1)))), (2, .int (nI (cntP (fun g => (st g).toInt = 1) (q + 1)))), (0, .ref k0), (1, .int 5)] := by rw [e9_2]; rw [e9_3]; rw [e9_4]; rw [e9_5]; exact hl9
                exact ih_13 (q + 1) H locs ls (by first | with_reducible assumption | omega) (by first | with_reducible assumption | omega) hP hD hS hl9
              · have c_18 : q < ft ∧ (st q).toInt = 1 ∧ (tn q).toInt = 0 := zp_1 c_18
                refine lv_aload_n hx hb dX11_count_91 rfl (lv_at hl 5 rfl) ?_
                refine va_get (D := (dC, dI)) (ci := 9) (v := .ref (a 11)) (C := RX11) (T := TX11) (N := 55) hx hb hts inX11 hown hK hP 0 rfl rfl 11 (Nat.le_of_ble_eq_true rfl) (hts _ mw_1170) (fun _ h9 => h9) rfl dX11_count_92 ?_
                refine lv_iload hx hb dX11_count_95 (lv_at hl 3 rfl) ?_
                refine z_iald hx hb hK hP 3 0 rfl rfl (e := q) rfl b9_4 (Nat.le_of_ble_eq_true rfl) dX11_count_97 ?_
                refine zz_i (v := nI (nN (mn q))) ((hmw q (by first | with_reducible assumption | assumption)).1) ?_
                refine lv_goto (tgt := 102) hx hb dX11_count_98 rfl ?_
                refine lv_iadd hx hb dX11_count_102 ?_
                refine zz_i (v := nI ((smP (lvF ft st tn) (fun g => nN (mn g)) q) + (nN (mn q)))) (nI_add (smP (lvF ft st tn) (fun g => nN (mn g)) q) (nN (mn q))) ?_
                refine lv_istore (lv' := [(5, .int (nI ((smP (lvF ft st tn) (fun g => nN (mn g)) q) + (nN (mn q))))), (4, .int (nI ((cntP (fun g => ¬ (tn g).toInt = 0) q) + 0))), (3, .int (nI ((cntP (fun g => (st g).toInt = 2) q) + 1))), (2, .int (nI ((cntP (fun g => (st g).toInt = 1) q) + 1))), (6, .int (nI q)), (0, .ref k0), (1, .int 5)]) hx hb dX11_count_103 hl (Nat.le_of_ble_eq_true rfl) rfl (fun ls hl => ?_)
                refine lv_iinc (v := nI (q + 1)) (lv' := [(6, .int (nI (q + 1))), (5, .int (nI ((smP (lvF ft st tn) (fun g => nN (mn g)) q) + (nN (mn q))))), (4, .int (nI ((cntP (fun g => ¬ (tn g).toInt = 0) q) + 0))), (3, .int (nI ((cntP (fun g => (st g).toInt = 2) q) + 1))), (2, .int (nI ((cntP (fun g => (st g).toInt = 1) q) + 1))), (0, .ref k0), (1, .int 5)]) hx hb dX11_count_105 hl (k := 4) rfl (nI_add q 1) (Nat.le_of_ble_eq_true rfl) rfl (fun ls hl => ?_)
                refine lv_goto (tgt := 13) hx hb dX11_count_108 rfl ?_
                have hl9 := lv_sub hl [0, 1, 2, 3, 4, 5, 6] rfl
                have e9_2 : nI (cntP (fun g => (st g).toInt = 1) (q + 1)) = (nI ((cntP (fun g => (st g).toInt = 1) q) + 1) : Int32) := by first | exact congrArg nI (cntP_y (P := fun g => (st g).toInt = 1) (show (st q).toInt = 1 by omega)) | exact congrArg nI (cntP_n0 (P := fun g => (st g).toInt = 1) (show ¬ (st q).toInt = 1 by omega))
                have e9_3 : nI (cntP (fun g => (st g).toInt = 2) (q + 1)) = (nI ((cntP (fun g => (st g).toInt = 2) q) + 1) : Int32) := by first | exact congrArg nI (cntP_y (P := fun g => (st g).toInt = 2) (show (st q).toInt = 2 by omega)) | exact congrArg nI (cntP_n0 (P := fun g => (st g).toInt = 2) (show ¬ (st q).toInt = 2 by omega))
                have e9_4 : nI (cntP (fun g => ¬ (tn g).toInt = 0) (q + 1)) = (nI ((cntP (fun g => ¬ (tn g).toInt = 0) q) + 0) : Int32) := by first | exact congrArg nI (cntP_y (P := fun g => ¬ (tn g).toInt = 0) (show ¬ (tn q).toInt = 0 by omega)) | exact congrArg nI (cntP_n0 (P := fun g => ¬ (tn g).toInt = 0) (show ¬ ¬ (tn q).toInt = 0 by omega))
                have e9_5 : nI (smP (lvF ft st tn) (fun g => nN (mn g)) (q + 1)) = (nI ((smP (lvF ft st tn) (fun g => nN (mn g)) q) + (nN (mn q))) : Int32) := by first | exact congrArg nI (smP_y (P := lvF ft st tn) (by first | with_reducible assumption | assumption)) | exact congrArg nI (smP_n (P := lvF ft st tn) (by first | with_reducible assumption | assumption))
                have hl9 : lv_has ls 7 [(6, .int (nI (q + 1))), (5, .int (nI (smP (lvF ft st tn) (fun g => nN (mn g)) (q + 1)))), (4, .int (nI (cntP (fun g => ¬ (tn g).toInt = 0) (q + 1)))), (3, .int (nI (cntP (fun g => (st g).toInt = 2) (q + 1)))), (2, .int (nI (cntP (fun g => (st g).toInt = 1) (q + 1)))), (0, .ref k0), (1, .int 5)] := by rw [e9_2]; rw [e9_3]; rw [e9_4]; rw [e9_5]; exact hl9
                exact ih_13 (q + 1) H locs ls (by first | with_reducible assumption | omega) (by first | with_reducible assumption | omega) hP hD hS hl9
            · have c_17 : ¬ (tn q).toInt = 0 := zc_ne rfl rfl c_17
              refine lv_iconst (v := 1) hx hb dX11_count_72 rfl ?_
              refine lv_goto (tgt := 77) hx hb dX11_count_73 rfl ?_
              refine lv_iadd hx hb dX11_count_77 ?_
              refine zz_i (v := nI ((cntP (fun g => ¬ (tn g).toInt = 0) q) + 1)) (nI_add (cntP (fun g => ¬ (tn g).toInt = 0) q) 1) ?_
              refine lv_istore (lv' := [(4, .int (nI ((cntP (fun g => ¬ (tn g).toInt = 0) q) + 1))), (3, .int (nI ((cntP (fun g => (st g).toInt = 2) q) + 1))), (2, .int (nI ((cntP (fun g => (st g).toInt = 1) q) + 1))), (6, .int (nI q)), (5, .int (nI (smP (lvF ft st tn) (fun g => nN (mn g)) q))), (0, .ref k0), (1, .int 5)]) hx hb dX11_count_78 hl (Nat.le_of_ble_eq_true rfl) rfl (fun ls hl => ?_)
              refine lv_iload hx hb dX11_count_80 (lv_at hl 4 rfl) ?_
              refine lv_aload_n hx hb dX11_count_82 rfl (lv_at hl 5 rfl) ?_
              refine lv_iload hx hb dX11_count_83 (lv_at hl 3 rfl) ?_
              obtain ⟨hPc, hDc, hFc, hI1⟩ := zi_sub (wc := [_, _, _]) hP hD hS hA [0, 1, 2] rfl rfl
              refine zcall (st1 := [.int (pI (q < ft ∧ (st q).toInt = 1 ∧ (tn q).toInt = 0)), .int (nI (smP (lvF ft st tn) (fun g => nN (mn g)) q))]) (va_runV (As := [.int (nI q)]) (rest := [.int (nI (smP (lvF ft st tn) (fun g => nN (mn g)) q))]) ⟨hx, hb, hml, hown, hts⟩ (k_M_is_n l dC dI cI cZ cF H.size k0 a I0 J0 q ft st tn (by first | with_reducible assumption | assumption) (by first | with_reducible assumption | omega) (by first | with_reducible assumption | omega)) (csV_179 hts rfl rfl ⟨Nat.le_of_ble_eq_true rfl, Nat.le_of_ble_eq_true rfl⟩) (zPV2 (q0 := 0) (ci := 9) hPc hDc hK hXN rfl rfl) rfl rfl hl.1 rfl (lv_room (Nat.le_of_ble_eq_true rfl)) dX11_count_85 ⟨Nat.le_of_ble_eq_true rfl, Nat.le_of_ble_eq_true rfl⟩) hS hFc hFc rfl (fun t H locs ht hB hk1 hS => ?_)
              obtain ⟨hP1, hD1⟩ := hB
              rw [ht] at hP1
              replace hP := z0 hP hD hk1 hP1 hI1
              clear hk1 hPc hDc hFc hP1 hD1 ht hI1
              refine lv_if_eq (tgt := 101) hx hb dX11_count_88 rfl (fun c_19 => ?_) (fun c_19 => ?_)
              · have c_19 : ¬ (q < ft ∧ (st q).toInt = 1 ∧ (tn q).toInt = 0) := zp_0 c_19
                refine lv_iconst (v := 0) hx hb dX11_count_101 rfl ?_
                refine lv_iadd hx hb dX11_count_102 ?_
                refine zz_i (v := nI ((smP (lvF ft st tn) (fun g => nN (mn g)) q) + 0)) (nI_add (smP (lvF ft st tn) (fun g => nN (mn g)) q) 0) ?_
                refine lv_istore (lv' := [(5, .int (nI ((smP (lvF ft st tn) (fun g => nN (mn g)) q) + 0))), (4, .int (nI ((cntP (fun g => ¬ (tn g).toInt = 0) q) + 1))), (3, .int (nI ((cntP (fun g => (st g).toInt = 2) q) + 1))), (2, .int (nI ((cntP (fun g => (st g).toInt = 1) q) + 1))), (6, .int (nI q)), (0, .ref k0), (1, .int 5)]) hx hb dX11_count_103 hl (Nat.le_of_ble_eq_true rfl) rfl (fun ls hl => ?_)
                refine lv_iinc (v := nI (q + 1)) (lv' := [(6, .int (nI (q + 1))), (5, .int (nI ((smP (lvF ft st tn) (fun g => nN (mn g)) q) + 0))), (4, .int (nI ((cntP (fun g => ¬ (tn g).toInt = 0) q) + 1))), (3, .int (nI ((cntP (fun g => (st g).toInt = 2) q) + 1))), (2, .int (nI ((cntP (fun g => (st g).toInt = 1) q) + 1))), (0, .ref k0), (1, .int 5)]) hx hb dX11_count_105 hl (k := 4) rfl (nI_add q 1) (Nat.le_of_ble_eq_true rfl) rfl (fun ls hl => ?_)
                refine lv_goto (tgt := 13) hx hb dX11_count_108 rfl ?_
                have hl9 := lv_sub hl [0, 1, 2, 3, 4, 5, 6] rfl
                have e9_2 : nI (cntP (fun g => (st g).toInt = 1) (q + 1)) = (nI ((cntP (fun g => (st g).toInt = 1) q) + 1) : Int32) := by first | exact congrArg nI (cntP_y (P := fun g => (st g).toInt = 1) (show (st q).toInt = 1 by omega)) | exact congrArg nI (cntP_n0 (P := fun g => (st g).toInt = 1) (show ¬ (st q).toInt = 1 by omega))
                have e9_3 : nI (cntP (fun g => (st g).toInt = 2) (q + 1)) = (nI ((cntP (fun g => (st g).toInt = 2) q) + 1) : Int32) := by first | exact congrArg nI (cntP_y (P := fun g => (st g).toInt = 2) (show (st q).toInt = 2 by omega)) | exact congrArg nI (cntP_n0 (P := fun g => (st g).toInt = 2) (show ¬ (st q).toInt = 2 by omega))
                have e9_4 : nI (cntP (fun g => ¬ (tn g).toInt = 0) (q + 1)) = (nI ((cntP (fun g => ¬ (tn g).toInt = 0) q) + 1) : Int32) := by first | exact congrArg nI (cntP_y (P := fun g => ¬ (tn g).toInt = 0) (show ¬ (tn q).toInt = 0 by omega)) | exact congrArg nI (cntP_n0 (P := fun g => ¬ (tn g).toInt = 0) (show ¬ ¬ (tn q).toInt = 0 by omega))
                have e9_5 : nI (smP (lvF ft st tn) (fun g => nN (mn g)) (q + 1)) = (nI ((smP (lvF ft st tn) (fun g => nN (mn g)) q) + 0) : Int32) := by first | exact congrArg nI (smP_y (P := lvF ft st tn) (by first | with_reducible assumption | assumption)) | exact congrArg nI (smP_n (P := lvF ft st tn) (by first | with_reducible assumption | assumption))
                have hl9 : lv_has ls 7 [(6, .int (nI (q + 1))), (5, .int (nI (smP (lvF ft st tn) (fun g => nN (mn g)) (q + 1)))), (4, .int (nI (cntP (fun g => ¬ (tn g).toInt = 0) (q + 1)))), (3, .int (nI (cntP (fun g => (st g).toInt = 2) (q + 1)))), (2, .int (nI (cntP (fun g => (st g).toInt = 1) (q + 1)))), (0, .ref k0), (1, .int 5)] := by rw [e9_2]; rw [e9_3]; rw [e9_4]; rw [e9_5]; exact hl9
                exact ih_13 (q + 1) H locs ls (by first | with_reducible assumption | omega) (by first | with_reducible assumption | omega) hP hD hS hl9
              · have c_19 : q < ft ∧ (st q).toInt = 1 ∧ (tn q).toInt = 0 := zp_1 c_19
                refine lv_aload_n hx hb dX11_count_91 rfl (lv_at hl 5 rfl) ?_
                refine va_get (D := (dC, dI)) (ci := 9) (v := .ref (a 11)) (C := RX11) (T := TX11) (N := 55) hx hb hts inX11 hown hK hP 0 rfl rfl 11 (Nat.le_of_ble_eq_true rfl) (hts _ mw_1170) (fun _ h9 => h9) rfl dX11_count_92 ?_
                refine lv_iload hx hb dX11_count_95 (lv_at hl 3 rfl) ?_
                refine z_iald hx hb hK hP 3 0 rfl rfl (e := q) rfl b9_4 (Nat.le_of_ble_eq_true rfl) dX11_count_97 ?_
                refine zz_i (v := nI (nN (mn q))) ((hmw q (by first | with_reducible assumption | assumption)).1) ?_
                refine lv_goto (tgt := 102) hx hb dX11_count_98 rfl ?_
                refine lv_iadd hx hb dX11_count_102 ?_
                refine zz_i (v := nI ((smP (lvF ft st tn) (fun g => nN (mn g)) q) + (nN (mn q)))) (nI_add (smP (lvF ft st tn) (fun g => nN (mn g)) q) (nN (mn q))) ?_
                refine lv_istore (lv' := [(5, .int (nI ((smP (lvF ft st tn) (fun g => nN (mn g)) q) + (nN (mn q))))), (4, .int (nI ((cntP (fun g => ¬ (tn g).toInt = 0) q) + 1))), (3, .int (nI ((cntP (fun g => (st g).toInt = 2) q) + 1))), (2, .int (nI ((cntP (fun g => (st g).toInt = 1) q) + 1))), (6, .int (nI q)), (0, .ref k0), (1, .int 5)]) hx hb dX11_count_103 hl (Nat.le_of_ble_eq_true rfl) rfl (fun ls hl => ?_)
                refine lv_iinc (v := nI (q + 1)) (lv' := [(6, .int (nI (q + 1))), (5, .int (nI ((smP (lvF ft st tn) (fun g => nN (mn g)) q) + (nN (mn q))))), (4, .int (nI ((cntP (fun g => ¬ (tn g).toInt = 0) q) + 1))), (3, .int (nI ((cntP (fun g => (st g).toInt = 2) q) + 1))), (2, .int (nI ((cntP (fun g => (st g).toInt = 1) q) + 1))), (0, .ref k0), (1, .int 5)]) hx hb dX11_count_105 hl (k := 4) rfl (nI_add q 1) (Nat.le_of_ble_eq_true rfl) rfl (fun ls hl => ?_)
                refine lv_goto (tgt := 13) hx hb dX11_count_108 rfl ?_
                have hl9 := lv_sub hl [0, 1, 2, 3, 4, 5, 6] rfl
                have e9_2 : nI (cntP (fun g => (st g).toInt = 1) (q + 1)) = (nI ((cntP (fun g => (st g).toInt = 1) q) + 1) : Int32) := by first | exact congrArg nI (cntP_y (P := fun g => (st g).toInt = 1) (show (st q).toInt = 1 by omega)) | exact congrArg nI (cntP_n0 (P := fun g => (st g).toInt = 1) (show ¬ (st q).toInt = 1 by omega))
                have e9_3 : nI (cntP (fun g => (st g).toInt = 2) (q + 1)) = (nI ((cntP (fun g => (st g).toInt = 2) q) + 1) : Int32) := by first | exact congrArg nI (cntP_y (P := fun g => (st g).toInt = 2) (show (st q).toInt = 2 by omega)) | exact congrArg nI (cntP_n0 (P := fun g => (st g).toInt = 2) (show ¬ (st q).toInt = 2 by omega))
                have e9_4 : nI (cntP (fun g => ¬ (tn g).toInt = 0) (q + 1)) = (nI ((cntP (fun g => ¬ (tn g).toInt = 0) q) + 1) : Int32) := by first | exact congrArg nI (cntP_y (P := fun g => ¬ (tn g).toInt = 0) (show ¬ (tn q).toInt = 0 by omega)) | exact congrArg nI (cntP_n0 (P := fun g => ¬ (tn g).toInt = 0) (show ¬ ¬ (tn q).toInt = 0 by omega))
                have e9_5 : nI (smP (lvF ft st tn) (fun g => nN (mn g)) (q + 1)) = (nI ((smP (lvF ft st tn) (fun g => nN (mn g)) q) + (nN (mn q))) : Int32) := by first | exact congrArg nI (smP_y (P := lvF ft st tn) (by first | with_reducible assumption | assumption)) | exact congrArg nI (smP_n (P := lvF ft st tn) (by first | with_reducible assumption | assumption))
                have hl9 : lv_has ls 7 [(6, .int (nI (q + 1))), (5, .int (nI (smP (lvF ft st tn) (fun g => nN (mn g)) (q + 1)))), (4, .int (nI (cntP (fun g => ¬ (tn g).toInt = 0) (q + 1)))), (3, .int (nI (cntP (fun g => (st g).toInt = 2) (q + 1)))), (2, .int (nI (cntP (fun g => (st g).toInt = 1) (q + 1)))), (0, .ref k0), (1, .int 5)] := by rw [e9_2]; rw [e9_3]; rw [e9_4]; rw [e9_5]; exact hl9
                exact ih_13 (q + 1) H locs ls (by first | with_reducible assumption | omega) (by first | with_reducible assumption | omega) hP hD hS hl9
  have e9_2 : nI (cntP (fun g => (st g).toInt = 1) 0) = (0 : Int32) := by rfl
  have e9_3 : nI (cntP (fun g => (st g).toInt = 2) 0) = (0 : Int32) := by rfl
  have e9_4 : nI (cntP (fun g => ¬ (tn g).toInt = 0) 0) = (0 : Int32) := by rfl
  have e9_5 : nI (smP (lvF ft st tn) (fun g => nN (mn g)) 0) = (0 : Int32) := by rfl
  have hl9 : lv_has ls 7 [(6, .int (nI 0)), (5, .int (nI (smP (lvF ft st tn) (fun g => nN (mn g)) 0))), (4, .int (nI (cntP (fun g => ¬ (tn g).toInt = 0) 0))), (3, .int (nI (cntP (fun g => (st g).toInt = 2) 0))), (2, .int (nI (cntP (fun g => (st g).toInt = 1) 0))), (0, .ref k0), (1, .int 5)] := by rw [e9_2]; rw [e9_3]; rw [e9_4]; rw [e9_5]; exact lv_sub hl [0, 1, 2, 3, 4, 5, 6] rfl
  exact hl_13 _ 0 s.heap [] ls (Nat.lt_succ_self _) (by first | with_reducible assumption | omega) hP hD hS hl9
set_option maxHeartbeats 4000000 in
set_option maxRecDepth 100000 in
theorem k_M_count_6 (l : Launch) (dC : Nat → ClassId) (dI : Nat → Nat → Nat) (cI cZ cF : ClassId) (sz : Nat) (k0 : Nat) (a : Nat → Nat) (I0 : Nat → Int32) (J0 : Nat → Int64) (ft : Nat) (st : Nat → Int32) (tn : Nat → Int32) (mn : Nat → Int32) (hft : I0 0 = nI ft) (h200 : ft ≤ 200) (hmw : ∀ q, lvF ft st tn q → mn q = nI (nN (mn q)) ∧ nN (mn q) ≤ 40) : zM l yX11_count cX11_count 7 (some .int) ({ frames := 2, cells := 0, slots := 0, locals := 42 } : Room) [.ref k0, .int 6] (dC, dI) (zTy cI cZ cF) [(om k0 a I0 J0), (oa (a 5) cI 201 st), (oa (a 6) cZ 201 tn), (oa (a 11) cI 201 mn)] sz (some (.int (I0 20))) (fun A t => zPD (dC, dI) classes A [(om k0 a I0 J0), (oa (a 5) cI 201 st), (oa (a 6) cZ 201 tn), (oa (a 11) cI 201 mn)] t.heap) 0 0 := by
  refine zIn (own := "ScaleShopModel") (loc := [(0, .ref k0), (1, .int 6)]) rfl rfl rfl rfl (fun p e s m below meth c hx hb hr hts hown hlocks hml hnm9 A hA hS hP hD hK hXN Q9 hQ9 ls hl => ?_)
  refine lv_iconst (v := 0) hx hb dX11_count_0 rfl ?_
  refine lv_istore_n (lv' := [(2, .int 0), (0, .ref k0), (1, .int 6)]) hx hb dX11_count_1 rfl hl (Nat.le_of_ble_eq_true rfl) rfl (fun ls hl => ?_)
  refine lv_iconst (v := 0) hx hb dX11_count_2 rfl ?_
  refine lv_istore_n (lv' := [(3, .int 0), (2, .int 0), (0, .ref k0), (1, .int 6)]) hx hb dX11_count_3 rfl hl (Nat.le_of_ble_eq_true rfl) rfl (fun ls hl => ?_)
  refine lv_iconst (v := 0) hx hb dX11_count_4 rfl ?_
  refine lv_istore (lv' := [(4, .int 0), (3, .int 0), (2, .int 0), (0, .ref k0), (1, .int 6)]) hx hb dX11_count_5 hl (Nat.le_of_ble_eq_true rfl) rfl (fun ls hl => ?_)
  refine lv_iconst (v := 0) hx hb dX11_count_7 rfl ?_
  refine lv_istore (lv' := [(5, .int 0), (4, .int 0), (3, .int 0), (2, .int 0), (0, .ref k0), (1, .int 6)]) hx hb dX11_count_8 hl (Nat.le_of_ble_eq_true rfl) rfl (fun ls hl => ?_)
  refine lv_iconst (v := 0) hx hb dX11_count_10 rfl ?_
  refine lv_istore (lv' := [(6, .int 0), (5, .int 0), (4, .int 0), (3, .int 0), (2, .int 0), (0, .ref k0), (1, .int 6)]) hx hb dX11_count_11 hl (Nat.le_of_ble_eq_true rfl) rfl (fun ls hl => ?_)
  have hl_13 : ∀ (n9 : Nat) (q : Nat) (H : Heap) (locs : List Loc) (ls : Array Slot), ft - q < n9 → (q ≤ ft) → va_P (dC, dI) classes [(om k0 a I0 J0), (oa (a 5) cI 201 st), (oa (a 6) cZ 201 tn), (oa (a 11) cI 201 mn)] H → va_D A [(om k0 a I0 J0), (oa (a 5) cI 201 st), (oa (a 6) cZ 201 tn), (oa (a 11) cI 201 mn)] → va_S A s.heap H locs → lv_has ls 7 [(6, .int (nI q)), (5, .int (nI (smP (lvF ft st tn) (fun g => nN (mn g)) q))), (4, .int (nI (cntP (fun g => ¬ (tn g).toInt = 0) q))), (3, .int (nI (cntP (fun g => (st g).toInt = 2) q))), (2, .int (nI (cntP (fun g => (st g).toInt = 1) q))), (0, .ref k0), (1, .int 6)] → W p l e ({ frames := 2, cells := 0, slots := 0, locals := 42 } : Room) s m ([.ref k0, .int 6] : List Value).toArray below meth c H locs 0 0 Q9 (F0 m 13 ls []) := by
    intro n9
    induction n9 with
    | zero => intro q H locs ls hm; exact absurd hm (Nat.not_lt_zero _)
    | succ n9 ih_13 =>
      intro q H locs ls hm hq hP hD hS hl
      have hc2 := cntP_b (fun g => (st g).toInt = 1) q
      have hc3 := cntP_b (fun g => (st g).toInt = 2) q
      have hc4 := cntP_b (fun g => ¬ (tn g).toInt = 0) q
      have hc5 := smP_b (P := lvF ft st tn) (c := fun g => nN (mn g)) q (fun j _ h => (hmw j h).2)
      refine lv_iload hx hb dX11_count_13 (lv_at hl 0 rfl) ?_
      refine lv_aload_n hx hb dX11_count_15 rfl (lv_at hl 5 rfl) ?_
      refine va_get (D := (dC, dI)) (ci := 9) (v := .int (I0 0)) (C := RX11) (T := TX11) (N := 55) hx hb hts inX11 hown hK hP 0 rfl rfl 0 (Nat.le_of_ble_eq_true rfl) (hts _ mw_1159) (fun _ h9 => h9) rfl dX11_count_16 ?_
      refine zz_i (v := nI ft) (hft) ?_
      have b9_2 : zlt (q) := show q < 2147483648 by omega
      have b9_3 : zlt (ft) := show ft < 2147483648 by omega
      refine lv_icmp_ge (tgt := 111) hx hb dX11_count_19 rfl (fun c_1 => ?_) (fun c_1 => ?_)
      · have c_1 : ((ft : Nat) : Int) ≤ ((q : Nat) : Int) := zc_le (nI_toInt b9_3) (nI_toInt b9_2) c_1
        refine lv_iload_n hx hb dX11_count_111 rfl (lv_at hl 6 rfl) ?_
        refine lv_tableIn (tgt := 180) (off := 68) hx hb dX11_count_112 (by decide) (by decide) (by decide) (by decide) ?_
        refine lv_aload_n hx hb dX11_count_180 rfl (lv_at hl 5 rfl) ?_
        refine va_get (D := (dC, dI)) (ci := 9) (v := .int (I0 20)) (C := RX11) (T := TX11) (N := 55) hx hb hts inX11 hown hK hP 0 rfl rfl 20 (Nat.le_of_ble_eq_true rfl) (hts _ mw_1179) (fun _ h9 => h9) rfl dX11_count_181 ?_
        obtain ⟨hP9, hD9⟩ := zu_sub (wc := [_, _, _, _]) hP hD [true, true, true, true] rfl rfl
        rw [hQ9]
        exact W.iret (v := I0 20) hx hb hr (fun t ht hW => ⟨⟨rfl, by rw [ht]; exact hP9, hD9⟩, hS.F ht⟩) hS.2.2 dX11_count_184
      · have c_1 : ((q : Nat) : Int) < ((ft : Nat) : Int) := zc_nle (nI_toInt b9_3) (nI_toInt b9_2) c_1
        refine lv_iload_n hx hb dX11_count_22 rfl (lv_at hl 4 rfl) ?_
        refine lv_aload_n hx hb dX11_count_23 rfl (lv_at hl 5 rfl) ?_
        refine va_get (D := (dC, dI)) (ci := 9) (v := .ref (a 5)) (C := RX11) (T := TX11) (N := 55) hx hb hts inX11 hown hK hP 0 rfl rfl 5 (Nat.le_of_ble_eq_true rfl) (hts _ mw_1164) (fun _ h9 => h9) rfl dX11_count_24 ?_
        refine lv_iload hx hb dX11_count_27 (lv_at hl 0 rfl) ?_
        have b9_4 : q < 201 := by omega
        refine z_iald hx hb hK hP 1 0 rfl rfl (e := q) rfl b9_4 (Nat.le_of_ble_eq_true rfl) dX11_count_29 ?_
        refine lv_iconst (v := 1) hx hb dX11_count_30 rfl ?_
        refine lv_icmp_ne (tgt := 38) hx hb dX11_count_31 rfl (fun c_5 => ?_) (fun c_5 => ?_)
        · have c_5 : ¬ (st q).toInt = 1 := zc_ne rfl rfl c_5
          refine lv_iconst (v := 0) hx hb dX11_count_38 rfl ?_
          refine lv_iadd hx hb dX11_count_39 ?_
          refine zz_i (v := nI ((cntP (fun g => (st g).toInt = 1) q) + 0)) (nI_add (cntP (fun g => (st g).toInt = 1) q) 0) ?_
          refine lv_istore_n (lv' := [(2, .int (nI ((cntP (fun g => (st g).toInt = 1) q) + 0))), (6, .int (nI q)), (5, .int (nI (smP (lvF ft st tn) (fun g => nN (mn g)) q))), (4, .int (nI (cntP (fun g => ¬ (tn g).toInt = 0) q))), (3, .int (nI (cntP (fun g => (st g).toInt = 2) q))), (0, .ref k0), (1, .int 6)]) hx hb dX11_count_40 rfl hl (Nat.le_of_ble_eq_true rfl) rfl (fun ls hl => ?_)
          refine lv_iload_n hx hb dX11_count_41 rfl (lv_at hl 4 rfl) ?_
          refine lv_aload_n hx hb dX11_count_42 rfl (lv_at hl 5 rfl) ?_
          refine va_get (D := (dC, dI)) (ci := 9) (v := .ref (a 5)) (C := RX11) (T := TX11) (N := 55) hx hb hts inX11 hown hK hP 0 rfl rfl 5 (Nat.le_of_ble_eq_true rfl) (hts _ mw_1164) (fun _ h9 => h9) rfl dX11_count_43 ?_
          refine lv_iload hx hb dX11_count_46 (lv_at hl 1 rfl) ?_
          refine z_iald hx hb hK hP 1 0 rfl rfl (e := q) rfl b9_4 (Nat.le_of_ble_eq_true rfl) dX11_count_48 ?_
          refine lv_iconst (v := 2) hx hb dX11_count_49 rfl ?_
          refine lv_icmp_ne (tgt := 57) hx hb dX11_count_50 rfl (fun c_6 => ?_) (fun c_6 => ?_)
          · have c_6 : ¬ (st q).toInt = 2 := zc_ne rfl rfl c_6
            refine lv_iconst (v := 0) hx hb dX11_count_57 rfl ?_
            refine lv_iadd hx hb dX11_count_58 ?_
            refine zz_i (v := nI ((cntP (fun g => (st g).toInt = 2) q) + 0)) (nI_add (cntP (fun g => (st g).toInt = 2) q) 0) ?_
            refine lv_istore_n (lv' := [(3, .int (nI ((cntP (fun g => (st g).toInt = 2) q) + 0))), (2, .int (nI ((cntP (fun g => (st g).toInt = 1) q) + 0))), (6, .int (nI q)), (5, .int (nI (smP (lvF ft st tn) (fun g => nN (mn g)) q))), (4, .int (nI (cntP (fun g => ¬ (tn g).toInt = 0) q))), (0, .ref k0), (1, .int 6)]) hx hb dX11_count_59 rfl hl (Nat.le_of_ble_eq_true rfl) rfl (fun ls hl => ?_)
            refine lv_iload hx hb dX11_count_60 (lv_at hl 4 rfl) ?_
            refine lv_aload_n hx hb dX11_count_62 rfl (lv_at hl 5 rfl) ?_
            refine va_get (D := (dC, dI)) (ci := 9) (v := .ref (a 6)) (C := RX11) (T := TX11) (N := 55) hx hb hts inX11 hown hK hP 0 rfl rfl 6 (Nat.le_of_ble_eq_true rfl) (hts _ mw_1165) (fun _ h9 => h9) rfl dX11_count_63 ?_
            refine lv_iload hx hb dX11_count_66 (lv_at hl 2 rfl) ?_
            refine z_zald hx hb hK hP 2 1 rfl rfl (e := q) rfl b9_4 (Nat.le_of_ble_eq_true rfl) dX11_count_68 ?_
            refine lv_if_eq (tgt := 76) hx hb dX11_count_69 rfl (fun c_7 => ?_) (fun c_7 => ?_)
            · have c_7 : (tn q).toInt = 0 := zc_eq rfl rfl c_7
              refine lv_iconst (v := 0) hx hb dX11_count_76 rfl ?_
              refine lv_iadd hx hb dX11_count_77 ?_
              refine zz_i (v := nI ((cntP (fun g => ¬ (tn g).toInt = 0) q) + 0)) (nI_add (cntP (fun g => ¬ (tn g).toInt = 0) q) 0) ?_
              refine lv_istore (lv' := [(4, .int (nI ((cntP (fun g => ¬ (tn g).toInt = 0) q) + 0))), (3, .int (nI ((cntP (fun g => (st g).toInt = 2) q) + 0))), (2, .int (nI ((cntP (fun g => (st g).toInt = 1) q) + 0))), (6, .int (nI q)), (5, .int (nI (smP (lvF ft st tn) (fun g => nN (mn g)) q))), (0, .ref k0), (1, .int 6)]) hx hb dX11_count_78 hl (Nat.le_of_ble_eq_true rfl) rfl (fun ls hl => ?_)
              refine lv_iload hx hb dX11_count_80 (lv_at hl 4 rfl) ?_
              refine lv_aload_n hx hb dX11_count_82 rfl (lv_at hl 5 rfl) ?_
              refine lv_iload hx hb dX11_count_83 (lv_at hl 3 rfl) ?_
              obtain ⟨hPc, hDc, hFc, hI1⟩ := zi_sub (wc := [_, _, _]) hP hD hS hA [0, 1, 2] rfl rfl
              refine zcall (st1 := [.int (pI (q < ft ∧ (st q).toInt = 1 ∧ (tn q).toInt = 0)), .int (nI (smP (lvF ft st tn) (fun g => nN (mn g)) q))]) (va_runV (As := [.int (nI q)]) (rest := [.int (nI (smP (lvF ft st tn) (fun g => nN (mn g)) q))]) ⟨hx, hb, hml, hown, hts⟩ (k_M_is_n l dC dI cI cZ cF H.size k0 a I0 J0 q ft st tn (by first | with_reducible assumption | assumption) (by first | with_reducible assumption | omega) (by first | with_reducible assumption | omega)) (csV_179 hts rfl rfl ⟨Nat.le_of_ble_eq_true rfl, Nat.le_of_ble_eq_true rfl⟩) (zPV2 (q0 := 0) (ci := 9) hPc hDc hK hXN rfl rfl) rfl rfl hl.1 rfl (lv_room (Nat.le_of_ble_eq_true rfl)) dX11_count_85 ⟨Nat.le_of_ble_eq_true rfl, Nat.le_of_ble_eq_true rfl⟩) hS hFc hFc rfl (fun t H locs ht hB hk1 hS => ?_)
              obtain ⟨hP1, hD1⟩ := hB
              rw [ht] at hP1
              replace hP := z0 hP hD hk1 hP1 hI1
              clear hk1 hPc hDc hFc hP1 hD1 ht hI1
              refine lv_if_eq (tgt := 101) hx hb dX11_count_88 rfl (fun c_8 => ?_) (fun c_8 => ?_)
              · have c_8 : ¬ (q < ft ∧ (st q).toInt = 1 ∧ (tn q).toInt = 0) := zp_0 c_8
                refine lv_iconst (v := 0) hx hb dX11_count_101 rfl ?_
                refine lv_iadd hx hb dX11_count_102 ?_
                refine zz_i (v := nI ((smP (lvF ft st tn) (fun g => nN (mn g)) q) + 0)) (nI_add (smP (lvF ft st tn) (fun g => nN (mn g)) q) 0) ?_
                refine lv_istore (lv' := [(5, .int (nI ((smP (lvF ft st tn) (fun g => nN (mn g)) q) + 0))), (4, .int (nI ((cntP (fun g => ¬ (tn g).toInt = 0) q) + 0))), (3, .int (nI ((cntP (fun g => (st g).toInt = 2) q) + 0))), (2, .int (nI ((cntP (fun g => (st g).toInt = 1) q) + 0))), (6, .int (nI q)), (0, .ref k0), (1, .int 6)]) hx hb dX11_count_103 hl (Nat.le_of_ble_eq_true rfl) rfl (fun ls hl => ?_)
                refine lv_iinc (v := nI (q + 1)) (lv' := [(6, .int (nI (q + 1))), (5, .int (nI ((smP (lvF ft st tn) (fun g => nN (mn g)) q) + 0))), (4, .int (nI ((cntP (fun g => ¬ (tn g).toInt = 0) q) + 0))), (3, .int (nI ((cntP (fun g => (st g).toInt = 2) q) + 0))), (2, .int (nI ((cntP (fun g => (st g).toInt = 1) q) + 0))), (0, .ref k0), (1, .int 6)]) hx hb dX11_count_105 hl (k := 4) rfl (nI_add q 1) (Nat.le_of_ble_eq_true rfl) rfl (fun ls hl => ?_)
                refine lv_goto (tgt := 13) hx hb dX11_count_108 rfl ?_
                have hl9 := lv_sub hl [0, 1, 2, 3, 4, 5, 6] rfl
                have e9_2 : nI (cntP (fun g => (st g).toInt = 1) (q + 1)) = (nI ((cntP (fun g => (st g).toInt = 1) q) + 0) : Int32) := by first | exact congrArg nI (cntP_y (P := fun g => (st g).toInt = 1) (show (st q).toInt = 1 by omega)) | exact congrArg nI (cntP_n0 (P := fun g => (st g).toInt = 1) (show ¬ (st q).toInt = 1 by omega))
                have e9_3 : nI (cntP (fun g => (st g).toInt = 2) (q + 1)) = (nI ((cntP (fun g => (st g).toInt = 2) q) + 0) : Int32) := by first | exact congrArg nI (cntP_y (P := fun g => (st g).toInt = 2) (show (st q).toInt = 2 by omega)) | exact congrArg nI (cntP_n0 (P := fun g => (st g).toInt = 2) (show ¬ (st q).toInt = 2 by omega))
                have e9_4 : nI (cntP (fun g => ¬ (tn g).toInt = 0) (q + 1)) = (nI ((cntP (fun g => ¬ (tn g).toInt = 0) q) + 0) : Int32) := by first | exact congrArg nI (cntP_y (P := fun g => ¬ (tn g).toInt = 0) (show ¬ (tn q).toInt = 0 by omega)) | exact congrArg nI (cntP_n0 (P := fun g => ¬ (tn g).toInt = 0) (show ¬ ¬ (tn q).toInt = 0 by omega))
                have e9_5 : nI (smP (lvF ft st tn) (fun g => nN (mn g)) (q + 1)) = (nI ((smP (lvF ft st tn) (fun g => nN (mn g)) q) + 0) : Int32) := by first | exact congrArg nI (smP_y (P := lvF ft st tn) (by first | with_reducible assumption | assumption)) | exact congrArg nI (smP_n (P := lvF ft st tn) (by first | with_reducible assumption | assumption))
                have hl9 : lv_has ls 7 [(6, .int (nI (q + 1))), (5, .int (nI (smP (lvF ft st tn) (fun g => nN (mn g)) (q + 1)))), (4, .int (nI (cntP (fun g => ¬ (tn g).toInt = 0) (q + 1)))), (3, .int (nI (cntP (fun g => (st g).toInt = 2) (q + 1)))), (2, .int (nI (cntP (fun g => (st g).toInt = 1) (q + 1)))), (0, .ref k0), (1, .int 6)] := by rw [e9_2]; rw [e9_3]; rw [e9_4]; rw [e9_5]; exact hl9
                exact ih_13 (q + 1) H locs ls (by first | with_reducible assumption | omega) (by first | with_reducible assumption | omega) hP hD hS hl9
              · have c_8 : q < ft ∧ (st q).toInt = 1 ∧ (tn q).toInt = 0 := zp_1 c_8
                refine lv_aload_n hx hb dX11_count_91 rfl (lv_at hl 5 rfl) ?_
                refine va_get (D := (dC, dI)) (ci := 9) (v := .ref (a 11)) (C := RX11) (T := TX11) (N := 55) hx hb hts inX11 hown hK hP 0 rfl rfl 11 (Nat.le_of_ble_eq_true rfl) (hts _ mw_1170) (fun _ h9 => h9) rfl dX11_count_92 ?_
                refine lv_iload hx hb dX11_count_95 (lv_at hl 3 rfl) ?_
                refine z_iald hx hb hK hP 3 0 rfl rfl (e := q) rfl b9_4 (Nat.le_of_ble_eq_true rfl) dX11_count_97 ?_
                refine zz_i (v := nI (nN (mn q))) ((hmw q (by first | with_reducible assumption | assumption)).1) ?_
                refine lv_goto (tgt := 102) hx hb dX11_count_98 rfl ?_
                refine lv_iadd hx hb dX11_count_102 ?_
                refine zz_i (v := nI ((smP (lvF ft st tn) (fun g => nN (mn g)) q) + (nN (mn q)))) (nI_add (smP (lvF ft st tn) (fun g => nN (mn g)) q) (nN (mn q))) ?_
                refine lv_istore (lv' := [(5, .int (nI ((smP (lvF ft st tn) (fun g => nN (mn g)) q) + (nN (mn q))))), (4, .int (nI ((cntP (fun g => ¬ (tn g).toInt = 0) q) + 0))), (3, .int (nI ((cntP (fun g => (st g).toInt = 2) q) + 0))), (2, .int (nI ((cntP (fun g => (st g).toInt = 1) q) + 0))), (6, .int (nI q)), (0, .ref k0), (1, .int 6)]) hx hb dX11_count_103 hl (Nat.le_of_ble_eq_true rfl) rfl (fun ls hl => ?_)
                refine lv_iinc (v := nI (q + 1)) (lv' := [(6, .int (nI (q + 1))), (5, .int (nI ((smP (lvF ft st tn) (fun g => nN (mn g)) q) + (nN (mn q))))), (4, .int (nI ((cntP (fun g => ¬ (tn g).toInt = 0) q) + 0))), (3, .int (nI ((cntP (fun g => (st g).toInt = 2) q) + 0))), (2, .int (nI ((cntP (fun g => (st g).toInt = 1) q) + 0))), (0, .ref k0), (1, .int 6)]) hx hb dX11_count_105 hl (k := 4) rfl (nI_add q 1) (Nat.le_of_ble_eq_true rfl) rfl (fun ls hl => ?_)
                refine lv_goto (tgt := 13) hx hb dX11_count_108 rfl ?_
                have hl9 := lv_sub hl [0, 1, 2, 3, 4, 5, 6] rfl
                have e9_2 : nI (cntP (fun g => (st g).toInt = 1) (q + 1)) = (nI ((cntP (fun g => (st g).toInt = 1) q) + 0) : Int32) := by first | exact congrArg nI (cntP_y (P := fun g => (st g).toInt = 1) (show (st q).toInt = 1 by omega)) | exact congrArg nI (cntP_n0 (P := fun g => (st g).toInt = 1) (show ¬ (st q).toInt = 1 by omega))
                have e9_3 : nI (cntP (fun g => (st g).toInt = 2) (q + 1)) = (nI ((cntP (fun g => (st g).toInt = 2) q) + 0) : Int32) := by first | exact congrArg nI (cntP_y (P := fun g => (st g).toInt = 2) (show (st q).toInt = 2 by omega)) | exact congrArg nI (cntP_n0 (P := fun g => (st g).toInt = 2) (show ¬ (st q).toInt = 2 by omega))
                have e9_4 : nI (cntP (fun g => ¬ (tn g).toInt = 0) (q + 1)) = (nI ((cntP (fun g => ¬ (tn g).toInt = 0) q) + 0) : Int32) := by first | exact congrArg nI (cntP_y (P := fun g => ¬ (tn g).toInt = 0) (show ¬ (tn q).toInt = 0 by omega)) | exact congrArg nI (cntP_n0 (P := fun g => ¬ (tn g).toInt = 0) (show ¬ ¬ (tn q).toInt = 0 by omega))
                have e9_5 : nI (smP (lvF ft st tn) (fun g => nN (mn g)) (q + 1)) = (nI ((smP (lvF ft st tn) (fun g => nN (mn g)) q) + (nN (mn q))) : Int32) := by first | exact congrArg nI (smP_y (P := lvF ft st tn) (by first | with_reducible assumption | assumption)) | exact congrArg nI (smP_n (P := lvF ft st tn) (by first | with_reducible assumption | assumption))
                have hl9 : lv_has ls 7 [(6, .int (nI (q + 1))), (5, .int (nI (smP (lvF ft st tn) (fun g => nN (mn g)) (q + 1)))), (4, .int (nI (cntP (fun g => ¬ (tn g).toInt = 0) (q + 1)))), (3, .int (nI (cntP (fun g => (st g).toInt = 2) (q + 1)))), (2, .int (nI (cntP (fun g => (st g).toInt = 1) (q + 1)))), (0, .ref k0), (1, .int 6)] := by rw [e9_2]; rw [e9_3]; rw [e9_4]; rw [e9_5]; exact hl9
                exact ih_13 (q + 1) H locs ls (by first | with_reducible assumption | omega) (by first | with_reducible assumption | omega) hP hD hS hl9
            · have c_7 : ¬ (tn q).toInt = 0 := zc_ne rfl rfl c_7
              refine lv_iconst (v := 1) hx hb dX11_count_72 rfl ?_
              refine lv_goto (tgt := 77) hx hb dX11_count_73 rfl ?_
              refine lv_iadd hx hb dX11_count_77 ?_
              refine zz_i (v := nI ((cntP (fun g => ¬ (tn g).toInt = 0) q) + 1)) (nI_add (cntP (fun g => ¬ (tn g).toInt = 0) q) 1) ?_
              refine lv_istore (lv' := [(4, .int (nI ((cntP (fun g => ¬ (tn g).toInt = 0) q) + 1))), (3, .int (nI ((cntP (fun g => (st g).toInt = 2) q) + 0))), (2, .int (nI ((cntP (fun g => (st g).toInt = 1) q) + 0))), (6, .int (nI q)), (5, .int (nI (smP (lvF ft st tn) (fun g => nN (mn g)) q))), (0, .ref k0), (1, .int 6)]) hx hb dX11_count_78 hl (Nat.le_of_ble_eq_true rfl) rfl (fun ls hl => ?_)
              refine lv_iload hx hb dX11_count_80 (lv_at hl 4 rfl) ?_
              refine lv_aload_n hx hb dX11_count_82 rfl (lv_at hl 5 rfl) ?_
              refine lv_iload hx hb dX11_count_83 (lv_at hl 3 rfl) ?_
              obtain ⟨hPc, hDc, hFc, hI1⟩ := zi_sub (wc := [_, _, _]) hP hD hS hA [0, 1, 2] rfl rfl
              refine zcall (st1 := [.int (pI (q < ft ∧ (st q).toInt = 1 ∧ (tn q).toInt = 0)), .int (nI (smP (lvF ft st tn) (fun g => nN (mn g)) q))]) (va_runV (As := [.int (nI q)]) (rest := [.int (nI (smP (lvF ft st tn) (fun g => nN (mn g)) q))]) ⟨hx, hb, hml, hown, hts⟩ (k_M_is_n l dC dI cI cZ cF H.size k0 a I0 J0 q ft st tn (by first | with_reducible assumption | assumption) (by first | with_reducible assumption | omega) (by first | with_reducible assumption | omega)) (csV_179 hts rfl rfl ⟨Nat.le_of_ble_eq_true rfl, Nat.le_of_ble_eq_true rfl⟩) (zPV2 (q0 := 0) (ci := 9) hPc hDc hK hXN rfl rfl) rfl rfl hl.1 rfl (lv_room (Nat.le_of_ble_eq_true rfl)) dX11_count_85 ⟨Nat.le_of_ble_eq_true rfl, Nat.le_of_ble_eq_true rfl⟩) hS hFc hFc rfl (fun t H locs ht hB hk1 hS => ?_)
              obtain ⟨hP1, hD1⟩ := hB
              rw [ht] at hP1
              replace hP := z0 hP hD hk1 hP1 hI1
              clear hk1 hPc hDc hFc hP1 hD1 ht hI1
              refine lv_if_eq (tgt := 101) hx hb dX11_count_88 rfl (fun c_9 => ?_) (fun c_9 => ?_)
              · have c_9 : ¬ (q < ft ∧ (st q).toInt = 1 ∧ (tn q).toInt = 0) := zp_0 c_9
                refine lv_iconst (v := 0) hx hb dX11_count_101 rfl ?_
                refine lv_iadd hx hb dX11_count_102 ?_
                refine zz_i (v := nI ((smP (lvF ft st tn) (fun g => nN (mn g)) q) + 0)) (nI_add (smP (lvF ft st tn) (fun g => nN (mn g)) q) 0) ?_
                refine lv_istore (lv' := [(5, .int (nI ((smP (lvF ft st tn) (fun g => nN (mn g)) q) + 0))), (4, .int (nI ((cntP (fun g => ¬ (tn g).toInt = 0) q) + 1))), (3, .int (nI ((cntP (fun g => (st g).toInt = 2) q) + 0))), (2, .int (nI ((cntP (fun g => (st g).toInt = 1) q) + 0))), (6, .int (nI q)), (0, .ref k0), (1, .int 6)]) hx hb dX11_count_103 hl (Nat.le_of_ble_eq_true rfl) rfl (fun ls hl => ?_)
                refine lv_iinc (v := nI (q + 1)) (lv' := [(6, .int (nI (q + 1))), (5, .int (nI ((smP (lvF ft st tn) (fun g => nN (mn g)) q) + 0))), (4, .int (nI ((cntP (fun g => ¬ (tn g).toInt = 0) q) + 1))), (3, .int (nI ((cntP (fun g => (st g).toInt = 2) q) + 0))), (2, .int (nI ((cntP (fun g => (st g).toInt = 1) q) + 0))), (0, .ref k0), (1, .int 6)]) hx hb dX11_count_105 hl (k := 4) rfl (nI_add q 1) (Nat.le_of_ble_eq_true rfl) rfl (fun ls hl => ?_)
                refine lv_goto (tgt := 13) hx hb dX11_count_108 rfl ?_
                have hl9 := lv_sub hl [0, 1, 2, 3, 4, 5, 6] rfl
                have e9_2 : nI (cntP (fun g => (st g).toInt = 1) (q + 1)) = (nI ((cntP (fun g => (st g).toInt = 1) q) + 0) : Int32) := by first | exact congrArg nI (cntP_y (P := fun g => (st g).toInt = 1) (show (st q).toInt = 1 by omega)) | exact congrArg nI (cntP_n0 (P := fun g => (st g).toInt = 1) (show ¬ (st q).toInt = 1 by omega))
                have e9_3 : nI (cntP (fun g => (st g).toInt = 2) (q + 1)) = (nI ((cntP (fun g => (st g).toInt = 2) q) + 0) : Int32) := by first | exact congrArg nI (cntP_y (P := fun g => (st g).toInt = 2) (show (st q).toInt = 2 by omega)) | exact congrArg nI (cntP_n0 (P := fun g => (st g).toInt = 2) (show ¬ (st q).toInt = 2 by omega))
                have e9_4 : nI (cntP (fun g => ¬ (tn g).toInt = 0) (q + 1)) = (nI ((cntP (fun g => ¬ (tn g).toInt = 0) q) + 1) : Int32) := by first | exact congrArg nI (cntP_y (P := fun g => ¬ (tn g).toInt = 0) (show ¬ (tn q).toInt = 0 by omega)) | exact congrArg nI (cntP_n0 (P := fun g => ¬ (tn g).toInt = 0) (show ¬ ¬ (tn q).toInt = 0 by omega))
                have e9_5 : nI (smP (lvF ft st tn) (fun g => nN (mn g)) (q + 1)) = (nI ((smP (lvF ft st tn) (fun g => nN (mn g)) q) + 0) : Int32) := by first | exact congrArg nI (smP_y (P := lvF ft st tn) (by first | with_reducible assumption | assumption)) | exact congrArg nI (smP_n (P := lvF ft st tn) (by first | with_reducible assumption | assumption))
                have hl9 : lv_has ls 7 [(6, .int (nI (q + 1))), (5, .int (nI (smP (lvF ft st tn) (fun g => nN (mn g)) (q + 1)))), (4, .int (nI (cntP (fun g => ¬ (tn g).toInt = 0) (q + 1)))), (3, .int (nI (cntP (fun g => (st g).toInt = 2) (q + 1)))), (2, .int (nI (cntP (fun g => (st g).toInt = 1) (q + 1)))), (0, .ref k0), (1, .int 6)] := by rw [e9_2]; rw [e9_3]; rw [e9_4]; rw [e9_5]; exact hl9
                exact ih_13 (q + 1) H locs ls (by first | with_reducible assumption | omega) (by first | with_reducible assumption | omega) hP hD hS hl9
              · have c_9 : q < ft ∧ (st q).toInt = 1 ∧ (tn q).toInt = 0 := zp_1 c_9
                refine lv_aload_n hx hb dX11_count_91 rfl (lv_at hl 5 rfl) ?_
                refine va_get (D := (dC, dI)) (ci := 9) (v := .ref (a 11)) (C := RX11) (T := TX11) (N := 55) hx hb hts inX11 hown hK hP 0 rfl rfl 11 (Nat.le_of_ble_eq_true rfl) (hts _ mw_1170) (fun _ h9 => h9) rfl dX11_count_92 ?_
                refine lv_iload hx hb dX11_count_95 (lv_at hl 3 rfl) ?_
                refine z_iald hx hb hK hP 3 0 rfl rfl (e := q) rfl b9_4 (Nat.le_of_ble_eq_true rfl) dX11_count_97 ?_
                refine zz_i (v := nI (nN (mn q))) ((hmw q (by first | with_reducible assumption | assumption)).1) ?_
                refine lv_goto (tgt := 102) hx hb dX11_count_98 rfl ?_
                refine lv_iadd hx hb dX11_count_102 ?_
                refine zz_i (v := nI ((smP (lvF ft st tn) (fun g => nN (mn g)) q) + (nN (mn q)))) (nI_add (smP (lvF ft st tn) (fun g => nN (mn g)) q) (nN (mn q))) ?_
                refine lv_istore (lv' := [(5, .int (nI ((smP (lvF ft st tn) (fun g => nN (mn g)) q) + (nN (mn q))))), (4, .int (nI ((cntP (fun g => ¬ (tn g).toInt = 0) q) + 1))), (3, .int (nI ((cntP (fun g => (st g).toInt = 2) q) + 0))), (2, .int (nI ((cntP (fun g => (st g).toInt = 1) q) + 0))), (6, .int (nI q)), (0, .ref k0), (1, .int 6)]) hx hb dX11_count_103 hl (Nat.le_of_ble_eq_true rfl) rfl (fun ls hl => ?_)
                refine lv_iinc (v := nI (q + 1)) (lv' := [(6, .int (nI (q + 1))), (5, .int (nI ((smP (lvF ft st tn) (fun g => nN (mn g)) q) + (nN (mn q))))), (4, .int (nI ((cntP (fun g => ¬ (tn g).toInt = 0) q) + 1))), (3, .int (nI ((cntP (fun g => (st g).toInt = 2) q) + 0))), (2, .int (nI ((cntP (fun g => (st g).toInt = 1) q) + 0))), (0, .ref k0), (1, .int 6)]) hx hb dX11_count_105 hl (k := 4) rfl (nI_add q 1) (Nat.le_of_ble_eq_true rfl) rfl (fun ls hl => ?_)
                refine lv_goto (tgt := 13) hx hb dX11_count_108 rfl ?_
                have hl9 := lv_sub hl [0, 1, 2, 3, 4, 5, 6] rfl
                have e9_2 : nI (cntP (fun g => (st g).toInt = 1) (q + 1)) = (nI ((cntP (fun g => (st g).toInt = 1) q) + 0) : Int32) := by first | exact congrArg nI (cntP_y (P := fun g => (st g).toInt = 1) (show (st q).toInt = 1 by omega)) | exact congrArg nI (cntP_n0 (P := fun g => (st g).toInt = 1) (show ¬ (st q).toInt = 1 by omega))
                have e9_3 : nI (cntP (fun g => (st g).toInt = 2) (q + 1)) = (nI ((cntP (fun g => (st g).toInt = 2) q) + 0) : Int32) := by first | exact congrArg nI (cntP_y (P := fun g => (st g).toInt = 2) (show (st q).toInt = 2 by omega)) | exact congrArg nI (cntP_n0 (P := fun g => (st g).toInt = 2) (show ¬ (st q).toInt = 2 by omega))
                have e9_4 : nI (cntP (fun g => ¬ (tn g).toInt = 0) (q + 1)) = (nI ((cntP (fun g => ¬ (tn g).toInt = 0) q) + 1) : Int32) := by first | exact congrArg nI (cntP_y (P := fun g => ¬ (tn g).toInt = 0) (show ¬ (tn q).toInt = 0 by omega)) | exact congrArg nI (cntP_n0 (P := fun g => ¬ (tn g).toInt = 0) (show ¬ ¬ (tn q).toInt = 0 by omega))
                have e9_5 : nI (smP (lvF ft st tn) (fun g => nN (mn g)) (q + 1)) = (nI ((smP (lvF ft st tn) (fun g => nN (mn g)) q) + (nN (mn q))) : Int32) := by first | exact congrArg nI (smP_y (P := lvF ft st tn) (by first | with_reducible assumption | assumption)) | exact congrArg nI (smP_n (P := lvF ft st tn) (by first | with_reducible assumption | assumption))
                have hl9 : lv_has ls 7 [(6, .int (nI (q + 1))), (5, .int (nI (smP (lvF ft st tn) (fun g => nN (mn g)) (q + 1)))), (4, .int (nI (cntP (fun g => ¬ (tn g).toInt = 0) (q + 1)))), (3, .int (nI (cntP (fun g => (st g).toInt = 2) (q + 1)))), (2, .int (nI (cntP (fun g => (st g).toInt = 1) (q + 1)))), (0, .ref k0), (1, .int 6)] := by rw [e9_2]; rw [e9_3]; rw [e9_4]; rw [e9_5]; exact hl9
                exact ih_13 (q + 1) H locs ls (by first | with_reducible assumption | omega) (by first | with_reducible assumption | omega) hP hD hS hl9
          · have c_6 : (st q).toInt = 2 := zc_eq rfl rfl c_6
            refine lv_iconst (v := 1) hx hb dX11_count_53 rfl ?_
            refine lv_goto (tgt := 58) hx hb dX11_count_54 rfl ?_
            refine lv_iadd hx hb dX11_count_58 ?_
            refine zz_i (v := nI ((cntP (fun g => (st g).toInt = 2) q) + 1)) (nI_add (cntP (fun g => (st g).toInt = 2) q) 1) ?_
            refine lv_istore_n (lv' := [(3, .int (nI ((cntP (fun g => (st g).toInt = 2) q) + 1))), (2, .int (nI ((cntP (fun g => (st g).toInt = 1) q) + 0))), (6, .int (nI q)), (5, .int (nI (smP (lvF ft st tn) (fun g => nN (mn g)) q))), (4, .int (nI (cntP (fun g => ¬ (tn g).toInt = 0) q))), (0, .ref k0), (1, .int 6)]) hx hb dX11_count_59 rfl hl (Nat.le_of_ble_eq_true rfl) rfl (fun ls hl => ?_)
            refine lv_iload hx hb dX11_count_60 (lv_at hl 4 rfl) ?_
            refine lv_aload_n hx hb dX11_count_62 rfl (lv_at hl 5 rfl) ?_
            refine va_get (D := (dC, dI)) (ci := 9) (v := .ref (a 6)) (C := RX11) (T := TX11) (N := 55) hx hb hts inX11 hown hK hP 0 rfl rfl 6 (Nat.le_of_ble_eq_true rfl) (hts _ mw_1165) (fun _ h9 => h9) rfl dX11_count_63 ?_
            refine lv_iload hx hb dX11_count_66 (lv_at hl 2 rfl) ?_
            refine z_zald hx hb hK hP 2 1 rfl rfl (e := q) rfl b9_4 (Nat.le_of_ble_eq_true rfl) dX11_count_68 ?_
            refine lv_if_eq (tgt := 76) hx hb dX11_count_69 rfl (fun c_10 => ?_) (fun c_10 => ?_)
            · have c_10 : (tn q).toInt = 0 := zc_eq rfl rfl c_10
              refine lv_iconst (v := 0) hx hb dX11_count_76 rfl ?_
              refine lv_iadd hx hb dX11_count_77 ?_
              refine zz_i (v := nI ((cntP (fun g => ¬ (tn g).toInt = 0) q) + 0)) (nI_add (cntP (fun g => ¬ (tn g).toInt = 0) q) 0) ?_
              refine lv_istore (lv' := [(4, .int (nI ((cntP (fun g => ¬ (tn g).toInt = 0) q) + 0))), (3, .int (nI ((cntP (fun g => (st g).toInt = 2) q) + 1))), (2, .int (nI ((cntP (fun g => (st g).toInt = 1) q) + 0))), (6, .int (nI q)), (5, .int (nI (smP (lvF ft st tn) (fun g => nN (mn g)) q))), (0, .ref k0), (1, .int 6)]) hx hb dX11_count_78 hl (Nat.le_of_ble_eq_true rfl) rfl (fun ls hl => ?_)
              refine lv_iload hx hb dX11_count_80 (lv_at hl 4 rfl) ?_
              refine lv_aload_n hx hb dX11_count_82 rfl (lv_at hl 5 rfl) ?_
              refine lv_iload hx hb dX11_count_83 (lv_at hl 3 rfl) ?_
              obtain ⟨hPc, hDc, hFc, hI1⟩ := zi_sub (wc := [_, _, _]) hP hD hS hA [0, 1, 2] rfl rfl
              refine zcall (st1 := [.int (pI (q < ft ∧ (st q).toInt = 1 ∧ (tn q).toInt = 0)), .int (nI (smP (lvF ft st tn) (fun g => nN (mn g)) q))]) (va_runV (As := [.int (nI q)]) (rest := [.int (nI (smP (lvF ft st tn) (fun g => nN (mn g)) q))]) ⟨hx, hb, hml, hown, hts⟩ (k_M_is_n l dC dI cI cZ cF H.size k0 a I0 J0 q ft st tn (by first | with_reducible assumption | assumption) (by first | with_reducible assumption | omega) (by first | with_reducible assumption | omega)) (csV_179 hts rfl rfl ⟨Nat.le_of_ble_eq_true rfl, Nat.le_of_ble_eq_true rfl⟩) (zPV2 (q0 := 0) (ci := 9) hPc hDc hK hXN rfl rfl) rfl rfl hl.1 rfl (lv_room (Nat.le_of_ble_eq_true rfl)) dX11_count_85 ⟨Nat.le_of_ble_eq_true rfl, Nat.le_of_ble_eq_true rfl⟩) hS hFc hFc rfl (fun t H locs ht hB hk1 hS => ?_)
              obtain ⟨hP1, hD1⟩ := hB
              rw [ht] at hP1
              replace hP := z0 hP hD hk1 hP1 hI1
              clear hk1 hPc hDc hFc hP1 hD1 ht hI1
              refine lv_if_eq (tgt := 101) hx hb dX11_count_88 rfl (fun c_11 => ?_) (fun c_11 => ?_)
              · have c_11 : ¬ (q < ft ∧ (st q).toInt = 1 ∧ (tn q).toInt = 0) := zp_0 c_11
                refine lv_iconst (v := 0) hx hb dX11_count_101 rfl ?_
                refine lv_iadd hx hb dX11_count_102 ?_
                refine zz_i (v := nI ((smP (lvF ft st tn) (fun g => nN (mn g)) q) + 0)) (nI_add (smP (lvF ft st tn) (fun g => nN (mn g)) q) 0) ?_
                refine lv_istore (lv' := [(5, .int (nI ((smP (lvF ft st tn) (fun g => nN (mn g)) q) + 0))), (4, .int (nI ((cntP (fun g => ¬ (tn g).toInt = 0) q) + 0))), (3, .int (nI ((cntP (fun g => (st g).toInt = 2) q) + 1))), (2, .int (nI ((cntP (fun g => (st g).toInt = 1) q) + 0))), (6, .int (nI q)), (0, .ref k0), (1, .int 6)]) hx hb dX11_count_103 hl (Nat.le_of_ble_eq_true rfl) rfl (fun ls hl => ?_)
                refine lv_iinc (v := nI (q + 1)) (lv' := [(6, .int (nI (q + 1))), (5, .int (nI ((smP (lvF ft st tn) (fun g => nN (mn g)) q) + 0))), (4, .int (nI ((cntP (fun g => ¬ (tn g).toInt = 0) q) + 0))), (3, .int (nI ((cntP (fun g => (st g).toInt = 2) q) + 1))), (2, .int (nI ((cntP (fun g => (st g).toInt = 1) q) + 0))), (0, .ref k0), (1, .int 6)]) hx hb dX11_count_105 hl (k := 4) rfl (nI_add q 1) (Nat.le_of_ble_eq_true rfl) rfl (fun ls hl => ?_)
                refine lv_goto (tgt := 13) hx hb dX11_count_108 rfl ?_
                have hl9 := lv_sub hl [0, 1, 2, 3, 4, 5, 6] rfl
                have e9_2 : nI (cntP (fun g => (st g).toInt = 1) (q + 1)) = (nI ((cntP (fun g => (st g).toInt = 1) q) + 0) : Int32) := by first | exact congrArg nI (cntP_y (P := fun g => (st g).toInt = 1) (show (st q).toInt = 1 by omega)) | exact congrArg nI (cntP_n0 (P := fun g => (st g).toInt = 1) (show ¬ (st q).toInt = 1 by omega))
                have e9_3 : nI (cntP (fun g => (st g).toInt = 2) (q + 1)) = (nI ((cntP (fun g => (st g).toInt = 2) q) + 1) : Int32) := by first | exact congrArg nI (cntP_y (P := fun g => (st g).toInt = 2) (show (st q).toInt = 2 by omega)) | exact congrArg nI (cntP_n0 (P := fun g => (st g).toInt = 2) (show ¬ (st q).toInt = 2 by omega))
                have e9_4 : nI (cntP (fun g => ¬ (tn g).toInt = 0) (q + 1)) = (nI ((cntP (fun g => ¬ (tn g).toInt = 0) q) + 0) : Int32) := by first | exact congrArg nI (cntP_y (P := fun g => ¬ (tn g).toInt = 0) (show ¬ (tn q).toInt = 0 by omega)) | exact congrArg nI (cntP_n0 (P := fun g => ¬ (tn g).toInt = 0) (show ¬ ¬ (tn q).toInt = 0 by omega))
                have e9_5 : nI (smP (lvF ft st tn) (fun g => nN (mn g)) (q + 1)) = (nI ((smP (lvF ft st tn) (fun g => nN (mn g)) q) + 0) : Int32) := by first | exact congrArg nI (smP_y (P := lvF ft st tn) (by first | with_reducible assumption | assumption)) | exact congrArg nI (smP_n (P := lvF ft st tn) (by first | with_reducible assumption | assumption))
                have hl9 : lv_has ls 7 [(6, .int (nI (q + 1))), (5, .int (nI (smP (lvF ft st tn) (fun g => nN (mn g)) (q + 1)))), (4, .int (nI (cntP (fun g => ¬ (tn g).toInt = 0) (q + 1)))), (3, .int (nI (cntP (fun g => (st g).toInt = 2) (q + 1)))), (2, .int (nI (cntP (fun g => (st g).toInt = 1) (q + 1)))), (0, .ref k0), (1, .int 6)] := by rw [e9_2]; rw [e9_3]; rw [e9_4]; rw [e9_5]; exact hl9
                exact ih_13 (q + 1) H locs ls (by first | with_reducible assumption | omega) (by first | with_reducible assumption | omega) hP hD hS hl9
              · have c_11 : q < ft ∧ (st q).toInt = 1 ∧ (tn q).toInt = 0 := zp_1 c_11
                refine lv_aload_n hx hb dX11_count_91 rfl (lv_at hl 5 rfl) ?_
                refine va_get (D := (dC, dI)) (ci := 9) (v := .ref (a 11)) (C := RX11) (T := TX11) (N := 55) hx hb hts inX11 hown hK hP 0 rfl rfl 11 (Nat.le_of_ble_eq_true rfl) (hts _ mw_1170) (fun _ h9 => h9) rfl dX11_count_92 ?_
                refine lv_iload hx hb dX11_count_95 (lv_at hl 3 rfl) ?_
                refine z_iald hx hb hK hP 3 0 rfl rfl (e := q) rfl b9_4 (Nat.le_of_ble_eq_true rfl) dX11_count_97 ?_
                refine zz_i (v := nI (nN (mn q))) ((hmw q (by first | with_reducible assumption | assumption)).1) ?_
                refine lv_goto (tgt := 102) hx hb dX11_count_98 rfl ?_
                refine lv_iadd hx hb dX11_count_102 ?_
                refine zz_i (v := nI ((smP (lvF ft st tn) (fun g => nN (mn g)) q) + (nN (mn q)))) (nI_add (smP (lvF ft st tn) (fun g => nN (mn g)) q) (nN (mn q))) ?_
                refine lv_istore (lv' := [(5, .int (nI ((smP (lvF ft st tn) (fun g => nN (mn g)) q) + (nN (mn q))))), (4, .int (nI ((cntP (fun g => ¬ (tn g).toInt = 0) q) + 0))), (3, .int (nI ((cntP (fun g => (st g).toInt = 2) q) + 1))), (2, .int (nI ((cntP (fun g => (st g).toInt = 1) q) + 0))), (6, .int (nI q)), (0, .ref k0), (1, .int 6)]) hx hb dX11_count_103 hl (Nat.le_of_ble_eq_true rfl) rfl (fun ls hl => ?_)
                refine lv_iinc (v := nI (q + 1)) (lv' := [(6, .int (nI (q + 1))), (5, .int (nI ((smP (lvF ft st tn) (fun g => nN (mn g)) q) + (nN (mn q))))), (4, .int (nI ((cntP (fun g => ¬ (tn g).toInt = 0) q) + 0))), (3, .int (nI ((cntP (fun g => (st g).toInt = 2) q) + 1))), (2, .int (nI ((cntP (fun g => (st g).toInt = 1) q) + 0))), (0, .ref k0), (1, .int 6)]) hx hb dX11_count_105 hl (k := 4) rfl (nI_add q 1) (Nat.le_of_ble_eq_true rfl) rfl (fun ls hl => ?_)
                refine lv_goto (tgt := 13) hx hb dX11_count_108 rfl ?_
                have hl9 := lv_sub hl [0, 1, 2, 3, 4, 5, 6] rfl
                have e9_2 : nI (cntP (fun g => (st g).toInt = 1) (q + 1)) = (nI ((cntP (fun g => (st g).toInt = 1) q) + 0) : Int32) := by first | exact congrArg nI (cntP_y (P := fun g => (st g).toInt = 1) (show (st q).toInt = 1 by omega)) | exact congrArg nI (cntP_n0 (P := fun g => (st g).toInt = 1) (show ¬ (st q).toInt = 1 by omega))
                have e9_3 : nI (cntP (fun g => (st g).toInt = 2) (q + 1)) = (nI ((cntP (fun g => (st g).toInt = 2) q) + 1) : Int32) := by first | exact congrArg nI (cntP_y (P := fun g => (st g).toInt = 2) (show (st q).toInt = 2 by omega)) | exact congrArg nI (cntP_n0 (P := fun g => (st g).toInt = 2) (show ¬ (st q).toInt = 2 by omega))
                have e9_4 : nI (cntP (fun g => ¬ (tn g).toInt = 0) (q + 1)) = (nI ((cntP (fun g => ¬ (tn g).toInt = 0) q) + 0) : Int32) := by first | exact congrArg nI (cntP_y (P := fun g => ¬ (tn g).toInt = 0) (show ¬ (tn q).toInt = 0 by omega)) | exact congrArg nI (cntP_n0 (P := fun g => ¬ (tn g).toInt = 0) (show ¬ ¬ (tn q).toInt = 0 by omega))
                have e9_5 : nI (smP (lvF ft st tn) (fun g => nN (mn g)) (q + 1)) = (nI ((smP (lvF ft st tn) (fun g => nN (mn g)) q) + (nN (mn q))) : Int32) := by first | exact congrArg nI (smP_y (P := lvF ft st tn) (by first | with_reducible assumption | assumption)) | exact congrArg nI (smP_n (P := lvF ft st tn) (by first | with_reducible assumption | assumption))
                have hl9 : lv_has ls 7 [(6, .int (nI (q + 1))), (5, .int (nI (smP (lvF ft st tn) (fun g => nN (mn g)) (q + 1)))), (4, .int (nI (cntP (fun g => ¬ (tn g).toInt = 0) (q + 1)))), (3, .int (nI (cntP (fun g => (st g).toInt = 2) (q + 1)))), (2, .int (nI (cntP (fun g => (st g).toInt = 1) (q + 1)))), (0, .ref k0), (1, .int 6)] := by rw [e9_2]; rw [e9_3]; rw [e9_4]; rw [e9_5]; exact hl9
                exact ih_13 (q + 1) H locs ls (by first | with_reducible assumption | omega) (by first | with_reducible assumption | omega) hP hD hS hl9
            · have c_10 : ¬ (tn q).toInt = 0 := zc_ne rfl rfl c_10
              refine lv_iconst (v := 1) hx hb dX11_count_72 rfl ?_
              refine lv_goto (tgt := 77) hx hb dX11_count_73 rfl ?_
              refine lv_iadd hx hb dX11_count_77 ?_
              refine zz_i (v := nI ((cntP (fun g => ¬ (tn g).toInt = 0) q) + 1)) (nI_add (cntP (fun g => ¬ (tn g).toInt = 0) q) 1) ?_
              refine lv_istore (lv' := [(4, .int (nI ((cntP (fun g => ¬ (tn g).toInt = 0) q) + 1))), (3, .int (nI ((cntP (fun g => (st g).toInt = 2) q) + 1))), (2, .int (nI ((cntP (fun g => (st g).toInt = 1) q) + 0))), (6, .int (nI q)), (5, .int (nI (smP (lvF ft st tn) (fun g => nN (mn g)) q))), (0, .ref k0), (1, .int 6)]) hx hb dX11_count_78 hl (Nat.le_of_ble_eq_true rfl) rfl (fun ls hl => ?_)
              refine lv_iload hx hb dX11_count_80 (lv_at hl 4 rfl) ?_
              refine lv_aload_n hx hb dX11_count_82 rfl (lv_at hl 5 rfl) ?_
              refine lv_iload hx hb dX11_count_83 (lv_at hl 3 rfl) ?_
              obtain ⟨hPc, hDc, hFc, hI1⟩ := zi_sub (wc := [_, _, _]) hP hD hS hA [0, 1, 2] rfl rfl
              refine zcall (st1 := [.int (pI (q < ft ∧ (st q).toInt = 1 ∧ (tn q).toInt = 0)), .int (nI (smP (lvF ft st tn) (fun g => nN (mn g)) q))]) (va_runV (As := [.int (nI q)]) (rest := [.int (nI (smP (lvF ft st tn) (fun g => nN (mn g)) q))]) ⟨hx, hb, hml, hown, hts⟩ (k_M_is_n l dC dI cI cZ cF H.size k0 a I0 J0 q ft st tn (by first | with_reducible assumption | assumption) (by first | with_reducible assumption | omega) (by first | with_reducible assumption | omega)) (csV_179 hts rfl rfl ⟨Nat.le_of_ble_eq_true rfl, Nat.le_of_ble_eq_true rfl⟩) (zPV2 (q0 := 0) (ci := 9) hPc hDc hK hXN rfl rfl) rfl rfl hl.1 rfl (lv_room (Nat.le_of_ble_eq_true rfl)) dX11_count_85 ⟨Nat.le_of_ble_eq_true rfl, Nat.le_of_ble_eq_true rfl⟩) hS hFc hFc rfl (fun t H locs ht hB hk1 hS => ?_)
              obtain ⟨hP1, hD1⟩ := hB
              rw [ht] at hP1
              replace hP := z0 hP hD hk1 hP1 hI1
              clear hk1 hPc hDc hFc hP1 hD1 ht hI1
              refine lv_if_eq (tgt := 101) hx hb dX11_count_88 rfl (fun c_12 => ?_) (fun c_12 => ?_)
              · have c_12 : ¬ (q < ft ∧ (st q).toInt = 1 ∧ (tn q).toInt = 0) := zp_0 c_12
                refine lv_iconst (v := 0) hx hb dX11_count_101 rfl ?_
                refine lv_iadd hx hb dX11_count_102 ?_
                refine zz_i (v := nI ((smP (lvF ft st tn) (fun g => nN (mn g)) q) + 0)) (nI_add (smP (lvF ft st tn) (fun g => nN (mn g)) q) 0) ?_
                refine lv_istore (lv' := [(5, .int (nI ((smP (lvF ft st tn) (fun g => nN (mn g)) q) + 0))), (4, .int (nI ((cntP (fun g => ¬ (tn g).toInt = 0) q) + 1))), (3, .int (nI ((cntP (fun g => (st g).toInt = 2) q) + 1))), (2, .int (nI ((cntP (fun g => (st g).toInt = 1) q) + 0))), (6, .int (nI q)), (0, .ref k0), (1, .int 6)]) hx hb dX11_count_103 hl (Nat.le_of_ble_eq_true rfl) rfl (fun ls hl => ?_)
                refine lv_iinc (v := nI (q + 1)) (lv' := [(6, .int (nI (q + 1))), (5, .int (nI ((smP (lvF ft st tn) (fun g => nN (mn g)) q) + 0))), (4, .int (nI ((cntP (fun g => ¬ (tn g).toInt = 0) q) + 1))), (3, .int (nI ((cntP (fun g => (st g).toInt = 2) q) + 1))), (2, .int (nI ((cntP (fun g => (st g).toInt = 1) q) + 0))), (0, .ref k0), (1, .int 6)]) hx hb dX11_count_105 hl (k := 4) rfl (nI_add q 1) (Nat.le_of_ble_eq_true rfl) rfl (fun ls hl => ?_)
                refine lv_goto (tgt := 13) hx hb dX11_count_108 rfl ?_
                have hl9 := lv_sub hl [0, 1, 2, 3, 4, 5, 6] rfl
                have e9_2 : nI (cntP (fun g => (st g).toInt = 1) (q + 1)) = (nI ((cntP (fun g => (st g).toInt = 1) q) + 0) : Int32) := by first | exact congrArg nI (cntP_y (P := fun g => (st g).toInt = 1) (show (st q).toInt = 1 by omega)) | exact congrArg nI (cntP_n0 (P := fun g => (st g).toInt = 1) (show ¬ (st q).toInt = 1 by omega))
                have e9_3 : nI (cntP (fun g => (st g).toInt = 2) (q + 1)) = (nI ((cntP (fun g => (st g).toInt = 2) q) + 1) : Int32) := by first | exact congrArg nI (cntP_y (P := fun g => (st g).toInt = 2) (show (st q).toInt = 2 by omega)) | exact congrArg nI (cntP_n0 (P := fun g => (st g).toInt = 2) (show ¬ (st q).toInt = 2 by omega))
                have e9_4 : nI (cntP (fun g => ¬ (tn g).toInt = 0) (q + 1)) = (nI ((cntP (fun g => ¬ (tn g).toInt = 0) q) + 1) : Int32) := by first | exact congrArg nI (cntP_y (P := fun g => ¬ (tn g).toInt = 0) (show ¬ (tn q).toInt = 0 by omega)) | exact congrArg nI (cntP_n0 (P := fun g => ¬ (tn g).toInt = 0) (show ¬ ¬ (tn q).toInt = 0 by omega))
                have e9_5 : nI (smP (lvF ft st tn) (fun g => nN (mn g)) (q + 1)) = (nI ((smP (lvF ft st tn) (fun g => nN (mn g)) q) + 0) : Int32) := by first | exact congrArg nI (smP_y (P := lvF ft st tn) (by first | with_reducible assumption | assumption)) | exact congrArg nI (smP_n (P := lvF ft st tn) (by first | with_reducible assumption | assumption))
                have hl9 : lv_has ls 7 [(6, .int (nI (q + 1))), (5, .int (nI (smP (lvF ft st tn) (fun g => nN (mn g)) (q + 1)))), (4, .int (nI (cntP (fun g => ¬ (tn g).toInt = 0) (q + 1)))), (3, .int (nI (cntP (fun g => (st g).toInt = 2) (q + 1)))), (2, .int (nI (cntP (fun g => (st g).toInt = 1) (q + 1)))), (0, .ref k0), (1, .int 6)] := by rw [e9_2]; rw [e9_3]; rw [e9_4]; rw [e9_5]; exact hl9
                exact ih_13 (q + 1) H locs ls (by first | with_reducible assumption | omega) (by first | with_reducible assumption | omega) hP hD hS hl9
              · have c_12 : q < ft ∧ (st q).toInt = 1 ∧ (tn q).toInt = 0 := zp_1 c_12
                refine lv_aload_n hx hb dX11_count_91 rfl (lv_at hl 5 rfl) ?_
                refine va_get (D := (dC, dI)) (ci := 9) (v := .ref (a 11)) (C := RX11) (T := TX11) (N := 55) hx hb hts inX11 hown hK hP 0 rfl rfl 11 (Nat.le_of_ble_eq_true rfl) (hts _ mw_1170) (fun _ h9 => h9) rfl dX11_count_92 ?_
                refine lv_iload hx hb dX11_count_95 (lv_at hl 3 rfl) ?_
                refine z_iald hx hb hK hP 3 0 rfl rfl (e := q) rfl b9_4 (Nat.le_of_ble_eq_true rfl) dX11_count_97 ?_
                refine zz_i (v := nI (nN (mn q))) ((hmw q (by first | with_reducible assumption | assumption)).1) ?_
                refine lv_goto (tgt := 102) hx hb dX11_count_98 rfl ?_
                refine lv_iadd hx hb dX11_count_102 ?_
                refine zz_i (v := nI ((smP (lvF ft st tn) (fun g => nN (mn g)) q) + (nN (mn q)))) (nI_add (smP (lvF ft st tn) (fun g => nN (mn g)) q) (nN (mn q))) ?_
                refine lv_istore (lv' := [(5, .int (nI ((smP (lvF ft st tn) (fun g => nN (mn g)) q) + (nN (mn q))))), (4, .int (nI ((cntP (fun g => ¬ (tn g).toInt = 0) q) + 1))), (3, .int (nI ((cntP (fun g => (st g).toInt = 2) q) + 1))), (2, .int (nI ((cntP (fun g => (st g).toInt = 1) q) + 0))), (6, .int (nI q)), (0, .ref k0), (1, .int 6)]) hx hb dX11_count_103 hl (Nat.le_of_ble_eq_true rfl) rfl (fun ls hl => ?_)
                refine lv_iinc (v := nI (q + 1)) (lv' := [(6, .int (nI (q + 1))), (5, .int (nI ((smP (lvF ft st tn) (fun g => nN (mn g)) q) + (nN (mn q))))), (4, .int (nI ((cntP (fun g => ¬ (tn g).toInt = 0) q) + 1))), (3, .int (nI ((cntP (fun g => (st g).toInt = 2) q) + 1))), (2, .int (nI ((cntP (fun g => (st g).toInt = 1) q) + 0))), (0, .ref k0), (1, .int 6)]) hx hb dX11_count_105 hl (k := 4) rfl (nI_add q 1) (Nat.le_of_ble_eq_true rfl) rfl (fun ls hl => ?_)
                refine lv_goto (tgt := 13) hx hb dX11_count_108 rfl ?_
                have hl9 := lv_sub hl [0, 1, 2, 3, 4, 5, 6] rfl
                have e9_2 : nI (cntP (fun g => (st g).toInt = 1) (q + 1)) = (nI ((cntP (fun g => (st g).toInt = 1) q) + 0) : Int32) := by first | exact congrArg nI (cntP_y (P := fun g => (st g).toInt = 1) (show (st q).toInt = 1 by omega)) | exact congrArg nI (cntP_n0 (P := fun g => (st g).toInt = 1) (show ¬ (st q).toInt = 1 by omega))
                have e9_3 : nI (cntP (fun g => (st g).toInt = 2) (q + 1)) = (nI ((cntP (fun g => (st g).toInt = 2) q) + 1) : Int32) := by first | exact congrArg nI (cntP_y (P := fun g => (st g).toInt = 2) (show (st q).toInt = 2 by omega)) | exact congrArg nI (cntP_n0 (P := fun g => (st g).toInt = 2) (show ¬ (st q).toInt = 2 by omega))
                have e9_4 : nI (cntP (fun g => ¬ (tn g).toInt = 0) (q + 1)) = (nI ((cntP (fun g => ¬ (tn g).toInt = 0) q) + 1) : Int32) := by first | exact congrArg nI (cntP_y (P := fun g => ¬ (tn g).toInt = 0) (show ¬ (tn q).toInt = 0 by omega)) | exact congrArg nI (cntP_n0 (P := fun g => ¬ (tn g).toInt = 0) (show ¬ ¬ (tn q).toInt = 0 by omega))
                have e9_5 : nI (smP (lvF ft st tn) (fun g => nN (mn g)) (q + 1)) = (nI ((smP (lvF ft st tn) (fun g => nN (mn g)) q) + (nN (mn q))) : Int32) := by first | exact congrArg nI (smP_y (P := lvF ft st tn) (by first | with_reducible assumption | assumption)) | exact congrArg nI (smP_n (P := lvF ft st tn) (by first | with_reducible assumption | assumption))
                have hl9 : lv_has ls 7 [(6, .int (nI (q + 1))), (5, .int (nI (smP (lvF ft st tn) (fun g => nN (mn g)) (q + 1)))), (4, .int (nI (cntP (fun g => ¬ (tn g).toInt = 0) (q + 1)))), (3, .int (nI (cntP (fun g => (st g).toInt = 2) (q + 1)))), (2, .int (nI (cntP (fun g => (st g).toInt = 1) (q + 1)))), (0, .ref k0), (1, .int 6)] := by rw [e9_2]; rw [e9_3]; rw [e9_4]; rw [e9_5]; exact hl9
                exact ih_13 (q + 1) H locs ls (by first | with_reducible assumption | omega) (by first | with_reducible assumption | omega) hP hD hS hl9
        · have c_5 : (st q).toInt = 1 := zc_eq rfl rfl c_5
          refine lv_iconst (v := 1) hx hb dX11_count_34 rfl ?_
          refine lv_goto (tgt := 39) hx hb dX11_count_35 rfl ?_
          refine lv_iadd hx hb dX11_count_39 ?_
          refine zz_i (v := nI ((cntP (fun g => (st g).toInt = 1) q) + 1)) (nI_add (cntP (fun g => (st g).toInt = 1) q) 1) ?_
          refine lv_istore_n (lv' := [(2, .int (nI ((cntP (fun g => (st g).toInt = 1) q) + 1))), (6, .int (nI q)), (5, .int (nI (smP (lvF ft st tn) (fun g => nN (mn g)) q))), (4, .int (nI (cntP (fun g => ¬ (tn g).toInt = 0) q))), (3, .int (nI (cntP (fun g => (st g).toInt = 2) q))), (0, .ref k0), (1, .int 6)]) hx hb dX11_count_40 rfl hl (Nat.le_of_ble_eq_true rfl) rfl (fun ls hl => ?_)
          refine lv_iload_n hx hb dX11_count_41 rfl (lv_at hl 4 rfl) ?_
          refine lv_aload_n hx hb dX11_count_42 rfl (lv_at hl 5 rfl) ?_
          refine va_get (D := (dC, dI)) (ci := 9) (v := .ref (a 5)) (C := RX11) (T := TX11) (N := 55) hx hb hts inX11 hown hK hP 0 rfl rfl 5 (Nat.le_of_ble_eq_true rfl) (hts _ mw_1164) (fun _ h9 => h9) rfl dX11_count_43 ?_
          refine lv_iload hx hb dX11_count_46 (lv_at hl 1 rfl) ?_
          refine z_iald hx hb hK hP 1 0 rfl rfl (e := q) rfl b9_4 (Nat.le_of_ble_eq_true rfl) dX11_count_48 ?_
          refine lv_iconst (v := 2) hx hb dX11_count_49 rfl ?_
          refine lv_icmp_ne (tgt := 57) hx hb dX11_count_50 rfl (fun c_13 => ?_) (fun c_13 => ?_)
          · have c_13 : ¬ (st q).toInt = 2 := zc_ne rfl rfl c_13
            refine lv_iconst (v := 0) hx hb dX11_count_57 rfl ?_
            refine lv_iadd hx hb dX11_count_58 ?_
            refine zz_i (v := nI ((cntP (fun g => (st g).toInt = 2) q) + 0)) (nI_add (cntP (fun g => (st g).toInt = 2) q) 0) ?_
            refine lv_istore_n (lv' := [(3, .int (nI ((cntP (fun g => (st g).toInt = 2) q) + 0))), (2, .int (nI ((cntP (fun g => (st g).toInt = 1) q) + 1))), (6, .int (nI q)), (5, .int (nI (smP (lvF ft st tn) (fun g => nN (mn g)) q))), (4, .int (nI (cntP (fun g => ¬ (tn g).toInt = 0) q))), (0, .ref k0), (1, .int 6)]) hx hb dX11_count_59 rfl hl (Nat.le_of_ble_eq_true rfl) rfl (fun ls hl => ?_)
            refine lv_iload hx hb dX11_count_60 (lv_at hl 4 rfl) ?_
            refine lv_aload_n hx hb dX11_count_62 rfl (lv_at hl 5 rfl) ?_
            refine va_get (D := (dC, dI)) (ci := 9) (v := .ref (a 6)) (C := RX11) (T := TX11) (N := 55) hx hb hts inX11 hown hK hP 0 rfl rfl 6 (Nat.le_of_ble_eq_true rfl) (hts _ mw_1165) (fun _ h9 => h9) rfl dX11_count_63 ?_
            refine lv_iload hx hb dX11_count_66 (lv_at hl 2 rfl) ?_
            refine z_zald hx hb hK hP 2 1 rfl rfl (e := q) rfl b9_4 (Nat.le_of_ble_eq_true rfl) dX11_count_68 ?_
            refine lv_if_eq (tgt := 76) hx hb dX11_count_69 rfl (fun c_14 => ?_) (fun c_14 => ?_)
            · have c_14 : (tn q).toInt = 0 := zc_eq rfl rfl c_14
              refine lv_iconst (v := 0) hx hb dX11_count_76 rfl ?_
              refine lv_iadd hx hb dX11_count_77 ?_
              refine zz_i (v := nI ((cntP (fun g => ¬ (tn g).toInt = 0) q) + 0)) (nI_add (cntP (fun g => ¬ (tn g).toInt = 0) q) 0) ?_
              refine lv_istore (lv' := [(4, .int (nI ((cntP (fun g => ¬ (tn g).toInt = 0) q) + 0))), (3, .int (nI ((cntP (fun g => (st g).toInt = 2) q) + 0))), (2, .int (nI ((cntP (fun g => (st g).toInt = 1) q) + 1))), (6, .int (nI q)), (5, .int (nI (smP (lvF ft st tn) (fun g => nN (mn g)) q))), (0, .ref k0), (1, .int 6)]) hx hb dX11_count_78 hl (Nat.le_of_ble_eq_true rfl) rfl (fun ls hl => ?_)
              refine lv_iload hx hb dX11_count_80 (lv_at hl 4 rfl) ?_
              refine lv_aload_n hx hb dX11_count_82 rfl (lv_at hl 5 rfl) ?_
              refine lv_iload hx hb dX11_count_83 (lv_at hl 3 rfl) ?_
              obtain ⟨hPc, hDc, hFc, hI1⟩ := zi_sub (wc := [_, _, _]) hP hD hS hA [0, 1, 2] rfl rfl
              refine zcall (st1 := [.int (pI (q < ft ∧ (st q).toInt = 1 ∧ (tn q).toInt = 0)), .int (nI (smP (lvF ft st tn) (fun g => nN (mn g)) q))]) (va_runV (As := [.int (nI q)]) (rest := [.int (nI (smP (lvF ft st tn) (fun g => nN (mn g)) q))]) ⟨hx, hb, hml, hown, hts⟩ (k_M_is_n l dC dI cI cZ cF H.size k0 a I0 J0 q ft st tn (by first | with_reducible assumption | assumption) (by first | with_reducible assumption | omega) (by first | with_reducible assumption | omega)) (csV_179 hts rfl rfl ⟨Nat.le_of_ble_eq_true rfl, Nat.le_of_ble_eq_true rfl⟩) (zPV2 (q0 := 0) (ci := 9) hPc hDc hK hXN rfl rfl) rfl rfl hl.1 rfl (lv_room (Nat.le_of_ble_eq_true rfl)) dX11_count_85 ⟨Nat.le_of_ble_eq_true rfl, Nat.le_of_ble_eq_true rfl⟩) hS hFc hFc rfl (fun t H locs ht hB hk1 hS => ?_)
              obtain ⟨hP1, hD1⟩ := hB
              rw [ht] at hP1
              replace hP := z0 hP hD hk1 hP1 hI1
              clear hk1 hPc hDc hFc hP1 hD1 ht hI1
              refine lv_if_eq (tgt := 101) hx hb dX11_count_88 rfl (fun c_15 => ?_) (fun c_15 => ?_)
              · have c_15 : ¬ (q < ft ∧ (st q).toInt = 1 ∧ (tn q).toInt = 0) := zp_0 c_15
                refine lv_iconst (v := 0) hx hb dX11_count_101 rfl ?_
                refine lv_iadd hx hb dX11_count_102 ?_
                refine zz_i (v := nI ((smP (lvF ft st tn) (fun g => nN (mn g)) q) + 0)) (nI_add (smP (lvF ft st tn) (fun g => nN (mn g)) q) 0) ?_
                refine lv_istore (lv' := [(5, .int (nI ((smP (lvF ft st tn) (fun g => nN (mn g)) q) + 0))), (4, .int (nI ((cntP (fun g => ¬ (tn g).toInt = 0) q) + 0))), (3, .int (nI ((cntP (fun g => (st g).toInt = 2) q) + 0))), (2, .int (nI ((cntP (fun g => (st g).toInt = 1) q) + 1))), (6, .int (nI q)), (0, .ref k0), (1, .int 6)]) hx hb dX11_count_103 hl (Nat.le_of_ble_eq_true rfl) rfl (fun ls hl => ?_)
                refine lv_iinc (v := nI (q + 1)) (lv' := [(6, .int (nI (q + 1))), (5, .int (nI ((smP (lvF ft st tn) (fun g => nN (mn g)) q) + 0))), (4, .int (nI ((cntP (fun g => ¬ (tn g).toInt = 0) q) + 0))), (3, .int (nI ((cntP (fun g => (st g).toInt = 2) q) + 0))), (2, .int (nI ((cntP (fun g => (st g).toInt = 1) q) + 1))), (0, .ref k0), (1, .int 6)]) hx hb dX11_count_105 hl (k := 4) rfl (nI_add q 1) (Nat.le_of_ble_eq_true rfl) rfl (fun ls hl => ?_)
                refine lv_goto (tgt := 13) hx hb dX11_count_108 rfl ?_
                have hl9 := lv_sub hl [0, 1, 2, 3, 4, 5, 6] rfl
                have e9_2 : nI (cntP (fun g => (st g).toInt = 1) (q + 1)) = (nI ((cntP (fun g => (st g).toInt = 1) q) + 1) : Int32) := by first | exact congrArg nI (cntP_y (P := fun g => (st g).toInt = 1) (show (st q).toInt = 1 by omega)) | exact congrArg nI (cntP_n0 (P := fun g => (st g).toInt = 1) (show ¬ (st q).toInt = 1 by omega))
                have e9_3 : nI (cntP (fun g => (st g).toInt = 2) (q + 1)) = (nI ((cntP (fun g => (st g).toInt = 2) q) + 0) : Int32) := by first | exact congrArg nI (cntP_y (P := fun g => (st g).toInt = 2) (show (st q).toInt = 2 by omega)) | exact congrArg nI (cntP_n0 (P := fun g => (st g).toInt = 2) (show ¬ (st q).toInt = 2 by omega))
                have e9_4 : nI (cntP (fun g => ¬ (tn g).toInt = 0) (q + 1)) = (nI ((cntP (fun g => ¬ (tn g).toInt = 0) q) + 0) : Int32) := by first | exact congrArg nI (cntP_y (P := fun g => ¬ (tn g).toInt = 0) (show ¬ (tn q).toInt = 0 by omega)) | exact congrArg nI (cntP_n0 (P := fun g => ¬ (tn g).toInt = 0) (show ¬ ¬ (tn q).toInt = 0 by omega))
                have e9_5 : nI (smP (lvF ft st tn) (fun g => nN (mn g)) (q + 1)) = (nI ((smP (lvF ft st tn) (fun g => nN (mn g)) q) + 0) : Int32) := by first | exact congrArg nI (smP_y (P := lvF ft st tn) (by first | with_reducible assumption | assumption)) | exact congrArg nI (smP_n (P := lvF ft st tn) (by first | with_reducible assumption | assumption))
                have hl9 : lv_has ls 7 [(6, .int (nI (q + 1))), (5, .int (nI (smP (lvF ft st tn) (fun g => nN (mn g)) (q + 1)))), (4, .int (nI (cntP (fun g => ¬ (tn g).toInt = 0) (q + 1)))), (3, .int (nI (cntP (fun g => (st g).toInt = 2) (q + 1)))), (2, .int (nI (cntP (fun g => (st g).toInt = 1) (q + 1)))), (0, .ref k0), (1, .int 6)] := by rw [e9_2]; rw [e9_3]; rw [e9_4]; rw [e9_5]; exact hl9
                exact ih_13 (q + 1) H locs ls (by first | with_reducible assumption | omega) (by first | with_reducible assumption | omega) hP hD hS hl9
              · have c_15 : q < ft ∧ (st q).toInt = 1 ∧ (tn q).toInt = 0 := zp_1 c_15
                refine lv_aload_n hx hb dX11_count_91 rfl (lv_at hl 5 rfl) ?_
                refine va_get (D := (dC, dI)) (ci := 9) (v := .ref (a 11)) (C := RX11) (T := TX11) (N := 55) hx hb hts inX11 hown hK hP 0 rfl rfl 11 (Nat.le_of_ble_eq_true rfl) (hts _ mw_1170) (fun _ h9 => h9) rfl dX11_count_92 ?_
                refine lv_iload hx hb dX11_count_95 (lv_at hl 3 rfl) ?_
                refine z_iald hx hb hK hP 3 0 rfl rfl (e := q) rfl b9_4 (Nat.le_of_ble_eq_true rfl) dX11_count_97 ?_
                refine zz_i (v := nI (nN (mn q))) ((hmw q (by first | with_reducible assumption | assumption)).1) ?_
                refine lv_goto (tgt := 102) hx hb dX11_count_98 rfl ?_
                refine lv_iadd hx hb dX11_count_102 ?_
                refine zz_i (v := nI ((smP (lvF ft st tn) (fun g => nN (mn g)) q) + (nN (mn q)))) (nI_add (smP (lvF ft st tn) (fun g => nN (mn g)) q) (nN (mn q))) ?_
                refine lv_istore (lv' := [(5, .int (nI ((smP (lvF ft st tn) (fun g => nN (mn g)) q) + (nN (mn q))))), (4, .int (nI ((cntP (fun g => ¬ (tn g).toInt = 0) q) + 0))), (3, .int (nI ((cntP (fun g => (st g).toInt = 2) q) + 0))), (2, .int (nI ((cntP (fun g => (st g).toInt = 1) q) + 1))), (6, .int (nI q)), (0, .ref k0), (1, .int 6)]) hx hb dX11_count_103 hl (Nat.le_of_ble_eq_true rfl) rfl (fun ls hl => ?_)
                refine lv_iinc (v := nI (q + 1)) (lv' := [(6, .int (nI (q + 1))), (5, .int (nI ((smP (lvF ft st tn) (fun g => nN (mn g)) q) + (nN (mn q))))), (4, .int (nI ((cntP (fun g => ¬ (tn g).toInt = 0) q) + 0))), (3, .int (nI ((cntP (fun g => (st g).toInt = 2) q) + 0))), (2, .int (nI ((cntP (fun g => (st g).toInt = 1) q) + 1))), (0, .ref k0), (1, .int 6)]) hx hb dX11_count_105 hl (k := 4) rfl (nI_add q 1) (Nat.le_of_ble_eq_true rfl) rfl (fun ls hl => ?_)
                refine lv_goto (tgt := 13) hx hb dX11_count_108 rfl ?_
                have hl9 := lv_sub hl [0, 1, 2, 3, 4, 5, 6] rfl
                have e9_2 : nI (cntP (fun g => (st g).toInt = 1) (q + 1)) = (nI ((cntP (fun g => (st g).toInt = 1) q) + 1) : Int32) := by first | exact congrArg nI (cntP_y (P := fun g => (st g).toInt = 1) (show (st q).toInt = 1 by omega)) | exact congrArg nI (cntP_n0 (P := fun g => (st g).toInt = 1) (show ¬ (st q).toInt = 1 by omega))
                have e9_3 : nI (cntP (fun g => (st g).toInt = 2) (q + 1)) = (nI ((cntP (fun g => (st g).toInt = 2) q) + 0) : Int32) := by first | exact congrArg nI (cntP_y (P := fun g => (st g).toInt = 2) (show (st q).toInt = 2 by omega)) | exact congrArg nI (cntP_n0 (P := fun g => (st g).toInt = 2) (show ¬ (st q).toInt = 2 by omega))
                have e9_4 : nI (cntP (fun g => ¬ (tn g).toInt = 0) (q + 1)) = (nI ((cntP (fun g => ¬ (tn g).toInt = 0) q) + 0) : Int32) := by first | exact congrArg nI (cntP_y (P := fun g => ¬ (tn g).toInt = 0) (show ¬ (tn q).toInt = 0 by omega)) | exact congrArg nI (cntP_n0 (P := fun g => ¬ (tn g).toInt = 0) (show ¬ ¬ (tn q).toInt = 0 by omega))
                have e9_5 : nI (smP (lvF ft st tn) (fun g => nN (mn g)) (q + 1)) = (nI ((smP (lvF ft st tn) (fun g => nN (mn g)) q) + (nN (mn q))) : Int32) := by first | exact congrArg nI (smP_y (P := lvF ft st tn) (by first | with_reducible assumption | assumption)) | exact congrArg nI (smP_n (P := lvF ft st tn) (by first | with_reducible assumption | assumption))
                have hl9 : lv_has ls 7 [(6, .int (nI (q + 1))), (5, .int (nI (smP (lvF ft st tn) (fun g => nN (mn g)) (q + 1)))), (4, .int (nI (cntP (fun g => ¬ (tn g).toInt = 0) (q + 1)))), (3, .int (nI (cntP (fun g => (st g).toInt = 2) (q + 1)))), (2, .int (nI (cntP (fun g => (st g).toInt = 1) (q + 1)))), (0, .ref k0), (1, .int 6)] := by rw [e9_2]; rw [e9_3]; rw [e9_4]; rw [e9_5]; exact hl9
                exact ih_13 (q + 1) H locs ls (by first | with_reducible assumption | omega) (by first | with_reducible assumption | omega) hP hD hS hl9
            · have c_14 : ¬ (tn q).toInt = 0 := zc_ne rfl rfl c_14
              refine lv_iconst (v := 1) hx hb dX11_count_72 rfl ?_
              refine lv_goto (tgt := 77) hx hb dX11_count_73 rfl ?_
              refine lv_iadd hx hb dX11_count_77 ?_
              refine zz_i (v := nI ((cntP (fun g => ¬ (tn g).toInt = 0) q) + 1)) (nI_add (cntP (fun g => ¬ (tn g).toInt = 0) q) 1) ?_
              refine lv_istore (lv' := [(4, .int (nI ((cntP (fun g => ¬ (tn g).toInt = 0) q) + 1))), (3, .int (nI ((cntP (fun g => (st g).toInt = 2) q) + 0))), (2, .int (nI ((cntP (fun g => (st g).toInt = 1) q) + 1))), (6, .int (nI q)), (5, .int (nI (smP (lvF ft st tn) (fun g => nN (mn g)) q))), (0, .ref k0), (1, .int 6)]) hx hb dX11_count_78 hl (Nat.le_of_ble_eq_true rfl) rfl (fun ls hl => ?_)
              refine lv_iload hx hb dX11_count_80 (lv_at hl 4 rfl) ?_
              refine lv_aload_n hx hb dX11_count_82 rfl (lv_at hl 5 rfl) ?_
              refine lv_iload hx hb dX11_count_83 (lv_at hl 3 rfl) ?_
              obtain ⟨hPc, hDc, hFc, hI1⟩ := zi_sub (wc := [_, _, _]) hP hD hS hA [0, 1, 2] rfl rfl
              refine zcall (st1 := [.int (pI (q < ft ∧ (st q).toInt = 1 ∧ (tn q).toInt = 0)), .int (nI (smP (lvF ft st tn) (fun g => nN (mn g)) q))]) (va_runV (As := [.int (nI q)]) (rest := [.int (nI (smP (lvF ft st tn) (fun g => nN (mn g)) q))]) ⟨hx, hb, hml, hown, hts⟩ (k_M_is_n l dC dI cI cZ cF H.size k0 a I0 J0 q ft st tn (by first | with_reducible assumption | assumption) (by first | with_reducible assumption | omega) (by first | with_reducible assumption | omega)) (csV_179 hts rfl rfl ⟨Nat.le_of_ble_eq_true rfl, Nat.le_of_ble_eq_true rfl⟩) (zPV2 (q0 := 0) (ci := 9) hPc hDc hK hXN rfl rfl) rfl rfl hl.1 rfl (lv_room (Nat.le_of_ble_eq_true rfl)) dX11_count_85 ⟨Nat.le_of_ble_eq_true rfl, Nat.le_of_ble_eq_true rfl⟩) hS hFc hFc rfl (fun t H locs ht hB hk1 hS => ?_)
              obtain ⟨hP1, hD1⟩ := hB
              rw [ht] at hP1
              replace hP := z0 hP hD hk1 hP1 hI1
              clear hk1 hPc hDc hFc hP1 hD1 ht hI1
              refine lv_if_eq (tgt := 101) hx hb dX11_count_88 rfl (fun c_16 => ?_) (fun c_16 => ?_)
              · have c_16 : ¬ (q < ft ∧ (st q).toInt = 1 ∧ (tn q).toInt = 0) := zp_0 c_16
                refine lv_iconst (v := 0) hx hb dX11_count_101 rfl ?_
                refine lv_iadd hx hb dX11_count_102 ?_
                refine zz_i (v := nI ((smP (lvF ft st tn) (fun g => nN (mn g)) q) + 0)) (nI_add (smP (lvF ft st tn) (fun g => nN (mn g)) q) 0) ?_
                refine lv_istore (lv' := [(5, .int (nI ((smP (lvF ft st tn) (fun g => nN (mn g)) q) + 0))), (4, .int (nI ((cntP (fun g => ¬ (tn g).toInt = 0) q) + 1))), (3, .int (nI ((cntP (fun g => (st g).toInt = 2) q) + 0))), (2, .int (nI ((cntP (fun g => (st g).toInt = 1) q) + 1))), (6, .int (nI q)), (0, .ref k0), (1, .int 6)]) hx hb dX11_count_103 hl (Nat.le_of_ble_eq_true rfl) rfl (fun ls hl => ?_)
                refine lv_iinc (v := nI (q + 1)) (lv' := [(6, .int (nI (q + 1))), (5, .int (nI ((smP (lvF ft st tn) (fun g => nN (mn g)) q) + 0))), (4, .int (nI ((cntP (fun g => ¬ (tn g).toInt = 0) q) + 1))), (3, .int (nI ((cntP (fun g => (st g).toInt = 2) q) + 0))), (2, .int (nI ((cntP (fun g => (st g).toInt = 1) q) + 1))), (0, .ref k0), (1, .int 6)]) hx hb dX11_count_105 hl (k := 4) rfl (nI_add q 1) (Nat.le_of_ble_eq_true rfl) rfl (fun ls hl => ?_)
                refine lv_goto (tgt := 13) hx hb dX11_count_108 rfl ?_
                have hl9 := lv_sub hl [0, 1, 2, 3, 4, 5, 6] rfl
                have e9_2 : nI (cntP (fun g => (st g).toInt = 1) (q + 1)) = (nI ((cntP (fun g => (st g).toInt = 1) q) + 1) : Int32) := by first | exact congrArg nI (cntP_y (P := fun g => (st g).toInt = 1) (show (st q).toInt = 1 by omega)) | exact congrArg nI (cntP_n0 (P := fun g => (st g).toInt = 1) (show ¬ (st q).toInt = 1 by omega))
                have e9_3 : nI (cntP (fun g => (st g).toInt = 2) (q + 1)) = (nI ((cntP (fun g => (st g).toInt = 2) q) + 0) : Int32) := by first | exact congrArg nI (cntP_y (P := fun g => (st g).toInt = 2) (show (st q).toInt = 2 by omega)) | exact congrArg nI (cntP_n0 (P := fun g => (st g).toInt = 2) (show ¬ (st q).toInt = 2 by omega))
                have e9_4 : nI (cntP (fun g => ¬ (tn g).toInt = 0) (q + 1)) = (nI ((cntP (fun g => ¬ (tn g).toInt = 0) q) + 1) : Int32) := by first | exact congrArg nI (cntP_y (P := fun g => ¬ (tn g).toInt = 0) (show ¬ (tn q).toInt = 0 by omega)) | exact congrArg nI (cntP_n0 (P := fun g => ¬ (tn g).toInt = 0) (show ¬ ¬ (tn q).toInt = 0 by omega))
                have e9_5 : nI (smP (lvF ft st tn) (fun g => nN (mn g)) (q + 1)) = (nI ((smP (lvF ft st tn) (fun g => nN (mn g)) q) + 0) : Int32) := by first | exact congrArg nI (smP_y (P := lvF ft st tn) (by first | with_reducible assumption | assumption)) | exact congrArg nI (smP_n (P := lvF ft st tn) (by first | with_reducible assumption | assumption))
                have hl9 : lv_has ls 7 [(6, .int (nI (q + 1))), (5, .int (nI (smP (lvF ft st tn) (fun g => nN (mn g)) (q + 1)))), (4, .int (nI (cntP (fun g => ¬ (tn g).toInt = 0) (q + 1)))), (3, .int (nI (cntP (fun g => (st g).toInt = 2) (q + 1)))), (2, .int (nI (cntP (fun g => (st g).toInt = 1) (q + 1)))), (0, .ref k0), (1, .int 6)] := by rw [e9_2]; rw [e9_3]; rw [e9_4]; rw [e9_5]; exact hl9
                exact ih_13 (q + 1) H locs ls (by first | with_reducible assumption | omega) (by first | with_reducible assumption | omega) hP hD hS hl9
              · have c_16 : q < ft ∧ (st q).toInt = 1 ∧ (tn q).toInt = 0 := zp_1 c_16
                refine lv_aload_n hx hb dX11_count_91 rfl (lv_at hl 5 rfl) ?_
                refine va_get (D := (dC, dI)) (ci := 9) (v := .ref (a 11)) (C := RX11) (T := TX11) (N := 55) hx hb hts inX11 hown hK hP 0 rfl rfl 11 (Nat.le_of_ble_eq_true rfl) (hts _ mw_1170) (fun _ h9 => h9) rfl dX11_count_92 ?_
                refine lv_iload hx hb dX11_count_95 (lv_at hl 3 rfl) ?_
                refine z_iald hx hb hK hP 3 0 rfl rfl (e := q) rfl b9_4 (Nat.le_of_ble_eq_true rfl) dX11_count_97 ?_
                refine zz_i (v := nI (nN (mn q))) ((hmw q (by first | with_reducible assumption | assumption)).1) ?_
                refine lv_goto (tgt := 102) hx hb dX11_count_98 rfl ?_
                refine lv_iadd hx hb dX11_count_102 ?_
                refine zz_i (v := nI ((smP (lvF ft st tn) (fun g => nN (mn g)) q) + (nN (mn q)))) (nI_add (smP (lvF ft st tn) (fun g => nN (mn g)) q) (nN (mn q))) ?_
                refine lv_istore (lv' := [(5, .int (nI ((smP (lvF ft st tn) (fun g => nN (mn g)) q) + (nN (mn q))))), (4, .int (nI ((cntP (fun g => ¬ (tn g).toInt = 0) q) + 1))), (3, .int (nI ((cntP (fun g => (st g).toInt = 2) q) + 0))), (2, .int (nI ((cntP (fun g => (st g).toInt = 1) q) + 1))), (6, .int (nI q)), (0, .ref k0), (1, .int 6)]) hx hb dX11_count_103 hl (Nat.le_of_ble_eq_true rfl) rfl (fun ls hl => ?_)
                refine lv_iinc (v := nI (q + 1)) (lv' := [(6, .int (nI (q + 1))), (5, .int (nI ((smP (lvF ft st tn) (fun g => nN (mn g)) q) + (nN (mn q))))), (4, .int (nI ((cntP (fun g => ¬ (tn g).toInt = 0) q) + 1))), (3, .int (nI ((cntP (fun g => (st g).toInt = 2) q) + 0))), (2, .int (nI ((cntP (fun g => (st g).toInt = 1) q) + 1))), (0, .ref k0), (1, .int 6)]) hx hb dX11_count_105 hl (k := 4) rfl (nI_add q 1) (Nat.le_of_ble_eq_true rfl) rfl (fun ls hl => ?_)
                refine lv_goto (tgt := 13) hx hb dX11_count_108 rfl ?_
                have hl9 := lv_sub hl [0, 1, 2, 3, 4, 5, 6] rfl
                have e9_2 : nI (cntP (fun g => (st g).toInt = 1) (q + 1)) = (nI ((cntP (fun g => (st g).toInt = 1) q) + 1) : Int32) := by first | exact congrArg nI (cntP_y (P := fun g => (st g).toInt = 1) (show (st q).toInt = 1 by omega)) | exact congrArg nI (cntP_n0 (P := fun g => (st g).toInt = 1) (show ¬ (st q).toInt = 1 by omega))
                have e9_3 : nI (cntP (fun g => (st g).toInt = 2) (q + 1)) = (nI ((cntP (fun g => (st g).toInt = 2) q) + 0) : Int32) := by first | exact congrArg nI (cntP_y (P := fun g => (st g).toInt = 2) (show (st q).toInt = 2 by omega)) | exact congrArg nI (cntP_n0 (P := fun g => (st g).toInt = 2) (show ¬ (st q).toInt = 2 by omega))
                have e9_4 : nI (cntP (fun g => ¬ (tn g).toInt = 0) (q + 1)) = (nI ((cntP (fun g => ¬ (tn g).toInt = 0) q) + 1) : Int32) := by first | exact congrArg nI (cntP_y (P := fun g => ¬ (tn g).toInt = 0) (show ¬ (tn q).toInt = 0 by omega)) | exact congrArg nI (cntP_n0 (P := fun g => ¬ (tn g).toInt = 0) (show ¬ ¬ (tn q).toInt = 0 by omega))
                have e9_5 : nI (smP (lvF ft st tn) (fun g => nN (mn g)) (q + 1)) = (nI ((smP (lvF ft st tn) (fun g => nN (mn g)) q) + (nN (mn q))) : Int32) := by first | exact congrArg nI (smP_y (P := lvF ft st tn) (by first | with_reducible assumption | assumption)) | exact congrArg nI (smP_n (P := lvF ft st tn) (by first | with_reducible assumption | assumption))
                have hl9 : lv_has ls 7 [(6, .int (nI (q + 1))), (5, .int (nI (smP (lvF ft st tn) (fun g => nN (mn g)) (q + 1)))), (4, .int (nI (cntP (fun g => ¬ (tn g).toInt = 0) (q + 1)))), (3, .int (nI (cntP (fun g => (st g).toInt = 2) (q + 1)))), (2, .int (nI (cntP (fun g => (st g).toInt = 1) (q + 1)))), (0, .ref k0), (1, .int 6)] := by rw [e9_2]; rw [e9_3]; rw [e9_4]; rw [e9_5]; exact hl9
                exact ih_13 (q + 1) H locs ls (by first | with_reducible assumption | omega) (by first | with_reducible assumption | omega) hP hD hS hl9
          · have c_13 : (st q).toInt = 2 := zc_eq rfl rfl c_13
            refine lv_iconst (v := 1) hx hb dX11_count_53 rfl ?_
            refine lv_goto (tgt := 58) hx hb dX11_count_54 rfl ?_
            refine lv_iadd hx hb dX11_count_58 ?_
            refine zz_i (v := nI ((cntP (fun g => (st g).toInt = 2) q) + 1)) (nI_add (cntP (fun g => (st g).toInt = 2) q) 1) ?_
            refine lv_istore_n (lv' := [(3, .int (nI ((cntP (fun g => (st g).toInt = 2) q) + 1))), (2, .int (nI ((cntP (fun g => (st g).toInt = 1) q) + 1))), (6, .int (nI q)), (5, .int (nI (smP (lvF ft st tn) (fun g => nN (mn g)) q))), (4, .int (nI (cntP (fun g => ¬ (tn g).toInt = 0) q))), (0, .ref k0), (1, .int 6)]) hx hb dX11_count_59 rfl hl (Nat.le_of_ble_eq_true rfl) rfl (fun ls hl => ?_)
            refine lv_iload hx hb dX11_count_60 (lv_at hl 4 rfl) ?_
            refine lv_aload_n hx hb dX11_count_62 rfl (lv_at hl 5 rfl) ?_
            refine va_get (D := (dC, dI)) (ci := 9) (v := .ref (a 6)) (C := RX11) (T := TX11) (N := 55) hx hb hts inX11 hown hK hP 0 rfl rfl 6 (Nat.le_of_ble_eq_true rfl) (hts _ mw_1165) (fun _ h9 => h9) rfl dX11_count_63 ?_
            refine lv_iload hx hb dX11_count_66 (lv_at hl 2 rfl) ?_
            refine z_zald hx hb hK hP 2 1 rfl rfl (e := q) rfl b9_4 (Nat.le_of_ble_eq_true rfl) dX11_count_68 ?_
            refine lv_if_eq (tgt := 76) hx hb dX11_count_69 rfl (fun c_17 => ?_) (fun c_17 => ?_)
            · have c_17 : (tn q).toInt = 0 := zc_eq rfl rfl c_17
              refine lv_iconst (v := 0) hx hb dX11_count_76 rfl ?_
              refine lv_iadd hx hb dX11_count_77 ?_
              refine zz_i (v := nI ((cntP (fun g => ¬ (tn g).toInt = 0) q) + 0)) (nI_add (cntP (fun g => ¬ (tn g).toInt = 0) q) 0) ?_
              refine lv_istore (lv' := [(4, .int (nI ((cntP (fun g => ¬ (tn g).toInt = 0) q) + 0))), (3, .int (nI ((cntP (fun g => (st g).toInt = 2) q) + 1))), (2, .int (nI ((cntP (fun g => (st g).toInt = 1) q) + 1))), (6, .int (nI q)), (5, .int (nI (smP (lvF ft st tn) (fun g => nN (mn g)) q))), (0, .ref k0), (1, .int 6)]) hx hb dX11_count_78 hl (Nat.le_of_ble_eq_true rfl) rfl (fun ls hl => ?_)
              refine lv_iload hx hb dX11_count_80 (lv_at hl 4 rfl) ?_
              refine lv_aload_n hx hb dX11_count_82 rfl (lv_at hl 5 rfl) ?_
              refine lv_iload hx hb dX11_count_83 (lv_at hl 3 rfl) ?_
              obtain ⟨hPc, hDc, hFc, hI1⟩ := zi_sub (wc := [_, _, _]) hP hD hS hA [0, 1, 2] rfl rfl
              refine zcall (st1 := [.int (pI (q < ft ∧ (st q).toInt = 1 ∧ (tn q).toInt = 0)), .int (nI (smP (lvF ft st tn) (fun g => nN (mn g)) q))]) (va_runV (As := [.int (nI q)]) (rest := [.int (nI (smP (lvF ft st tn) (fun g => nN (mn g)) q))]) ⟨hx, hb, hml, hown, hts⟩ (k_M_is_n l dC dI cI cZ cF H.size k0 a I0 J0 q ft st tn (by first | with_reducible assumption | assumption) (by first | with_reducible assumption | omega) (by first | with_reducible assumption | omega)) (csV_179 hts rfl rfl ⟨Nat.le_of_ble_eq_true rfl, Nat.le_of_ble_eq_true rfl⟩) (zPV2 (q0 := 0) (ci := 9) hPc hDc hK hXN rfl rfl) rfl rfl hl.1 rfl (lv_room (Nat.le_of_ble_eq_true rfl)) dX11_count_85 ⟨Nat.le_of_ble_eq_true rfl, Nat.le_of_ble_eq_true rfl⟩) hS hFc hFc rfl (fun t H locs ht hB hk1 hS => ?_)
              obtain ⟨hP1, hD1⟩ := hB
              rw [ht] at hP1
              replace hP := z0 hP hD hk1 hP1 hI1
              clear hk1 hPc hDc hFc hP1 hD1 ht hI1
              refine lv_if_eq (tgt := 101) hx hb dX11_count_88 rfl (fun c_18 => ?_) (fun c_18 => ?_)
              · have c_18 : ¬ (q < ft ∧ (st q).toInt = 1 ∧ (tn q).toInt = 0) := zp_0 c_18
                refine lv_iconst (v := 0) hx hb dX11_count_101 rfl ?_
                refine lv_iadd hx hb dX11_count_102 ?_
                refine zz_i (v := nI ((smP (lvF ft st tn) (fun g => nN (mn g)) q) + 0)) (nI_add (smP (lvF ft st tn) (fun g => nN (mn g)) q) 0) ?_
                refine lv_istore (lv' := [(5, .int (nI ((smP (lvF ft st tn) (fun g => nN (mn g)) q) + 0))), (4, .int (nI ((cntP (fun g => ¬ (tn g).toInt = 0) q) + 0))), (3, .int (nI ((cntP (fun g => (st g).toInt = 2) q) + 1))), (2, .int (nI ((cntP (fun g => (st g).toInt = 1) q) + 1))), (6, .int (nI q)), (0, .ref k0), (1, .int 6)]) hx hb dX11_count_103 hl (Nat.le_of_ble_eq_true rfl) rfl (fun ls hl => ?_)
                refine lv_iinc (v := nI (q + 1)) (lv' := [(6, .int (nI (q + 1))), (5, .int (nI ((smP (lvF ft st tn) (fun g => nN (mn g)) q) + 0))), (4, .int (nI ((cntP (fun g => ¬ (tn g).toInt = 0) q) + 0))), (3, .int (nI ((cntP (fun g => (st g).toInt = 2) q) + 1))), (2, .int (nI ((cntP (fun g => (st g).toInt = 1) q) + 1))), (0, .ref k0), (1, .int 6)]) hx hb dX11_count_105 hl (k := 4) rfl (nI_add q 1) (Nat.le_of_ble_eq_true rfl) rfl (fun ls hl => ?_)
                refine lv_goto (tgt := 13) hx hb dX11_count_108 rfl ?_
                have hl9 := lv_sub hl [0, 1, 2, 3, 4, 5, 6] rfl
                have e9_2 : nI (cntP (fun g => (st g).toInt = 1) (q + 1)) = (nI ((cntP (fun g => (st g).toInt = 1) q) + 1) : Int32) := by first | exact congrArg nI (cntP_y (P := fun g => (st g).toInt = 1) (show (st q).toInt = 1 by omega)) | exact congrArg nI (cntP_n0 (P := fun g => (st g).toInt = 1) (show ¬ (st q).toInt = 1 by omega))
                have e9_3 : nI (cntP (fun g => (st g).toInt = 2) (q + 1)) = (nI ((cntP (fun g => (st g).toInt = 2) q) + 1) : Int32) := by first | exact congrArg nI (cntP_y (P := fun g => (st g).toInt = 2) (show (st q).toInt = 2 by omega)) | exact congrArg nI (cntP_n0 (P := fun g => (st g).toInt = 2) (show ¬ (st q).toInt = 2 by omega))
                have e9_4 : nI (cntP (fun g => ¬ (tn g).toInt = 0) (q + 1)) = (nI ((cntP (fun g => ¬ (tn g).toInt = 0) q) + 0) : Int32) := by first | exact congrArg nI (cntP_y (P := fun g => ¬ (tn g).toInt = 0) (show ¬ (tn q).toInt = 0 by omega)) | exact congrArg nI (cntP_n0 (P := fun g => ¬ (tn g).toInt = 0) (show ¬ ¬ (tn q).toInt = 0 by omega))
                have e9_5 : nI (smP (lvF ft st tn) (fun g => nN (mn g)) (q + 1)) = (nI ((smP (lvF ft st tn) (fun g => nN (mn g)) q) + 0) : Int32) := by first | exact congrArg nI (smP_y (P := lvF ft st tn) (by first | with_reducible assumption | assumption)) | exact congrArg nI (smP_n (P := lvF ft st tn) (by first | with_reducible assumption | assumption))
                have hl9 : lv_has ls 7 [(6, .int (nI (q + 1))), (5, .int (nI (smP (lvF ft st tn) (fun g => nN (mn g)) (q + 1)))), (4, .int (nI (cntP (fun g => ¬ (tn g).toInt = 0) (q + 1)))), (3, .int (nI (cntP (fun g => (st g).toInt = 2) (q + 1)))), (2, .int (nI (cntP (fun g => (st g).toInt = 1) (q + 1)))), (0, .ref k0), (1, .int 6)] := by rw [e9_2]; rw [e9_3]; rw [e9_4]; rw [e9_5]; exact hl9
                exact ih_13 (q + 1) H locs ls (by first | with_reducible assumption | omega) (by first | with_reducible assumption | omega) hP hD hS hl9
              · have c_18 : q < ft ∧ (st q).toInt = 1 ∧ (tn q).toInt = 0 := zp_1 c_18
                refine lv_aload_n hx hb dX11_count_91 rfl (lv_at hl 5 rfl) ?_
                refine va_get (D := (dC, dI)) (ci := 9) (v := .ref (a 11)) (C := RX11) (T := TX11) (N := 55) hx hb hts inX11 hown hK hP 0 rfl rfl 11 (Nat.le_of_ble_eq_true rfl) (hts _ mw_1170) (fun _ h9 => h9) rfl dX11_count_92 ?_
                refine lv_iload hx hb dX11_count_95 (lv_at hl 3 rfl) ?_
                refine z_iald hx hb hK hP 3 0 rfl rfl (e := q) rfl b9_4 (Nat.le_of_ble_eq_true rfl) dX11_count_97 ?_
                refine zz_i (v := nI (nN (mn q))) ((hmw q (by first | with_reducible assumption | assumption)).1) ?_
                refine lv_goto (tgt := 102) hx hb dX11_count_98 rfl ?_
                refine lv_iadd hx hb dX11_count_102 ?_
                refine zz_i (v := nI ((smP (lvF ft st tn) (fun g => nN (mn g)) q) + (nN (mn q)))) (nI_add (smP (lvF ft st tn) (fun g => nN (mn g)) q) (nN (mn q))) ?_
                refine lv_istore (lv' := [(5, .int (nI ((smP (lvF ft st tn) (fun g => nN (mn g)) q) + (nN (mn q))))), (4, .int (nI ((cntP (fun g => ¬ (tn g).toInt = 0) q) + 0))), (3, .int (nI ((cntP (fun g => (st g).toInt = 2) q) + 1))), (2, .int (nI ((cntP (fun g => (st g).toInt = 1) q) + 1))), (6, .int (nI q)), (0, .ref k0), (1, .int 6)]) hx hb dX11_count_103 hl (Nat.le_of_ble_eq_true rfl) rfl (fun ls hl => ?_)
                refine lv_iinc (v := nI (q + 1)) (lv' := [(6, .int (nI (q + 1))), (5, .int (nI ((smP (lvF ft st tn) (fun g => nN (mn g)) q) + (nN (mn q))))), (4, .int (nI ((cntP (fun g => ¬ (tn g).toInt = 0) q) + 0))), (3, .int (nI ((cntP (fun g => (st g).toInt = 2) q) + 1))), (2, .int (nI ((cntP (fun g => (st g).toInt = 1) q) + 1))), (0, .ref k0), (1, .int 6)]) hx hb dX11_count_105 hl (k := 4) rfl (nI_add q 1) (Nat.le_of_ble_eq_true rfl) rfl (fun ls hl => ?_)
                refine lv_goto (tgt := 13) hx hb dX11_count_108 rfl ?_
                have hl9 := lv_sub hl [0, 1, 2, 3, 4, 5, 6] rfl
                have e9_2 : nI (cntP (fun g => (st g).toInt = 1) (q + 1)) = (nI ((cntP (fun g => (st g).toInt = 1) q) + 1) : Int32) := by first | exact congrArg nI (cntP_y (P := fun g => (st g).toInt = 1) (show (st q).toInt = 1 by omega)) | exact congrArg nI (cntP_n0 (P := fun g => (st g).toInt = 1) (show ¬ (st q).toInt = 1 by omega))
                have e9_3 : nI (cntP (fun g => (st g).toInt = 2) (q + 1)) = (nI ((cntP (fun g => (st g).toInt = 2) q) + 1) : Int32) := by first | exact congrArg nI (cntP_y (P := fun g => (st g).toInt = 2) (show (st q).toInt = 2 by omega)) | exact congrArg nI (cntP_n0 (P := fun g => (st g).toInt = 2) (show ¬ (st q).toInt = 2 by omega))
                have e9_4 : nI (cntP (fun g => ¬ (tn g).toInt = 0) (q + 1)) = (nI ((cntP (fun g => ¬ (tn g).toInt = 0) q) + 0) : Int32) := by first | exact congrArg nI (cntP_y (P := fun g => ¬ (tn g).toInt = 0) (show ¬ (tn q).toInt = 0 by omega)) | exact congrArg nI (cntP_n0 (P := fun g => ¬ (tn g).toInt = 0) (show ¬ ¬ (tn q).toInt = 0 by omega))
                have e9_5 : nI (smP (lvF ft st tn) (fun g => nN (mn g)) (q + 1)) = (nI ((smP (lvF ft st tn) (fun g => nN (mn g)) q) + (nN (mn q))) : Int32) := by first | exact congrArg nI (smP_y (P := lvF ft st tn) (by first | with_reducible assumption | assumption)) | exact congrArg nI (smP_n (P := lvF ft st tn) (by first | with_reducible assumption | assumption))
                have hl9 : lv_has ls 7 [(6, .int (nI (q + 1))), (5, .int (nI (smP (lvF ft st tn) (fun g => nN (mn g)) (q + 1)))), (4, .int (nI (cntP (fun g => ¬ (tn g).toInt = 0) (q + 1)))), (3, .int (nI (cntP (fun g => (st g).toInt = 2) (q + 1)))), (2, .int (nI (cntP (fun g => (st g).toInt = 1) (q + 1)))), (0, .ref k0), (1, .int 6)] := by rw [e9_2]; rw [e9_3]; rw [e9_4]; rw [e9_5]; exact hl9
                exact ih_13 (q + 1) H locs ls (by first | with_reducible assumption | omega) (by first | with_reducible assumption | omega) hP hD hS hl9
            · have c_17 : ¬ (tn q).toInt = 0 := zc_ne rfl rfl c_17
              refine lv_iconst (v := 1) hx hb dX11_count_72 rfl ?_
              refine lv_goto (tgt := 77) hx hb dX11_count_73 rfl ?_
              refine lv_iadd hx hb dX11_count_77 ?_
              refine zz_i (v := nI ((cntP (fun g => ¬ (tn g).toInt = 0) q) + 1)) (nI_add (cntP (fun g => ¬ (tn g).toInt = 0) q) 1) ?_
              refine lv_istore (lv' := [(4, .int (nI ((cntP (fun g => ¬ (tn g).toInt = 0) q) + 1))), (3, .int (nI ((cntP (fun g => (st g).toInt = 2) q) + 1))), (2, .int (nI ((cntP (fun g => (st g).toInt = 1) q) + 1))), (6, .int (nI q)), (5, .int (nI (smP (lvF ft st tn) (fun g => nN (mn g)) q))), (0, .ref k0), (1, .int 6)]) hx hb dX11_count_78 hl (Nat.le_of_ble_eq_true rfl) rfl (fun ls hl => ?_)
              refine lv_iload hx hb dX11_count_80 (lv_at hl 4 rfl) ?_
              refine lv_aload_n hx hb dX11_count_82 rfl (lv_at hl 5 rfl) ?_
              refine lv_iload hx hb dX11_count_83 (lv_at hl 3 rfl) ?_
              obtain ⟨hPc, hDc, hFc, hI1⟩ := zi_sub (wc := [_, _, _]) hP hD hS hA [0, 1, 2] rfl rfl
              refine zcall (st1 := [.int (pI (q < ft ∧ (st q).toInt = 1 ∧ (tn q).toInt = 0)), .int (nI (smP (lvF ft st tn) (fun g => nN (mn g)) q))]) (va_runV (As := [.int (nI q)]) (rest := [.int (nI (smP (lvF ft st tn) (fun g => nN (mn g)) q))]) ⟨hx, hb, hml, hown, hts⟩ (k_M_is_n l dC dI cI cZ cF H.size k0 a I0 J0 q ft st tn (by first | with_reducible assumption | assumption) (by first | with_reducible assumption | omega) (by first | with_reducible assumption | omega)) (csV_179 hts rfl rfl ⟨Nat.le_of_ble_eq_true rfl, Nat.le_of_ble_eq_true rfl⟩) (zPV2 (q0 := 0) (ci := 9) hPc hDc hK hXN rfl rfl) rfl rfl hl.1 rfl (lv_room (Nat.le_of_ble_eq_true rfl)) dX11_count_85 ⟨Nat.le_of_ble_eq_true rfl, Nat.le_of_ble_eq_true rfl⟩) hS hFc hFc rfl (fun t H locs ht hB hk1 hS => ?_)
              obtain ⟨hP1, hD1⟩ := hB
              rw [ht] at hP1
              replace hP := z0 hP hD hk1 hP1 hI1
              clear hk1 hPc hDc hFc hP1 hD1 ht hI1
              refine lv_if_eq (tgt := 101) hx hb dX11_count_88 rfl (fun c_19 => ?_) (fun c_19 => ?_)
              · have c_19 : ¬ (q < ft ∧ (st q).toInt = 1 ∧ (tn q).toInt = 0) := zp_0 c_19
                refine lv_iconst (v := 0) hx hb dX11_count_101 rfl ?_
                refine lv_iadd hx hb dX11_count_102 ?_
                refine zz_i (v := nI ((smP (lvF ft st tn) (fun g => nN (mn g)) q) + 0)) (nI_add (smP (lvF ft st tn) (fun g => nN (mn g)) q) 0) ?_
                refine lv_istore (lv' := [(5, .int (nI ((smP (lvF ft st tn) (fun g => nN (mn g)) q) + 0))), (4, .int (nI ((cntP (fun g => ¬ (tn g).toInt = 0) q) + 1))), (3, .int (nI ((cntP (fun g => (st g).toInt = 2) q) + 1))), (2, .int (nI ((cntP (fun g => (st g).toInt = 1) q) + 1))), (6, .int (nI q)), (0, .ref k0), (1, .int 6)]) hx hb dX11_count_103 hl (Nat.le_of_ble_eq_true rfl) rfl (fun ls hl => ?_)
                refine lv_iinc (v := nI (q + 1)) (lv' := [(6, .int (nI (q + 1))), (5, .int (nI ((smP (lvF ft st tn) (fun g => nN (mn g)) q) + 0))), (4, .int (nI ((cntP (fun g => ¬ (tn g).toInt = 0) q) + 1))), (3, .int (nI ((cntP (fun g => (st g).toInt = 2) q) + 1))), (2, .int (nI ((cntP (fun g => (st g).toInt = 1) q) + 1))), (0, .ref k0), (1, .int 6)]) hx hb dX11_count_105 hl (k := 4) rfl (nI_add q 1) (Nat.le_of_ble_eq_true rfl) rfl (fun ls hl => ?_)
                refine lv_goto (tgt := 13) hx hb dX11_count_108 rfl ?_
                have hl9 := lv_sub hl [0, 1, 2, 3, 4, 5, 6] rfl
                have e9_2 : nI (cntP (fun g => (st g).toInt = 1) (q + 1)) = (nI ((cntP (fun g => (st g).toInt = 1) q) + 1) : Int32) := by first | exact congrArg nI (cntP_y (P := fun g => (st g).toInt = 1) (show (st q).toInt = 1 by omega)) | exact congrArg nI (cntP_n0 (P := fun g => (st g).toInt = 1) (show ¬ (st q).toInt = 1 by omega))
                have e9_3 : nI (cntP (fun g => (st g).toInt = 2) (q + 1)) = (nI ((cntP (fun g => (st g).toInt = 2) q) + 1) : Int32) := by first | exact congrArg nI (cntP_y (P := fun g => (st g).toInt = 2) (show (st q).toInt = 2 by omega)) | exact congrArg nI (cntP_n0 (P := fun g => (st g).toInt = 2) (show ¬ (st q).toInt = 2 by omega))
                have e9_4 : nI (cntP (fun g => ¬ (tn g).toInt = 0) (q + 1)) = (nI ((cntP (fun g => ¬ (tn g).toInt = 0) q) + 1) : Int32) := by first | exact congrArg nI (cntP_y (P := fun g => ¬ (tn g).toInt = 0) (show ¬ (tn q).toInt = 0 by omega)) | exact congrArg nI (cntP_n0 (P := fun g => ¬ (tn g).toInt = 0) (show ¬ ¬ (tn q).toInt = 0 by omega))
                have e9_5 : nI (smP (lvF ft st tn) (fun g => nN (mn g)) (q + 1)) = (nI ((smP (lvF ft st tn) (fun g => nN (mn g)) q) + 0) : Int32) := by first | exact congrArg nI (smP_y (P := lvF ft st tn) (by first | with_reducible assumption | assumption)) | exact congrArg nI (smP_n (P := lvF ft st tn) (by first | with_reducible assumption | assumption))
                have hl9 : lv_has ls 7 [(6, .int (nI (q + 1))), (5, .int (nI (smP (lvF ft st tn) (fun g => nN (mn g)) (q + 1)))), (4, .int (nI (cntP (fun g => ¬ (tn g).toInt = 0) (q + 1)))), (3, .int (nI (cntP (fun g => (st g).toInt = 2) (q + 1)))), (2, .int (nI (cntP (fun g => (st g).toInt = 1) (q + 1)))), (0, .ref k0), (1, .int 6)] := by rw [e9_2]; rw [e9_3]; rw [e9_4]; rw [e9_5]; exact hl9
                exact ih_13 (q + 1) H locs ls (by first | with_reducible assumption | omega) (by first | with_reducible assumption | omega) hP hD hS hl9
              · have c_19 : q < ft ∧ (st q).toInt = 1 ∧ (tn q).toInt = 0 := zp_1 c_19
                refine lv_aload_n hx hb dX11_count_91 rfl (lv_at hl 5 rfl) ?_
                refine va_get (D := (dC, dI)) (ci := 9) (v := .ref (a 11)) (C := RX11) (T := TX11) (N := 55) hx hb hts inX11 hown hK hP 0 rfl rfl 11 (Nat.le_of_ble_eq_true rfl) (hts _ mw_1170) (fun _ h9 => h9) rfl dX11_count_92 ?_
                refine lv_iload hx hb dX11_count_95 (lv_at hl 3 rfl) ?_
                refine z_iald hx hb hK hP 3 0 rfl rfl (e := q) rfl b9_4 (Nat.le_of_ble_eq_true rfl) dX11_count_97 ?_
                refine zz_i (v := nI (nN (mn q))) ((hmw q (by first | with_reducible assumption | assumption)).1) ?_
                refine lv_goto (tgt := 102) hx hb dX11_count_98 rfl ?_
                refine lv_iadd hx hb dX11_count_102 ?_
                refine zz_i (v := nI ((smP (lvF ft st tn) (fun g => nN (mn g)) q) + (nN (mn q)))) (nI_add (smP (lvF ft st tn) (fun g => nN (mn g)) q) (nN (mn q))) ?_
                refine lv_istore (lv' := [(5, .int (nI ((smP (lvF ft st tn) (fun g => nN (mn g)) q) + (nN (mn q))))), (4, .int (nI ((cntP (fun g => ¬ (tn g).toInt = 0) q) + 1))), (3, .int (nI ((cntP (fun g => (st g).toInt = 2) q) + 1))), (2, .int (nI ((cntP (fun g => (st g).toInt = 1) q) + 1))), (6, .int (nI q)), (0, .ref k0), (1, .int 6)]) hx hb dX11_count_103 hl (Nat.le_of_ble_eq_true rfl) rfl (fun ls hl => ?_)
                refine lv_iinc (v := nI (q + 1)) (lv' := [(6, .int (nI (q + 1))), (5, .int (nI ((smP (lvF ft st tn) (fun g => nN (mn g)) q) + (nN (mn q))))), (4, .int (nI ((cntP (fun g => ¬ (tn g).toInt = 0) q) + 1))), (3, .int (nI ((cntP (fun g => (st g).toInt = 2) q) + 1))), (2, .int (nI ((cntP (fun g => (st g).toInt = 1) q) + 1))), (0, .ref k0), (1, .int 6)]) hx hb dX11_count_105 hl (k := 4) rfl (nI_add q 1) (Nat.le_of_ble_eq_true rfl) rfl (fun ls hl => ?_)
                refine lv_goto (tgt := 13) hx hb dX11_count_108 rfl ?_
                have hl9 := lv_sub hl [0, 1, 2, 3, 4, 5, 6] rfl
                have e9_2 : nI (cntP (fun g => (st g).toInt = 1) (q + 1)) = (nI ((cntP (fun g => (st g).toInt = 1) q) + 1) : Int32) := by first | exact congrArg nI (cntP_y (P := fun g => (st g).toInt = 1) (show (st q).toInt = 1 by omega)) | exact congrArg nI (cntP_n0 (P := fun g => (st g).toInt = 1) (show ¬ (st q).toInt = 1 by omega))
                have e9_3 : nI (cntP (fun g => (st g).toInt = 2) (q + 1)) = (nI ((cntP (fun g => (st g).toInt = 2) q) + 1) : Int32) := by first | exact congrArg nI (cntP_y (P := fun g => (st g).toInt = 2) (show (st q).toInt = 2 by omega)) | exact congrArg nI (cntP_n0 (P := fun g => (st g).toInt = 2) (show ¬ (st q).toInt = 2 by omega))
                have e9_4 : nI (cntP (fun g => ¬ (tn g).toInt = 0) (q + 1)) = (nI ((cntP (fun g => ¬ (tn g).toInt = 0) q) + 1) : Int32) := by first | exact congrArg nI (cntP_y (P := fun g => ¬ (tn g).toInt = 0) (show ¬ (tn q).toInt = 0 by omega)) | exact congrArg nI (cntP_n0 (P := fun g => ¬ (tn g).toInt = 0) (show ¬ ¬ (tn q).toInt = 0 by omega))
                have e9_5 : nI (smP (lvF ft st tn) (fun g => nN (mn g)) (q + 1)) = (nI ((smP (lvF ft st tn) (fun g => nN (mn g)) q) + (nN (mn q))) : Int32) := by first | exact congrArg nI (smP_y (P := lvF ft st tn) (by first | with_reducible assumption | assumption)) | exact congrArg nI (smP_n (P := lvF ft st tn) (by first | with_reducible assumption | assumption))
                have hl9 : lv_has ls 7 [(6, .int (nI (q + 1))), (5, .int (nI (smP (lvF ft st tn) (fun g => nN (mn g)) (q + 1)))), (4, .int (nI (cntP (fun g => ¬ (tn g).toInt = 0) (q + 1)))), (3, .int (nI (cntP (fun g => (st g).toInt = 2) (q + 1)))), (2, .int (nI (cntP (fun g => (st g).toInt = 1) (q + 1)))), (0, .ref k0), (1, .int 6)] := by rw [e9_2]; rw [e9_3]; rw [e9_4]; rw [e9_5]; exact hl9
                exact ih_13 (q + 1) H locs ls (by first | with_reducible assumption | omega) (by first | with_reducible assumption | omega) hP hD hS hl9
  have e9_2 : nI (cntP (fun g => (st g).toInt = 1) 0) = (0 : Int32) := by rfl
  have e9_3 : nI (cntP (fun g => (st g).toInt = 2) 0) = (0 : Int32) := by rfl
  have e9_4 : nI (cntP (fun g => ¬ (tn g).toInt = 0) 0) = (0 : Int32) := by rfl
  have e9_5 : nI (smP (lvF ft st tn) (fun g => nN (mn g)) 0) = (0 : Int32) := by rfl
  have hl9 : lv_has ls 7 [(6, .int (nI 0)), (5, .int (nI (smP (lvF ft st tn) (fun g => nN (mn g)) 0))), (4, .int (nI (cntP (fun g => ¬ (tn g).toInt = 0) 0))), (3, .int (nI (cntP (fun g => (st g).toInt = 2) 0))), (2, .int (nI (cntP (fun g => (st g).toInt = 1) 0))), (0, .ref k0), (1, .int 6)] := by rw [e9_2]; rw [e9_3]; rw [e9_4]; rw [e9_5]; exact lv_sub hl [0, 1, 2, 3, 4, 5, 6] rfl
  exact hl_13 _ 0 s.heap [] ls (Nat.lt_succ_self _) (by first | with_reducible assumption | omega) hP hD hS hl9
set_option maxHeartbeats 4000000 in
set_option maxRecDepth 100000 in
theorem k_M_count_7 (l : Launch) (dC : Nat → ClassId) (dI : Nat → Nat → Nat) (cI cZ cF : ClassId) (sz : Nat) (k0 : Nat) (a : Nat → Nat) (I0 : Nat → Int32) (J0 : Nat → Int64) (ft : Nat) (st : Nat → Int32) (tn : Nat → Int32) (mn : Nat → Int32) (hft : I0 0 = nI ft) (h200 : ft ≤ 200) (hmw : ∀ q, lvF ft st tn q → mn q = nI (nN (mn q)) ∧ nN (mn q) ≤ 40) : zM l yX11_count cX11_count 7 (some .int) ({ frames := 2, cells := 0, slots := 0, locals := 42 } : Room) [.ref k0, .int 7] (dC, dI) (zTy cI cZ cF) [(om k0 a I0 J0), (oa (a 5) cI 201 st), (oa (a 6) cZ 201 tn), (oa (a 11) cI 201 mn)] sz (some (.int (I0 15))) (fun A t => zPD (dC, dI) classes A [(om k0 a I0 J0), (oa (a 5) cI 201 st), (oa (a 6) cZ 201 tn), (oa (a 11) cI 201 mn)] t.heap) 0 0 := by
  refine zIn (own := "ScaleShopModel") (loc := [(0, .ref k0), (1, .int 7)]) rfl rfl rfl rfl (fun p e s m below meth c hx hb hr hts hown hlocks hml hnm9 A hA hS hP hD hK hXN Q9 hQ9 ls hl => ?_)
  refine lv_iconst (v := 0) hx hb dX11_count_0 rfl ?_
  refine lv_istore_n (lv' := [(2, .int 0), (0, .ref k0), (1, .int 7)]) hx hb dX11_count_1 rfl hl (Nat.le_of_ble_eq_true rfl) rfl (fun ls hl => ?_)
  refine lv_iconst (v := 0) hx hb dX11_count_2 rfl ?_
  refine lv_istore_n (lv' := [(3, .int 0), (2, .int 0), (0, .ref k0), (1, .int 7)]) hx hb dX11_count_3 rfl hl (Nat.le_of_ble_eq_true rfl) rfl (fun ls hl => ?_)
  refine lv_iconst (v := 0) hx hb dX11_count_4 rfl ?_
  refine lv_istore (lv' := [(4, .int 0), (3, .int 0), (2, .int 0), (0, .ref k0), (1, .int 7)]) hx hb dX11_count_5 hl (Nat.le_of_ble_eq_true rfl) rfl (fun ls hl => ?_)
  refine lv_iconst (v := 0) hx hb dX11_count_7 rfl ?_
  refine lv_istore (lv' := [(5, .int 0), (4, .int 0), (3, .int 0), (2, .int 0), (0, .ref k0), (1, .int 7)]) hx hb dX11_count_8 hl (Nat.le_of_ble_eq_true rfl) rfl (fun ls hl => ?_)
  refine lv_iconst (v := 0) hx hb dX11_count_10 rfl ?_
  refine lv_istore (lv' := [(6, .int 0), (5, .int 0), (4, .int 0), (3, .int 0), (2, .int 0), (0, .ref k0), (1, .int 7)]) hx hb dX11_count_11 hl (Nat.le_of_ble_eq_true rfl) rfl (fun ls hl => ?_)
  have hl_13 : ∀ (n9 : Nat) (q : Nat) (H : Heap) (locs : List Loc) (ls : Array Slot), ft - q < n9 → (q ≤ ft) → va_P (dC, dI) classes [(om k0 a I0 J0), (oa (a 5) cI 201 st), (oa (a 6) cZ 201 tn), (oa (a 11) cI 201 mn)] H → va_D A [(om k0 a I0 J0), (oa (a 5) cI 201 st), (oa (a 6) cZ 201 tn), (oa (a 11) cI 201 mn)] → va_S A s.heap H locs → lv_has ls 7 [(6, .int (nI q)), (5, .int (nI (smP (lvF ft st tn) (fun g => nN (mn g)) q))), (4, .int (nI (cntP (fun g => ¬ (tn g).toInt = 0) q))), (3, .int (nI (cntP (fun g => (st g).toInt = 2) q))), (2, .int (nI (cntP (fun g => (st g).toInt = 1) q))), (0, .ref k0), (1, .int 7)] → W p l e ({ frames := 2, cells := 0, slots := 0, locals := 42 } : Room) s m ([.ref k0, .int 7] : List Value).toArray below meth c H locs 0 0 Q9 (F0 m 13 ls []) := by
    intro n9
    induction n9 with
    | zero => intro q H locs ls hm; exact absurd hm (Nat.not_lt_zero _)
    | succ n9 ih_13 =>
      intro q H locs ls hm hq hP hD hS hl
      have hc2 := cntP_b (fun g => (st g).toInt = 1) q
      have hc3 := cntP_b (fun g => (st g).toInt = 2) q
      have hc4 := cntP_b (fun g => ¬ (tn g).toInt = 0) q
      have hc5 := smP_b (P := lvF ft st tn) (c := fun g => nN (mn g)) q (fun j _ h => (hmw j h).2)
      refine lv_iload hx hb dX11_count_13 (lv_at hl 0 rfl) ?_
      refine lv_aload_n hx hb dX11_count_15 rfl (lv_at hl 5 rfl) ?_
      refine va_get (D := (dC, dI)) (ci := 9) (v := .int (I0 0)) (C := RX11) (T := TX11) (N := 55) hx hb hts inX11 hown hK hP 0 rfl rfl 0 (Nat.le_of_ble_eq_true rfl) (hts _ mw_1159) (fun _ h9 => h9) rfl dX11_count_16 ?_
      refine zz_i (v := nI ft) (hft) ?_
      have b9_2 : zlt (q) := show q < 2147483648 by omega
      have b9_3 : zlt (ft) := show ft < 2147483648 by omega
      refine lv_icmp_ge (tgt := 111) hx hb dX11_count_19 rfl (fun c_1 => ?_) (fun c_1 => ?_)
      · have c_1 : ((ft : Nat) : Int) ≤ ((q : Nat) : Int) := zc_le (nI_toInt b9_3) (nI_toInt b9_2) c_1
        refine lv_iload_n hx hb dX11_count_111 rfl (lv_at hl 6 rfl) ?_
        refine lv_tableIn (tgt := 185) (off := 73) hx hb dX11_count_112 (by decide) (by decide) (by decide) (by decide) ?_
        refine lv_aload_n hx hb dX11_count_185 rfl (lv_at hl 5 rfl) ?_
        refine va_get (D := (dC, dI)) (ci := 9) (v := .int (I0 15)) (C := RX11) (T := TX11) (N := 55) hx hb hts inX11 hown hK hP 0 rfl rfl 15 (Nat.le_of_ble_eq_true rfl) (hts _ mw_1174) (fun _ h9 => h9) rfl dX11_count_186 ?_
        obtain ⟨hP9, hD9⟩ := zu_sub (wc := [_, _, _, _]) hP hD [true, true, true, true] rfl rfl
        rw [hQ9]
        exact W.iret (v := I0 15) hx hb hr (fun t ht hW => ⟨⟨rfl, by rw [ht]; exact hP9, hD9⟩, hS.F ht⟩) hS.2.2 dX11_count_189
      · have c_1 : ((q : Nat) : Int) < ((ft : Nat) : Int) := zc_nle (nI_toInt b9_3) (nI_toInt b9_2) c_1
        refine lv_iload_n hx hb dX11_count_22 rfl (lv_at hl 4 rfl) ?_
        refine lv_aload_n hx hb dX11_count_23 rfl (lv_at hl 5 rfl) ?_
        refine va_get (D := (dC, dI)) (ci := 9) (v := .ref (a 5)) (C := RX11) (T := TX11) (N := 55) hx hb hts inX11 hown hK hP 0 rfl rfl 5 (Nat.le_of_ble_eq_true rfl) (hts _ mw_1164) (fun _ h9 => h9) rfl dX11_count_24 ?_
        refine lv_iload hx hb dX11_count_27 (lv_at hl 0 rfl) ?_
        have b9_4 : q < 201 := by omega
        refine z_iald hx hb hK hP 1 0 rfl rfl (e := q) rfl b9_4 (Nat.le_of_ble_eq_true rfl) dX11_count_29 ?_
        refine lv_iconst (v := 1) hx hb dX11_count_30 rfl ?_
        refine lv_icmp_ne (tgt := 38) hx hb dX11_count_31 rfl (fun c_5 => ?_) (fun c_5 => ?_)
        · have c_5 : ¬ (st q).toInt = 1 := zc_ne rfl rfl c_5
          refine lv_iconst (v := 0) hx hb dX11_count_38 rfl ?_
          refine lv_iadd hx hb dX11_count_39 ?_
          refine zz_i (v := nI ((cntP (fun g => (st g).toInt = 1) q) + 0)) (nI_add (cntP (fun g => (st g).toInt = 1) q) 0) ?_
          refine lv_istore_n (lv' := [(2, .int (nI ((cntP (fun g => (st g).toInt = 1) q) + 0))), (6, .int (nI q)), (5, .int (nI (smP (lvF ft st tn) (fun g => nN (mn g)) q))), (4, .int (nI (cntP (fun g => ¬ (tn g).toInt = 0) q))), (3, .int (nI (cntP (fun g => (st g).toInt = 2) q))), (0, .ref k0), (1, .int 7)]) hx hb dX11_count_40 rfl hl (Nat.le_of_ble_eq_true rfl) rfl (fun ls hl => ?_)
          refine lv_iload_n hx hb dX11_count_41 rfl (lv_at hl 4 rfl) ?_
          refine lv_aload_n hx hb dX11_count_42 rfl (lv_at hl 5 rfl) ?_
          refine va_get (D := (dC, dI)) (ci := 9) (v := .ref (a 5)) (C := RX11) (T := TX11) (N := 55) hx hb hts inX11 hown hK hP 0 rfl rfl 5 (Nat.le_of_ble_eq_true rfl) (hts _ mw_1164) (fun _ h9 => h9) rfl dX11_count_43 ?_
          refine lv_iload hx hb dX11_count_46 (lv_at hl 1 rfl) ?_
          refine z_iald hx hb hK hP 1 0 rfl rfl (e := q) rfl b9_4 (Nat.le_of_ble_eq_true rfl) dX11_count_48 ?_
          refine lv_iconst (v := 2) hx hb dX11_count_49 rfl ?_
          refine lv_icmp_ne (tgt := 57) hx hb dX11_count_50 rfl (fun c_6 => ?_) (fun c_6 => ?_)
          · have c_6 : ¬ (st q).toInt = 2 := zc_ne rfl rfl c_6
            refine lv_iconst (v := 0) hx hb dX11_count_57 rfl ?_
            refine lv_iadd hx hb dX11_count_58 ?_
            refine zz_i (v := nI ((cntP (fun g => (st g).toInt = 2) q) + 0)) (nI_add (cntP (fun g => (st g).toInt = 2) q) 0) ?_
            refine lv_istore_n (lv' := [(3, .int (nI ((cntP (fun g => (st g).toInt = 2) q) + 0))), (2, .int (nI ((cntP (fun g => (st g).toInt = 1) q) + 0))), (6, .int (nI q)), (5, .int (nI (smP (lvF ft st tn) (fun g => nN (mn g)) q))), (4, .int (nI (cntP (fun g => ¬ (tn g).toInt = 0) q))), (0, .ref k0), (1, .int 7)]) hx hb dX11_count_59 rfl hl (Nat.le_of_ble_eq_true rfl) rfl (fun ls hl => ?_)
            refine lv_iload hx hb dX11_count_60 (lv_at hl 4 rfl) ?_
            refine lv_aload_n hx hb dX11_count_62 rfl (lv_at hl 5 rfl) ?_
            refine va_get (D := (dC, dI)) (ci := 9) (v := .ref (a 6)) (C := RX11) (T := TX11) (N := 55) hx hb hts inX11 hown hK hP 0 rfl rfl 6 (Nat.le_of_ble_eq_true rfl) (hts _ mw_1165) (fun _ h9 => h9) rfl dX11_count_63 ?_
            refine lv_iload hx hb dX11_count_66 (lv_at hl 2 rfl) ?_
            refine z_zald hx hb hK hP 2 1 rfl rfl (e := q) rfl b9_4 (Nat.le_of_ble_eq_true rfl) dX11_count_68 ?_
            refine lv_if_eq (tgt := 76) hx hb dX11_count_69 rfl (fun c_7 => ?_) (fun c_7 => ?_)
            · have c_7 : (tn q).toInt = 0 := zc_eq rfl rfl c_7
              refine lv_iconst (v := 0) hx hb dX11_count_76 rfl ?_
              refine lv_iadd hx hb dX11_count_77 ?_
              refine zz_i (v := nI ((cntP (fun g => ¬ (tn g).toInt = 0) q) + 0)) (nI_add (cntP (fun g => ¬ (tn g).toInt = 0) q) 0) ?_
              refine lv_istore (lv' := [(4, .int (nI ((cntP (fun g => ¬ (tn g).toInt = 0) q) + 0))), (3, .int (nI ((cntP (fun g => (st g).toInt = 2) q) + 0))), (2, .int (nI ((cntP (fun g => (st g).toInt = 1) q) + 0))), (6, .int (nI q)), (5, .int (nI (smP (lvF ft st tn) (fun g => nN (mn g)) q))), (0, .ref k0), (1, .int 7)]) hx hb dX11_count_78 hl (Nat.le_of_ble_eq_true rfl) rfl (fun ls hl => ?_)
              refine lv_iload hx hb dX11_count_80 (lv_at hl 4 rfl) ?_
              refine lv_aload_n hx hb dX11_count_82 rfl (lv_at hl 5 rfl) ?_
              refine lv_iload hx hb dX11_count_83 (lv_at hl 3 rfl) ?_
              obtain ⟨hPc, hDc, hFc, hI1⟩ := zi_sub (wc := [_, _, _]) hP hD hS hA [0, 1, 2] rfl rfl
              refine zcall (st1 := [.int (pI (q < ft ∧ (st q).toInt = 1 ∧ (tn q).toInt = 0)), .int (nI (smP (lvF ft st tn) (fun g => nN (mn g)) q))]) (va_runV (As := [.int (nI q)]) (rest := [.int (nI (smP (lvF ft st tn) (fun g => nN (mn g)) q))]) ⟨hx, hb, hml, hown, hts⟩ (k_M_is_n l dC dI cI cZ cF H.size k0 a I0 J0 q ft st tn (by first | with_reducible assumption | assumption) (by first | with_reducible assumption | omega) (by first | with_reducible assumption | omega)) (csV_179 hts rfl rfl ⟨Nat.le_of_ble_eq_true rfl, Nat.le_of_ble_eq_true rfl⟩) (zPV2 (q0 := 0) (ci := 9) hPc hDc hK hXN rfl rfl) rfl rfl hl.1 rfl (lv_room (Nat.le_of_ble_eq_true rfl)) dX11_count_85 ⟨Nat.le_of_ble_eq_true rfl, Nat.le_of_ble_eq_true rfl⟩) hS hFc hFc rfl (fun t H locs ht hB hk1 hS => ?_)
              obtain ⟨hP1, hD1⟩ := hB
              rw [ht] at hP1
              replace hP := z0 hP hD hk1 hP1 hI1
              clear hk1 hPc hDc hFc hP1 hD1 ht hI1
              refine lv_if_eq (tgt := 101) hx hb dX11_count_88 rfl (fun c_8 => ?_) (fun c_8 => ?_)
              · have c_8 : ¬ (q < ft ∧ (st q).toInt = 1 ∧ (tn q).toInt = 0) := zp_0 c_8
                refine lv_iconst (v := 0) hx hb dX11_count_101 rfl ?_
                refine lv_iadd hx hb dX11_count_102 ?_
                refine zz_i (v := nI ((smP (lvF ft st tn) (fun g => nN (mn g)) q) + 0)) (nI_add (smP (lvF ft st tn) (fun g => nN (mn g)) q) 0) ?_
                refine lv_istore (lv' := [(5, .int (nI ((smP (lvF ft st tn) (fun g => nN (mn g)) q) + 0))), (4, .int (nI ((cntP (fun g => ¬ (tn g).toInt = 0) q) + 0))), (3, .int (nI ((cntP (fun g => (st g).toInt = 2) q) + 0))), (2, .int (nI ((cntP (fun g => (st g).toInt = 1) q) + 0))), (6, .int (nI q)), (0, .ref k0), (1, .int 7)]) hx hb dX11_count_103 hl (Nat.le_of_ble_eq_true rfl) rfl (fun ls hl => ?_)
                refine lv_iinc (v := nI (q + 1)) (lv' := [(6, .int (nI (q + 1))), (5, .int (nI ((smP (lvF ft st tn) (fun g => nN (mn g)) q) + 0))), (4, .int (nI ((cntP (fun g => ¬ (tn g).toInt = 0) q) + 0))), (3, .int (nI ((cntP (fun g => (st g).toInt = 2) q) + 0))), (2, .int (nI ((cntP (fun g => (st g).toInt = 1) q) + 0))), (0, .ref k0), (1, .int 7)]) hx hb dX11_count_105 hl (k := 4) rfl (nI_add q 1) (Nat.le_of_ble_eq_true rfl) rfl (fun ls hl => ?_)
                refine lv_goto (tgt := 13) hx hb dX11_count_108 rfl ?_
                have hl9 := lv_sub hl [0, 1, 2, 3, 4, 5, 6] rfl
                have e9_2 : nI (cntP (fun g => (st g).toInt = 1) (q + 1)) = (nI ((cntP (fun g => (st g).toInt = 1) q) + 0) : Int32) := by first | exact congrArg nI (cntP_y (P := fun g => (st g).toInt = 1) (show (st q).toInt = 1 by omega)) | exact congrArg nI (cntP_n0 (P := fun g => (st g).toInt = 1) (show ¬ (st q).toInt = 1 by omega))
                have e9_3 : nI (cntP (fun g => (st g).toInt = 2) (q + 1)) = (nI ((cntP (fun g => (st g).toInt = 2) q) + 0) : Int32) := by first | exact congrArg nI (cntP_y (P := fun g => (st g).toInt = 2) (show (st q).toInt = 2 by omega)) | exact congrArg nI (cntP_n0 (P := fun g => (st g).toInt = 2) (show ¬ (st q).toInt = 2 by omega))
                have e9_4 : nI (cntP (fun g => ¬ (tn g).toInt = 0) (q + 1)) = (nI ((cntP (fun g => ¬ (tn g).toInt = 0) q) + 0) : Int32) := by first | exact congrArg nI (cntP_y (P := fun g => ¬ (tn g).toInt = 0) (show ¬ (tn q).toInt = 0 by omega)) | exact congrArg nI (cntP_n0 (P := fun g => ¬ (tn g).toInt = 0) (show ¬ ¬ (tn q).toInt = 0 by omega))
                have e9_5 : nI (smP (lvF ft st tn) (fun g => nN (mn g)) (q + 1)) = (nI ((smP (lvF ft st tn) (fun g => nN (mn g)) q) + 0) : Int32) := by first | exact congrArg nI (smP_y (P := lvF ft st tn) (by first | with_reducible assumption | assumption)) | exact congrArg nI (smP_n (P := lvF ft st tn) (by first | with_reducible assumption | assumption))
                have hl9 : lv_has ls 7 [(6, .int (nI (q + 1))), (5, .int (nI (smP (lvF ft st tn) (fun g => nN (mn g)) (q + 1)))), (4, .int (nI (cntP (fun g => ¬ (tn g).toInt = 0) (q + 1)))), (3, .int (nI (cntP (fun g => (st g).toInt = 2) (q + 1)))), (2, .int (nI (cntP (fun g => (st g).toInt = 1) (q + 1)))), (0, .ref k0), (1, .int 7)] := by rw [e9_2]; rw [e9_3]; rw [e9_4]; rw [e9_5]; exact hl9
                exact ih_13 (q + 1) H locs ls (by first | with_reducible assumption | omega) (by first | with_reducible assumption | omega) hP hD hS hl9
              · have c_8 : q < ft ∧ (st q).toInt = 1 ∧ (tn q).toInt = 0 := zp_1 c_8
                refine lv_aload_n hx hb dX11_count_91 rfl (lv_at hl 5 rfl) ?_
                refine va_get (D := (dC, dI)) (ci := 9) (v := .ref (a 11)) (C := RX11) (T := TX11) (N := 55) hx hb hts inX11 hown hK hP 0 rfl rfl 11 (Nat.le_of_ble_eq_true rfl) (hts _ mw_1170) (fun _ h9 => h9) rfl dX11_count_92 ?_
                refine lv_iload hx hb dX11_count_95 (lv_at hl 3 rfl) ?_
                refine z_iald hx hb hK hP 3 0 rfl rfl (e := q) rfl b9_4 (Nat.le_of_ble_eq_true rfl) dX11_count_97 ?_
                refine zz_i (v := nI (nN (mn q))) ((hmw q (by first | with_reducible assumption | assumption)).1) ?_
                refine lv_goto (tgt := 102) hx hb dX11_count_98 rfl ?_
                refine lv_iadd hx hb dX11_count_102 ?_
                refine zz_i (v := nI ((smP (lvF ft st tn) (fun g => nN (mn g)) q) + (nN (mn q)))) (nI_add (smP (lvF ft st tn) (fun g => nN (mn g)) q) (nN (mn q))) ?_
                refine lv_istore (lv' := [(5, .int (nI ((smP (lvF ft st tn) (fun g => nN (mn g)) q) + (nN (mn q))))), (4, .int (nI ((cntP (fun g => ¬ (tn g).toInt = 0) q) + 0))), (3, .int (nI ((cntP (fun g => (st g).toInt = 2) q) + 0))), (2, .int (nI ((cntP (fun g => (st g).toInt = 1) q) + 0))), (6, .int (nI q)), (0, .ref k0), (1, .int 7)]) hx hb dX11_count_103 hl (Nat.le_of_ble_eq_true rfl) rfl (fun ls hl => ?_)
                refine lv_iinc (v := nI (q + 1)) (lv' := [(6, .int (nI (q + 1))), (5, .int (nI ((smP (lvF ft st tn) (fun g => nN (mn g)) q) + (nN (mn q))))), (4, .int (nI ((cntP (fun g => ¬ (tn g).toInt = 0) q) + 0))), (3, .int (nI ((cntP (fun g => (st g).toInt = 2) q) + 0))), (2, .int (nI ((cntP (fun g => (st g).toInt = 1) q) + 0))), (0, .ref k0), (1, .int 7)]) hx hb dX11_count_105 hl (k := 4) rfl (nI_add q 1) (Nat.le_of_ble_eq_true rfl) rfl (fun ls hl => ?_)
                refine lv_goto (tgt := 13) hx hb dX11_count_108 rfl ?_
                have hl9 := lv_sub hl [0, 1, 2, 3, 4, 5, 6] rfl
                have e9_2 : nI (cntP (fun g => (st g).toInt = 1) (q + 1)) = (nI ((cntP (fun g => (st g).toInt = 1) q) + 0) : Int32) := by first | exact congrArg nI (cntP_y (P := fun g => (st g).toInt = 1) (show (st q).toInt = 1 by omega)) | exact congrArg nI (cntP_n0 (P := fun g => (st g).toInt = 1) (show ¬ (st q).toInt = 1 by omega))
                have e9_3 : nI (cntP (fun g => (st g).toInt = 2) (q + 1)) = (nI ((cntP (fun g => (st g).toInt = 2) q) + 0) : Int32) := by first | exact congrArg nI (cntP_y (P := fun g => (st g).toInt = 2) (show (st q).toInt = 2 by omega)) | exact congrArg nI (cntP_n0 (P := fun g => (st g).toInt = 2) (show ¬ (st q).toInt = 2 by omega))
                have e9_4 : nI (cntP (fun g => ¬ (tn g).toInt = 0) (q + 1)) = (nI ((cntP (fun g => ¬ (tn g).toInt = 0) q) + 0) : Int32) := by first | exact congrArg nI (cntP_y (P := fun g => ¬ (tn g).toInt = 0) (show ¬ (tn q).toInt = 0 by omega)) | exact congrArg nI (cntP_n0 (P := fun g => ¬ (tn g).toInt = 0) (show ¬ ¬ (tn q).toInt = 0 by omega))
                have e9_5 : nI (smP (lvF ft st tn) (fun g => nN (mn g)) (q + 1)) = (nI ((smP (lvF ft st tn) (fun g => nN (mn g)) q) + (nN (mn q))) : Int32) := by first | exact congrArg nI (smP_y (P := lvF ft st tn) (by first | with_reducible assumption | assumption)) | exact congrArg nI (smP_n (P := lvF ft st tn) (by first | with_reducible assumption | assumption))
                have hl9 : lv_has ls 7 [(6, .int (nI (q + 1))), (5, .int (nI (smP (lvF ft st tn) (fun g => nN (mn g)) (q + 1)))), (4, .int (nI (cntP (fun g => ¬ (tn g).toInt = 0) (q + 1)))), (3, .int (nI (cntP (fun g => (st g).toInt = 2) (q + 1)))), (2, .int (nI (cntP (fun g => (st g).toInt = 1) (q + 1)))), (0, .ref k0), (1, .int 7)] := by rw [e9_2]; rw [e9_3]; rw [e9_4]; rw [e9_5]; exact hl9
                exact ih_13 (q + 1) H locs ls (by first | with_reducible assumption | omega) (by first | with_reducible assumption | omega) hP hD hS hl9
            · have c_7 : ¬ (tn q).toInt = 0 := zc_ne rfl rfl c_7
              refine lv_iconst (v := 1) hx hb dX11_count_72 rfl ?_
              refine lv_goto (tgt := 77) hx hb dX11_count_73 rfl ?_
              refine lv_iadd hx hb dX11_count_77 ?_
              refine zz_i (v := nI ((cntP (fun g => ¬ (tn g).toInt = 0) q) + 1)) (nI_add (cntP (fun g => ¬ (tn g).toInt = 0) q) 1) ?_
              refine lv_istore (lv' := [(4, .int (nI ((cntP (fun g => ¬ (tn g).toInt = 0) q) + 1))), (3, .int (nI ((cntP (fun g => (st g).toInt = 2) q) + 0))), (2, .int (nI ((cntP (fun g => (st g).toInt = 1) q) + 0))), (6, .int (nI q)), (5, .int (nI (smP (lvF ft st tn) (fun g => nN (mn g)) q))), (0, .ref k0), (1, .int 7)]) hx hb dX11_count_78 hl (Nat.le_of_ble_eq_true rfl) rfl (fun ls hl => ?_)
              refine lv_iload hx hb dX11_count_80 (lv_at hl 4 rfl) ?_
              refine lv_aload_n hx hb dX11_count_82 rfl (lv_at hl 5 rfl) ?_
              refine lv_iload hx hb dX11_count_83 (lv_at hl 3 rfl) ?_
              obtain ⟨hPc, hDc, hFc, hI1⟩ := zi_sub (wc := [_, _, _]) hP hD hS hA [0, 1, 2] rfl rfl
              refine zcall (st1 := [.int (pI (q < ft ∧ (st q).toInt = 1 ∧ (tn q).toInt = 0)), .int (nI (smP (lvF ft st tn) (fun g => nN (mn g)) q))]) (va_runV (As := [.int (nI q)]) (rest := [.int (nI (smP (lvF ft st tn) (fun g => nN (mn g)) q))]) ⟨hx, hb, hml, hown, hts⟩ (k_M_is_n l dC dI cI cZ cF H.size k0 a I0 J0 q ft st tn (by first | with_reducible assumption | assumption) (by first | with_reducible assumption | omega) (by first | with_reducible assumption | omega)) (csV_179 hts rfl rfl ⟨Nat.le_of_ble_eq_true rfl, Nat.le_of_ble_eq_true rfl⟩) (zPV2 (q0 := 0) (ci := 9) hPc hDc hK hXN rfl rfl) rfl rfl hl.1 rfl (lv_room (Nat.le_of_ble_eq_true rfl)) dX11_count_85 ⟨Nat.le_of_ble_eq_true rfl, Nat.le_of_ble_eq_true rfl⟩) hS hFc hFc rfl (fun t H locs ht hB hk1 hS => ?_)
              obtain ⟨hP1, hD1⟩ := hB
              rw [ht] at hP1
              replace hP := z0 hP hD hk1 hP1 hI1
              clear hk1 hPc hDc hFc hP1 hD1 ht hI1
              refine lv_if_eq (tgt := 101) hx hb dX11_count_88 rfl (fun c_9 => ?_) (fun c_9 => ?_)
              · have c_9 : ¬ (q < ft ∧ (st q).toInt = 1 ∧ (tn q).toInt = 0) := zp_0 c_9
                refine lv_iconst (v := 0) hx hb dX11_count_101 rfl ?_
                refine lv_iadd hx hb dX11_count_102 ?_
                refine zz_i (v := nI ((smP (lvF ft st tn) (fun g => nN (mn g)) q) + 0)) (nI_add (smP (lvF ft st tn) (fun g => nN (mn g)) q) 0) ?_
                refine lv_istore (lv' := [(5, .int (nI ((smP (lvF ft st tn) (fun g => nN (mn g)) q) + 0))), (4, .int (nI ((cntP (fun g => ¬ (tn g).toInt = 0) q) + 1))), (3, .int (nI ((cntP (fun g => (st g).toInt = 2) q) + 0))), (2, .int (nI ((cntP (fun g => (st g).toInt = 1) q) + 0))), (6, .int (nI q)), (0, .ref k0), (1, .int 7)]) hx hb dX11_count_103 hl (Nat.le_of_ble_eq_true rfl) rfl (fun ls hl => ?_)
                refine lv_iinc (v := nI (q + 1)) (lv' := [(6, .int (nI (q + 1))), (5, .int (nI ((smP (lvF ft st tn) (fun g => nN (mn g)) q) + 0))), (4, .int (nI ((cntP (fun g => ¬ (tn g).toInt = 0) q) + 1))), (3, .int (nI ((cntP (fun g => (st g).toInt = 2) q) + 0))), (2, .int (nI ((cntP (fun g => (st g).toInt = 1) q) + 0))), (0, .ref k0), (1, .int 7)]) hx hb dX11_count_105 hl (k := 4) rfl (nI_add q 1) (Nat.le_of_ble_eq_true rfl) rfl (fun ls hl => ?_)
                refine lv_goto (tgt := 13) hx hb dX11_count_108 rfl ?_
                have hl9 := lv_sub hl [0, 1, 2, 3, 4, 5, 6] rfl
                have e9_2 : nI (cntP (fun g => (st g).toInt = 1) (q + 1)) = (nI ((cntP (fun g => (st g).toInt = 1) q) + 0) : Int32) := by first | exact congrArg nI (cntP_y (P := fun g => (st g).toInt = 1) (show (st q).toInt = 1 by omega)) | exact congrArg nI (cntP_n0 (P := fun g => (st g).toInt = 1) (show ¬ (st q).toInt = 1 by omega))
                have e9_3 : nI (cntP (fun g => (st g).toInt = 2) (q + 1)) = (nI ((cntP (fun g => (st g).toInt = 2) q) + 0) : Int32) := by first | exact congrArg nI (cntP_y (P := fun g => (st g).toInt = 2) (show (st q).toInt = 2 by omega)) | exact congrArg nI (cntP_n0 (P := fun g => (st g).toInt = 2) (show ¬ (st q).toInt = 2 by omega))
                have e9_4 : nI (cntP (fun g => ¬ (tn g).toInt = 0) (q + 1)) = (nI ((cntP (fun g => ¬ (tn g).toInt = 0) q) + 1) : Int32) := by first | exact congrArg nI (cntP_y (P := fun g => ¬ (tn g).toInt = 0) (show ¬ (tn q).toInt = 0 by omega)) | exact congrArg nI (cntP_n0 (P := fun g => ¬ (tn g).toInt = 0) (show ¬ ¬ (tn q).toInt = 0 by omega))
                have e9_5 : nI (smP (lvF ft st tn) (fun g => nN (mn g)) (q + 1)) = (nI ((smP (lvF ft st tn) (fun g => nN (mn g)) q) + 0) : Int32) := by first | exact congrArg nI (smP_y (P := lvF ft st tn) (by first | with_reducible assumption | assumption)) | exact congrArg nI (smP_n (P := lvF ft st tn) (by first | with_reducible assumption | assumption))
                have hl9 : lv_has ls 7 [(6, .int (nI (q + 1))), (5, .int (nI (smP (lvF ft st tn) (fun g => nN (mn g)) (q + 1)))), (4, .int (nI (cntP (fun g => ¬ (tn g).toInt = 0) (q + 1)))), (3, .int (nI (cntP (fun g => (st g).toInt = 2) (q + 1)))), (2, .int (nI (cntP (fun g => (st g).toInt = 1) (q + 1)))), (0, .ref k0), (1, .int 7)] := by rw [e9_2]; rw [e9_3]; rw [e9_4]; rw [e9_5]; exact hl9
                exact ih_13 (q + 1) H locs ls (by first | with_reducible assumption | omega) (by first | with_reducible assumption | omega) hP hD hS hl9
              · have c_9 : q < ft ∧ (st q).toInt = 1 ∧ (tn q).toInt = 0 := zp_1 c_9
                refine lv_aload_n hx hb dX11_count_91 rfl (lv_at hl 5 rfl) ?_
                refine va_get (D := (dC, dI)) (ci := 9) (v := .ref (a 11)) (C := RX11) (T := TX11) (N := 55) hx hb hts inX11 hown hK hP 0 rfl rfl 11 (Nat.le_of_ble_eq_true rfl) (hts _ mw_1170) (fun _ h9 => h9) rfl dX11_count_92 ?_
                refine lv_iload hx hb dX11_count_95 (lv_at hl 3 rfl) ?_
                refine z_iald hx hb hK hP 3 0 rfl rfl (e := q) rfl b9_4 (Nat.le_of_ble_eq_true rfl) dX11_count_97 ?_
                refine zz_i (v := nI (nN (mn q))) ((hmw q (by first | with_reducible assumption | assumption)).1) ?_
                refine lv_goto (tgt := 102) hx hb dX11_count_98 rfl ?_
                refine lv_iadd hx hb dX11_count_102 ?_
                refine zz_i (v := nI ((smP (lvF ft st tn) (fun g => nN (mn g)) q) + (nN (mn q)))) (nI_add (smP (lvF ft st tn) (fun g => nN (mn g)) q) (nN (mn q))) ?_
                refine lv_istore (lv' := [(5, .int (nI ((smP (lvF ft st tn) (fun g => nN (mn g)) q) + (nN (mn q))))), (4, .int (nI ((cntP (fun g => ¬ (tn g).toInt = 0) q) + 1))), (3, .int (nI ((cntP (fun g => (st g).toInt = 2) q) + 0))), (2, .int (nI ((cntP (fun g => (st g).toInt = 1) q) + 0))), (6, .int (nI q)), (0, .ref k0), (1, .int 7)]) hx hb dX11_count_103 hl (Nat.le_of_ble_eq_true rfl) rfl (fun ls hl => ?_)
                refine lv_iinc (v := nI (q + 1)) (lv' := [(6, .int (nI (q + 1))), (5, .int (nI ((smP (lvF ft st tn) (fun g => nN (mn g)) q) + (nN (mn q))))), (4, .int (nI ((cntP (fun g => ¬ (tn g).toInt = 0) q) + 1))), (3, .int (nI ((cntP (fun g => (st g).toInt = 2) q) + 0))), (2, .int (nI ((cntP (fun g => (st g).toInt = 1) q) + 0))), (0, .ref k0), (1, .int 7)]) hx hb dX11_count_105 hl (k := 4) rfl (nI_add q 1) (Nat.le_of_ble_eq_true rfl) rfl (fun ls hl => ?_)
                refine lv_goto (tgt := 13) hx hb dX11_count_108 rfl ?_
                have hl9 := lv_sub hl [0, 1, 2, 3, 4, 5, 6] rfl
                have e9_2 : nI (cntP (fun g => (st g).toInt = 1) (q + 1)) = (nI ((cntP (fun g => (st g).toInt = 1) q) + 0) : Int32) := by first | exact congrArg nI (cntP_y (P := fun g => (st g).toInt = 1) (show (st q).toInt = 1 by omega)) | exact congrArg nI (cntP_n0 (P := fun g => (st g).toInt = 1) (show ¬ (st q).toInt = 1 by omega))
                have e9_3 : nI (cntP (fun g => (st g).toInt = 2) (q + 1)) = (nI ((cntP (fun g => (st g).toInt = 2) q) + 0) : Int32) := by first | exact congrArg nI (cntP_y (P := fun g => (st g).toInt = 2) (show (st q).toInt = 2 by omega)) | exact congrArg nI (cntP_n0 (P := fun g => (st g).toInt = 2) (show ¬ (st q).toInt = 2 by omega))
                have e9_4 : nI (cntP (fun g => ¬ (tn g).toInt = 0) (q + 1)) = (nI ((cntP (fun g => ¬ (tn g).toInt = 0) q) + 1) : Int32) := by first | exact congrArg nI (cntP_y (P := fun g => ¬ (tn g).toInt = 0) (show ¬ (tn q).toInt = 0 by omega)) | exact congrArg nI (cntP_n0 (P := fun g => ¬ (tn g).toInt = 0) (show ¬ ¬ (tn q).toInt = 0 by omega))
                have e9_5 : nI (smP (lvF ft st tn) (fun g => nN (mn g)) (q + 1)) = (nI ((smP (lvF ft st tn) (fun g => nN (mn g)) q) + (nN (mn q))) : Int32) := by first | exact congrArg nI (smP_y (P := lvF ft st tn) (by first | with_reducible assumption | assumption)) | exact congrArg nI (smP_n (P := lvF ft st tn) (by first | with_reducible assumption | assumption))
                have hl9 : lv_has ls 7 [(6, .int (nI (q + 1))), (5, .int (nI (smP (lvF ft st tn) (fun g => nN (mn g)) (q + 1)))), (4, .int (nI (cntP (fun g => ¬ (tn g).toInt = 0) (q + 1)))), (3, .int (nI (cntP (fun g => (st g).toInt = 2) (q + 1)))), (2, .int (nI (cntP (fun g => (st g).toInt = 1) (q + 1)))), (0, .ref k0), (1, .int 7)] := by rw [e9_2]; rw [e9_3]; rw [e9_4]; rw [e9_5]; exact hl9
                exact ih_13 (q + 1) H locs ls (by first | with_reducible assumption | omega) (by first | with_reducible assumption | omega) hP hD hS hl9
          · have c_6 : (st q).toInt = 2 := zc_eq rfl rfl c_6
            refine lv_iconst (v := 1) hx hb dX11_count_53 rfl ?_
            refine lv_goto (tgt := 58) hx hb dX11_count_54 rfl ?_
            refine lv_iadd hx hb dX11_count_58 ?_
            refine zz_i (v := nI ((cntP (fun g => (st g).toInt = 2) q) + 1)) (nI_add (cntP (fun g => (st g).toInt = 2) q) 1) ?_
            refine lv_istore_n (lv' := [(3, .int (nI ((cntP (fun g => (st g).toInt = 2) q) + 1))), (2, .int (nI ((cntP (fun g => (st g).toInt = 1) q) + 0))), (6, .int (nI q)), (5, .int (nI (smP (lvF ft st tn) (fun g => nN (mn g)) q))), (4, .int (nI (cntP (fun g => ¬ (tn g).toInt = 0) q))), (0, .ref k0), (1, .int 7)]) hx hb dX11_count_59 rfl hl (Nat.le_of_ble_eq_true rfl) rfl (fun ls hl => ?_)
            refine lv_iload hx hb dX11_count_60 (lv_at hl 4 rfl) ?_
            refine lv_aload_n hx hb dX11_count_62 rfl (lv_at hl 5 rfl) ?_
            refine va_get (D := (dC, dI)) (ci := 9) (v := .ref (a 6)) (C := RX11) (T := TX11) (N := 55) hx hb hts inX11 hown hK hP 0 rfl rfl 6 (Nat.le_of_ble_eq_true rfl) (hts _ mw_1165) (fun _ h9 => h9) rfl dX11_count_63 ?_
            refine lv_iload hx hb dX11_count_66 (lv_at hl 2 rfl) ?_
            refine z_zald hx hb hK hP 2 1 rfl rfl (e := q) rfl b9_4 (Nat.le_of_ble_eq_true rfl) dX11_count_68 ?_
            refine lv_if_eq (tgt := 76) hx hb dX11_count_69 rfl (fun c_10 => ?_) (fun c_10 => ?_)
            · have c_10 : (tn q).toInt = 0 := zc_eq rfl rfl c_10
              refine lv_iconst (v := 0) hx hb dX11_count_76 rfl ?_
              refine lv_iadd hx hb dX11_count_77 ?_
              refine zz_i (v := nI ((cntP (fun g => ¬ (tn g).toInt = 0) q) + 0)) (nI_add (cntP (fun g => ¬ (tn g).toInt = 0) q) 0) ?_
              refine lv_istore (lv' := [(4, .int (nI ((cntP (fun g => ¬ (tn g).toInt = 0) q) + 0))), (3, .int (nI ((cntP (fun g => (st g).toInt = 2) q) + 1))), (2, .int (nI ((cntP (fun g => (st g).toInt = 1) q) + 0))), (6, .int (nI q)), (5, .int (nI (smP (lvF ft st tn) (fun g => nN (mn g)) q))), (0, .ref k0), (1, .int 7)]) hx hb dX11_count_78 hl (Nat.le_of_ble_eq_true rfl) rfl (fun ls hl => ?_)
              refine lv_iload hx hb dX11_count_80 (lv_at hl 4 rfl) ?_
              refine lv_aload_n hx hb dX11_count_82 rfl (lv_at hl 5 rfl) ?_
              refine lv_iload hx hb dX11_count_83 (lv_at hl 3 rfl) ?_
              obtain ⟨hPc, hDc, hFc, hI1⟩ := zi_sub (wc := [_, _, _]) hP hD hS hA [0, 1, 2] rfl rfl
              refine zcall (st1 := [.int (pI (q < ft ∧ (st q).toInt = 1 ∧ (tn q).toInt = 0)), .int (nI (smP (lvF ft st tn) (fun g => nN (mn g)) q))]) (va_runV (As := [.int (nI q)]) (rest := [.int (nI (smP (lvF ft st tn) (fun g => nN (mn g)) q))]) ⟨hx, hb, hml, hown, hts⟩ (k_M_is_n l dC dI cI cZ cF H.size k0 a I0 J0 q ft st tn (by first | with_reducible assumption | assumption) (by first | with_reducible assumption | omega) (by first | with_reducible assumption | omega)) (csV_179 hts rfl rfl ⟨Nat.le_of_ble_eq_true rfl, Nat.le_of_ble_eq_true rfl⟩) (zPV2 (q0 := 0) (ci := 9) hPc hDc hK hXN rfl rfl) rfl rfl hl.1 rfl (lv_room (Nat.le_of_ble_eq_true rfl)) dX11_count_85 ⟨Nat.le_of_ble_eq_true rfl, Nat.le_of_ble_eq_true rfl⟩) hS hFc hFc rfl (fun t H locs ht hB hk1 hS => ?_)
              obtain ⟨hP1, hD1⟩ := hB
              rw [ht] at hP1
              replace hP := z0 hP hD hk1 hP1 hI1
              clear hk1 hPc hDc hFc hP1 hD1 ht hI1
              refine lv_if_eq (tgt := 101) hx hb dX11_count_88 rfl (fun c_11 => ?_) (fun c_11 => ?_)
              · have c_11 : ¬ (q < ft ∧ (st q).toInt = 1 ∧ (tn q).toInt = 0) := zp_0 c_11
                refine lv_iconst (v := 0) hx hb dX11_count_101 rfl ?_
                refine lv_iadd hx hb dX11_count_102 ?_
                refine zz_i (v := nI ((smP (lvF ft st tn) (fun g => nN (mn g)) q) + 0)) (nI_add (smP (lvF ft st tn) (fun g => nN (mn g)) q) 0) ?_
                refine lv_istore (lv' := [(5, .int (nI ((smP (lvF ft st tn) (fun g => nN (mn g)) q) + 0))), (4, .int (nI ((cntP (fun g => ¬ (tn g).toInt = 0) q) + 0))), (3, .int (nI ((cntP (fun g => (st g).toInt = 2) q) + 1))), (2, .int (nI ((cntP (fun g => (st g).toInt = 1) q) + 0))), (6, .int (nI q)), (0, .ref k0), (1, .int 7)]) hx hb dX11_count_103 hl (Nat.le_of_ble_eq_true rfl) rfl (fun ls hl => ?_)
                refine lv_iinc (v := nI (q + 1)) (lv' := [(6, .int (nI (q + 1))), (5, .int (nI ((smP (lvF ft st tn) (fun g => nN (mn g)) q) + 0))), (4, .int (nI ((cntP (fun g => ¬ (tn g).toInt = 0) q) + 0))), (3, .int (nI ((cntP (fun g => (st g).toInt = 2) q) + 1))), (2, .int (nI ((cntP (fun g => (st g).toInt = 1) q) + 0))), (0, .ref k0), (1, .int 7)]) hx hb dX11_count_105 hl (k := 4) rfl (nI_add q 1) (Nat.le_of_ble_eq_true rfl) rfl (fun ls hl => ?_)
                refine lv_goto (tgt := 13) hx hb dX11_count_108 rfl ?_
                have hl9 := lv_sub hl [0, 1, 2, 3, 4, 5, 6] rfl
                have e9_2 : nI (cntP (fun g => (st g).toInt = 1) (q + 1)) = (nI ((cntP (fun g => (st g).toInt = 1) q) + 0) : Int32) := by first | exact congrArg nI (cntP_y (P := fun g => (st g).toInt = 1) (show (st q).toInt = 1 by omega)) | exact congrArg nI (cntP_n0 (P := fun g => (st g).toInt = 1) (show ¬ (st q).toInt = 1 by omega))
                have e9_3 : nI (cntP (fun g => (st g).toInt = 2) (q + 1)) = (nI ((cntP (fun g => (st g).toInt = 2) q) + 1) : Int32) := by first | exact congrArg nI (cntP_y (P := fun g => (st g).toInt = 2) (show (st q).toInt = 2 by omega)) | exact congrArg nI (cntP_n0 (P := fun g => (st g).toInt = 2) (show ¬ (st q).toInt = 2 by omega))
                have e9_4 : nI (cntP (fun g => ¬ (tn g).toInt = 0) (q + 1)) = (nI ((cntP (fun g => ¬ (tn g).toInt = 0) q) + 0) : Int32) := by first | exact congrArg nI (cntP_y (P := fun g => ¬ (tn g).toInt = 0) (show ¬ (tn q).toInt = 0 by omega)) | exact congrArg nI (cntP_n0 (P := fun g => ¬ (tn g).toInt = 0) (show ¬ ¬ (tn q).toInt = 0 by omega))
                have e9_5 : nI (smP (lvF ft st tn) (fun g => nN (mn g)) (q + 1)) = (nI ((smP (lvF ft st tn) (fun g => nN (mn g)) q) + 0) : Int32) := by first | exact congrArg nI (smP_y (P := lvF ft st tn) (by first | with_reducible assumption | assumption)) | exact congrArg nI (smP_n (P := lvF ft st tn) (by first | with_reducible assumption | assumption))
                have hl9 : lv_has ls 7 [(6, .int (nI (q + 1))), (5, .int (nI (smP (lvF ft st tn) (fun g => nN (mn g)) (q + 1)))), (4, .int (nI (cntP (fun g => ¬ (tn g).toInt = 0) (q + 1)))), (3, .int (nI (cntP (fun g => (st g).toInt = 2) (q + 1)))), (2, .int (nI (cntP (fun g => (st g).toInt = 1) (q + 1)))), (0, .ref k0), (1, .int 7)] := by rw [e9_2]; rw [e9_3]; rw [e9_4]; rw [e9_5]; exact hl9
                exact ih_13 (q + 1) H locs ls (by first | with_reducible assumption | omega) (by first | with_reducible assumption | omega) hP hD hS hl9
              · have c_11 : q < ft ∧ (st q).toInt = 1 ∧ (tn q).toInt = 0 := zp_1 c_11
                refine lv_aload_n hx hb dX11_count_91 rfl (lv_at hl 5 rfl) ?_
                refine va_get (D := (dC, dI)) (ci := 9) (v := .ref (a 11)) (C := RX11) (T := TX11) (N := 55) hx hb hts inX11 hown hK hP 0 rfl rfl 11 (Nat.le_of_ble_eq_true rfl) (hts _ mw_1170) (fun _ h9 => h9) rfl dX11_count_92 ?_
                refine lv_iload hx hb dX11_count_95 (lv_at hl 3 rfl) ?_
                refine z_iald hx hb hK hP 3 0 rfl rfl (e := q) rfl b9_4 (Nat.le_of_ble_eq_true rfl) dX11_count_97 ?_
                refine zz_i (v := nI (nN (mn q))) ((hmw q (by first | with_reducible assumption | assumption)).1) ?_
                refine lv_goto (tgt := 102) hx hb dX11_count_98 rfl ?_
                refine lv_iadd hx hb dX11_count_102 ?_
                refine zz_i (v := nI ((smP (lvF ft st tn) (fun g => nN (mn g)) q) + (nN (mn q)))) (nI_add (smP (lvF ft st tn) (fun g => nN (mn g)) q) (nN (mn q))) ?_
                refine lv_istore (lv' := [(5, .int (nI ((smP (lvF ft st tn) (fun g => nN (mn g)) q) + (nN (mn q))))), (4, .int (nI ((cntP (fun g => ¬ (tn g).toInt = 0) q) + 0))), (3, .int (nI ((cntP (fun g => (st g).toInt = 2) q) + 1))), (2, .int (nI ((cntP (fun g => (st g).toInt = 1) q) + 0))), (6, .int (nI q)), (0, .ref k0), (1, .int 7)]) hx hb dX11_count_103 hl (Nat.le_of_ble_eq_true rfl) rfl (fun ls hl => ?_)
                refine lv_iinc (v := nI (q + 1)) (lv' := [(6, .int (nI (q + 1))), (5, .int (nI ((smP (lvF ft st tn) (fun g => nN (mn g)) q) + (nN (mn q))))), (4, .int (nI ((cntP (fun g => ¬ (tn g).toInt = 0) q) + 0))), (3, .int (nI ((cntP (fun g => (st g).toInt = 2) q) + 1))), (2, .int (nI ((cntP (fun g => (st g).toInt = 1) q) + 0))), (0, .ref k0), (1, .int 7)]) hx hb dX11_count_105 hl (k := 4) rfl (nI_add q 1) (Nat.le_of_ble_eq_true rfl) rfl (fun ls hl => ?_)
                refine lv_goto (tgt := 13) hx hb dX11_count_108 rfl ?_
                have hl9 := lv_sub hl [0, 1, 2, 3, 4, 5, 6] rfl
                have e9_2 : nI (cntP (fun g => (st g).toInt = 1) (q + 1)) = (nI ((cntP (fun g => (st g).toInt = 1) q) + 0) : Int32) := by first | exact congrArg nI (cntP_y (P := fun g => (st g).toInt = 1) (show (st q).toInt = 1 by omega)) | exact congrArg nI (cntP_n0 (P := fun g => (st g).toInt = 1) (show ¬ (st q).toInt = 1 by omega))
                have e9_3 : nI (cntP (fun g => (st g).toInt = 2) (q + 1)) = (nI ((cntP (fun g => (st g).toInt = 2) q) + 1) : Int32) := by first | exact congrArg nI (cntP_y (P := fun g => (st g).toInt = 2) (show (st q).toInt = 2 by omega)) | exact congrArg nI (cntP_n0 (P := fun g => (st g).toInt = 2) (show ¬ (st q).toInt = 2 by omega))
                have e9_4 : nI (cntP (fun g => ¬ (tn g).toInt = 0) (q + 1)) = (nI ((cntP (fun g => ¬ (tn g).toInt = 0) q) + 0) : Int32) := by first | exact congrArg nI (cntP_y (P := fun g => ¬ (tn g).toInt = 0) (show ¬ (tn q).toInt = 0 by omega)) | exact congrArg nI (cntP_n0 (P := fun g => ¬ (tn g).toInt = 0) (show ¬ ¬ (tn q).toInt = 0 by omega))
                have e9_5 : nI (smP (lvF ft st tn) (fun g => nN (mn g)) (q + 1)) = (nI ((smP (lvF ft st tn) (fun g => nN (mn g)) q) + (nN (mn q))) : Int32) := by first | exact congrArg nI (smP_y (P := lvF ft st tn) (by first | with_reducible assumption | assumption)) | exact congrArg nI (smP_n (P := lvF ft st tn) (by first | with_reducible assumption | assumption))
                have hl9 : lv_has ls 7 [(6, .int (nI (q + 1))), (5, .int (nI (smP (lvF ft st tn) (fun g => nN (mn g)) (q + 1)))), (4, .int (nI (cntP (fun g => ¬ (tn g).toInt = 0) (q + 1)))), (3, .int (nI (cntP (fun g => (st g).toInt = 2) (q + 1)))), (2, .int (nI (cntP (fun g => (st g).toInt = 1) (q + 1)))), (0, .ref k0), (1, .int 7)] := by rw [e9_2]; rw [e9_3]; rw [e9_4]; rw [e9_5]; exact hl9
                exact ih_13 (q + 1) H locs ls (by first | with_reducible assumption | omega) (by first | with_reducible assumption | omega) hP hD hS hl9
            · have c_10 : ¬ (tn q).toInt = 0 := zc_ne rfl rfl c_10
              refine lv_iconst (v := 1) hx hb dX11_count_72 rfl ?_
              refine lv_goto (tgt := 77) hx hb dX11_count_73 rfl ?_
              refine lv_iadd hx hb dX11_count_77 ?_
              refine zz_i (v := nI ((cntP (fun g => ¬ (tn g).toInt = 0) q) + 1)) (nI_add (cntP (fun g => ¬ (tn g).toInt = 0) q) 1) ?_
              refine lv_istore (lv' := [(4, .int (nI ((cntP (fun g => ¬ (tn g).toInt = 0) q) + 1))), (3, .int (nI ((cntP (fun g => (st g).toInt = 2) q) + 1))), (2, .int (nI ((cntP (fun g => (st g).toInt = 1) q) + 0))), (6, .int (nI q)), (5, .int (nI (smP (lvF ft st tn) (fun g => nN (mn g)) q))), (0, .ref k0), (1, .int 7)]) hx hb dX11_count_78 hl (Nat.le_of_ble_eq_true rfl) rfl (fun ls hl => ?_)
              refine lv_iload hx hb dX11_count_80 (lv_at hl 4 rfl) ?_
              refine lv_aload_n hx hb dX11_count_82 rfl (lv_at hl 5 rfl) ?_
              refine lv_iload hx hb dX11_count_83 (lv_at hl 3 rfl) ?_
              obtain ⟨hPc, hDc, hFc, hI1⟩ := zi_sub (wc := [_, _, _]) hP hD hS hA [0, 1, 2] rfl rfl
              refine zcall (st1 := [.int (pI (q < ft ∧ (st q).toInt = 1 ∧ (tn q).toInt = 0)), .int (nI (smP (lvF ft st tn) (fun g => nN (mn g)) q))]) (va_runV (As := [.int (nI q)]) (rest := [.int (nI (smP (lvF ft st tn) (fun g => nN (mn g)) q))]) ⟨hx, hb, hml, hown, hts⟩ (k_M_is_n l dC dI cI cZ cF H.size k0 a I0 J0 q ft st tn (by first | with_reducible assumption | assumption) (by first | with_reducible assumption | omega) (by first | with_reducible assumption | omega)) (csV_179 hts rfl rfl ⟨Nat.le_of_ble_eq_true rfl, Nat.le_of_ble_eq_true rfl⟩) (zPV2 (q0 := 0) (ci := 9) hPc hDc hK hXN rfl rfl) rfl rfl hl.1 rfl (lv_room (Nat.le_of_ble_eq_true rfl)) dX11_count_85 ⟨Nat.le_of_ble_eq_true rfl, Nat.le_of_ble_eq_true rfl⟩) hS hFc hFc rfl (fun t H locs ht hB hk1 hS => ?_)
              obtain ⟨hP1, hD1⟩ := hB
              rw [ht] at hP1
              replace hP := z0 hP hD hk1 hP1 hI1
              clear hk1 hPc hDc hFc hP1 hD1 ht hI1
              refine lv_if_eq (tgt := 101) hx hb dX11_count_88 rfl (fun c_12 => ?_) (fun c_12 => ?_)
              · have c_12 : ¬ (q < ft ∧ (st q).toInt = 1 ∧ (tn q).toInt = 0) := zp_0 c_12
                refine lv_iconst (v := 0) hx hb dX11_count_101 rfl ?_
                refine lv_iadd hx hb dX11_count_102 ?_
                refine zz_i (v := nI ((smP (lvF ft st tn) (fun g => nN (mn g)) q) + 0)) (nI_add (smP (lvF ft st tn) (fun g => nN (mn g)) q) 0) ?_
                refine lv_istore (lv' := [(5, .int (nI ((smP (lvF ft st tn) (fun g => nN (mn g)) q) + 0))), (4, .int (nI ((cntP (fun g => ¬ (tn g).toInt = 0) q) + 1))), (3, .int (nI ((cntP (fun g => (st g).toInt = 2) q) + 1))), (2, .int (nI ((cntP (fun g => (st g).toInt = 1) q) + 0))), (6, .int (nI q)), (0, .ref k0), (1, .int 7)]) hx hb dX11_count_103 hl (Nat.le_of_ble_eq_true rfl) rfl (fun ls hl => ?_)
                refine lv_iinc (v := nI (q + 1)) (lv' := [(6, .int (nI (q + 1))), (5, .int (nI ((smP (lvF ft st tn) (fun g => nN (mn g)) q) + 0))), (4, .int (nI ((cntP (fun g => ¬ (tn g).toInt = 0) q) + 1))), (3, .int (nI ((cntP (fun g => (st g).toInt = 2) q) + 1))), (2, .int (nI ((cntP (fun g => (st g).toInt = 1) q) + 0))), (0, .ref k0), (1, .int 7)]) hx hb dX11_count_105 hl (k := 4) rfl (nI_add q 1) (Nat.le_of_ble_eq_true rfl) rfl (fun ls hl => ?_)
                refine lv_goto (tgt := 13) hx hb dX11_count_108 rfl ?_
                have hl9 := lv_sub hl [0, 1, 2, 3, 4, 5, 6] rfl
                have e9_2 : nI (cntP (fun g => (st g).toInt = 1) (q + 1)) = (nI ((cntP (fun g => (st g).toInt = 1) q) + 0) : Int32) := by first | exact congrArg nI (cntP_y (P := fun g => (st g).toInt = 1) (show (st q).toInt = 1 by omega)) | exact congrArg nI (cntP_n0 (P := fun g => (st g).toInt = 1) (show ¬ (st q).toInt = 1 by omega))
                have e9_3 : nI (cntP (fun g => (st g).toInt = 2) (q + 1)) = (nI ((cntP (fun g => (st g).toInt = 2) q) + 1) : Int32) := by first | exact congrArg nI (cntP_y (P := fun g => (st g).toInt = 2) (show (st q).toInt = 2 by omega)) | exact congrArg nI (cntP_n0 (P := fun g => (st g).toInt = 2) (show ¬ (st q).toInt = 2 by omega))
                have e9_4 : nI (cntP (fun g => ¬ (tn g).toInt = 0) (q + 1)) = (nI ((cntP (fun g => ¬ (tn g).toInt = 0) q) + 1) : Int32) := by first | exact congrArg nI (cntP_y (P := fun g => ¬ (tn g).toInt = 0) (show ¬ (tn q).toInt = 0 by omega)) | exact congrArg nI (cntP_n0 (P := fun g => ¬ (tn g).toInt = 0) (show ¬ ¬ (tn q).toInt = 0 by omega))
                have e9_5 : nI (smP (lvF ft st tn) (fun g => nN (mn g)) (q + 1)) = (nI ((smP (lvF ft st tn) (fun g => nN (mn g)) q) + 0) : Int32) := by first | exact congrArg nI (smP_y (P := lvF ft st tn) (by first | with_reducible assumption | assumption)) | exact congrArg nI (smP_n (P := lvF ft st tn) (by first | with_reducible assumption | assumption))
                have hl9 : lv_has ls 7 [(6, .int (nI (q + 1))), (5, .int (nI (smP (lvF ft st tn) (fun g => nN (mn g)) (q + 1)))), (4, .int (nI (cntP (fun g => ¬ (tn g).toInt = 0) (q + 1)))), (3, .int (nI (cntP (fun g => (st g).toInt = 2) (q + 1)))), (2, .int (nI (cntP (fun g => (st g).toInt = 1) (q + 1)))), (0, .ref k0), (1, .int 7)] := by rw [e9_2]; rw [e9_3]; rw [e9_4]; rw [e9_5]; exact hl9
                exact ih_13 (q + 1) H locs ls (by first | with_reducible assumption | omega) (by first | with_reducible assumption | omega) hP hD hS hl9
              · have c_12 : q < ft ∧ (st q).toInt = 1 ∧ (tn q).toInt = 0 := zp_1 c_12
                refine lv_aload_n hx hb dX11_count_91 rfl (lv_at hl 5 rfl) ?_
                refine va_get (D := (dC, dI)) (ci := 9) (v := .ref (a 11)) (C := RX11) (T := TX11) (N := 55) hx hb hts inX11 hown hK hP 0 rfl rfl 11 (Nat.le_of_ble_eq_true rfl) (hts _ mw_1170) (fun _ h9 => h9) rfl dX11_count_92 ?_
                refine lv_iload hx hb dX11_count_95 (lv_at hl 3 rfl) ?_
                refine z_iald hx hb hK hP 3 0 rfl rfl (e := q) rfl b9_4 (Nat.le_of_ble_eq_true rfl) dX11_count_97 ?_
                refine zz_i (v := nI (nN (mn q))) ((hmw q (by first | with_reducible assumption | assumption)).1) ?_
                refine lv_goto (tgt := 102) hx hb dX11_count_98 rfl ?_
                refine lv_iadd hx hb dX11_count_102 ?_
                refine zz_i (v := nI ((smP (lvF ft st tn) (fun g => nN (mn g)) q) + (nN (mn q)))) (nI_add (smP (lvF ft st tn) (fun g => nN (mn g)) q) (nN (mn q))) ?_
                refine lv_istore (lv' := [(5, .int (nI ((smP (lvF ft st tn) (fun g => nN (mn g)) q) + (nN (mn q))))), (4, .int (nI ((cntP (fun g => ¬ (tn g).toInt = 0) q) + 1))), (3, .int (nI ((cntP (fun g => (st g).toInt = 2) q) + 1))), (2, .int (nI ((cntP (fun g => (st g).toInt = 1) q) + 0))), (6, .int (nI q)), (0, .ref k0), (1, .int 7)]) hx hb dX11_count_103 hl (Nat.le_of_ble_eq_true rfl) rfl (fun ls hl => ?_)
                refine lv_iinc (v := nI (q + 1)) (lv' := [(6, .int (nI (q + 1))), (5, .int (nI ((smP (lvF ft st tn) (fun g => nN (mn g)) q) + (nN (mn q))))), (4, .int (nI ((cntP (fun g => ¬ (tn g).toInt = 0) q) + 1))), (3, .int (nI ((cntP (fun g => (st g).toInt = 2) q) + 1))), (2, .int (nI ((cntP (fun g => (st g).toInt = 1) q) + 0))), (0, .ref k0), (1, .int 7)]) hx hb dX11_count_105 hl (k := 4) rfl (nI_add q 1) (Nat.le_of_ble_eq_true rfl) rfl (fun ls hl => ?_)
                refine lv_goto (tgt := 13) hx hb dX11_count_108 rfl ?_
                have hl9 := lv_sub hl [0, 1, 2, 3, 4, 5, 6] rfl
                have e9_2 : nI (cntP (fun g => (st g).toInt = 1) (q + 1)) = (nI ((cntP (fun g => (st g).toInt = 1) q) + 0) : Int32) := by first | exact congrArg nI (cntP_y (P := fun g => (st g).toInt = 1) (show (st q).toInt = 1 by omega)) | exact congrArg nI (cntP_n0 (P := fun g => (st g).toInt = 1) (show ¬ (st q).toInt = 1 by omega))
                have e9_3 : nI (cntP (fun g => (st g).toInt = 2) (q + 1)) = (nI ((cntP (fun g => (st g).toInt = 2) q) + 1) : Int32) := by first | exact congrArg nI (cntP_y (P := fun g => (st g).toInt = 2) (show (st q).toInt = 2 by omega)) | exact congrArg nI (cntP_n0 (P := fun g => (st g).toInt = 2) (show ¬ (st q).toInt = 2 by omega))
                have e9_4 : nI (cntP (fun g => ¬ (tn g).toInt = 0) (q + 1)) = (nI ((cntP (fun g => ¬ (tn g).toInt = 0) q) + 1) : Int32) := by first | exact congrArg nI (cntP_y (P := fun g => ¬ (tn g).toInt = 0) (show ¬ (tn q).toInt = 0 by omega)) | exact congrArg nI (cntP_n0 (P := fun g => ¬ (tn g).toInt = 0) (show ¬ ¬ (tn q).toInt = 0 by omega))
                have e9_5 : nI (smP (lvF ft st tn) (fun g => nN (mn g)) (q + 1)) = (nI ((smP (lvF ft st tn) (fun g => nN (mn g)) q) + (nN (mn q))) : Int32) := by first | exact congrArg nI (smP_y (P := lvF ft st tn) (by first | with_reducible assumption | assumption)) | exact congrArg nI (smP_n (P := lvF ft st tn) (by first | with_reducible assumption | assumption))
                have hl9 : lv_has ls 7 [(6, .int (nI (q + 1))), (5, .int (nI (smP (lvF ft st tn) (fun g => nN (mn g)) (q + 1)))), (4, .int (nI (cntP (fun g => ¬ (tn g).toInt = 0) (q + 1)))), (3, .int (nI (cntP (fun g => (st g).toInt = 2) (q + 1)))), (2, .int (nI (cntP (fun g => (st g).toInt = 1) (q + 1)))), (0, .ref k0), (1, .int 7)] := by rw [e9_2]; rw [e9_3]; rw [e9_4]; rw [e9_5]; exact hl9
                exact ih_13 (q + 1) H locs ls (by first | with_reducible assumption | omega) (by first | with_reducible assumption | omega) hP hD hS hl9
        · have c_5 : (st q).toInt = 1 := zc_eq rfl rfl c_5
          refine lv_iconst (v := 1) hx hb dX11_count_34 rfl ?_
          refine lv_goto (tgt := 39) hx hb dX11_count_35 rfl ?_
          refine lv_iadd hx hb dX11_count_39 ?_
          refine zz_i (v := nI ((cntP (fun g => (st g).toInt = 1) q) + 1)) (nI_add (cntP (fun g => (st g).toInt = 1) q) 1) ?_
          refine lv_istore_n (lv' := [(2, .int (nI ((cntP (fun g => (st g).toInt = 1) q) + 1))), (6, .int (nI q)), (5, .int (nI (smP (lvF ft st tn) (fun g => nN (mn g)) q))), (4, .int (nI (cntP (fun g => ¬ (tn g).toInt = 0) q))), (3, .int (nI (cntP (fun g => (st g).toInt = 2) q))), (0, .ref k0), (1, .int 7)]) hx hb dX11_count_40 rfl hl (Nat.le_of_ble_eq_true rfl) rfl (fun ls hl => ?_)
          refine lv_iload_n hx hb dX11_count_41 rfl (lv_at hl 4 rfl) ?_
          refine lv_aload_n hx hb dX11_count_42 rfl (lv_at hl 5 rfl) ?_
          refine va_get (D := (dC, dI)) (ci := 9) (v := .ref (a 5)) (C := RX11) (T := TX11) (N := 55) hx hb hts inX11 hown hK hP 0 rfl rfl 5 (Nat.le_of_ble_eq_true rfl) (hts _ mw_1164) (fun _ h9 => h9) rfl dX11_count_43 ?_
          refine lv_iload hx hb dX11_count_46 (lv_at hl 1 rfl) ?_
          refine z_iald hx hb hK hP 1 0 rfl rfl (e := q) rfl b9_4 (Nat.le_of_ble_eq_true rfl) dX11_count_48 ?_
          refine lv_iconst (v := 2) hx hb dX11_count_49 rfl ?_
          refine lv_icmp_ne (tgt := 57) hx hb dX11_count_50 rfl (fun c_13 => ?_) (fun c_13 => ?_)
          · have c_13 : ¬ (st q).toInt = 2 := zc_ne rfl rfl c_13
            refine lv_iconst (v := 0) hx hb dX11_count_57 rfl ?_
            refine lv_iadd hx hb dX11_count_58 ?_
            refine zz_i (v := nI ((cntP (fun g => (st g).toInt = 2) q) + 0)) (nI_add (cntP (fun g => (st g).toInt = 2) q) 0) ?_
            refine lv_istore_n (lv' := [(3, .int (nI ((cntP (fun g => (st g).toInt = 2) q) + 0))), (2, .int (nI ((cntP (fun g => (st g).toInt = 1) q) + 1))), (6, .int (nI q)), (5, .int (nI (smP (lvF ft st tn) (fun g => nN (mn g)) q))), (4, .int (nI (cntP (fun g => ¬ (tn g).toInt = 0) q))), (0, .ref k0), (1, .int 7)]) hx hb dX11_count_59 rfl hl (Nat.le_of_ble_eq_true rfl) rfl (fun ls hl => ?_)
            refine lv_iload hx hb dX11_count_60 (lv_at hl 4 rfl) ?_
            refine lv_aload_n hx hb dX11_count_62 rfl (lv_at hl 5 rfl) ?_
            refine va_get (D := (dC, dI)) (ci := 9) (v := .ref (a 6)) (C := RX11) (T := TX11) (N := 55) hx hb hts inX11 hown hK hP 0 rfl rfl 6 (Nat.le_of_ble_eq_true rfl) (hts _ mw_1165) (fun _ h9 => h9) rfl dX11_count_63 ?_
            refine lv_iload hx hb dX11_count_66 (lv_at hl 2 rfl) ?_
            refine z_zald hx hb hK hP 2 1 rfl rfl (e := q) rfl b9_4 (Nat.le_of_ble_eq_true rfl) dX11_count_68 ?_
            refine lv_if_eq (tgt := 76) hx hb dX11_count_69 rfl (fun c_14 => ?_) (fun c_14 => ?_)
            · have c_14 : (tn q).toInt = 0 := zc_eq rfl rfl c_14
              refine lv_iconst (v := 0) hx hb dX11_count_76 rfl ?_
              refine lv_iadd hx hb dX11_count_77 ?_
              refine zz_i (v := nI ((cntP (fun g => ¬ (tn g).toInt = 0) q) + 0)) (nI_add (cntP (fun g => ¬ (tn g).toInt = 0) q) 0) ?_
              refine lv_istore (lv' := [(4, .int (nI ((cntP (fun g => ¬ (tn g).toInt = 0) q) + 0))), (3, .int (nI ((cntP (fun g => (st g).toInt = 2) q) + 0))), (2, .int (nI ((cntP (fun g => (st g).toInt = 1) q) + 1))), (6, .int (nI q)), (5, .int (nI (smP (lvF ft st tn) (fun g => nN (mn g)) q))), (0, .ref k0), (1, .int 7)]) hx hb dX11_count_78 hl (Nat.le_of_ble_eq_true rfl) rfl (fun ls hl => ?_)
              refine lv_iload hx hb dX11_count_80 (lv_at hl 4 rfl) ?_
              refine lv_aload_n hx hb dX11_count_82 rfl (lv_at hl 5 rfl) ?_
              refine lv_iload hx hb dX11_count_83 (lv_at hl 3 rfl) ?_
              obtain ⟨hPc, hDc, hFc, hI1⟩ := zi_sub (wc := [_, _, _]) hP hD hS hA [0, 1, 2] rfl rfl
              refine zcall (st1 := [.int (pI (q < ft ∧ (st q).toInt = 1 ∧ (tn q).toInt = 0)), .int (nI (smP (lvF ft st tn) (fun g => nN (mn g)) q))]) (va_runV (As := [.int (nI q)]) (rest := [.int (nI (smP (lvF ft st tn) (fun g => nN (mn g)) q))]) ⟨hx, hb, hml, hown, hts⟩ (k_M_is_n l dC dI cI cZ cF H.size k0 a I0 J0 q ft st tn (by first | with_reducible assumption | assumption) (by first | with_reducible assumption | omega) (by first | with_reducible assumption | omega)) (csV_179 hts rfl rfl ⟨Nat.le_of_ble_eq_true rfl, Nat.le_of_ble_eq_true rfl⟩) (zPV2 (q0 := 0) (ci := 9) hPc hDc hK hXN rfl rfl) rfl rfl hl.1 rfl (lv_room (Nat.le_of_ble_eq_true rfl)) dX11_count_85 ⟨Nat.le_of_ble_eq_true rfl, Nat.le_of_ble_eq_true rfl⟩) hS hFc hFc rfl (fun t H locs ht hB hk1 hS => ?_)
              obtain ⟨hP1, hD1⟩ := hB
              rw [ht] at hP1
              replace hP := z0 hP hD hk1 hP1 hI1
              clear hk1 hPc hDc hFc hP1 hD1 ht hI1
              refine lv_if_eq (tgt := 101) hx hb dX11_count_88 rfl (fun c_15 => ?_) (fun c_15 => ?_)
              · have c_15 : ¬ (q < ft ∧ (st q).toInt = 1 ∧ (tn q).toInt = 0) := zp_0 c_15
                refine lv_iconst (v := 0) hx hb dX11_count_101 rfl ?_
                refine lv_iadd hx hb dX11_count_102 ?_
                refine zz_i (v := nI ((smP (lvF ft st tn) (fun g => nN (mn g)) q) + 0)) (nI_add (smP (lvF ft st tn) (fun g => nN (mn g)) q) 0) ?_
                refine lv_istore (lv' := [(5, .int (nI ((smP (lvF ft st tn) (fun g => nN (mn g)) q) + 0))), (4, .int (nI ((cntP (fun g => ¬ (tn g).toInt = 0) q) + 0))), (3, .int (nI ((cntP (fun g => (st g).toInt = 2) q) + 0))), (2, .int (nI ((cntP (fun g => (st g).toInt = 1) q) + 1))), (6, .int (nI q)), (0, .ref k0), (1, .int 7)]) hx hb dX11_count_103 hl (Nat.le_of_ble_eq_true rfl) rfl (fun ls hl => ?_)
                refine lv_iinc (v := nI (q + 1)) (lv' := [(6, .int (nI (q + 1))), (5, .int (nI ((smP (lvF ft st tn) (fun g => nN (mn g)) q) + 0))), (4, .int (nI ((cntP (fun g => ¬ (tn g).toInt = 0) q) + 0))), (3, .int (nI ((cntP (fun g => (st g).toInt = 2) q) + 0))), (2, .int (nI ((cntP (fun g => (st g).toInt = 1) q) + 1))), (0, .ref k0), (1, .int 7)]) hx hb dX11_count_105 hl (k := 4) rfl (nI_add q 1) (Nat.le_of_ble_eq_true rfl) rfl (fun ls hl => ?_)
                refine lv_goto (tgt := 13) hx hb dX11_count_108 rfl ?_
                have hl9 := lv_sub hl [0, 1, 2, 3, 4, 5, 6] rfl
                have e9_2 : nI (cntP (fun g => (st g).toInt = 1) (q + 1)) = (nI ((cntP (fun g => (st g).toInt = 1) q) + 1) : Int32) := by first | exact congrArg nI (cntP_y (P := fun g => (st g).toInt = 1) (show (st q).toInt = 1 by omega)) | exact congrArg nI (cntP_n0 (P := fun g => (st g).toInt = 1) (show ¬ (st q).toInt = 1 by omega))
                have e9_3 : nI (cntP (fun g => (st g).toInt = 2) (q + 1)) = (nI ((cntP (fun g => (st g).toInt = 2) q) + 0) : Int32) := by first | exact congrArg nI (cntP_y (P := fun g => (st g).toInt = 2) (show (st q).toInt = 2 by omega)) | exact congrArg nI (cntP_n0 (P := fun g => (st g).toInt = 2) (show ¬ (st q).toInt = 2 by omega))
                have e9_4 : nI (cntP (fun g => ¬ (tn g).toInt = 0) (q + 1)) = (nI ((cntP (fun g => ¬ (tn g).toInt = 0) q) + 0) : Int32) := by first | exact congrArg nI (cntP_y (P := fun g => ¬ (tn g).toInt = 0) (show ¬ (tn q).toInt = 0 by omega)) | exact congrArg nI (cntP_n0 (P := fun g => ¬ (tn g).toInt = 0) (show ¬ ¬ (tn q).toInt = 0 by omega))
                have e9_5 : nI (smP (lvF ft st tn) (fun g => nN (mn g)) (q + 1)) = (nI ((smP (lvF ft st tn) (fun g => nN (mn g)) q) + 0) : Int32) := by first | exact congrArg nI (smP_y (P := lvF ft st tn) (by first | with_reducible assumption | assumption)) | exact congrArg nI (smP_n (P := lvF ft st tn) (by first | with_reducible assumption | assumption))
                have hl9 : lv_has ls 7 [(6, .int (nI (q + 1))), (5, .int (nI (smP (lvF ft st tn) (fun g => nN (mn g)) (q + 1)))), (4, .int (nI (cntP (fun g => ¬ (tn g).toInt = 0) (q + 1)))), (3, .int (nI (cntP (fun g => (st g).toInt = 2) (q + 1)))), (2, .int (nI (cntP (fun g => (st g).toInt = 1) (q + 1)))), (0, .ref k0), (1, .int 7)] := by rw [e9_2]; rw [e9_3]; rw [e9_4]; rw [e9_5]; exact hl9
                exact ih_13 (q + 1) H locs ls (by first | with_reducible assumption | omega) (by first | with_reducible assumption | omega) hP hD hS hl9
              · have c_15 : q < ft ∧ (st q).toInt = 1 ∧ (tn q).toInt = 0 := zp_1 c_15
                refine lv_aload_n hx hb dX11_count_91 rfl (lv_at hl 5 rfl) ?_
                refine va_get (D := (dC, dI)) (ci := 9) (v := .ref (a 11)) (C := RX11) (T := TX11) (N := 55) hx hb hts inX11 hown hK hP 0 rfl rfl 11 (Nat.le_of_ble_eq_true rfl) (hts _ mw_1170) (fun _ h9 => h9) rfl dX11_count_92 ?_
                refine lv_iload hx hb dX11_count_95 (lv_at hl 3 rfl) ?_
                refine z_iald hx hb hK hP 3 0 rfl rfl (e := q) rfl b9_4 (Nat.le_of_ble_eq_true rfl) dX11_count_97 ?_
                refine zz_i (v := nI (nN (mn q))) ((hmw q (by first | with_reducible assumption | assumption)).1) ?_
                refine lv_goto (tgt := 102) hx hb dX11_count_98 rfl ?_
                refine lv_iadd hx hb dX11_count_102 ?_
                refine zz_i (v := nI ((smP (lvF ft st tn) (fun g => nN (mn g)) q) + (nN (mn q)))) (nI_add (smP (lvF ft st tn) (fun g => nN (mn g)) q) (nN (mn q))) ?_
                refine lv_istore (lv' := [(5, .int (nI ((smP (lvF ft st tn) (fun g => nN (mn g)) q) + (nN (mn q))))), (4, .int (nI ((cntP (fun g => ¬ (tn g).toInt = 0) q) + 0))), (3, .int (nI ((cntP (fun g => (st g).toInt = 2) q) + 0))), (2, .int (nI ((cntP (fun g => (st g).toInt = 1) q) + 1))), (6, .int (nI q)), (0, .ref k0), (1, .int 7)]) hx hb dX11_count_103 hl (Nat.le_of_ble_eq_true rfl) rfl (fun ls hl => ?_)
                refine lv_iinc (v := nI (q + 1)) (lv' := [(6, .int (nI (q + 1))), (5, .int (nI ((smP (lvF ft st tn) (fun g => nN (mn g)) q) + (nN (mn q))))), (4, .int (nI ((cntP (fun g => ¬ (tn g).toInt = 0) q) + 0))), (3, .int (nI ((cntP (fun g => (st g).toInt = 2) q) + 0))), (2, .int (nI ((cntP (fun g => (st g).toInt = 1) q) + 1))), (0, .ref k0), (1, .int 7)]) hx hb dX11_count_105 hl (k := 4) rfl (nI_add q 1) (Nat.le_of_ble_eq_true rfl) rfl (fun ls hl => ?_)
                refine lv_goto (tgt := 13) hx hb dX11_count_108 rfl ?_
                have hl9 := lv_sub hl [0, 1, 2, 3, 4, 5, 6] rfl
                have e9_2 : nI (cntP (fun g => (st g).toInt = 1) (q + 1)) = (nI ((cntP (fun g => (st g).toInt = 1) q) + 1) : Int32) := by first | exact congrArg nI (cntP_y (P := fun g => (st g).toInt = 1) (show (st q).toInt = 1 by omega)) | exact congrArg nI (cntP_n0 (P := fun g => (st g).toInt = 1) (show ¬ (st q).toInt = 1 by omega))
                have e9_3 : nI (cntP (fun g => (st g).toInt = 2) (q + 1)) = (nI ((cntP (fun g => (st g).toInt = 2) q) + 0) : Int32) := by first | exact congrArg nI (cntP_y (P := fun g => (st g).toInt = 2) (show (st q).toInt = 2 by omega)) | exact congrArg nI (cntP_n0 (P := fun g => (st g).toInt = 2) (show ¬ (st q).toInt = 2 by omega))
                have e9_4 : nI (cntP (fun g => ¬ (tn g).toInt = 0) (q + 1)) = (nI ((cntP (fun g => ¬ (tn g).toInt = 0) q) + 0) : Int32) := by first | exact congrArg nI (cntP_y (P := fun g => ¬ (tn g).toInt = 0) (show ¬ (tn q).toInt = 0 by omega)) | exact congrArg nI (cntP_n0 (P := fun g => ¬ (tn g).toInt = 0) (show ¬ ¬ (tn q).toInt = 0 by omega))
                have e9_5 : nI (smP (lvF ft st tn) (fun g => nN (mn g)) (q + 1)) = (nI ((smP (lvF ft st tn) (fun g => nN (mn g)) q) + (nN (mn q))) : Int32) := by first | exact congrArg nI (smP_y (P := lvF ft st tn) (by first | with_reducible assumption | assumption)) | exact congrArg nI (smP_n (P := lvF ft st tn) (by first | with_reducible assumption | assumption))
                have hl9 : lv_has ls 7 [(6, .int (nI (q + 1))), (5, .int (nI (smP (lvF ft st tn) (fun g => nN (mn g)) (q + 1)))), (4, .int (nI (cntP (fun g => ¬ (tn g).toInt = 0) (q + 1)))), (3, .int (nI (cntP (fun g => (st g).toInt = 2) (q + 1)))), (2, .int (nI (cntP (fun g => (st g).toInt = 1) (q + 1)))), (0, .ref k0), (1, .int 7)] := by rw [e9_2]; rw [e9_3]; rw [e9_4]; rw [e9_5]; exact hl9
                exact ih_13 (q + 1) H locs ls (by first | with_reducible assumption | omega) (by first | with_reducible assumption | omega) hP hD hS hl9
            · have c_14 : ¬ (tn q).toInt = 0 := zc_ne rfl rfl c_14
              refine lv_iconst (v := 1) hx hb dX11_count_72 rfl ?_
              refine lv_goto (tgt := 77) hx hb dX11_count_73 rfl ?_
              refine lv_iadd hx hb dX11_count_77 ?_
              refine zz_i (v := nI ((cntP (fun g => ¬ (tn g).toInt = 0) q) + 1)) (nI_add (cntP (fun g => ¬ (tn g).toInt = 0) q) 1) ?_
              refine lv_istore (lv' := [(4, .int (nI ((cntP (fun g => ¬ (tn g).toInt = 0) q) + 1))), (3, .int (nI ((cntP (fun g => (st g).toInt = 2) q) + 0))), (2, .int (nI ((cntP (fun g => (st g).toInt = 1) q) + 1))), (6, .int (nI q)), (5, .int (nI (smP (lvF ft st tn) (fun g => nN (mn g)) q))), (0, .ref k0), (1, .int 7)]) hx hb dX11_count_78 hl (Nat.le_of_ble_eq_true rfl) rfl (fun ls hl => ?_)
              refine lv_iload hx hb dX11_count_80 (lv_at hl 4 rfl) ?_
              refine lv_aload_n hx hb dX11_count_82 rfl (lv_at hl 5 rfl) ?_
              refine lv_iload hx hb dX11_count_83 (lv_at hl 3 rfl) ?_
              obtain ⟨hPc, hDc, hFc, hI1⟩ := zi_sub (wc := [_, _, _]) hP hD hS hA [0, 1, 2] rfl rfl
              refine zcall (st1 := [.int (pI (q < ft ∧ (st q).toInt = 1 ∧ (tn q).toInt = 0)), .int (nI (smP (lvF ft st tn) (fun g => nN (mn g)) q))]) (va_runV (As := [.int (nI q)]) (rest := [.int (nI (smP (lvF ft st tn) (fun g => nN (mn g)) q))]) ⟨hx, hb, hml, hown, hts⟩ (k_M_is_n l dC dI cI cZ cF H.size k0 a I0 J0 q ft st tn (by first | with_reducible assumption | assumption) (by first | with_reducible assumption | omega) (by first | with_reducible assumption | omega)) (csV_179 hts rfl rfl ⟨Nat.le_of_ble_eq_true rfl, Nat.le_of_ble_eq_true rfl⟩) (zPV2 (q0 := 0) (ci := 9) hPc hDc hK hXN rfl rfl) rfl rfl hl.1 rfl (lv_room (Nat.le_of_ble_eq_true rfl)) dX11_count_85 ⟨Nat.le_of_ble_eq_true rfl, Nat.le_of_ble_eq_true rfl⟩) hS hFc hFc rfl (fun t H locs ht hB hk1 hS => ?_)
              obtain ⟨hP1, hD1⟩ := hB
              rw [ht] at hP1
              replace hP := z0 hP hD hk1 hP1 hI1
              clear hk1 hPc hDc hFc hP1 hD1 ht hI1
              refine lv_if_eq (tgt := 101) hx hb dX11_count_88 rfl (fun c_16 => ?_) (fun c_16 => ?_)
              · have c_16 : ¬ (q < ft ∧ (st q).toInt = 1 ∧ (tn q).toInt = 0) := zp_0 c_16
                refine lv_iconst (v := 0) hx hb dX11_count_101 rfl ?_
                refine lv_iadd hx hb dX11_count_102 ?_
                refine zz_i (v := nI ((smP (lvF ft st tn) (fun g => nN (mn g)) q) + 0)) (nI_add (smP (lvF ft st tn) (fun g => nN (mn g)) q) 0) ?_
                refine lv_istore (lv' := [(5, .int (nI ((smP (lvF ft st tn) (fun g => nN (mn g)) q) + 0))), (4, .int (nI ((cntP (fun g => ¬ (tn g).toInt = 0) q) + 1))), (3, .int (nI ((cntP (fun g => (st g).toInt = 2) q) + 0))), (2, .int (nI ((cntP (fun g => (st g).toInt = 1) q) + 1))), (6, .int (nI q)), (0, .ref k0), (1, .int 7)]) hx hb dX11_count_103 hl (Nat.le_of_ble_eq_true rfl) rfl (fun ls hl => ?_)
                refine lv_iinc (v := nI (q + 1)) (lv' := [(6, .int (nI (q + 1))), (5, .int (nI ((smP (lvF ft st tn) (fun g => nN (mn g)) q) + 0))), (4, .int (nI ((cntP (fun g => ¬ (tn g).toInt = 0) q) + 1))), (3, .int (nI ((cntP (fun g => (st g).toInt = 2) q) + 0))), (2, .int (nI ((cntP (fun g => (st g).toInt = 1) q) + 1))), (0, .ref k0), (1, .int 7)]) hx hb dX11_count_105 hl (k := 4) rfl (nI_add q 1) (Nat.le_of_ble_eq_true rfl) rfl (fun ls hl => ?_)
                refine lv_goto (tgt := 13) hx hb dX11_count_108 rfl ?_
                have hl9 := lv_sub hl [0, 1, 2, 3, 4, 5, 6] rfl
                have e9_2 : nI (cntP (fun g => (st g).toInt = 1) (q + 1)) = (nI ((cntP (fun g => (st g).toInt = 1) q) + 1) : Int32) := by first | exact congrArg nI (cntP_y (P := fun g => (st g).toInt = 1) (show (st q).toInt = 1 by omega)) | exact congrArg nI (cntP_n0 (P := fun g => (st g).toInt = 1) (show ¬ (st q).toInt = 1 by omega))
                have e9_3 : nI (cntP (fun g => (st g).toInt = 2) (q + 1)) = (nI ((cntP (fun g => (st g).toInt = 2) q) + 0) : Int32) := by first | exact congrArg nI (cntP_y (P := fun g => (st g).toInt = 2) (show (st q).toInt = 2 by omega)) | exact congrArg nI (cntP_n0 (P := fun g => (st g).toInt = 2) (show ¬ (st q).toInt = 2 by omega))
                have e9_4 : nI (cntP (fun g => ¬ (tn g).toInt = 0) (q + 1)) = (nI ((cntP (fun g => ¬ (tn g).toInt = 0) q) + 1) : Int32) := by first | exact congrArg nI (cntP_y (P := fun g => ¬ (tn g).toInt = 0) (show ¬ (tn q).toInt = 0 by omega)) | exact congrArg nI (cntP_n0 (P := fun g => ¬ (tn g).toInt = 0) (show ¬ ¬ (tn q).toInt = 0 by omega))
                have e9_5 : nI (smP (lvF ft st tn) (fun g => nN (mn g)) (q + 1)) = (nI ((smP (lvF ft st tn) (fun g => nN (mn g)) q) + 0) : Int32) := by first | exact congrArg nI (smP_y (P := lvF ft st tn) (by first | with_reducible assumption | assumption)) | exact congrArg nI (smP_n (P := lvF ft st tn) (by first | with_reducible assumption | assumption))
                have hl9 : lv_has ls 7 [(6, .int (nI (q + 1))), (5, .int (nI (smP (lvF ft st tn) (fun g => nN (mn g)) (q + 1)))), (4, .int (nI (cntP (fun g => ¬ (tn g).toInt = 0) (q + 1)))), (3, .int (nI (cntP (fun g => (st g).toInt = 2) (q + 1)))), (2, .int (nI (cntP (fun g => (st g).toInt = 1) (q + 1)))), (0, .ref k0), (1, .int 7)] := by rw [e9_2]; rw [e9_3]; rw [e9_4]; rw [e9_5]; exact hl9
                exact ih_13 (q + 1) H locs ls (by first | with_reducible assumption | omega) (by first | with_reducible assumption | omega) hP hD hS hl9
              · have c_16 : q < ft ∧ (st q).toInt = 1 ∧ (tn q).toInt = 0 := zp_1 c_16
                refine lv_aload_n hx hb dX11_count_91 rfl (lv_at hl 5 rfl) ?_
                refine va_get (D := (dC, dI)) (ci := 9) (v := .ref (a 11)) (C := RX11) (T := TX11) (N := 55) hx hb hts inX11 hown hK hP 0 rfl rfl 11 (Nat.le_of_ble_eq_true rfl) (hts _ mw_1170) (fun _ h9 => h9) rfl dX11_count_92 ?_
                refine lv_iload hx hb dX11_count_95 (lv_at hl 3 rfl) ?_
                refine z_iald hx hb hK hP 3 0 rfl rfl (e := q) rfl b9_4 (Nat.le_of_ble_eq_true rfl) dX11_count_97 ?_
                refine zz_i (v := nI (nN (mn q))) ((hmw q (by first | with_reducible assumption | assumption)).1) ?_
                refine lv_goto (tgt := 102) hx hb dX11_count_98 rfl ?_
                refine lv_iadd hx hb dX11_count_102 ?_
                refine zz_i (v := nI ((smP (lvF ft st tn) (fun g => nN (mn g)) q) + (nN (mn q)))) (nI_add (smP (lvF ft st tn) (fun g => nN (mn g)) q) (nN (mn q))) ?_
                refine lv_istore (lv' := [(5, .int (nI ((smP (lvF ft st tn) (fun g => nN (mn g)) q) + (nN (mn q))))), (4, .int (nI ((cntP (fun g => ¬ (tn g).toInt = 0) q) + 1))), (3, .int (nI ((cntP (fun g => (st g).toInt = 2) q) + 0))), (2, .int (nI ((cntP (fun g => (st g).toInt = 1) q) + 1))), (6, .int (nI q)), (0, .ref k0), (1, .int 7)]) hx hb dX11_count_103 hl (Nat.le_of_ble_eq_true rfl) rfl (fun ls hl => ?_)
                refine lv_iinc (v := nI (q + 1)) (lv' := [(6, .int (nI (q + 1))), (5, .int (nI ((smP (lvF ft st tn) (fun g => nN (mn g)) q) + (nN (mn q))))), (4, .int (nI ((cntP (fun g => ¬ (tn g).toInt = 0) q) + 1))), (3, .int (nI ((cntP (fun g => (st g).toInt = 2) q) + 0))), (2, .int (nI ((cntP (fun g => (st g).toInt = 1) q) + 1))), (0, .ref k0), (1, .int 7)]) hx hb dX11_count_105 hl (k := 4) rfl (nI_add q 1) (Nat.le_of_ble_eq_true rfl) rfl (fun ls hl => ?_)
                refine lv_goto (tgt := 13) hx hb dX11_count_108 rfl ?_
                have hl9 := lv_sub hl [0, 1, 2, 3, 4, 5, 6] rfl
                have e9_2 : nI (cntP (fun g => (st g).toInt = 1) (q + 1)) = (nI ((cntP (fun g => (st g).toInt = 1) q) + 1) : Int32) := by first | exact congrArg nI (cntP_y (P := fun g => (st g).toInt = 1) (show (st q).toInt = 1 by omega)) | exact congrArg nI (cntP_n0 (P := fun g => (st g).toInt = 1) (show ¬ (st q).toInt = 1 by omega))
                have e9_3 : nI (cntP (fun g => (st g).toInt = 2) (q + 1)) = (nI ((cntP (fun g => (st g).toInt = 2) q) + 0) : Int32) := by first | exact congrArg nI (cntP_y (P := fun g => (st g).toInt = 2) (show (st q).toInt = 2 by omega)) | exact congrArg nI (cntP_n0 (P := fun g => (st g).toInt = 2) (show ¬ (st q).toInt = 2 by omega))
                have e9_4 : nI (cntP (fun g => ¬ (tn g).toInt = 0) (q + 1)) = (nI ((cntP (fun g => ¬ (tn g).toInt = 0) q) + 1) : Int32) := by first | exact congrArg nI (cntP_y (P := fun g => ¬ (tn g).toInt = 0) (show ¬ (tn q).toInt = 0 by omega)) | exact congrArg nI (cntP_n0 (P := fun g => ¬ (tn g).toInt = 0) (show ¬ ¬ (tn q).toInt = 0 by omega))
                have e9_5 : nI (smP (lvF ft st tn) (fun g => nN (mn g)) (q + 1)) = (nI ((smP (lvF ft st tn) (fun g => nN (mn g)) q) + (nN (mn q))) : Int32) := by first | exact congrArg nI (smP_y (P := lvF ft st tn) (by first | with_reducible assumption | assumption)) | exact congrArg nI (smP_n (P := lvF ft st tn) (by first | with_reducible assumption | assumption))
                have hl9 : lv_has ls 7 [(6, .int (nI (q + 1))), (5, .int (nI (smP (lvF ft st tn) (fun g => nN (mn g)) (q + 1)))), (4, .int (nI (cntP (fun g => ¬ (tn g).toInt = 0) (q + 1)))), (3, .int (nI (cntP (fun g => (st g).toInt = 2) (q + 1)))), (2, .int (nI (cntP (fun g => (st g).toInt = 1) (q + 1)))), (0, .ref k0), (1, .int 7)] := by rw [e9_2]; rw [e9_3]; rw [e9_4]; rw [e9_5]; exact hl9
                exact ih_13 (q + 1) H locs ls (by first | with_reducible assumption | omega) (by first | with_reducible assumption | omega) hP hD hS hl9
          · have c_13 : (st q).toInt = 2 := zc_eq rfl rfl c_13
            refine lv_iconst (v := 1) hx hb dX11_count_53 rfl ?_
            refine lv_goto (tgt := 58) hx hb dX11_count_54 rfl ?_
            refine lv_iadd hx hb dX11_count_58 ?_
            refine zz_i (v := nI ((cntP (fun g => (st g).toInt = 2) q) + 1)) (nI_add (cntP (fun g => (st g).toInt = 2) q) 1) ?_
            refine lv_istore_n (lv' := [(3, .int (nI ((cntP (fun g => (st g).toInt = 2) q) + 1))), (2, .int (nI ((cntP (fun g => (st g).toInt = 1) q) + 1))), (6, .int (nI q)), (5, .int (nI (smP (lvF ft st tn) (fun g => nN (mn g)) q))), (4, .int (nI (cntP (fun g => ¬ (tn g).toInt = 0) q))), (0, .ref k0), (1, .int 7)]) hx hb dX11_count_59 rfl hl (Nat.le_of_ble_eq_true rfl) rfl (fun ls hl => ?_)
            refine lv_iload hx hb dX11_count_60 (lv_at hl 4 rfl) ?_
            refine lv_aload_n hx hb dX11_count_62 rfl (lv_at hl 5 rfl) ?_
            refine va_get (D := (dC, dI)) (ci := 9) (v := .ref (a 6)) (C := RX11) (T := TX11) (N := 55) hx hb hts inX11 hown hK hP 0 rfl rfl 6 (Nat.le_of_ble_eq_true rfl) (hts _ mw_1165) (fun _ h9 => h9) rfl dX11_count_63 ?_
            refine lv_iload hx hb dX11_count_66 (lv_at hl 2 rfl) ?_
            refine z_zald hx hb hK hP 2 1 rfl rfl (e := q) rfl b9_4 (Nat.le_of_ble_eq_true rfl) dX11_count_68 ?_
            refine lv_if_eq (tgt := 76) hx hb dX11_count_69 rfl (fun c_17 => ?_) (fun c_17 => ?_)
            · have c_17 : (tn q).toInt = 0 := zc_eq rfl rfl c_17
              refine lv_iconst (v := 0) hx hb dX11_count_76 rfl ?_
              refine lv_iadd hx hb dX11_count_77 ?_
              refine zz_i (v := nI ((cntP (fun g => ¬ (tn g).toInt = 0) q) + 0)) (nI_add (cntP (fun g => ¬ (tn g).toInt = 0) q) 0) ?_
              refine lv_istore (lv' := [(4, .int (nI ((cntP (fun g => ¬ (tn g).toInt = 0) q) + 0))), (3, .int (nI ((cntP (fun g => (st g).toInt = 2) q) + 1))), (2, .int (nI ((cntP (fun g => (st g).toInt = 1) q) + 1))), (6, .int (nI q)), (5, .int (nI (smP (lvF ft st tn) (fun g => nN (mn g)) q))), (0, .ref k0), (1, .int 7)]) hx hb dX11_count_78 hl (Nat.le_of_ble_eq_true rfl) rfl (fun ls hl => ?_)
              refine lv_iload hx hb dX11_count_80 (lv_at hl 4 rfl) ?_
              refine lv_aload_n hx hb dX11_count_82 rfl (lv_at hl 5 rfl) ?_
              refine lv_iload hx hb dX11_count_83 (lv_at hl 3 rfl) ?_
              obtain ⟨hPc, hDc, hFc, hI1⟩ := zi_sub (wc := [_, _, _]) hP hD hS hA [0, 1, 2] rfl rfl
              refine zcall (st1 := [.int (pI (q < ft ∧ (st q).toInt = 1 ∧ (tn q).toInt = 0)), .int (nI (smP (lvF ft st tn) (fun g => nN (mn g)) q))]) (va_runV (As := [.int (nI q)]) (rest := [.int (nI (smP (lvF ft st tn) (fun g => nN (mn g)) q))]) ⟨hx, hb, hml, hown, hts⟩ (k_M_is_n l dC dI cI cZ cF H.size k0 a I0 J0 q ft st tn (by first | with_reducible assumption | assumption) (by first | with_reducible assumption | omega) (by first | with_reducible assumption | omega)) (csV_179 hts rfl rfl ⟨Nat.le_of_ble_eq_true rfl, Nat.le_of_ble_eq_true rfl⟩) (zPV2 (q0 := 0) (ci := 9) hPc hDc hK hXN rfl rfl) rfl rfl hl.1 rfl (lv_room (Nat.le_of_ble_eq_true rfl)) dX11_count_85 ⟨Nat.le_of_ble_eq_true rfl, Nat.le_of_ble_eq_true rfl⟩) hS hFc hFc rfl (fun t H locs ht hB hk1 hS => ?_)
              obtain ⟨hP1, hD1⟩ := hB
              rw [ht] at hP1
              replace hP := z0 hP hD hk1 hP1 hI1
              clear hk1 hPc hDc hFc hP1 hD1 ht hI1
              refine lv_if_eq (tgt := 101) hx hb dX11_count_88 rfl (fun c_18 => ?_) (fun c_18 => ?_)
              · have c_18 : ¬ (q < ft ∧ (st q).toInt = 1 ∧ (tn q).toInt = 0) := zp_0 c_18
                refine lv_iconst (v := 0) hx hb dX11_count_101 rfl ?_
                refine lv_iadd hx hb dX11_count_102 ?_
                refine zz_i (v := nI ((smP (lvF ft st tn) (fun g => nN (mn g)) q) + 0)) (nI_add (smP (lvF ft st tn) (fun g => nN (mn g)) q) 0) ?_
                refine lv_istore (lv' := [(5, .int (nI ((smP (lvF ft st tn) (fun g => nN (mn g)) q) + 0))), (4, .int (nI ((cntP (fun g => ¬ (tn g).toInt = 0) q) + 0))), (3, .int (nI ((cntP (fun g => (st g).toInt = 2) q) + 1))), (2, .int (nI ((cntP (fun g => (st g).toInt = 1) q) + 1))), (6, .int (nI q)), (0, .ref k0), (1, .int 7)]) hx hb dX11_count_103 hl (Nat.le_of_ble_eq_true rfl) rfl (fun ls hl => ?_)
                refine lv_iinc (v := nI (q + 1)) (lv' := [(6, .int (nI (q + 1))), (5, .int (nI ((smP (lvF ft st tn) (fun g => nN (mn g)) q) + 0))), (4, .int (nI ((cntP (fun g => ¬ (tn g).toInt = 0) q) + 0))), (3, .int (nI ((cntP (fun g => (st g).toInt = 2) q) + 1))), (2, .int (nI ((cntP (fun g => (st g).toInt = 1) q) + 1))), (0, .ref k0), (1, .int 7)]) hx hb dX11_count_105 hl (k := 4) rfl (nI_add q 1) (Nat.le_of_ble_eq_true rfl) rfl (fun ls hl => ?_)
                refine lv_goto (tgt := 13) hx hb dX11_count_108 rfl ?_
                have hl9 := lv_sub hl [0, 1, 2, 3, 4, 5, 6] rfl
                have e9_2 : nI (cntP (fun g => (st g).toInt = 1) (q + 1)) = (nI ((cntP (fun g => (st g).toInt = 1) q) + 1) : Int32) := by first | exact congrArg nI (cntP_y (P := fun g => (st g).toInt = 1) (show (st q).toInt = 1 by omega)) | exact congrArg nI (cntP_n0 (P := fun g => (st g).toInt = 1) (show ¬ (st q).toInt = 1 by omega))
                have e9_3 : nI (cntP (fun g => (st g).toInt = 2) (q + 1)) = (nI ((cntP (fun g => (st g).toInt = 2) q) + 1) : Int32) := by first | exact congrArg nI (cntP_y (P := fun g => (st g).toInt = 2) (show (st q).toInt = 2 by omega)) | exact congrArg nI (cntP_n0 (P := fun g => (st g).toInt = 2) (show ¬ (st q).toInt = 2 by omega))
                have e9_4 : nI (cntP (fun g => ¬ (tn g).toInt = 0) (q + 1)) = (nI ((cntP (fun g => ¬ (tn g).toInt = 0) q) + 0) : Int32) := by first | exact congrArg nI (cntP_y (P := fun g => ¬ (tn g).toInt = 0) (show ¬ (tn q).toInt = 0 by omega)) | exact congrArg nI (cntP_n0 (P := fun g => ¬ (tn g).toInt = 0) (show ¬ ¬ (tn q).toInt = 0 by omega))
                have e9_5 : nI (smP (lvF ft st tn) (fun g => nN (mn g)) (q + 1)) = (nI ((smP (lvF ft st tn) (fun g => nN (mn g)) q) + 0) : Int32) := by first | exact congrArg nI (smP_y (P := lvF ft st tn) (by first | with_reducible assumption | assumption)) | exact congrArg nI (smP_n (P := lvF ft st tn) (by first | with_reducible assumption | assumption))
                have hl9 : lv_has ls 7 [(6, .int (nI (q + 1))), (5, .int (nI (smP (lvF ft st tn) (fun g => nN (mn g)) (q + 1)))), (4, .int (nI (cntP (fun g => ¬ (tn g).toInt = 0) (q + 1)))), (3, .int (nI (cntP (fun g => (st g).toInt = 2) (q + 1)))), (2, .int (nI (cntP (fun g => (st g).toInt = 1) (q + 1)))), (0, .ref k0), (1, .int 7)] := by rw [e9_2]; rw [e9_3]; rw [e9_4]; rw [e9_5]; exact hl9
                exact ih_13 (q + 1) H locs ls (by first | with_reducible assumption | omega) (by first | with_reducible assumption | omega) hP hD hS hl9
              · have c_18 : q < ft ∧ (st q).toInt = 1 ∧ (tn q).toInt = 0 := zp_1 c_18
                refine lv_aload_n hx hb dX11_count_91 rfl (lv_at hl 5 rfl) ?_
                refine va_get (D := (dC, dI)) (ci := 9) (v := .ref (a 11)) (C := RX11) (T := TX11) (N := 55) hx hb hts inX11 hown hK hP 0 rfl rfl 11 (Nat.le_of_ble_eq_true rfl) (hts _ mw_1170) (fun _ h9 => h9) rfl dX11_count_92 ?_
                refine lv_iload hx hb dX11_count_95 (lv_at hl 3 rfl) ?_
                refine z_iald hx hb hK hP 3 0 rfl rfl (e := q) rfl b9_4 (Nat.le_of_ble_eq_true rfl) dX11_count_97 ?_
                refine zz_i (v := nI (nN (mn q))) ((hmw q (by first | with_reducible assumption | assumption)).1) ?_
                refine lv_goto (tgt := 102) hx hb dX11_count_98 rfl ?_
                refine lv_iadd hx hb dX11_count_102 ?_
                refine zz_i (v := nI ((smP (lvF ft st tn) (fun g => nN (mn g)) q) + (nN (mn q)))) (nI_add (smP (lvF ft st tn) (fun g => nN (mn g)) q) (nN (mn q))) ?_
                refine lv_istore (lv' := [(5, .int (nI ((smP (lvF ft st tn) (fun g => nN (mn g)) q) + (nN (mn q))))), (4, .int (nI ((cntP (fun g => ¬ (tn g).toInt = 0) q) + 0))), (3, .int (nI ((cntP (fun g => (st g).toInt = 2) q) + 1))), (2, .int (nI ((cntP (fun g => (st g).toInt = 1) q) + 1))), (6, .int (nI q)), (0, .ref k0), (1, .int 7)]) hx hb dX11_count_103 hl (Nat.le_of_ble_eq_true rfl) rfl (fun ls hl => ?_)
                refine lv_iinc (v := nI (q + 1)) (lv' := [(6, .int (nI (q + 1))), (5, .int (nI ((smP (lvF ft st tn) (fun g => nN (mn g)) q) + (nN (mn q))))), (4, .int (nI ((cntP (fun g => ¬ (tn g).toInt = 0) q) + 0))), (3, .int (nI ((cntP (fun g => (st g).toInt = 2) q) + 1))), (2, .int (nI ((cntP (fun g => (st g).toInt = 1) q) + 1))), (0, .ref k0), (1, .int 7)]) hx hb dX11_count_105 hl (k := 4) rfl (nI_add q 1) (Nat.le_of_ble_eq_true rfl) rfl (fun ls hl => ?_)
                refine lv_goto (tgt := 13) hx hb dX11_count_108 rfl ?_
                have hl9 := lv_sub hl [0, 1, 2, 3, 4, 5, 6] rfl
                have e9_2 : nI (cntP (fun g => (st g).toInt = 1) (q + 1)) = (nI ((cntP (fun g => (st g).toInt = 1) q) + 1) : Int32) := by first | exact congrArg nI (cntP_y (P := fun g => (st g).toInt = 1) (show (st q).toInt = 1 by omega)) | exact congrArg nI (cntP_n0 (P := fun g => (st g).toInt = 1) (show ¬ (st q).toInt = 1 by omega))
                have e9_3 : nI (cntP (fun g => (st g).toInt = 2) (q + 1)) = (nI ((cntP (fun g => (st g).toInt = 2) q) + 1) : Int32) := by first | exact congrArg nI (cntP_y (P := fun g => (st g).toInt = 2) (show (st q).toInt = 2 by omega)) | exact congrArg nI (cntP_n0 (P := fun g => (st g).toInt = 2) (show ¬ (st q).toInt = 2 by omega))
                have e9_4 : nI (cntP (fun g => ¬ (tn g).toInt = 0) (q + 1)) = (nI ((cntP (fun g => ¬ (tn g).toInt = 0) q) + 0) : Int32) := by first | exact congrArg nI (cntP_y (P := fun g => ¬ (tn g).toInt = 0) (show ¬ (tn q).toInt = 0 by omega)) | exact congrArg nI (cntP_n0 (P := fun g => ¬ (tn g).toInt = 0) (show ¬ ¬ (tn q).toInt = 0 by omega))
                have e9_5 : nI (smP (lvF ft st tn) (fun g => nN (mn g)) (q + 1)) = (nI ((smP (lvF ft st tn) (fun g => nN (mn g)) q) + (nN (mn q))) : Int32) := by first | exact congrArg nI (smP_y (P := lvF ft st tn) (by first | with_reducible assumption | assumption)) | exact congrArg nI (smP_n (P := lvF ft st tn) (by first | with_reducible assumption | assumption))
                have hl9 : lv_has ls 7 [(6, .int (nI (q + 1))), (5, .int (nI (smP (lvF ft st tn) (fun g => nN (mn g)) (q + 1)))), (4, .int (nI (cntP (fun g => ¬ (tn g).toInt = 0) (q + 1)))), (3, .int (nI (cntP (fun g => (st g).toInt = 2) (q + 1)))), (2, .int (nI (cntP (fun g => (st g).toInt = 1) (q + 1)))), (0, .ref k0), (1, .int 7)] := by rw [e9_2]; rw [e9_3]; rw [e9_4]; rw [e9_5]; exact hl9
                exact ih_13 (q + 1) H locs ls (by first | with_reducible assumption | omega) (by first | with_reducible assumption | omega) hP hD hS hl9
            · have c_17 : ¬ (tn q).toInt = 0 := zc_ne rfl rfl c_17
              refine lv_iconst (v := 1) hx hb dX11_count_72 rfl ?_
              refine lv_goto (tgt := 77) hx hb dX11_count_73 rfl ?_
              refine lv_iadd hx hb dX11_count_77 ?_
              refine zz_i (v := nI ((cntP (fun g => ¬ (tn g).toInt = 0) q) + 1)) (nI_add (cntP (fun g => ¬ (tn g).toInt = 0) q) 1) ?_
              refine lv_istore (lv' := [(4, .int (nI ((cntP (fun g => ¬ (tn g).toInt = 0) q) + 1))), (3, .int (nI ((cntP (fun g => (st g).toInt = 2) q) + 1))), (2, .int (nI ((cntP (fun g => (st g).toInt = 1) q) + 1))), (6, .int (nI q)), (5, .int (nI (smP (lvF ft st tn) (fun g => nN (mn g)) q))), (0, .ref k0), (1, .int 7)]) hx hb dX11_count_78 hl (Nat.le_of_ble_eq_true rfl) rfl (fun ls hl => ?_)
              refine lv_iload hx hb dX11_count_80 (lv_at hl 4 rfl) ?_
              refine lv_aload_n hx hb dX11_count_82 rfl (lv_at hl 5 rfl) ?_
              refine lv_iload hx hb dX11_count_83 (lv_at hl 3 rfl) ?_
              obtain ⟨hPc, hDc, hFc, hI1⟩ := zi_sub (wc := [_, _, _]) hP hD hS hA [0, 1, 2] rfl rfl
              refine zcall (st1 := [.int (pI (q < ft ∧ (st q).toInt = 1 ∧ (tn q).toInt = 0)), .int (nI (smP (lvF ft st tn) (fun g => nN (mn g)) q))]) (va_runV (As := [.int (nI q)]) (rest := [.int (nI (smP (lvF ft st tn) (fun g => nN (mn g)) q))]) ⟨hx, hb, hml, hown, hts⟩ (k_M_is_n l dC dI cI cZ cF H.size k0 a I0 J0 q ft st tn (by first | with_reducible assumption | assumption) (by first | with_reducible assumption | omega) (by first | with_reducible assumption | omega)) (csV_179 hts rfl rfl ⟨Nat.le_of_ble_eq_true rfl, Nat.le_of_ble_eq_true rfl⟩) (zPV2 (q0 := 0) (ci := 9) hPc hDc hK hXN rfl rfl) rfl rfl hl.1 rfl (lv_room (Nat.le_of_ble_eq_true rfl)) dX11_count_85 ⟨Nat.le_of_ble_eq_true rfl, Nat.le_of_ble_eq_true rfl⟩) hS hFc hFc rfl (fun t H locs ht hB hk1 hS => ?_)
              obtain ⟨hP1, hD1⟩ := hB
              rw [ht] at hP1
              replace hP := z0 hP hD hk1 hP1 hI1
              clear hk1 hPc hDc hFc hP1 hD1 ht hI1
              refine lv_if_eq (tgt := 101) hx hb dX11_count_88 rfl (fun c_19 => ?_) (fun c_19 => ?_)
              · have c_19 : ¬ (q < ft ∧ (st q).toInt = 1 ∧ (tn q).toInt = 0) := zp_0 c_19
                refine lv_iconst (v := 0) hx hb dX11_count_101 rfl ?_
                refine lv_iadd hx hb dX11_count_102 ?_
                refine zz_i (v := nI ((smP (lvF ft st tn) (fun g => nN (mn g)) q) + 0)) (nI_add (smP (lvF ft st tn) (fun g => nN (mn g)) q) 0) ?_
                refine lv_istore (lv' := [(5, .int (nI ((smP (lvF ft st tn) (fun g => nN (mn g)) q) + 0))), (4, .int (nI ((cntP (fun g => ¬ (tn g).toInt = 0) q) + 1))), (3, .int (nI ((cntP (fun g => (st g).toInt = 2) q) + 1))), (2, .int (nI ((cntP (fun g => (st g).toInt = 1) q) + 1))), (6, .int (nI q)), (0, .ref k0), (1, .int 7)]) hx hb dX11_count_103 hl (Nat.le_of_ble_eq_true rfl) rfl (fun ls hl => ?_)
                refine lv_iinc (v := nI (q + 1)) (lv' := [(6, .int (nI (q + 1))), (5, .int (nI ((smP (lvF ft st tn) (fun g => nN (mn g)) q) + 0))), (4, .int (nI ((cntP (fun g => ¬ (tn g).toInt = 0) q) + 1))), (3, .int (nI ((cntP (fun g => (st g).toInt = 2) q) + 1))), (2, .int (nI ((cntP (fun g => (st g).toInt = 1) q) + 1))), (0, .ref k0), (1, .int 7)]) hx hb dX11_count_105 hl (k := 4) rfl (nI_add q 1) (Nat.le_of_ble_eq_true rfl) rfl (fun ls hl => ?_)
                refine lv_goto (tgt := 13) hx hb dX11_count_108 rfl ?_
                have hl9 := lv_sub hl [0, 1, 2, 3, 4, 5, 6] rfl
                have e9_2 : nI (cntP (fun g => (st g).toInt = 1) (q + 1)) = (nI ((cntP (fun g => (st g).toInt = 1) q) + 1) : Int32) := by first | exact congrArg nI (cntP_y (P := fun g => (st g).toInt = 1) (show (st q).toInt = 1 by omega)) | exact congrArg nI (cntP_n0 (P := fun g => (st g).toInt = 1) (show ¬ (st q).toInt = 1 by omega))
                have e9_3 : nI (cntP (fun g => (st g).toInt = 2) (q + 1)) = (nI ((cntP (fun g => (st g).toInt = 2) q) + 1) : Int32) := by first | exact congrArg nI (cntP_y (P := fun g => (st g).toInt = 2) (show (st q).toInt = 2 by omega)) | exact congrArg nI (cntP_n0 (P := fun g => (st g).toInt = 2) (show ¬ (st q).toInt = 2 by omega))
                have e9_4 : nI (cntP (fun g => ¬ (tn g).toInt = 0) (q + 1)) = (nI ((cntP (fun g => ¬ (tn g).toInt = 0) q) + 1) : Int32) := by first | exact congrArg nI (cntP_y (P := fun g => ¬ (tn g).toInt = 0) (show ¬ (tn q).toInt = 0 by omega)) | exact congrArg nI (cntP_n0 (P := fun g => ¬ (tn g).toInt = 0) (show ¬ ¬ (tn q).toInt = 0 by omega))
                have e9_5 : nI (smP (lvF ft st tn) (fun g => nN (mn g)) (q + 1)) = (nI ((smP (lvF ft st tn) (fun g => nN (mn g)) q) + 0) : Int32) := by first | exact congrArg nI (smP_y (P := lvF ft st tn) (by first | with_reducible assumption | assumption)) | exact congrArg nI (smP_n (P := lvF ft st tn) (by first | with_reducible assumption | assumption))
                have hl9 : lv_has ls 7 [(6, .int (nI (q + 1))), (5, .int (nI (smP (lvF ft st tn) (fun g => nN (mn g)) (q + 1)))), (4, .int (nI (cntP (fun g => ¬ (tn g).toInt = 0) (q + 1)))), (3, .int (nI (cntP (fun g => (st g).toInt = 2) (q + 1)))), (2, .int (nI (cntP (fun g => (st g).toInt = 1) (q + 1)))), (0, .ref k0), (1, .int 7)] := by rw [e9_2]; rw [e9_3]; rw [e9_4]; rw [e9_5]; exact hl9
                exact ih_13 (q + 1) H locs ls (by first | with_reducible assumption | omega) (by first | with_reducible assumption | omega) hP hD hS hl9
              · have c_19 : q < ft ∧ (st q).toInt = 1 ∧ (tn q).toInt = 0 := zp_1 c_19
                refine lv_aload_n hx hb dX11_count_91 rfl (lv_at hl 5 rfl) ?_
                refine va_get (D := (dC, dI)) (ci := 9) (v := .ref (a 11)) (C := RX11) (T := TX11) (N := 55) hx hb hts inX11 hown hK hP 0 rfl rfl 11 (Nat.le_of_ble_eq_true rfl) (hts _ mw_1170) (fun _ h9 => h9) rfl dX11_count_92 ?_
                refine lv_iload hx hb dX11_count_95 (lv_at hl 3 rfl) ?_
                refine z_iald hx hb hK hP 3 0 rfl rfl (e := q) rfl b9_4 (Nat.le_of_ble_eq_true rfl) dX11_count_97 ?_
                refine zz_i (v := nI (nN (mn q))) ((hmw q (by first | with_reducible assumption | assumption)).1) ?_
                refine lv_goto (tgt := 102) hx hb dX11_count_98 rfl ?_
                refine lv_iadd hx hb dX11_count_102 ?_
                refine zz_i (v := nI ((smP (lvF ft st tn) (fun g => nN (mn g)) q) + (nN (mn q)))) (nI_add (smP (lvF ft st tn) (fun g => nN (mn g)) q) (nN (mn q))) ?_
                refine lv_istore (lv' := [(5, .int (nI ((smP (lvF ft st tn) (fun g => nN (mn g)) q) + (nN (mn q))))), (4, .int (nI ((cntP (fun g => ¬ (tn g).toInt = 0) q) + 1))), (3, .int (nI ((cntP (fun g => (st g).toInt = 2) q) + 1))), (2, .int (nI ((cntP (fun g => (st g).toInt = 1) q) + 1))), (6, .int (nI q)), (0, .ref k0), (1, .int 7)]) hx hb dX11_count_103 hl (Nat.le_of_ble_eq_true rfl) rfl (fun ls hl => ?_)
                refine lv_iinc (v := nI (q + 1)) (lv' := [(6, .int (nI (q + 1))), (5, .int (nI ((smP (lvF ft st tn) (fun g => nN (mn g)) q) + (nN (mn q))))), (4, .int (nI ((cntP (fun g => ¬ (tn g).toInt = 0) q) + 1))), (3, .int (nI ((cntP (fun g => (st g).toInt = 2) q) + 1))), (2, .int (nI ((cntP (fun g => (st g).toInt = 1) q) + 1))), (0, .ref k0), (1, .int 7)]) hx hb dX11_count_105 hl (k := 4) rfl (nI_add q 1) (Nat.le_of_ble_eq_true rfl) rfl (fun ls hl => ?_)
                refine lv_goto (tgt := 13) hx hb dX11_count_108 rfl ?_
                have hl9 := lv_sub hl [0, 1, 2, 3, 4, 5, 6] rfl
                have e9_2 : nI (cntP (fun g => (st g).toInt = 1) (q + 1)) = (nI ((cntP (fun g => (st g).toInt = 1) q) + 1) : Int32) := by first | exact congrArg nI (cntP_y (P := fun g => (st g).toInt = 1) (show (st q).toInt = 1 by omega)) | exact congrArg nI (cntP_n0 (P := fun g => (st g).toInt = 1) (show ¬ (st q).toInt = 1 by omega))
                have e9_3 : nI (cntP (fun g => (st g).toInt = 2) (q + 1)) = (nI ((cntP (fun g => (st g).toInt = 2) q) + 1) : Int32) := by first | exact congrArg nI (cntP_y (P := fun g => (st g).toInt = 2) (show (st q).toInt = 2 by omega)) | exact congrArg nI (cntP_n0 (P := fun g => (st g).toInt = 2) (show ¬ (st q).toInt = 2 by omega))
                have e9_4 : nI (cntP (fun g => ¬ (tn g).toInt = 0) (q + 1)) = (nI ((cntP (fun g => ¬ (tn g).toInt = 0) q) + 1) : Int32) := by first | exact congrArg nI (cntP_y (P := fun g => ¬ (tn g).toInt = 0) (show ¬ (tn q).toInt = 0 by omega)) | exact congrArg nI (cntP_n0 (P := fun g => ¬ (tn g).toInt = 0) (show ¬ ¬ (tn q).toInt = 0 by omega))
                have e9_5 : nI (smP (lvF ft st tn) (fun g => nN (mn g)) (q + 1)) = (nI ((smP (lvF ft st tn) (fun g => nN (mn g)) q) + (nN (mn q))) : Int32) := by first | exact congrArg nI (smP_y (P := lvF ft st tn) (by first | with_reducible assumption | assumption)) | exact congrArg nI (smP_n (P := lvF ft st tn) (by first | with_reducible assumption | assumption))
                have hl9 : lv_has ls 7 [(6, .int (nI (q + 1))), (5, .int (nI (smP (lvF ft st tn) (fun g => nN (mn g)) (q + 1)))), (4, .int (nI (cntP (fun g => ¬ (tn g).toInt = 0) (q + 1)))), (3, .int (nI (cntP (fun g => (st g).toInt = 2) (q + 1)))), (2, .int (nI (cntP (fun g => (st g).toInt = 1) (q + 1)))), (0, .ref k0), (1, .int 7)] := by rw [e9_2]; rw [e9_3]; rw [e9_4]; rw [e9_5]; exact hl9
                exact ih_13 (q + 1) H locs ls (by first | with_reducible assumption | omega) (by first | with_reducible assumption | omega) hP hD hS hl9
  have e9_2 : nI (cntP (fun g => (st g).toInt = 1) 0) = (0 : Int32) := by rfl
  have e9_3 : nI (cntP (fun g => (st g).toInt = 2) 0) = (0 : Int32) := by rfl
  have e9_4 : nI (cntP (fun g => ¬ (tn g).toInt = 0) 0) = (0 : Int32) := by rfl
  have e9_5 : nI (smP (lvF ft st tn) (fun g => nN (mn g)) 0) = (0 : Int32) := by rfl
  have hl9 : lv_has ls 7 [(6, .int (nI 0)), (5, .int (nI (smP (lvF ft st tn) (fun g => nN (mn g)) 0))), (4, .int (nI (cntP (fun g => ¬ (tn g).toInt = 0) 0))), (3, .int (nI (cntP (fun g => (st g).toInt = 2) 0))), (2, .int (nI (cntP (fun g => (st g).toInt = 1) 0))), (0, .ref k0), (1, .int 7)] := by rw [e9_2]; rw [e9_3]; rw [e9_4]; rw [e9_5]; exact lv_sub hl [0, 1, 2, 3, 4, 5, 6] rfl
  exact hl_13 _ 0 s.heap [] ls (Nat.lt_succ_self _) (by first | with_reducible assumption | omega) hP hD hS hl9
set_option maxHeartbeats 4000000 in
set_option maxRecDepth 100000 in
theorem k_M_count_d (l : Launch) (dC : Nat → ClassId) (dI : Nat → Nat → Nat) (cI cZ cF : ClassId) (sz : Nat) (k0 : Nat) (a : Nat → Nat) (I0 : Nat → Int32) (J0 : Nat → Int64) (ft : Nat) (w : Int32) (st : Nat → Int32) (tn : Nat → Int32) (mn : Nat → Int32) (hft : I0 0 = nI ft) (h200 : ft ≤ 200) (hmw : ∀ q, lvF ft st tn q → mn q = nI (nN (mn q)) ∧ nN (mn q) ≤ 40) (hw9 : w.toInt < 0 ∨ 7 < w.toInt) : zM l yX11_count cX11_count 7 (some .int) ({ frames := 2, cells := 0, slots := 0, locals := 42 } : Room) [.ref k0, .int w] (dC, dI) (zTy cI cZ cF) [(om k0 a I0 J0), (oa (a 5) cI 201 st), (oa (a 6) cZ 201 tn), (oa (a 11) cI 201 mn)] sz (some (.int (-1))) (fun A t => zPD (dC, dI) classes A [(om k0 a I0 J0), (oa (a 5) cI 201 st), (oa (a 6) cZ 201 tn), (oa (a 11) cI 201 mn)] t.heap) 0 0 := by
  refine zIn (own := "ScaleShopModel") (loc := [(0, .ref k0), (1, .int w)]) rfl rfl rfl rfl (fun p e s m below meth c hx hb hr hts hown hlocks hml hnm9 A hA hS hP hD hK hXN Q9 hQ9 ls hl => ?_)
  refine lv_iconst (v := 0) hx hb dX11_count_0 rfl ?_
  refine lv_istore_n (lv' := [(2, .int 0), (0, .ref k0), (1, .int w)]) hx hb dX11_count_1 rfl hl (Nat.le_of_ble_eq_true rfl) rfl (fun ls hl => ?_)
  refine lv_iconst (v := 0) hx hb dX11_count_2 rfl ?_
  refine lv_istore_n (lv' := [(3, .int 0), (2, .int 0), (0, .ref k0), (1, .int w)]) hx hb dX11_count_3 rfl hl (Nat.le_of_ble_eq_true rfl) rfl (fun ls hl => ?_)
  refine lv_iconst (v := 0) hx hb dX11_count_4 rfl ?_
  refine lv_istore (lv' := [(4, .int 0), (3, .int 0), (2, .int 0), (0, .ref k0), (1, .int w)]) hx hb dX11_count_5 hl (Nat.le_of_ble_eq_true rfl) rfl (fun ls hl => ?_)
  refine lv_iconst (v := 0) hx hb dX11_count_7 rfl ?_
  refine lv_istore (lv' := [(5, .int 0), (4, .int 0), (3, .int 0), (2, .int 0), (0, .ref k0), (1, .int w)]) hx hb dX11_count_8 hl (Nat.le_of_ble_eq_true rfl) rfl (fun ls hl => ?_)
  refine lv_iconst (v := 0) hx hb dX11_count_10 rfl ?_
  refine lv_istore (lv' := [(6, .int 0), (5, .int 0), (4, .int 0), (3, .int 0), (2, .int 0), (0, .ref k0), (1, .int w)]) hx hb dX11_count_11 hl (Nat.le_of_ble_eq_true rfl) rfl (fun ls hl => ?_)
  have hl_13 : ∀ (n9 : Nat) (q : Nat) (H : Heap) (locs : List Loc) (ls : Array Slot), ft - q < n9 → (q ≤ ft) → va_P (dC, dI) classes [(om k0 a I0 J0), (oa (a 5) cI 201 st), (oa (a 6) cZ 201 tn), (oa (a 11) cI 201 mn)] H → va_D A [(om k0 a I0 J0), (oa (a 5) cI 201 st), (oa (a 6) cZ 201 tn), (oa (a 11) cI 201 mn)] → va_S A s.heap H locs → lv_has ls 7 [(6, .int (nI q)), (5, .int (nI (smP (lvF ft st tn) (fun g => nN (mn g)) q))), (4, .int (nI (cntP (fun g => ¬ (tn g).toInt = 0) q))), (3, .int (nI (cntP (fun g => (st g).toInt = 2) q))), (2, .int (nI (cntP (fun g => (st g).toInt = 1) q))), (0, .ref k0), (1, .int w)] → W p l e ({ frames := 2, cells := 0, slots := 0, locals := 42 } : Room) s m ([.ref k0, .int w] : List Value).toArray below meth c H locs 0 0 Q9 (F0 m 13 ls []) := by
    intro n9
    induction n9 with
    | zero => intro q H locs ls hm; exact absurd hm (Nat.not_lt_zero _)
    | succ n9 ih_13 =>
      intro q H locs ls hm hq hP hD hS hl
      have hc2 := cntP_b (fun g => (st g).toInt = 1) q
      have hc3 := cntP_b (fun g => (st g).toInt = 2) q
      have hc4 := cntP_b (fun g => ¬ (tn g).toInt = 0) q
      have hc5 := smP_b (P := lvF ft st tn) (c := fun g => nN (mn g)) q (fun j _ h => (hmw j h).2)
      refine lv_iload hx hb dX11_count_13 (lv_at hl 0 rfl) ?_
      refine lv_aload_n hx hb dX11_count_15 rfl (lv_at hl 5 rfl) ?_
      refine va_get (D := (dC, dI)) (ci := 9) (v := .int (I0 0)) (C := RX11) (T := TX11) (N := 55) hx hb hts inX11 hown hK hP 0 rfl rfl 0 (Nat.le_of_ble_eq_true rfl) (hts _ mw_1159) (fun _ h9 => h9) rfl dX11_count_16 ?_
      refine zz_i (v := nI ft) (hft) ?_
      have b9_2 : zlt (q) := show q < 2147483648 by omega
      have b9_3 : zlt (ft) := show ft < 2147483648 by omega
      refine lv_icmp_ge (tgt := 111) hx hb dX11_count_19 rfl (fun c_1 => ?_) (fun c_1 => ?_)
      · have c_1 : ((ft : Nat) : Int) ≤ ((q : Nat) : Int) := zc_le (nI_toInt b9_3) (nI_toInt b9_2) c_1
        refine lv_iload_n hx hb dX11_count_111 rfl (lv_at hl 6 rfl) ?_
        refine lv_tableOut (tgt := 190) hx hb dX11_count_112 (hw9) (by decide) ?_
        refine lv_iconst (v := (-1)) hx hb dX11_count_190 rfl ?_
        obtain ⟨hP9, hD9⟩ := zu_sub (wc := [_, _, _, _]) hP hD [true, true, true, true] rfl rfl
        rw [hQ9]
        exact W.iret (v := (-1)) hx hb hr (fun t ht hW => ⟨⟨rfl, by rw [ht]; exact hP9, hD9⟩, hS.F ht⟩) hS.2.2 dX11_count_191
      · have c_1 : ((q : Nat) : Int) < ((ft : Nat) : Int) := zc_nle (nI_toInt b9_3) (nI_toInt b9_2) c_1
        refine lv_iload_n hx hb dX11_count_22 rfl (lv_at hl 4 rfl) ?_
        refine lv_aload_n hx hb dX11_count_23 rfl (lv_at hl 5 rfl) ?_
        refine va_get (D := (dC, dI)) (ci := 9) (v := .ref (a 5)) (C := RX11) (T := TX11) (N := 55) hx hb hts inX11 hown hK hP 0 rfl rfl 5 (Nat.le_of_ble_eq_true rfl) (hts _ mw_1164) (fun _ h9 => h9) rfl dX11_count_24 ?_
        refine lv_iload hx hb dX11_count_27 (lv_at hl 0 rfl) ?_
        have b9_4 : q < 201 := by omega
        refine z_iald hx hb hK hP 1 0 rfl rfl (e := q) rfl b9_4 (Nat.le_of_ble_eq_true rfl) dX11_count_29 ?_
        refine lv_iconst (v := 1) hx hb dX11_count_30 rfl ?_
        refine lv_icmp_ne (tgt := 38) hx hb dX11_count_31 rfl (fun c_5 => ?_) (fun c_5 => ?_)
        · have c_5 : ¬ (st q).toInt = 1 := zc_ne rfl rfl c_5
          refine lv_iconst (v := 0) hx hb dX11_count_38 rfl ?_
          refine lv_iadd hx hb dX11_count_39 ?_
          refine zz_i (v := nI ((cntP (fun g => (st g).toInt = 1) q) + 0)) (nI_add (cntP (fun g => (st g).toInt = 1) q) 0) ?_
          refine lv_istore_n (lv' := [(2, .int (nI ((cntP (fun g => (st g).toInt = 1) q) + 0))), (6, .int (nI q)), (5, .int (nI (smP (lvF ft st tn) (fun g => nN (mn g)) q))), (4, .int (nI (cntP (fun g => ¬ (tn g).toInt = 0) q))), (3, .int (nI (cntP (fun g => (st g).toInt = 2) q))), (0, .ref k0), (1, .int w)]) hx hb dX11_count_40 rfl hl (Nat.le_of_ble_eq_true rfl) rfl (fun ls hl => ?_)
          refine lv_iload_n hx hb dX11_count_41 rfl (lv_at hl 4 rfl) ?_
          refine lv_aload_n hx hb dX11_count_42 rfl (lv_at hl 5 rfl) ?_
          refine va_get (D := (dC, dI)) (ci := 9) (v := .ref (a 5)) (C := RX11) (T := TX11) (N := 55) hx hb hts inX11 hown hK hP 0 rfl rfl 5 (Nat.le_of_ble_eq_true rfl) (hts _ mw_1164) (fun _ h9 => h9) rfl dX11_count_43 ?_
          refine lv_iload hx hb dX11_count_46 (lv_at hl 1 rfl) ?_
          refine z_iald hx hb hK hP 1 0 rfl rfl (e := q) rfl b9_4 (Nat.le_of_ble_eq_true rfl) dX11_count_48 ?_
          refine lv_iconst (v := 2) hx hb dX11_count_49 rfl ?_
          refine lv_icmp_ne (tgt := 57) hx hb dX11_count_50 rfl (fun c_6 => ?_) (fun c_6 => ?_)
          · have c_6 : ¬ (st q).toInt = 2 := zc_ne rfl rfl c_6
            refine lv_iconst (v := 0) hx hb dX11_count_57 rfl ?_
            refine lv_iadd hx hb dX11_count_58 ?_
            refine zz_i (v := nI ((cntP (fun g => (st g).toInt = 2) q) + 0)) (nI_add (cntP (fun g => (st g).toInt = 2) q) 0) ?_
            refine lv_istore_n (lv' := [(3, .int (nI ((cntP (fun g => (st g).toInt = 2) q) + 0))), (2, .int (nI ((cntP (fun g => (st g).toInt = 1) q) + 0))), (6, .int (nI q)), (5, .int (nI (smP (lvF ft st tn) (fun g => nN (mn g)) q))), (4, .int (nI (cntP (fun g => ¬ (tn g).toInt = 0) q))), (0, .ref k0), (1, .int w)]) hx hb dX11_count_59 rfl hl (Nat.le_of_ble_eq_true rfl) rfl (fun ls hl => ?_)
            refine lv_iload hx hb dX11_count_60 (lv_at hl 4 rfl) ?_
            refine lv_aload_n hx hb dX11_count_62 rfl (lv_at hl 5 rfl) ?_
            refine va_get (D := (dC, dI)) (ci := 9) (v := .ref (a 6)) (C := RX11) (T := TX11) (N := 55) hx hb hts inX11 hown hK hP 0 rfl rfl 6 (Nat.le_of_ble_eq_true rfl) (hts _ mw_1165) (fun _ h9 => h9) rfl dX11_count_63 ?_
            refine lv_iload hx hb dX11_count_66 (lv_at hl 2 rfl) ?_
            refine z_zald hx hb hK hP 2 1 rfl rfl (e := q) rfl b9_4 (Nat.le_of_ble_eq_true rfl) dX11_count_68 ?_
            refine lv_if_eq (tgt := 76) hx hb dX11_count_69 rfl (fun c_7 => ?_) (fun c_7 => ?_)
            · have c_7 : (tn q).toInt = 0 := zc_eq rfl rfl c_7
              refine lv_iconst (v := 0) hx hb dX11_count_76 rfl ?_
              refine lv_iadd hx hb dX11_count_77 ?_
              refine zz_i (v := nI ((cntP (fun g => ¬ (tn g).toInt = 0) q) + 0)) (nI_add (cntP (fun g => ¬ (tn g).toInt = 0) q) 0) ?_
              refine lv_istore (lv' := [(4, .int (nI ((cntP (fun g => ¬ (tn g).toInt = 0) q) + 0))), (3, .int (nI ((cntP (fun g => (st g).toInt = 2) q) + 0))), (2, .int (nI ((cntP (fun g => (st g).toInt = 1) q) + 0))), (6, .int (nI q)), (5, .int (nI (smP (lvF ft st tn) (fun g => nN (mn g)) q))), (0, .ref k0), (1, .int w)]) hx hb dX11_count_78 hl (Nat.le_of_ble_eq_true rfl) rfl (fun ls hl => ?_)
              refine lv_iload hx hb dX11_count_80 (lv_at hl 4 rfl) ?_
              refine lv_aload_n hx hb dX11_count_82 rfl (lv_at hl 5 rfl) ?_
              refine lv_iload hx hb dX11_count_83 (lv_at hl 3 rfl) ?_
              obtain ⟨hPc, hDc, hFc, hI1⟩ := zi_sub (wc := [_, _, _]) hP hD hS hA [0, 1, 2] rfl rfl
              refine zcall (st1 := [.int (pI (q < ft ∧ (st q).toInt = 1 ∧ (tn q).toInt = 0)), .int (nI (smP (lvF ft st tn) (fun g => nN (mn g)) q))]) (va_runV (As := [.int (nI q)]) (rest := [.int (nI (smP (lvF ft st tn) (fun g => nN (mn g)) q))]) ⟨hx, hb, hml, hown, hts⟩ (k_M_is_n l dC dI cI cZ cF H.size k0 a I0 J0 q ft st tn (by first | with_reducible assumption | assumption) (by first | with_reducible assumption | omega) (by first | with_reducible assumption | omega)) (csV_179 hts rfl rfl ⟨Nat.le_of_ble_eq_true rfl, Nat.le_of_ble_eq_true rfl⟩) (zPV2 (q0 := 0) (ci := 9) hPc hDc hK hXN rfl rfl) rfl rfl hl.1 rfl (lv_room (Nat.le_of_ble_eq_true rfl)) dX11_count_85 ⟨Nat.le_of_ble_eq_true rfl, Nat.le_of_ble_eq_true rfl⟩) hS hFc hFc rfl (fun t H locs ht hB hk1 hS => ?_)
              obtain ⟨hP1, hD1⟩ := hB
              rw [ht] at hP1
              replace hP := z0 hP hD hk1 hP1 hI1
              clear hk1 hPc hDc hFc hP1 hD1 ht hI1
              refine lv_if_eq (tgt := 101) hx hb dX11_count_88 rfl (fun c_8 => ?_) (fun c_8 => ?_)
              · have c_8 : ¬ (q < ft ∧ (st q).toInt = 1 ∧ (tn q).toInt = 0) := zp_0 c_8
                refine lv_iconst (v := 0) hx hb dX11_count_101 rfl ?_
                refine lv_iadd hx hb dX11_count_102 ?_
                refine zz_i (v := nI ((smP (lvF ft st tn) (fun g => nN (mn g)) q) + 0)) (nI_add (smP (lvF ft st tn) (fun g => nN (mn g)) q) 0) ?_
                refine lv_istore (lv' := [(5, .int (nI ((smP (lvF ft st tn) (fun g => nN (mn g)) q) + 0))), (4, .int (nI ((cntP (fun g => ¬ (tn g).toInt = 0) q) + 0))), (3, .int (nI ((cntP (fun g => (st g).toInt = 2) q) + 0))), (2, .int (nI ((cntP (fun g => (st g).toInt = 1) q) + 0))), (6, .int (nI q)), (0, .ref k0), (1, .int w)]) hx hb dX11_count_103 hl (Nat.le_of_ble_eq_true rfl) rfl (fun ls hl => ?_)
                refine lv_iinc (v := nI (q + 1)) (lv' := [(6, .int (nI (q + 1))), (5, .int (nI ((smP (lvF ft st tn) (fun g => nN (mn g)) q) + 0))), (4, .int (nI ((cntP (fun g => ¬ (tn g).toInt = 0) q) + 0))), (3, .int (nI ((cntP (fun g => (st g).toInt = 2) q) + 0))), (2, .int (nI ((cntP (fun g => (st g).toInt = 1) q) + 0))), (0, .ref k0), (1, .int w)]) hx hb dX11_count_105 hl (k := 4) rfl (nI_add q 1) (Nat.le_of_ble_eq_true rfl) rfl (fun ls hl => ?_)
                refine lv_goto (tgt := 13) hx hb dX11_count_108 rfl ?_
                have hl9 := lv_sub hl [0, 1, 2, 3, 4, 5, 6] rfl
                have e9_2 : nI (cntP (fun g => (st g).toInt = 1) (q + 1)) = (nI ((cntP (fun g => (st g).toInt = 1) q) + 0) : Int32) := by first | exact congrArg nI (cntP_y (P := fun g => (st g).toInt = 1) (show (st q).toInt = 1 by omega)) | exact congrArg nI (cntP_n0 (P := fun g => (st g).toInt = 1) (show ¬ (st q).toInt = 1 by omega))
                have e9_3 : nI (cntP (fun g => (st g).toInt = 2) (q + 1)) = (nI ((cntP (fun g => (st g).toInt = 2) q) + 0) : Int32) := by first | exact congrArg nI (cntP_y (P := fun g => (st g).toInt = 2) (show (st q).toInt = 2 by omega)) | exact congrArg nI (cntP_n0 (P := fun g => (st g).toInt = 2) (show ¬ (st q).toInt = 2 by omega))
                have e9_4 : nI (cntP (fun g => ¬ (tn g).toInt = 0) (q + 1)) = (nI ((cntP (fun g => ¬ (tn g).toInt = 0) q) + 0) : Int32) := by first | exact congrArg nI (cntP_y (P := fun g => ¬ (tn g).toInt = 0) (show ¬ (tn q).toInt = 0 by omega)) | exact congrArg nI (cntP_n0 (P := fun g => ¬ (tn g).toInt = 0) (show ¬ ¬ (tn q).toInt = 0 by omega))
                have e9_5 : nI (smP (lvF ft st tn) (fun g => nN (mn g)) (q + 1)) = (nI ((smP (lvF ft st tn) (fun g => nN (mn g)) q) + 0) : Int32) := by first | exact congrArg nI (smP_y (P := lvF ft st tn) (by first | with_reducible assumption | assumption)) | exact congrArg nI (smP_n (P := lvF ft st tn) (by first | with_reducible assumption | assumption))
                have hl9 : lv_has ls 7 [(6, .int (nI (q + 1))), (5, .int (nI (smP (lvF ft st tn) (fun g => nN (mn g)) (q + 1)))), (4, .int (nI (cntP (fun g => ¬ (tn g).toInt = 0) (q + 1)))), (3, .int (nI (cntP (fun g => (st g).toInt = 2) (q + 1)))), (2, .int (nI (cntP (fun g => (st g).toInt = 1) (q + 1)))), (0, .ref k0), (1, .int w)] := by rw [e9_2]; rw [e9_3]; rw [e9_4]; rw [e9_5]; exact hl9
                exact ih_13 (q + 1) H locs ls (by first | with_reducible assumption | omega) (by first | with_reducible assumption | omega) hP hD hS hl9
              · have c_8 : q < ft ∧ (st q).toInt = 1 ∧ (tn q).toInt = 0 := zp_1 c_8
                refine lv_aload_n hx hb dX11_count_91 rfl (lv_at hl 5 rfl) ?_
                refine va_get (D := (dC, dI)) (ci := 9) (v := .ref (a 11)) (C := RX11) (T := TX11) (N := 55) hx hb hts inX11 hown hK hP 0 rfl rfl 11 (Nat.le_of_ble_eq_true rfl) (hts _ mw_1170) (fun _ h9 => h9) rfl dX11_count_92 ?_
                refine lv_iload hx hb dX11_count_95 (lv_at hl 3 rfl) ?_
                refine z_iald hx hb hK hP 3 0 rfl rfl (e := q) rfl b9_4 (Nat.le_of_ble_eq_true rfl) dX11_count_97 ?_
                refine zz_i (v := nI (nN (mn q))) ((hmw q (by first | with_reducible assumption | assumption)).1) ?_
                refine lv_goto (tgt := 102) hx hb dX11_count_98 rfl ?_
                refine lv_iadd hx hb dX11_count_102 ?_
                refine zz_i (v := nI ((smP (lvF ft st tn) (fun g => nN (mn g)) q) + (nN (mn q)))) (nI_add (smP (lvF ft st tn) (fun g => nN (mn g)) q) (nN (mn q))) ?_
                refine lv_istore (lv' := [(5, .int (nI ((smP (lvF ft st tn) (fun g => nN (mn g)) q) + (nN (mn q))))), (4, .int (nI ((cntP (fun g => ¬ (tn g).toInt = 0) q) + 0))), (3, .int (nI ((cntP (fun g => (st g).toInt = 2) q) + 0))), (2, .int (nI ((cntP (fun g => (st g).toInt = 1) q) + 0))), (6, .int (nI q)), (0, .ref k0), (1, .int w)]) hx hb dX11_count_103 hl (Nat.le_of_ble_eq_true rfl) rfl (fun ls hl => ?_)
                refine lv_iinc (v := nI (q + 1)) (lv' := [(6, .int (nI (q + 1))), (5, .int (nI ((smP (lvF ft st tn) (fun g => nN (mn g)) q) + (nN (mn q))))), (4, .int (nI ((cntP (fun g => ¬ (tn g).toInt = 0) q) + 0))), (3, .int (nI ((cntP (fun g => (st g).toInt = 2) q) + 0))), (2, .int (nI ((cntP (fun g => (st g).toInt = 1) q) + 0))), (0, .ref k0), (1, .int w)]) hx hb dX11_count_105 hl (k := 4) rfl (nI_add q 1) (Nat.le_of_ble_eq_true rfl) rfl (fun ls hl => ?_)
                refine lv_goto (tgt := 13) hx hb dX11_count_108 rfl ?_
                have hl9 := lv_sub hl [0, 1, 2, 3, 4, 5, 6] rfl
                have e9_2 : nI (cntP (fun g => (st g).toInt = 1) (q + 1)) = (nI ((cntP (fun g => (st g).toInt = 1) q) + 0) : Int32) := by first | exact congrArg nI (cntP_y (P := fun g => (st g).toInt = 1) (show (st q).toInt = 1 by omega)) | exact congrArg nI (cntP_n0 (P := fun g => (st g).toInt = 1) (show ¬ (st q).toInt = 1 by omega))
                have e9_3 : nI (cntP (fun g => (st g).toInt = 2) (q + 1)) = (nI ((cntP (fun g => (st g).toInt = 2) q) + 0) : Int32) := by first | exact congrArg nI (cntP_y (P := fun g => (st g).toInt = 2) (show (st q).toInt = 2 by omega)) | exact congrArg nI (cntP_n0 (P := fun g => (st g).toInt = 2) (show ¬ (st q).toInt = 2 by omega))
                have e9_4 : nI (cntP (fun g => ¬ (tn g).toInt = 0) (q + 1)) = (nI ((cntP (fun g => ¬ (tn g).toInt = 0) q) + 0) : Int32) := by first | exact congrArg nI (cntP_y (P := fun g => ¬ (tn g).toInt = 0) (show ¬ (tn q).toInt = 0 by omega)) | exact congrArg nI (cntP_n0 (P := fun g => ¬ (tn g).toInt = 0) (show ¬ ¬ (tn q).toInt = 0 by omega))
                have e9_5 : nI (smP (lvF ft st tn) (fun g => nN (mn g)) (q + 1)) = (nI ((smP (lvF ft st tn) (fun g => nN (mn g)) q) + (nN (mn q))) : Int32) := by first | exact congrArg nI (smP_y (P := lvF ft st tn) (by first | with_reducible assumption | assumption)) | exact congrArg nI (smP_n (P := lvF ft st tn) (by first | with_reducible assumption | assumption))
                have hl9 : lv_has ls 7 [(6, .int (nI (q + 1))), (5, .int (nI (smP (lvF ft st tn) (fun g => nN (mn g)) (q + 1)))), (4, .int (nI (cntP (fun g => ¬ (tn g).toInt = 0) (q + 1)))), (3, .int (nI (cntP (fun g => (st g).toInt = 2) (q + 1)))), (2, .int (nI (cntP (fun g => (st g).toInt = 1) (q + 1)))), (0, .ref k0), (1, .int w)] := by rw [e9_2]; rw [e9_3]; rw [e9_4]; rw [e9_5]; exact hl9
                exact ih_13 (q + 1) H locs ls (by first | with_reducible assumption | omega) (by first | with_reducible assumption | omega) hP hD hS hl9
            · have c_7 : ¬ (tn q).toInt = 0 := zc_ne rfl rfl c_7
              refine lv_iconst (v := 1) hx hb dX11_count_72 rfl ?_
              refine lv_goto (tgt := 77) hx hb dX11_count_73 rfl ?_
              refine lv_iadd hx hb dX11_count_77 ?_
              refine zz_i (v := nI ((cntP (fun g => ¬ (tn g).toInt = 0) q) + 1)) (nI_add (cntP (fun g => ¬ (tn g).toInt = 0) q) 1) ?_
              refine lv_istore (lv' := [(4, .int (nI ((cntP (fun g => ¬ (tn g).toInt = 0) q) + 1))), (3, .int (nI ((cntP (fun g => (st g).toInt = 2) q) + 0))), (2, .int (nI ((cntP (fun g => (st g).toInt = 1) q) + 0))), (6, .int (nI q)), (5, .int (nI (smP (lvF ft st tn) (fun g => nN (mn g)) q))), (0, .ref k0), (1, .int w)]) hx hb dX11_count_78 hl (Nat.le_of_ble_eq_true rfl) rfl (fun ls hl => ?_)
              refine lv_iload hx hb dX11_count_80 (lv_at hl 4 rfl) ?_
              refine lv_aload_n hx hb dX11_count_82 rfl (lv_at hl 5 rfl) ?_
              refine lv_iload hx hb dX11_count_83 (lv_at hl 3 rfl) ?_
              obtain ⟨hPc, hDc, hFc, hI1⟩ := zi_sub (wc := [_, _, _]) hP hD hS hA [0, 1, 2] rfl rfl
              refine zcall (st1 := [.int (pI (q < ft ∧ (st q).toInt = 1 ∧ (tn q).toInt = 0)), .int (nI (smP (lvF ft st tn) (fun g => nN (mn g)) q))]) (va_runV (As := [.int (nI q)]) (rest := [.int (nI (smP (lvF ft st tn) (fun g => nN (mn g)) q))]) ⟨hx, hb, hml, hown, hts⟩ (k_M_is_n l dC dI cI cZ cF H.size k0 a I0 J0 q ft st tn (by first | with_reducible assumption | assumption) (by first | with_reducible assumption | omega) (by first | with_reducible assumption | omega)) (csV_179 hts rfl rfl ⟨Nat.le_of_ble_eq_true rfl, Nat.le_of_ble_eq_true rfl⟩) (zPV2 (q0 := 0) (ci := 9) hPc hDc hK hXN rfl rfl) rfl rfl hl.1 rfl (lv_room (Nat.le_of_ble_eq_true rfl)) dX11_count_85 ⟨Nat.le_of_ble_eq_true rfl, Nat.le_of_ble_eq_true rfl⟩) hS hFc hFc rfl (fun t H locs ht hB hk1 hS => ?_)
              obtain ⟨hP1, hD1⟩ := hB
              rw [ht] at hP1
              replace hP := z0 hP hD hk1 hP1 hI1
              clear hk1 hPc hDc hFc hP1 hD1 ht hI1
              refine lv_if_eq (tgt := 101) hx hb dX11_count_88 rfl (fun c_9 => ?_) (fun c_9 => ?_)
              · have c_9 : ¬ (q < ft ∧ (st q).toInt = 1 ∧ (tn q).toInt = 0) := zp_0 c_9
                refine lv_iconst (v := 0) hx hb dX11_count_101 rfl ?_
                refine lv_iadd hx hb dX11_count_102 ?_
                refine zz_i (v := nI ((smP (lvF ft st tn) (fun g => nN (mn g)) q) + 0)) (nI_add (smP (lvF ft st tn) (fun g => nN (mn g)) q) 0) ?_
                refine lv_istore (lv' := [(5, .int (nI ((smP (lvF ft st tn) (fun g => nN (mn g)) q) + 0))), (4, .int (nI ((cntP (fun g => ¬ (tn g).toInt = 0) q) + 1))), (3, .int (nI ((cntP (fun g => (st g).toInt = 2) q) + 0))), (2, .int (nI ((cntP (fun g => (st g).toInt = 1) q) + 0))), (6, .int (nI q)), (0, .ref k0), (1, .int w)]) hx hb dX11_count_103 hl (Nat.le_of_ble_eq_true rfl) rfl (fun ls hl => ?_)
                refine lv_iinc (v := nI (q + 1)) (lv' := [(6, .int (nI (q + 1))), (5, .int (nI ((smP (lvF ft st tn) (fun g => nN (mn g)) q) + 0))), (4, .int (nI ((cntP (fun g => ¬ (tn g).toInt = 0) q) + 1))), (3, .int (nI ((cntP (fun g => (st g).toInt = 2) q) + 0))), (2, .int (nI ((cntP (fun g => (st g).toInt = 1) q) + 0))), (0, .ref k0), (1, .int w)]) hx hb dX11_count_105 hl (k := 4) rfl (nI_add q 1) (Nat.le_of_ble_eq_true rfl) rfl (fun ls hl => ?_)
                refine lv_goto (tgt := 13) hx hb dX11_count_108 rfl ?_
                have hl9 := lv_sub hl [0, 1, 2, 3, 4, 5, 6] rfl
                have e9_2 : nI (cntP (fun g => (st g).toInt = 1) (q + 1)) = (nI ((cntP (fun g => (st g).toInt = 1) q) + 0) : Int32) := by first | exact congrArg nI (cntP_y (P := fun g => (st g).toInt = 1) (show (st q).toInt = 1 by omega)) | exact congrArg nI (cntP_n0 (P := fun g => (st g).toInt = 1) (show ¬ (st q).toInt = 1 by omega))
                have e9_3 : nI (cntP (fun g => (st g).toInt = 2) (q + 1)) = (nI ((cntP (fun g => (st g).toInt = 2) q) + 0) : Int32) := by first | exact congrArg nI (cntP_y (P := fun g => (st g).toInt = 2) (show (st q).toInt = 2 by omega)) | exact congrArg nI (cntP_n0 (P := fun g => (st g).toInt = 2) (show ¬ (st q).toInt = 2 by omega))
                have e9_4 : nI (cntP (fun g => ¬ (tn g).toInt = 0) (q + 1)) = (nI ((cntP (fun g => ¬ (tn g).toInt = 0) q) + 1) : Int32) := by first | exact congrArg nI (cntP_y (P := fun g => ¬ (tn g).toInt = 0) (show ¬ (tn q).toInt = 0 by omega)) | exact congrArg nI (cntP_n0 (P := fun g => ¬ (tn g).toInt = 0) (show ¬ ¬ (tn q).toInt = 0 by omega))
                have e9_5 : nI (smP (lvF ft st tn) (fun g => nN (mn g)) (q + 1)) = (nI ((smP (lvF ft st tn) (fun g => nN (mn g)) q) + 0) : Int32) := by first | exact congrArg nI (smP_y (P := lvF ft st tn) (by first | with_reducible assumption | assumption)) | exact congrArg nI (smP_n (P := lvF ft st tn) (by first | with_reducible assumption | assumption))
                have hl9 : lv_has ls 7 [(6, .int (nI (q + 1))), (5, .int (nI (smP (lvF ft st tn) (fun g => nN (mn g)) (q + 1)))), (4, .int (nI (cntP (fun g => ¬ (tn g).toInt = 0) (q + 1)))), (3, .int (nI (cntP (fun g => (st g).toInt = 2) (q + 1)))), (2, .int (nI (cntP (fun g => (st g).toInt = 1) (q + 1)))), (0, .ref k0), (1, .int w)] := by rw [e9_2]; rw [e9_3]; rw [e9_4]; rw [e9_5]; exact hl9
                exact ih_13 (q + 1) H locs ls (by first | with_reducible assumption | omega) (by first | with_reducible assumption | omega) hP hD hS hl9
              · have c_9 : q < ft ∧ (st q).toInt = 1 ∧ (tn q).toInt = 0 := zp_1 c_9
                refine lv_aload_n hx hb dX11_count_91 rfl (lv_at hl 5 rfl) ?_
                refine va_get (D := (dC, dI)) (ci := 9) (v := .ref (a 11)) (C := RX11) (T := TX11) (N := 55) hx hb hts inX11 hown hK hP 0 rfl rfl 11 (Nat.le_of_ble_eq_true rfl) (hts _ mw_1170) (fun _ h9 => h9) rfl dX11_count_92 ?_
                refine lv_iload hx hb dX11_count_95 (lv_at hl 3 rfl) ?_
                refine z_iald hx hb hK hP 3 0 rfl rfl (e := q) rfl b9_4 (Nat.le_of_ble_eq_true rfl) dX11_count_97 ?_
                refine zz_i (v := nI (nN (mn q))) ((hmw q (by first | with_reducible assumption | assumption)).1) ?_
                refine lv_goto (tgt := 102) hx hb dX11_count_98 rfl ?_
                refine lv_iadd hx hb dX11_count_102 ?_
                refine zz_i (v := nI ((smP (lvF ft st tn) (fun g => nN (mn g)) q) + (nN (mn q)))) (nI_add (smP (lvF ft st tn) (fun g => nN (mn g)) q) (nN (mn q))) ?_
                refine lv_istore (lv' := [(5, .int (nI ((smP (lvF ft st tn) (fun g => nN (mn g)) q) + (nN (mn q))))), (4, .int (nI ((cntP (fun g => ¬ (tn g).toInt = 0) q) + 1))), (3, .int (nI ((cntP (fun g => (st g).toInt = 2) q) + 0))), (2, .int (nI ((cntP (fun g => (st g).toInt = 1) q) + 0))), (6, .int (nI q)), (0, .ref k0), (1, .int w)]) hx hb dX11_count_103 hl (Nat.le_of_ble_eq_true rfl) rfl (fun ls hl => ?_)
                refine lv_iinc (v := nI (q + 1)) (lv' := [(6, .int (nI (q + 1))), (5, .int (nI ((smP (lvF ft st tn) (fun g => nN (mn g)) q) + (nN (mn q))))), (4, .int (nI ((cntP (fun g => ¬ (tn g).toInt = 0) q) + 1))), (3, .int (nI ((cntP (fun g => (st g).toInt = 2) q) + 0))), (2, .int (nI ((cntP (fun g => (st g).toInt = 1) q) + 0))), (0, .ref k0), (1, .int w)]) hx hb dX11_count_105 hl (k := 4) rfl (nI_add q 1) (Nat.le_of_ble_eq_true rfl) rfl (fun ls hl => ?_)
                refine lv_goto (tgt := 13) hx hb dX11_count_108 rfl ?_
                have hl9 := lv_sub hl [0, 1, 2, 3, 4, 5, 6] rfl
                have e9_2 : nI (cntP (fun g => (st g).toInt = 1) (q + 1)) = (nI ((cntP (fun g => (st g).toInt = 1) q) + 0) : Int32) := by first | exact congrArg nI (cntP_y (P := fun g => (st g).toInt = 1) (show (st q).toInt = 1 by omega)) | exact congrArg nI (cntP_n0 (P := fun g => (st g).toInt = 1) (show ¬ (st q).toInt = 1 by omega))
                have e9_3 : nI (cntP (fun g => (st g).toInt = 2) (q + 1)) = (nI ((cntP (fun g => (st g).toInt = 2) q) + 0) : Int32) := by first | exact congrArg nI (cntP_y (P := fun g => (st g).toInt = 2) (show (st q).toInt = 2 by omega)) | exact congrArg nI (cntP_n0 (P := fun g => (st g).toInt = 2) (show ¬ (st q).toInt = 2 by omega))
                have e9_4 : nI (cntP (fun g => ¬ (tn g).toInt = 0) (q + 1)) = (nI ((cntP (fun g => ¬ (tn g).toInt = 0) q) + 1) : Int32) := by first | exact congrArg nI (cntP_y (P := fun g => ¬ (tn g).toInt = 0) (show ¬ (tn q).toInt = 0 by omega)) | exact congrArg nI (cntP_n0 (P := fun g => ¬ (tn g).toInt = 0) (show ¬ ¬ (tn q).toInt = 0 by omega))
                have e9_5 : nI (smP (lvF ft st tn) (fun g => nN (mn g)) (q + 1)) = (nI ((smP (lvF ft st tn) (fun g => nN (mn g)) q) + (nN (mn q))) : Int32) := by first | exact congrArg nI (smP_y (P := lvF ft st tn) (by first | with_reducible assumption | assumption)) | exact congrArg nI (smP_n (P := lvF ft st tn) (by first | with_reducible assumption | assumption))
                have hl9 : lv_has ls 7 [(6, .int (nI (q + 1))), (5, .int (nI (smP (lvF ft st tn) (fun g => nN (mn g)) (q + 1)))), (4, .int (nI (cntP (fun g => ¬ (tn g).toInt = 0) (q + 1)))), (3, .int (nI (cntP (fun g => (st g).toInt = 2) (q + 1)))), (2, .int (nI (cntP (fun g => (st g).toInt = 1) (q + 1)))), (0, .ref k0), (1, .int w)] := by rw [e9_2]; rw [e9_3]; rw [e9_4]; rw [e9_5]; exact hl9
                exact ih_13 (q + 1) H locs ls (by first | with_reducible assumption | omega) (by first | with_reducible assumption | omega) hP hD hS hl9
          · have c_6 : (st q).toInt = 2 := zc_eq rfl rfl c_6
            refine lv_iconst (v := 1) hx hb dX11_count_53 rfl ?_
            refine lv_goto (tgt := 58) hx hb dX11_count_54 rfl ?_
            refine lv_iadd hx hb dX11_count_58 ?_
            refine zz_i (v := nI ((cntP (fun g => (st g).toInt = 2) q) + 1)) (nI_add (cntP (fun g => (st g).toInt = 2) q) 1) ?_
            refine lv_istore_n (lv' := [(3, .int (nI ((cntP (fun g => (st g).toInt = 2) q) + 1))), (2, .int (nI ((cntP (fun g => (st g).toInt = 1) q) + 0))), (6, .int (nI q)), (5, .int (nI (smP (lvF ft st tn) (fun g => nN (mn g)) q))), (4, .int (nI (cntP (fun g => ¬ (tn g).toInt = 0) q))), (0, .ref k0), (1, .int w)]) hx hb dX11_count_59 rfl hl (Nat.le_of_ble_eq_true rfl) rfl (fun ls hl => ?_)
            refine lv_iload hx hb dX11_count_60 (lv_at hl 4 rfl) ?_
            refine lv_aload_n hx hb dX11_count_62 rfl (lv_at hl 5 rfl) ?_
            refine va_get (D := (dC, dI)) (ci := 9) (v := .ref (a 6)) (C := RX11) (T := TX11) (N := 55) hx hb hts inX11 hown hK hP 0 rfl rfl 6 (Nat.le_of_ble_eq_true rfl) (hts _ mw_1165) (fun _ h9 => h9) rfl dX11_count_63 ?_
            refine lv_iload hx hb dX11_count_66 (lv_at hl 2 rfl) ?_
            refine z_zald hx hb hK hP 2 1 rfl rfl (e := q) rfl b9_4 (Nat.le_of_ble_eq_true rfl) dX11_count_68 ?_
            refine lv_if_eq (tgt := 76) hx hb dX11_count_69 rfl (fun c_10 => ?_) (fun c_10 => ?_)
            · have c_10 : (tn q).toInt = 0 := zc_eq rfl rfl c_10
              refine lv_iconst (v := 0) hx hb dX11_count_76 rfl ?_
              refine lv_iadd hx hb dX11_count_77 ?_
              refine zz_i (v := nI ((cntP (fun g => ¬ (tn g).toInt = 0) q) + 0)) (nI_add (cntP (fun g => ¬ (tn g).toInt = 0) q) 0) ?_
              refine lv_istore (lv' := [(4, .int (nI ((cntP (fun g => ¬ (tn g).toInt = 0) q) + 0))), (3, .int (nI ((cntP (fun g => (st g).toInt = 2) q) + 1))), (2, .int (nI ((cntP (fun g => (st g).toInt = 1) q) + 0))), (6, .int (nI q)), (5, .int (nI (smP (lvF ft st tn) (fun g => nN (mn g)) q))), (0, .ref k0), (1, .int w)]) hx hb dX11_count_78 hl (Nat.le_of_ble_eq_true rfl) rfl (fun ls hl => ?_)
              refine lv_iload hx hb dX11_count_80 (lv_at hl 4 rfl) ?_
              refine lv_aload_n hx hb dX11_count_82 rfl (lv_at hl 5 rfl) ?_
              refine lv_iload hx hb dX11_count_83 (lv_at hl 3 rfl) ?_
              obtain ⟨hPc, hDc, hFc, hI1⟩ := zi_sub (wc := [_, _, _]) hP hD hS hA [0, 1, 2] rfl rfl
              refine zcall (st1 := [.int (pI (q < ft ∧ (st q).toInt = 1 ∧ (tn q).toInt = 0)), .int (nI (smP (lvF ft st tn) (fun g => nN (mn g)) q))]) (va_runV (As := [.int (nI q)]) (rest := [.int (nI (smP (lvF ft st tn) (fun g => nN (mn g)) q))]) ⟨hx, hb, hml, hown, hts⟩ (k_M_is_n l dC dI cI cZ cF H.size k0 a I0 J0 q ft st tn (by first | with_reducible assumption | assumption) (by first | with_reducible assumption | omega) (by first | with_reducible assumption | omega)) (csV_179 hts rfl rfl ⟨Nat.le_of_ble_eq_true rfl, Nat.le_of_ble_eq_true rfl⟩) (zPV2 (q0 := 0) (ci := 9) hPc hDc hK hXN rfl rfl) rfl rfl hl.1 rfl (lv_room (Nat.le_of_ble_eq_true rfl)) dX11_count_85 ⟨Nat.le_of_ble_eq_true rfl, Nat.le_of_ble_eq_true rfl⟩) hS hFc hFc rfl (fun t H locs ht hB hk1 hS => ?_)
              obtain ⟨hP1, hD1⟩ := hB
              rw [ht] at hP1
              replace hP := z0 hP hD hk1 hP1 hI1
              clear hk1 hPc hDc hFc hP1 hD1 ht hI1
              refine lv_if_eq (tgt := 101) hx hb dX11_count_88 rfl (fun c_11 => ?_) (fun c_11 => ?_)
              · have c_11 : ¬ (q < ft ∧ (st q).toInt = 1 ∧ (tn q).toInt = 0) := zp_0 c_11
                refine lv_iconst (v := 0) hx hb dX11_count_101 rfl ?_
                refine lv_iadd hx hb dX11_count_102 ?_
                refine zz_i (v := nI ((smP (lvF ft st tn) (fun g => nN (mn g)) q) + 0)) (nI_add (smP (lvF ft st tn) (fun g => nN (mn g)) q) 0) ?_
                refine lv_istore (lv' := [(5, .int (nI ((smP (lvF ft st tn) (fun g => nN (mn g)) q) + 0))), (4, .int (nI ((cntP (fun g => ¬ (tn g).toInt = 0) q) + 0))), (3, .int (nI ((cntP (fun g => (st g).toInt = 2) q) + 1))), (2, .int (nI ((cntP (fun g => (st g).toInt = 1) q) + 0))), (6, .int (nI q)), (0, .ref k0), (1, .int w)]) hx hb dX11_count_103 hl (Nat.le_of_ble_eq_true rfl) rfl (fun ls hl => ?_)
                refine lv_iinc (v := nI (q + 1)) (lv' := [(6, .int (nI (q + 1))), (5, .int (nI ((smP (lvF ft st tn) (fun g => nN (mn g)) q) + 0))), (4, .int (nI ((cntP (fun g => ¬ (tn g).toInt = 0) q) + 0))), (3, .int (nI ((cntP (fun g => (st g).toInt = 2) q) + 1))), (2, .int (nI ((cntP (fun g => (st g).toInt = 1) q) + 0))), (0, .ref k0), (1, .int w)]) hx hb dX11_count_105 hl (k := 4) rfl (nI_add q 1) (Nat.le_of_ble_eq_true rfl) rfl (fun ls hl => ?_)
                refine lv_goto (tgt := 13) hx hb dX11_count_108 rfl ?_
                have hl9 := lv_sub hl [0, 1, 2, 3, 4, 5, 6] rfl
                have e9_2 : nI (cntP (fun g => (st g).toInt = 1) (q + 1)) = (nI ((cntP (fun g => (st g).toInt = 1) q) + 0) : Int32) := by first | exact congrArg nI (cntP_y (P := fun g => (st g).toInt = 1) (show (st q).toInt = 1 by omega)) | exact congrArg nI (cntP_n0 (P := fun g => (st g).toInt = 1) (show ¬ (st q).toInt = 1 by omega))
                have e9_3 : nI (cntP (fun g => (st g).toInt = 2) (q + 1)) = (nI ((cntP (fun g => (st g).toInt = 2) q) + 1) : Int32) := by first | exact congrArg nI (cntP_y (P := fun g => (st g).toInt = 2) (show (st q).toInt = 2 by omega)) | exact congrArg nI (cntP_n0 (P := fun g => (st g).toInt = 2) (show ¬ (st q).toInt = 2 by omega))
                have e9_4 : nI (cntP (fun g => ¬ (tn g).toInt = 0) (q + 1)) = (nI ((cntP (fun g => ¬ (tn g).toInt = 0) q) + 0) : Int32) := by first | exact congrArg nI (cntP_y (P := fun g => ¬ (tn g).toInt = 0) (show ¬ (tn q).toInt = 0 by omega)) | exact congrArg nI (cntP_n0 (P := fun g => ¬ (tn g).toInt = 0) (show ¬ ¬ (tn q).toInt = 0 by omega))
                have e9_5 : nI (smP (lvF ft st tn) (fun g => nN (mn g)) (q + 1)) = (nI ((smP (lvF ft st tn) (fun g => nN (mn g)) q) + 0) : Int32) := by first | exact congrArg nI (smP_y (P := lvF ft st tn) (by first | with_reducible assumption | assumption)) | exact congrArg nI (smP_n (P := lvF ft st tn) (by first | with_reducible assumption | assumption))
                have hl9 : lv_has ls 7 [(6, .int (nI (q + 1))), (5, .int (nI (smP (lvF ft st tn) (fun g => nN (mn g)) (q + 1)))), (4, .int (nI (cntP (fun g => ¬ (tn g).toInt = 0) (q + 1)))), (3, .int (nI (cntP (fun g => (st g).toInt = 2) (q + 1)))), (2, .int (nI (cntP (fun g => (st g).toInt = 1) (q + 1)))), (0, .ref k0), (1, .int w)] := by rw [e9_2]; rw [e9_3]; rw [e9_4]; rw [e9_5]; exact hl9
                exact ih_13 (q + 1) H locs ls (by first | with_reducible assumption | omega) (by first | with_reducible assumption | omega) hP hD hS hl9
              · have c_11 : q < ft ∧ (st q).toInt = 1 ∧ (tn q).toInt = 0 := zp_1 c_11
                refine lv_aload_n hx hb dX11_count_91 rfl (lv_at hl 5 rfl) ?_
                refine va_get (D := (dC, dI)) (ci := 9) (v := .ref (a 11)) (C := RX11) (T := TX11) (N := 55) hx hb hts inX11 hown hK hP 0 rfl rfl 11 (Nat.le_of_ble_eq_true rfl) (hts _ mw_1170) (fun _ h9 => h9) rfl dX11_count_92 ?_
                refine lv_iload hx hb dX11_count_95 (lv_at hl 3 rfl) ?_
                refine z_iald hx hb hK hP 3 0 rfl rfl (e := q) rfl b9_4 (Nat.le_of_ble_eq_true rfl) dX11_count_97 ?_
                refine zz_i (v := nI (nN (mn q))) ((hmw q (by first | with_reducible assumption | assumption)).1) ?_
                refine lv_goto (tgt := 102) hx hb dX11_count_98 rfl ?_
                refine lv_iadd hx hb dX11_count_102 ?_
                refine zz_i (v := nI ((smP (lvF ft st tn) (fun g => nN (mn g)) q) + (nN (mn q)))) (nI_add (smP (lvF ft st tn) (fun g => nN (mn g)) q) (nN (mn q))) ?_
                refine lv_istore (lv' := [(5, .int (nI ((smP (lvF ft st tn) (fun g => nN (mn g)) q) + (nN (mn q))))), (4, .int (nI ((cntP (fun g => ¬ (tn g).toInt = 0) q) + 0))), (3, .int (nI ((cntP (fun g => (st g).toInt = 2) q) + 1))), (2, .int (nI ((cntP (fun g => (st g).toInt = 1) q) + 0))), (6, .int (nI q)), (0, .ref k0), (1, .int w)]) hx hb dX11_count_103 hl (Nat.le_of_ble_eq_true rfl) rfl (fun ls hl => ?_)
                refine lv_iinc (v := nI (q + 1)) (lv' := [(6, .int (nI (q + 1))), (5, .int (nI ((smP (lvF ft st tn) (fun g => nN (mn g)) q) + (nN (mn q))))), (4, .int (nI ((cntP (fun g => ¬ (tn g).toInt = 0) q) + 0))), (3, .int (nI ((cntP (fun g => (st g).toInt = 2) q) + 1))), (2, .int (nI ((cntP (fun g => (st g).toInt = 1) q) + 0))), (0, .ref k0), (1, .int w)]) hx hb dX11_count_105 hl (k := 4) rfl (nI_add q 1) (Nat.le_of_ble_eq_true rfl) rfl (fun ls hl => ?_)
                refine lv_goto (tgt := 13) hx hb dX11_count_108 rfl ?_
                have hl9 := lv_sub hl [0, 1, 2, 3, 4, 5, 6] rfl
                have e9_2 : nI (cntP (fun g => (st g).toInt = 1) (q + 1)) = (nI ((cntP (fun g => (st g).toInt = 1) q) + 0) : Int32) := by first | exact congrArg nI (cntP_y (P := fun g => (st g).toInt = 1) (show (st q).toInt = 1 by omega)) | exact congrArg nI (cntP_n0 (P := fun g => (st g).toInt = 1) (show ¬ (st q).toInt = 1 by omega))
                have e9_3 : nI (cntP (fun g => (st g).toInt = 2) (q + 1)) = (nI ((cntP (fun g => (st g).toInt = 2) q) + 1) : Int32) := by first | exact congrArg nI (cntP_y (P := fun g => (st g).toInt = 2) (show (st q).toInt = 2 by omega)) | exact congrArg nI (cntP_n0 (P := fun g => (st g).toInt = 2) (show ¬ (st q).toInt = 2 by omega))
                have e9_4 : nI (cntP (fun g => ¬ (tn g).toInt = 0) (q + 1)) = (nI ((cntP (fun g => ¬ (tn g).toInt = 0) q) + 0) : Int32) := by first | exact congrArg nI (cntP_y (P := fun g => ¬ (tn g).toInt = 0) (show ¬ (tn q).toInt = 0 by omega)) | exact congrArg nI (cntP_n0 (P := fun g => ¬ (tn g).toInt = 0) (show ¬ ¬ (tn q).toInt = 0 by omega))
                have e9_5 : nI (smP (lvF ft st tn) (fun g => nN (mn g)) (q + 1)) = (nI ((smP (lvF ft st tn) (fun g => nN (mn g)) q) + (nN (mn q))) : Int32) := by first | exact congrArg nI (smP_y (P := lvF ft st tn) (by first | with_reducible assumption | assumption)) | exact congrArg nI (smP_n (P := lvF ft st tn) (by first | with_reducible assumption | assumption))
                have hl9 : lv_has ls 7 [(6, .int (nI (q + 1))), (5, .int (nI (smP (lvF ft st tn) (fun g => nN (mn g)) (q + 1)))), (4, .int (nI (cntP (fun g => ¬ (tn g).toInt = 0) (q + 1)))), (3, .int (nI (cntP (fun g => (st g).toInt = 2) (q + 1)))), (2, .int (nI (cntP (fun g => (st g).toInt = 1) (q + 1)))), (0, .ref k0), (1, .int w)] := by rw [e9_2]; rw [e9_3]; rw [e9_4]; rw [e9_5]; exact hl9
                exact ih_13 (q + 1) H locs ls (by first | with_reducible assumption | omega) (by first | with_reducible assumption | omega) hP hD hS hl9
            · have c_10 : ¬ (tn q).toInt = 0 := zc_ne rfl rfl c_10
              refine lv_iconst (v := 1) hx hb dX11_count_72 rfl ?_
              refine lv_goto (tgt := 77) hx hb dX11_count_73 rfl ?_
              refine lv_iadd hx hb dX11_count_77 ?_
              refine zz_i (v := nI ((cntP (fun g => ¬ (tn g).toInt = 0) q) + 1)) (nI_add (cntP (fun g => ¬ (tn g).toInt = 0) q) 1) ?_
              refine lv_istore (lv' := [(4, .int (nI ((cntP (fun g => ¬ (tn g).toInt = 0) q) + 1))), (3, .int (nI ((cntP (fun g => (st g).toInt = 2) q) + 1))), (2, .int (nI ((cntP (fun g => (st g).toInt = 1) q) + 0))), (6, .int (nI q)), (5, .int (nI (smP (lvF ft st tn) (fun g => nN (mn g)) q))), (0, .ref k0), (1, .int w)]) hx hb dX11_count_78 hl (Nat.le_of_ble_eq_true rfl) rfl (fun ls hl => ?_)
              refine lv_iload hx hb dX11_count_80 (lv_at hl 4 rfl) ?_
              refine lv_aload_n hx hb dX11_count_82 rfl (lv_at hl 5 rfl) ?_
              refine lv_iload hx hb dX11_count_83 (lv_at hl 3 rfl) ?_
              obtain ⟨hPc, hDc, hFc, hI1⟩ := zi_sub (wc := [_, _, _]) hP hD hS hA [0, 1, 2] rfl rfl
              refine zcall (st1 := [.int (pI (q < ft ∧ (st q).toInt = 1 ∧ (tn q).toInt = 0)), .int (nI (smP (lvF ft st tn) (fun g => nN (mn g)) q))]) (va_runV (As := [.int (nI q)]) (rest := [.int (nI (smP (lvF ft st tn) (fun g => nN (mn g)) q))]) ⟨hx, hb, hml, hown, hts⟩ (k_M_is_n l dC dI cI cZ cF H.size k0 a I0 J0 q ft st tn (by first | with_reducible assumption | assumption) (by first | with_reducible assumption | omega) (by first | with_reducible assumption | omega)) (csV_179 hts rfl rfl ⟨Nat.le_of_ble_eq_true rfl, Nat.le_of_ble_eq_true rfl⟩) (zPV2 (q0 := 0) (ci := 9) hPc hDc hK hXN rfl rfl) rfl rfl hl.1 rfl (lv_room (Nat.le_of_ble_eq_true rfl)) dX11_count_85 ⟨Nat.le_of_ble_eq_true rfl, Nat.le_of_ble_eq_true rfl⟩) hS hFc hFc rfl (fun t H locs ht hB hk1 hS => ?_)
              obtain ⟨hP1, hD1⟩ := hB
              rw [ht] at hP1
              replace hP := z0 hP hD hk1 hP1 hI1
              clear hk1 hPc hDc hFc hP1 hD1 ht hI1
              refine lv_if_eq (tgt := 101) hx hb dX11_count_88 rfl (fun c_12 => ?_) (fun c_12 => ?_)
              · have c_12 : ¬ (q < ft ∧ (st q).toInt = 1 ∧ (tn q).toInt = 0) := zp_0 c_12
                refine lv_iconst (v := 0) hx hb dX11_count_101 rfl ?_
                refine lv_iadd hx hb dX11_count_102 ?_
                refine zz_i (v := nI ((smP (lvF ft st tn) (fun g => nN (mn g)) q) + 0)) (nI_add (smP (lvF ft st tn) (fun g => nN (mn g)) q) 0) ?_
                refine lv_istore (lv' := [(5, .int (nI ((smP (lvF ft st tn) (fun g => nN (mn g)) q) + 0))), (4, .int (nI ((cntP (fun g => ¬ (tn g).toInt = 0) q) + 1))), (3, .int (nI ((cntP (fun g => (st g).toInt = 2) q) + 1))), (2, .int (nI ((cntP (fun g => (st g).toInt = 1) q) + 0))), (6, .int (nI q)), (0, .ref k0), (1, .int w)]) hx hb dX11_count_103 hl (Nat.le_of_ble_eq_true rfl) rfl (fun ls hl => ?_)
                refine lv_iinc (v := nI (q + 1)) (lv' := [(6, .int (nI (q + 1))), (5, .int (nI ((smP (lvF ft st tn) (fun g => nN (mn g)) q) + 0))), (4, .int (nI ((cntP (fun g => ¬ (tn g).toInt = 0) q) + 1))), (3, .int (nI ((cntP (fun g => (st g).toInt = 2) q) + 1))), (2, .int (nI ((cntP (fun g => (st g).toInt = 1) q) + 0))), (0, .ref k0), (1, .int w)]) hx hb dX11_count_105 hl (k := 4) rfl (nI_add q 1) (Nat.le_of_ble_eq_true rfl) rfl (fun ls hl => ?_)
                refine lv_goto (tgt := 13) hx hb dX11_count_108 rfl ?_
                have hl9 := lv_sub hl [0, 1, 2, 3, 4, 5, 6] rfl
                have e9_2 : nI (cntP (fun g => (st g).toInt = 1) (q + 1)) = (nI ((cntP (fun g => (st g).toInt = 1) q) + 0) : Int32) := by first | exact congrArg nI (cntP_y (P := fun g => (st g).toInt = 1) (show (st q).toInt = 1 by omega)) | exact congrArg nI (cntP_n0 (P := fun g => (st g).toInt = 1) (show ¬ (st q).toInt = 1 by omega))
                have e9_3 : nI (cntP (fun g => (st g).toInt = 2) (q + 1)) = (nI ((cntP (fun g => (st g).toInt = 2) q) + 1) : Int32) := by first | exact congrArg nI (cntP_y (P := fun g => (st g).toInt = 2) (show (st q).toInt = 2 by omega)) | exact congrArg nI (cntP_n0 (P := fun g => (st g).toInt = 2) (show ¬ (st q).toInt = 2 by omega))
                have e9_4 : nI (cntP (fun g => ¬ (tn g).toInt = 0) (q + 1)) = (nI ((cntP (fun g => ¬ (tn g).toInt = 0) q) + 1) : Int32) := by first | exact congrArg nI (cntP_y (P := fun g => ¬ (tn g).toInt = 0) (show ¬ (tn q).toInt = 0 by omega)) | exact congrArg nI (cntP_n0 (P := fun g => ¬ (tn g).toInt = 0) (show ¬ ¬ (tn q).toInt = 0 by omega))
                have e9_5 : nI (smP (lvF ft st tn) (fun g => nN (mn g)) (q + 1)) = (nI ((smP (lvF ft st tn) (fun g => nN (mn g)) q) + 0) : Int32) := by first | exact congrArg nI (smP_y (P := lvF ft st tn) (by first | with_reducible assumption | assumption)) | exact congrArg nI (smP_n (P := lvF ft st tn) (by first | with_reducible assumption | assumption))
                have hl9 : lv_has ls 7 [(6, .int (nI (q + 1))), (5, .int (nI (smP (lvF ft st tn) (fun g => nN (mn g)) (q + 1)))), (4, .int (nI (cntP (fun g => ¬ (tn g).toInt = 0) (q + 1)))), (3, .int (nI (cntP (fun g => (st g).toInt = 2) (q + 1)))), (2, .int (nI (cntP (fun g => (st g).toInt = 1) (q + 1)))), (0, .ref k0), (1, .int w)] := by rw [e9_2]; rw [e9_3]; rw [e9_4]; rw [e9_5]; exact hl9
                exact ih_13 (q + 1) H locs ls (by first | with_reducible assumption | omega) (by first | with_reducible assumption | omega) hP hD hS hl9
              · have c_12 : q < ft ∧ (st q).toInt = 1 ∧ (tn q).toInt = 0 := zp_1 c_12
                refine lv_aload_n hx hb dX11_count_91 rfl (lv_at hl 5 rfl) ?_
                refine va_get (D := (dC, dI)) (ci := 9) (v := .ref (a 11)) (C := RX11) (T := TX11) (N := 55) hx hb hts inX11 hown hK hP 0 rfl rfl 11 (Nat.le_of_ble_eq_true rfl) (hts _ mw_1170) (fun _ h9 => h9) rfl dX11_count_92 ?_
                refine lv_iload hx hb dX11_count_95 (lv_at hl 3 rfl) ?_
                refine z_iald hx hb hK hP 3 0 rfl rfl (e := q) rfl b9_4 (Nat.le_of_ble_eq_true rfl) dX11_count_97 ?_
                refine zz_i (v := nI (nN (mn q))) ((hmw q (by first | with_reducible assumption | assumption)).1) ?_
                refine lv_goto (tgt := 102) hx hb dX11_count_98 rfl ?_
                refine lv_iadd hx hb dX11_count_102 ?_
                refine zz_i (v := nI ((smP (lvF ft st tn) (fun g => nN (mn g)) q) + (nN (mn q)))) (nI_add (smP (lvF ft st tn) (fun g => nN (mn g)) q) (nN (mn q))) ?_
                refine lv_istore (lv' := [(5, .int (nI ((smP (lvF ft st tn) (fun g => nN (mn g)) q) + (nN (mn q))))), (4, .int (nI ((cntP (fun g => ¬ (tn g).toInt = 0) q) + 1))), (3, .int (nI ((cntP (fun g => (st g).toInt = 2) q) + 1))), (2, .int (nI ((cntP (fun g => (st g).toInt = 1) q) + 0))), (6, .int (nI q)), (0, .ref k0), (1, .int w)]) hx hb dX11_count_103 hl (Nat.le_of_ble_eq_true rfl) rfl (fun ls hl => ?_)
                refine lv_iinc (v := nI (q + 1)) (lv' := [(6, .int (nI (q + 1))), (5, .int (nI ((smP (lvF ft st tn) (fun g => nN (mn g)) q) + (nN (mn q))))), (4, .int (nI ((cntP (fun g => ¬ (tn g).toInt = 0) q) + 1))), (3, .int (nI ((cntP (fun g => (st g).toInt = 2) q) + 1))), (2, .int (nI ((cntP (fun g => (st g).toInt = 1) q) + 0))), (0, .ref k0), (1, .int w)]) hx hb dX11_count_105 hl (k := 4) rfl (nI_add q 1) (Nat.le_of_ble_eq_true rfl) rfl (fun ls hl => ?_)
                refine lv_goto (tgt := 13) hx hb dX11_count_108 rfl ?_
                have hl9 := lv_sub hl [0, 1, 2, 3, 4, 5, 6] rfl
                have e9_2 : nI (cntP (fun g => (st g).toInt = 1) (q + 1)) = (nI ((cntP (fun g => (st g).toInt = 1) q) + 0) : Int32) := by first | exact congrArg nI (cntP_y (P := fun g => (st g).toInt = 1) (show (st q).toInt = 1 by omega)) | exact congrArg nI (cntP_n0 (P := fun g => (st g).toInt = 1) (show ¬ (st q).toInt = 1 by omega))
                have e9_3 : nI (cntP (fun g => (st g).toInt = 2) (q + 1)) = (nI ((cntP (fun g => (st g).toInt = 2) q) + 1) : Int32) := by first | exact congrArg nI (cntP_y (P := fun g => (st g).toInt = 2) (show (st q).toInt = 2 by omega)) | exact congrArg nI (cntP_n0 (P := fun g => (st g).toInt = 2) (show ¬ (st q).toInt = 2 by omega))
                have e9_4 : nI (cntP (fun g => ¬ (tn g).toInt = 0) (q + 1)) = (nI ((cntP (fun g => ¬ (tn g).toInt = 0) q) + 1) : Int32) := by first | exact congrArg nI (cntP_y (P := fun g => ¬ (tn g).toInt = 0) (show ¬ (tn q).toInt = 0 by omega)) | exact congrArg nI (cntP_n0 (P := fun g => ¬ (tn g).toInt = 0) (show ¬ ¬ (tn q).toInt = 0 by omega))
                have e9_5 : nI (smP (lvF ft st tn) (fun g => nN (mn g)) (q + 1)) = (nI ((smP (lvF ft st tn) (fun g => nN (mn g)) q) + (nN (mn q))) : Int32) := by first | exact congrArg nI (smP_y (P := lvF ft st tn) (by first | with_reducible assumption | assumption)) | exact congrArg nI (smP_n (P := lvF ft st tn) (by first | with_reducible assumption | assumption))
                have hl9 : lv_has ls 7 [(6, .int (nI (q + 1))), (5, .int (nI (smP (lvF ft st tn) (fun g => nN (mn g)) (q + 1)))), (4, .int (nI (cntP (fun g => ¬ (tn g).toInt = 0) (q + 1)))), (3, .int (nI (cntP (fun g => (st g).toInt = 2) (q + 1)))), (2, .int (nI (cntP (fun g => (st g).toInt = 1) (q + 1)))), (0, .ref k0), (1, .int w)] := by rw [e9_2]; rw [e9_3]; rw [e9_4]; rw [e9_5]; exact hl9
                exact ih_13 (q + 1) H locs ls (by first | with_reducible assumption | omega) (by first | with_reducible assumption | omega) hP hD hS hl9
        · have c_5 : (st q).toInt = 1 := zc_eq rfl rfl c_5
          refine lv_iconst (v := 1) hx hb dX11_count_34 rfl ?_
          refine lv_goto (tgt := 39) hx hb dX11_count_35 rfl ?_
          refine lv_iadd hx hb dX11_count_39 ?_
          refine zz_i (v := nI ((cntP (fun g => (st g).toInt = 1) q) + 1)) (nI_add (cntP (fun g => (st g).toInt = 1) q) 1) ?_
          refine lv_istore_n (lv' := [(2, .int (nI ((cntP (fun g => (st g).toInt = 1) q) + 1))), (6, .int (nI q)), (5, .int (nI (smP (lvF ft st tn) (fun g => nN (mn g)) q))), (4, .int (nI (cntP (fun g => ¬ (tn g).toInt = 0) q))), (3, .int (nI (cntP (fun g => (st g).toInt = 2) q))), (0, .ref k0), (1, .int w)]) hx hb dX11_count_40 rfl hl (Nat.le_of_ble_eq_true rfl) rfl (fun ls hl => ?_)
          refine lv_iload_n hx hb dX11_count_41 rfl (lv_at hl 4 rfl) ?_
          refine lv_aload_n hx hb dX11_count_42 rfl (lv_at hl 5 rfl) ?_
          refine va_get (D := (dC, dI)) (ci := 9) (v := .ref (a 5)) (C := RX11) (T := TX11) (N := 55) hx hb hts inX11 hown hK hP 0 rfl rfl 5 (Nat.le_of_ble_eq_true rfl) (hts _ mw_1164) (fun _ h9 => h9) rfl dX11_count_43 ?_
          refine lv_iload hx hb dX11_count_46 (lv_at hl 1 rfl) ?_
          refine z_iald hx hb hK hP 1 0 rfl rfl (e := q) rfl b9_4 (Nat.le_of_ble_eq_true rfl) dX11_count_48 ?_
          refine lv_iconst (v := 2) hx hb dX11_count_49 rfl ?_
          refine lv_icmp_ne (tgt := 57) hx hb dX11_count_50 rfl (fun c_13 => ?_) (fun c_13 => ?_)
          · have c_13 : ¬ (st q).toInt = 2 := zc_ne rfl rfl c_13
            refine lv_iconst (v := 0) hx hb dX11_count_57 rfl ?_
            refine lv_iadd hx hb dX11_count_58 ?_
            refine zz_i (v := nI ((cntP (fun g => (st g).toInt = 2) q) + 0)) (nI_add (cntP (fun g => (st g).toInt = 2) q) 0) ?_
            refine lv_istore_n (lv' := [(3, .int (nI ((cntP (fun g => (st g).toInt = 2) q) + 0))), (2, .int (nI ((cntP (fun g => (st g).toInt = 1) q) + 1))), (6, .int (nI q)), (5, .int (nI (smP (lvF ft st tn) (fun g => nN (mn g)) q))), (4, .int (nI (cntP (fun g => ¬ (tn g).toInt = 0) q))), (0, .ref k0), (1, .int w)]) hx hb dX11_count_59 rfl hl (Nat.le_of_ble_eq_true rfl) rfl (fun ls hl => ?_)
            refine lv_iload hx hb dX11_count_60 (lv_at hl 4 rfl) ?_
            refine lv_aload_n hx hb dX11_count_62 rfl (lv_at hl 5 rfl) ?_
            refine va_get (D := (dC, dI)) (ci := 9) (v := .ref (a 6)) (C := RX11) (T := TX11) (N := 55) hx hb hts inX11 hown hK hP 0 rfl rfl 6 (Nat.le_of_ble_eq_true rfl) (hts _ mw_1165) (fun _ h9 => h9) rfl dX11_count_63 ?_
            refine lv_iload hx hb dX11_count_66 (lv_at hl 2 rfl) ?_
            refine z_zald hx hb hK hP 2 1 rfl rfl (e := q) rfl b9_4 (Nat.le_of_ble_eq_true rfl) dX11_count_68 ?_
            refine lv_if_eq (tgt := 76) hx hb dX11_count_69 rfl (fun c_14 => ?_) (fun c_14 => ?_)
            · have c_14 : (tn q).toInt = 0 := zc_eq rfl rfl c_14
              refine lv_iconst (v := 0) hx hb dX11_count_76 rfl ?_
              refine lv_iadd hx hb dX11_count_77 ?_
              refine zz_i (v := nI ((cntP (fun g => ¬ (tn g).toInt = 0) q) + 0)) (nI_add (cntP (fun g => ¬ (tn g).toInt = 0) q) 0) ?_
              refine lv_istore (lv' := [(4, .int (nI ((cntP (fun g => ¬ (tn g).toInt = 0) q) + 0))), (3, .int (nI ((cntP (fun g => (st g).toInt = 2) q) + 0))), (2, .int (nI ((cntP (fun g => (st g).toInt = 1) q) + 1))), (6, .int (nI q)), (5, .int (nI (smP (lvF ft st tn) (fun g => nN (mn g)) q))), (0, .ref k0), (1, .int w)]) hx hb dX11_count_78 hl (Nat.le_of_ble_eq_true rfl) rfl (fun ls hl => ?_)
              refine lv_iload hx hb dX11_count_80 (lv_at hl 4 rfl) ?_
              refine lv_aload_n hx hb dX11_count_82 rfl (lv_at hl 5 rfl) ?_
              refine lv_iload hx hb dX11_count_83 (lv_at hl 3 rfl) ?_
              obtain ⟨hPc, hDc, hFc, hI1⟩ := zi_sub (wc := [_, _, _]) hP hD hS hA [0, 1, 2] rfl rfl
              refine zcall (st1 := [.int (pI (q < ft ∧ (st q).toInt = 1 ∧ (tn q).toInt = 0)), .int (nI (smP (lvF ft st tn) (fun g => nN (mn g)) q))]) (va_runV (As := [.int (nI q)]) (rest := [.int (nI (smP (lvF ft st tn) (fun g => nN (mn g)) q))]) ⟨hx, hb, hml, hown, hts⟩ (k_M_is_n l dC dI cI cZ cF H.size k0 a I0 J0 q ft st tn (by first | with_reducible assumption | assumption) (by first | with_reducible assumption | omega) (by first | with_reducible assumption | omega)) (csV_179 hts rfl rfl ⟨Nat.le_of_ble_eq_true rfl, Nat.le_of_ble_eq_true rfl⟩) (zPV2 (q0 := 0) (ci := 9) hPc hDc hK hXN rfl rfl) rfl rfl hl.1 rfl (lv_room (Nat.le_of_ble_eq_true rfl)) dX11_count_85 ⟨Nat.le_of_ble_eq_true rfl, Nat.le_of_ble_eq_true rfl⟩) hS hFc hFc rfl (fun t H locs ht hB hk1 hS => ?_)
              obtain ⟨hP1, hD1⟩ := hB
              rw [ht] at hP1
              replace hP := z0 hP hD hk1 hP1 hI1
              clear hk1 hPc hDc hFc hP1 hD1 ht hI1
              refine lv_if_eq (tgt := 101) hx hb dX11_count_88 rfl (fun c_15 => ?_) (fun c_15 => ?_)
              · have c_15 : ¬ (q < ft ∧ (st q).toInt = 1 ∧ (tn q).toInt = 0) := zp_0 c_15
                refine lv_iconst (v := 0) hx hb dX11_count_101 rfl ?_
                refine lv_iadd hx hb dX11_count_102 ?_
                refine zz_i (v := nI ((smP (lvF ft st tn) (fun g => nN (mn g)) q) + 0)) (nI_add (smP (lvF ft st tn) (fun g => nN (mn g)) q) 0) ?_
                refine lv_istore (lv' := [(5, .int (nI ((smP (lvF ft st tn) (fun g => nN (mn g)) q) + 0))), (4, .int (nI ((cntP (fun g => ¬ (tn g).toInt = 0) q) + 0))), (3, .int (nI ((cntP (fun g => (st g).toInt = 2) q) + 0))), (2, .int (nI ((cntP (fun g => (st g).toInt = 1) q) + 1))), (6, .int (nI q)), (0, .ref k0), (1, .int w)]) hx hb dX11_count_103 hl (Nat.le_of_ble_eq_true rfl) rfl (fun ls hl => ?_)
                refine lv_iinc (v := nI (q + 1)) (lv' := [(6, .int (nI (q + 1))), (5, .int (nI ((smP (lvF ft st tn) (fun g => nN (mn g)) q) + 0))), (4, .int (nI ((cntP (fun g => ¬ (tn g).toInt = 0) q) + 0))), (3, .int (nI ((cntP (fun g => (st g).toInt = 2) q) + 0))), (2, .int (nI ((cntP (fun g => (st g).toInt = 1) q) + 1))), (0, .ref k0), (1, .int w)]) hx hb dX11_count_105 hl (k := 4) rfl (nI_add q 1) (Nat.le_of_ble_eq_true rfl) rfl (fun ls hl => ?_)
                refine lv_goto (tgt := 13) hx hb dX11_count_108 rfl ?_
                have hl9 := lv_sub hl [0, 1, 2, 3, 4, 5, 6] rfl
                have e9_2 : nI (cntP (fun g => (st g).toInt = 1) (q + 1)) = (nI ((cntP (fun g => (st g).toInt = 1) q) + 1) : Int32) := by first | exact congrArg nI (cntP_y (P := fun g => (st g).toInt = 1) (show (st q).toInt = 1 by omega)) | exact congrArg nI (cntP_n0 (P := fun g => (st g).toInt = 1) (show ¬ (st q).toInt = 1 by omega))
                have e9_3 : nI (cntP (fun g => (st g).toInt = 2) (q + 1)) = (nI ((cntP (fun g => (st g).toInt = 2) q) + 0) : Int32) := by first | exact congrArg nI (cntP_y (P := fun g => (st g).toInt = 2) (show (st q).toInt = 2 by omega)) | exact congrArg nI (cntP_n0 (P := fun g => (st g).toInt = 2) (show ¬ (st q).toInt = 2 by omega))
                have e9_4 : nI (cntP (fun g => ¬ (tn g).toInt = 0) (q + 1)) = (nI ((cntP (fun g => ¬ (tn g).toInt = 0) q) + 0) : Int32) := by first | exact congrArg nI (cntP_y (P := fun g => ¬ (tn g).toInt = 0) (show ¬ (tn q).toInt = 0 by omega)) | exact congrArg nI (cntP_n0 (P := fun g => ¬ (tn g).toInt = 0) (show ¬ ¬ (tn q).toInt = 0 by omega))
                have e9_5 : nI (smP (lvF ft st tn) (fun g => nN (mn g)) (q + 1)) = (nI ((smP (lvF ft st tn) (fun g => nN (mn g)) q) + 0) : Int32) := by first | exact congrArg nI (smP_y (P := lvF ft st tn) (by first | with_reducible assumption | assumption)) | exact congrArg nI (smP_n (P := lvF ft st tn) (by first | with_reducible assumption | assumption))
                have hl9 : lv_has ls 7 [(6, .int (nI (q + 1))), (5, .int (nI (smP (lvF ft st tn) (fun g => nN (mn g)) (q + 1)))), (4, .int (nI (cntP (fun g => ¬ (tn g).toInt = 0) (q + 1)))), (3, .int (nI (cntP (fun g => (st g).toInt = 2) (q + 1)))), (2, .int (nI (cntP (fun g => (st g).toInt = 1) (q + 1)))), (0, .ref k0), (1, .int w)] := by rw [e9_2]; rw [e9_3]; rw [e9_4]; rw [e9_5]; exact hl9
                exact ih_13 (q + 1) H locs ls (by first | with_reducible assumption | omega) (by first | with_reducible assumption | omega) hP hD hS hl9
              · have c_15 : q < ft ∧ (st q).toInt = 1 ∧ (tn q).toInt = 0 := zp_1 c_15
                refine lv_aload_n hx hb dX11_count_91 rfl (lv_at hl 5 rfl) ?_
                refine va_get (D := (dC, dI)) (ci := 9) (v := .ref (a 11)) (C := RX11) (T := TX11) (N := 55) hx hb hts inX11 hown hK hP 0 rfl rfl 11 (Nat.le_of_ble_eq_true rfl) (hts _ mw_1170) (fun _ h9 => h9) rfl dX11_count_92 ?_
                refine lv_iload hx hb dX11_count_95 (lv_at hl 3 rfl) ?_
                refine z_iald hx hb hK hP 3 0 rfl rfl (e := q) rfl b9_4 (Nat.le_of_ble_eq_true rfl) dX11_count_97 ?_
                refine zz_i (v := nI (nN (mn q))) ((hmw q (by first | with_reducible assumption | assumption)).1) ?_
                refine lv_goto (tgt := 102) hx hb dX11_count_98 rfl ?_
                refine lv_iadd hx hb dX11_count_102 ?_
                refine zz_i (v := nI ((smP (lvF ft st tn) (fun g => nN (mn g)) q) + (nN (mn q)))) (nI_add (smP (lvF ft st tn) (fun g => nN (mn g)) q) (nN (mn q))) ?_
                refine lv_istore (lv' := [(5, .int (nI ((smP (lvF ft st tn) (fun g => nN (mn g)) q) + (nN (mn q))))), (4, .int (nI ((cntP (fun g => ¬ (tn g).toInt = 0) q) + 0))), (3, .int (nI ((cntP (fun g => (st g).toInt = 2) q) + 0))), (2, .int (nI ((cntP (fun g => (st g).toInt = 1) q) + 1))), (6, .int (nI q)), (0, .ref k0), (1, .int w)]) hx hb dX11_count_103 hl (Nat.le_of_ble_eq_true rfl) rfl (fun ls hl => ?_)
                refine lv_iinc (v := nI (q + 1)) (lv' := [(6, .int (nI (q + 1))), (5, .int (nI ((smP (lvF ft st tn) (fun g => nN (mn g)) q) + (nN (mn q))))), (4, .int (nI ((cntP (fun g => ¬ (tn g).toInt = 0) q) + 0))), (3, .int (nI ((cntP (fun g => (st g).toInt = 2) q) + 0))), (2, .int (nI ((cntP (fun g => (st g).toInt = 1) q) + 1))), (0, .ref k0), (1, .int w)]) hx hb dX11_count_105 hl (k := 4) rfl (nI_add q 1) (Nat.le_of_ble_eq_true rfl) rfl (fun ls hl => ?_)
                refine lv_goto (tgt := 13) hx hb dX11_count_108 rfl ?_
                have hl9 := lv_sub hl [0, 1, 2, 3, 4, 5, 6] rfl
                have e9_2 : nI (cntP (fun g => (st g).toInt = 1) (q + 1)) = (nI ((cntP (fun g => (st g).toInt = 1) q) + 1) : Int32) := by first | exact congrArg nI (cntP_y (P := fun g => (st g).toInt = 1) (show (st q).toInt = 1 by omega)) | exact congrArg nI (cntP_n0 (P := fun g => (st g).toInt = 1) (show ¬ (st q).toInt = 1 by omega))
                have e9_3 : nI (cntP (fun g => (st g).toInt = 2) (q + 1)) = (nI ((cntP (fun g => (st g).toInt = 2) q) + 0) : Int32) := by first | exact congrArg nI (cntP_y (P := fun g => (st g).toInt = 2) (show (st q).toInt = 2 by omega)) | exact congrArg nI (cntP_n0 (P := fun g => (st g).toInt = 2) (show ¬ (st q).toInt = 2 by omega))
                have e9_4 : nI (cntP (fun g => ¬ (tn g).toInt = 0) (q + 1)) = (nI ((cntP (fun g => ¬ (tn g).toInt = 0) q) + 0) : Int32) := by first | exact congrArg nI (cntP_y (P := fun g => ¬ (tn g).toInt = 0) (show ¬ (tn q).toInt = 0 by omega)) | exact congrArg nI (cntP_n0 (P := fun g => ¬ (tn g).toInt = 0) (show ¬ ¬ (tn q).toInt = 0 by omega))
                have e9_5 : nI (smP (lvF ft st tn) (fun g => nN (mn g)) (q + 1)) = (nI ((smP (lvF ft st tn) (fun g => nN (mn g)) q) + (nN (mn q))) : Int32) := by first | exact congrArg nI (smP_y (P := lvF ft st tn) (by first | with_reducible assumption | assumption)) | exact congrArg nI (smP_n (P := lvF ft st tn) (by first | with_reducible assumption | assumption))
                have hl9 : lv_has ls 7 [(6, .int (nI (q + 1))), (5, .int (nI (smP (lvF ft st tn) (fun g => nN (mn g)) (q + 1)))), (4, .int (nI (cntP (fun g => ¬ (tn g).toInt = 0) (q + 1)))), (3, .int (nI (cntP (fun g => (st g).toInt = 2) (q + 1)))), (2, .int (nI (cntP (fun g => (st g).toInt = 1) (q + 1)))), (0, .ref k0), (1, .int w)] := by rw [e9_2]; rw [e9_3]; rw [e9_4]; rw [e9_5]; exact hl9
                exact ih_13 (q + 1) H locs ls (by first | with_reducible assumption | omega) (by first | with_reducible assumption | omega) hP hD hS hl9
            · have c_14 : ¬ (tn q).toInt = 0 := zc_ne rfl rfl c_14
              refine lv_iconst (v := 1) hx hb dX11_count_72 rfl ?_
              refine lv_goto (tgt := 77) hx hb dX11_count_73 rfl ?_
              refine lv_iadd hx hb dX11_count_77 ?_
              refine zz_i (v := nI ((cntP (fun g => ¬ (tn g).toInt = 0) q) + 1)) (nI_add (cntP (fun g => ¬ (tn g).toInt = 0) q) 1) ?_
              refine lv_istore (lv' := [(4, .int (nI ((cntP (fun g => ¬ (tn g).toInt = 0) q) + 1))), (3, .int (nI ((cntP (fun g => (st g).toInt = 2) q) + 0))), (2, .int (nI ((cntP (fun g => (st g).toInt = 1) q) + 1))), (6, .int (nI q)), (5, .int (nI (smP (lvF ft st tn) (fun g => nN (mn g)) q))), (0, .ref k0), (1, .int w)]) hx hb dX11_count_78 hl (Nat.le_of_ble_eq_true rfl) rfl (fun ls hl => ?_)
              refine lv_iload hx hb dX11_count_80 (lv_at hl 4 rfl) ?_
              refine lv_aload_n hx hb dX11_count_82 rfl (lv_at hl 5 rfl) ?_
              refine lv_iload hx hb dX11_count_83 (lv_at hl 3 rfl) ?_
              obtain ⟨hPc, hDc, hFc, hI1⟩ := zi_sub (wc := [_, _, _]) hP hD hS hA [0, 1, 2] rfl rfl
              refine zcall (st1 := [.int (pI (q < ft ∧ (st q).toInt = 1 ∧ (tn q).toInt = 0)), .int (nI (smP (lvF ft st tn) (fun g => nN (mn g)) q))]) (va_runV (As := [.int (nI q)]) (rest := [.int (nI (smP (lvF ft st tn) (fun g => nN (mn g)) q))]) ⟨hx, hb, hml, hown, hts⟩ (k_M_is_n l dC dI cI cZ cF H.size k0 a I0 J0 q ft st tn (by first | with_reducible assumption | assumption) (by first | with_reducible assumption | omega) (by first | with_reducible assumption | omega)) (csV_179 hts rfl rfl ⟨Nat.le_of_ble_eq_true rfl, Nat.le_of_ble_eq_true rfl⟩) (zPV2 (q0 := 0) (ci := 9) hPc hDc hK hXN rfl rfl) rfl rfl hl.1 rfl (lv_room (Nat.le_of_ble_eq_true rfl)) dX11_count_85 ⟨Nat.le_of_ble_eq_true rfl, Nat.le_of_ble_eq_true rfl⟩) hS hFc hFc rfl (fun t H locs ht hB hk1 hS => ?_)
              obtain ⟨hP1, hD1⟩ := hB
              rw [ht] at hP1
              replace hP := z0 hP hD hk1 hP1 hI1
              clear hk1 hPc hDc hFc hP1 hD1 ht hI1
              refine lv_if_eq (tgt := 101) hx hb dX11_count_88 rfl (fun c_16 => ?_) (fun c_16 => ?_)
              · have c_16 : ¬ (q < ft ∧ (st q).toInt = 1 ∧ (tn q).toInt = 0) := zp_0 c_16
                refine lv_iconst (v := 0) hx hb dX11_count_101 rfl ?_
                refine lv_iadd hx hb dX11_count_102 ?_
                refine zz_i (v := nI ((smP (lvF ft st tn) (fun g => nN (mn g)) q) + 0)) (nI_add (smP (lvF ft st tn) (fun g => nN (mn g)) q) 0) ?_
                refine lv_istore (lv' := [(5, .int (nI ((smP (lvF ft st tn) (fun g => nN (mn g)) q) + 0))), (4, .int (nI ((cntP (fun g => ¬ (tn g).toInt = 0) q) + 1))), (3, .int (nI ((cntP (fun g => (st g).toInt = 2) q) + 0))), (2, .int (nI ((cntP (fun g => (st g).toInt = 1) q) + 1))), (6, .int (nI q)), (0, .ref k0), (1, .int w)]) hx hb dX11_count_103 hl (Nat.le_of_ble_eq_true rfl) rfl (fun ls hl => ?_)
                refine lv_iinc (v := nI (q + 1)) (lv' := [(6, .int (nI (q + 1))), (5, .int (nI ((smP (lvF ft st tn) (fun g => nN (mn g)) q) + 0))), (4, .int (nI ((cntP (fun g => ¬ (tn g).toInt = 0) q) + 1))), (3, .int (nI ((cntP (fun g => (st g).toInt = 2) q) + 0))), (2, .int (nI ((cntP (fun g => (st g).toInt = 1) q) + 1))), (0, .ref k0), (1, .int w)]) hx hb dX11_count_105 hl (k := 4) rfl (nI_add q 1) (Nat.le_of_ble_eq_true rfl) rfl (fun ls hl => ?_)
                refine lv_goto (tgt := 13) hx hb dX11_count_108 rfl ?_
                have hl9 := lv_sub hl [0, 1, 2, 3, 4, 5, 6] rfl
                have e9_2 : nI (cntP (fun g => (st g).toInt = 1) (q + 1)) = (nI ((cntP (fun g => (st g).toInt = 1) q) + 1) : Int32) := by first | exact congrArg nI (cntP_y (P := fun g => (st g).toInt = 1) (show (st q).toInt = 1 by omega)) | exact congrArg nI (cntP_n0 (P := fun g => (st g).toInt = 1) (show ¬ (st q).toInt = 1 by omega))
                have e9_3 : nI (cntP (fun g => (st g).toInt = 2) (q + 1)) = (nI ((cntP (fun g => (st g).toInt = 2) q) + 0) : Int32) := by first | exact congrArg nI (cntP_y (P := fun g => (st g).toInt = 2) (show (st q).toInt = 2 by omega)) | exact congrArg nI (cntP_n0 (P := fun g => (st g).toInt = 2) (show ¬ (st q).toInt = 2 by omega))
                have e9_4 : nI (cntP (fun g => ¬ (tn g).toInt = 0) (q + 1)) = (nI ((cntP (fun g => ¬ (tn g).toInt = 0) q) + 1) : Int32) := by first | exact congrArg nI (cntP_y (P := fun g => ¬ (tn g).toInt = 0) (show ¬ (tn q).toInt = 0 by omega)) | exact congrArg nI (cntP_n0 (P := fun g => ¬ (tn g).toInt = 0) (show ¬ ¬ (tn q).toInt = 0 by omega))
                have e9_5 : nI (smP (lvF ft st tn) (fun g => nN (mn g)) (q + 1)) = (nI ((smP (lvF ft st tn) (fun g => nN (mn g)) q) + 0) : Int32) := by first | exact congrArg nI (smP_y (P := lvF ft st tn) (by first | with_reducible assumption | assumption)) | exact congrArg nI (smP_n (P := lvF ft st tn) (by first | with_reducible assumption | assumption))
                have hl9 : lv_has ls 7 [(6, .int (nI (q + 1))), (5, .int (nI (smP (lvF ft st tn) (fun g => nN (mn g)) (q + 1)))), (4, .int (nI (cntP (fun g => ¬ (tn g).toInt = 0) (q + 1)))), (3, .int (nI (cntP (fun g => (st g).toInt = 2) (q + 1)))), (2, .int (nI (cntP (fun g => (st g).toInt = 1) (q + 1)))), (0, .ref k0), (1, .int w)] := by rw [e9_2]; rw [e9_3]; rw [e9_4]; rw [e9_5]; exact hl9
                exact ih_13 (q + 1) H locs ls (by first | with_reducible assumption | omega) (by first | with_reducible assumption | omega) hP hD hS hl9
              · have c_16 : q < ft ∧ (st q).toInt = 1 ∧ (tn q).toInt = 0 := zp_1 c_16
                refine lv_aload_n hx hb dX11_count_91 rfl (lv_at hl 5 rfl) ?_
                refine va_get (D := (dC, dI)) (ci := 9) (v := .ref (a 11)) (C := RX11) (T := TX11) (N := 55) hx hb hts inX11 hown hK hP 0 rfl rfl 11 (Nat.le_of_ble_eq_true rfl) (hts _ mw_1170) (fun _ h9 => h9) rfl dX11_count_92 ?_
                refine lv_iload hx hb dX11_count_95 (lv_at hl 3 rfl) ?_
                refine z_iald hx hb hK hP 3 0 rfl rfl (e := q) rfl b9_4 (Nat.le_of_ble_eq_true rfl) dX11_count_97 ?_
                refine zz_i (v := nI (nN (mn q))) ((hmw q (by first | with_reducible assumption | assumption)).1) ?_
                refine lv_goto (tgt := 102) hx hb dX11_count_98 rfl ?_
                refine lv_iadd hx hb dX11_count_102 ?_
                refine zz_i (v := nI ((smP (lvF ft st tn) (fun g => nN (mn g)) q) + (nN (mn q)))) (nI_add (smP (lvF ft st tn) (fun g => nN (mn g)) q) (nN (mn q))) ?_
                refine lv_istore (lv' := [(5, .int (nI ((smP (lvF ft st tn) (fun g => nN (mn g)) q) + (nN (mn q))))), (4, .int (nI ((cntP (fun g => ¬ (tn g).toInt = 0) q) + 1))), (3, .int (nI ((cntP (fun g => (st g).toInt = 2) q) + 0))), (2, .int (nI ((cntP (fun g => (st g).toInt = 1) q) + 1))), (6, .int (nI q)), (0, .ref k0), (1, .int w)]) hx hb dX11_count_103 hl (Nat.le_of_ble_eq_true rfl) rfl (fun ls hl => ?_)
                refine lv_iinc (v := nI (q + 1)) (lv' := [(6, .int (nI (q + 1))), (5, .int (nI ((smP (lvF ft st tn) (fun g => nN (mn g)) q) + (nN (mn q))))), (4, .int (nI ((cntP (fun g => ¬ (tn g).toInt = 0) q) + 1))), (3, .int (nI ((cntP (fun g => (st g).toInt = 2) q) + 0))), (2, .int (nI ((cntP (fun g => (st g).toInt = 1) q) + 1))), (0, .ref k0), (1, .int w)]) hx hb dX11_count_105 hl (k := 4) rfl (nI_add q 1) (Nat.le_of_ble_eq_true rfl) rfl (fun ls hl => ?_)
                refine lv_goto (tgt := 13) hx hb dX11_count_108 rfl ?_
                have hl9 := lv_sub hl [0, 1, 2, 3, 4, 5, 6] rfl
                have e9_2 : nI (cntP (fun g => (st g).toInt = 1) (q + 1)) = (nI ((cntP (fun g => (st g).toInt = 1) q) + 1) : Int32) := by first | exact congrArg nI (cntP_y (P := fun g => (st g).toInt = 1) (show (st q).toInt = 1 by omega)) | exact congrArg nI (cntP_n0 (P := fun g => (st g).toInt = 1) (show ¬ (st q).toInt = 1 by omega))
                have e9_3 : nI (cntP (fun g => (st g).toInt = 2) (q + 1)) = (nI ((cntP (fun g => (st g).toInt = 2) q) + 0) : Int32) := by first | exact congrArg nI (cntP_y (P := fun g => (st g).toInt = 2) (show (st q).toInt = 2 by omega)) | exact congrArg nI (cntP_n0 (P := fun g => (st g).toInt = 2) (show ¬ (st q).toInt = 2 by omega))
                have e9_4 : nI (cntP (fun g => ¬ (tn g).toInt = 0) (q + 1)) = (nI ((cntP (fun g => ¬ (tn g).toInt = 0) q) + 1) : Int32) := by first | exact congrArg nI (cntP_y (P := fun g => ¬ (tn g).toInt = 0) (show ¬ (tn q).toInt = 0 by omega)) | exact congrArg nI (cntP_n0 (P := fun g => ¬ (tn g).toInt = 0) (show ¬ ¬ (tn q).toInt = 0 by omega))
                have e9_5 : nI (smP (lvF ft st tn) (fun g => nN (mn g)) (q + 1)) = (nI ((smP (lvF ft st tn) (fun g => nN (mn g)) q) + (nN (mn q))) : Int32) := by first | exact congrArg nI (smP_y (P := lvF ft st tn) (by first | with_reducible assumption | assumption)) | exact congrArg nI (smP_n (P := lvF ft st tn) (by first | with_reducible assumption | assumption))
                have hl9 : lv_has ls 7 [(6, .int (nI (q + 1))), (5, .int (nI (smP (lvF ft st tn) (fun g => nN (mn g)) (q + 1)))), (4, .int (nI (cntP (fun g => ¬ (tn g).toInt = 0) (q + 1)))), (3, .int (nI (cntP (fun g => (st g).toInt = 2) (q + 1)))), (2, .int (nI (cntP (fun g => (st g).toInt = 1) (q + 1)))), (0, .ref k0), (1, .int w)] := by rw [e9_2]; rw [e9_3]; rw [e9_4]; rw [e9_5]; exact hl9
                exact ih_13 (q + 1) H locs ls (by first | with_reducible assumption | omega) (by first | with_reducible assumption | omega) hP hD hS hl9
          · have c_13 : (st q).toInt = 2 := zc_eq rfl rfl c_13
            refine lv_iconst (v := 1) hx hb dX11_count_53 rfl ?_
            refine lv_goto (tgt := 58) hx hb dX11_count_54 rfl ?_
            refine lv_iadd hx hb dX11_count_58 ?_
            refine zz_i (v := nI ((cntP (fun g => (st g).toInt = 2) q) + 1)) (nI_add (cntP (fun g => (st g).toInt = 2) q) 1) ?_
            refine lv_istore_n (lv' := [(3, .int (nI ((cntP (fun g => (st g).toInt = 2) q) + 1))), (2, .int (nI ((cntP (fun g => (st g).toInt = 1) q) + 1))), (6, .int (nI q)), (5, .int (nI (smP (lvF ft st tn) (fun g => nN (mn g)) q))), (4, .int (nI (cntP (fun g => ¬ (tn g).toInt = 0) q))), (0, .ref k0), (1, .int w)]) hx hb dX11_count_59 rfl hl (Nat.le_of_ble_eq_true rfl) rfl (fun ls hl => ?_)
            refine lv_iload hx hb dX11_count_60 (lv_at hl 4 rfl) ?_
            refine lv_aload_n hx hb dX11_count_62 rfl (lv_at hl 5 rfl) ?_
            refine va_get (D := (dC, dI)) (ci := 9) (v := .ref (a 6)) (C := RX11) (T := TX11) (N := 55) hx hb hts inX11 hown hK hP 0 rfl rfl 6 (Nat.le_of_ble_eq_true rfl) (hts _ mw_1165) (fun _ h9 => h9) rfl dX11_count_63 ?_
            refine lv_iload hx hb dX11_count_66 (lv_at hl 2 rfl) ?_
            refine z_zald hx hb hK hP 2 1 rfl rfl (e := q) rfl b9_4 (Nat.le_of_ble_eq_true rfl) dX11_count_68 ?_
            refine lv_if_eq (tgt := 76) hx hb dX11_count_69 rfl (fun c_17 => ?_) (fun c_17 => ?_)
            · have c_17 : (tn q).toInt = 0 := zc_eq rfl rfl c_17
              refine lv_iconst (v := 0) hx hb dX11_count_76 rfl ?_
              refine lv_iadd hx hb dX11_count_77 ?_
              refine zz_i (v := nI ((cntP (fun g => ¬ (tn g).toInt = 0) q) + 0)) (nI_add (cntP (fun g => ¬ (tn g).toInt = 0) q) 0) ?_
              refine lv_istore (lv' := [(4, .int (nI ((cntP (fun g => ¬ (tn g).toInt = 0) q) + 0))), (3, .int (nI ((cntP (fun g => (st g).toInt = 2) q) + 1))), (2, .int (nI ((cntP (fun g => (st g).toInt = 1) q) + 1))), (6, .int (nI q)), (5, .int (nI (smP (lvF ft st tn) (fun g => nN (mn g)) q))), (0, .ref k0), (1, .int w)]) hx hb dX11_count_78 hl (Nat.le_of_ble_eq_true rfl) rfl (fun ls hl => ?_)
              refine lv_iload hx hb dX11_count_80 (lv_at hl 4 rfl) ?_
              refine lv_aload_n hx hb dX11_count_82 rfl (lv_at hl 5 rfl) ?_
              refine lv_iload hx hb dX11_count_83 (lv_at hl 3 rfl) ?_
              obtain ⟨hPc, hDc, hFc, hI1⟩ := zi_sub (wc := [_, _, _]) hP hD hS hA [0, 1, 2] rfl rfl
              refine zcall (st1 := [.int (pI (q < ft ∧ (st q).toInt = 1 ∧ (tn q).toInt = 0)), .int (nI (smP (lvF ft st tn) (fun g => nN (mn g)) q))]) (va_runV (As := [.int (nI q)]) (rest := [.int (nI (smP (lvF ft st tn) (fun g => nN (mn g)) q))]) ⟨hx, hb, hml, hown, hts⟩ (k_M_is_n l dC dI cI cZ cF H.size k0 a I0 J0 q ft st tn (by first | with_reducible assumption | assumption) (by first | with_reducible assumption | omega) (by first | with_reducible assumption | omega)) (csV_179 hts rfl rfl ⟨Nat.le_of_ble_eq_true rfl, Nat.le_of_ble_eq_true rfl⟩) (zPV2 (q0 := 0) (ci := 9) hPc hDc hK hXN rfl rfl) rfl rfl hl.1 rfl (lv_room (Nat.le_of_ble_eq_true rfl)) dX11_count_85 ⟨Nat.le_of_ble_eq_true rfl, Nat.le_of_ble_eq_true rfl⟩) hS hFc hFc rfl (fun t H locs ht hB hk1 hS => ?_)
              obtain ⟨hP1, hD1⟩ := hB
              rw [ht] at hP1
              replace hP := z0 hP hD hk1 hP1 hI1
              clear hk1 hPc hDc hFc hP1 hD1 ht hI1
              refine lv_if_eq (tgt := 101) hx hb dX11_count_88 rfl (fun c_18 => ?_) (fun c_18 => ?_)
              · have c_18 : ¬ (q < ft ∧ (st q).toInt = 1 ∧ (tn q).toInt = 0) := zp_0 c_18
                refine lv_iconst (v := 0) hx hb dX11_count_101 rfl ?_
                refine lv_iadd hx hb dX11_count_102 ?_
                refine zz_i (v := nI ((smP (lvF ft st tn) (fun g => nN (mn g)) q) + 0)) (nI_add (smP (lvF ft st tn) (fun g => nN (mn g)) q) 0) ?_
                refine lv_istore (lv' := [(5, .int (nI ((smP (lvF ft st tn) (fun g => nN (mn g)) q) + 0))), (4, .int (nI ((cntP (fun g => ¬ (tn g).toInt = 0) q) + 0))), (3, .int (nI ((cntP (fun g => (st g).toInt = 2) q) + 1))), (2, .int (nI ((cntP (fun g => (st g).toInt = 1) q) + 1))), (6, .int (nI q)), (0, .ref k0), (1, .int w)]) hx hb dX11_count_103 hl (Nat.le_of_ble_eq_true rfl) rfl (fun ls hl => ?_)
                refine lv_iinc (v := nI (q + 1)) (lv' := [(6, .int (nI (q + 1))), (5, .int (nI ((smP (lvF ft st tn) (fun g => nN (mn g)) q) + 0))), (4, .int (nI ((cntP (fun g => ¬ (tn g).toInt = 0) q) + 0))), (3, .int (nI ((cntP (fun g => (st g).toInt = 2) q) + 1))), (2, .int (nI ((cntP (fun g => (st g).toInt = 1) q) + 1))), (0, .ref k0), (1, .int w)]) hx hb dX11_count_105 hl (k := 4) rfl (nI_add q 1) (Nat.le_of_ble_eq_true rfl) rfl (fun ls hl => ?_)
                refine lv_goto (tgt := 13) hx hb dX11_count_108 rfl ?_
                have hl9 := lv_sub hl [0, 1, 2, 3, 4, 5, 6] rfl
                have e9_2 : nI (cntP (fun g => (st g).toInt = 1) (q + 1)) = (nI ((cntP (fun g => (st g).toInt = 1) q) + 1) : Int32) := by first | exact congrArg nI (cntP_y (P := fun g => (st g).toInt = 1) (show (st q).toInt = 1 by omega)) | exact congrArg nI (cntP_n0 (P := fun g => (st g).toInt = 1) (show ¬ (st q).toInt = 1 by omega))
                have e9_3 : nI (cntP (fun g => (st g).toInt = 2) (q + 1)) = (nI ((cntP (fun g => (st g).toInt = 2) q) + 1) : Int32) := by first | exact congrArg nI (cntP_y (P := fun g => (st g).toInt = 2) (show (st q).toInt = 2 by omega)) | exact congrArg nI (cntP_n0 (P := fun g => (st g).toInt = 2) (show ¬ (st q).toInt = 2 by omega))
                have e9_4 : nI (cntP (fun g => ¬ (tn g).toInt = 0) (q + 1)) = (nI ((cntP (fun g => ¬ (tn g).toInt = 0) q) + 0) : Int32) := by first | exact congrArg nI (cntP_y (P := fun g => ¬ (tn g).toInt = 0) (show ¬ (tn q).toInt = 0 by omega)) | exact congrArg nI (cntP_n0 (P := fun g => ¬ (tn g).toInt = 0) (show ¬ ¬ (tn q).toInt = 0 by omega))
                have e9_5 : nI (smP (lvF ft st tn) (fun g => nN (mn g)) (q + 1)) = (nI ((smP (lvF ft st tn) (fun g => nN (mn g)) q) + 0) : Int32) := by first | exact congrArg nI (smP_y (P := lvF ft st tn) (by first | with_reducible assumption | assumption)) | exact congrArg nI (smP_n (P := lvF ft st tn) (by first | with_reducible assumption | assumption))
                have hl9 : lv_has ls 7 [(6, .int (nI (q + 1))), (5, .int (nI (smP (lvF ft st tn) (fun g => nN (mn g)) (q + 1)))), (4, .int (nI (cntP (fun g => ¬ (tn g).toInt = 0) (q + 1)))), (3, .int (nI (cntP (fun g => (st g).toInt = 2) (q + 1)))), (2, .int (nI (cntP (fun g => (st g).toInt = 1) (q + 1)))), (0, .ref k0), (1, .int w)] := by rw [e9_2]; rw [e9_3]; rw [e9_4]; rw [e9_5]; exact hl9
                exact ih_13 (q + 1) H locs ls (by first | with_reducible assumption | omega) (by first | with_reducible assumption | omega) hP hD hS hl9
              · have c_18 : q < ft ∧ (st q).toInt = 1 ∧ (tn q).toInt = 0 := zp_1 c_18
                refine lv_aload_n hx hb dX11_count_91 rfl (lv_at hl 5 rfl) ?_
                refine va_get (D := (dC, dI)) (ci := 9) (v := .ref (a 11)) (C := RX11) (T := TX11) (N := 55) hx hb hts inX11 hown hK hP 0 rfl rfl 11 (Nat.le_of_ble_eq_true rfl) (hts _ mw_1170) (fun _ h9 => h9) rfl dX11_count_92 ?_
                refine lv_iload hx hb dX11_count_95 (lv_at hl 3 rfl) ?_
                refine z_iald hx hb hK hP 3 0 rfl rfl (e := q) rfl b9_4 (Nat.le_of_ble_eq_true rfl) dX11_count_97 ?_
                refine zz_i (v := nI (nN (mn q))) ((hmw q (by first | with_reducible assumption | assumption)).1) ?_
                refine lv_goto (tgt := 102) hx hb dX11_count_98 rfl ?_
                refine lv_iadd hx hb dX11_count_102 ?_
                refine zz_i (v := nI ((smP (lvF ft st tn) (fun g => nN (mn g)) q) + (nN (mn q)))) (nI_add (smP (lvF ft st tn) (fun g => nN (mn g)) q) (nN (mn q))) ?_
                refine lv_istore (lv' := [(5, .int (nI ((smP (lvF ft st tn) (fun g => nN (mn g)) q) + (nN (mn q))))), (4, .int (nI ((cntP (fun g => ¬ (tn g).toInt = 0) q) + 0))), (3, .int (nI ((cntP (fun g => (st g).toInt = 2) q) + 1))), (2, .int (nI ((cntP (fun g => (st g).toInt = 1) q) + 1))), (6, .int (nI q)), (0, .ref k0), (1, .int w)]) hx hb dX11_count_103 hl (Nat.le_of_ble_eq_true rfl) rfl (fun ls hl => ?_)
                refine lv_iinc (v := nI (q + 1)) (lv' := [(6, .int (nI (q + 1))), (5, .int (nI ((smP (lvF ft st tn) (fun g => nN (mn g)) q) + (nN (mn q))))), (4, .int (nI ((cntP (fun g => ¬ (tn g).toInt = 0) q) + 0))), (3, .int (nI ((cntP (fun g => (st g).toInt = 2) q) + 1))), (2, .int (nI ((cntP (fun g => (st g).toInt = 1) q) + 1))), (0, .ref k0), (1, .int w)]) hx hb dX11_count_105 hl (k := 4) rfl (nI_add q 1) (Nat.le_of_ble_eq_true rfl) rfl (fun ls hl => ?_)
                refine lv_goto (tgt := 13) hx hb dX11_count_108 rfl ?_
                have hl9 := lv_sub hl [0, 1, 2, 3, 4, 5, 6] rfl
                have e9_2 : nI (cntP (fun g => (st g).toInt = 1) (q + 1)) = (nI ((cntP (fun g => (st g).toInt = 1) q) + 1) : Int32) := by first | exact congrArg nI (cntP_y (P := fun g => (st g).toInt = 1) (show (st q).toInt = 1 by omega)) | exact congrArg nI (cntP_n0 (P := fun g => (st g).toInt = 1) (show ¬ (st q).toInt = 1 by omega))
                have e9_3 : nI (cntP (fun g => (st g).toInt = 2) (q + 1)) = (nI ((cntP (fun g => (st g).toInt = 2) q) + 1) : Int32) := by first | exact congrArg nI (cntP_y (P := fun g => (st g).toInt = 2) (show (st q).toInt = 2 by omega)) | exact congrArg nI (cntP_n0 (P := fun g => (st g).toInt = 2) (show ¬ (st q).toInt = 2 by omega))
                have e9_4 : nI (cntP (fun g => ¬ (tn g).toInt = 0) (q + 1)) = (nI ((cntP (fun g => ¬ (tn g).toInt = 0) q) + 0) : Int32) := by first | exact congrArg nI (cntP_y (P := fun g => ¬ (tn g).toInt = 0) (show ¬ (tn q).toInt = 0 by omega)) | exact congrArg nI (cntP_n0 (P := fun g => ¬ (tn g).toInt = 0) (show ¬ ¬ (tn q).toInt = 0 by omega))
                have e9_5 : nI (smP (lvF ft st tn) (fun g => nN (mn g)) (q + 1)) = (nI ((smP (lvF ft st tn) (fun g => nN (mn g)) q) + (nN (mn q))) : Int32) := by first | exact congrArg nI (smP_y (P := lvF ft st tn) (by first | with_reducible assumption | assumption)) | exact congrArg nI (smP_n (P := lvF ft st tn) (by first | with_reducible assumption | assumption))
                have hl9 : lv_has ls 7 [(6, .int (nI (q + 1))), (5, .int (nI (smP (lvF ft st tn) (fun g => nN (mn g)) (q + 1)))), (4, .int (nI (cntP (fun g => ¬ (tn g).toInt = 0) (q + 1)))), (3, .int (nI (cntP (fun g => (st g).toInt = 2) (q + 1)))), (2, .int (nI (cntP (fun g => (st g).toInt = 1) (q + 1)))), (0, .ref k0), (1, .int w)] := by rw [e9_2]; rw [e9_3]; rw [e9_4]; rw [e9_5]; exact hl9
                exact ih_13 (q + 1) H locs ls (by first | with_reducible assumption | omega) (by first | with_reducible assumption | omega) hP hD hS hl9
            · have c_17 : ¬ (tn q).toInt = 0 := zc_ne rfl rfl c_17
              refine lv_iconst (v := 1) hx hb dX11_count_72 rfl ?_
              refine lv_goto (tgt := 77) hx hb dX11_count_73 rfl ?_
              refine lv_iadd hx hb dX11_count_77 ?_
              refine zz_i (v := nI ((cntP (fun g => ¬ (tn g).toInt = 0) q) + 1)) (nI_add (cntP (fun g => ¬ (tn g).toInt = 0) q) 1) ?_
              refine lv_istore (lv' := [(4, .int (nI ((cntP (fun g => ¬ (tn g).toInt = 0) q) + 1))), (3, .int (nI ((cntP (fun g => (st g).toInt = 2) q) + 1))), (2, .int (nI ((cntP (fun g => (st g).toInt = 1) q) + 1))), (6, .int (nI q)), (5, .int (nI (smP (lvF ft st tn) (fun g => nN (mn g)) q))), (0, .ref k0), (1, .int w)]) hx hb dX11_count_78 hl (Nat.le_of_ble_eq_true rfl) rfl (fun ls hl => ?_)
              refine lv_iload hx hb dX11_count_80 (lv_at hl 4 rfl) ?_
              refine lv_aload_n hx hb dX11_count_82 rfl (lv_at hl 5 rfl) ?_
              refine lv_iload hx hb dX11_count_83 (lv_at hl 3 rfl) ?_
              obtain ⟨hPc, hDc, hFc, hI1⟩ := zi_sub (wc := [_, _, _]) hP hD hS hA [0, 1, 2] rfl rfl
              refine zcall (st1 := [.int (pI (q < ft ∧ (st q).toInt = 1 ∧ (tn q).toInt = 0)), .int (nI (smP (lvF ft st tn) (fun g => nN (mn g)) q))]) (va_runV (As := [.int (nI q)]) (rest := [.int (nI (smP (lvF ft st tn) (fun g => nN (mn g)) q))]) ⟨hx, hb, hml, hown, hts⟩ (k_M_is_n l dC dI cI cZ cF H.size k0 a I0 J0 q ft st tn (by first | with_reducible assumption | assumption) (by first | with_reducible assumption | omega) (by first | with_reducible assumption | omega)) (csV_179 hts rfl rfl ⟨Nat.le_of_ble_eq_true rfl, Nat.le_of_ble_eq_true rfl⟩) (zPV2 (q0 := 0) (ci := 9) hPc hDc hK hXN rfl rfl) rfl rfl hl.1 rfl (lv_room (Nat.le_of_ble_eq_true rfl)) dX11_count_85 ⟨Nat.le_of_ble_eq_true rfl, Nat.le_of_ble_eq_true rfl⟩) hS hFc hFc rfl (fun t H locs ht hB hk1 hS => ?_)
              obtain ⟨hP1, hD1⟩ := hB
              rw [ht] at hP1
              replace hP := z0 hP hD hk1 hP1 hI1
              clear hk1 hPc hDc hFc hP1 hD1 ht hI1
              refine lv_if_eq (tgt := 101) hx hb dX11_count_88 rfl (fun c_19 => ?_) (fun c_19 => ?_)
              · have c_19 : ¬ (q < ft ∧ (st q).toInt = 1 ∧ (tn q).toInt = 0) := zp_0 c_19
                refine lv_iconst (v := 0) hx hb dX11_count_101 rfl ?_
                refine lv_iadd hx hb dX11_count_102 ?_
                refine zz_i (v := nI ((smP (lvF ft st tn) (fun g => nN (mn g)) q) + 0)) (nI_add (smP (lvF ft st tn) (fun g => nN (mn g)) q) 0) ?_
                refine lv_istore (lv' := [(5, .int (nI ((smP (lvF ft st tn) (fun g => nN (mn g)) q) + 0))), (4, .int (nI ((cntP (fun g => ¬ (tn g).toInt = 0) q) + 1))), (3, .int (nI ((cntP (fun g => (st g).toInt = 2) q) + 1))), (2, .int (nI ((cntP (fun g => (st g).toInt = 1) q) + 1))), (6, .int (nI q)), (0, .ref k0), (1, .int w)]) hx hb dX11_count_103 hl (Nat.le_of_ble_eq_true rfl) rfl (fun ls hl => ?_)
                refine lv_iinc (v := nI (q + 1)) (lv' := [(6, .int (nI (q + 1))), (5, .int (nI ((smP (lvF ft st tn) (fun g => nN (mn g)) q) + 0))), (4, .int (nI ((cntP (fun g => ¬ (tn g).toInt = 0) q) + 1))), (3, .int (nI ((cntP (fun g => (st g).toInt = 2) q) + 1))), (2, .int (nI ((cntP (fun g => (st g).toInt = 1) q) + 1))), (0, .ref k0), (1, .int w)]) hx hb dX11_count_105 hl (k := 4) rfl (nI_add q 1) (Nat.le_of_ble_eq_true rfl) rfl (fun ls hl => ?_)
                refine lv_goto (tgt := 13) hx hb dX11_count_108 rfl ?_
                have hl9 := lv_sub hl [0, 1, 2, 3, 4, 5, 6] rfl
                have e9_2 : nI (cntP (fun g => (st g).toInt = 1) (q + 1)) = (nI ((cntP (fun g => (st g).toInt = 1) q) + 1) : Int32) := by first | exact congrArg nI (cntP_y (P := fun g => (st g).toInt = 1) (show (st q).toInt = 1 by omega)) | exact congrArg nI (cntP_n0 (P := fun g => (st g).toInt = 1) (show ¬ (st q).toInt = 1 by omega))
                have e9_3 : nI (cntP (fun g => (st g).toInt = 2) (q + 1)) = (nI ((cntP (fun g => (st g).toInt = 2) q) + 1) : Int32) := by first | exact congrArg nI (cntP_y (P := fun g => (st g).toInt = 2) (show (st q).toInt = 2 by omega)) | exact congrArg nI (cntP_n0 (P := fun g => (st g).toInt = 2) (show ¬ (st q).toInt = 2 by omega))
                have e9_4 : nI (cntP (fun g => ¬ (tn g).toInt = 0) (q + 1)) = (nI ((cntP (fun g => ¬ (tn g).toInt = 0) q) + 1) : Int32) := by first | exact congrArg nI (cntP_y (P := fun g => ¬ (tn g).toInt = 0) (show ¬ (tn q).toInt = 0 by omega)) | exact congrArg nI (cntP_n0 (P := fun g => ¬ (tn g).toInt = 0) (show ¬ ¬ (tn q).toInt = 0 by omega))
                have e9_5 : nI (smP (lvF ft st tn) (fun g => nN (mn g)) (q + 1)) = (nI ((smP (lvF ft st tn) (fun g => nN (mn g)) q) + 0) : Int32) := by first | exact congrArg nI (smP_y (P := lvF ft st tn) (by first | with_reducible assumption | assumption)) | exact congrArg nI (smP_n (P := lvF ft st tn) (by first | with_reducible assumption | assumption))
                have hl9 : lv_has ls 7 [(6, .int (nI (q + 1))), (5, .int (nI (smP (lvF ft st tn) (fun g => nN (mn g)) (q + 1)))), (4, .int (nI (cntP (fun g => ¬ (tn g).toInt = 0) (q + 1)))), (3, .int (nI (cntP (fun g => (st g).toInt = 2) (q + 1)))), (2, .int (nI (cntP (fun g => (st g).toInt = 1) (q + 1)))), (0, .ref k0), (1, .int w)] := by rw [e9_2]; rw [e9_3]; rw [e9_4]; rw [e9_5]; exact hl9
                exact ih_13 (q + 1) H locs ls (by first | with_reducible assumption | omega) (by first | with_reducible assumption | omega) hP hD hS hl9
              · have c_19 : q < ft ∧ (st q).toInt = 1 ∧ (tn q).toInt = 0 := zp_1 c_19
                refine lv_aload_n hx hb dX11_count_91 rfl (lv_at hl 5 rfl) ?_
                refine va_get (D := (dC, dI)) (ci := 9) (v := .ref (a 11)) (C := RX11) (T := TX11) (N := 55) hx hb hts inX11 hown hK hP 0 rfl rfl 11 (Nat.le_of_ble_eq_true rfl) (hts _ mw_1170) (fun _ h9 => h9) rfl dX11_count_92 ?_
                refine lv_iload hx hb dX11_count_95 (lv_at hl 3 rfl) ?_
                refine z_iald hx hb hK hP 3 0 rfl rfl (e := q) rfl b9_4 (Nat.le_of_ble_eq_true rfl) dX11_count_97 ?_
                refine zz_i (v := nI (nN (mn q))) ((hmw q (by first | with_reducible assumption | assumption)).1) ?_
                refine lv_goto (tgt := 102) hx hb dX11_count_98 rfl ?_
                refine lv_iadd hx hb dX11_count_102 ?_
                refine zz_i (v := nI ((smP (lvF ft st tn) (fun g => nN (mn g)) q) + (nN (mn q)))) (nI_add (smP (lvF ft st tn) (fun g => nN (mn g)) q) (nN (mn q))) ?_
                refine lv_istore (lv' := [(5, .int (nI ((smP (lvF ft st tn) (fun g => nN (mn g)) q) + (nN (mn q))))), (4, .int (nI ((cntP (fun g => ¬ (tn g).toInt = 0) q) + 1))), (3, .int (nI ((cntP (fun g => (st g).toInt = 2) q) + 1))), (2, .int (nI ((cntP (fun g => (st g).toInt = 1) q) + 1))), (6, .int (nI q)), (0, .ref k0), (1, .int w)]) hx hb dX11_count_103 hl (Nat.le_of_ble_eq_true rfl) rfl (fun ls hl => ?_)
                refine lv_iinc (v := nI (q + 1)) (lv' := [(6, .int (nI (q + 1))), (5, .int (nI ((smP (lvF ft st tn) (fun g => nN (mn g)) q) + (nN (mn q))))), (4, .int (nI ((cntP (fun g => ¬ (tn g).toInt = 0) q) + 1))), (3, .int (nI ((cntP (fun g => (st g).toInt = 2) q) + 1))), (2, .int (nI ((cntP (fun g => (st g).toInt = 1) q) + 1))), (0, .ref k0), (1, .int w)]) hx hb dX11_count_105 hl (k := 4) rfl (nI_add q 1) (Nat.le_of_ble_eq_true rfl) rfl (fun ls hl => ?_)
                refine lv_goto (tgt := 13) hx hb dX11_count_108 rfl ?_
                have hl9 := lv_sub hl [0, 1, 2, 3, 4, 5, 6] rfl
                have e9_2 : nI (cntP (fun g => (st g).toInt = 1) (q + 1)) = (nI ((cntP (fun g => (st g).toInt = 1) q) + 1) : Int32) := by first | exact congrArg nI (cntP_y (P := fun g => (st g).toInt = 1) (show (st q).toInt = 1 by omega)) | exact congrArg nI (cntP_n0 (P := fun g => (st g).toInt = 1) (show ¬ (st q).toInt = 1 by omega))
                have e9_3 : nI (cntP (fun g => (st g).toInt = 2) (q + 1)) = (nI ((cntP (fun g => (st g).toInt = 2) q) + 1) : Int32) := by first | exact congrArg nI (cntP_y (P := fun g => (st g).toInt = 2) (show (st q).toInt = 2 by omega)) | exact congrArg nI (cntP_n0 (P := fun g => (st g).toInt = 2) (show ¬ (st q).toInt = 2 by omega))
                have e9_4 : nI (cntP (fun g => ¬ (tn g).toInt = 0) (q + 1)) = (nI ((cntP (fun g => ¬ (tn g).toInt = 0) q) + 1) : Int32) := by first | exact congrArg nI (cntP_y (P := fun g => ¬ (tn g).toInt = 0) (show ¬ (tn q).toInt = 0 by omega)) | exact congrArg nI (cntP_n0 (P := fun g => ¬ (tn g).toInt = 0) (show ¬ ¬ (tn q).toInt = 0 by omega))
                have e9_5 : nI (smP (lvF ft st tn) (fun g => nN (mn g)) (q + 1)) = (nI ((smP (lvF ft st tn) (fun g => nN (mn g)) q) + (nN (mn q))) : Int32) := by first | exact congrArg nI (smP_y (P := lvF ft st tn) (by first | with_reducible assumption | assumption)) | exact congrArg nI (smP_n (P := lvF ft st tn) (by first | with_reducible assumption | assumption))
                have hl9 : lv_has ls 7 [(6, .int (nI (q + 1))), (5, .int (nI (smP (lvF ft st tn) (fun g => nN (mn g)) (q + 1)))), (4, .int (nI (cntP (fun g => ¬ (tn g).toInt = 0) (q + 1)))), (3, .int (nI (cntP (fun g => (st g).toInt = 2) (q + 1)))), (2, .int (nI (cntP (fun g => (st g).toInt = 1) (q + 1)))), (0, .ref k0), (1, .int w)] := by rw [e9_2]; rw [e9_3]; rw [e9_4]; rw [e9_5]; exact hl9
                exact ih_13 (q + 1) H locs ls (by first | with_reducible assumption | omega) (by first | with_reducible assumption | omega) hP hD hS hl9
  have e9_2 : nI (cntP (fun g => (st g).toInt = 1) 0) = (0 : Int32) := by rfl
  have e9_3 : nI (cntP (fun g => (st g).toInt = 2) 0) = (0 : Int32) := by rfl
  have e9_4 : nI (cntP (fun g => ¬ (tn g).toInt = 0) 0) = (0 : Int32) := by rfl
  have e9_5 : nI (smP (lvF ft st tn) (fun g => nN (mn g)) 0) = (0 : Int32) := by rfl
  have hl9 : lv_has ls 7 [(6, .int (nI 0)), (5, .int (nI (smP (lvF ft st tn) (fun g => nN (mn g)) 0))), (4, .int (nI (cntP (fun g => ¬ (tn g).toInt = 0) 0))), (3, .int (nI (cntP (fun g => (st g).toInt = 2) 0))), (2, .int (nI (cntP (fun g => (st g).toInt = 1) 0))), (0, .ref k0), (1, .int w)] := by rw [e9_2]; rw [e9_3]; rw [e9_4]; rw [e9_5]; exact lv_sub hl [0, 1, 2, 3, 4, 5, 6] rfl
  exact hl_13 _ 0 s.heap [] ls (Nat.lt_succ_self _) (by first | with_reducible assumption | omega) hP hD hS hl9
end
