section
set_option maxHeartbeats 4000000 in
set_option maxRecDepth 100000 in
theorem k_M_plainer_r (l : Launch) (dC : Nat → ClassId) (dI : Nat → Nat → Nat) (cI cZ cF : ClassId) (sz : Nat) (k0 : Nat) (a : Nat → Nat) (I0 : Nat → Int32) (J0 : Nat → Int64) (f : Nat) (ft : Nat) (lim : Int32) (st : Nat → Int32) (tn : Nat → Int32) (kd : Nat → Int32) (hft : I0 0 = nI ft) (h200 : ft ≤ 200) (hf_t : f < ft) (hbad : ¬ ((st f).toInt = 1 ∧ (¬ (kd f).toInt = 0 ∧ ¬ (kd f).toInt = 6) ∧ 0 ≤ lim.toInt ∧ (tn f).toInt = 0)) : zM l yX11_plainer cX11_plainer 4 (some .int) ({ frames := 2, cells := 0, slots := 0, locals := 42 } : Room) [.ref k0, .int (nI f), .int lim] (dC, dI) (zTy cI cZ cF) [(om k0 a I0 J0), (oa (a 5) cI 201 st), (oa (a 6) cZ 201 tn), (oa (a 1) cI 201 kd)] sz (some (.int (-1))) (fun A t => ∃ (z9 : Int32), zPD (dC, dI) classes A [(om k0 a (upd (upd I0 14 z9) 15 (I0 15)) J0), (oa (a 5) cI 201 st), (oa (a 6) cZ 201 tn), (oa (a 1) cI 201 kd)] t.heap) 0 0 := by
  refine zIn (own := "ScaleShopModel") (loc := [(0, .ref k0), (1, .int (nI f)), (2, .int lim)]) rfl rfl rfl rfl (fun p e s m below meth c hx hb hr hts hown hlocks hml hnm9 A hA hS hP hD hK hXN Q9 hQ9 ls hl => ?_)
  refine lv_aload_n hx hb dX11_plainer_0 rfl (lv_at hl 0 rfl) ?_
  refine lv_iload_n hx hb dX11_plainer_1 rfl (lv_at hl 1 rfl) ?_
  obtain ⟨hPc, hDc, hFc, hI1⟩ := zi_sub (wc := [_, _]) hP hD hS hA [0, 1] rfl rfl
  refine zcall (st1 := [.int (wrN (st f))]) (va_runV (As := [.int (nI f)]) (rest := []) ⟨hx, hb, hml, hown, hts⟩ (k_M_wrong l dC dI cI cZ cF s.heap.size k0 a I0 J0 f ft st (by first | with_reducible assumption | assumption) (by first | with_reducible assumption | omega) (by first | with_reducible assumption | omega)) (csV_209 hts rfl rfl ⟨Nat.le_of_ble_eq_true rfl, Nat.le_of_ble_eq_true rfl⟩) (zPV2 (q0 := 0) (ci := 9) hPc hDc hK hXN rfl rfl) rfl rfl hl.1 rfl (lv_room (Nat.le_of_ble_eq_true rfl)) dX11_plainer_2 ⟨Nat.le_of_ble_eq_true rfl, Nat.le_of_ble_eq_true rfl⟩) hS hFc hFc rfl (fun t H locs ht hB hk1 hS => ?_)
  obtain ⟨hP1, hD1⟩ := hB
  rw [ht] at hP1
  replace hP := z0 hP hD hk1 hP1 hI1
  clear hk1 hPc hDc hFc hP1 hD1 ht hI1
  refine zz_i2 (wrN_s (st f)) (fun hs9 => ?_) (fun hs9 => ?_)
  · skip
    refine lv_istore_n (lv' := [(3, .int 0), (0, .ref k0), (1, .int (nI f)), (2, .int lim)]) hx hb dX11_plainer_5 rfl hl (Nat.le_of_ble_eq_true rfl) rfl (fun ls hl => ?_)
    refine lv_iload_n hx hb dX11_plainer_6 rfl (lv_at hl 0 rfl) ?_
    refine lv_if_le (tgt := 14) hx hb dX11_plainer_7 rfl (fun c_1 => ?_) (fun c_1 => ?_)
    · refine lv_aload_n hx hb dX11_plainer_14 rfl (lv_at hl 1 rfl) ?_
      refine lv_iload_n hx hb dX11_plainer_15 rfl (lv_at hl 2 rfl) ?_
      obtain ⟨hPc, hDc, hFc, hI1⟩ := zi_sub (wc := [_, _]) hP hD hS hA [0, 3] rfl rfl
      refine zcall (st1 := [.int (pI (¬ (kd f).toInt = 0 ∧ ¬ (kd f).toInt = 6))]) (va_runV (As := [.int (nI f)]) (rest := []) ⟨hx, hb, hml, hown, hts⟩ (k_M_isPlainable l dC dI cI cZ cF H.size k0 a I0 J0 f kd (by first | with_reducible assumption | omega)) (csV_210 hts rfl rfl ⟨Nat.le_of_ble_eq_true rfl, Nat.le_of_ble_eq_true rfl⟩) (zPV2 (q0 := 0) (ci := 9) hPc hDc hK hXN rfl rfl) rfl rfl hl.1 rfl (lv_room (Nat.le_of_ble_eq_true rfl)) dX11_plainer_16 ⟨Nat.le_of_ble_eq_true rfl, Nat.le_of_ble_eq_true rfl⟩) hS hFc hFc rfl (fun t H locs ht hB hk1 hS => ?_)
      obtain ⟨hP1, hD1⟩ := hB
      rw [ht] at hP1
      replace hP := z0 hP hD hk1 hP1 hI1
      clear hk1 hPc hDc hFc hP1 hD1 ht hI1
      refine lv_if_ne (tgt := 26) hx hb dX11_plainer_19 rfl (fun c_2 => ?_) (fun c_2 => ?_)
      · have c_2 : ¬ (kd f).toInt = 0 ∧ ¬ (kd f).toInt = 6 := zp_1 c_2
        refine lv_iload_n hx hb dX11_plainer_26 rfl (lv_at hl 3 rfl) ?_
        refine lv_if_ge (tgt := 34) hx hb dX11_plainer_27 rfl (fun c_3 => ?_) (fun c_3 => ?_)
        · have c_3 : 0 ≤ lim.toInt := zc_le rfl rfl c_3
          refine lv_aload_n hx hb dX11_plainer_34 rfl (lv_at hl 1 rfl) ?_
          refine va_get (D := (dC, dI)) (ci := 9) (v := .ref (a 6)) (C := RX11) (T := TX11) (N := 55) hx hb hts inX11 hown hK hP 0 rfl rfl 6 (Nat.le_of_ble_eq_true rfl) (hts _ mw_1165) (fun _ h9 => h9) rfl dX11_plainer_35 ?_
          refine lv_iload_n hx hb dX11_plainer_38 rfl (lv_at hl 2 rfl) ?_
          have b9_4 : f < 201 := by omega
          refine z_zald hx hb hK hP 2 1 rfl rfl (e := f) rfl b9_4 (Nat.le_of_ble_eq_true rfl) dX11_plainer_39 ?_
          refine lv_if_eq (tgt := 47) hx hb dX11_plainer_40 rfl (fun c_5 => ?_) (fun c_5 => ?_)
          · have c_5 : (tn f).toInt = 0 := zc_eq rfl rfl c_5
            refine lv_iconst (v := 0) hx hb dX11_plainer_47 rfl ?_
            refine lv_istore_n (lv' := [(3, .int 0), (0, .ref k0), (1, .int (nI f)), (2, .int lim)]) hx hb dX11_plainer_48 rfl hl (Nat.le_of_ble_eq_true rfl) rfl (fun ls hl => ?_)
            refine lv_iload_n hx hb dX11_plainer_49 rfl (lv_at hl 0 rfl) ?_
            refine lv_if_le (tgt := 59) hx hb dX11_plainer_50 rfl (fun c_6 => ?_) (fun c_6 => ?_)
            · exfalso; omega
            · exact absurd (by decide) c_6
          · have c_5 : ¬ (tn f).toInt = 0 := zc_ne rfl rfl c_5
            refine lv_iconst (v := 5) hx hb dX11_plainer_43 rfl ?_
            refine lv_goto (tgt := 48) hx hb dX11_plainer_44 rfl ?_
            refine lv_istore_n (lv' := [(3, .int 5), (0, .ref k0), (1, .int (nI f)), (2, .int lim)]) hx hb dX11_plainer_48 rfl hl (Nat.le_of_ble_eq_true rfl) rfl (fun ls hl => ?_)
            refine lv_iload_n hx hb dX11_plainer_49 rfl (lv_at hl 0 rfl) ?_
            refine lv_if_le (tgt := 59) hx hb dX11_plainer_50 rfl (fun c_7 => ?_) (fun c_7 => ?_)
            · exact absurd c_7 (by decide)
            · refine lv_aload_n hx hb dX11_plainer_53 rfl (lv_at hl 1 rfl) ?_
              refine lv_iload_n hx hb dX11_plainer_54 rfl (lv_at hl 0 rfl) ?_
              obtain ⟨hPc, hDc, hFc⟩ := zo_sub (wc := [_]) hP hD hS hA [0] rfl rfl
              refine zcall (st1 := [.int (-1)]) (va_runV (As := [.int 5]) (rest := []) ⟨hx, hb, hml, hown, hts⟩ (k_M_refuse l dC dI cI cZ cF H.size k0 a I0 J0 5 (by decide)) (csV_185 hts rfl rfl ⟨Nat.le_of_ble_eq_true rfl, Nat.le_of_ble_eq_true rfl⟩) (zPV2 (q0 := 0) (ci := 9) hPc hDc hK hXN rfl rfl) rfl rfl hl.1 rfl (lv_room (Nat.le_of_ble_eq_true rfl)) dX11_plainer_55 ⟨Nat.le_of_ble_eq_true rfl, Nat.le_of_ble_eq_true rfl⟩) hS hFc hFc rfl (fun t H locs ht hB hk1 hS => ?_)
              obtain ⟨hP1, hD1⟩ := hB
              rw [ht] at hP1
              obtain ⟨hP, hD⟩ := zn (W2 := [(om k0 a (upd (upd I0 14 5) 15 (I0 15)) J0), _, _, _]) hP hD hk1 hFc hP1 hD1 [0] [false, true, true, true] [false, true, true, true] [0] (by decide +kernel) rfl rfl rfl rfl rfl
              clear hk1 hPc hDc hFc hP1 hD1 ht
              obtain ⟨hP9, hD9⟩ := zu_sub (wc := [_, _, _, _]) hP hD [true, true, true, true] rfl rfl
              rw [hQ9]
              exact W.iret (v := (-1)) hx hb hr (fun t ht hW => ⟨⟨rfl, 5, by rw [ht]; exact hP9, hD9⟩, hS.F ht⟩) hS.2.2 dX11_plainer_58
        · have c_3 : lim.toInt < 0 := zc_nle rfl rfl c_3
          refine lv_iconst (v := 4) hx hb dX11_plainer_30 rfl ?_
          refine lv_goto (tgt := 48) hx hb dX11_plainer_31 rfl ?_
          refine lv_istore_n (lv' := [(3, .int 4), (0, .ref k0), (1, .int (nI f)), (2, .int lim)]) hx hb dX11_plainer_48 rfl hl (Nat.le_of_ble_eq_true rfl) rfl (fun ls hl => ?_)
          refine lv_iload_n hx hb dX11_plainer_49 rfl (lv_at hl 0 rfl) ?_
          refine lv_if_le (tgt := 59) hx hb dX11_plainer_50 rfl (fun c_8 => ?_) (fun c_8 => ?_)
          · exact absurd c_8 (by decide)
          · refine lv_aload_n hx hb dX11_plainer_53 rfl (lv_at hl 1 rfl) ?_
            refine lv_iload_n hx hb dX11_plainer_54 rfl (lv_at hl 0 rfl) ?_
            obtain ⟨hPc, hDc, hFc⟩ := zo_sub (wc := [_]) hP hD hS hA [0] rfl rfl
            refine zcall (st1 := [.int (-1)]) (va_runV (As := [.int 4]) (rest := []) ⟨hx, hb, hml, hown, hts⟩ (k_M_refuse l dC dI cI cZ cF H.size k0 a I0 J0 4 (by decide)) (csV_185 hts rfl rfl ⟨Nat.le_of_ble_eq_true rfl, Nat.le_of_ble_eq_true rfl⟩) (zPV2 (q0 := 0) (ci := 9) hPc hDc hK hXN rfl rfl) rfl rfl hl.1 rfl (lv_room (Nat.le_of_ble_eq_true rfl)) dX11_plainer_55 ⟨Nat.le_of_ble_eq_true rfl, Nat.le_of_ble_eq_true rfl⟩) hS hFc hFc rfl (fun t H locs ht hB hk1 hS => ?_)
            obtain ⟨hP1, hD1⟩ := hB
            rw [ht] at hP1
            obtain ⟨hP, hD⟩ := zn (W2 := [(om k0 a (upd (upd I0 14 4) 15 (I0 15)) J0), _, _, _]) hP hD hk1 hFc hP1 hD1 [0] [false, true, true, true] [false, true, true, true] [0] (by decide +kernel) rfl rfl rfl rfl rfl
            clear hk1 hPc hDc hFc hP1 hD1 ht
            obtain ⟨hP9, hD9⟩ := zu_sub (wc := [_, _, _, _]) hP hD [true, true, true, true] rfl rfl
            rw [hQ9]
            exact W.iret (v := (-1)) hx hb hr (fun t ht hW => ⟨⟨rfl, 4, by rw [ht]; exact hP9, hD9⟩, hS.F ht⟩) hS.2.2 dX11_plainer_58
      · have c_2 : ¬ (¬ (kd f).toInt = 0 ∧ ¬ (kd f).toInt = 6) := zp_0 c_2
        refine lv_iconst (v := 3) hx hb dX11_plainer_22 rfl ?_
        refine lv_goto (tgt := 48) hx hb dX11_plainer_23 rfl ?_
        refine lv_istore_n (lv' := [(3, .int 3), (0, .ref k0), (1, .int (nI f)), (2, .int lim)]) hx hb dX11_plainer_48 rfl hl (Nat.le_of_ble_eq_true rfl) rfl (fun ls hl => ?_)
        refine lv_iload_n hx hb dX11_plainer_49 rfl (lv_at hl 0 rfl) ?_
        refine lv_if_le (tgt := 59) hx hb dX11_plainer_50 rfl (fun c_9 => ?_) (fun c_9 => ?_)
        · exact absurd c_9 (by decide)
        · refine lv_aload_n hx hb dX11_plainer_53 rfl (lv_at hl 1 rfl) ?_
          refine lv_iload_n hx hb dX11_plainer_54 rfl (lv_at hl 0 rfl) ?_
          obtain ⟨hPc, hDc, hFc⟩ := zo_sub (wc := [_]) hP hD hS hA [0] rfl rfl
          refine zcall (st1 := [.int (-1)]) (va_runV (As := [.int 3]) (rest := []) ⟨hx, hb, hml, hown, hts⟩ (k_M_refuse l dC dI cI cZ cF H.size k0 a I0 J0 3 (by decide)) (csV_185 hts rfl rfl ⟨Nat.le_of_ble_eq_true rfl, Nat.le_of_ble_eq_true rfl⟩) (zPV2 (q0 := 0) (ci := 9) hPc hDc hK hXN rfl rfl) rfl rfl hl.1 rfl (lv_room (Nat.le_of_ble_eq_true rfl)) dX11_plainer_55 ⟨Nat.le_of_ble_eq_true rfl, Nat.le_of_ble_eq_true rfl⟩) hS hFc hFc rfl (fun t H locs ht hB hk1 hS => ?_)
          obtain ⟨hP1, hD1⟩ := hB
          rw [ht] at hP1
          obtain ⟨hP, hD⟩ := zn (W2 := [(om k0 a (upd (upd I0 14 3) 15 (I0 15)) J0), _, _, _]) hP hD hk1 hFc hP1 hD1 [0] [false, true, true, true] [false, true, true, true] [0] (by decide +kernel) rfl rfl rfl rfl rfl
          clear hk1 hPc hDc hFc hP1 hD1 ht
          obtain ⟨hP9, hD9⟩ := zu_sub (wc := [_, _, _, _]) hP hD [true, true, true, true] rfl rfl
          rw [hQ9]
          exact W.iret (v := (-1)) hx hb hr (fun t ht hW => ⟨⟨rfl, 3, by rw [ht]; exact hP9, hD9⟩, hS.F ht⟩) hS.2.2 dX11_plainer_58
    · exact absurd (by decide) c_1
  · skip
    refine lv_istore_n (lv' := [(3, .int 2), (0, .ref k0), (1, .int (nI f)), (2, .int lim)]) hx hb dX11_plainer_5 rfl hl (Nat.le_of_ble_eq_true rfl) rfl (fun ls hl => ?_)
    refine lv_iload_n hx hb dX11_plainer_6 rfl (lv_at hl 0 rfl) ?_
    refine lv_if_le (tgt := 14) hx hb dX11_plainer_7 rfl (fun c_10 => ?_) (fun c_10 => ?_)
    · exact absurd c_10 (by decide)
    · refine lv_iload_n hx hb dX11_plainer_10 rfl (lv_at hl 0 rfl) ?_
      refine lv_goto (tgt := 48) hx hb dX11_plainer_11 rfl ?_
      refine lv_istore_n (lv' := [(3, .int 2), (0, .ref k0), (1, .int (nI f)), (2, .int lim)]) hx hb dX11_plainer_48 rfl hl (Nat.le_of_ble_eq_true rfl) rfl (fun ls hl => ?_)
      refine lv_iload_n hx hb dX11_plainer_49 rfl (lv_at hl 0 rfl) ?_
      refine lv_if_le (tgt := 59) hx hb dX11_plainer_50 rfl (fun c_11 => ?_) (fun c_11 => ?_)
      · exact absurd c_11 (by decide)
      · refine lv_aload_n hx hb dX11_plainer_53 rfl (lv_at hl 1 rfl) ?_
        refine lv_iload_n hx hb dX11_plainer_54 rfl (lv_at hl 0 rfl) ?_
        obtain ⟨hPc, hDc, hFc⟩ := zo_sub (wc := [_]) hP hD hS hA [0] rfl rfl
        refine zcall (st1 := [.int (-1)]) (va_runV (As := [.int 2]) (rest := []) ⟨hx, hb, hml, hown, hts⟩ (k_M_refuse l dC dI cI cZ cF H.size k0 a I0 J0 2 (by decide)) (csV_185 hts rfl rfl ⟨Nat.le_of_ble_eq_true rfl, Nat.le_of_ble_eq_true rfl⟩) (zPV2 (q0 := 0) (ci := 9) hPc hDc hK hXN rfl rfl) rfl rfl hl.1 rfl (lv_room (Nat.le_of_ble_eq_true rfl)) dX11_plainer_55 ⟨Nat.le_of_ble_eq_true rfl, Nat.le_of_ble_eq_true rfl⟩) hS hFc hFc rfl (fun t H locs ht hB hk1 hS => ?_)
        obtain ⟨hP1, hD1⟩ := hB
        rw [ht] at hP1
        obtain ⟨hP, hD⟩ := zn (W2 := [(om k0 a (upd (upd I0 14 2) 15 (I0 15)) J0), _, _, _]) hP hD hk1 hFc hP1 hD1 [0] [false, true, true, true] [false, true, true, true] [0] (by decide +kernel) rfl rfl rfl rfl rfl
        clear hk1 hPc hDc hFc hP1 hD1 ht
        obtain ⟨hP9, hD9⟩ := zu_sub (wc := [_, _, _, _]) hP hD [true, true, true, true] rfl rfl
        rw [hQ9]
        exact W.iret (v := (-1)) hx hb hr (fun t ht hW => ⟨⟨rfl, 2, by rw [ht]; exact hP9, hD9⟩, hS.F ht⟩) hS.2.2 dX11_plainer_58
set_option maxHeartbeats 4000000 in
set_option maxRecDepth 100000 in
theorem k_M_smooth_r (l : Launch) (dC : Nat → ClassId) (dI : Nat → Nat → Nat) (cI cZ cF : ClassId) (sz : Nat) (k0 : Nat) (a : Nat → Nat) (I0 : Nat → Int32) (J0 : Nat → Int64) (f : Nat) (ft : Nat) (st : Nat → Int32) (tn : Nat → Int32) (kd : Nat → Int32) (hft : I0 0 = nI ft) (h200 : ft ≤ 200) (hf_t : f < ft) (hbad : ¬ ((st f).toInt = 1 ∧ (¬ (kd f).toInt = 0 ∧ ¬ (kd f).toInt = 6) ∧ (tn f).toInt = 0)) : zM l yX11_smooth cX11_smooth 6 (some .boolean) ({ frames := 2, cells := 0, slots := 0, locals := 42 } : Room) [.ref k0, .int (nI f)] (dC, dI) (zTy cI cZ cF) [(om k0 a I0 J0), (oa (a 5) cI 201 st), (oa (a 6) cZ 201 tn), (oa (a 1) cI 201 kd)] sz (some (.int 0)) (fun A t => ∃ (z9 : Int32), zPD (dC, dI) classes A [(om k0 a (upd (upd I0 14 z9) 15 (I0 15)) J0), (oa (a 5) cI 201 st), (oa (a 6) cZ 201 tn), (oa (a 1) cI 201 kd)] t.heap) 0 0 := by
  refine zIn (own := "ScaleShopModel") (loc := [(0, .ref k0), (1, .int (nI f))]) rfl rfl rfl rfl (fun p e s m below meth c hx hb hr hts hown hlocks hml hnm9 A hA hS hP hD hK hXN Q9 hQ9 ls hl => ?_)
  refine lv_aload_n hx hb dX11_smooth_0 rfl (lv_at hl 0 rfl) ?_
  refine lv_iload_n hx hb dX11_smooth_1 rfl (lv_at hl 1 rfl) ?_
  obtain ⟨hPc, hDc, hFc, hI1⟩ := zi_sub (wc := [_, _]) hP hD hS hA [0, 1] rfl rfl
  refine zcall (st1 := [.int (wrN (st f))]) (va_runV (As := [.int (nI f)]) (rest := []) ⟨hx, hb, hml, hown, hts⟩ (k_M_wrong l dC dI cI cZ cF s.heap.size k0 a I0 J0 f ft st (by first | with_reducible assumption | assumption) (by first | with_reducible assumption | omega) (by first | with_reducible assumption | omega)) (csV_209 hts rfl rfl ⟨Nat.le_of_ble_eq_true rfl, Nat.le_of_ble_eq_true rfl⟩) (zPV2 (q0 := 0) (ci := 9) hPc hDc hK hXN rfl rfl) rfl rfl hl.1 rfl (lv_room (Nat.le_of_ble_eq_true rfl)) dX11_smooth_2 ⟨Nat.le_of_ble_eq_true rfl, Nat.le_of_ble_eq_true rfl⟩) hS hFc hFc rfl (fun t H locs ht hB hk1 hS => ?_)
  obtain ⟨hP1, hD1⟩ := hB
  rw [ht] at hP1
  replace hP := z0 hP hD hk1 hP1 hI1
  clear hk1 hPc hDc hFc hP1 hD1 ht hI1
  refine zz_i2 (wrN_s (st f)) (fun hs9 => ?_) (fun hs9 => ?_)
  · skip
    refine lv_istore_n (lv' := [(2, .int 0), (0, .ref k0), (1, .int (nI f))]) hx hb dX11_smooth_5 rfl hl (Nat.le_of_ble_eq_true rfl) rfl (fun ls hl => ?_)
    refine lv_iload_n hx hb dX11_smooth_6 rfl (lv_at hl 0 rfl) ?_
    refine lv_if_le (tgt := 14) hx hb dX11_smooth_7 rfl (fun c_1 => ?_) (fun c_1 => ?_)
    · refine lv_aload_n hx hb dX11_smooth_14 rfl (lv_at hl 1 rfl) ?_
      refine lv_iload_n hx hb dX11_smooth_15 rfl (lv_at hl 2 rfl) ?_
      obtain ⟨hPc, hDc, hFc, hI1⟩ := zi_sub (wc := [_, _]) hP hD hS hA [0, 3] rfl rfl
      refine zcall (st1 := [.int (pI (¬ (kd f).toInt = 0 ∧ ¬ (kd f).toInt = 6))]) (va_runV (As := [.int (nI f)]) (rest := []) ⟨hx, hb, hml, hown, hts⟩ (k_M_isPlainable l dC dI cI cZ cF H.size k0 a I0 J0 f kd (by first | with_reducible assumption | omega)) (csV_210 hts rfl rfl ⟨Nat.le_of_ble_eq_true rfl, Nat.le_of_ble_eq_true rfl⟩) (zPV2 (q0 := 0) (ci := 9) hPc hDc hK hXN rfl rfl) rfl rfl hl.1 rfl (lv_room (Nat.le_of_ble_eq_true rfl)) dX11_smooth_16 ⟨Nat.le_of_ble_eq_true rfl, Nat.le_of_ble_eq_true rfl⟩) hS hFc hFc rfl (fun t H locs ht hB hk1 hS => ?_)
      obtain ⟨hP1, hD1⟩ := hB
      rw [ht] at hP1
      replace hP := z0 hP hD hk1 hP1 hI1
      clear hk1 hPc hDc hFc hP1 hD1 ht hI1
      refine lv_if_ne (tgt := 26) hx hb dX11_smooth_19 rfl (fun c_2 => ?_) (fun c_2 => ?_)
      · have c_2 : ¬ (kd f).toInt = 0 ∧ ¬ (kd f).toInt = 6 := zp_1 c_2
        refine lv_aload_n hx hb dX11_smooth_26 rfl (lv_at hl 1 rfl) ?_
        refine va_get (D := (dC, dI)) (ci := 9) (v := .ref (a 6)) (C := RX11) (T := TX11) (N := 55) hx hb hts inX11 hown hK hP 0 rfl rfl 6 (Nat.le_of_ble_eq_true rfl) (hts _ mw_1165) (fun _ h9 => h9) rfl dX11_smooth_27 ?_
        refine lv_iload_n hx hb dX11_smooth_30 rfl (lv_at hl 2 rfl) ?_
        have b9_3 : f < 201 := by omega
        refine z_zald hx hb hK hP 2 1 rfl rfl (e := f) rfl b9_3 (Nat.le_of_ble_eq_true rfl) dX11_smooth_31 ?_
        refine lv_if_eq (tgt := 39) hx hb dX11_smooth_32 rfl (fun c_4 => ?_) (fun c_4 => ?_)
        · have c_4 : (tn f).toInt = 0 := zc_eq rfl rfl c_4
          refine lv_iconst (v := 0) hx hb dX11_smooth_39 rfl ?_
          refine lv_istore_n (lv' := [(2, .int 0), (0, .ref k0), (1, .int (nI f))]) hx hb dX11_smooth_40 rfl hl (Nat.le_of_ble_eq_true rfl) rfl (fun ls hl => ?_)
          refine lv_iload_n hx hb dX11_smooth_41 rfl (lv_at hl 0 rfl) ?_
          refine lv_if_le (tgt := 51) hx hb dX11_smooth_42 rfl (fun c_5 => ?_) (fun c_5 => ?_)
          · exfalso; omega
          · exact absurd (by decide) c_5
        · have c_4 : ¬ (tn f).toInt = 0 := zc_ne rfl rfl c_4
          refine lv_iconst (v := 5) hx hb dX11_smooth_35 rfl ?_
          refine lv_goto (tgt := 40) hx hb dX11_smooth_36 rfl ?_
          refine lv_istore_n (lv' := [(2, .int 5), (0, .ref k0), (1, .int (nI f))]) hx hb dX11_smooth_40 rfl hl (Nat.le_of_ble_eq_true rfl) rfl (fun ls hl => ?_)
          refine lv_iload_n hx hb dX11_smooth_41 rfl (lv_at hl 0 rfl) ?_
          refine lv_if_le (tgt := 51) hx hb dX11_smooth_42 rfl (fun c_6 => ?_) (fun c_6 => ?_)
          · exact absurd c_6 (by decide)
          · refine lv_aload_n hx hb dX11_smooth_45 rfl (lv_at hl 1 rfl) ?_
            refine lv_iload_n hx hb dX11_smooth_46 rfl (lv_at hl 0 rfl) ?_
            obtain ⟨hPc, hDc, hFc⟩ := zo_sub (wc := [_]) hP hD hS hA [0] rfl rfl
            refine zcall (st1 := [.int 0]) (va_runV (As := [.int 5]) (rest := []) ⟨hx, hb, hml, hown, hts⟩ (k_M_no l dC dI cI cZ cF H.size k0 a I0 J0 5 (by decide)) (csV_198 hts rfl rfl ⟨Nat.le_of_ble_eq_true rfl, Nat.le_of_ble_eq_true rfl⟩) (zPV2 (q0 := 0) (ci := 9) hPc hDc hK hXN rfl rfl) rfl rfl hl.1 rfl (lv_room (Nat.le_of_ble_eq_true rfl)) dX11_smooth_47 ⟨Nat.le_of_ble_eq_true rfl, Nat.le_of_ble_eq_true rfl⟩) hS hFc hFc rfl (fun t H locs ht hB hk1 hS => ?_)
            obtain ⟨hP1, hD1⟩ := hB
            rw [ht] at hP1
            obtain ⟨hP, hD⟩ := zn (W2 := [(om k0 a (upd (upd I0 14 5) 15 (I0 15)) J0), _, _, _]) hP hD hk1 hFc hP1 hD1 [0] [false, true, true, true] [false, true, true, true] [0] (by decide +kernel) rfl rfl rfl rfl rfl
            clear hk1 hPc hDc hFc hP1 hD1 ht
            obtain ⟨hP9, hD9⟩ := zu_sub (wc := [_, _, _, _]) hP hD [true, true, true, true] rfl rfl
            rw [hQ9]
            exact W.zret (ty := .boolean) (v := 0) hx hb hr (rfl) (fun t ht hW => ⟨⟨rfl, 5, by rw [ht]; exact hP9, hD9⟩, hS.F ht⟩) hS.2.2 dX11_smooth_50
      · have c_2 : ¬ (¬ (kd f).toInt = 0 ∧ ¬ (kd f).toInt = 6) := zp_0 c_2
        refine lv_iconst (v := 3) hx hb dX11_smooth_22 rfl ?_
        refine lv_goto (tgt := 40) hx hb dX11_smooth_23 rfl ?_
        refine lv_istore_n (lv' := [(2, .int 3), (0, .ref k0), (1, .int (nI f))]) hx hb dX11_smooth_40 rfl hl (Nat.le_of_ble_eq_true rfl) rfl (fun ls hl => ?_)
        refine lv_iload_n hx hb dX11_smooth_41 rfl (lv_at hl 0 rfl) ?_
        refine lv_if_le (tgt := 51) hx hb dX11_smooth_42 rfl (fun c_7 => ?_) (fun c_7 => ?_)
        · exact absurd c_7 (by decide)
        · refine lv_aload_n hx hb dX11_smooth_45 rfl (lv_at hl 1 rfl) ?_
          refine lv_iload_n hx hb dX11_smooth_46 rfl (lv_at hl 0 rfl) ?_
          obtain ⟨hPc, hDc, hFc⟩ := zo_sub (wc := [_]) hP hD hS hA [0] rfl rfl
          refine zcall (st1 := [.int 0]) (va_runV (As := [.int 3]) (rest := []) ⟨hx, hb, hml, hown, hts⟩ (k_M_no l dC dI cI cZ cF H.size k0 a I0 J0 3 (by decide)) (csV_198 hts rfl rfl ⟨Nat.le_of_ble_eq_true rfl, Nat.le_of_ble_eq_true rfl⟩) (zPV2 (q0 := 0) (ci := 9) hPc hDc hK hXN rfl rfl) rfl rfl hl.1 rfl (lv_room (Nat.le_of_ble_eq_true rfl)) dX11_smooth_47 ⟨Nat.le_of_ble_eq_true rfl, Nat.le_of_ble_eq_true rfl⟩) hS hFc hFc rfl (fun t H locs ht hB hk1 hS => ?_)
          obtain ⟨hP1, hD1⟩ := hB
          rw [ht] at hP1
          obtain ⟨hP, hD⟩ := zn (W2 := [(om k0 a (upd (upd I0 14 3) 15 (I0 15)) J0), _, _, _]) hP hD hk1 hFc hP1 hD1 [0] [false, true, true, true] [false, true, true, true] [0] (by decide +kernel) rfl rfl rfl rfl rfl
          clear hk1 hPc hDc hFc hP1 hD1 ht
          obtain ⟨hP9, hD9⟩ := zu_sub (wc := [_, _, _, _]) hP hD [true, true, true, true] rfl rfl
          rw [hQ9]
          exact W.zret (ty := .boolean) (v := 0) hx hb hr (rfl) (fun t ht hW => ⟨⟨rfl, 3, by rw [ht]; exact hP9, hD9⟩, hS.F ht⟩) hS.2.2 dX11_smooth_50
    · exact absurd (by decide) c_1
  · skip
    refine lv_istore_n (lv' := [(2, .int 2), (0, .ref k0), (1, .int (nI f))]) hx hb dX11_smooth_5 rfl hl (Nat.le_of_ble_eq_true rfl) rfl (fun ls hl => ?_)
    refine lv_iload_n hx hb dX11_smooth_6 rfl (lv_at hl 0 rfl) ?_
    refine lv_if_le (tgt := 14) hx hb dX11_smooth_7 rfl (fun c_8 => ?_) (fun c_8 => ?_)
    · exact absurd c_8 (by decide)
    · refine lv_iload_n hx hb dX11_smooth_10 rfl (lv_at hl 0 rfl) ?_
      refine lv_goto (tgt := 40) hx hb dX11_smooth_11 rfl ?_
      refine lv_istore_n (lv' := [(2, .int 2), (0, .ref k0), (1, .int (nI f))]) hx hb dX11_smooth_40 rfl hl (Nat.le_of_ble_eq_true rfl) rfl (fun ls hl => ?_)
      refine lv_iload_n hx hb dX11_smooth_41 rfl (lv_at hl 0 rfl) ?_
      refine lv_if_le (tgt := 51) hx hb dX11_smooth_42 rfl (fun c_9 => ?_) (fun c_9 => ?_)
      · exact absurd c_9 (by decide)
      · refine lv_aload_n hx hb dX11_smooth_45 rfl (lv_at hl 1 rfl) ?_
        refine lv_iload_n hx hb dX11_smooth_46 rfl (lv_at hl 0 rfl) ?_
        obtain ⟨hPc, hDc, hFc⟩ := zo_sub (wc := [_]) hP hD hS hA [0] rfl rfl
        refine zcall (st1 := [.int 0]) (va_runV (As := [.int 2]) (rest := []) ⟨hx, hb, hml, hown, hts⟩ (k_M_no l dC dI cI cZ cF H.size k0 a I0 J0 2 (by decide)) (csV_198 hts rfl rfl ⟨Nat.le_of_ble_eq_true rfl, Nat.le_of_ble_eq_true rfl⟩) (zPV2 (q0 := 0) (ci := 9) hPc hDc hK hXN rfl rfl) rfl rfl hl.1 rfl (lv_room (Nat.le_of_ble_eq_true rfl)) dX11_smooth_47 ⟨Nat.le_of_ble_eq_true rfl, Nat.le_of_ble_eq_true rfl⟩) hS hFc hFc rfl (fun t H locs ht hB hk1 hS => ?_)
        obtain ⟨hP1, hD1⟩ := hB
        rw [ht] at hP1
        obtain ⟨hP, hD⟩ := zn (W2 := [(om k0 a (upd (upd I0 14 2) 15 (I0 15)) J0), _, _, _]) hP hD hk1 hFc hP1 hD1 [0] [false, true, true, true] [false, true, true, true] [0] (by decide +kernel) rfl rfl rfl rfl rfl
        clear hk1 hPc hDc hFc hP1 hD1 ht
        obtain ⟨hP9, hD9⟩ := zu_sub (wc := [_, _, _, _]) hP hD [true, true, true, true] rfl rfl
        rw [hQ9]
        exact W.zret (ty := .boolean) (v := 0) hx hb hr (rfl) (fun t ht hW => ⟨⟨rfl, 2, by rw [ht]; exact hP9, hD9⟩, hS.F ht⟩) hS.2.2 dX11_smooth_50
set_option maxHeartbeats 4000000 in
set_option maxRecDepth 100000 in
theorem k_M_grow_r (l : Launch) (dC : Nat → ClassId) (dI : Nat → Nat → Nat) (cI cZ cF : ClassId) (sz : Nat) (k0 : Nat) (a : Nat → Nat) (I0 : Nat → Int32) (J0 : Nat → Int64) (f : Nat) (ft : Nat) (st : Nat → Int32) (tn : Nat → Int32) (kd : Nat → Int32) (hft : I0 0 = nI ft) (h200 : ft ≤ 200) (hf_t : f < ft) (hbad : ¬ ((st f).toInt = 1 ∧ (kd f).toInt = 6 ∧ (tn f).toInt = 0)) : zM l yX11_grow cX11_grow 4 (some .boolean) ({ frames := 2, cells := 0, slots := 0, locals := 42 } : Room) [.ref k0, .int (nI f)] (dC, dI) (zTy cI cZ cF) [(om k0 a I0 J0), (oa (a 5) cI 201 st), (oa (a 6) cZ 201 tn), (oa (a 1) cI 201 kd)] sz (some (.int 0)) (fun A t => ∃ (z9 : Int32), zPD (dC, dI) classes A [(om k0 a (upd (upd I0 14 z9) 15 (I0 15)) J0), (oa (a 5) cI 201 st), (oa (a 6) cZ 201 tn), (oa (a 1) cI 201 kd)] t.heap) 0 0 := by
  refine zIn (own := "ScaleShopModel") (loc := [(0, .ref k0), (1, .int (nI f))]) rfl rfl rfl rfl (fun p e s m below meth c hx hb hr hts hown hlocks hml hnm9 A hA hS hP hD hK hXN Q9 hQ9 ls hl => ?_)
  refine lv_aload_n hx hb dX11_grow_0 rfl (lv_at hl 0 rfl) ?_
  refine lv_iload_n hx hb dX11_grow_1 rfl (lv_at hl 1 rfl) ?_
  obtain ⟨hPc, hDc, hFc, hI1⟩ := zi_sub (wc := [_, _]) hP hD hS hA [0, 1] rfl rfl
  refine zcall (st1 := [.int (wrN (st f))]) (va_runV (As := [.int (nI f)]) (rest := []) ⟨hx, hb, hml, hown, hts⟩ (k_M_wrong l dC dI cI cZ cF s.heap.size k0 a I0 J0 f ft st (by first | with_reducible assumption | assumption) (by first | with_reducible assumption | omega) (by first | with_reducible assumption | omega)) (csV_209 hts rfl rfl ⟨Nat.le_of_ble_eq_true rfl, Nat.le_of_ble_eq_true rfl⟩) (zPV2 (q0 := 0) (ci := 9) hPc hDc hK hXN rfl rfl) rfl rfl hl.1 rfl (lv_room (Nat.le_of_ble_eq_true rfl)) dX11_grow_2 ⟨Nat.le_of_ble_eq_true rfl, Nat.le_of_ble_eq_true rfl⟩) hS hFc hFc rfl (fun t H locs ht hB hk1 hS => ?_)
  obtain ⟨hP1, hD1⟩ := hB
  rw [ht] at hP1
  replace hP := z0 hP hD hk1 hP1 hI1
  clear hk1 hPc hDc hFc hP1 hD1 ht hI1
  refine zz_i2 (wrN_s (st f)) (fun hs9 => ?_) (fun hs9 => ?_)
  · skip
    refine lv_istore_n (lv' := [(2, .int 0), (0, .ref k0), (1, .int (nI f))]) hx hb dX11_grow_5 rfl hl (Nat.le_of_ble_eq_true rfl) rfl (fun ls hl => ?_)
    refine lv_iload_n hx hb dX11_grow_6 rfl (lv_at hl 0 rfl) ?_
    refine lv_if_le (tgt := 14) hx hb dX11_grow_7 rfl (fun c_1 => ?_) (fun c_1 => ?_)
    · refine lv_aload_n hx hb dX11_grow_14 rfl (lv_at hl 1 rfl) ?_
      refine va_get (D := (dC, dI)) (ci := 9) (v := .ref (a 1)) (C := RX11) (T := TX11) (N := 55) hx hb hts inX11 hown hK hP 0 rfl rfl 1 (Nat.le_of_ble_eq_true rfl) (hts _ mw_1160) (fun _ h9 => h9) rfl dX11_grow_15 ?_
      refine lv_iload_n hx hb dX11_grow_18 rfl (lv_at hl 2 rfl) ?_
      have b9_2 : f < 201 := by omega
      refine z_iald hx hb hK hP 3 0 rfl rfl (e := f) rfl b9_2 (Nat.le_of_ble_eq_true rfl) dX11_grow_19 ?_
      refine lv_bipush (v := 6) hx hb dX11_grow_20 rfl ?_
      refine lv_icmp_eq (tgt := 29) hx hb dX11_grow_22 rfl (fun c_3 => ?_) (fun c_3 => ?_)
      · have c_3 : (kd f).toInt = 6 := zc_eq rfl rfl c_3
        refine lv_aload_n hx hb dX11_grow_29 rfl (lv_at hl 1 rfl) ?_
        refine va_get (D := (dC, dI)) (ci := 9) (v := .ref (a 6)) (C := RX11) (T := TX11) (N := 55) hx hb hts inX11 hown hK hP 0 rfl rfl 6 (Nat.le_of_ble_eq_true rfl) (hts _ mw_1165) (fun _ h9 => h9) rfl dX11_grow_30 ?_
        refine lv_iload_n hx hb dX11_grow_33 rfl (lv_at hl 2 rfl) ?_
        refine z_zald hx hb hK hP 2 1 rfl rfl (e := f) rfl b9_2 (Nat.le_of_ble_eq_true rfl) dX11_grow_34 ?_
        refine lv_if_eq (tgt := 42) hx hb dX11_grow_35 rfl (fun c_4 => ?_) (fun c_4 => ?_)
        · have c_4 : (tn f).toInt = 0 := zc_eq rfl rfl c_4
          refine lv_iconst (v := 0) hx hb dX11_grow_42 rfl ?_
          refine lv_istore_n (lv' := [(2, .int 0), (0, .ref k0), (1, .int (nI f))]) hx hb dX11_grow_43 rfl hl (Nat.le_of_ble_eq_true rfl) rfl (fun ls hl => ?_)
          refine lv_iload_n hx hb dX11_grow_44 rfl (lv_at hl 0 rfl) ?_
          refine lv_if_le (tgt := 54) hx hb dX11_grow_45 rfl (fun c_5 => ?_) (fun c_5 => ?_)
          · exfalso; omega
          · exact absurd (by decide) c_5
        · have c_4 : ¬ (tn f).toInt = 0 := zc_ne rfl rfl c_4
          refine lv_iconst (v := 5) hx hb dX11_grow_38 rfl ?_
          refine lv_goto (tgt := 43) hx hb dX11_grow_39 rfl ?_
          refine lv_istore_n (lv' := [(2, .int 5), (0, .ref k0), (1, .int (nI f))]) hx hb dX11_grow_43 rfl hl (Nat.le_of_ble_eq_true rfl) rfl (fun ls hl => ?_)
          refine lv_iload_n hx hb dX11_grow_44 rfl (lv_at hl 0 rfl) ?_
          refine lv_if_le (tgt := 54) hx hb dX11_grow_45 rfl (fun c_6 => ?_) (fun c_6 => ?_)
          · exact absurd c_6 (by decide)
          · refine lv_aload_n hx hb dX11_grow_48 rfl (lv_at hl 1 rfl) ?_
            refine lv_iload_n hx hb dX11_grow_49 rfl (lv_at hl 0 rfl) ?_
            obtain ⟨hPc, hDc, hFc⟩ := zo_sub (wc := [_]) hP hD hS hA [0] rfl rfl
            refine zcall (st1 := [.int 0]) (va_runV (As := [.int 5]) (rest := []) ⟨hx, hb, hml, hown, hts⟩ (k_M_no l dC dI cI cZ cF H.size k0 a I0 J0 5 (by decide)) (csV_198 hts rfl rfl ⟨Nat.le_of_ble_eq_true rfl, Nat.le_of_ble_eq_true rfl⟩) (zPV2 (q0 := 0) (ci := 9) hPc hDc hK hXN rfl rfl) rfl rfl hl.1 rfl (lv_room (Nat.le_of_ble_eq_true rfl)) dX11_grow_50 ⟨Nat.le_of_ble_eq_true rfl, Nat.le_of_ble_eq_true rfl⟩) hS hFc hFc rfl (fun t H locs ht hB hk1 hS => ?_)
            obtain ⟨hP1, hD1⟩ := hB
            rw [ht] at hP1
            obtain ⟨hP, hD⟩ := zn (W2 := [(om k0 a (upd (upd I0 14 5) 15 (I0 15)) J0), _, _, _]) hP hD hk1 hFc hP1 hD1 [0] [false, true, true, true] [false, true, true, true] [0] (by decide +kernel) rfl rfl rfl rfl rfl
            clear hk1 hPc hDc hFc hP1 hD1 ht
            obtain ⟨hP9, hD9⟩ := zu_sub (wc := [_, _, _, _]) hP hD [true, true, true, true] rfl rfl
            rw [hQ9]
            exact W.zret (ty := .boolean) (v := 0) hx hb hr (rfl) (fun t ht hW => ⟨⟨rfl, 5, by rw [ht]; exact hP9, hD9⟩, hS.F ht⟩) hS.2.2 dX11_grow_53
      · have c_3 : ¬ (kd f).toInt = 6 := zc_ne rfl rfl c_3
        refine lv_iconst (v := 3) hx hb dX11_grow_25 rfl ?_
        refine lv_goto (tgt := 43) hx hb dX11_grow_26 rfl ?_
        refine lv_istore_n (lv' := [(2, .int 3), (0, .ref k0), (1, .int (nI f))]) hx hb dX11_grow_43 rfl hl (Nat.le_of_ble_eq_true rfl) rfl (fun ls hl => ?_)
        refine lv_iload_n hx hb dX11_grow_44 rfl (lv_at hl 0 rfl) ?_
        refine lv_if_le (tgt := 54) hx hb dX11_grow_45 rfl (fun c_7 => ?_) (fun c_7 => ?_)
        · exact absurd c_7 (by decide)
        · refine lv_aload_n hx hb dX11_grow_48 rfl (lv_at hl 1 rfl) ?_
          refine lv_iload_n hx hb dX11_grow_49 rfl (lv_at hl 0 rfl) ?_
          obtain ⟨hPc, hDc, hFc⟩ := zo_sub (wc := [_]) hP hD hS hA [0] rfl rfl
          refine zcall (st1 := [.int 0]) (va_runV (As := [.int 3]) (rest := []) ⟨hx, hb, hml, hown, hts⟩ (k_M_no l dC dI cI cZ cF H.size k0 a I0 J0 3 (by decide)) (csV_198 hts rfl rfl ⟨Nat.le_of_ble_eq_true rfl, Nat.le_of_ble_eq_true rfl⟩) (zPV2 (q0 := 0) (ci := 9) hPc hDc hK hXN rfl rfl) rfl rfl hl.1 rfl (lv_room (Nat.le_of_ble_eq_true rfl)) dX11_grow_50 ⟨Nat.le_of_ble_eq_true rfl, Nat.le_of_ble_eq_true rfl⟩) hS hFc hFc rfl (fun t H locs ht hB hk1 hS => ?_)
          obtain ⟨hP1, hD1⟩ := hB
          rw [ht] at hP1
          obtain ⟨hP, hD⟩ := zn (W2 := [(om k0 a (upd (upd I0 14 3) 15 (I0 15)) J0), _, _, _]) hP hD hk1 hFc hP1 hD1 [0] [false, true, true, true] [false, true, true, true] [0] (by decide +kernel) rfl rfl rfl rfl rfl
          clear hk1 hPc hDc hFc hP1 hD1 ht
          obtain ⟨hP9, hD9⟩ := zu_sub (wc := [_, _, _, _]) hP hD [true, true, true, true] rfl rfl
          rw [hQ9]
          exact W.zret (ty := .boolean) (v := 0) hx hb hr (rfl) (fun t ht hW => ⟨⟨rfl, 3, by rw [ht]; exact hP9, hD9⟩, hS.F ht⟩) hS.2.2 dX11_grow_53
    · exact absurd (by decide) c_1
  · skip
    refine lv_istore_n (lv' := [(2, .int 2), (0, .ref k0), (1, .int (nI f))]) hx hb dX11_grow_5 rfl hl (Nat.le_of_ble_eq_true rfl) rfl (fun ls hl => ?_)
    refine lv_iload_n hx hb dX11_grow_6 rfl (lv_at hl 0 rfl) ?_
    refine lv_if_le (tgt := 14) hx hb dX11_grow_7 rfl (fun c_8 => ?_) (fun c_8 => ?_)
    · exact absurd c_8 (by decide)
    · refine lv_iload_n hx hb dX11_grow_10 rfl (lv_at hl 0 rfl) ?_
      refine lv_goto (tgt := 43) hx hb dX11_grow_11 rfl ?_
      refine lv_istore_n (lv' := [(2, .int 2), (0, .ref k0), (1, .int (nI f))]) hx hb dX11_grow_43 rfl hl (Nat.le_of_ble_eq_true rfl) rfl (fun ls hl => ?_)
      refine lv_iload_n hx hb dX11_grow_44 rfl (lv_at hl 0 rfl) ?_
      refine lv_if_le (tgt := 54) hx hb dX11_grow_45 rfl (fun c_9 => ?_) (fun c_9 => ?_)
      · exact absurd c_9 (by decide)
      · refine lv_aload_n hx hb dX11_grow_48 rfl (lv_at hl 1 rfl) ?_
        refine lv_iload_n hx hb dX11_grow_49 rfl (lv_at hl 0 rfl) ?_
        obtain ⟨hPc, hDc, hFc⟩ := zo_sub (wc := [_]) hP hD hS hA [0] rfl rfl
        refine zcall (st1 := [.int 0]) (va_runV (As := [.int 2]) (rest := []) ⟨hx, hb, hml, hown, hts⟩ (k_M_no l dC dI cI cZ cF H.size k0 a I0 J0 2 (by decide)) (csV_198 hts rfl rfl ⟨Nat.le_of_ble_eq_true rfl, Nat.le_of_ble_eq_true rfl⟩) (zPV2 (q0 := 0) (ci := 9) hPc hDc hK hXN rfl rfl) rfl rfl hl.1 rfl (lv_room (Nat.le_of_ble_eq_true rfl)) dX11_grow_50 ⟨Nat.le_of_ble_eq_true rfl, Nat.le_of_ble_eq_true rfl⟩) hS hFc hFc rfl (fun t H locs ht hB hk1 hS => ?_)
        obtain ⟨hP1, hD1⟩ := hB
        rw [ht] at hP1
        obtain ⟨hP, hD⟩ := zn (W2 := [(om k0 a (upd (upd I0 14 2) 15 (I0 15)) J0), _, _, _]) hP hD hk1 hFc hP1 hD1 [0] [false, true, true, true] [false, true, true, true] [0] (by decide +kernel) rfl rfl rfl rfl rfl
        clear hk1 hPc hDc hFc hP1 hD1 ht
        obtain ⟨hP9, hD9⟩ := zu_sub (wc := [_, _, _, _]) hP hD [true, true, true, true] rfl rfl
        rw [hQ9]
        exact W.zret (ty := .boolean) (v := 0) hx hb hr (rfl) (fun t ht hW => ⟨⟨rfl, 2, by rw [ht]; exact hP9, hD9⟩, hS.F ht⟩) hS.2.2 dX11_grow_53
set_option maxHeartbeats 4000000 in
set_option maxRecDepth 100000 in
theorem k_M_square_r (l : Launch) (dC : Nat → ClassId) (dI : Nat → Nat → Nat) (cI cZ cF : ClassId) (sz : Nat) (k0 : Nat) (a : Nat → Nat) (I0 : Nat → Int32) (J0 : Nat → Int64) (f : Nat) (ft : Nat) (ms : Int32) (st : Nat → Int32) (tn : Nat → Int32) (kd : Nat → Int32) (hft : I0 0 = nI ft) (h200 : ft ≤ 200) (hf_t : f < ft) (hbad : ¬ ((st f).toInt = 1 ∧ (kd f).toInt = 5 ∧ 0 ≤ ms.toInt ∧ (tn f).toInt = 0)) : zM l yX11_square cX11_square 6 (some .boolean) ({ frames := 2, cells := 0, slots := 0, locals := 42 } : Room) [.ref k0, .int (nI f), .int ms] (dC, dI) (zTy cI cZ cF) [(om k0 a I0 J0), (oa (a 5) cI 201 st), (oa (a 6) cZ 201 tn), (oa (a 1) cI 201 kd)] sz (some (.int 0)) (fun A t => ∃ (z9 : Int32), zPD (dC, dI) classes A [(om k0 a (upd (upd I0 14 z9) 15 (I0 15)) J0), (oa (a 5) cI 201 st), (oa (a 6) cZ 201 tn), (oa (a 1) cI 201 kd)] t.heap) 0 0 := by
  refine zIn (own := "ScaleShopModel") (loc := [(0, .ref k0), (1, .int (nI f)), (2, .int ms)]) rfl rfl rfl rfl (fun p e s m below meth c hx hb hr hts hown hlocks hml hnm9 A hA hS hP hD hK hXN Q9 hQ9 ls hl => ?_)
  refine lv_aload_n hx hb dX11_square_0 rfl (lv_at hl 0 rfl) ?_
  refine lv_iload_n hx hb dX11_square_1 rfl (lv_at hl 1 rfl) ?_
  obtain ⟨hPc, hDc, hFc, hI1⟩ := zi_sub (wc := [_, _]) hP hD hS hA [0, 1] rfl rfl
  refine zcall (st1 := [.int (wrN (st f))]) (va_runV (As := [.int (nI f)]) (rest := []) ⟨hx, hb, hml, hown, hts⟩ (k_M_wrong l dC dI cI cZ cF s.heap.size k0 a I0 J0 f ft st (by first | with_reducible assumption | assumption) (by first | with_reducible assumption | omega) (by first | with_reducible assumption | omega)) (csV_209 hts rfl rfl ⟨Nat.le_of_ble_eq_true rfl, Nat.le_of_ble_eq_true rfl⟩) (zPV2 (q0 := 0) (ci := 9) hPc hDc hK hXN rfl rfl) rfl rfl hl.1 rfl (lv_room (Nat.le_of_ble_eq_true rfl)) dX11_square_2 ⟨Nat.le_of_ble_eq_true rfl, Nat.le_of_ble_eq_true rfl⟩) hS hFc hFc rfl (fun t H locs ht hB hk1 hS => ?_)
  obtain ⟨hP1, hD1⟩ := hB
  rw [ht] at hP1
  replace hP := z0 hP hD hk1 hP1 hI1
  clear hk1 hPc hDc hFc hP1 hD1 ht hI1
  refine zz_i2 (wrN_s (st f)) (fun hs9 => ?_) (fun hs9 => ?_)
  · skip
    refine lv_istore_n (lv' := [(3, .int 0), (0, .ref k0), (1, .int (nI f)), (2, .int ms)]) hx hb dX11_square_5 rfl hl (Nat.le_of_ble_eq_true rfl) rfl (fun ls hl => ?_)
    refine lv_iload_n hx hb dX11_square_6 rfl (lv_at hl 0 rfl) ?_
    refine lv_if_le (tgt := 14) hx hb dX11_square_7 rfl (fun c_1 => ?_) (fun c_1 => ?_)
    · refine lv_aload_n hx hb dX11_square_14 rfl (lv_at hl 1 rfl) ?_
      refine va_get (D := (dC, dI)) (ci := 9) (v := .ref (a 1)) (C := RX11) (T := TX11) (N := 55) hx hb hts inX11 hown hK hP 0 rfl rfl 1 (Nat.le_of_ble_eq_true rfl) (hts _ mw_1160) (fun _ h9 => h9) rfl dX11_square_15 ?_
      refine lv_iload_n hx hb dX11_square_18 rfl (lv_at hl 2 rfl) ?_
      have b9_2 : f < 201 := by omega
      refine z_iald hx hb hK hP 3 0 rfl rfl (e := f) rfl b9_2 (Nat.le_of_ble_eq_true rfl) dX11_square_19 ?_
      refine lv_iconst (v := 5) hx hb dX11_square_20 rfl ?_
      refine lv_icmp_eq (tgt := 28) hx hb dX11_square_21 rfl (fun c_3 => ?_) (fun c_3 => ?_)
      · have c_3 : (kd f).toInt = 5 := zc_eq rfl rfl c_3
        refine lv_iload_n hx hb dX11_square_28 rfl (lv_at hl 3 rfl) ?_
        refine lv_if_ge (tgt := 36) hx hb dX11_square_29 rfl (fun c_4 => ?_) (fun c_4 => ?_)
        · have c_4 : 0 ≤ ms.toInt := zc_le rfl rfl c_4
          refine lv_iconst (v := 0) hx hb dX11_square_36 rfl ?_
          refine lv_istore_n (lv' := [(3, .int 0), (0, .ref k0), (1, .int (nI f)), (2, .int ms)]) hx hb dX11_square_37 rfl hl (Nat.le_of_ble_eq_true rfl) rfl (fun ls hl => ?_)
          refine lv_iload_n hx hb dX11_square_38 rfl (lv_at hl 0 rfl) ?_
          refine lv_if_le (tgt := 48) hx hb dX11_square_39 rfl (fun c_5 => ?_) (fun c_5 => ?_)
          · refine lv_aload_n hx hb dX11_square_48 rfl (lv_at hl 1 rfl) ?_
            refine va_get (D := (dC, dI)) (ci := 9) (v := .ref (a 6)) (C := RX11) (T := TX11) (N := 55) hx hb hts inX11 hown hK hP 0 rfl rfl 6 (Nat.le_of_ble_eq_true rfl) (hts _ mw_1165) (fun _ h9 => h9) rfl dX11_square_49 ?_
            refine lv_iload_n hx hb dX11_square_52 rfl (lv_at hl 2 rfl) ?_
            refine z_zald hx hb hK hP 2 1 rfl rfl (e := f) rfl b9_2 (Nat.le_of_ble_eq_true rfl) dX11_square_53 ?_
            refine lv_if_eq (tgt := 63) hx hb dX11_square_54 rfl (fun c_6 => ?_) (fun c_6 => ?_)
            · have c_6 : (tn f).toInt = 0 := zc_eq rfl rfl c_6
              exfalso; omega
            · have c_6 : ¬ (tn f).toInt = 0 := zc_ne rfl rfl c_6
              refine lv_aload_n hx hb dX11_square_57 rfl (lv_at hl 1 rfl) ?_
              refine lv_iconst (v := 5) hx hb dX11_square_58 rfl ?_
              obtain ⟨hPc, hDc, hFc⟩ := zo_sub (wc := [_]) hP hD hS hA [0] rfl rfl
              refine zcall (st1 := [.int 0]) (va_runV (As := [.int 5]) (rest := []) ⟨hx, hb, hml, hown, hts⟩ (k_M_no l dC dI cI cZ cF H.size k0 a I0 J0 5 (by decide)) (csV_198 hts rfl rfl ⟨Nat.le_of_ble_eq_true rfl, Nat.le_of_ble_eq_true rfl⟩) (zPV2 (q0 := 0) (ci := 9) hPc hDc hK hXN rfl rfl) rfl rfl hl.1 rfl (lv_room (Nat.le_of_ble_eq_true rfl)) dX11_square_59 ⟨Nat.le_of_ble_eq_true rfl, Nat.le_of_ble_eq_true rfl⟩) hS hFc hFc rfl (fun t H locs ht hB hk1 hS => ?_)
              obtain ⟨hP1, hD1⟩ := hB
              rw [ht] at hP1
              obtain ⟨hP, hD⟩ := zn (W2 := [(om k0 a (upd (upd I0 14 5) 15 (I0 15)) J0), _, _, _]) hP hD hk1 hFc hP1 hD1 [0] [false, true, true, true] [false, true, true, true] [0] (by decide +kernel) rfl rfl rfl rfl rfl
              clear hk1 hPc hDc hFc hP1 hD1 ht
              obtain ⟨hP9, hD9⟩ := zu_sub (wc := [_, _, _, _]) hP hD [true, true, true, true] rfl rfl
              rw [hQ9]
              exact W.zret (ty := .boolean) (v := 0) hx hb hr (rfl) (fun t ht hW => ⟨⟨rfl, 5, by rw [ht]; exact hP9, hD9⟩, hS.F ht⟩) hS.2.2 dX11_square_62
          · exact absurd (by decide) c_5
        · have c_4 : ms.toInt < 0 := zc_nle rfl rfl c_4
          refine lv_iconst (v := 4) hx hb dX11_square_32 rfl ?_
          refine lv_goto (tgt := 37) hx hb dX11_square_33 rfl ?_
          refine lv_istore_n (lv' := [(3, .int 4), (0, .ref k0), (1, .int (nI f)), (2, .int ms)]) hx hb dX11_square_37 rfl hl (Nat.le_of_ble_eq_true rfl) rfl (fun ls hl => ?_)
          refine lv_iload_n hx hb dX11_square_38 rfl (lv_at hl 0 rfl) ?_
          refine lv_if_le (tgt := 48) hx hb dX11_square_39 rfl (fun c_7 => ?_) (fun c_7 => ?_)
          · exact absurd c_7 (by decide)
          · refine lv_aload_n hx hb dX11_square_42 rfl (lv_at hl 1 rfl) ?_
            refine lv_iload_n hx hb dX11_square_43 rfl (lv_at hl 0 rfl) ?_
            obtain ⟨hPc, hDc, hFc⟩ := zo_sub (wc := [_]) hP hD hS hA [0] rfl rfl
            refine zcall (st1 := [.int 0]) (va_runV (As := [.int 4]) (rest := []) ⟨hx, hb, hml, hown, hts⟩ (k_M_no l dC dI cI cZ cF H.size k0 a I0 J0 4 (by decide)) (csV_198 hts rfl rfl ⟨Nat.le_of_ble_eq_true rfl, Nat.le_of_ble_eq_true rfl⟩) (zPV2 (q0 := 0) (ci := 9) hPc hDc hK hXN rfl rfl) rfl rfl hl.1 rfl (lv_room (Nat.le_of_ble_eq_true rfl)) dX11_square_44 ⟨Nat.le_of_ble_eq_true rfl, Nat.le_of_ble_eq_true rfl⟩) hS hFc hFc rfl (fun t H locs ht hB hk1 hS => ?_)
            obtain ⟨hP1, hD1⟩ := hB
            rw [ht] at hP1
            obtain ⟨hP, hD⟩ := zn (W2 := [(om k0 a (upd (upd I0 14 4) 15 (I0 15)) J0), _, _, _]) hP hD hk1 hFc hP1 hD1 [0] [false, true, true, true] [false, true, true, true] [0] (by decide +kernel) rfl rfl rfl rfl rfl
            clear hk1 hPc hDc hFc hP1 hD1 ht
            obtain ⟨hP9, hD9⟩ := zu_sub (wc := [_, _, _, _]) hP hD [true, true, true, true] rfl rfl
            rw [hQ9]
            exact W.zret (ty := .boolean) (v := 0) hx hb hr (rfl) (fun t ht hW => ⟨⟨rfl, 4, by rw [ht]; exact hP9, hD9⟩, hS.F ht⟩) hS.2.2 dX11_square_47
      · have c_3 : ¬ (kd f).toInt = 5 := zc_ne rfl rfl c_3
        refine lv_iconst (v := 3) hx hb dX11_square_24 rfl ?_
        refine lv_goto (tgt := 37) hx hb dX11_square_25 rfl ?_
        refine lv_istore_n (lv' := [(3, .int 3), (0, .ref k0), (1, .int (nI f)), (2, .int ms)]) hx hb dX11_square_37 rfl hl (Nat.le_of_ble_eq_true rfl) rfl (fun ls hl => ?_)
        refine lv_iload_n hx hb dX11_square_38 rfl (lv_at hl 0 rfl) ?_
        refine lv_if_le (tgt := 48) hx hb dX11_square_39 rfl (fun c_8 => ?_) (fun c_8 => ?_)
        · exact absurd c_8 (by decide)
        · refine lv_aload_n hx hb dX11_square_42 rfl (lv_at hl 1 rfl) ?_
          refine lv_iload_n hx hb dX11_square_43 rfl (lv_at hl 0 rfl) ?_
          obtain ⟨hPc, hDc, hFc⟩ := zo_sub (wc := [_]) hP hD hS hA [0] rfl rfl
          refine zcall (st1 := [.int 0]) (va_runV (As := [.int 3]) (rest := []) ⟨hx, hb, hml, hown, hts⟩ (k_M_no l dC dI cI cZ cF H.size k0 a I0 J0 3 (by decide)) (csV_198 hts rfl rfl ⟨Nat.le_of_ble_eq_true rfl, Nat.le_of_ble_eq_true rfl⟩) (zPV2 (q0 := 0) (ci := 9) hPc hDc hK hXN rfl rfl) rfl rfl hl.1 rfl (lv_room (Nat.le_of_ble_eq_true rfl)) dX11_square_44 ⟨Nat.le_of_ble_eq_true rfl, Nat.le_of_ble_eq_true rfl⟩) hS hFc hFc rfl (fun t H locs ht hB hk1 hS => ?_)
          obtain ⟨hP1, hD1⟩ := hB
          rw [ht] at hP1
          obtain ⟨hP, hD⟩ := zn (W2 := [(om k0 a (upd (upd I0 14 3) 15 (I0 15)) J0), _, _, _]) hP hD hk1 hFc hP1 hD1 [0] [false, true, true, true] [false, true, true, true] [0] (by decide +kernel) rfl rfl rfl rfl rfl
          clear hk1 hPc hDc hFc hP1 hD1 ht
          obtain ⟨hP9, hD9⟩ := zu_sub (wc := [_, _, _, _]) hP hD [true, true, true, true] rfl rfl
          rw [hQ9]
          exact W.zret (ty := .boolean) (v := 0) hx hb hr (rfl) (fun t ht hW => ⟨⟨rfl, 3, by rw [ht]; exact hP9, hD9⟩, hS.F ht⟩) hS.2.2 dX11_square_47
    · exact absurd (by decide) c_1
  · skip
    refine lv_istore_n (lv' := [(3, .int 2), (0, .ref k0), (1, .int (nI f)), (2, .int ms)]) hx hb dX11_square_5 rfl hl (Nat.le_of_ble_eq_true rfl) rfl (fun ls hl => ?_)
    refine lv_iload_n hx hb dX11_square_6 rfl (lv_at hl 0 rfl) ?_
    refine lv_if_le (tgt := 14) hx hb dX11_square_7 rfl (fun c_9 => ?_) (fun c_9 => ?_)
    · exact absurd c_9 (by decide)
    · refine lv_iload_n hx hb dX11_square_10 rfl (lv_at hl 0 rfl) ?_
      refine lv_goto (tgt := 37) hx hb dX11_square_11 rfl ?_
      refine lv_istore_n (lv' := [(3, .int 2), (0, .ref k0), (1, .int (nI f)), (2, .int ms)]) hx hb dX11_square_37 rfl hl (Nat.le_of_ble_eq_true rfl) rfl (fun ls hl => ?_)
      refine lv_iload_n hx hb dX11_square_38 rfl (lv_at hl 0 rfl) ?_
      refine lv_if_le (tgt := 48) hx hb dX11_square_39 rfl (fun c_10 => ?_) (fun c_10 => ?_)
      · exact absurd c_10 (by decide)
      · refine lv_aload_n hx hb dX11_square_42 rfl (lv_at hl 1 rfl) ?_
        refine lv_iload_n hx hb dX11_square_43 rfl (lv_at hl 0 rfl) ?_
        obtain ⟨hPc, hDc, hFc⟩ := zo_sub (wc := [_]) hP hD hS hA [0] rfl rfl
        refine zcall (st1 := [.int 0]) (va_runV (As := [.int 2]) (rest := []) ⟨hx, hb, hml, hown, hts⟩ (k_M_no l dC dI cI cZ cF H.size k0 a I0 J0 2 (by decide)) (csV_198 hts rfl rfl ⟨Nat.le_of_ble_eq_true rfl, Nat.le_of_ble_eq_true rfl⟩) (zPV2 (q0 := 0) (ci := 9) hPc hDc hK hXN rfl rfl) rfl rfl hl.1 rfl (lv_room (Nat.le_of_ble_eq_true rfl)) dX11_square_44 ⟨Nat.le_of_ble_eq_true rfl, Nat.le_of_ble_eq_true rfl⟩) hS hFc hFc rfl (fun t H locs ht hB hk1 hS => ?_)
        obtain ⟨hP1, hD1⟩ := hB
        rw [ht] at hP1
        obtain ⟨hP, hD⟩ := zn (W2 := [(om k0 a (upd (upd I0 14 2) 15 (I0 15)) J0), _, _, _]) hP hD hk1 hFc hP1 hD1 [0] [false, true, true, true] [false, true, true, true] [0] (by decide +kernel) rfl rfl rfl rfl rfl
        clear hk1 hPc hDc hFc hP1 hD1 ht
        obtain ⟨hP9, hD9⟩ := zu_sub (wc := [_, _, _, _]) hP hD [true, true, true, true] rfl rfl
        rw [hQ9]
        exact W.zret (ty := .boolean) (v := 0) hx hb hr (rfl) (fun t ht hW => ⟨⟨rfl, 2, by rw [ht]; exact hP9, hD9⟩, hS.F ht⟩) hS.2.2 dX11_square_47
set_option maxHeartbeats 4000000 in
set_option maxRecDepth 100000 in
theorem k_M_shift_r (l : Launch) (dC : Nat → ClassId) (dI : Nat → Nat → Nat) (cI cZ cF : ClassId) (sz : Nat) (k0 : Nat) (a : Nat → Nat) (I0 : Nat → Int32) (J0 : Nat → Int64) (f : Nat) (ft : Nat) (n : Nat) (kv : Int32) (dx : Int32) (dy : Int32) (rv : Int32) (st : Nat → Int32) (tn : Nat → Int32) (mn : Nat → Int32) (hft : I0 0 = nI ft) (h200 : ft ≤ 200) (hf_t : f < ft) (hm_f : mn f = nI n) (hn_f : n ≤ 40) (hbad : ¬ (((tn f).toInt = 0 ∧ 0 ≤ kv.toInt ∧ kv.toInt < ((n : Nat) : Int)) ∧ (st f).toInt = 1 ∧ ¬ (¬ ((-200 ≤ dx.toInt ∧ dx.toInt ≤ 200) ∧ (-200 ≤ dy.toInt ∧ dy.toInt ≤ 200) ∧ (0 ≤ rv.toInt ∧ rv.toInt ≤ 20))))) : zM l yX11_shift cX11_shift 13 (some .boolean) ({ frames := 2, cells := 0, slots := 0, locals := 42 } : Room) [.ref k0, .int (nI f), .int kv, .int dx, .int dy, .int rv] (dC, dI) (zTy cI cZ cF) [(om k0 a I0 J0), (oa (a 5) cI 201 st), (oa (a 6) cZ 201 tn), (oa (a 11) cI 201 mn)] sz (some (.int 0)) (fun A t => ∃ (z9 : Int32), zPD (dC, dI) classes A [(om k0 a (upd (upd I0 14 z9) 15 (I0 15)) J0), (oa (a 5) cI 201 st), (oa (a 6) cZ 201 tn), (oa (a 11) cI 201 mn)] t.heap) 0 0 := by
  refine zIn (own := "ScaleShopModel") (loc := [(0, .ref k0), (1, .int (nI f)), (2, .int kv), (3, .int dx), (4, .int dy), (5, .int rv)]) rfl rfl rfl rfl (fun p e s m below meth c hx hb hr hts hown hlocks hml hnm9 A hA hS hP hD hK hXN Q9 hQ9 ls hl => ?_)
  refine lv_aload_n hx hb dX11_shift_0 rfl (lv_at hl 0 rfl) ?_
  refine lv_iload_n hx hb dX11_shift_1 rfl (lv_at hl 1 rfl) ?_
  obtain ⟨hPc, hDc, hFc, hI1⟩ := zi_sub (wc := [_]) hP hD hS hA [0] rfl rfl
  refine zcall (st1 := [.int (pI (f < ft))]) (va_runV (As := [.int (nI f)]) (rest := []) ⟨hx, hb, hml, hown, hts⟩ (k_M_isFeature_n l dC dI cI cZ cF s.heap.size k0 a I0 J0 f ft (by first | with_reducible assumption | assumption) (by first | with_reducible assumption | omega) (by first | with_reducible assumption | omega)) (csV_178 hts rfl rfl ⟨Nat.le_of_ble_eq_true rfl, Nat.le_of_ble_eq_true rfl⟩) (zPV2 (q0 := 0) (ci := 9) hPc hDc hK hXN rfl rfl) rfl rfl hl.1 rfl (lv_room (Nat.le_of_ble_eq_true rfl)) dX11_shift_2 ⟨Nat.le_of_ble_eq_true rfl, Nat.le_of_ble_eq_true rfl⟩) hS hFc hFc rfl (fun t H locs ht hB hk1 hS => ?_)
  obtain ⟨hP1, hD1⟩ := hB
  rw [ht] at hP1
  replace hP := z0 hP hD hk1 hP1 hI1
  clear hk1 hPc hDc hFc hP1 hD1 ht hI1
  have hj_1 : W p l e ({ frames := 2, cells := 0, slots := 0, locals := 42 } : Room) s m ([.ref k0, .int (nI f), .int kv, .int dx, .int dy, .int rv] : List Value).toArray below meth c H locs 0 0 Q9 (F0 m 36 ls [.int (pI ((tn f).toInt = 0 ∧ ¬ (0 ≤ kv.toInt ∧ kv.toInt < ((n : Nat) : Int))))]) := by
    refine lv_istore (lv' := [(6, .int (pI ((tn f).toInt = 0 ∧ ¬ (0 ≤ kv.toInt ∧ kv.toInt < ((n : Nat) : Int))))), (0, .ref k0), (1, .int (nI f)), (2, .int kv), (3, .int dx), (4, .int dy), (5, .int rv)]) hx hb dX11_shift_36 hl (Nat.le_of_ble_eq_true rfl) rfl (fun ls hl => ?_)
    refine lv_aload_n hx hb dX11_shift_38 rfl (lv_at hl 1 rfl) ?_
    refine lv_iload_n hx hb dX11_shift_39 rfl (lv_at hl 2 rfl) ?_
    obtain ⟨hPc, hDc, hFc, hI1⟩ := zi_sub (wc := [_]) hP hD hS hA [0] rfl rfl
    refine zcall (st1 := [.int (pI (f < ft))]) (va_runV (As := [.int (nI f)]) (rest := []) ⟨hx, hb, hml, hown, hts⟩ (k_M_isFeature_n l dC dI cI cZ cF H.size k0 a I0 J0 f ft (by first | with_reducible assumption | assumption) (by first | with_reducible assumption | omega) (by first | with_reducible assumption | omega)) (csV_178 hts rfl rfl ⟨Nat.le_of_ble_eq_true rfl, Nat.le_of_ble_eq_true rfl⟩) (zPV2 (q0 := 0) (ci := 9) hPc hDc hK hXN rfl rfl) rfl rfl hl.1 rfl (lv_room (Nat.le_of_ble_eq_true rfl)) dX11_shift_40 ⟨Nat.le_of_ble_eq_true rfl, Nat.le_of_ble_eq_true rfl⟩) hS hFc hFc rfl (fun t H locs ht hB hk1 hS => ?_)
    obtain ⟨hP1, hD1⟩ := hB
    rw [ht] at hP1
    replace hP := z0 hP hD hk1 hP1 hI1
    clear hk1 hPc hDc hFc hP1 hD1 ht hI1
    refine lv_if_eq (tgt := 51) hx hb dX11_shift_43 rfl (fun c_2 => ?_) (fun c_2 => ?_)
    · have c_2 : ¬ (f < ft) := zp_0 c_2
      exfalso; omega
    · have c_2 : f < ft := zp_1 c_2
      refine lv_iload hx hb dX11_shift_46 (lv_at hl 0 rfl) ?_
      refine lv_if_eq (tgt := 55) hx hb dX11_shift_48 rfl (fun c_3 => ?_) (fun c_3 => ?_)
      · have c_3 : ¬ ((tn f).toInt = 0 ∧ ¬ (0 ≤ kv.toInt ∧ kv.toInt < ((n : Nat) : Int))) := zp_0 c_3
        refine lv_aload_n hx hb dX11_shift_55 rfl (lv_at hl 1 rfl) ?_
        refine va_get (D := (dC, dI)) (ci := 9) (v := .ref (a 5)) (C := RX11) (T := TX11) (N := 55) hx hb hts inX11 hown hK hP 0 rfl rfl 5 (Nat.le_of_ble_eq_true rfl) (hts _ mw_1164) (fun _ h9 => h9) rfl dX11_shift_56 ?_
        refine lv_iload_n hx hb dX11_shift_59 rfl (lv_at hl 2 rfl) ?_
        have b9_4 : f < 201 := by omega
        refine z_iald hx hb hK hP 1 0 rfl rfl (e := f) rfl b9_4 (Nat.le_of_ble_eq_true rfl) dX11_shift_60 ?_
        refine lv_iconst (v := 1) hx hb dX11_shift_61 rfl ?_
        refine lv_icmp_eq (tgt := 69) hx hb dX11_shift_62 rfl (fun c_5 => ?_) (fun c_5 => ?_)
        · have c_5 : (st f).toInt = 1 := zc_eq rfl rfl c_5
          refine lv_iconst (v := 0) hx hb dX11_shift_69 rfl ?_
          refine lv_istore (lv' := [(7, .int 0), (6, .int (pI ((tn f).toInt = 0 ∧ ¬ (0 ≤ kv.toInt ∧ kv.toInt < ((n : Nat) : Int))))), (0, .ref k0), (1, .int (nI f)), (2, .int kv), (3, .int dx), (4, .int dy), (5, .int rv)]) hx hb dX11_shift_70 hl (Nat.le_of_ble_eq_true rfl) rfl (fun ls hl => ?_)
          have hj_6 : W p l e ({ frames := 2, cells := 0, slots := 0, locals := 42 } : Room) s m ([.ref k0, .int (nI f), .int kv, .int dx, .int dy, .int rv] : List Value).toArray below meth c H locs 0 0 Q9 (F0 m 119 ls [.int (pI (¬ ((-200 ≤ dx.toInt ∧ dx.toInt ≤ 200) ∧ (-200 ≤ dy.toInt ∧ dy.toInt ≤ 200) ∧ (0 ≤ rv.toInt ∧ rv.toInt ≤ 20))))]) := by
            refine lv_istore (lv' := [(8, .int (pI (¬ ((-200 ≤ dx.toInt ∧ dx.toInt ≤ 200) ∧ (-200 ≤ dy.toInt ∧ dy.toInt ≤ 200) ∧ (0 ≤ rv.toInt ∧ rv.toInt ≤ 20))))), (7, .int 0), (6, .int (pI ((tn f).toInt = 0 ∧ ¬ (0 ≤ kv.toInt ∧ kv.toInt < ((n : Nat) : Int))))), (0, .ref k0), (1, .int (nI f)), (2, .int kv), (3, .int dx), (4, .int dy), (5, .int rv)]) hx hb dX11_shift_119 hl (Nat.le_of_ble_eq_true rfl) rfl (fun ls hl => ?_)
            refine lv_iload hx hb dX11_shift_121 (lv_at hl 1 rfl) ?_
            refine lv_if_le (tgt := 131) hx hb dX11_shift_123 rfl (fun c_7 => ?_) (fun c_7 => ?_)
            · refine lv_iload hx hb dX11_shift_131 (lv_at hl 0 rfl) ?_
              refine lv_if_eq (tgt := 140) hx hb dX11_shift_133 rfl (fun c_8 => ?_) (fun c_8 => ?_)
              · have c_8 : ¬ (¬ ((-200 ≤ dx.toInt ∧ dx.toInt ≤ 200) ∧ (-200 ≤ dy.toInt ∧ dy.toInt ≤ 200) ∧ (0 ≤ rv.toInt ∧ rv.toInt ≤ 20))) := zp_0 c_8
                refine lv_aload_n hx hb dX11_shift_140 rfl (lv_at hl 3 rfl) ?_
                refine va_get (D := (dC, dI)) (ci := 9) (v := .ref (a 6)) (C := RX11) (T := TX11) (N := 55) hx hb hts inX11 hown hK hP 0 rfl rfl 6 (Nat.le_of_ble_eq_true rfl) (hts _ mw_1165) (fun _ h9 => h9) rfl dX11_shift_141 ?_
                refine lv_iload_n hx hb dX11_shift_144 rfl (lv_at hl 4 rfl) ?_
                refine z_zald hx hb hK hP 2 1 rfl rfl (e := f) rfl b9_4 (Nat.le_of_ble_eq_true rfl) dX11_shift_145 ?_
                refine lv_if_eq (tgt := 153) hx hb dX11_shift_146 rfl (fun c_9 => ?_) (fun c_9 => ?_)
                · have c_9 : (tn f).toInt = 0 := zc_eq rfl rfl c_9
                  refine lv_iconst (v := 0) hx hb dX11_shift_153 rfl ?_
                  refine lv_istore (lv' := [(7, .int 0), (8, .int (pI (¬ ((-200 ≤ dx.toInt ∧ dx.toInt ≤ 200) ∧ (-200 ≤ dy.toInt ∧ dy.toInt ≤ 200) ∧ (0 ≤ rv.toInt ∧ rv.toInt ≤ 20))))), (6, .int (pI ((tn f).toInt = 0 ∧ ¬ (0 ≤ kv.toInt ∧ kv.toInt < ((n : Nat) : Int))))), (0, .ref k0), (1, .int (nI f)), (2, .int kv), (3, .int dx), (4, .int dy), (5, .int rv)]) hx hb dX11_shift_154 hl (Nat.le_of_ble_eq_true rfl) rfl (fun ls hl => ?_)
                  refine lv_iload hx hb dX11_shift_156 (lv_at hl 0 rfl) ?_
                  refine lv_if_le (tgt := 168) hx hb dX11_shift_158 rfl (fun c_10 => ?_) (fun c_10 => ?_)
                  · exfalso; omega
                  · exact absurd (by decide) c_10
                · have c_9 : ¬ (tn f).toInt = 0 := zc_ne rfl rfl c_9
                  refine lv_iconst (v := 5) hx hb dX11_shift_149 rfl ?_
                  refine lv_goto (tgt := 154) hx hb dX11_shift_150 rfl ?_
                  refine lv_istore (lv' := [(7, .int 5), (8, .int (pI (¬ ((-200 ≤ dx.toInt ∧ dx.toInt ≤ 200) ∧ (-200 ≤ dy.toInt ∧ dy.toInt ≤ 200) ∧ (0 ≤ rv.toInt ∧ rv.toInt ≤ 20))))), (6, .int (pI ((tn f).toInt = 0 ∧ ¬ (0 ≤ kv.toInt ∧ kv.toInt < ((n : Nat) : Int))))), (0, .ref k0), (1, .int (nI f)), (2, .int kv), (3, .int dx), (4, .int dy), (5, .int rv)]) hx hb dX11_shift_154 hl (Nat.le_of_ble_eq_true rfl) rfl (fun ls hl => ?_)
                  refine lv_iload hx hb dX11_shift_156 (lv_at hl 0 rfl) ?_
                  refine lv_if_le (tgt := 168) hx hb dX11_shift_158 rfl (fun c_11 => ?_) (fun c_11 => ?_)
                  · exact absurd c_11 (by decide)
                  · refine lv_aload_n hx hb dX11_shift_161 rfl (lv_at hl 3 rfl) ?_
                    refine lv_iload hx hb dX11_shift_162 (lv_at hl 0 rfl) ?_
                    obtain ⟨hPc, hDc, hFc⟩ := zo_sub (wc := [_]) hP hD hS hA [0] rfl rfl
                    refine zcall (st1 := [.int 0]) (va_runV (As := [.int 5]) (rest := []) ⟨hx, hb, hml, hown, hts⟩ (k_M_no l dC dI cI cZ cF H.size k0 a I0 J0 5 (by decide)) (csV_198 hts rfl rfl ⟨Nat.le_of_ble_eq_true rfl, Nat.le_of_ble_eq_true rfl⟩) (zPV2 (q0 := 0) (ci := 9) hPc hDc hK hXN rfl rfl) rfl rfl hl.1 rfl (lv_room (Nat.le_of_ble_eq_true rfl)) dX11_shift_164 ⟨Nat.le_of_ble_eq_true rfl, Nat.le_of_ble_eq_true rfl⟩) hS hFc hFc rfl (fun t H locs ht hB hk1 hS => ?_)
                    obtain ⟨hP1, hD1⟩ := hB
                    rw [ht] at hP1
                    obtain ⟨hP, hD⟩ := zn (W2 := [(om k0 a (upd (upd I0 14 5) 15 (I0 15)) J0), _, _, _]) hP hD hk1 hFc hP1 hD1 [0] [false, true, true, true] [false, true, true, true] [0] (by decide +kernel) rfl rfl rfl rfl rfl
                    clear hk1 hPc hDc hFc hP1 hD1 ht
                    obtain ⟨hP9, hD9⟩ := zu_sub (wc := [_, _, _, _]) hP hD [true, true, true, true] rfl rfl
                    rw [hQ9]
                    exact W.zret (ty := .boolean) (v := 0) hx hb hr (rfl) (fun t ht hW => ⟨⟨rfl, 5, by rw [ht]; exact hP9, hD9⟩, hS.F ht⟩) hS.2.2 dX11_shift_167
              · have c_8 : ¬ ((-200 ≤ dx.toInt ∧ dx.toInt ≤ 200) ∧ (-200 ≤ dy.toInt ∧ dy.toInt ≤ 200) ∧ (0 ≤ rv.toInt ∧ rv.toInt ≤ 20)) := zp_1 c_8
                refine lv_iconst (v := 4) hx hb dX11_shift_136 rfl ?_
                refine lv_goto (tgt := 154) hx hb dX11_shift_137 rfl ?_
                refine lv_istore (lv' := [(7, .int 4), (8, .int (pI (¬ ((-200 ≤ dx.toInt ∧ dx.toInt ≤ 200) ∧ (-200 ≤ dy.toInt ∧ dy.toInt ≤ 200) ∧ (0 ≤ rv.toInt ∧ rv.toInt ≤ 20))))), (6, .int (pI ((tn f).toInt = 0 ∧ ¬ (0 ≤ kv.toInt ∧ kv.toInt < ((n : Nat) : Int))))), (0, .ref k0), (1, .int (nI f)), (2, .int kv), (3, .int dx), (4, .int dy), (5, .int rv)]) hx hb dX11_shift_154 hl (Nat.le_of_ble_eq_true rfl) rfl (fun ls hl => ?_)
                refine lv_iload hx hb dX11_shift_156 (lv_at hl 0 rfl) ?_
                refine lv_if_le (tgt := 168) hx hb dX11_shift_158 rfl (fun c_12 => ?_) (fun c_12 => ?_)
                · exact absurd c_12 (by decide)
                · refine lv_aload_n hx hb dX11_shift_161 rfl (lv_at hl 3 rfl) ?_
                  refine lv_iload hx hb dX11_shift_162 (lv_at hl 0 rfl) ?_
                  obtain ⟨hPc, hDc, hFc⟩ := zo_sub (wc := [_]) hP hD hS hA [0] rfl rfl
                  refine zcall (st1 := [.int 0]) (va_runV (As := [.int 4]) (rest := []) ⟨hx, hb, hml, hown, hts⟩ (k_M_no l dC dI cI cZ cF H.size k0 a I0 J0 4 (by decide)) (csV_198 hts rfl rfl ⟨Nat.le_of_ble_eq_true rfl, Nat.le_of_ble_eq_true rfl⟩) (zPV2 (q0 := 0) (ci := 9) hPc hDc hK hXN rfl rfl) rfl rfl hl.1 rfl (lv_room (Nat.le_of_ble_eq_true rfl)) dX11_shift_164 ⟨Nat.le_of_ble_eq_true rfl, Nat.le_of_ble_eq_true rfl⟩) hS hFc hFc rfl (fun t H locs ht hB hk1 hS => ?_)
                  obtain ⟨hP1, hD1⟩ := hB
                  rw [ht] at hP1
                  obtain ⟨hP, hD⟩ := zn (W2 := [(om k0 a (upd (upd I0 14 4) 15 (I0 15)) J0), _, _, _]) hP hD hk1 hFc hP1 hD1 [0] [false, true, true, true] [false, true, true, true] [0] (by decide +kernel) rfl rfl rfl rfl rfl
                  clear hk1 hPc hDc hFc hP1 hD1 ht
                  obtain ⟨hP9, hD9⟩ := zu_sub (wc := [_, _, _, _]) hP hD [true, true, true, true] rfl rfl
                  rw [hQ9]
                  exact W.zret (ty := .boolean) (v := 0) hx hb hr (rfl) (fun t ht hW => ⟨⟨rfl, 4, by rw [ht]; exact hP9, hD9⟩, hS.F ht⟩) hS.2.2 dX11_shift_167
            · exact absurd (by decide) c_7
          refine lv_iload_n hx hb dX11_shift_72 rfl (lv_at hl 5 rfl) ?_
          refine lv_sipush (v := (-200)) hx hb dX11_shift_73 rfl ?_
          refine lv_icmp_lt (tgt := 114) hx hb dX11_shift_76 rfl (fun c_13 => ?_) (fun c_13 => ?_)
          · have c_13 : dx.toInt < (-200) := zc_lt rfl rfl c_13
            refine lv_iconst (v := 1) hx hb dX11_shift_114 rfl ?_
            refine lv_goto (tgt := 119) hx hb dX11_shift_115 rfl ?_
            refine zz_i (v := pI (¬ ((-200 ≤ dx.toInt ∧ dx.toInt ≤ 200) ∧ (-200 ≤ dy.toInt ∧ dy.toInt ≤ 200) ∧ (0 ≤ rv.toInt ∧ rv.toInt ≤ 20)))) (by first | exact (zp_t (by omega)).symm | exact (zp_f (by omega)).symm) ?_
            exact hj_6 
          · have c_13 : (-200) ≤ dx.toInt := zc_nlt rfl rfl c_13
            refine lv_iload_n hx hb dX11_shift_79 rfl (lv_at hl 5 rfl) ?_
            refine lv_sipush (v := 200) hx hb dX11_shift_80 rfl ?_
            refine lv_icmp_gt (tgt := 114) hx hb dX11_shift_83 rfl (fun c_14 => ?_) (fun c_14 => ?_)
            · have c_14 : 200 < dx.toInt := zc_lt rfl rfl c_14
              refine lv_iconst (v := 1) hx hb dX11_shift_114 rfl ?_
              refine lv_goto (tgt := 119) hx hb dX11_shift_115 rfl ?_
              refine zz_i (v := pI (¬ ((-200 ≤ dx.toInt ∧ dx.toInt ≤ 200) ∧ (-200 ≤ dy.toInt ∧ dy.toInt ≤ 200) ∧ (0 ≤ rv.toInt ∧ rv.toInt ≤ 20)))) (by first | exact (zp_t (by omega)).symm | exact (zp_f (by omega)).symm) ?_
              exact hj_6 
            · have c_14 : dx.toInt ≤ 200 := zc_nlt rfl rfl c_14
              refine lv_iload hx hb dX11_shift_86 (lv_at hl 6 rfl) ?_
              refine lv_sipush (v := (-200)) hx hb dX11_shift_88 rfl ?_
              refine lv_icmp_lt (tgt := 114) hx hb dX11_shift_91 rfl (fun c_15 => ?_) (fun c_15 => ?_)
              · have c_15 : dy.toInt < (-200) := zc_lt rfl rfl c_15
                refine lv_iconst (v := 1) hx hb dX11_shift_114 rfl ?_
                refine lv_goto (tgt := 119) hx hb dX11_shift_115 rfl ?_
                refine zz_i (v := pI (¬ ((-200 ≤ dx.toInt ∧ dx.toInt ≤ 200) ∧ (-200 ≤ dy.toInt ∧ dy.toInt ≤ 200) ∧ (0 ≤ rv.toInt ∧ rv.toInt ≤ 20)))) (by first | exact (zp_t (by omega)).symm | exact (zp_f (by omega)).symm) ?_
                exact hj_6 
              · have c_15 : (-200) ≤ dy.toInt := zc_nlt rfl rfl c_15
                refine lv_iload hx hb dX11_shift_94 (lv_at hl 6 rfl) ?_
                refine lv_sipush (v := 200) hx hb dX11_shift_96 rfl ?_
                refine lv_icmp_gt (tgt := 114) hx hb dX11_shift_99 rfl (fun c_16 => ?_) (fun c_16 => ?_)
                · have c_16 : 200 < dy.toInt := zc_lt rfl rfl c_16
                  refine lv_iconst (v := 1) hx hb dX11_shift_114 rfl ?_
                  refine lv_goto (tgt := 119) hx hb dX11_shift_115 rfl ?_
                  refine zz_i (v := pI (¬ ((-200 ≤ dx.toInt ∧ dx.toInt ≤ 200) ∧ (-200 ≤ dy.toInt ∧ dy.toInt ≤ 200) ∧ (0 ≤ rv.toInt ∧ rv.toInt ≤ 20)))) (by first | exact (zp_t (by omega)).symm | exact (zp_f (by omega)).symm) ?_
                  exact hj_6 
                · have c_16 : dy.toInt ≤ 200 := zc_nlt rfl rfl c_16
                  refine lv_iload hx hb dX11_shift_102 (lv_at hl 7 rfl) ?_
                  refine lv_if_lt (tgt := 114) hx hb dX11_shift_104 rfl (fun c_17 => ?_) (fun c_17 => ?_)
                  · have c_17 : rv.toInt < 0 := zc_lt rfl rfl c_17
                    refine lv_iconst (v := 1) hx hb dX11_shift_114 rfl ?_
                    refine lv_goto (tgt := 119) hx hb dX11_shift_115 rfl ?_
                    refine zz_i (v := pI (¬ ((-200 ≤ dx.toInt ∧ dx.toInt ≤ 200) ∧ (-200 ≤ dy.toInt ∧ dy.toInt ≤ 200) ∧ (0 ≤ rv.toInt ∧ rv.toInt ≤ 20)))) (by first | exact (zp_t (by omega)).symm | exact (zp_f (by omega)).symm) ?_
                    exact hj_6 
                  · have c_17 : 0 ≤ rv.toInt := zc_nlt rfl rfl c_17
                    refine lv_iload hx hb dX11_shift_107 (lv_at hl 7 rfl) ?_
                    refine lv_bipush (v := 20) hx hb dX11_shift_109 rfl ?_
                    refine lv_icmp_le (tgt := 118) hx hb dX11_shift_111 rfl (fun c_18 => ?_) (fun c_18 => ?_)
                    · have c_18 : rv.toInt ≤ 20 := zc_le rfl rfl c_18
                      refine lv_iconst (v := 0) hx hb dX11_shift_118 rfl ?_
                      refine zz_i (v := pI (¬ ((-200 ≤ dx.toInt ∧ dx.toInt ≤ 200) ∧ (-200 ≤ dy.toInt ∧ dy.toInt ≤ 200) ∧ (0 ≤ rv.toInt ∧ rv.toInt ≤ 20)))) (by first | exact (zp_t (by omega)).symm | exact (zp_f (by omega)).symm) ?_
                      exact hj_6 
                    · have c_18 : 20 < rv.toInt := zc_nle rfl rfl c_18
                      refine lv_iconst (v := 1) hx hb dX11_shift_114 rfl ?_
                      refine lv_goto (tgt := 119) hx hb dX11_shift_115 rfl ?_
                      refine zz_i (v := pI (¬ ((-200 ≤ dx.toInt ∧ dx.toInt ≤ 200) ∧ (-200 ≤ dy.toInt ∧ dy.toInt ≤ 200) ∧ (0 ≤ rv.toInt ∧ rv.toInt ≤ 20)))) (by first | exact (zp_t (by omega)).symm | exact (zp_f (by omega)).symm) ?_
                      exact hj_6 
        · have c_5 : ¬ (st f).toInt = 1 := zc_ne rfl rfl c_5
          refine lv_iconst (v := 2) hx hb dX11_shift_65 rfl ?_
          refine lv_goto (tgt := 70) hx hb dX11_shift_66 rfl ?_
          refine lv_istore (lv' := [(7, .int 2), (6, .int (pI ((tn f).toInt = 0 ∧ ¬ (0 ≤ kv.toInt ∧ kv.toInt < ((n : Nat) : Int))))), (0, .ref k0), (1, .int (nI f)), (2, .int kv), (3, .int dx), (4, .int dy), (5, .int rv)]) hx hb dX11_shift_70 hl (Nat.le_of_ble_eq_true rfl) rfl (fun ls hl => ?_)
          have hj_19 : W p l e ({ frames := 2, cells := 0, slots := 0, locals := 42 } : Room) s m ([.ref k0, .int (nI f), .int kv, .int dx, .int dy, .int rv] : List Value).toArray below meth c H locs 0 0 Q9 (F0 m 119 ls [.int (pI (¬ ((-200 ≤ dx.toInt ∧ dx.toInt ≤ 200) ∧ (-200 ≤ dy.toInt ∧ dy.toInt ≤ 200) ∧ (0 ≤ rv.toInt ∧ rv.toInt ≤ 20))))]) := by
            refine lv_istore (lv' := [(8, .int (pI (¬ ((-200 ≤ dx.toInt ∧ dx.toInt ≤ 200) ∧ (-200 ≤ dy.toInt ∧ dy.toInt ≤ 200) ∧ (0 ≤ rv.toInt ∧ rv.toInt ≤ 20))))), (7, .int 2), (6, .int (pI ((tn f).toInt = 0 ∧ ¬ (0 ≤ kv.toInt ∧ kv.toInt < ((n : Nat) : Int))))), (0, .ref k0), (1, .int (nI f)), (2, .int kv), (3, .int dx), (4, .int dy), (5, .int rv)]) hx hb dX11_shift_119 hl (Nat.le_of_ble_eq_true rfl) rfl (fun ls hl => ?_)
            refine lv_iload hx hb dX11_shift_121 (lv_at hl 1 rfl) ?_
            refine lv_if_le (tgt := 131) hx hb dX11_shift_123 rfl (fun c_20 => ?_) (fun c_20 => ?_)
            · exact absurd c_20 (by decide)
            · refine lv_iload hx hb dX11_shift_126 (lv_at hl 1 rfl) ?_
              refine lv_goto (tgt := 154) hx hb dX11_shift_128 rfl ?_
              refine lv_istore (lv' := [(7, .int 2), (8, .int (pI (¬ ((-200 ≤ dx.toInt ∧ dx.toInt ≤ 200) ∧ (-200 ≤ dy.toInt ∧ dy.toInt ≤ 200) ∧ (0 ≤ rv.toInt ∧ rv.toInt ≤ 20))))), (6, .int (pI ((tn f).toInt = 0 ∧ ¬ (0 ≤ kv.toInt ∧ kv.toInt < ((n : Nat) : Int))))), (0, .ref k0), (1, .int (nI f)), (2, .int kv), (3, .int dx), (4, .int dy), (5, .int rv)]) hx hb dX11_shift_154 hl (Nat.le_of_ble_eq_true rfl) rfl (fun ls hl => ?_)
              refine lv_iload hx hb dX11_shift_156 (lv_at hl 0 rfl) ?_
              refine lv_if_le (tgt := 168) hx hb dX11_shift_158 rfl (fun c_21 => ?_) (fun c_21 => ?_)
              · exact absurd c_21 (by decide)
              · refine lv_aload_n hx hb dX11_shift_161 rfl (lv_at hl 3 rfl) ?_
                refine lv_iload hx hb dX11_shift_162 (lv_at hl 0 rfl) ?_
                obtain ⟨hPc, hDc, hFc⟩ := zo_sub (wc := [_]) hP hD hS hA [0] rfl rfl
                refine zcall (st1 := [.int 0]) (va_runV (As := [.int 2]) (rest := []) ⟨hx, hb, hml, hown, hts⟩ (k_M_no l dC dI cI cZ cF H.size k0 a I0 J0 2 (by decide)) (csV_198 hts rfl rfl ⟨Nat.le_of_ble_eq_true rfl, Nat.le_of_ble_eq_true rfl⟩) (zPV2 (q0 := 0) (ci := 9) hPc hDc hK hXN rfl rfl) rfl rfl hl.1 rfl (lv_room (Nat.le_of_ble_eq_true rfl)) dX11_shift_164 ⟨Nat.le_of_ble_eq_true rfl, Nat.le_of_ble_eq_true rfl⟩) hS hFc hFc rfl (fun t H locs ht hB hk1 hS => ?_)
                obtain ⟨hP1, hD1⟩ := hB
                rw [ht] at hP1
                obtain ⟨hP, hD⟩ := zn (W2 := [(om k0 a (upd (upd I0 14 2) 15 (I0 15)) J0), _, _, _]) hP hD hk1 hFc hP1 hD1 [0] [false, true, true, true] [false, true, true, true] [0] (by decide +kernel) rfl rfl rfl rfl rfl
                clear hk1 hPc hDc hFc hP1 hD1 ht
                obtain ⟨hP9, hD9⟩ := zu_sub (wc := [_, _, _, _]) hP hD [true, true, true, true] rfl rfl
                rw [hQ9]
                exact W.zret (ty := .boolean) (v := 0) hx hb hr (rfl) (fun t ht hW => ⟨⟨rfl, 2, by rw [ht]; exact hP9, hD9⟩, hS.F ht⟩) hS.2.2 dX11_shift_167
          refine lv_iload_n hx hb dX11_shift_72 rfl (lv_at hl 5 rfl) ?_
          refine lv_sipush (v := (-200)) hx hb dX11_shift_73 rfl ?_
          refine lv_icmp_lt (tgt := 114) hx hb dX11_shift_76 rfl (fun c_22 => ?_) (fun c_22 => ?_)
          · have c_22 : dx.toInt < (-200) := zc_lt rfl rfl c_22
            refine lv_iconst (v := 1) hx hb dX11_shift_114 rfl ?_
            refine lv_goto (tgt := 119) hx hb dX11_shift_115 rfl ?_
            refine zz_i (v := pI (¬ ((-200 ≤ dx.toInt ∧ dx.toInt ≤ 200) ∧ (-200 ≤ dy.toInt ∧ dy.toInt ≤ 200) ∧ (0 ≤ rv.toInt ∧ rv.toInt ≤ 20)))) (by first | exact (zp_t (by omega)).symm | exact (zp_f (by omega)).symm) ?_
            exact hj_19 
          · have c_22 : (-200) ≤ dx.toInt := zc_nlt rfl rfl c_22
            refine lv_iload_n hx hb dX11_shift_79 rfl (lv_at hl 5 rfl) ?_
            refine lv_sipush (v := 200) hx hb dX11_shift_80 rfl ?_
            refine lv_icmp_gt (tgt := 114) hx hb dX11_shift_83 rfl (fun c_23 => ?_) (fun c_23 => ?_)
            · have c_23 : 200 < dx.toInt := zc_lt rfl rfl c_23
              refine lv_iconst (v := 1) hx hb dX11_shift_114 rfl ?_
              refine lv_goto (tgt := 119) hx hb dX11_shift_115 rfl ?_
              refine zz_i (v := pI (¬ ((-200 ≤ dx.toInt ∧ dx.toInt ≤ 200) ∧ (-200 ≤ dy.toInt ∧ dy.toInt ≤ 200) ∧ (0 ≤ rv.toInt ∧ rv.toInt ≤ 20)))) (by first | exact (zp_t (by omega)).symm | exact (zp_f (by omega)).symm) ?_
              exact hj_19 
            · have c_23 : dx.toInt ≤ 200 := zc_nlt rfl rfl c_23
              refine lv_iload hx hb dX11_shift_86 (lv_at hl 6 rfl) ?_
              refine lv_sipush (v := (-200)) hx hb dX11_shift_88 rfl ?_
              refine lv_icmp_lt (tgt := 114) hx hb dX11_shift_91 rfl (fun c_24 => ?_) (fun c_24 => ?_)
              · have c_24 : dy.toInt < (-200) := zc_lt rfl rfl c_24
                refine lv_iconst (v := 1) hx hb dX11_shift_114 rfl ?_
                refine lv_goto (tgt := 119) hx hb dX11_shift_115 rfl ?_
                refine zz_i (v := pI (¬ ((-200 ≤ dx.toInt ∧ dx.toInt ≤ 200) ∧ (-200 ≤ dy.toInt ∧ dy.toInt ≤ 200) ∧ (0 ≤ rv.toInt ∧ rv.toInt ≤ 20)))) (by first | exact (zp_t (by omega)).symm | exact (zp_f (by omega)).symm) ?_
                exact hj_19 
              · have c_24 : (-200) ≤ dy.toInt := zc_nlt rfl rfl c_24
                refine lv_iload hx hb dX11_shift_94 (lv_at hl 6 rfl) ?_
                refine lv_sipush (v := 200) hx hb dX11_shift_96 rfl ?_
                refine lv_icmp_gt (tgt := 114) hx hb dX11_shift_99 rfl (fun c_25 => ?_) (fun c_25 => ?_)
                · have c_25 : 200 < dy.toInt := zc_lt rfl rfl c_25
                  refine lv_iconst (v := 1) hx hb dX11_shift_114 rfl ?_
                  refine lv_goto (tgt := 119) hx hb dX11_shift_115 rfl ?_
                  refine zz_i (v := pI (¬ ((-200 ≤ dx.toInt ∧ dx.toInt ≤ 200) ∧ (-200 ≤ dy.toInt ∧ dy.toInt ≤ 200) ∧ (0 ≤ rv.toInt ∧ rv.toInt ≤ 20)))) (by first | exact (zp_t (by omega)).symm | exact (zp_f (by omega)).symm) ?_
                  exact hj_19 
                · have c_25 : dy.toInt ≤ 200 := zc_nlt rfl rfl c_25
                  refine lv_iload hx hb dX11_shift_102 (lv_at hl 7 rfl) ?_
                  refine lv_if_lt (tgt := 114) hx hb dX11_shift_104 rfl (fun c_26 => ?_) (fun c_26 => ?_)
                  · have c_26 : rv.toInt < 0 := zc_lt rfl rfl c_26
                    refine lv_iconst (v := 1) hx hb dX11_shift_114 rfl ?_
                    refine lv_goto (tgt := 119) hx hb dX11_shift_115 rfl ?_
                    refine zz_i (v := pI (¬ ((-200 ≤ dx.toInt ∧ dx.toInt ≤ 200) ∧ (-200 ≤ dy.toInt ∧ dy.toInt ≤ 200) ∧ (0 ≤ rv.toInt ∧ rv.toInt ≤ 20)))) (by first | exact (zp_t (by omega)).symm | exact (zp_f (by omega)).symm) ?_
                    exact hj_19 
                  · have c_26 : 0 ≤ rv.toInt := zc_nlt rfl rfl c_26
                    refine lv_iload hx hb dX11_shift_107 (lv_at hl 7 rfl) ?_
                    refine lv_bipush (v := 20) hx hb dX11_shift_109 rfl ?_
                    refine lv_icmp_le (tgt := 118) hx hb dX11_shift_111 rfl (fun c_27 => ?_) (fun c_27 => ?_)
                    · have c_27 : rv.toInt ≤ 20 := zc_le rfl rfl c_27
                      refine lv_iconst (v := 0) hx hb dX11_shift_118 rfl ?_
                      refine zz_i (v := pI (¬ ((-200 ≤ dx.toInt ∧ dx.toInt ≤ 200) ∧ (-200 ≤ dy.toInt ∧ dy.toInt ≤ 200) ∧ (0 ≤ rv.toInt ∧ rv.toInt ≤ 20)))) (by first | exact (zp_t (by omega)).symm | exact (zp_f (by omega)).symm) ?_
                      exact hj_19 
                    · have c_27 : 20 < rv.toInt := zc_nle rfl rfl c_27
                      refine lv_iconst (v := 1) hx hb dX11_shift_114 rfl ?_
                      refine lv_goto (tgt := 119) hx hb dX11_shift_115 rfl ?_
                      refine zz_i (v := pI (¬ ((-200 ≤ dx.toInt ∧ dx.toInt ≤ 200) ∧ (-200 ≤ dy.toInt ∧ dy.toInt ≤ 200) ∧ (0 ≤ rv.toInt ∧ rv.toInt ≤ 20)))) (by first | exact (zp_t (by omega)).symm | exact (zp_f (by omega)).symm) ?_
                      exact hj_19 
      · have c_3 : (tn f).toInt = 0 ∧ ¬ (0 ≤ kv.toInt ∧ kv.toInt < ((n : Nat) : Int)) := zp_1 c_3
        refine lv_iconst (v := 1) hx hb dX11_shift_51 rfl ?_
        refine lv_goto (tgt := 70) hx hb dX11_shift_52 rfl ?_
        refine lv_istore (lv' := [(7, .int 1), (6, .int (pI ((tn f).toInt = 0 ∧ ¬ (0 ≤ kv.toInt ∧ kv.toInt < ((n : Nat) : Int))))), (0, .ref k0), (1, .int (nI f)), (2, .int kv), (3, .int dx), (4, .int dy), (5, .int rv)]) hx hb dX11_shift_70 hl (Nat.le_of_ble_eq_true rfl) rfl (fun ls hl => ?_)
        have hj_28 : W p l e ({ frames := 2, cells := 0, slots := 0, locals := 42 } : Room) s m ([.ref k0, .int (nI f), .int kv, .int dx, .int dy, .int rv] : List Value).toArray below meth c H locs 0 0 Q9 (F0 m 119 ls [.int (pI (¬ ((-200 ≤ dx.toInt ∧ dx.toInt ≤ 200) ∧ (-200 ≤ dy.toInt ∧ dy.toInt ≤ 200) ∧ (0 ≤ rv.toInt ∧ rv.toInt ≤ 20))))]) := by
          refine lv_istore (lv' := [(8, .int (pI (¬ ((-200 ≤ dx.toInt ∧ dx.toInt ≤ 200) ∧ (-200 ≤ dy.toInt ∧ dy.toInt ≤ 200) ∧ (0 ≤ rv.toInt ∧ rv.toInt ≤ 20))))), (7, .int 1), (6, .int (pI ((tn f).toInt = 0 ∧ ¬ (0 ≤ kv.toInt ∧ kv.toInt < ((n : Nat) : Int))))), (0, .ref k0), (1, .int (nI f)), (2, .int kv), (3, .int dx), (4, .int dy), (5, .int rv)]) hx hb dX11_shift_119 hl (Nat.le_of_ble_eq_true rfl) rfl (fun ls hl => ?_)
          refine lv_iload hx hb dX11_shift_121 (lv_at hl 1 rfl) ?_
          refine lv_if_le (tgt := 131) hx hb dX11_shift_123 rfl (fun c_29 => ?_) (fun c_29 => ?_)
          · exact absurd c_29 (by decide)
          · refine lv_iload hx hb dX11_shift_126 (lv_at hl 1 rfl) ?_
            refine lv_goto (tgt := 154) hx hb dX11_shift_128 rfl ?_
            refine lv_istore (lv' := [(7, .int 1), (8, .int (pI (¬ ((-200 ≤ dx.toInt ∧ dx.toInt ≤ 200) ∧ (-200 ≤ dy.toInt ∧ dy.toInt ≤ 200) ∧ (0 ≤ rv.toInt ∧ rv.toInt ≤ 20))))), (6, .int (pI ((tn f).toInt = 0 ∧ ¬ (0 ≤ kv.toInt ∧ kv.toInt < ((n : Nat) : Int))))), (0, .ref k0), (1, .int (nI f)), (2, .int kv), (3, .int dx), (4, .int dy), (5, .int rv)]) hx hb dX11_shift_154 hl (Nat.le_of_ble_eq_true rfl) rfl (fun ls hl => ?_)
            refine lv_iload hx hb dX11_shift_156 (lv_at hl 0 rfl) ?_
            refine lv_if_le (tgt := 168) hx hb dX11_shift_158 rfl (fun c_30 => ?_) (fun c_30 => ?_)
            · exact absurd c_30 (by decide)
            · refine lv_aload_n hx hb dX11_shift_161 rfl (lv_at hl 3 rfl) ?_
              refine lv_iload hx hb dX11_shift_162 (lv_at hl 0 rfl) ?_
              obtain ⟨hPc, hDc, hFc⟩ := zo_sub (wc := [_]) hP hD hS hA [0] rfl rfl
              refine zcall (st1 := [.int 0]) (va_runV (As := [.int 1]) (rest := []) ⟨hx, hb, hml, hown, hts⟩ (k_M_no l dC dI cI cZ cF H.size k0 a I0 J0 1 (by decide)) (csV_198 hts rfl rfl ⟨Nat.le_of_ble_eq_true rfl, Nat.le_of_ble_eq_true rfl⟩) (zPV2 (q0 := 0) (ci := 9) hPc hDc hK hXN rfl rfl) rfl rfl hl.1 rfl (lv_room (Nat.le_of_ble_eq_true rfl)) dX11_shift_164 ⟨Nat.le_of_ble_eq_true rfl, Nat.le_of_ble_eq_true rfl⟩) hS hFc hFc rfl (fun t H locs ht hB hk1 hS => ?_)
              obtain ⟨hP1, hD1⟩ := hB
              rw [ht] at hP1
              obtain ⟨hP, hD⟩ := zn (W2 := [(om k0 a (upd (upd I0 14 1) 15 (I0 15)) J0), _, _, _]) hP hD hk1 hFc hP1 hD1 [0] [false, true, true, true] [false, true, true, true] [0] (by decide +kernel) rfl rfl rfl rfl rfl
              clear hk1 hPc hDc hFc hP1 hD1 ht
              obtain ⟨hP9, hD9⟩ := zu_sub (wc := [_, _, _, _]) hP hD [true, true, true, true] rfl rfl
              rw [hQ9]
              exact W.zret (ty := .boolean) (v := 0) hx hb hr (rfl) (fun t ht hW => ⟨⟨rfl, 1, by rw [ht]; exact hP9, hD9⟩, hS.F ht⟩) hS.2.2 dX11_shift_167
        refine lv_iload_n hx hb dX11_shift_72 rfl (lv_at hl 5 rfl) ?_
        refine lv_sipush (v := (-200)) hx hb dX11_shift_73 rfl ?_
        refine lv_icmp_lt (tgt := 114) hx hb dX11_shift_76 rfl (fun c_31 => ?_) (fun c_31 => ?_)
        · have c_31 : dx.toInt < (-200) := zc_lt rfl rfl c_31
          refine lv_iconst (v := 1) hx hb dX11_shift_114 rfl ?_
          refine lv_goto (tgt := 119) hx hb dX11_shift_115 rfl ?_
          refine zz_i (v := pI (¬ ((-200 ≤ dx.toInt ∧ dx.toInt ≤ 200) ∧ (-200 ≤ dy.toInt ∧ dy.toInt ≤ 200) ∧ (0 ≤ rv.toInt ∧ rv.toInt ≤ 20)))) (by first | exact (zp_t (by omega)).symm | exact (zp_f (by omega)).symm) ?_
          exact hj_28 
        · have c_31 : (-200) ≤ dx.toInt := zc_nlt rfl rfl c_31
          refine lv_iload_n hx hb dX11_shift_79 rfl (lv_at hl 5 rfl) ?_
          refine lv_sipush (v := 200) hx hb dX11_shift_80 rfl ?_
          refine lv_icmp_gt (tgt := 114) hx hb dX11_shift_83 rfl (fun c_32 => ?_) (fun c_32 => ?_)
          · have c_32 : 200 < dx.toInt := zc_lt rfl rfl c_32
            refine lv_iconst (v := 1) hx hb dX11_shift_114 rfl ?_
            refine lv_goto (tgt := 119) hx hb dX11_shift_115 rfl ?_
            refine zz_i (v := pI (¬ ((-200 ≤ dx.toInt ∧ dx.toInt ≤ 200) ∧ (-200 ≤ dy.toInt ∧ dy.toInt ≤ 200) ∧ (0 ≤ rv.toInt ∧ rv.toInt ≤ 20)))) (by first | exact (zp_t (by omega)).symm | exact (zp_f (by omega)).symm) ?_
            exact hj_28 
          · have c_32 : dx.toInt ≤ 200 := zc_nlt rfl rfl c_32
            refine lv_iload hx hb dX11_shift_86 (lv_at hl 6 rfl) ?_
            refine lv_sipush (v := (-200)) hx hb dX11_shift_88 rfl ?_
            refine lv_icmp_lt (tgt := 114) hx hb dX11_shift_91 rfl (fun c_33 => ?_) (fun c_33 => ?_)
            · have c_33 : dy.toInt < (-200) := zc_lt rfl rfl c_33
              refine lv_iconst (v := 1) hx hb dX11_shift_114 rfl ?_
              refine lv_goto (tgt := 119) hx hb dX11_shift_115 rfl ?_
              refine zz_i (v := pI (¬ ((-200 ≤ dx.toInt ∧ dx.toInt ≤ 200) ∧ (-200 ≤ dy.toInt ∧ dy.toInt ≤ 200) ∧ (0 ≤ rv.toInt ∧ rv.toInt ≤ 20)))) (by first | exact (zp_t (by omega)).symm | exact (zp_f (by omega)).symm) ?_
              exact hj_28 
            · have c_33 : (-200) ≤ dy.toInt := zc_nlt rfl rfl c_33
              refine lv_iload hx hb dX11_shift_94 (lv_at hl 6 rfl) ?_
              refine lv_sipush (v := 200) hx hb dX11_shift_96 rfl ?_
              refine lv_icmp_gt (tgt := 114) hx hb dX11_shift_99 rfl (fun c_34 => ?_) (fun c_34 => ?_)
              · have c_34 : 200 < dy.toInt := zc_lt rfl rfl c_34
                refine lv_iconst (v := 1) hx hb dX11_shift_114 rfl ?_
                refine lv_goto (tgt := 119) hx hb dX11_shift_115 rfl ?_
                refine zz_i (v := pI (¬ ((-200 ≤ dx.toInt ∧ dx.toInt ≤ 200) ∧ (-200 ≤ dy.toInt ∧ dy.toInt ≤ 200) ∧ (0 ≤ rv.toInt ∧ rv.toInt ≤ 20)))) (by first | exact (zp_t (by omega)).symm | exact (zp_f (by omega)).symm) ?_
                exact hj_28 
              · have c_34 : dy.toInt ≤ 200 := zc_nlt rfl rfl c_34
                refine lv_iload hx hb dX11_shift_102 (lv_at hl 7 rfl) ?_
                refine lv_if_lt (tgt := 114) hx hb dX11_shift_104 rfl (fun c_35 => ?_) (fun c_35 => ?_)
                · have c_35 : rv.toInt < 0 := zc_lt rfl rfl c_35
                  refine lv_iconst (v := 1) hx hb dX11_shift_114 rfl ?_
                  refine lv_goto (tgt := 119) hx hb dX11_shift_115 rfl ?_
                  refine zz_i (v := pI (¬ ((-200 ≤ dx.toInt ∧ dx.toInt ≤ 200) ∧ (-200 ≤ dy.toInt ∧ dy.toInt ≤ 200) ∧ (0 ≤ rv.toInt ∧ rv.toInt ≤ 20)))) (by first | exact (zp_t (by omega)).symm | exact (zp_f (by omega)).symm) ?_
                  exact hj_28 
                · have c_35 : 0 ≤ rv.toInt := zc_nlt rfl rfl c_35
                  refine lv_iload hx hb dX11_shift_107 (lv_at hl 7 rfl) ?_
                  refine lv_bipush (v := 20) hx hb dX11_shift_109 rfl ?_
                  refine lv_icmp_le (tgt := 118) hx hb dX11_shift_111 rfl (fun c_36 => ?_) (fun c_36 => ?_)
                  · have c_36 : rv.toInt ≤ 20 := zc_le rfl rfl c_36
                    refine lv_iconst (v := 0) hx hb dX11_shift_118 rfl ?_
                    refine zz_i (v := pI (¬ ((-200 ≤ dx.toInt ∧ dx.toInt ≤ 200) ∧ (-200 ≤ dy.toInt ∧ dy.toInt ≤ 200) ∧ (0 ≤ rv.toInt ∧ rv.toInt ≤ 20)))) (by first | exact (zp_t (by omega)).symm | exact (zp_f (by omega)).symm) ?_
                    exact hj_28 
                  · have c_36 : 20 < rv.toInt := zc_nle rfl rfl c_36
                    refine lv_iconst (v := 1) hx hb dX11_shift_114 rfl ?_
                    refine lv_goto (tgt := 119) hx hb dX11_shift_115 rfl ?_
                    refine zz_i (v := pI (¬ ((-200 ≤ dx.toInt ∧ dx.toInt ≤ 200) ∧ (-200 ≤ dy.toInt ∧ dy.toInt ≤ 200) ∧ (0 ≤ rv.toInt ∧ rv.toInt ≤ 20)))) (by first | exact (zp_t (by omega)).symm | exact (zp_f (by omega)).symm) ?_
                    exact hj_28 
  refine lv_if_eq (tgt := 35) hx hb dX11_shift_5 rfl (fun c_37 => ?_) (fun c_37 => ?_)
  · have c_37 : ¬ (f < ft) := zp_0 c_37
    exfalso; omega
  · have c_37 : f < ft := zp_1 c_37
    refine lv_aload_n hx hb dX11_shift_8 rfl (lv_at hl 0 rfl) ?_
    refine va_get (D := (dC, dI)) (ci := 9) (v := .ref (a 6)) (C := RX11) (T := TX11) (N := 55) hx hb hts inX11 hown hK hP 0 rfl rfl 6 (Nat.le_of_ble_eq_true rfl) (hts _ mw_1165) (fun _ h9 => h9) rfl dX11_shift_9 ?_
    refine lv_iload_n hx hb dX11_shift_12 rfl (lv_at hl 1 rfl) ?_
    have b9_38 : f < 201 := by omega
    refine z_zald hx hb hK hP 2 1 rfl rfl (e := f) rfl b9_38 (Nat.le_of_ble_eq_true rfl) dX11_shift_13 ?_
    refine lv_if_ne (tgt := 35) hx hb dX11_shift_14 rfl (fun c_39 => ?_) (fun c_39 => ?_)
    · have c_39 : ¬ (tn f).toInt = 0 := zc_ne rfl rfl c_39
      refine lv_iconst (v := 0) hx hb dX11_shift_35 rfl ?_
      refine zz_i (v := pI ((tn f).toInt = 0 ∧ ¬ (0 ≤ kv.toInt ∧ kv.toInt < ((n : Nat) : Int)))) (by first | exact (zp_t (by omega)).symm | exact (zp_f (by omega)).symm) ?_
      exact hj_1 
    · have c_39 : (tn f).toInt = 0 := zc_eq rfl rfl c_39
      refine lv_iload_n hx hb dX11_shift_17 rfl (lv_at hl 2 rfl) ?_
      refine lv_if_lt (tgt := 31) hx hb dX11_shift_18 rfl (fun c_40 => ?_) (fun c_40 => ?_)
      · have c_40 : kv.toInt < 0 := zc_lt rfl rfl c_40
        refine lv_iconst (v := 1) hx hb dX11_shift_31 rfl ?_
        refine lv_goto (tgt := 36) hx hb dX11_shift_32 rfl ?_
        refine zz_i (v := pI ((tn f).toInt = 0 ∧ ¬ (0 ≤ kv.toInt ∧ kv.toInt < ((n : Nat) : Int)))) (by first | exact (zp_t (by omega)).symm | exact (zp_f (by omega)).symm) ?_
        exact hj_1 
      · have c_40 : 0 ≤ kv.toInt := zc_nlt rfl rfl c_40
        refine lv_iload_n hx hb dX11_shift_21 rfl (lv_at hl 2 rfl) ?_
        refine lv_aload_n hx hb dX11_shift_22 rfl (lv_at hl 0 rfl) ?_
        refine va_get (D := (dC, dI)) (ci := 9) (v := .ref (a 11)) (C := RX11) (T := TX11) (N := 55) hx hb hts inX11 hown hK hP 0 rfl rfl 11 (Nat.le_of_ble_eq_true rfl) (hts _ mw_1170) (fun _ h9 => h9) rfl dX11_shift_23 ?_
        refine lv_iload_n hx hb dX11_shift_26 rfl (lv_at hl 1 rfl) ?_
        refine z_iald hx hb hK hP 3 0 rfl rfl (e := f) rfl b9_38 (Nat.le_of_ble_eq_true rfl) dX11_shift_27 ?_
        refine zz_i (v := nI n) (hm_f) ?_
        have b9_42 : zlt (n) := show n < 2147483648 by omega
        refine lv_icmp_lt (tgt := 35) hx hb dX11_shift_28 rfl (fun c_41 => ?_) (fun c_41 => ?_)
        · have c_41 : kv.toInt < ((n : Nat) : Int) := zc_lt rfl (nI_toInt b9_42) c_41
          refine lv_iconst (v := 0) hx hb dX11_shift_35 rfl ?_
          refine zz_i (v := pI ((tn f).toInt = 0 ∧ ¬ (0 ≤ kv.toInt ∧ kv.toInt < ((n : Nat) : Int)))) (by first | exact (zp_t (by omega)).symm | exact (zp_f (by omega)).symm) ?_
          exact hj_1 
        · have c_41 : ((n : Nat) : Int) ≤ kv.toInt := zc_nlt rfl (nI_toInt b9_42) c_41
          refine lv_iconst (v := 1) hx hb dX11_shift_31 rfl ?_
          refine lv_goto (tgt := 36) hx hb dX11_shift_32 rfl ?_
          refine zz_i (v := pI ((tn f).toInt = 0 ∧ ¬ (0 ≤ kv.toInt ∧ kv.toInt < ((n : Nat) : Int)))) (by first | exact (zp_t (by omega)).symm | exact (zp_f (by omega)).symm) ?_
          exact hj_1 
set_option maxHeartbeats 4000000 in
set_option maxRecDepth 100000 in
theorem k_M_plainer_x (l : Launch) (dC : Nat → ClassId) (dI : Nat → Nat → Nat) (cI cZ cF : ClassId) (sz : Nat) (k0 : Nat) (a : Nat → Nat) (I0 : Nat → Int32) (J0 : Nat → Int64) (ft : Nat) (v : Int32) (lim : Int32) (hft : I0 0 = nI ft) (h200 : ft ≤ 200) (hv : ¬ (0 ≤ v.toInt ∧ v.toInt < (ft : Int))) : zM l yX11_plainer cX11_plainer 4 (some .int) ({ frames := 2, cells := 0, slots := 0, locals := 42 } : Room) [.ref k0, .int v, .int lim] (dC, dI) (zTy cI cZ cF) [(om k0 a I0 J0)] sz (some (.int (-1))) (fun A t => zPD (dC, dI) classes A [(om k0 a (upd (upd I0 14 1) 15 (I0 15)) J0)] t.heap) 0 0 := by
  refine zIn (own := "ScaleShopModel") (loc := [(0, .ref k0), (1, .int v), (2, .int lim)]) rfl rfl rfl rfl (fun p e s m below meth c hx hb hr hts hown hlocks hml hnm9 A hA hS hP hD hK hXN Q9 hQ9 ls hl => ?_)
  refine lv_aload_n hx hb dX11_plainer_0 rfl (lv_at hl 0 rfl) ?_
  refine lv_iload_n hx hb dX11_plainer_1 rfl (lv_at hl 1 rfl) ?_
  obtain ⟨hPc, hDc, hFc, hI1⟩ := zi_sub (wc := [_]) hP hD hS hA [0] rfl rfl
  refine zcall (st1 := [.int 1]) (va_runV (As := [.int v]) (rest := []) ⟨hx, hb, hml, hown, hts⟩ (k_M_wrong_x l dC dI cI cZ cF s.heap.size k0 a I0 J0 ft v (by first | with_reducible assumption | assumption) (by first | with_reducible assumption | omega) (by first | with_reducible assumption | assumption)) (csV_209 hts rfl rfl ⟨Nat.le_of_ble_eq_true rfl, Nat.le_of_ble_eq_true rfl⟩) (zPV2 (q0 := 0) (ci := 9) hPc hDc hK hXN rfl rfl) rfl rfl hl.1 rfl (lv_room (Nat.le_of_ble_eq_true rfl)) dX11_plainer_2 ⟨Nat.le_of_ble_eq_true rfl, Nat.le_of_ble_eq_true rfl⟩) hS hFc hFc rfl (fun t H locs ht hB hk1 hS => ?_)
  obtain ⟨hP1, hD1⟩ := hB
  rw [ht] at hP1
  replace hP := z0 hP hD hk1 hP1 hI1
  clear hk1 hPc hDc hFc hP1 hD1 ht hI1
  refine lv_istore_n (lv' := [(3, .int 1), (0, .ref k0), (1, .int v), (2, .int lim)]) hx hb dX11_plainer_5 rfl hl (Nat.le_of_ble_eq_true rfl) rfl (fun ls hl => ?_)
  refine lv_iload_n hx hb dX11_plainer_6 rfl (lv_at hl 0 rfl) ?_
  refine lv_if_le (tgt := 14) hx hb dX11_plainer_7 rfl (fun c_1 => ?_) (fun c_1 => ?_)
  · exact absurd c_1 (by decide)
  · refine lv_iload_n hx hb dX11_plainer_10 rfl (lv_at hl 0 rfl) ?_
    refine lv_goto (tgt := 48) hx hb dX11_plainer_11 rfl ?_
    refine lv_istore_n (lv' := [(3, .int 1), (0, .ref k0), (1, .int v), (2, .int lim)]) hx hb dX11_plainer_48 rfl hl (Nat.le_of_ble_eq_true rfl) rfl (fun ls hl => ?_)
    refine lv_iload_n hx hb dX11_plainer_49 rfl (lv_at hl 0 rfl) ?_
    refine lv_if_le (tgt := 59) hx hb dX11_plainer_50 rfl (fun c_2 => ?_) (fun c_2 => ?_)
    · exact absurd c_2 (by decide)
    · refine lv_aload_n hx hb dX11_plainer_53 rfl (lv_at hl 1 rfl) ?_
      refine lv_iload_n hx hb dX11_plainer_54 rfl (lv_at hl 0 rfl) ?_
      obtain ⟨hPc, hDc, hFc⟩ := zo_sub (wc := [_]) hP hD hS hA [0] rfl rfl
      refine zcall (st1 := [.int (-1)]) (va_runV (As := [.int 1]) (rest := []) ⟨hx, hb, hml, hown, hts⟩ (k_M_refuse l dC dI cI cZ cF H.size k0 a I0 J0 1 (by decide)) (csV_185 hts rfl rfl ⟨Nat.le_of_ble_eq_true rfl, Nat.le_of_ble_eq_true rfl⟩) (zPV2 (q0 := 0) (ci := 9) hPc hDc hK hXN rfl rfl) rfl rfl hl.1 rfl (lv_room (Nat.le_of_ble_eq_true rfl)) dX11_plainer_55 ⟨Nat.le_of_ble_eq_true rfl, Nat.le_of_ble_eq_true rfl⟩) hS hFc hFc rfl (fun t H locs ht hB hk1 hS => ?_)
      obtain ⟨hP1, hD1⟩ := hB
      rw [ht] at hP1
      obtain ⟨hP, hD⟩ := zn (W2 := [(om k0 a (upd (upd I0 14 1) 15 (I0 15)) J0)]) hP hD hk1 hFc hP1 hD1 [0] [] [false] [0] (by decide +kernel) rfl rfl rfl rfl rfl
      clear hk1 hPc hDc hFc hP1 hD1 ht
      obtain ⟨hP9, hD9⟩ := zu_sub (wc := [_]) hP hD [true] rfl rfl
      rw [hQ9]
      exact W.iret (v := (-1)) hx hb hr (fun t ht hW => ⟨⟨rfl, by rw [ht]; exact hP9, hD9⟩, hS.F ht⟩) hS.2.2 dX11_plainer_58
set_option maxHeartbeats 4000000 in
set_option maxRecDepth 100000 in
theorem k_M_smooth_x (l : Launch) (dC : Nat → ClassId) (dI : Nat → Nat → Nat) (cI cZ cF : ClassId) (sz : Nat) (k0 : Nat) (a : Nat → Nat) (I0 : Nat → Int32) (J0 : Nat → Int64) (ft : Nat) (v : Int32) (hft : I0 0 = nI ft) (h200 : ft ≤ 200) (hv : ¬ (0 ≤ v.toInt ∧ v.toInt < (ft : Int))) : zM l yX11_smooth cX11_smooth 6 (some .boolean) ({ frames := 2, cells := 0, slots := 0, locals := 42 } : Room) [.ref k0, .int v] (dC, dI) (zTy cI cZ cF) [(om k0 a I0 J0)] sz (some (.int 0)) (fun A t => zPD (dC, dI) classes A [(om k0 a (upd (upd I0 14 1) 15 (I0 15)) J0)] t.heap) 0 0 := by
  refine zIn (own := "ScaleShopModel") (loc := [(0, .ref k0), (1, .int v)]) rfl rfl rfl rfl (fun p e s m below meth c hx hb hr hts hown hlocks hml hnm9 A hA hS hP hD hK hXN Q9 hQ9 ls hl => ?_)
  refine lv_aload_n hx hb dX11_smooth_0 rfl (lv_at hl 0 rfl) ?_
  refine lv_iload_n hx hb dX11_smooth_1 rfl (lv_at hl 1 rfl) ?_
  obtain ⟨hPc, hDc, hFc, hI1⟩ := zi_sub (wc := [_]) hP hD hS hA [0] rfl rfl
  refine zcall (st1 := [.int 1]) (va_runV (As := [.int v]) (rest := []) ⟨hx, hb, hml, hown, hts⟩ (k_M_wrong_x l dC dI cI cZ cF s.heap.size k0 a I0 J0 ft v (by first | with_reducible assumption | assumption) (by first | with_reducible assumption | omega) (by first | with_reducible assumption | assumption)) (csV_209 hts rfl rfl ⟨Nat.le_of_ble_eq_true rfl, Nat.le_of_ble_eq_true rfl⟩) (zPV2 (q0 := 0) (ci := 9) hPc hDc hK hXN rfl rfl) rfl rfl hl.1 rfl (lv_room (Nat.le_of_ble_eq_true rfl)) dX11_smooth_2 ⟨Nat.le_of_ble_eq_true rfl, Nat.le_of_ble_eq_true rfl⟩) hS hFc hFc rfl (fun t H locs ht hB hk1 hS => ?_)
  obtain ⟨hP1, hD1⟩ := hB
  rw [ht] at hP1
  replace hP := z0 hP hD hk1 hP1 hI1
  clear hk1 hPc hDc hFc hP1 hD1 ht hI1
  refine lv_istore_n (lv' := [(2, .int 1), (0, .ref k0), (1, .int v)]) hx hb dX11_smooth_5 rfl hl (Nat.le_of_ble_eq_true rfl) rfl (fun ls hl => ?_)
  refine lv_iload_n hx hb dX11_smooth_6 rfl (lv_at hl 0 rfl) ?_
  refine lv_if_le (tgt := 14) hx hb dX11_smooth_7 rfl (fun c_1 => ?_) (fun c_1 => ?_)
  · exact absurd c_1 (by decide)
  · refine lv_iload_n hx hb dX11_smooth_10 rfl (lv_at hl 0 rfl) ?_
    refine lv_goto (tgt := 40) hx hb dX11_smooth_11 rfl ?_
    refine lv_istore_n (lv' := [(2, .int 1), (0, .ref k0), (1, .int v)]) hx hb dX11_smooth_40 rfl hl (Nat.le_of_ble_eq_true rfl) rfl (fun ls hl => ?_)
    refine lv_iload_n hx hb dX11_smooth_41 rfl (lv_at hl 0 rfl) ?_
    refine lv_if_le (tgt := 51) hx hb dX11_smooth_42 rfl (fun c_2 => ?_) (fun c_2 => ?_)
    · exact absurd c_2 (by decide)
    · refine lv_aload_n hx hb dX11_smooth_45 rfl (lv_at hl 1 rfl) ?_
      refine lv_iload_n hx hb dX11_smooth_46 rfl (lv_at hl 0 rfl) ?_
      obtain ⟨hPc, hDc, hFc⟩ := zo_sub (wc := [_]) hP hD hS hA [0] rfl rfl
      refine zcall (st1 := [.int 0]) (va_runV (As := [.int 1]) (rest := []) ⟨hx, hb, hml, hown, hts⟩ (k_M_no l dC dI cI cZ cF H.size k0 a I0 J0 1 (by decide)) (csV_198 hts rfl rfl ⟨Nat.le_of_ble_eq_true rfl, Nat.le_of_ble_eq_true rfl⟩) (zPV2 (q0 := 0) (ci := 9) hPc hDc hK hXN rfl rfl) rfl rfl hl.1 rfl (lv_room (Nat.le_of_ble_eq_true rfl)) dX11_smooth_47 ⟨Nat.le_of_ble_eq_true rfl, Nat.le_of_ble_eq_true rfl⟩) hS hFc hFc rfl (fun t H locs ht hB hk1 hS => ?_)
      obtain ⟨hP1, hD1⟩ := hB
      rw [ht] at hP1
      obtain ⟨hP, hD⟩ := zn (W2 := [(om k0 a (upd (upd I0 14 1) 15 (I0 15)) J0)]) hP hD hk1 hFc hP1 hD1 [0] [] [false] [0] (by decide +kernel) rfl rfl rfl rfl rfl
      clear hk1 hPc hDc hFc hP1 hD1 ht
      obtain ⟨hP9, hD9⟩ := zu_sub (wc := [_]) hP hD [true] rfl rfl
      rw [hQ9]
      exact W.zret (ty := .boolean) (v := 0) hx hb hr (rfl) (fun t ht hW => ⟨⟨rfl, by rw [ht]; exact hP9, hD9⟩, hS.F ht⟩) hS.2.2 dX11_smooth_50
set_option maxHeartbeats 4000000 in
set_option maxRecDepth 100000 in
theorem k_M_grow_x (l : Launch) (dC : Nat → ClassId) (dI : Nat → Nat → Nat) (cI cZ cF : ClassId) (sz : Nat) (k0 : Nat) (a : Nat → Nat) (I0 : Nat → Int32) (J0 : Nat → Int64) (ft : Nat) (v : Int32) (hft : I0 0 = nI ft) (h200 : ft ≤ 200) (hv : ¬ (0 ≤ v.toInt ∧ v.toInt < (ft : Int))) : zM l yX11_grow cX11_grow 4 (some .boolean) ({ frames := 2, cells := 0, slots := 0, locals := 42 } : Room) [.ref k0, .int v] (dC, dI) (zTy cI cZ cF) [(om k0 a I0 J0)] sz (some (.int 0)) (fun A t => zPD (dC, dI) classes A [(om k0 a (upd (upd I0 14 1) 15 (I0 15)) J0)] t.heap) 0 0 := by
  refine zIn (own := "ScaleShopModel") (loc := [(0, .ref k0), (1, .int v)]) rfl rfl rfl rfl (fun p e s m below meth c hx hb hr hts hown hlocks hml hnm9 A hA hS hP hD hK hXN Q9 hQ9 ls hl => ?_)
  refine lv_aload_n hx hb dX11_grow_0 rfl (lv_at hl 0 rfl) ?_
  refine lv_iload_n hx hb dX11_grow_1 rfl (lv_at hl 1 rfl) ?_
  obtain ⟨hPc, hDc, hFc, hI1⟩ := zi_sub (wc := [_]) hP hD hS hA [0] rfl rfl
  refine zcall (st1 := [.int 1]) (va_runV (As := [.int v]) (rest := []) ⟨hx, hb, hml, hown, hts⟩ (k_M_wrong_x l dC dI cI cZ cF s.heap.size k0 a I0 J0 ft v (by first | with_reducible assumption | assumption) (by first | with_reducible assumption | omega) (by first | with_reducible assumption | assumption)) (csV_209 hts rfl rfl ⟨Nat.le_of_ble_eq_true rfl, Nat.le_of_ble_eq_true rfl⟩) (zPV2 (q0 := 0) (ci := 9) hPc hDc hK hXN rfl rfl) rfl rfl hl.1 rfl (lv_room (Nat.le_of_ble_eq_true rfl)) dX11_grow_2 ⟨Nat.le_of_ble_eq_true rfl, Nat.le_of_ble_eq_true rfl⟩) hS hFc hFc rfl (fun t H locs ht hB hk1 hS => ?_)
  obtain ⟨hP1, hD1⟩ := hB
  rw [ht] at hP1
  replace hP := z0 hP hD hk1 hP1 hI1
  clear hk1 hPc hDc hFc hP1 hD1 ht hI1
  refine lv_istore_n (lv' := [(2, .int 1), (0, .ref k0), (1, .int v)]) hx hb dX11_grow_5 rfl hl (Nat.le_of_ble_eq_true rfl) rfl (fun ls hl => ?_)
  refine lv_iload_n hx hb dX11_grow_6 rfl (lv_at hl 0 rfl) ?_
  refine lv_if_le (tgt := 14) hx hb dX11_grow_7 rfl (fun c_1 => ?_) (fun c_1 => ?_)
  · exact absurd c_1 (by decide)
  · refine lv_iload_n hx hb dX11_grow_10 rfl (lv_at hl 0 rfl) ?_
    refine lv_goto (tgt := 43) hx hb dX11_grow_11 rfl ?_
    refine lv_istore_n (lv' := [(2, .int 1), (0, .ref k0), (1, .int v)]) hx hb dX11_grow_43 rfl hl (Nat.le_of_ble_eq_true rfl) rfl (fun ls hl => ?_)
    refine lv_iload_n hx hb dX11_grow_44 rfl (lv_at hl 0 rfl) ?_
    refine lv_if_le (tgt := 54) hx hb dX11_grow_45 rfl (fun c_2 => ?_) (fun c_2 => ?_)
    · exact absurd c_2 (by decide)
    · refine lv_aload_n hx hb dX11_grow_48 rfl (lv_at hl 1 rfl) ?_
      refine lv_iload_n hx hb dX11_grow_49 rfl (lv_at hl 0 rfl) ?_
      obtain ⟨hPc, hDc, hFc⟩ := zo_sub (wc := [_]) hP hD hS hA [0] rfl rfl
      refine zcall (st1 := [.int 0]) (va_runV (As := [.int 1]) (rest := []) ⟨hx, hb, hml, hown, hts⟩ (k_M_no l dC dI cI cZ cF H.size k0 a I0 J0 1 (by decide)) (csV_198 hts rfl rfl ⟨Nat.le_of_ble_eq_true rfl, Nat.le_of_ble_eq_true rfl⟩) (zPV2 (q0 := 0) (ci := 9) hPc hDc hK hXN rfl rfl) rfl rfl hl.1 rfl (lv_room (Nat.le_of_ble_eq_true rfl)) dX11_grow_50 ⟨Nat.le_of_ble_eq_true rfl, Nat.le_of_ble_eq_true rfl⟩) hS hFc hFc rfl (fun t H locs ht hB hk1 hS => ?_)
      obtain ⟨hP1, hD1⟩ := hB
      rw [ht] at hP1
      obtain ⟨hP, hD⟩ := zn (W2 := [(om k0 a (upd (upd I0 14 1) 15 (I0 15)) J0)]) hP hD hk1 hFc hP1 hD1 [0] [] [false] [0] (by decide +kernel) rfl rfl rfl rfl rfl
      clear hk1 hPc hDc hFc hP1 hD1 ht
      obtain ⟨hP9, hD9⟩ := zu_sub (wc := [_]) hP hD [true] rfl rfl
      rw [hQ9]
      exact W.zret (ty := .boolean) (v := 0) hx hb hr (rfl) (fun t ht hW => ⟨⟨rfl, by rw [ht]; exact hP9, hD9⟩, hS.F ht⟩) hS.2.2 dX11_grow_53
set_option maxHeartbeats 4000000 in
set_option maxRecDepth 100000 in
theorem k_M_square_x (l : Launch) (dC : Nat → ClassId) (dI : Nat → Nat → Nat) (cI cZ cF : ClassId) (sz : Nat) (k0 : Nat) (a : Nat → Nat) (I0 : Nat → Int32) (J0 : Nat → Int64) (ft : Nat) (v : Int32) (ms : Int32) (hft : I0 0 = nI ft) (h200 : ft ≤ 200) (hv : ¬ (0 ≤ v.toInt ∧ v.toInt < (ft : Int))) : zM l yX11_square cX11_square 6 (some .boolean) ({ frames := 2, cells := 0, slots := 0, locals := 42 } : Room) [.ref k0, .int v, .int ms] (dC, dI) (zTy cI cZ cF) [(om k0 a I0 J0)] sz (some (.int 0)) (fun A t => zPD (dC, dI) classes A [(om k0 a (upd (upd I0 14 1) 15 (I0 15)) J0)] t.heap) 0 0 := by
  refine zIn (own := "ScaleShopModel") (loc := [(0, .ref k0), (1, .int v), (2, .int ms)]) rfl rfl rfl rfl (fun p e s m below meth c hx hb hr hts hown hlocks hml hnm9 A hA hS hP hD hK hXN Q9 hQ9 ls hl => ?_)
  refine lv_aload_n hx hb dX11_square_0 rfl (lv_at hl 0 rfl) ?_
  refine lv_iload_n hx hb dX11_square_1 rfl (lv_at hl 1 rfl) ?_
  obtain ⟨hPc, hDc, hFc, hI1⟩ := zi_sub (wc := [_]) hP hD hS hA [0] rfl rfl
  refine zcall (st1 := [.int 1]) (va_runV (As := [.int v]) (rest := []) ⟨hx, hb, hml, hown, hts⟩ (k_M_wrong_x l dC dI cI cZ cF s.heap.size k0 a I0 J0 ft v (by first | with_reducible assumption | assumption) (by first | with_reducible assumption | omega) (by first | with_reducible assumption | assumption)) (csV_209 hts rfl rfl ⟨Nat.le_of_ble_eq_true rfl, Nat.le_of_ble_eq_true rfl⟩) (zPV2 (q0 := 0) (ci := 9) hPc hDc hK hXN rfl rfl) rfl rfl hl.1 rfl (lv_room (Nat.le_of_ble_eq_true rfl)) dX11_square_2 ⟨Nat.le_of_ble_eq_true rfl, Nat.le_of_ble_eq_true rfl⟩) hS hFc hFc rfl (fun t H locs ht hB hk1 hS => ?_)
  obtain ⟨hP1, hD1⟩ := hB
  rw [ht] at hP1
  replace hP := z0 hP hD hk1 hP1 hI1
  clear hk1 hPc hDc hFc hP1 hD1 ht hI1
  refine lv_istore_n (lv' := [(3, .int 1), (0, .ref k0), (1, .int v), (2, .int ms)]) hx hb dX11_square_5 rfl hl (Nat.le_of_ble_eq_true rfl) rfl (fun ls hl => ?_)
  refine lv_iload_n hx hb dX11_square_6 rfl (lv_at hl 0 rfl) ?_
  refine lv_if_le (tgt := 14) hx hb dX11_square_7 rfl (fun c_1 => ?_) (fun c_1 => ?_)
  · exact absurd c_1 (by decide)
  · refine lv_iload_n hx hb dX11_square_10 rfl (lv_at hl 0 rfl) ?_
    refine lv_goto (tgt := 37) hx hb dX11_square_11 rfl ?_
    refine lv_istore_n (lv' := [(3, .int 1), (0, .ref k0), (1, .int v), (2, .int ms)]) hx hb dX11_square_37 rfl hl (Nat.le_of_ble_eq_true rfl) rfl (fun ls hl => ?_)
    refine lv_iload_n hx hb dX11_square_38 rfl (lv_at hl 0 rfl) ?_
    refine lv_if_le (tgt := 48) hx hb dX11_square_39 rfl (fun c_2 => ?_) (fun c_2 => ?_)
    · exact absurd c_2 (by decide)
    · refine lv_aload_n hx hb dX11_square_42 rfl (lv_at hl 1 rfl) ?_
      refine lv_iload_n hx hb dX11_square_43 rfl (lv_at hl 0 rfl) ?_
      obtain ⟨hPc, hDc, hFc⟩ := zo_sub (wc := [_]) hP hD hS hA [0] rfl rfl
      refine zcall (st1 := [.int 0]) (va_runV (As := [.int 1]) (rest := []) ⟨hx, hb, hml, hown, hts⟩ (k_M_no l dC dI cI cZ cF H.size k0 a I0 J0 1 (by decide)) (csV_198 hts rfl rfl ⟨Nat.le_of_ble_eq_true rfl, Nat.le_of_ble_eq_true rfl⟩) (zPV2 (q0 := 0) (ci := 9) hPc hDc hK hXN rfl rfl) rfl rfl hl.1 rfl (lv_room (Nat.le_of_ble_eq_true rfl)) dX11_square_44 ⟨Nat.le_of_ble_eq_true rfl, Nat.le_of_ble_eq_true rfl⟩) hS hFc hFc rfl (fun t H locs ht hB hk1 hS => ?_)
      obtain ⟨hP1, hD1⟩ := hB
      rw [ht] at hP1
      obtain ⟨hP, hD⟩ := zn (W2 := [(om k0 a (upd (upd I0 14 1) 15 (I0 15)) J0)]) hP hD hk1 hFc hP1 hD1 [0] [] [false] [0] (by decide +kernel) rfl rfl rfl rfl rfl
      clear hk1 hPc hDc hFc hP1 hD1 ht
      obtain ⟨hP9, hD9⟩ := zu_sub (wc := [_]) hP hD [true] rfl rfl
      rw [hQ9]
      exact W.zret (ty := .boolean) (v := 0) hx hb hr (rfl) (fun t ht hW => ⟨⟨rfl, by rw [ht]; exact hP9, hD9⟩, hS.F ht⟩) hS.2.2 dX11_square_47
set_option maxHeartbeats 4000000 in
set_option maxRecDepth 100000 in
theorem k_M_drop_x (l : Launch) (dC : Nat → ClassId) (dI : Nat → Nat → Nat) (cI cZ cF : ClassId) (sz : Nat) (k0 : Nat) (a : Nat → Nat) (I0 : Nat → Int32) (J0 : Nat → Int64) (ft : Nat) (v : Int32) (hft : I0 0 = nI ft) (h200 : ft ≤ 200) (hv : ¬ (0 ≤ v.toInt ∧ v.toInt < (ft : Int))) : zM l yX11_drop cX11_drop 4 (some .boolean) ({ frames := 2, cells := 0, slots := 0, locals := 42 } : Room) [.ref k0, .int v] (dC, dI) (zTy cI cZ cF) [(om k0 a I0 J0)] sz (some (.int 0)) (fun A t => zPD (dC, dI) classes A [(om k0 a (upd (upd I0 14 1) 15 (I0 15)) J0)] t.heap) 0 0 := by
  refine zIn (own := "ScaleShopModel") (loc := [(0, .ref k0), (1, .int v)]) rfl rfl rfl rfl (fun p e s m below meth c hx hb hr hts hown hlocks hml hnm9 A hA hS hP hD hK hXN Q9 hQ9 ls hl => ?_)
  refine lv_aload_n hx hb dX11_drop_0 rfl (lv_at hl 0 rfl) ?_
  refine lv_iload_n hx hb dX11_drop_1 rfl (lv_at hl 1 rfl) ?_
  obtain ⟨hPc, hDc, hFc, hI1⟩ := zi_sub (wc := [_]) hP hD hS hA [0] rfl rfl
  refine zcall (st1 := [.int 1]) (va_runV (As := [.int v]) (rest := []) ⟨hx, hb, hml, hown, hts⟩ (k_M_wrong_x l dC dI cI cZ cF s.heap.size k0 a I0 J0 ft v (by first | with_reducible assumption | assumption) (by first | with_reducible assumption | omega) (by first | with_reducible assumption | assumption)) (csV_209 hts rfl rfl ⟨Nat.le_of_ble_eq_true rfl, Nat.le_of_ble_eq_true rfl⟩) (zPV2 (q0 := 0) (ci := 9) hPc hDc hK hXN rfl rfl) rfl rfl hl.1 rfl (lv_room (Nat.le_of_ble_eq_true rfl)) dX11_drop_2 ⟨Nat.le_of_ble_eq_true rfl, Nat.le_of_ble_eq_true rfl⟩) hS hFc hFc rfl (fun t H locs ht hB hk1 hS => ?_)
  obtain ⟨hP1, hD1⟩ := hB
  rw [ht] at hP1
  replace hP := z0 hP hD hk1 hP1 hI1
  clear hk1 hPc hDc hFc hP1 hD1 ht hI1
  refine lv_istore_n (lv' := [(2, .int 1), (0, .ref k0), (1, .int v)]) hx hb dX11_drop_5 rfl hl (Nat.le_of_ble_eq_true rfl) rfl (fun ls hl => ?_)
  refine lv_iload_n hx hb dX11_drop_6 rfl (lv_at hl 0 rfl) ?_
  refine lv_if_le (tgt := 14) hx hb dX11_drop_7 rfl (fun c_1 => ?_) (fun c_1 => ?_)
  · exact absurd c_1 (by decide)
  · refine lv_iload_n hx hb dX11_drop_10 rfl (lv_at hl 0 rfl) ?_
    refine lv_goto (tgt := 28) hx hb dX11_drop_11 rfl ?_
    refine lv_istore_n (lv' := [(2, .int 1), (0, .ref k0), (1, .int v)]) hx hb dX11_drop_28 rfl hl (Nat.le_of_ble_eq_true rfl) rfl (fun ls hl => ?_)
    refine lv_iload_n hx hb dX11_drop_29 rfl (lv_at hl 0 rfl) ?_
    refine lv_if_le (tgt := 39) hx hb dX11_drop_30 rfl (fun c_2 => ?_) (fun c_2 => ?_)
    · exact absurd c_2 (by decide)
    · refine lv_aload_n hx hb dX11_drop_33 rfl (lv_at hl 1 rfl) ?_
      refine lv_iload_n hx hb dX11_drop_34 rfl (lv_at hl 0 rfl) ?_
      obtain ⟨hPc, hDc, hFc⟩ := zo_sub (wc := [_]) hP hD hS hA [0] rfl rfl
      refine zcall (st1 := [.int 0]) (va_runV (As := [.int 1]) (rest := []) ⟨hx, hb, hml, hown, hts⟩ (k_M_no l dC dI cI cZ cF H.size k0 a I0 J0 1 (by decide)) (csV_198 hts rfl rfl ⟨Nat.le_of_ble_eq_true rfl, Nat.le_of_ble_eq_true rfl⟩) (zPV2 (q0 := 0) (ci := 9) hPc hDc hK hXN rfl rfl) rfl rfl hl.1 rfl (lv_room (Nat.le_of_ble_eq_true rfl)) dX11_drop_35 ⟨Nat.le_of_ble_eq_true rfl, Nat.le_of_ble_eq_true rfl⟩) hS hFc hFc rfl (fun t H locs ht hB hk1 hS => ?_)
      obtain ⟨hP1, hD1⟩ := hB
      rw [ht] at hP1
      obtain ⟨hP, hD⟩ := zn (W2 := [(om k0 a (upd (upd I0 14 1) 15 (I0 15)) J0)]) hP hD hk1 hFc hP1 hD1 [0] [] [false] [0] (by decide +kernel) rfl rfl rfl rfl rfl
      clear hk1 hPc hDc hFc hP1 hD1 ht
      obtain ⟨hP9, hD9⟩ := zu_sub (wc := [_]) hP hD [true] rfl rfl
      rw [hQ9]
      exact W.zret (ty := .boolean) (v := 0) hx hb hr (rfl) (fun t ht hW => ⟨⟨rfl, by rw [ht]; exact hP9, hD9⟩, hS.F ht⟩) hS.2.2 dX11_drop_38
set_option maxHeartbeats 4000000 in
set_option maxRecDepth 100000 in
theorem k_M_shift_x (l : Launch) (dC : Nat → ClassId) (dI : Nat → Nat → Nat) (cI cZ cF : ClassId) (sz : Nat) (k0 : Nat) (a : Nat → Nat) (I0 : Nat → Int32) (J0 : Nat → Int64) (ft : Nat) (v : Int32) (kv : Int32) (dx : Int32) (dy : Int32) (rv : Int32) (hft : I0 0 = nI ft) (h200 : ft ≤ 200) (hv : ¬ (0 ≤ v.toInt ∧ v.toInt < (ft : Int))) : zM l yX11_shift cX11_shift 13 (some .boolean) ({ frames := 2, cells := 0, slots := 0, locals := 42 } : Room) [.ref k0, .int v, .int kv, .int dx, .int dy, .int rv] (dC, dI) (zTy cI cZ cF) [(om k0 a I0 J0)] sz (some (.int 0)) (fun A t => zPD (dC, dI) classes A [(om k0 a (upd (upd I0 14 1) 15 (I0 15)) J0)] t.heap) 0 0 := by
  refine zIn (own := "ScaleShopModel") (loc := [(0, .ref k0), (1, .int v), (2, .int kv), (3, .int dx), (4, .int dy), (5, .int rv)]) rfl rfl rfl rfl (fun p e s m below meth c hx hb hr hts hown hlocks hml hnm9 A hA hS hP hD hK hXN Q9 hQ9 ls hl => ?_)
  refine lv_aload_n hx hb dX11_shift_0 rfl (lv_at hl 0 rfl) ?_
  refine lv_iload_n hx hb dX11_shift_1 rfl (lv_at hl 1 rfl) ?_
  obtain ⟨hPc, hDc, hFc, hI1⟩ := zi_sub (wc := [_]) hP hD hS hA [0] rfl rfl
  refine zcall (st1 := [.int (pI (0 ≤ v.toInt ∧ v.toInt < (ft : Int)))]) (va_runV (As := [.int v]) (rest := []) ⟨hx, hb, hml, hown, hts⟩ (k_M_isFeature l dC dI cI cZ cF s.heap.size k0 a I0 J0 ft v (by first | with_reducible assumption | assumption) (by first | with_reducible assumption | omega)) (csV_178 hts rfl rfl ⟨Nat.le_of_ble_eq_true rfl, Nat.le_of_ble_eq_true rfl⟩) (zPV2 (q0 := 0) (ci := 9) hPc hDc hK hXN rfl rfl) rfl rfl hl.1 rfl (lv_room (Nat.le_of_ble_eq_true rfl)) dX11_shift_2 ⟨Nat.le_of_ble_eq_true rfl, Nat.le_of_ble_eq_true rfl⟩) hS hFc hFc rfl (fun t H locs ht hB hk1 hS => ?_)
  obtain ⟨hP1, hD1⟩ := hB
  rw [ht] at hP1
  replace hP := z0 hP hD hk1 hP1 hI1
  clear hk1 hPc hDc hFc hP1 hD1 ht hI1
  refine lv_if_eq (tgt := 35) hx hb dX11_shift_5 rfl (fun c_1 => ?_) (fun c_1 => ?_)
  · have c_1 : ¬ (0 ≤ v.toInt ∧ v.toInt < (ft : Int)) := zp_0 c_1
    refine lv_iconst (v := 0) hx hb dX11_shift_35 rfl ?_
    refine lv_istore (lv' := [(6, .int 0), (0, .ref k0), (1, .int v), (2, .int kv), (3, .int dx), (4, .int dy), (5, .int rv)]) hx hb dX11_shift_36 hl (Nat.le_of_ble_eq_true rfl) rfl (fun ls hl => ?_)
    refine lv_aload_n hx hb dX11_shift_38 rfl (lv_at hl 1 rfl) ?_
    refine lv_iload_n hx hb dX11_shift_39 rfl (lv_at hl 2 rfl) ?_
    obtain ⟨hPc, hDc, hFc, hI1⟩ := zi_sub (wc := [_]) hP hD hS hA [0] rfl rfl
    refine zcall (st1 := [.int (pI (0 ≤ v.toInt ∧ v.toInt < (ft : Int)))]) (va_runV (As := [.int v]) (rest := []) ⟨hx, hb, hml, hown, hts⟩ (k_M_isFeature l dC dI cI cZ cF H.size k0 a I0 J0 ft v (by first | with_reducible assumption | assumption) (by first | with_reducible assumption | omega)) (csV_178 hts rfl rfl ⟨Nat.le_of_ble_eq_true rfl, Nat.le_of_ble_eq_true rfl⟩) (zPV2 (q0 := 0) (ci := 9) hPc hDc hK hXN rfl rfl) rfl rfl hl.1 rfl (lv_room (Nat.le_of_ble_eq_true rfl)) dX11_shift_40 ⟨Nat.le_of_ble_eq_true rfl, Nat.le_of_ble_eq_true rfl⟩) hS hFc hFc rfl (fun t H locs ht hB hk1 hS => ?_)
    obtain ⟨hP1, hD1⟩ := hB
    rw [ht] at hP1
    replace hP := z0 hP hD hk1 hP1 hI1
    clear hk1 hPc hDc hFc hP1 hD1 ht hI1
    refine lv_if_eq (tgt := 51) hx hb dX11_shift_43 rfl (fun c_2 => ?_) (fun c_2 => ?_)
    · have c_2 : ¬ (0 ≤ v.toInt ∧ v.toInt < (ft : Int)) := zp_0 c_2
      refine lv_iconst (v := 1) hx hb dX11_shift_51 rfl ?_
      refine lv_goto (tgt := 70) hx hb dX11_shift_52 rfl ?_
      refine lv_istore (lv' := [(7, .int 1), (6, .int 0), (0, .ref k0), (1, .int v), (2, .int kv), (3, .int dx), (4, .int dy), (5, .int rv)]) hx hb dX11_shift_70 hl (Nat.le_of_ble_eq_true rfl) rfl (fun ls hl => ?_)
      have hj_3 : W p l e ({ frames := 2, cells := 0, slots := 0, locals := 42 } : Room) s m ([.ref k0, .int v, .int kv, .int dx, .int dy, .int rv] : List Value).toArray below meth c H locs 0 0 Q9 (F0 m 119 ls [.int (pI (¬ ((-200 ≤ dx.toInt ∧ dx.toInt ≤ 200) ∧ (-200 ≤ dy.toInt ∧ dy.toInt ≤ 200) ∧ (0 ≤ rv.toInt ∧ rv.toInt ≤ 20))))]) := by
        refine lv_istore (lv' := [(8, .int (pI (¬ ((-200 ≤ dx.toInt ∧ dx.toInt ≤ 200) ∧ (-200 ≤ dy.toInt ∧ dy.toInt ≤ 200) ∧ (0 ≤ rv.toInt ∧ rv.toInt ≤ 20))))), (7, .int 1), (6, .int 0), (0, .ref k0), (1, .int v), (2, .int kv), (3, .int dx), (4, .int dy), (5, .int rv)]) hx hb dX11_shift_119 hl (Nat.le_of_ble_eq_true rfl) rfl (fun ls hl => ?_)
        refine lv_iload hx hb dX11_shift_121 (lv_at hl 1 rfl) ?_
        refine lv_if_le (tgt := 131) hx hb dX11_shift_123 rfl (fun c_4 => ?_) (fun c_4 => ?_)
        · exact absurd c_4 (by decide)
        · refine lv_iload hx hb dX11_shift_126 (lv_at hl 1 rfl) ?_
          refine lv_goto (tgt := 154) hx hb dX11_shift_128 rfl ?_
          refine lv_istore (lv' := [(7, .int 1), (8, .int (pI (¬ ((-200 ≤ dx.toInt ∧ dx.toInt ≤ 200) ∧ (-200 ≤ dy.toInt ∧ dy.toInt ≤ 200) ∧ (0 ≤ rv.toInt ∧ rv.toInt ≤ 20))))), (6, .int 0), (0, .ref k0), (1, .int v), (2, .int kv), (3, .int dx), (4, .int dy), (5, .int rv)]) hx hb dX11_shift_154 hl (Nat.le_of_ble_eq_true rfl) rfl (fun ls hl => ?_)
          refine lv_iload hx hb dX11_shift_156 (lv_at hl 0 rfl) ?_
          refine lv_if_le (tgt := 168) hx hb dX11_shift_158 rfl (fun c_5 => ?_) (fun c_5 => ?_)
          · exact absurd c_5 (by decide)
          · refine lv_aload_n hx hb dX11_shift_161 rfl (lv_at hl 3 rfl) ?_
            refine lv_iload hx hb dX11_shift_162 (lv_at hl 0 rfl) ?_
            obtain ⟨hPc, hDc, hFc⟩ := zo_sub (wc := [_]) hP hD hS hA [0] rfl rfl
            refine zcall (st1 := [.int 0]) (va_runV (As := [.int 1]) (rest := []) ⟨hx, hb, hml, hown, hts⟩ (k_M_no l dC dI cI cZ cF H.size k0 a I0 J0 1 (by decide)) (csV_198 hts rfl rfl ⟨Nat.le_of_ble_eq_true rfl, Nat.le_of_ble_eq_true rfl⟩) (zPV2 (q0 := 0) (ci := 9) hPc hDc hK hXN rfl rfl) rfl rfl hl.1 rfl (lv_room (Nat.le_of_ble_eq_true rfl)) dX11_shift_164 ⟨Nat.le_of_ble_eq_true rfl, Nat.le_of_ble_eq_true rfl⟩) hS hFc hFc rfl (fun t H locs ht hB hk1 hS => ?_)
            obtain ⟨hP1, hD1⟩ := hB
            rw [ht] at hP1
            obtain ⟨hP, hD⟩ := zn (W2 := [(om k0 a (upd (upd I0 14 1) 15 (I0 15)) J0)]) hP hD hk1 hFc hP1 hD1 [0] [] [false] [0] (by decide +kernel) rfl rfl rfl rfl rfl
            clear hk1 hPc hDc hFc hP1 hD1 ht
            obtain ⟨hP9, hD9⟩ := zu_sub (wc := [_]) hP hD [true] rfl rfl
            rw [hQ9]
            exact W.zret (ty := .boolean) (v := 0) hx hb hr (rfl) (fun t ht hW => ⟨⟨rfl, by rw [ht]; exact hP9, hD9⟩, hS.F ht⟩) hS.2.2 dX11_shift_167
      refine lv_iload_n hx hb dX11_shift_72 rfl (lv_at hl 5 rfl) ?_
      refine lv_sipush (v := (-200)) hx hb dX11_shift_73 rfl ?_
      refine lv_icmp_lt (tgt := 114) hx hb dX11_shift_76 rfl (fun c_6 => ?_) (fun c_6 => ?_)
      · have c_6 : dx.toInt < (-200) := zc_lt rfl rfl c_6
        refine lv_iconst (v := 1) hx hb dX11_shift_114 rfl ?_
        refine lv_goto (tgt := 119) hx hb dX11_shift_115 rfl ?_
        refine zz_i (v := pI (¬ ((-200 ≤ dx.toInt ∧ dx.toInt ≤ 200) ∧ (-200 ≤ dy.toInt ∧ dy.toInt ≤ 200) ∧ (0 ≤ rv.toInt ∧ rv.toInt ≤ 20)))) (by first | exact (zp_t (by omega)).symm | exact (zp_f (by omega)).symm) ?_
        exact hj_3 
      · have c_6 : (-200) ≤ dx.toInt := zc_nlt rfl rfl c_6
        refine lv_iload_n hx hb dX11_shift_79 rfl (lv_at hl 5 rfl) ?_
        refine lv_sipush (v := 200) hx hb dX11_shift_80 rfl ?_
        refine lv_icmp_gt (tgt := 114) hx hb dX11_shift_83 rfl (fun c_7 => ?_) (fun c_7 => ?_)
        · have c_7 : 200 < dx.toInt := zc_lt rfl rfl c_7
          refine lv_iconst (v := 1) hx hb dX11_shift_114 rfl ?_
          refine lv_goto (tgt := 119) hx hb dX11_shift_115 rfl ?_
          refine zz_i (v := pI (¬ ((-200 ≤ dx.toInt ∧ dx.toInt ≤ 200) ∧ (-200 ≤ dy.toInt ∧ dy.toInt ≤ 200) ∧ (0 ≤ rv.toInt ∧ rv.toInt ≤ 20)))) (by first | exact (zp_t (by omega)).symm | exact (zp_f (by omega)).symm) ?_
          exact hj_3 
        · have c_7 : dx.toInt ≤ 200 := zc_nlt rfl rfl c_7
          refine lv_iload hx hb dX11_shift_86 (lv_at hl 6 rfl) ?_
          refine lv_sipush (v := (-200)) hx hb dX11_shift_88 rfl ?_
          refine lv_icmp_lt (tgt := 114) hx hb dX11_shift_91 rfl (fun c_8 => ?_) (fun c_8 => ?_)
          · have c_8 : dy.toInt < (-200) := zc_lt rfl rfl c_8
            refine lv_iconst (v := 1) hx hb dX11_shift_114 rfl ?_
            refine lv_goto (tgt := 119) hx hb dX11_shift_115 rfl ?_
            refine zz_i (v := pI (¬ ((-200 ≤ dx.toInt ∧ dx.toInt ≤ 200) ∧ (-200 ≤ dy.toInt ∧ dy.toInt ≤ 200) ∧ (0 ≤ rv.toInt ∧ rv.toInt ≤ 20)))) (by first | exact (zp_t (by omega)).symm | exact (zp_f (by omega)).symm) ?_
            exact hj_3 
          · have c_8 : (-200) ≤ dy.toInt := zc_nlt rfl rfl c_8
            refine lv_iload hx hb dX11_shift_94 (lv_at hl 6 rfl) ?_
            refine lv_sipush (v := 200) hx hb dX11_shift_96 rfl ?_
            refine lv_icmp_gt (tgt := 114) hx hb dX11_shift_99 rfl (fun c_9 => ?_) (fun c_9 => ?_)
            · have c_9 : 200 < dy.toInt := zc_lt rfl rfl c_9
              refine lv_iconst (v := 1) hx hb dX11_shift_114 rfl ?_
              refine lv_goto (tgt := 119) hx hb dX11_shift_115 rfl ?_
              refine zz_i (v := pI (¬ ((-200 ≤ dx.toInt ∧ dx.toInt ≤ 200) ∧ (-200 ≤ dy.toInt ∧ dy.toInt ≤ 200) ∧ (0 ≤ rv.toInt ∧ rv.toInt ≤ 20)))) (by first | exact (zp_t (by omega)).symm | exact (zp_f (by omega)).symm) ?_
              exact hj_3 
            · have c_9 : dy.toInt ≤ 200 := zc_nlt rfl rfl c_9
              refine lv_iload hx hb dX11_shift_102 (lv_at hl 7 rfl) ?_
              refine lv_if_lt (tgt := 114) hx hb dX11_shift_104 rfl (fun c_10 => ?_) (fun c_10 => ?_)
              · have c_10 : rv.toInt < 0 := zc_lt rfl rfl c_10
                refine lv_iconst (v := 1) hx hb dX11_shift_114 rfl ?_
                refine lv_goto (tgt := 119) hx hb dX11_shift_115 rfl ?_
                refine zz_i (v := pI (¬ ((-200 ≤ dx.toInt ∧ dx.toInt ≤ 200) ∧ (-200 ≤ dy.toInt ∧ dy.toInt ≤ 200) ∧ (0 ≤ rv.toInt ∧ rv.toInt ≤ 20)))) (by first | exact (zp_t (by omega)).symm | exact (zp_f (by omega)).symm) ?_
                exact hj_3 
              · have c_10 : 0 ≤ rv.toInt := zc_nlt rfl rfl c_10
                refine lv_iload hx hb dX11_shift_107 (lv_at hl 7 rfl) ?_
                refine lv_bipush (v := 20) hx hb dX11_shift_109 rfl ?_
                refine lv_icmp_le (tgt := 118) hx hb dX11_shift_111 rfl (fun c_11 => ?_) (fun c_11 => ?_)
                · have c_11 : rv.toInt ≤ 20 := zc_le rfl rfl c_11
                  refine lv_iconst (v := 0) hx hb dX11_shift_118 rfl ?_
                  refine zz_i (v := pI (¬ ((-200 ≤ dx.toInt ∧ dx.toInt ≤ 200) ∧ (-200 ≤ dy.toInt ∧ dy.toInt ≤ 200) ∧ (0 ≤ rv.toInt ∧ rv.toInt ≤ 20)))) (by first | exact (zp_t (by omega)).symm | exact (zp_f (by omega)).symm) ?_
                  exact hj_3 
                · have c_11 : 20 < rv.toInt := zc_nle rfl rfl c_11
                  refine lv_iconst (v := 1) hx hb dX11_shift_114 rfl ?_
                  refine lv_goto (tgt := 119) hx hb dX11_shift_115 rfl ?_
                  refine zz_i (v := pI (¬ ((-200 ≤ dx.toInt ∧ dx.toInt ≤ 200) ∧ (-200 ≤ dy.toInt ∧ dy.toInt ≤ 200) ∧ (0 ≤ rv.toInt ∧ rv.toInt ≤ 20)))) (by first | exact (zp_t (by omega)).symm | exact (zp_f (by omega)).symm) ?_
                  exact hj_3 
    · have c_2 : 0 ≤ v.toInt ∧ v.toInt < (ft : Int) := zp_1 c_2
      exfalso; exact absurd (by first | with_reducible assumption | assumption) hv
  · have c_1 : 0 ≤ v.toInt ∧ v.toInt < (ft : Int) := zp_1 c_1
    exfalso; exact absurd (by first | with_reducible assumption | assumption) hv
set_option maxHeartbeats 4000000 in
set_option maxRecDepth 100000 in
theorem k_M_run_4 (l : Launch) (dC : Nat → ClassId) (dI : Nat → Nat → Nat) (cI cZ cF : ClassId) (sz : Nat) (k0 : Nat) (a : Nat → Nat) (I0 : Nat → Int32) (J0 : Nat → Int64) (lim : Int32) (hl9 : lim.toInt < 0) : zM l yX11_run cX11_run 2 (some .int) ({ frames := 1, cells := 0, slots := 0, locals := 21 } : Room) [.ref k0, .int lim] (dC, dI) (zTy cI cZ cF) [(om k0 a I0 J0)] sz (some (.int (-1))) (fun A t => zPD (dC, dI) classes A [(om k0 a (upd (upd I0 14 4) 15 (I0 15)) J0)] t.heap) 0 0 := by
  refine zIn (own := "ScaleShopModel") (loc := [(0, .ref k0), (1, .int lim)]) rfl rfl rfl rfl (fun p e s m below meth c hx hb hr hts hown hlocks hml hnm9 A hA hS hP hD hK hXN Q9 hQ9 ls hl => ?_)
  refine lv_iload_n hx hb dX11_run_0 rfl (lv_at hl 1 rfl) ?_
  refine lv_if_ge (tgt := 10) hx hb dX11_run_1 rfl (fun c_1 => ?_) (fun c_1 => ?_)
  · have c_1 : 0 ≤ lim.toInt := zc_le rfl rfl c_1
    exfalso; omega
  · have c_1 : lim.toInt < 0 := zc_nle rfl rfl c_1
    refine lv_aload_n hx hb dX11_run_4 rfl (lv_at hl 0 rfl) ?_
    refine lv_iconst (v := 4) hx hb dX11_run_5 rfl ?_
    obtain ⟨hPc, hDc, hFc⟩ := zo_sub (wc := [_]) hP hD hS hA [0] rfl rfl
    refine zcall (st1 := [.int (-1)]) (va_runV (As := [.int 4]) (rest := []) ⟨hx, hb, hml, hown, hts⟩ (k_M_refuse l dC dI cI cZ cF s.heap.size k0 a I0 J0 4 (by decide)) (csV_185 hts rfl rfl ⟨Nat.le_of_ble_eq_true rfl, Nat.le_of_ble_eq_true rfl⟩) (zPV2 (q0 := 0) (ci := 9) hPc hDc hK hXN rfl rfl) rfl rfl hl.1 rfl (lv_room (Nat.le_of_ble_eq_true rfl)) dX11_run_6 ⟨Nat.le_of_ble_eq_true rfl, Nat.le_of_ble_eq_true rfl⟩) hS hFc hFc rfl (fun t H locs ht hB hk1 hS => ?_)
    obtain ⟨hP1, hD1⟩ := hB
    rw [ht] at hP1
    obtain ⟨hP, hD⟩ := zn (W2 := [(om k0 a (upd (upd I0 14 4) 15 (I0 15)) J0)]) hP hD hk1 hFc hP1 hD1 [0] [] [false] [0] (by decide +kernel) rfl rfl rfl rfl rfl
    clear hk1 hPc hDc hFc hP1 hD1 ht
    obtain ⟨hP9, hD9⟩ := zu_sub (wc := [_]) hP hD [true] rfl rfl
    rw [hQ9]
    exact W.iret (v := (-1)) hx hb hr (fun t ht hW => ⟨⟨rfl, by rw [ht]; exact hP9, hD9⟩, hS.F ht⟩) hS.2.2 dX11_run_9
set_option maxHeartbeats 4000000 in
set_option maxRecDepth 100000 in
theorem k_M_few_4 (l : Launch) (dC : Nat → ClassId) (dI : Nat → Nat → Nat) (cI cZ cF : ClassId) (sz : Nat) (k0 : Nat) (a : Nat → Nat) (I0 : Nat → Int32) (J0 : Nat → Int64) (le9 : Int32) (mv9 : Int32) (hbad : ¬ (0 ≤ le9.toInt ∧ 0 ≤ mv9.toInt ∧ mv9.toInt ≤ 200)) : zM l yX11_few cX11_few 9 (some .int) ({ frames := 1, cells := 0, slots := 0, locals := 21 } : Room) [.ref k0, .int le9, .int mv9] (dC, dI) (zTy cI cZ cF) [(om k0 a I0 J0)] sz (some (.int (-1))) (fun A t => zPD (dC, dI) classes A [(om k0 a (upd (upd I0 14 4) 15 (I0 15)) J0)] t.heap) 0 0 := by
  refine zIn (own := "ScaleShopModel") (loc := [(0, .ref k0), (1, .int le9), (2, .int mv9)]) rfl rfl rfl rfl (fun p e s m below meth c hx hb hr hts hown hlocks hml hnm9 A hA hS hP hD hK hXN Q9 hQ9 ls hl => ?_)
  refine lv_iload_n hx hb dX11_few_0 rfl (lv_at hl 1 rfl) ?_
  refine lv_if_lt (tgt := 15) hx hb dX11_few_1 rfl (fun c_1 => ?_) (fun c_1 => ?_)
  · have c_1 : le9.toInt < 0 := zc_lt rfl rfl c_1
    refine lv_aload_n hx hb dX11_few_15 rfl (lv_at hl 0 rfl) ?_
    refine lv_iconst (v := 4) hx hb dX11_few_16 rfl ?_
    obtain ⟨hPc, hDc, hFc⟩ := zo_sub (wc := [_]) hP hD hS hA [0] rfl rfl
    refine zcall (st1 := [.int (-1)]) (va_runV (As := [.int 4]) (rest := []) ⟨hx, hb, hml, hown, hts⟩ (k_M_refuse l dC dI cI cZ cF s.heap.size k0 a I0 J0 4 (by decide)) (csV_185 hts rfl rfl ⟨Nat.le_of_ble_eq_true rfl, Nat.le_of_ble_eq_true rfl⟩) (zPV2 (q0 := 0) (ci := 9) hPc hDc hK hXN rfl rfl) rfl rfl hl.1 rfl (lv_room (Nat.le_of_ble_eq_true rfl)) dX11_few_17 ⟨Nat.le_of_ble_eq_true rfl, Nat.le_of_ble_eq_true rfl⟩) hS hFc hFc rfl (fun t H locs ht hB hk1 hS => ?_)
    obtain ⟨hP1, hD1⟩ := hB
    rw [ht] at hP1
    obtain ⟨hP, hD⟩ := zn (W2 := [(om k0 a (upd (upd I0 14 4) 15 (I0 15)) J0)]) hP hD hk1 hFc hP1 hD1 [0] [] [false] [0] (by decide +kernel) rfl rfl rfl rfl rfl
    clear hk1 hPc hDc hFc hP1 hD1 ht
    obtain ⟨hP9, hD9⟩ := zu_sub (wc := [_]) hP hD [true] rfl rfl
    rw [hQ9]
    exact W.iret (v := (-1)) hx hb hr (fun t ht hW => ⟨⟨rfl, by rw [ht]; exact hP9, hD9⟩, hS.F ht⟩) hS.2.2 dX11_few_20
  · have c_1 : 0 ≤ le9.toInt := zc_nlt rfl rfl c_1
    refine lv_iload_n hx hb dX11_few_4 rfl (lv_at hl 2 rfl) ?_
    refine lv_if_lt (tgt := 15) hx hb dX11_few_5 rfl (fun c_2 => ?_) (fun c_2 => ?_)
    · have c_2 : mv9.toInt < 0 := zc_lt rfl rfl c_2
      refine lv_aload_n hx hb dX11_few_15 rfl (lv_at hl 0 rfl) ?_
      refine lv_iconst (v := 4) hx hb dX11_few_16 rfl ?_
      obtain ⟨hPc, hDc, hFc⟩ := zo_sub (wc := [_]) hP hD hS hA [0] rfl rfl
      refine zcall (st1 := [.int (-1)]) (va_runV (As := [.int 4]) (rest := []) ⟨hx, hb, hml, hown, hts⟩ (k_M_refuse l dC dI cI cZ cF s.heap.size k0 a I0 J0 4 (by decide)) (csV_185 hts rfl rfl ⟨Nat.le_of_ble_eq_true rfl, Nat.le_of_ble_eq_true rfl⟩) (zPV2 (q0 := 0) (ci := 9) hPc hDc hK hXN rfl rfl) rfl rfl hl.1 rfl (lv_room (Nat.le_of_ble_eq_true rfl)) dX11_few_17 ⟨Nat.le_of_ble_eq_true rfl, Nat.le_of_ble_eq_true rfl⟩) hS hFc hFc rfl (fun t H locs ht hB hk1 hS => ?_)
      obtain ⟨hP1, hD1⟩ := hB
      rw [ht] at hP1
      obtain ⟨hP, hD⟩ := zn (W2 := [(om k0 a (upd (upd I0 14 4) 15 (I0 15)) J0)]) hP hD hk1 hFc hP1 hD1 [0] [] [false] [0] (by decide +kernel) rfl rfl rfl rfl rfl
      clear hk1 hPc hDc hFc hP1 hD1 ht
      obtain ⟨hP9, hD9⟩ := zu_sub (wc := [_]) hP hD [true] rfl rfl
      rw [hQ9]
      exact W.iret (v := (-1)) hx hb hr (fun t ht hW => ⟨⟨rfl, by rw [ht]; exact hP9, hD9⟩, hS.F ht⟩) hS.2.2 dX11_few_20
    · have c_2 : 0 ≤ mv9.toInt := zc_nlt rfl rfl c_2
      refine lv_iload_n hx hb dX11_few_8 rfl (lv_at hl 2 rfl) ?_
      refine lv_sipush (v := 200) hx hb dX11_few_9 rfl ?_
      refine lv_icmp_le (tgt := 21) hx hb dX11_few_12 rfl (fun c_3 => ?_) (fun c_3 => ?_)
      · have c_3 : mv9.toInt ≤ 200 := zc_le rfl rfl c_3
        exfalso; omega
      · have c_3 : 200 < mv9.toInt := zc_nle rfl rfl c_3
        refine lv_aload_n hx hb dX11_few_15 rfl (lv_at hl 0 rfl) ?_
        refine lv_iconst (v := 4) hx hb dX11_few_16 rfl ?_
        obtain ⟨hPc, hDc, hFc⟩ := zo_sub (wc := [_]) hP hD hS hA [0] rfl rfl
        refine zcall (st1 := [.int (-1)]) (va_runV (As := [.int 4]) (rest := []) ⟨hx, hb, hml, hown, hts⟩ (k_M_refuse l dC dI cI cZ cF s.heap.size k0 a I0 J0 4 (by decide)) (csV_185 hts rfl rfl ⟨Nat.le_of_ble_eq_true rfl, Nat.le_of_ble_eq_true rfl⟩) (zPV2 (q0 := 0) (ci := 9) hPc hDc hK hXN rfl rfl) rfl rfl hl.1 rfl (lv_room (Nat.le_of_ble_eq_true rfl)) dX11_few_17 ⟨Nat.le_of_ble_eq_true rfl, Nat.le_of_ble_eq_true rfl⟩) hS hFc hFc rfl (fun t H locs ht hB hk1 hS => ?_)
        obtain ⟨hP1, hD1⟩ := hB
        rw [ht] at hP1
        obtain ⟨hP, hD⟩ := zn (W2 := [(om k0 a (upd (upd I0 14 4) 15 (I0 15)) J0)]) hP hD hk1 hFc hP1 hD1 [0] [] [false] [0] (by decide +kernel) rfl rfl rfl rfl rfl
        clear hk1 hPc hDc hFc hP1 hD1 ht
        obtain ⟨hP9, hD9⟩ := zu_sub (wc := [_]) hP hD [true] rfl rfl
        rw [hQ9]
        exact W.iret (v := (-1)) hx hb hr (fun t ht hW => ⟨⟨rfl, by rw [ht]; exact hP9, hD9⟩, hS.F ht⟩) hS.2.2 dX11_few_20
end
section
set_option maxHeartbeats 4000000 in
set_option maxRecDepth 100000 in
theorem k_M_tell_p0 (l : Launch) (dC : Nat → ClassId) (dI : Nat → Nat → Nat) (cI cZ cF : ClassId) (sz : Nat) (k0 : Nat) (a : Nat → Nat) (I0 : Nat → Int32) (J0 : Nat → Int64) (f : Nat) (n : Nat) (L : Nat) (ft : Nat) (mm9 : Nat) (nn1 : Nat) (dn : Nat) (bs : Nat) (w0 : Nat) (cp : Nat) (c1 : Nat) (kd : Nat → Int32) (st : Nat → Int32) (gb : Nat → Int32) (it : Nat → Int32) (pa : Nat → Int32) (pb : Nat → Int32) (rk : Nat → Int32) (wd : Nat → Int32) (tw : Nat → Int32) (tn : Nat → Int32) (mn : Nat → Int32) (cx : Nat → Int32) (cy : Nat → Int32) (sa : Nat → Int32) (sh : Nat → Int32) (wh : Nat → Int32) (of9 : Nat → Int32) (we : Nat → Int32) (S0 : Nat → Int32) (T0 : Nat → Int32) (P0 : Nat → Int32) (Q0 : Nat → Int32) (ox : Nat → Int32) (oy : Nat → Int32) (mt : Nat → Int32) (wi : Nat → Int32) (ins : Nat → Int32) (fl : Nat → Int32) (la : Nat → Int32) (lb : Nat → Int32) (lc : Nat → Int32) (ld : Nat → Int32) (mn1 : Nat → Int32) (cx1 : Nat → Int32) (cy1 : Nat → Int32) (ln : Nat) (cl : Nat) (hft : I0 0 = nI ft) (h200 : ft ≤ 200) (hf_f : f < ft) (hL : L ≤ 2147483647) (hpi : plI ft st tn kd f mn cx cy n) (hfin : plN ft st tn kd f L mm9 mn cx cy n mn1 cx1 cy1 nn1) (hclm : dlN mm9 cl ln ≤ 100000) (hlc : ln ≤ 64 * cl) (hcl1 : 1 ≤ cl) (hmb : mm9 ≤ 40) (hds : dsR n (cF40 cx f) (cF40 cy f)) (hdn : I0 19 = nI dn) (hbs : I0 21 = nI bs) (hbd : bs ≤ dn) (hd512 : dn ≤ 512) (hi5_1 : (dn - bs) < 515) (hsa_1 : sa (dn - bs) = nI w0) (hmn_1 : ∀ v9, v9 < ft → (tn v9).toInt = 0 → ¬ (st v9).toInt = 0 → mn v9 = nI (nN (mn v9)) ∧ nN (mn v9) ≤ 40) (hc1_1 : 1 ≤ cp) (hpw_1 : pw cp c1) (hw0_1 : w0 ≤ 4096 * cp) (hfit_1 : psN (nnF st tn mn) w0 ft ≤ 4096 * c1) (hmin_1 : c1 = cp ∨ 2048 * c1 < psN (nnF st tn mn) w0 ft) (hcE_1 : c1 ≤ 512) (hz : mm9 = 0) : zM l yX11_tell cX11_tell 9 (some .int) ({ frames := 9, cells := c1 - cp, slots := 8192 * (c1 - cp), locals := 233 } : Room) [.ref k0, .int 1, .int (nI f), .int (nI L)] (dC, dI) (zTy cI cZ cF) ((om k0 a (upd I0 26 (nI ln)) J0) :: (oa (a 1) cI 201 kd) :: (oa (a 5) cI 201 st) :: (oa (a 7) cI 201 gb) :: (oa (a 10) cI 201 it) :: (oa (a 8) cI 201 pa) :: (oa (a 9) cI 201 pb) :: (oa (a 2) cI 201 rk) :: (oa (a 3) cI 201 wd) :: (oa (a 4) cI 201 tw) :: (oa (a 6) cZ 201 tn) :: (oa (a 11) cI 201 mn) :: (oa (a 12) cI 8040 cx) :: (oa (a 13) cI 8040 cy) :: (oa (a 27) cI 516 sa) :: (oa (a 28) cI (4096 * cp) sh) :: (oa (a 16) cI 514 wh) :: (oa (a 17) cI 514 of9) :: (oa (a 18) cI 514 we) :: (oa (a 32) cI 8 S0) :: (oa (a 40) cI 6 T0) :: (oa (a 29) cI 42 P0) :: (oa (a 30) cI 42 Q0) :: (oa (a 33) cI 42 ox) :: (oa (a 34) cI 42 oy) :: (oa (a 37) cZ 201 mt) :: (oa (a 38) cZ 201 wi) :: (oa (a 39) cZ 8040 ins) :: (oa (a 43) cZ 40 fl) :: (oa (a 22) cI (64 * cl) la) :: (oa (a 23) cI (64 * cl) lb) :: (oa (a 24) cI (64 * cl) lc) :: (oa (a 25) cI (64 * cl) ld) :: []) sz (some (.int (-1))) (fun A t => ∃ (z9 : Int32), ∃ (on1 : Int32), ∃ (ok1 : Int32), ∃ (S1 : Nat → Int32), ∃ (T1 : Nat → Int32), ∃ (P1 : Nat → Int32), ∃ (Q1 : Nat → Int32), ∃ (ox1 : Nat → Int32), ∃ (oy1 : Nat → Int32), ∃ (mt1 : Nat → Int32), ∃ (wi1 : Nat → Int32), ∃ (ins1 : Nat → Int32), ∃ (fl1 : Nat → Int32), ∃ (b1 : Nat), ∃ (sh1 : Nat → Int32), ∃ (bl0 : Nat), ∃ (bl1 : Nat), ∃ (bl2 : Nat), ∃ (bl3 : Nat), ∃ (la1 : Nat → Int32), ∃ (lb1 : Nat → Int32), ∃ (lc1 : Nat → Int32), ∃ (ld1 : Nat → Int32), (sh1 w0 = nI ft) ∧ (∀ j, j < w0 → sh1 j = sh j) ∧ (∀ g, g < ft → ∀ j, j < 10 + 2 * nnF st tn mn g → sh1 (psN (nnF st tn mn) w0 g + j) = (shD kd st gb it pa pb rk wd tw (nnF st tn mn) cx cy) g j) ∧ (∀ j, psN (nnF st tn mn) w0 ft ≤ j → j < 4096 * cp → sh1 j = sh j) ∧ (((∀ j, j < ln → pl (lb j) ∧ pl (lc j)) → ∀ j, j < ln → pl (lb1 j) ∧ pl (lc1 j)) ∧ lsE ln la lb lc ld la1 lb1 lc1 ld1) ∧ zPD (dC, dI) classes A ((om k0 (va_up (va_up (va_up (va_up (va_up a 22 bl0) 23 bl1) 24 bl2) 25 bl3) 28 b1) (upd (upd (upd (upd (upd (upd (upd I0 14 8) 15 (I0 15)) 26 (nI ln)) 31 z9) 35 on1) 36 ok1) 41 (nI (psN (nnF st tn mn) w0 ft))) J0) :: (oa (a 1) cI 201 kd) :: (oa (a 5) cI 201 st) :: (oa (a 7) cI 201 gb) :: (oa (a 10) cI 201 it) :: (oa (a 8) cI 201 pa) :: (oa (a 9) cI 201 pb) :: (oa (a 2) cI 201 rk) :: (oa (a 3) cI 201 wd) :: (oa (a 4) cI 201 tw) :: (oa (a 6) cZ 201 tn) :: (oa (a 11) cI 201 mn) :: (oa (a 12) cI 8040 cx) :: (oa (a 13) cI 8040 cy) :: (oa (a 27) cI 516 (upd sa (dn - bs + 1) (nI (psN (nnF st tn mn) w0 ft)))) :: (oa b1 cI (4096 * c1) sh1) :: (oa (a 16) cI 514 wh) :: (oa (a 17) cI 514 of9) :: (oa (a 18) cI 514 we) :: (oa (a 32) cI 8 S1) :: (oa (a 40) cI 6 T1) :: (oa (a 29) cI 42 P1) :: (oa (a 30) cI 42 Q1) :: (oa (a 33) cI 42 ox1) :: (oa (a 34) cI 42 oy1) :: (oa (a 37) cZ 201 mt1) :: (oa (a 38) cZ 201 wi1) :: (oa (a 39) cZ 8040 ins1) :: (oa (a 43) cZ 40 fl1) :: (oa bl0 cI (64 * cl) la1) :: (oa bl1 cI (64 * cl) lb1) :: (oa bl2 cI (64 * cl) lc1) :: (oa bl3 cI (64 * cl) ld1) :: []) t.heap) (c1 - cp) (8192 * (c1 - cp)) := by
  refine zIn (own := "ScaleShopModel") (loc := [(0, .ref k0), (1, .int 1), (2, .int (nI f)), (3, .int (nI L))]) rfl rfl rfl rfl (fun p e s m below meth c hx hb hr hts hown hlocks hml hnm9 A hA hS hP hD hK hXN Q9 hQ9 ls hl => ?_)
  have hq1 := pw_le hpw_1
  have hdl9 := dlN_le mm9 cl ln
  have hz9 := plN_z hz hfin
  have hd0 : dlN mm9 cl ln = cl := (by rw [hz]; rfl)
  refine lv_aload_n hx hb dX11_tell_0 rfl (lv_at hl 0 rfl) ?_
  obtain ⟨hPc, hDc, hFc⟩ := zo_sub (wc := [_, _, _, _, _, _, _, _, _, _, _, _, _, _, _, _]) hP hD hS hA [0, 1, 2, 3, 4, 5, 6, 7, 8, 9, 10, 11, 12, 13, 14, 15] (by decide +kernel) rfl
  refine zcall (st1 := []) (va_runV (As := []) (rest := []) ⟨hx, hb, hml, hown, hts⟩ (k_M_begins l dC dI cI cZ cF s.heap.size k0 a (upd I0 26 (nI ln)) J0 dn bs ft w0 cp c1 kd st gb it pa pb rk wd tw tn mn cx cy sa sh (hft) (by first | with_reducible assumption | omega) (hdn) (hbs) (by first | with_reducible assumption | omega) (by first | with_reducible assumption | omega) (hi5_1) (hsa_1) (hmn_1) (hc1_1) (hpw_1) (hw0_1) (hfit_1) (hmin_1) (hcE_1)) (csV_205 hts rfl rfl ⟨Nat.le_of_ble_eq_true rfl, Nat.le_of_ble_eq_true rfl⟩) (zPV2 (q0 := 0) (ci := 9) hPc hDc hK hXN rfl rfl) rfl rfl hl.1 rfl (lv_room (Nat.le_of_ble_eq_true rfl)) dX11_tell_1 ⟨show (0 + (c1 - cp)) ≤ c1 - cp by omega, show (0 + (8192 * (c1 - cp))) ≤ 8192 * (c1 - cp) by omega⟩) hS hFc hFc rfl (fun t H locs ht hB hk1 hS => ?_)
  obtain ⟨b1, sh1, g1, g2, g3, g4, hP1, hD1⟩ := hB
  rw [ht] at hP1
  obtain ⟨hP, hD⟩ := zn (W2 := (_ :: _ :: _ :: _ :: _ :: _ :: _ :: _ :: _ :: _ :: _ :: _ :: _ :: _ :: _ :: _ :: _ :: (om k0 (va_up a 28 b1) (upd (upd I0 26 (nI ln)) 41 (nI (psN (nnF st tn mn) w0 ft))) J0) :: (oa (a 1) cI 201 kd) :: (oa (a 5) cI 201 st) :: (oa (a 7) cI 201 gb) :: (oa (a 10) cI 201 it) :: (oa (a 8) cI 201 pa) :: (oa (a 9) cI 201 pb) :: (oa (a 2) cI 201 rk) :: (oa (a 3) cI 201 wd) :: (oa (a 4) cI 201 tw) :: (oa (a 6) cZ 201 tn) :: (oa (a 11) cI 201 mn) :: (oa (a 12) cI 8040 cx) :: (oa (a 13) cI 8040 cy) :: (oa (a 27) cI 516 (upd sa ((dn - bs) + 1) (nI (psN (nnF st tn mn) w0 ft)))) :: (oa b1 cI (4096 * c1) sh1) :: [])) hP hD hk1 hFc hP1 hD1 zl_80 zl_214 zl_215 zl_216 (by decide +kernel) rfl rfl rfl rfl rfl
  clear hk1 hPc hDc hFc hP1 hD1 ht
  refine lv_iconst (v := 0) hx hb dX11_tell_4 rfl ?_
  refine lv_istore (lv' := [(4, .int 0), (0, .ref k0), (1, .int 1), (2, .int (nI f)), (3, .int (nI L))]) hx hb dX11_tell_5 hl (Nat.le_of_ble_eq_true rfl) rfl (fun ls hl => ?_)
  refine lv_aload_n hx hb dX11_tell_7 rfl (lv_at hl 1 rfl) ?_
  refine va_get (D := (dC, dI)) (ci := 9) (v := .int (nI ln)) (C := RX11) (T := TX11) (N := 55) hx hb hts inX11 hown hK hP 17 rfl rfl 26 (Nat.le_of_ble_eq_true rfl) (hts _ mw_1185) (fun _ h9 => h9) rfl dX11_tell_8 ?_
  refine lv_istore (lv' := [(5, .int (nI ln)), (4, .int 0), (0, .ref k0), (1, .int 1), (2, .int (nI f)), (3, .int (nI L))]) hx hb dX11_tell_11 hl (Nat.le_of_ble_eq_true rfl) rfl (fun ls hl => ?_)
  refine lv_iload_n hx hb dX11_tell_13 rfl (lv_at hl 3 rfl) ?_
  refine lv_iconst (v := 1) hx hb dX11_tell_14 rfl ?_
  refine lv_icmp_ne (tgt := 35) hx hb dX11_tell_15 rfl (fun c_1 => ?_) (fun c_1 => ?_)
  · exact absurd (by decide) c_1
  · refine lv_aload_n hx hb dX11_tell_18 rfl (lv_at hl 2 rfl) ?_
    refine lv_iload_n hx hb dX11_tell_19 rfl (lv_at hl 4 rfl) ?_
    refine lv_iload_n hx hb dX11_tell_20 rfl (lv_at hl 5 rfl) ?_
    refine lv_aload_n hx hb dX11_tell_21 rfl (lv_at hl 2 rfl) ?_
    refine va_get (D := (dC, dI)) (ci := 9) (v := .int (I0 19)) (C := RX11) (T := TX11) (N := 55) hx hb hts inX11 hown hK hP 17 rfl rfl 19 (Nat.le_of_ble_eq_true rfl) (hts _ mw_1178) (fun _ h9 => h9) rfl dX11_tell_22 ?_
    refine zz_i (v := nI dn) (hdn) ?_
    refine lv_iconst (v := 1) hx hb dX11_tell_25 rfl ?_
    refine lv_iadd hx hb dX11_tell_26 ?_
    refine zz_i (v := nI (dn + 1)) (nI_add dn 1) ?_
    obtain ⟨hPc, hDc, hFc⟩ := zo_sub (wc := [_, _, _, _, _, _, _, _, _, _, _, _, _, _, _, _, _, _, _, _, _]) hP hD hS hA [17, 19, 27, 18, 28, 29, 30, 3, 4, 5, 6, 7, 8, 9, 10, 11, 12, 13, 14, 15, 16] (by decide +kernel) rfl
    refine zcall (st1 := [.int (nI mm9)]) (va_runV (As := [.int (nI f), .int (nI L), .int (nI (dn + 1))]) (rest := []) ⟨hx, hb, hml, hown, hts⟩ (k_M_plainAll l dC dI cI cZ cF H.size k0 (va_up a 28 b1) (upd (upd I0 26 (nI ln)) 41 (nI (psN (nnF st tn mn) w0 ft))) J0 f n L ft ln cl mm9 nn1 (nI (dn + 1)) st tn kd mn cx cy S0 T0 P0 Q0 ox oy mt wi ins fl la lb lc ld mn1 cx1 cy1 (hft) (by first | with_reducible assumption | omega) (by first | with_reducible assumption | omega) (by first | with_reducible assumption | omega) (hpi) (hfin) (by first | with_reducible assumption | omega) (by first | with_reducible assumption | omega) (by first | with_reducible assumption | omega) (by first | with_reducible assumption | omega) (hds)) (csV_214 hts rfl rfl ⟨Nat.le_of_ble_eq_true rfl, Nat.le_of_ble_eq_true rfl⟩) (zPV2 (q0 := 0) (ci := 9) hPc hDc hK hXN rfl rfl) rfl rfl hl.1 rfl (lv_room (Nat.le_of_ble_eq_true rfl)) dX11_tell_27 ⟨show ((0 + (c1 - cp)) + (4 * (dlN mm9 cl ln - cl))) ≤ c1 - cp by omega, show ((0 + (8192 * (c1 - cp))) + (512 * (dlN mm9 cl ln - cl))) ≤ 8192 * (c1 - cp) by omega⟩) hS hFc hFc rfl (fun t H locs ht hB hk1 hS => ?_)
    refine ex21 hB (fun z9 on1 ok1 S1 T1 P1 Q1 ox1 oy1 mt1 wi1 ins1 fl1 bl0 bl1 bl2 bl3 la2 lb2 lc2 ld2 hB0 => ?_)
    clear hB
    obtain ⟨hlp, hlsA, hP1, hD1⟩ := hB0
    rw [ht] at hP1
    obtain ⟨hP, hD⟩ := zn (W2 := (_ :: _ :: _ :: _ :: _ :: _ :: _ :: _ :: _ :: _ :: _ :: _ :: (om k0 (va_up (va_up (va_up (va_up (va_up a 22 bl0) 23 bl1) 24 bl2) 25 bl3) 28 b1) (upd (upd (upd (upd (upd I0 26 (nI (ln + mm9))) 31 z9) 35 on1) 36 ok1) 41 (nI (psN (nnF st tn mn) w0 ft))) J0) :: (oa (a 5) cI 201 st) :: (oa (a 6) cZ 201 tn) :: (oa (a 1) cI 201 kd) :: (oa (a 11) cI 201 mn1) :: (oa (a 12) cI 8040 cx1) :: (oa (a 13) cI 8040 cy1) :: (oa (a 32) cI 8 S1) :: (oa (a 40) cI 6 T1) :: (oa (a 29) cI 42 P1) :: (oa (a 30) cI 42 Q1) :: (oa (a 33) cI 42 ox1) :: (oa (a 34) cI 42 oy1) :: (oa (a 37) cZ 201 mt1) :: (oa (a 38) cZ 201 wi1) :: (oa (a 39) cZ 8040 ins1) :: (oa (a 43) cZ 40 fl1) :: (oa bl0 cI (64 * (dlN mm9 cl ln)) la2) :: (oa bl1 cI (64 * (dlN mm9 cl ln)) lb2) :: (oa bl2 cI (64 * (dlN mm9 cl ln)) lc2) :: (oa bl3 cI (64 * (dlN mm9 cl ln)) ld2) :: [])) hP hD hk1 hFc hP1 hD1 zl_217 zl_218 zl_219 zl_220 (by decide +kernel) rfl rfl rfl rfl rfl
    clear hk1 hPc hDc hFc hP1 hD1 ht
    refine lv_istore (lv' := [(4, .int (nI mm9)), (5, .int (nI ln)), (0, .ref k0), (1, .int 1), (2, .int (nI f)), (3, .int (nI L))]) hx hb dX11_tell_30 hl (Nat.le_of_ble_eq_true rfl) rfl (fun ls hl => ?_)
    refine lv_goto (tgt := 122) hx hb dX11_tell_32 rfl ?_
    refine lv_iload hx hb dX11_tell_122 (lv_at hl 0 rfl) ?_
    have b9_3 : zlt (mm9) := show mm9 < 2147483648 by omega
    refine lv_if_ne (tgt := 134) hx hb dX11_tell_124 rfl (fun c_2 => ?_) (fun c_2 => ?_)
    · have c_2 : ¬ ((mm9 : Nat) : Int) = 0 := zc_ne (nI_toInt b9_3) rfl c_2
      exfalso; omega
    · have c_2 : ((mm9 : Nat) : Int) = 0 := zc_eq (nI_toInt b9_3) rfl c_2
      refine lv_aload_n hx hb dX11_tell_127 rfl (lv_at hl 2 rfl) ?_
      refine lv_bipush (v := 8) hx hb dX11_tell_128 rfl ?_
      obtain ⟨hPc, hDc, hFc⟩ := zo_sub (wc := [_]) hP hD hS hA [12] rfl rfl
      refine zcall (st1 := [.int (-1)]) (va_runV (As := [.int 8]) (rest := []) ⟨hx, hb, hml, hown, hts⟩ (k_M_refuse l dC dI cI cZ cF H.size k0 (va_up (va_up (va_up (va_up (va_up a 22 bl0) 23 bl1) 24 bl2) 25 bl3) 28 b1) (upd (upd (upd (upd (upd I0 26 (nI (ln + mm9))) 31 z9) 35 on1) 36 ok1) 41 (nI (psN (nnF st tn mn) w0 ft))) J0 8 (by decide)) (csV_185 hts rfl rfl ⟨Nat.le_of_ble_eq_true rfl, Nat.le_of_ble_eq_true rfl⟩) (zPV2 (q0 := 0) (ci := 9) hPc hDc hK hXN rfl rfl) rfl rfl hl.1 rfl (lv_room (Nat.le_of_ble_eq_true rfl)) dX11_tell_130 ⟨show ((0 + (c1 - cp)) + (4 * (dlN mm9 cl ln - cl))) ≤ c1 - cp by omega, show ((0 + (8192 * (c1 - cp))) + (512 * (dlN mm9 cl ln - cl))) ≤ 8192 * (c1 - cp) by omega⟩) hS hFc hFc rfl (fun t H locs ht hB hk1 hS => ?_)
      obtain ⟨hP1, hD1⟩ := hB
      rw [ht] at hP1
      obtain ⟨hP, hD⟩ := zn (W2 := (_ :: _ :: _ :: _ :: _ :: _ :: _ :: _ :: _ :: _ :: _ :: _ :: (om k0 (va_up (va_up (va_up (va_up (va_up a 22 bl0) 23 bl1) 24 bl2) 25 bl3) 28 b1) (upd (upd (upd (upd (upd (upd (upd I0 14 8) 15 (I0 15)) 26 (nI (ln + mm9))) 31 z9) 35 on1) 36 ok1) 41 (nI (psN (nnF st tn mn) w0 ft))) J0) :: _ :: _ :: _ :: _ :: _ :: _ :: _ :: _ :: _ :: _ :: _ :: _ :: _ :: _ :: _ :: _ :: _ :: _ :: _ :: _ :: [])) hP hD hk1 hFc hP1 hD1 [12] zl_221 zl_221 [12] (by decide +kernel) rfl rfl rfl rfl rfl
      clear hk1 hPc hDc hFc hP1 hD1 ht
      obtain ⟨hP9, hD9⟩ := zq_sub (wc := ((om k0 (va_up (va_up (va_up (va_up (va_up a 22 bl0) 23 bl1) 24 bl2) 25 bl3) 28 b1) (upd (upd (upd (upd (upd (upd (upd I0 14 8) 15 (I0 15)) 26 (nI (ln + mm9))) 31 z9) 35 on1) 36 ok1) 41 (nI (psN (nnF st tn mn) w0 ft))) J0) :: (oa (a 1) cI 201 kd) :: (oa (a 5) cI 201 st) :: (oa (a 7) cI 201 gb) :: (oa (a 10) cI 201 it) :: (oa (a 8) cI 201 pa) :: (oa (a 9) cI 201 pb) :: (oa (a 2) cI 201 rk) :: (oa (a 3) cI 201 wd) :: (oa (a 4) cI 201 tw) :: (oa (a 6) cZ 201 tn) :: (oa (a 11) cI 201 mn1) :: (oa (a 12) cI 8040 cx1) :: (oa (a 13) cI 8040 cy1) :: (oa (a 27) cI 516 (upd sa ((dn - bs) + 1) (nI (psN (nnF st tn mn) w0 ft)))) :: (oa b1 cI (4096 * c1) sh1) :: (oa (a 16) cI 514 wh) :: (oa (a 17) cI 514 of9) :: (oa (a 18) cI 514 we) :: (oa (a 32) cI 8 S1) :: (oa (a 40) cI 6 T1) :: (oa (a 29) cI 42 P1) :: (oa (a 30) cI 42 Q1) :: (oa (a 33) cI 42 ox1) :: (oa (a 34) cI 42 oy1) :: (oa (a 37) cZ 201 mt1) :: (oa (a 38) cZ 201 wi1) :: (oa (a 39) cZ 8040 ins1) :: (oa (a 43) cZ 40 fl1) :: (oa bl0 cI (64 * (dlN mm9 cl ln)) la2) :: (oa bl1 cI (64 * (dlN mm9 cl ln)) lb2) :: (oa bl2 cI (64 * (dlN mm9 cl ln)) lc2) :: (oa bl3 cI (64 * (dlN mm9 cl ln)) ld2) :: [])) hP hD (12 :: 15 :: 13 :: 3 :: 4 :: 5 :: 6 :: 7 :: 8 :: 9 :: 14 :: 16 :: 17 :: 18 :: 10 :: 11 :: 0 :: 1 :: 2 :: 19 :: 20 :: 21 :: 22 :: 23 :: 24 :: 25 :: 26 :: 27 :: 28 :: 29 :: 30 :: 31 :: 32 :: []) rfl rfl
      have hE9 : (((om k0 (va_up (va_up (va_up (va_up (va_up a 22 bl0) 23 bl1) 24 bl2) 25 bl3) 28 b1) (upd (upd (upd (upd (upd (upd (upd I0 14 8) 15 (I0 15)) 26 (nI (ln + mm9))) 31 z9) 35 on1) 36 ok1) 41 (nI (psN (nnF st tn mn) w0 ft))) J0) :: (oa (a 1) cI 201 kd) :: (oa (a 5) cI 201 st) :: (oa (a 7) cI 201 gb) :: (oa (a 10) cI 201 it) :: (oa (a 8) cI 201 pa) :: (oa (a 9) cI 201 pb) :: (oa (a 2) cI 201 rk) :: (oa (a 3) cI 201 wd) :: (oa (a 4) cI 201 tw) :: (oa (a 6) cZ 201 tn) :: (oa (a 11) cI 201 mn1) :: (oa (a 12) cI 8040 cx1) :: (oa (a 13) cI 8040 cy1) :: (oa (a 27) cI 516 (upd sa ((dn - bs) + 1) (nI (psN (nnF st tn mn) w0 ft)))) :: (oa b1 cI (4096 * c1) sh1) :: (oa (a 16) cI 514 wh) :: (oa (a 17) cI 514 of9) :: (oa (a 18) cI 514 we) :: (oa (a 32) cI 8 S1) :: (oa (a 40) cI 6 T1) :: (oa (a 29) cI 42 P1) :: (oa (a 30) cI 42 Q1) :: (oa (a 33) cI 42 ox1) :: (oa (a 34) cI 42 oy1) :: (oa (a 37) cZ 201 mt1) :: (oa (a 38) cZ 201 wi1) :: (oa (a 39) cZ 8040 ins1) :: (oa (a 43) cZ 40 fl1) :: (oa bl0 cI (64 * (dlN mm9 cl ln)) la2) :: (oa bl1 cI (64 * (dlN mm9 cl ln)) lb2) :: (oa bl2 cI (64 * (dlN mm9 cl ln)) lc2) :: (oa bl3 cI (64 * (dlN mm9 cl ln)) ld2) :: []) : va_W) = ((om k0 (va_up (va_up (va_up (va_up (va_up a 22 bl0) 23 bl1) 24 bl2) 25 bl3) 28 b1) (upd (upd (upd (upd (upd (upd (upd I0 14 8) 15 (I0 15)) 26 (nI ln)) 31 z9) 35 on1) 36 ok1) 41 (nI (psN (nnF st tn mn) w0 ft))) J0) :: (oa (a 1) cI 201 kd) :: (oa (a 5) cI 201 st) :: (oa (a 7) cI 201 gb) :: (oa (a 10) cI 201 it) :: (oa (a 8) cI 201 pa) :: (oa (a 9) cI 201 pb) :: (oa (a 2) cI 201 rk) :: (oa (a 3) cI 201 wd) :: (oa (a 4) cI 201 tw) :: (oa (a 6) cZ 201 tn) :: (oa (a 11) cI 201 mn) :: (oa (a 12) cI 8040 cx) :: (oa (a 13) cI 8040 cy) :: (oa (a 27) cI 516 (upd sa (dn - bs + 1) (nI (psN (nnF st tn mn) w0 ft)))) :: (oa b1 cI (4096 * c1) sh1) :: (oa (a 16) cI 514 wh) :: (oa (a 17) cI 514 of9) :: (oa (a 18) cI 514 we) :: (oa (a 32) cI 8 S1) :: (oa (a 40) cI 6 T1) :: (oa (a 29) cI 42 P1) :: (oa (a 30) cI 42 Q1) :: (oa (a 33) cI 42 ox1) :: (oa (a 34) cI 42 oy1) :: (oa (a 37) cZ 201 mt1) :: (oa (a 38) cZ 201 wi1) :: (oa (a 39) cZ 8040 ins1) :: (oa (a 43) cZ 40 fl1) :: (oa bl0 cI (64 * cl) la2) :: (oa bl1 cI (64 * cl) lb2) :: (oa bl2 cI (64 * cl) lc2) :: (oa bl3 cI (64 * cl) ld2) :: []) := by rw [hz9.1, hz9.2.1, hz9.2.2.1, hd0, hz]; try rfl
      rw [hE9] at hP9 hD9
      refine W.widen (k := c1 - cp) (n := 8192 * (c1 - cp)) (by omega) (by omega) ?_
      rw [hQ9]
      exact W.iret (v := (-1)) hx hb hr (fun t ht hW => ⟨⟨rfl, z9, on1, ok1, S1, T1, P1, Q1, ox1, oy1, mt1, wi1, ins1, fl1, b1, sh1, bl0, bl1, bl2, bl3, la2, lb2, lc2, ld2, (g1), (g2), (g3), (g4), (⟨fun h j hj => hlp h j (by omega), lsM_e hlsA⟩), by rw [ht]; exact hP9, hD9⟩, hS.F ht⟩) hS.2.2 dX11_tell_133
set_option maxHeartbeats 4000000 in
set_option maxRecDepth 100000 in
theorem k_M_tell_py (l : Launch) (dC : Nat → ClassId) (dI : Nat → Nat → Nat) (cI cZ cF : ClassId) (sz : Nat) (k0 : Nat) (a : Nat → Nat) (I0 : Nat → Int32) (J0 : Nat → Int64) (f : Nat) (n : Nat) (L : Nat) (ft : Nat) (mm9 : Nat) (nn1 : Nat) (dn : Nat) (bs : Nat) (w0 : Nat) (cp : Nat) (c1 : Nat) (kd : Nat → Int32) (st : Nat → Int32) (gb : Nat → Int32) (it : Nat → Int32) (pa : Nat → Int32) (pb : Nat → Int32) (rk : Nat → Int32) (wd : Nat → Int32) (tw : Nat → Int32) (tn : Nat → Int32) (mn : Nat → Int32) (cx : Nat → Int32) (cy : Nat → Int32) (sa : Nat → Int32) (sh : Nat → Int32) (wh : Nat → Int32) (of9 : Nat → Int32) (we : Nat → Int32) (S0 : Nat → Int32) (T0 : Nat → Int32) (P0 : Nat → Int32) (Q0 : Nat → Int32) (ox : Nat → Int32) (oy : Nat → Int32) (mt : Nat → Int32) (wi : Nat → Int32) (ins : Nat → Int32) (fl : Nat → Int32) (la : Nat → Int32) (lb : Nat → Int32) (lc : Nat → Int32) (ld : Nat → Int32) (mn1 : Nat → Int32) (cx1 : Nat → Int32) (cy1 : Nat → Int32) (c2 : Nat) (ln : Nat) (cl : Nat) (hft : I0 0 = nI ft) (h200 : ft ≤ 200) (hf_f : f < ft) (hL : L ≤ 2147483647) (hpi : plI ft st tn kd f mn cx cy n) (hfin : plN ft st tn kd f L mm9 mn cx cy n mn1 cx1 cy1 nn1) (hclm : dlN mm9 cl ln ≤ 100000) (hlc : ln ≤ 64 * cl) (hcl1 : 1 ≤ cl) (hmb : mm9 ≤ 40) (hds : dsR n (cF40 cx f) (cF40 cy f)) (hdn : I0 19 = nI dn) (hbs : I0 21 = nI bs) (hbd : bs ≤ dn) (hd512 : dn ≤ 512) (hi5_1 : (dn - bs) < 515) (hsa_1 : sa (dn - bs) = nI w0) (hmn_1 : ∀ v9, v9 < ft → (tn v9).toInt = 0 → ¬ (st v9).toInt = 0 → mn v9 = nI (nN (mn v9)) ∧ nN (mn v9) ≤ 40) (hc1_1 : 1 ≤ cp) (hpw_1 : pw cp c1) (hw0_1 : w0 ≤ 4096 * cp) (hfit_1 : psN (nnF st tn mn) w0 ft ≤ 4096 * c1) (hmin_1 : c1 = cp ∨ 2048 * c1 < psN (nnF st tn mn) w0 ft) (hcE_1 : c1 ≤ 512) (hmn_2 : ∀ v9, v9 < ft → (tn v9).toInt = 0 → ¬ (st v9).toInt = 0 → mn1 v9 = nI (nN (mn1 v9)) ∧ nN (mn1 v9) ≤ 40) (hpw_2 : pw c1 c2) (hfit_2 : psN (nnF st tn mn1) (psN (nnF st tn mn) w0 ft) ft ≤ 4096 * c2) (hmin_2 : c2 = c1 ∨ 2048 * c2 < psN (nnF st tn mn1) (psN (nnF st tn mn) w0 ft) ft) (hcE_2 : c2 ≤ 512) (hz : 0 < mm9) (hlc3 : ln + mm9 ≤ 64 * dlN mm9 cl ln) : zM l yX11_tell cX11_tell 9 (some .int) ({ frames := 9, cells := (c2 - cp) + 4 * (dlN mm9 cl ln - cl), slots := 8192 * (c2 - cp) + 512 * (dlN mm9 cl ln - cl), locals := 233 } : Room) [.ref k0, .int 1, .int (nI f), .int (nI L)] (dC, dI) (zTy cI cZ cF) ((om k0 a (upd I0 26 (nI ln)) J0) :: (oa (a 1) cI 201 kd) :: (oa (a 5) cI 201 st) :: (oa (a 7) cI 201 gb) :: (oa (a 10) cI 201 it) :: (oa (a 8) cI 201 pa) :: (oa (a 9) cI 201 pb) :: (oa (a 2) cI 201 rk) :: (oa (a 3) cI 201 wd) :: (oa (a 4) cI 201 tw) :: (oa (a 6) cZ 201 tn) :: (oa (a 11) cI 201 mn) :: (oa (a 12) cI 8040 cx) :: (oa (a 13) cI 8040 cy) :: (oa (a 27) cI 516 sa) :: (oa (a 28) cI (4096 * cp) sh) :: (oa (a 16) cI 514 wh) :: (oa (a 17) cI 514 of9) :: (oa (a 18) cI 514 we) :: (oa (a 32) cI 8 S0) :: (oa (a 40) cI 6 T0) :: (oa (a 29) cI 42 P0) :: (oa (a 30) cI 42 Q0) :: (oa (a 33) cI 42 ox) :: (oa (a 34) cI 42 oy) :: (oa (a 37) cZ 201 mt) :: (oa (a 38) cZ 201 wi) :: (oa (a 39) cZ 8040 ins) :: (oa (a 43) cZ 40 fl) :: (oa (a 22) cI (64 * cl) la) :: (oa (a 23) cI (64 * cl) lb) :: (oa (a 24) cI (64 * cl) lc) :: (oa (a 25) cI (64 * cl) ld) :: []) sz (some (.int (nI mm9))) (fun A t => ∃ (z9 : Int32), ∃ (on1 : Int32), ∃ (ok1 : Int32), ∃ (S1 : Nat → Int32), ∃ (T1 : Nat → Int32), ∃ (P1 : Nat → Int32), ∃ (Q1 : Nat → Int32), ∃ (ox1 : Nat → Int32), ∃ (oy1 : Nat → Int32), ∃ (mt1 : Nat → Int32), ∃ (wi1 : Nat → Int32), ∃ (ins1 : Nat → Int32), ∃ (fl1 : Nat → Int32), ∃ (b2 : Nat), ∃ (sh2 : Nat → Int32), ∃ (t9 : Nat), ∃ (bl0 : Nat), ∃ (bl1 : Nat), ∃ (bl2 : Nat), ∃ (bl3 : Nat), ∃ (la1 : Nat → Int32), ∃ (lb1 : Nat → Int32), ∃ (lc1 : Nat → Int32), ∃ (ld1 : Nat → Int32), (sh2 w0 = nI ft) ∧ (∀ j, j < w0 → sh2 j = sh j) ∧ (∀ g, g < ft → ∀ j, j < 10 + 2 * (nnF st tn mn) g → sh2 (psN (nnF st tn mn) w0 g + j) = (shD kd st gb it pa pb rk wd tw (nnF st tn mn) cx cy) g j) ∧ (sh2 (psN (nnF st tn mn) w0 ft) = nI ft) ∧ (∀ g, g < ft → ∀ j, j < 10 + 2 * (nnF st tn mn1) g → sh2 (psN (nnF st tn mn1) (psN (nnF st tn mn) w0 ft) g + j) = (shD kd st gb it pa pb rk wd tw (nnF st tn mn1) cx1 cy1) g j) ∧ (t9 ≤ ln + mm9) ∧ (((∀ j, j < ln → pl (lb j) ∧ pl (lc j)) → ∀ j, j < t9 → pl (lb1 j) ∧ pl (lc1 j)) ∧ lsZ dn ln la lb lc ld t9 la1 lb1 lc1 ld1 (fun q x y => q = f ∧ isR n (cF40 cx f) (cF40 cy f) x y ∧ ¬ isR nn1 (cF40 cx1 f) (cF40 cy1 f) x y)) ∧ zPD (dC, dI) classes A ((om k0 (va_up (va_up (va_up (va_up (va_up a 22 bl0) 23 bl1) 24 bl2) 25 bl3) 28 b2) (upd (upd (upd (upd (upd (upd (upd (upd I0 14 0) 19 (nI (dn + 1))) 20 0) 26 (nI t9)) 31 z9) 35 on1) 36 ok1) 41 (nI (psN (nnF st tn mn1) (psN (nnF st tn mn) w0 ft) ft))) J0) :: (oa (a 1) cI 201 kd) :: (oa (a 5) cI 201 st) :: (oa (a 7) cI 201 gb) :: (oa (a 10) cI 201 it) :: (oa (a 8) cI 201 pa) :: (oa (a 9) cI 201 pb) :: (oa (a 2) cI 201 rk) :: (oa (a 3) cI 201 wd) :: (oa (a 4) cI 201 tw) :: (oa (a 6) cZ 201 tn) :: (oa (a 11) cI 201 mn1) :: (oa (a 12) cI 8040 cx1) :: (oa (a 13) cI 8040 cy1) :: (oa (a 27) cI 516 (upd (upd sa (dn - bs + 1) (nI (psN (nnF st tn mn) w0 ft))) (dn + 1 - bs + 1) (nI (psN (nnF st tn mn1) (psN (nnF st tn mn) w0 ft) ft)))) :: (oa b2 cI (4096 * c2) sh2) :: (oa (a 16) cI 514 (upd wh (dn + 1) (1 : Int32))) :: (oa (a 17) cI 514 (upd of9 (dn + 1) (nI f))) :: (oa (a 18) cI 514 (upd we (dn + 1) (nI mm9))) :: (oa (a 32) cI 8 S1) :: (oa (a 40) cI 6 T1) :: (oa (a 29) cI 42 P1) :: (oa (a 30) cI 42 Q1) :: (oa (a 33) cI 42 ox1) :: (oa (a 34) cI 42 oy1) :: (oa (a 37) cZ 201 mt1) :: (oa (a 38) cZ 201 wi1) :: (oa (a 39) cZ 8040 ins1) :: (oa (a 43) cZ 40 fl1) :: (oa bl0 cI (64 * (dlN mm9 cl ln)) la1) :: (oa bl1 cI (64 * (dlN mm9 cl ln)) lb1) :: (oa bl2 cI (64 * (dlN mm9 cl ln)) lc1) :: (oa bl3 cI (64 * (dlN mm9 cl ln)) ld1) :: []) t.heap) ((c2 - cp) + 4 * (dlN mm9 cl ln - cl)) (8192 * (c2 - cp) + 512 * (dlN mm9 cl ln - cl)) := by
  refine zIn (own := "ScaleShopModel") (loc := [(0, .ref k0), (1, .int 1), (2, .int (nI f)), (3, .int (nI L))]) rfl rfl rfl rfl (fun p e s m below meth c hx hb hr hts hown hlocks hml hnm9 A hA hS hP hD hK hXN Q9 hQ9 ls hl => ?_)
  have hq1 := pw_le hpw_1
  have hdl9 := dlN_le mm9 cl ln
  have hq2 := pw_le hpw_2
  refine lv_aload_n hx hb dX11_tell_0 rfl (lv_at hl 0 rfl) ?_
  obtain ⟨hPc, hDc, hFc⟩ := zo_sub (wc := [_, _, _, _, _, _, _, _, _, _, _, _, _, _, _, _]) hP hD hS hA [0, 1, 2, 3, 4, 5, 6, 7, 8, 9, 10, 11, 12, 13, 14, 15] (by decide +kernel) rfl
  refine zcall (st1 := []) (va_runV (As := []) (rest := []) ⟨hx, hb, hml, hown, hts⟩ (k_M_begins l dC dI cI cZ cF s.heap.size k0 a (upd I0 26 (nI ln)) J0 dn bs ft w0 cp c1 kd st gb it pa pb rk wd tw tn mn cx cy sa sh (hft) (by first | with_reducible assumption | omega) (hdn) (hbs) (by first | with_reducible assumption | omega) (by first | with_reducible assumption | omega) (hi5_1) (hsa_1) (hmn_1) (hc1_1) (hpw_1) (hw0_1) (hfit_1) (hmin_1) (hcE_1)) (csV_205 hts rfl rfl ⟨Nat.le_of_ble_eq_true rfl, Nat.le_of_ble_eq_true rfl⟩) (zPV2 (q0 := 0) (ci := 9) hPc hDc hK hXN rfl rfl) rfl rfl hl.1 rfl (lv_room (Nat.le_of_ble_eq_true rfl)) dX11_tell_1 ⟨show (0 + (c1 - cp)) ≤ (c2 - cp) + 4 * (dlN mm9 cl ln - cl) by omega, show (0 + (8192 * (c1 - cp))) ≤ 8192 * (c2 - cp) + 512 * (dlN mm9 cl ln - cl) by omega⟩) hS hFc hFc rfl (fun t H locs ht hB hk1 hS => ?_)
  obtain ⟨b1, sh1, g1, g2, g3, g4, hP1, hD1⟩ := hB
  rw [ht] at hP1
  obtain ⟨hP, hD⟩ := zn (W2 := (_ :: _ :: _ :: _ :: _ :: _ :: _ :: _ :: _ :: _ :: _ :: _ :: _ :: _ :: _ :: _ :: _ :: (om k0 (va_up a 28 b1) (upd (upd I0 26 (nI ln)) 41 (nI (psN (nnF st tn mn) w0 ft))) J0) :: (oa (a 1) cI 201 kd) :: (oa (a 5) cI 201 st) :: (oa (a 7) cI 201 gb) :: (oa (a 10) cI 201 it) :: (oa (a 8) cI 201 pa) :: (oa (a 9) cI 201 pb) :: (oa (a 2) cI 201 rk) :: (oa (a 3) cI 201 wd) :: (oa (a 4) cI 201 tw) :: (oa (a 6) cZ 201 tn) :: (oa (a 11) cI 201 mn) :: (oa (a 12) cI 8040 cx) :: (oa (a 13) cI 8040 cy) :: (oa (a 27) cI 516 (upd sa ((dn - bs) + 1) (nI (psN (nnF st tn mn) w0 ft)))) :: (oa b1 cI (4096 * c1) sh1) :: [])) hP hD hk1 hFc hP1 hD1 zl_80 zl_214 zl_215 zl_216 (by decide +kernel) rfl rfl rfl rfl rfl
  clear hk1 hPc hDc hFc hP1 hD1 ht
  refine lv_iconst (v := 0) hx hb dX11_tell_4 rfl ?_
  refine lv_istore (lv' := [(4, .int 0), (0, .ref k0), (1, .int 1), (2, .int (nI f)), (3, .int (nI L))]) hx hb dX11_tell_5 hl (Nat.le_of_ble_eq_true rfl) rfl (fun ls hl => ?_)
  refine lv_aload_n hx hb dX11_tell_7 rfl (lv_at hl 1 rfl) ?_
  refine va_get (D := (dC, dI)) (ci := 9) (v := .int (nI ln)) (C := RX11) (T := TX11) (N := 55) hx hb hts inX11 hown hK hP 17 rfl rfl 26 (Nat.le_of_ble_eq_true rfl) (hts _ mw_1185) (fun _ h9 => h9) rfl dX11_tell_8 ?_
  refine lv_istore (lv' := [(5, .int (nI ln)), (4, .int 0), (0, .ref k0), (1, .int 1), (2, .int (nI f)), (3, .int (nI L))]) hx hb dX11_tell_11 hl (Nat.le_of_ble_eq_true rfl) rfl (fun ls hl => ?_)
  refine lv_iload_n hx hb dX11_tell_13 rfl (lv_at hl 3 rfl) ?_
  refine lv_iconst (v := 1) hx hb dX11_tell_14 rfl ?_
  refine lv_icmp_ne (tgt := 35) hx hb dX11_tell_15 rfl (fun c_1 => ?_) (fun c_1 => ?_)
  · exact absurd (by decide) c_1
  · refine lv_aload_n hx hb dX11_tell_18 rfl (lv_at hl 2 rfl) ?_
    refine lv_iload_n hx hb dX11_tell_19 rfl (lv_at hl 4 rfl) ?_
    refine lv_iload_n hx hb dX11_tell_20 rfl (lv_at hl 5 rfl) ?_
    refine lv_aload_n hx hb dX11_tell_21 rfl (lv_at hl 2 rfl) ?_
    refine va_get (D := (dC, dI)) (ci := 9) (v := .int (I0 19)) (C := RX11) (T := TX11) (N := 55) hx hb hts inX11 hown hK hP 17 rfl rfl 19 (Nat.le_of_ble_eq_true rfl) (hts _ mw_1178) (fun _ h9 => h9) rfl dX11_tell_22 ?_
    refine zz_i (v := nI dn) (hdn) ?_
    refine lv_iconst (v := 1) hx hb dX11_tell_25 rfl ?_
    refine lv_iadd hx hb dX11_tell_26 ?_
    refine zz_i (v := nI (dn + 1)) (nI_add dn 1) ?_
    obtain ⟨hPc, hDc, hFc⟩ := zo_sub (wc := [_, _, _, _, _, _, _, _, _, _, _, _, _, _, _, _, _, _, _, _, _]) hP hD hS hA [17, 19, 27, 18, 28, 29, 30, 3, 4, 5, 6, 7, 8, 9, 10, 11, 12, 13, 14, 15, 16] (by decide +kernel) rfl
    refine zcall (st1 := [.int (nI mm9)]) (va_runV (As := [.int (nI f), .int (nI L), .int (nI (dn + 1))]) (rest := []) ⟨hx, hb, hml, hown, hts⟩ (k_M_plainAll l dC dI cI cZ cF H.size k0 (va_up a 28 b1) (upd (upd I0 26 (nI ln)) 41 (nI (psN (nnF st tn mn) w0 ft))) J0 f n L ft ln cl mm9 nn1 (nI (dn + 1)) st tn kd mn cx cy S0 T0 P0 Q0 ox oy mt wi ins fl la lb lc ld mn1 cx1 cy1 (hft) (by first | with_reducible assumption | omega) (by first | with_reducible assumption | omega) (by first | with_reducible assumption | omega) (hpi) (hfin) (by first | with_reducible assumption | omega) (by first | with_reducible assumption | omega) (by first | with_reducible assumption | omega) (by first | with_reducible assumption | omega) (hds)) (csV_214 hts rfl rfl ⟨Nat.le_of_ble_eq_true rfl, Nat.le_of_ble_eq_true rfl⟩) (zPV2 (q0 := 0) (ci := 9) hPc hDc hK hXN rfl rfl) rfl rfl hl.1 rfl (lv_room (Nat.le_of_ble_eq_true rfl)) dX11_tell_27 ⟨show ((0 + (c1 - cp)) + (4 * (dlN mm9 cl ln - cl))) ≤ (c2 - cp) + 4 * (dlN mm9 cl ln - cl) by omega, show ((0 + (8192 * (c1 - cp))) + (512 * (dlN mm9 cl ln - cl))) ≤ 8192 * (c2 - cp) + 512 * (dlN mm9 cl ln - cl) by omega⟩) hS hFc hFc rfl (fun t H locs ht hB hk1 hS => ?_)
    refine ex21 hB (fun z9 on1 ok1 S1 T1 P1 Q1 ox1 oy1 mt1 wi1 ins1 fl1 bl0 bl1 bl2 bl3 la2 lb2 lc2 ld2 hB0 => ?_)
    clear hB
    obtain ⟨hlp, hlsA, hP1, hD1⟩ := hB0
    rw [ht] at hP1
    obtain ⟨hP, hD⟩ := zn (W2 := (_ :: _ :: _ :: _ :: _ :: _ :: _ :: _ :: _ :: _ :: _ :: _ :: (om k0 (va_up (va_up (va_up (va_up (va_up a 22 bl0) 23 bl1) 24 bl2) 25 bl3) 28 b1) (upd (upd (upd (upd (upd I0 26 (nI (ln + mm9))) 31 z9) 35 on1) 36 ok1) 41 (nI (psN (nnF st tn mn) w0 ft))) J0) :: (oa (a 5) cI 201 st) :: (oa (a 6) cZ 201 tn) :: (oa (a 1) cI 201 kd) :: (oa (a 11) cI 201 mn1) :: (oa (a 12) cI 8040 cx1) :: (oa (a 13) cI 8040 cy1) :: (oa (a 32) cI 8 S1) :: (oa (a 40) cI 6 T1) :: (oa (a 29) cI 42 P1) :: (oa (a 30) cI 42 Q1) :: (oa (a 33) cI 42 ox1) :: (oa (a 34) cI 42 oy1) :: (oa (a 37) cZ 201 mt1) :: (oa (a 38) cZ 201 wi1) :: (oa (a 39) cZ 8040 ins1) :: (oa (a 43) cZ 40 fl1) :: (oa bl0 cI (64 * (dlN mm9 cl ln)) la2) :: (oa bl1 cI (64 * (dlN mm9 cl ln)) lb2) :: (oa bl2 cI (64 * (dlN mm9 cl ln)) lc2) :: (oa bl3 cI (64 * (dlN mm9 cl ln)) ld2) :: [])) hP hD hk1 hFc hP1 hD1 zl_217 zl_218 zl_219 zl_220 (by decide +kernel) rfl rfl rfl rfl rfl
    clear hk1 hPc hDc hFc hP1 hD1 ht
    refine lv_istore (lv' := [(4, .int (nI mm9)), (5, .int (nI ln)), (0, .ref k0), (1, .int 1), (2, .int (nI f)), (3, .int (nI L))]) hx hb dX11_tell_30 hl (Nat.le_of_ble_eq_true rfl) rfl (fun ls hl => ?_)
    refine lv_goto (tgt := 122) hx hb dX11_tell_32 rfl ?_
    refine lv_iload hx hb dX11_tell_122 (lv_at hl 0 rfl) ?_
    have b9_3 : zlt (mm9) := show mm9 < 2147483648 by omega
    refine lv_if_ne (tgt := 134) hx hb dX11_tell_124 rfl (fun c_2 => ?_) (fun c_2 => ?_)
    · have c_2 : ¬ ((mm9 : Nat) : Int) = 0 := zc_ne (nI_toInt b9_3) rfl c_2
      refine lv_aload_n hx hb dX11_tell_134 rfl (lv_at hl 2 rfl) ?_
      refine lv_iload hx hb dX11_tell_135 (lv_at hl 1 rfl) ?_
      obtain ⟨hPc, hDc, hFc⟩ := zo_sub (wc := [_, _, _, _, _]) hP hD hS hA [12, 29, 30, 31, 32] (by decide +kernel) rfl
      refine zcall (st1 := []) (va_runV (As := [.int (nI ln)]) (rest := []) ⟨hx, hb, hml, hown, hts⟩ (k_M_squeeze l dC dI cI cZ cF H.size k0 (va_up (va_up (va_up (va_up (va_up a 22 bl0) 23 bl1) 24 bl2) 25 bl3) 28 b1) (upd (upd (upd (upd (upd I0 26 (nI (ln + mm9))) 31 z9) 35 on1) 36 ok1) 41 (nI (psN (nnF st tn mn) w0 ft))) J0 ln (ln + mm9) (dlN mm9 cl ln) dn la2 lb2 lc2 ld2 (rfl) (hlc3) (by first | with_reducible assumption | omega) (by first | with_reducible assumption | omega) (by first | with_reducible assumption | omega) (hdn) (by first | with_reducible assumption | omega)) (csV_207 hts rfl rfl ⟨Nat.le_of_ble_eq_true rfl, Nat.le_of_ble_eq_true rfl⟩) (zPV2 (q0 := 0) (ci := 9) hPc hDc hK hXN rfl rfl) rfl rfl hl.1 rfl (lv_room (Nat.le_of_ble_eq_true rfl)) dX11_tell_137 ⟨show ((0 + (c1 - cp)) + (4 * (dlN mm9 cl ln - cl))) ≤ (c2 - cp) + 4 * (dlN mm9 cl ln - cl) by omega, show ((0 + (8192 * (c1 - cp))) + (512 * (dlN mm9 cl ln - cl))) ≤ 8192 * (c2 - cp) + 512 * (dlN mm9 cl ln - cl) by omega⟩) hS hFc hFc rfl (fun t H locs ht hB hk1 hS => ?_)
      obtain ⟨t9, la1, lb1, lc1, ld1, hs1, hs2, hs3, hP1, hD1⟩ := hB
      rw [ht] at hP1
      obtain ⟨hP, hD⟩ := zn (W2 := (_ :: _ :: _ :: _ :: _ :: _ :: _ :: _ :: _ :: _ :: _ :: _ :: (om k0 (va_up (va_up (va_up (va_up (va_up a 22 bl0) 23 bl1) 24 bl2) 25 bl3) 28 b1) (upd (upd (upd (upd (upd I0 26 (nI t9)) 31 z9) 35 on1) 36 ok1) 41 (nI (psN (nnF st tn mn) w0 ft))) J0) :: _ :: _ :: _ :: _ :: _ :: _ :: _ :: _ :: _ :: _ :: _ :: _ :: _ :: _ :: _ :: _ :: (oa bl0 cI (64 * (dlN mm9 cl ln)) la1) :: (oa bl1 cI (64 * (dlN mm9 cl ln)) lb1) :: (oa bl2 cI (64 * (dlN mm9 cl ln)) lc1) :: (oa bl3 cI (64 * (dlN mm9 cl ln)) ld1) :: [])) hP hD hk1 hFc hP1 hD1 [12, 29, 30, 31, 32] zl_222 zl_223 [12, 29, 30, 31, 32] (by decide +kernel) rfl rfl rfl rfl rfl
      clear hk1 hPc hDc hFc hP1 hD1 ht
      refine lv_aload_n hx hb dX11_tell_140 rfl (lv_at hl 2 rfl) ?_
      refine lv_iload_n hx hb dX11_tell_141 rfl (lv_at hl 3 rfl) ?_
      refine lv_iload_n hx hb dX11_tell_142 rfl (lv_at hl 3 rfl) ?_
      refine lv_iconst (v := 1) hx hb dX11_tell_143 rfl ?_
      refine lv_icmp_ne (tgt := 151) hx hb dX11_tell_144 rfl (fun c_4 => ?_) (fun c_4 => ?_)
      · exact absurd (by decide) c_4
      · refine lv_iload_n hx hb dX11_tell_147 rfl (lv_at hl 4 rfl) ?_
        refine lv_goto (tgt := 152) hx hb dX11_tell_148 rfl ?_
        refine lv_iload hx hb dX11_tell_152 (lv_at hl 0 rfl) ?_
        obtain ⟨hPc, hDc, hFc⟩ := zo_sub (wc := [_, _, _, _, _, _, _, _, _, _, _, _, _, _, _, _, _, _, _]) hP hD hS hA [12, 15, 13, 3, 4, 5, 6, 7, 8, 9, 14, 16, 17, 18, 10, 11, 0, 1, 2] (by decide +kernel) rfl
        refine zcall (st1 := [.int (nI (dn + 1))]) (va_runV (As := [.int 1, .int (nI f), .int (nI mm9)]) (rest := []) ⟨hx, hb, hml, hown, hts⟩ (k_M_ends l dC dI cI cZ cF H.size k0 (va_up (va_up (va_up (va_up (va_up a 22 bl0) 23 bl1) 24 bl2) 25 bl3) 28 b1) (upd (upd (upd (upd (upd I0 26 (nI t9)) 31 z9) 35 on1) 36 ok1) 41 (nI (psN (nnF st tn mn) w0 ft))) J0 1 (nI f) (nI mm9) dn bs ft (psN (nnF st tn mn) w0 ft) c1 c2 kd st gb it pa pb rk wd tw tn mn1 cx1 cy1 (upd sa ((dn - bs) + 1) (nI (psN (nnF st tn mn) w0 ft))) sh1 wh of9 we (hft) (by first | with_reducible assumption | omega) (hdn) (hbs) (by first | with_reducible assumption | omega) (by first | with_reducible assumption | omega) (by first | with_reducible assumption | omega) (by rw [show dn + 1 - bs = dn - bs + 1 by omega]; exact up_at _ _ _) (hmn_2) (by first | with_reducible assumption | omega) (hpw_2) (by first | with_reducible assumption | omega) (hfit_2) (hmin_2) (hcE_2)) (csV_208 hts rfl rfl ⟨Nat.le_of_ble_eq_true rfl, Nat.le_of_ble_eq_true rfl⟩) (zPV2 (q0 := 0) (ci := 9) hPc hDc hK hXN rfl rfl) rfl rfl hl.1 rfl (lv_room (Nat.le_of_ble_eq_true rfl)) dX11_tell_154 ⟨show (((0 + (c1 - cp)) + (4 * (dlN mm9 cl ln - cl))) + (c2 - c1)) ≤ (c2 - cp) + 4 * (dlN mm9 cl ln - cl) by omega, show (((0 + (8192 * (c1 - cp))) + (512 * (dlN mm9 cl ln - cl))) + (8192 * (c2 - c1))) ≤ 8192 * (c2 - cp) + 512 * (dlN mm9 cl ln - cl) by omega⟩) hS hFc hFc rfl (fun t H locs ht hB hk1 hS => ?_)
        obtain ⟨b2, sh2, g5, g6, g7, g8, hP1, hD1⟩ := hB
        rw [ht] at hP1
        obtain ⟨hP, hD⟩ := zn (W2 := (_ :: _ :: _ :: _ :: _ :: _ :: _ :: _ :: _ :: _ :: _ :: _ :: _ :: _ :: (om k0 (va_up (va_up (va_up (va_up (va_up a 22 bl0) 23 bl1) 24 bl2) 25 bl3) 28 b2) (upd (upd (upd (upd (upd (upd (upd (upd I0 14 0) 19 (nI (dn + 1))) 20 0) 26 (nI t9)) 31 z9) 35 on1) 36 ok1) 41 (nI (psN (nnF st tn mn1) (psN (nnF st tn mn) w0 ft) ft))) J0) :: (oa (a 1) cI 201 kd) :: (oa (a 5) cI 201 st) :: (oa (a 7) cI 201 gb) :: (oa (a 10) cI 201 it) :: (oa (a 8) cI 201 pa) :: (oa (a 9) cI 201 pb) :: (oa (a 2) cI 201 rk) :: (oa (a 3) cI 201 wd) :: (oa (a 4) cI 201 tw) :: (oa (a 6) cZ 201 tn) :: (oa (a 11) cI 201 mn1) :: (oa (a 12) cI 8040 cx1) :: (oa (a 13) cI 8040 cy1) :: (oa (a 27) cI 516 (upd (upd sa ((dn - bs) + 1) (nI (psN (nnF st tn mn) w0 ft))) ((dn + 1 - bs) + 1) (nI (psN (nnF st tn mn1) (psN (nnF st tn mn) w0 ft) ft)))) :: (oa b2 cI (4096 * c2) sh2) :: (oa (a 16) cI 514 (upd wh (dn + 1) (1 : Int32))) :: (oa (a 17) cI 514 (upd of9 (dn + 1) (nI f))) :: (oa (a 18) cI 514 (upd we (dn + 1) (nI mm9))) :: [])) hP hD hk1 hFc hP1 hD1 zl_224 zl_225 zl_226 zl_227 (by decide +kernel) rfl rfl rfl rfl rfl
        clear hk1 hPc hDc hFc hP1 hD1 ht
        refine lv_istore (lv' := [(6, .int (nI (dn + 1))), (4, .int (nI mm9)), (5, .int (nI ln)), (0, .ref k0), (1, .int 1), (2, .int (nI f)), (3, .int (nI L))]) hx hb dX11_tell_157 hl (Nat.le_of_ble_eq_true rfl) rfl (fun ls hl => ?_)
        refine lv_iload hx hb dX11_tell_159 (lv_at hl 1 rfl) ?_
        obtain ⟨hP9, hD9⟩ := zq_sub (wc := (_ :: _ :: _ :: _ :: _ :: _ :: _ :: _ :: _ :: _ :: _ :: _ :: _ :: _ :: _ :: _ :: _ :: _ :: _ :: _ :: _ :: _ :: _ :: _ :: _ :: _ :: _ :: _ :: _ :: _ :: _ :: _ :: _ :: [])) hP hD (14 :: 15 :: 16 :: 17 :: 18 :: 19 :: 20 :: 21 :: 22 :: 23 :: 24 :: 25 :: 26 :: 27 :: 28 :: 29 :: 30 :: 31 :: 32 :: 0 :: 1 :: 2 :: 3 :: 4 :: 5 :: 6 :: 7 :: 8 :: 9 :: 10 :: 11 :: 12 :: 13 :: []) rfl rfl
        refine W.widen (k := (c2 - cp) + 4 * (dlN mm9 cl ln - cl)) (n := 8192 * (c2 - cp) + 512 * (dlN mm9 cl ln - cl)) (by omega) (by omega) ?_
        rw [hQ9]
        exact W.iret (v := nI mm9) hx hb hr (fun t ht hW => ⟨⟨rfl, z9, on1, ok1, S1, T1, P1, Q1, ox1, oy1, mt1, wi1, ins1, fl1, b2, sh2, t9, bl0, bl1, bl2, bl3, la1, lb1, lc1, ld1, (by have h9 := psN_ge (nnF st tn mn) w0 ft; rw [g6 _ (by omega)]; exact g1), (fun j hj => by have h9 := psN_ge (nnF st tn mn) w0 ft; rw [g6 _ (by omega)]; exact g2 j hj), (fun g hg j hj => by have h9 := psN_mono (nnF st tn mn) w0 hg; rw [g6 _ (by omega)]; exact g3 g hg j hj), (g5), (g7), (hs1), (⟨fun h j hj => by obtain ⟨i9, hi9, e1, e2⟩ := hs2 j hj; rw [e1, e2]; exact hlp h i9 hi9, lsZ_p hs3 hlsA⟩), by rw [ht]; exact hP9, hD9⟩, hS.F ht⟩) hS.2.2 dX11_tell_161
    · have c_2 : ((mm9 : Nat) : Int) = 0 := zc_eq (nI_toInt b9_3) rfl c_2
      exfalso; omega
end
section
set_option maxHeartbeats 4000000 in
set_option maxRecDepth 100000 in
theorem k_M_plainer_0 (l : Launch) (dC : Nat → ClassId) (dI : Nat → Nat → Nat) (cI cZ cF : ClassId) (sz : Nat) (k0 : Nat) (a : Nat → Nat) (I0 : Nat → Int32) (J0 : Nat → Int64) (f : Nat) (n : Nat) (L : Nat) (ft : Nat) (mm9 : Nat) (nn1 : Nat) (dn : Nat) (bs : Nat) (w0 : Nat) (cp : Nat) (c1 : Nat) (kd : Nat → Int32) (st : Nat → Int32) (gb : Nat → Int32) (it : Nat → Int32) (pa : Nat → Int32) (pb : Nat → Int32) (rk : Nat → Int32) (wd : Nat → Int32) (tw : Nat → Int32) (tn : Nat → Int32) (mn : Nat → Int32) (cx : Nat → Int32) (cy : Nat → Int32) (sa : Nat → Int32) (sh : Nat → Int32) (wh : Nat → Int32) (of9 : Nat → Int32) (we : Nat → Int32) (S0 : Nat → Int32) (T0 : Nat → Int32) (P0 : Nat → Int32) (Q0 : Nat → Int32) (ox : Nat → Int32) (oy : Nat → Int32) (mt : Nat → Int32) (wi : Nat → Int32) (ins : Nat → Int32) (fl : Nat → Int32) (la : Nat → Int32) (lb : Nat → Int32) (lc : Nat → Int32) (ld : Nat → Int32) (mn1 : Nat → Int32) (cx1 : Nat → Int32) (cy1 : Nat → Int32) (ln : Nat) (cl : Nat) (hft : I0 0 = nI ft) (h200 : ft ≤ 200) (hf_f : f < ft) (hL : L ≤ 2147483647) (hpi : plI ft st tn kd f mn cx cy n) (hfin : plN ft st tn kd f L mm9 mn cx cy n mn1 cx1 cy1 nn1) (hclm : dlN mm9 cl ln ≤ 100000) (hlc : ln ≤ 64 * cl) (hcl1 : 1 ≤ cl) (hmb : mm9 ≤ 40) (hds : dsR n (cF40 cx f) (cF40 cy f)) (hdn : I0 19 = nI dn) (hbs : I0 21 = nI bs) (hbd : bs ≤ dn) (hd512 : dn ≤ 512) (hi5_1 : (dn - bs) < 515) (hsa_1 : sa (dn - bs) = nI w0) (hmn_1 : ∀ v9, v9 < ft → (tn v9).toInt = 0 → ¬ (st v9).toInt = 0 → mn v9 = nI (nN (mn v9)) ∧ nN (mn v9) ≤ 40) (hc1_1 : 1 ≤ cp) (hpw_1 : pw cp c1) (hw0_1 : w0 ≤ 4096 * cp) (hfit_1 : psN (nnF st tn mn) w0 ft ≤ 4096 * c1) (hmin_1 : c1 = cp ∨ 2048 * c1 < psN (nnF st tn mn) w0 ft) (hcE_1 : c1 ≤ 512) (hz : mm9 = 0) (hst1 : (st f).toInt = 1) (htn0 : (tn f).toInt = 0) (hkd1 : ¬ (kd f).toInt = 0 ∧ ¬ (kd f).toInt = 6) : zM l yX11_plainer cX11_plainer 4 (some .int) ({ frames := 10, cells := c1 - cp, slots := 8192 * (c1 - cp), locals := 261 } : Room) [.ref k0, .int (nI f), .int (nI L)] (dC, dI) (zTy cI cZ cF) ((om k0 a (upd I0 26 (nI ln)) J0) :: (oa (a 1) cI 201 kd) :: (oa (a 5) cI 201 st) :: (oa (a 7) cI 201 gb) :: (oa (a 10) cI 201 it) :: (oa (a 8) cI 201 pa) :: (oa (a 9) cI 201 pb) :: (oa (a 2) cI 201 rk) :: (oa (a 3) cI 201 wd) :: (oa (a 4) cI 201 tw) :: (oa (a 6) cZ 201 tn) :: (oa (a 11) cI 201 mn) :: (oa (a 12) cI 8040 cx) :: (oa (a 13) cI 8040 cy) :: (oa (a 27) cI 516 sa) :: (oa (a 28) cI (4096 * cp) sh) :: (oa (a 16) cI 514 wh) :: (oa (a 17) cI 514 of9) :: (oa (a 18) cI 514 we) :: (oa (a 32) cI 8 S0) :: (oa (a 40) cI 6 T0) :: (oa (a 29) cI 42 P0) :: (oa (a 30) cI 42 Q0) :: (oa (a 33) cI 42 ox) :: (oa (a 34) cI 42 oy) :: (oa (a 37) cZ 201 mt) :: (oa (a 38) cZ 201 wi) :: (oa (a 39) cZ 8040 ins) :: (oa (a 43) cZ 40 fl) :: (oa (a 22) cI (64 * cl) la) :: (oa (a 23) cI (64 * cl) lb) :: (oa (a 24) cI (64 * cl) lc) :: (oa (a 25) cI (64 * cl) ld) :: []) sz (some (.int (-1))) (fun A t => ∃ (z9 : Int32), ∃ (on1 : Int32), ∃ (ok1 : Int32), ∃ (S1 : Nat → Int32), ∃ (T1 : Nat → Int32), ∃ (P1 : Nat → Int32), ∃ (Q1 : Nat → Int32), ∃ (ox1 : Nat → Int32), ∃ (oy1 : Nat → Int32), ∃ (mt1 : Nat → Int32), ∃ (wi1 : Nat → Int32), ∃ (ins1 : Nat → Int32), ∃ (fl1 : Nat → Int32), ∃ (b1 : Nat), ∃ (sh1 : Nat → Int32), ∃ (bl0 : Nat), ∃ (bl1 : Nat), ∃ (bl2 : Nat), ∃ (bl3 : Nat), ∃ (la1 : Nat → Int32), ∃ (lb1 : Nat → Int32), ∃ (lc1 : Nat → Int32), ∃ (ld1 : Nat → Int32), (sh1 w0 = nI ft) ∧ (∀ j, j < w0 → sh1 j = sh j) ∧ (∀ g, g < ft → ∀ j, j < 10 + 2 * nnF st tn mn g → sh1 (psN (nnF st tn mn) w0 g + j) = (shD kd st gb it pa pb rk wd tw (nnF st tn mn) cx cy) g j) ∧ (∀ j, psN (nnF st tn mn) w0 ft ≤ j → j < 4096 * cp → sh1 j = sh j) ∧ (((∀ j, j < ln → pl (lb j) ∧ pl (lc j)) → ∀ j, j < ln → pl (lb1 j) ∧ pl (lc1 j)) ∧ lsE ln la lb lc ld la1 lb1 lc1 ld1) ∧ zPD (dC, dI) classes A ((om k0 (va_up (va_up (va_up (va_up (va_up a 22 bl0) 23 bl1) 24 bl2) 25 bl3) 28 b1) (upd (upd (upd (upd (upd (upd (upd I0 14 8) 15 (I0 15)) 26 (nI ln)) 31 z9) 35 on1) 36 ok1) 41 (nI (psN (nnF st tn mn) w0 ft))) J0) :: (oa (a 1) cI 201 kd) :: (oa (a 5) cI 201 st) :: (oa (a 7) cI 201 gb) :: (oa (a 10) cI 201 it) :: (oa (a 8) cI 201 pa) :: (oa (a 9) cI 201 pb) :: (oa (a 2) cI 201 rk) :: (oa (a 3) cI 201 wd) :: (oa (a 4) cI 201 tw) :: (oa (a 6) cZ 201 tn) :: (oa (a 11) cI 201 mn) :: (oa (a 12) cI 8040 cx) :: (oa (a 13) cI 8040 cy) :: (oa (a 27) cI 516 (upd sa (dn - bs + 1) (nI (psN (nnF st tn mn) w0 ft)))) :: (oa b1 cI (4096 * c1) sh1) :: (oa (a 16) cI 514 wh) :: (oa (a 17) cI 514 of9) :: (oa (a 18) cI 514 we) :: (oa (a 32) cI 8 S1) :: (oa (a 40) cI 6 T1) :: (oa (a 29) cI 42 P1) :: (oa (a 30) cI 42 Q1) :: (oa (a 33) cI 42 ox1) :: (oa (a 34) cI 42 oy1) :: (oa (a 37) cZ 201 mt1) :: (oa (a 38) cZ 201 wi1) :: (oa (a 39) cZ 8040 ins1) :: (oa (a 43) cZ 40 fl1) :: (oa bl0 cI (64 * cl) la1) :: (oa bl1 cI (64 * cl) lb1) :: (oa bl2 cI (64 * cl) lc1) :: (oa bl3 cI (64 * cl) ld1) :: []) t.heap) (c1 - cp) (8192 * (c1 - cp)) := by
  refine zIn (own := "ScaleShopModel") (loc := [(0, .ref k0), (1, .int (nI f)), (2, .int (nI L))]) rfl rfl rfl rfl (fun p e s m below meth c hx hb hr hts hown hlocks hml hnm9 A hA hS hP hD hK hXN Q9 hQ9 ls hl => ?_)
  refine lv_aload_n hx hb dX11_plainer_0 rfl (lv_at hl 0 rfl) ?_
  refine lv_iload_n hx hb dX11_plainer_1 rfl (lv_at hl 1 rfl) ?_
  obtain ⟨hPc, hDc, hFc, hI1⟩ := zi_sub (wc := [_, _]) hP hD hS hA [0, 2] rfl rfl
  refine zcall (st1 := [.int (wrN (st f))]) (va_runV (As := [.int (nI f)]) (rest := []) ⟨hx, hb, hml, hown, hts⟩ (k_M_wrong l dC dI cI cZ cF s.heap.size k0 a (upd I0 26 (nI ln)) J0 f ft st (by first | with_reducible assumption | assumption) (by first | with_reducible assumption | omega) (by first | with_reducible assumption | omega)) (csV_209 hts rfl rfl ⟨Nat.le_of_ble_eq_true rfl, Nat.le_of_ble_eq_true rfl⟩) (zPV2 (q0 := 0) (ci := 9) hPc hDc hK hXN rfl rfl) rfl rfl hl.1 rfl (lv_room (Nat.le_of_ble_eq_true rfl)) dX11_plainer_2 ⟨Nat.zero_le _, Nat.zero_le _⟩) hS hFc hFc rfl (fun t H locs ht hB hk1 hS => ?_)
  obtain ⟨hP1, hD1⟩ := hB
  rw [ht] at hP1
  replace hP := z0 hP hD hk1 hP1 hI1
  clear hk1 hPc hDc hFc hP1 hD1 ht hI1
  refine zz_i2 (wrN_s (st f)) (fun hs9 => ?_) (fun hs9 => ?_)
  · skip
    refine lv_istore_n (lv' := [(3, .int 0), (0, .ref k0), (1, .int (nI f)), (2, .int (nI L))]) hx hb dX11_plainer_5 rfl hl (Nat.le_of_ble_eq_true rfl) rfl (fun ls hl => ?_)
    refine lv_iload_n hx hb dX11_plainer_6 rfl (lv_at hl 0 rfl) ?_
    refine lv_if_le (tgt := 14) hx hb dX11_plainer_7 rfl (fun c_1 => ?_) (fun c_1 => ?_)
    · refine lv_aload_n hx hb dX11_plainer_14 rfl (lv_at hl 1 rfl) ?_
      refine lv_iload_n hx hb dX11_plainer_15 rfl (lv_at hl 2 rfl) ?_
      obtain ⟨hPc, hDc, hFc, hI1⟩ := zi_sub (wc := [_, _]) hP hD hS hA [0, 1] rfl rfl
      refine zcall (st1 := [.int (pI (¬ (kd f).toInt = 0 ∧ ¬ (kd f).toInt = 6))]) (va_runV (As := [.int (nI f)]) (rest := []) ⟨hx, hb, hml, hown, hts⟩ (k_M_isPlainable l dC dI cI cZ cF H.size k0 a (upd I0 26 (nI ln)) J0 f kd (by first | with_reducible assumption | omega)) (csV_210 hts rfl rfl ⟨Nat.le_of_ble_eq_true rfl, Nat.le_of_ble_eq_true rfl⟩) (zPV2 (q0 := 0) (ci := 9) hPc hDc hK hXN rfl rfl) rfl rfl hl.1 rfl (lv_room (Nat.le_of_ble_eq_true rfl)) dX11_plainer_16 ⟨Nat.zero_le _, Nat.zero_le _⟩) hS hFc hFc rfl (fun t H locs ht hB hk1 hS => ?_)
      obtain ⟨hP1, hD1⟩ := hB
      rw [ht] at hP1
      replace hP := z0 hP hD hk1 hP1 hI1
      clear hk1 hPc hDc hFc hP1 hD1 ht hI1
      refine lv_if_ne (tgt := 26) hx hb dX11_plainer_19 rfl (fun c_2 => ?_) (fun c_2 => ?_)
      · have c_2 : ¬ (kd f).toInt = 0 ∧ ¬ (kd f).toInt = 6 := zp_1 c_2
        refine lv_iload_n hx hb dX11_plainer_26 rfl (lv_at hl 3 rfl) ?_
        have b9_4 : zlt (L) := show L < 2147483648 by omega
        refine lv_if_ge (tgt := 34) hx hb dX11_plainer_27 rfl (fun c_3 => ?_) (fun c_3 => ?_)
        · have c_3 : 0 ≤ ((L : Nat) : Int) := zc_le rfl (nI_toInt b9_4) c_3
          refine lv_aload_n hx hb dX11_plainer_34 rfl (lv_at hl 1 rfl) ?_
          refine va_get (D := (dC, dI)) (ci := 9) (v := .ref (a 6)) (C := RX11) (T := TX11) (N := 55) hx hb hts inX11 hown hK hP 0 rfl rfl 6 (Nat.le_of_ble_eq_true rfl) (hts _ mw_1165) (fun _ h9 => h9) rfl dX11_plainer_35 ?_
          refine lv_iload_n hx hb dX11_plainer_38 rfl (lv_at hl 2 rfl) ?_
          have b9_5 : f < 201 := by omega
          refine z_zald hx hb hK hP 10 1 rfl rfl (e := f) rfl b9_5 (Nat.le_of_ble_eq_true rfl) dX11_plainer_39 ?_
          refine lv_if_eq (tgt := 47) hx hb dX11_plainer_40 rfl (fun c_6 => ?_) (fun c_6 => ?_)
          · have c_6 : (tn f).toInt = 0 := zc_eq rfl rfl c_6
            refine lv_iconst (v := 0) hx hb dX11_plainer_47 rfl ?_
            refine lv_istore_n (lv' := [(3, .int 0), (0, .ref k0), (1, .int (nI f)), (2, .int (nI L))]) hx hb dX11_plainer_48 rfl hl (Nat.le_of_ble_eq_true rfl) rfl (fun ls hl => ?_)
            refine lv_iload_n hx hb dX11_plainer_49 rfl (lv_at hl 0 rfl) ?_
            refine lv_if_le (tgt := 59) hx hb dX11_plainer_50 rfl (fun c_7 => ?_) (fun c_7 => ?_)
            · refine lv_aload_n hx hb dX11_plainer_59 rfl (lv_at hl 1 rfl) ?_
              refine lv_iconst (v := 1) hx hb dX11_plainer_60 rfl ?_
              refine lv_iload_n hx hb dX11_plainer_61 rfl (lv_at hl 2 rfl) ?_
              refine lv_iload_n hx hb dX11_plainer_62 rfl (lv_at hl 3 rfl) ?_
              obtain ⟨hPc, hDc, hFc⟩ := zo_sub (wc := (_ :: _ :: _ :: _ :: _ :: _ :: _ :: _ :: _ :: _ :: _ :: _ :: _ :: _ :: _ :: _ :: _ :: _ :: _ :: _ :: _ :: _ :: _ :: _ :: _ :: _ :: _ :: _ :: _ :: _ :: _ :: _ :: _ :: [])) hP hD hS hA (0 :: 1 :: 2 :: 3 :: 4 :: 5 :: 6 :: 7 :: 8 :: 9 :: 10 :: 11 :: 12 :: 13 :: 14 :: 15 :: 16 :: 17 :: 18 :: 19 :: 20 :: 21 :: 22 :: 23 :: 24 :: 25 :: 26 :: 27 :: 28 :: 29 :: 30 :: 31 :: 32 :: []) (by decide +kernel) rfl
              refine zcall (st1 := [.int (-1)]) (va_runV (As := [.int 1, .int (nI f), .int (nI L)]) (rest := []) ⟨hx, hb, hml, hown, hts⟩ (k_M_tell_p0 l dC dI cI cZ cF H.size k0 a (upd I0 26 (nI ln)) J0 f n L ft mm9 nn1 dn bs w0 cp c1 kd st gb it pa pb rk wd tw tn mn cx cy sa sh wh of9 we S0 T0 P0 Q0 ox oy mt wi ins fl la lb lc ld mn1 cx1 cy1 ln cl (hft) (h200) (hf_f) (hL) (hpi) (hfin) (hclm) (hlc) (hcl1) (hmb) (hds) (hdn) (hbs) (hbd) (hd512) (hi5_1) (hsa_1) (hmn_1) (hc1_1) (hpw_1) (hw0_1) (hfit_1) (hmin_1) (hcE_1) (hz)) (csV_215 hts rfl rfl ⟨Nat.le_of_ble_eq_true rfl, Nat.le_of_ble_eq_true rfl⟩) (zPV2 (q0 := 0) (ci := 9) hPc hDc hK hXN rfl rfl) rfl rfl hl.1 rfl (lv_room (Nat.le_of_ble_eq_true rfl)) dX11_plainer_63 ⟨show (0 + (c1 - cp)) ≤ c1 - cp by omega, show (0 + (8192 * (c1 - cp))) ≤ 8192 * (c1 - cp) by omega⟩) hS hFc hFc rfl (fun t H locs ht hB hk1 hS => ?_)
              refine ex23 hB (fun z9 on1 ok1 S1 T1 P1 Q1 ox1 oy1 mt1 wi1 ins1 fl1 b1 sh1 bl0 bl1 bl2 bl3 la1 lb1 lc1 ld1 hB0 => ?_)
              clear hB
              obtain ⟨r0, r1, r2, r3, r4, hP1, hD1⟩ := hB0
              rw [ht] at hP1
              obtain ⟨hP, hD⟩ := zn (W2 := ((om k0 (va_up (va_up (va_up (va_up (va_up a 22 bl0) 23 bl1) 24 bl2) 25 bl3) 28 b1) (upd (upd (upd (upd (upd (upd (upd I0 14 8) 15 (I0 15)) 26 (nI ln)) 31 z9) 35 on1) 36 ok1) 41 (nI (psN (nnF st tn mn) w0 ft))) J0) :: (oa (a 1) cI 201 kd) :: (oa (a 5) cI 201 st) :: (oa (a 7) cI 201 gb) :: (oa (a 10) cI 201 it) :: (oa (a 8) cI 201 pa) :: (oa (a 9) cI 201 pb) :: (oa (a 2) cI 201 rk) :: (oa (a 3) cI 201 wd) :: (oa (a 4) cI 201 tw) :: (oa (a 6) cZ 201 tn) :: (oa (a 11) cI 201 mn) :: (oa (a 12) cI 8040 cx) :: (oa (a 13) cI 8040 cy) :: (oa (a 27) cI 516 (upd sa (dn - bs + 1) (nI (psN (nnF st tn mn) w0 ft)))) :: (oa b1 cI (4096 * c1) sh1) :: (oa (a 16) cI 514 wh) :: (oa (a 17) cI 514 of9) :: (oa (a 18) cI 514 we) :: (oa (a 32) cI 8 S1) :: (oa (a 40) cI 6 T1) :: (oa (a 29) cI 42 P1) :: (oa (a 30) cI 42 Q1) :: (oa (a 33) cI 42 ox1) :: (oa (a 34) cI 42 oy1) :: (oa (a 37) cZ 201 mt1) :: (oa (a 38) cZ 201 wi1) :: (oa (a 39) cZ 8040 ins1) :: (oa (a 43) cZ 40 fl1) :: (oa bl0 cI (64 * cl) la1) :: (oa bl1 cI (64 * cl) lb1) :: (oa bl2 cI (64 * cl) lc1) :: (oa bl3 cI (64 * cl) ld1) :: [])) hP hD hk1 hFc hP1 hD1 zl_228 [] zl_229 zl_228 (by decide +kernel) rfl rfl rfl rfl rfl
              clear hk1 hPc hDc hFc hP1 hD1 ht
              obtain ⟨hP9, hD9⟩ := zu_sub (wc := (_ :: _ :: _ :: _ :: _ :: _ :: _ :: _ :: _ :: _ :: _ :: _ :: _ :: _ :: _ :: _ :: _ :: _ :: _ :: _ :: _ :: _ :: _ :: _ :: _ :: _ :: _ :: _ :: _ :: _ :: _ :: _ :: _ :: [])) hP hD (true :: true :: true :: true :: true :: true :: true :: true :: true :: true :: true :: true :: true :: true :: true :: true :: true :: true :: true :: true :: true :: true :: true :: true :: true :: true :: true :: true :: true :: true :: true :: true :: true :: []) rfl rfl
              refine W.widen (k := c1 - cp) (n := 8192 * (c1 - cp)) (by omega) (by omega) ?_
              rw [hQ9]
              exact W.iret (v := (-1)) hx hb hr (fun t ht hW => ⟨⟨rfl, z9, on1, ok1, S1, T1, P1, Q1, ox1, oy1, mt1, wi1, ins1, fl1, b1, sh1, bl0, bl1, bl2, bl3, la1, lb1, lc1, ld1, (r0), (r1), (r2), (r3), (r4), by rw [ht]; exact hP9, hD9⟩, hS.F ht⟩) hS.2.2 dX11_plainer_66
            · exact absurd (by decide) c_7
          · have c_6 : ¬ (tn f).toInt = 0 := zc_ne rfl rfl c_6
            exfalso; omega
        · have c_3 : ((L : Nat) : Int) < 0 := zc_nle rfl (nI_toInt b9_4) c_3
          exfalso; omega
      · have c_2 : ¬ (¬ (kd f).toInt = 0 ∧ ¬ (kd f).toInt = 6) := zp_0 c_2
        exfalso; omega
    · exact absurd (by decide) c_1
  · skip
    refine lv_istore_n (lv' := [(3, .int 2), (0, .ref k0), (1, .int (nI f)), (2, .int (nI L))]) hx hb dX11_plainer_5 rfl hl (Nat.le_of_ble_eq_true rfl) rfl (fun ls hl => ?_)
    refine lv_iload_n hx hb dX11_plainer_6 rfl (lv_at hl 0 rfl) ?_
    refine lv_if_le (tgt := 14) hx hb dX11_plainer_7 rfl (fun c_8 => ?_) (fun c_8 => ?_)
    · exact absurd c_8 (by decide)
    · exfalso; omega
set_option maxHeartbeats 4000000 in
set_option maxRecDepth 100000 in
theorem k_M_plainer_y (l : Launch) (dC : Nat → ClassId) (dI : Nat → Nat → Nat) (cI cZ cF : ClassId) (sz : Nat) (k0 : Nat) (a : Nat → Nat) (I0 : Nat → Int32) (J0 : Nat → Int64) (f : Nat) (n : Nat) (L : Nat) (ft : Nat) (mm9 : Nat) (nn1 : Nat) (dn : Nat) (bs : Nat) (w0 : Nat) (cp : Nat) (c1 : Nat) (kd : Nat → Int32) (st : Nat → Int32) (gb : Nat → Int32) (it : Nat → Int32) (pa : Nat → Int32) (pb : Nat → Int32) (rk : Nat → Int32) (wd : Nat → Int32) (tw : Nat → Int32) (tn : Nat → Int32) (mn : Nat → Int32) (cx : Nat → Int32) (cy : Nat → Int32) (sa : Nat → Int32) (sh : Nat → Int32) (wh : Nat → Int32) (of9 : Nat → Int32) (we : Nat → Int32) (S0 : Nat → Int32) (T0 : Nat → Int32) (P0 : Nat → Int32) (Q0 : Nat → Int32) (ox : Nat → Int32) (oy : Nat → Int32) (mt : Nat → Int32) (wi : Nat → Int32) (ins : Nat → Int32) (fl : Nat → Int32) (la : Nat → Int32) (lb : Nat → Int32) (lc : Nat → Int32) (ld : Nat → Int32) (mn1 : Nat → Int32) (cx1 : Nat → Int32) (cy1 : Nat → Int32) (c2 : Nat) (ln : Nat) (cl : Nat) (hft : I0 0 = nI ft) (h200 : ft ≤ 200) (hf_f : f < ft) (hL : L ≤ 2147483647) (hpi : plI ft st tn kd f mn cx cy n) (hfin : plN ft st tn kd f L mm9 mn cx cy n mn1 cx1 cy1 nn1) (hclm : dlN mm9 cl ln ≤ 100000) (hlc : ln ≤ 64 * cl) (hcl1 : 1 ≤ cl) (hmb : mm9 ≤ 40) (hds : dsR n (cF40 cx f) (cF40 cy f)) (hdn : I0 19 = nI dn) (hbs : I0 21 = nI bs) (hbd : bs ≤ dn) (hd512 : dn ≤ 512) (hi5_1 : (dn - bs) < 515) (hsa_1 : sa (dn - bs) = nI w0) (hmn_1 : ∀ v9, v9 < ft → (tn v9).toInt = 0 → ¬ (st v9).toInt = 0 → mn v9 = nI (nN (mn v9)) ∧ nN (mn v9) ≤ 40) (hc1_1 : 1 ≤ cp) (hpw_1 : pw cp c1) (hw0_1 : w0 ≤ 4096 * cp) (hfit_1 : psN (nnF st tn mn) w0 ft ≤ 4096 * c1) (hmin_1 : c1 = cp ∨ 2048 * c1 < psN (nnF st tn mn) w0 ft) (hcE_1 : c1 ≤ 512) (hmn_2 : ∀ v9, v9 < ft → (tn v9).toInt = 0 → ¬ (st v9).toInt = 0 → mn1 v9 = nI (nN (mn1 v9)) ∧ nN (mn1 v9) ≤ 40) (hpw_2 : pw c1 c2) (hfit_2 : psN (nnF st tn mn1) (psN (nnF st tn mn) w0 ft) ft ≤ 4096 * c2) (hmin_2 : c2 = c1 ∨ 2048 * c2 < psN (nnF st tn mn1) (psN (nnF st tn mn) w0 ft) ft) (hcE_2 : c2 ≤ 512) (hz : 0 < mm9) (hlc3 : ln + mm9 ≤ 64 * dlN mm9 cl ln) (hst1 : (st f).toInt = 1) (htn0 : (tn f).toInt = 0) (hkd1 : ¬ (kd f).toInt = 0 ∧ ¬ (kd f).toInt = 6) : zM l yX11_plainer cX11_plainer 4 (some .int) ({ frames := 10, cells := (c2 - cp) + 4 * (dlN mm9 cl ln - cl), slots := 8192 * (c2 - cp) + 512 * (dlN mm9 cl ln - cl), locals := 261 } : Room) [.ref k0, .int (nI f), .int (nI L)] (dC, dI) (zTy cI cZ cF) ((om k0 a (upd I0 26 (nI ln)) J0) :: (oa (a 1) cI 201 kd) :: (oa (a 5) cI 201 st) :: (oa (a 7) cI 201 gb) :: (oa (a 10) cI 201 it) :: (oa (a 8) cI 201 pa) :: (oa (a 9) cI 201 pb) :: (oa (a 2) cI 201 rk) :: (oa (a 3) cI 201 wd) :: (oa (a 4) cI 201 tw) :: (oa (a 6) cZ 201 tn) :: (oa (a 11) cI 201 mn) :: (oa (a 12) cI 8040 cx) :: (oa (a 13) cI 8040 cy) :: (oa (a 27) cI 516 sa) :: (oa (a 28) cI (4096 * cp) sh) :: (oa (a 16) cI 514 wh) :: (oa (a 17) cI 514 of9) :: (oa (a 18) cI 514 we) :: (oa (a 32) cI 8 S0) :: (oa (a 40) cI 6 T0) :: (oa (a 29) cI 42 P0) :: (oa (a 30) cI 42 Q0) :: (oa (a 33) cI 42 ox) :: (oa (a 34) cI 42 oy) :: (oa (a 37) cZ 201 mt) :: (oa (a 38) cZ 201 wi) :: (oa (a 39) cZ 8040 ins) :: (oa (a 43) cZ 40 fl) :: (oa (a 22) cI (64 * cl) la) :: (oa (a 23) cI (64 * cl) lb) :: (oa (a 24) cI (64 * cl) lc) :: (oa (a 25) cI (64 * cl) ld) :: []) sz (some (.int (nI mm9))) (fun A t => ∃ (z9 : Int32), ∃ (on1 : Int32), ∃ (ok1 : Int32), ∃ (S1 : Nat → Int32), ∃ (T1 : Nat → Int32), ∃ (P1 : Nat → Int32), ∃ (Q1 : Nat → Int32), ∃ (ox1 : Nat → Int32), ∃ (oy1 : Nat → Int32), ∃ (mt1 : Nat → Int32), ∃ (wi1 : Nat → Int32), ∃ (ins1 : Nat → Int32), ∃ (fl1 : Nat → Int32), ∃ (b2 : Nat), ∃ (sh2 : Nat → Int32), ∃ (t9 : Nat), ∃ (bl0 : Nat), ∃ (bl1 : Nat), ∃ (bl2 : Nat), ∃ (bl3 : Nat), ∃ (la1 : Nat → Int32), ∃ (lb1 : Nat → Int32), ∃ (lc1 : Nat → Int32), ∃ (ld1 : Nat → Int32), (sh2 w0 = nI ft) ∧ (∀ j, j < w0 → sh2 j = sh j) ∧ (∀ g, g < ft → ∀ j, j < 10 + 2 * (nnF st tn mn) g → sh2 (psN (nnF st tn mn) w0 g + j) = (shD kd st gb it pa pb rk wd tw (nnF st tn mn) cx cy) g j) ∧ (sh2 (psN (nnF st tn mn) w0 ft) = nI ft) ∧ (∀ g, g < ft → ∀ j, j < 10 + 2 * (nnF st tn mn1) g → sh2 (psN (nnF st tn mn1) (psN (nnF st tn mn) w0 ft) g + j) = (shD kd st gb it pa pb rk wd tw (nnF st tn mn1) cx1 cy1) g j) ∧ (t9 ≤ ln + mm9) ∧ (((∀ j, j < ln → pl (lb j) ∧ pl (lc j)) → ∀ j, j < t9 → pl (lb1 j) ∧ pl (lc1 j)) ∧ lsZ dn ln la lb lc ld t9 la1 lb1 lc1 ld1 (fun q x y => q = f ∧ isR n (cF40 cx f) (cF40 cy f) x y ∧ ¬ isR nn1 (cF40 cx1 f) (cF40 cy1 f) x y)) ∧ zPD (dC, dI) classes A ((om k0 (va_up (va_up (va_up (va_up (va_up a 22 bl0) 23 bl1) 24 bl2) 25 bl3) 28 b2) (upd (upd (upd (upd (upd (upd (upd (upd I0 14 0) 19 (nI (dn + 1))) 20 0) 26 (nI t9)) 31 z9) 35 on1) 36 ok1) 41 (nI (psN (nnF st tn mn1) (psN (nnF st tn mn) w0 ft) ft))) J0) :: (oa (a 1) cI 201 kd) :: (oa (a 5) cI 201 st) :: (oa (a 7) cI 201 gb) :: (oa (a 10) cI 201 it) :: (oa (a 8) cI 201 pa) :: (oa (a 9) cI 201 pb) :: (oa (a 2) cI 201 rk) :: (oa (a 3) cI 201 wd) :: (oa (a 4) cI 201 tw) :: (oa (a 6) cZ 201 tn) :: (oa (a 11) cI 201 mn1) :: (oa (a 12) cI 8040 cx1) :: (oa (a 13) cI 8040 cy1) :: (oa (a 27) cI 516 (upd (upd sa (dn - bs + 1) (nI (psN (nnF st tn mn) w0 ft))) (dn + 1 - bs + 1) (nI (psN (nnF st tn mn1) (psN (nnF st tn mn) w0 ft) ft)))) :: (oa b2 cI (4096 * c2) sh2) :: (oa (a 16) cI 514 (upd wh (dn + 1) (1 : Int32))) :: (oa (a 17) cI 514 (upd of9 (dn + 1) (nI f))) :: (oa (a 18) cI 514 (upd we (dn + 1) (nI mm9))) :: (oa (a 32) cI 8 S1) :: (oa (a 40) cI 6 T1) :: (oa (a 29) cI 42 P1) :: (oa (a 30) cI 42 Q1) :: (oa (a 33) cI 42 ox1) :: (oa (a 34) cI 42 oy1) :: (oa (a 37) cZ 201 mt1) :: (oa (a 38) cZ 201 wi1) :: (oa (a 39) cZ 8040 ins1) :: (oa (a 43) cZ 40 fl1) :: (oa bl0 cI (64 * (dlN mm9 cl ln)) la1) :: (oa bl1 cI (64 * (dlN mm9 cl ln)) lb1) :: (oa bl2 cI (64 * (dlN mm9 cl ln)) lc1) :: (oa bl3 cI (64 * (dlN mm9 cl ln)) ld1) :: []) t.heap) ((c2 - cp) + 4 * (dlN mm9 cl ln - cl)) (8192 * (c2 - cp) + 512 * (dlN mm9 cl ln - cl)) := by
  refine zIn (own := "ScaleShopModel") (loc := [(0, .ref k0), (1, .int (nI f)), (2, .int (nI L))]) rfl rfl rfl rfl (fun p e s m below meth c hx hb hr hts hown hlocks hml hnm9 A hA hS hP hD hK hXN Q9 hQ9 ls hl => ?_)
  refine lv_aload_n hx hb dX11_plainer_0 rfl (lv_at hl 0 rfl) ?_
  refine lv_iload_n hx hb dX11_plainer_1 rfl (lv_at hl 1 rfl) ?_
  obtain ⟨hPc, hDc, hFc, hI1⟩ := zi_sub (wc := [_, _]) hP hD hS hA [0, 2] rfl rfl
  refine zcall (st1 := [.int (wrN (st f))]) (va_runV (As := [.int (nI f)]) (rest := []) ⟨hx, hb, hml, hown, hts⟩ (k_M_wrong l dC dI cI cZ cF s.heap.size k0 a (upd I0 26 (nI ln)) J0 f ft st (by first | with_reducible assumption | assumption) (by first | with_reducible assumption | omega) (by first | with_reducible assumption | omega)) (csV_209 hts rfl rfl ⟨Nat.le_of_ble_eq_true rfl, Nat.le_of_ble_eq_true rfl⟩) (zPV2 (q0 := 0) (ci := 9) hPc hDc hK hXN rfl rfl) rfl rfl hl.1 rfl (lv_room (Nat.le_of_ble_eq_true rfl)) dX11_plainer_2 ⟨Nat.zero_le _, Nat.zero_le _⟩) hS hFc hFc rfl (fun t H locs ht hB hk1 hS => ?_)
  obtain ⟨hP1, hD1⟩ := hB
  rw [ht] at hP1
  replace hP := z0 hP hD hk1 hP1 hI1
  clear hk1 hPc hDc hFc hP1 hD1 ht hI1
  refine zz_i2 (wrN_s (st f)) (fun hs9 => ?_) (fun hs9 => ?_)
  · skip
    refine lv_istore_n (lv' := [(3, .int 0), (0, .ref k0), (1, .int (nI f)), (2, .int (nI L))]) hx hb dX11_plainer_5 rfl hl (Nat.le_of_ble_eq_true rfl) rfl (fun ls hl => ?_)
    refine lv_iload_n hx hb dX11_plainer_6 rfl (lv_at hl 0 rfl) ?_
    refine lv_if_le (tgt := 14) hx hb dX11_plainer_7 rfl (fun c_1 => ?_) (fun c_1 => ?_)
    · refine lv_aload_n hx hb dX11_plainer_14 rfl (lv_at hl 1 rfl) ?_
      refine lv_iload_n hx hb dX11_plainer_15 rfl (lv_at hl 2 rfl) ?_
      obtain ⟨hPc, hDc, hFc, hI1⟩ := zi_sub (wc := [_, _]) hP hD hS hA [0, 1] rfl rfl
      refine zcall (st1 := [.int (pI (¬ (kd f).toInt = 0 ∧ ¬ (kd f).toInt = 6))]) (va_runV (As := [.int (nI f)]) (rest := []) ⟨hx, hb, hml, hown, hts⟩ (k_M_isPlainable l dC dI cI cZ cF H.size k0 a (upd I0 26 (nI ln)) J0 f kd (by first | with_reducible assumption | omega)) (csV_210 hts rfl rfl ⟨Nat.le_of_ble_eq_true rfl, Nat.le_of_ble_eq_true rfl⟩) (zPV2 (q0 := 0) (ci := 9) hPc hDc hK hXN rfl rfl) rfl rfl hl.1 rfl (lv_room (Nat.le_of_ble_eq_true rfl)) dX11_plainer_16 ⟨Nat.zero_le _, Nat.zero_le _⟩) hS hFc hFc rfl (fun t H locs ht hB hk1 hS => ?_)
      obtain ⟨hP1, hD1⟩ := hB
      rw [ht] at hP1
      replace hP := z0 hP hD hk1 hP1 hI1
      clear hk1 hPc hDc hFc hP1 hD1 ht hI1
      refine lv_if_ne (tgt := 26) hx hb dX11_plainer_19 rfl (fun c_2 => ?_) (fun c_2 => ?_)
      · have c_2 : ¬ (kd f).toInt = 0 ∧ ¬ (kd f).toInt = 6 := zp_1 c_2
        refine lv_iload_n hx hb dX11_plainer_26 rfl (lv_at hl 3 rfl) ?_
        have b9_4 : zlt (L) := show L < 2147483648 by omega
        refine lv_if_ge (tgt := 34) hx hb dX11_plainer_27 rfl (fun c_3 => ?_) (fun c_3 => ?_)
        · have c_3 : 0 ≤ ((L : Nat) : Int) := zc_le rfl (nI_toInt b9_4) c_3
          refine lv_aload_n hx hb dX11_plainer_34 rfl (lv_at hl 1 rfl) ?_
          refine va_get (D := (dC, dI)) (ci := 9) (v := .ref (a 6)) (C := RX11) (T := TX11) (N := 55) hx hb hts inX11 hown hK hP 0 rfl rfl 6 (Nat.le_of_ble_eq_true rfl) (hts _ mw_1165) (fun _ h9 => h9) rfl dX11_plainer_35 ?_
          refine lv_iload_n hx hb dX11_plainer_38 rfl (lv_at hl 2 rfl) ?_
          have b9_5 : f < 201 := by omega
          refine z_zald hx hb hK hP 10 1 rfl rfl (e := f) rfl b9_5 (Nat.le_of_ble_eq_true rfl) dX11_plainer_39 ?_
          refine lv_if_eq (tgt := 47) hx hb dX11_plainer_40 rfl (fun c_6 => ?_) (fun c_6 => ?_)
          · have c_6 : (tn f).toInt = 0 := zc_eq rfl rfl c_6
            refine lv_iconst (v := 0) hx hb dX11_plainer_47 rfl ?_
            refine lv_istore_n (lv' := [(3, .int 0), (0, .ref k0), (1, .int (nI f)), (2, .int (nI L))]) hx hb dX11_plainer_48 rfl hl (Nat.le_of_ble_eq_true rfl) rfl (fun ls hl => ?_)
            refine lv_iload_n hx hb dX11_plainer_49 rfl (lv_at hl 0 rfl) ?_
            refine lv_if_le (tgt := 59) hx hb dX11_plainer_50 rfl (fun c_7 => ?_) (fun c_7 => ?_)
            · refine lv_aload_n hx hb dX11_plainer_59 rfl (lv_at hl 1 rfl) ?_
              refine lv_iconst (v := 1) hx hb dX11_plainer_60 rfl ?_
              refine lv_iload_n hx hb dX11_plainer_61 rfl (lv_at hl 2 rfl) ?_
              refine lv_iload_n hx hb dX11_plainer_62 rfl (lv_at hl 3 rfl) ?_
              obtain ⟨hPc, hDc, hFc⟩ := zo_sub (wc := (_ :: _ :: _ :: _ :: _ :: _ :: _ :: _ :: _ :: _ :: _ :: _ :: _ :: _ :: _ :: _ :: _ :: _ :: _ :: _ :: _ :: _ :: _ :: _ :: _ :: _ :: _ :: _ :: _ :: _ :: _ :: _ :: _ :: [])) hP hD hS hA (0 :: 1 :: 2 :: 3 :: 4 :: 5 :: 6 :: 7 :: 8 :: 9 :: 10 :: 11 :: 12 :: 13 :: 14 :: 15 :: 16 :: 17 :: 18 :: 19 :: 20 :: 21 :: 22 :: 23 :: 24 :: 25 :: 26 :: 27 :: 28 :: 29 :: 30 :: 31 :: 32 :: []) (by decide +kernel) rfl
              refine zcall (st1 := [.int (nI mm9)]) (va_runV (As := [.int 1, .int (nI f), .int (nI L)]) (rest := []) ⟨hx, hb, hml, hown, hts⟩ (k_M_tell_py l dC dI cI cZ cF H.size k0 a (upd I0 26 (nI ln)) J0 f n L ft mm9 nn1 dn bs w0 cp c1 kd st gb it pa pb rk wd tw tn mn cx cy sa sh wh of9 we S0 T0 P0 Q0 ox oy mt wi ins fl la lb lc ld mn1 cx1 cy1 c2 ln cl (hft) (h200) (hf_f) (hL) (hpi) (hfin) (hclm) (hlc) (hcl1) (hmb) (hds) (hdn) (hbs) (hbd) (hd512) (hi5_1) (hsa_1) (hmn_1) (hc1_1) (hpw_1) (hw0_1) (hfit_1) (hmin_1) (hcE_1) (hmn_2) (hpw_2) (hfit_2) (hmin_2) (hcE_2) (hz) (hlc3)) (csV_215 hts rfl rfl ⟨Nat.le_of_ble_eq_true rfl, Nat.le_of_ble_eq_true rfl⟩) (zPV2 (q0 := 0) (ci := 9) hPc hDc hK hXN rfl rfl) rfl rfl hl.1 rfl (lv_room (Nat.le_of_ble_eq_true rfl)) dX11_plainer_63 ⟨show (0 + ((c2 - cp) + 4 * (dlN mm9 cl ln - cl))) ≤ (c2 - cp) + 4 * (dlN mm9 cl ln - cl) by omega, show (0 + (8192 * (c2 - cp) + 512 * (dlN mm9 cl ln - cl))) ≤ 8192 * (c2 - cp) + 512 * (dlN mm9 cl ln - cl) by omega⟩) hS hFc hFc rfl (fun t H locs ht hB hk1 hS => ?_)
              refine ex24 hB (fun z9 on1 ok1 S1 T1 P1 Q1 ox1 oy1 mt1 wi1 ins1 fl1 b2 sh2 t9 bl0 bl1 bl2 bl3 la1 lb1 lc1 ld1 hB0 => ?_)
              clear hB
              obtain ⟨r0, r1, r2, r3, r4, r5, r6, hP1, hD1⟩ := hB0
              rw [ht] at hP1
              obtain ⟨hP, hD⟩ := zn (W2 := ((om k0 (va_up (va_up (va_up (va_up (va_up a 22 bl0) 23 bl1) 24 bl2) 25 bl3) 28 b2) (upd (upd (upd (upd (upd (upd (upd (upd I0 14 0) 19 (nI (dn + 1))) 20 0) 26 (nI t9)) 31 z9) 35 on1) 36 ok1) 41 (nI (psN (nnF st tn mn1) (psN (nnF st tn mn) w0 ft) ft))) J0) :: (oa (a 1) cI 201 kd) :: (oa (a 5) cI 201 st) :: (oa (a 7) cI 201 gb) :: (oa (a 10) cI 201 it) :: (oa (a 8) cI 201 pa) :: (oa (a 9) cI 201 pb) :: (oa (a 2) cI 201 rk) :: (oa (a 3) cI 201 wd) :: (oa (a 4) cI 201 tw) :: (oa (a 6) cZ 201 tn) :: (oa (a 11) cI 201 mn1) :: (oa (a 12) cI 8040 cx1) :: (oa (a 13) cI 8040 cy1) :: (oa (a 27) cI 516 (upd (upd sa (dn - bs + 1) (nI (psN (nnF st tn mn) w0 ft))) (dn + 1 - bs + 1) (nI (psN (nnF st tn mn1) (psN (nnF st tn mn) w0 ft) ft)))) :: (oa b2 cI (4096 * c2) sh2) :: (oa (a 16) cI 514 (upd wh (dn + 1) (1 : Int32))) :: (oa (a 17) cI 514 (upd of9 (dn + 1) (nI f))) :: (oa (a 18) cI 514 (upd we (dn + 1) (nI mm9))) :: (oa (a 32) cI 8 S1) :: (oa (a 40) cI 6 T1) :: (oa (a 29) cI 42 P1) :: (oa (a 30) cI 42 Q1) :: (oa (a 33) cI 42 ox1) :: (oa (a 34) cI 42 oy1) :: (oa (a 37) cZ 201 mt1) :: (oa (a 38) cZ 201 wi1) :: (oa (a 39) cZ 8040 ins1) :: (oa (a 43) cZ 40 fl1) :: (oa bl0 cI (64 * (dlN mm9 cl ln)) la1) :: (oa bl1 cI (64 * (dlN mm9 cl ln)) lb1) :: (oa bl2 cI (64 * (dlN mm9 cl ln)) lc1) :: (oa bl3 cI (64 * (dlN mm9 cl ln)) ld1) :: [])) hP hD hk1 hFc hP1 hD1 zl_228 [] zl_229 zl_228 (by decide +kernel) rfl rfl rfl rfl rfl
              clear hk1 hPc hDc hFc hP1 hD1 ht
              obtain ⟨hP9, hD9⟩ := zu_sub (wc := (_ :: _ :: _ :: _ :: _ :: _ :: _ :: _ :: _ :: _ :: _ :: _ :: _ :: _ :: _ :: _ :: _ :: _ :: _ :: _ :: _ :: _ :: _ :: _ :: _ :: _ :: _ :: _ :: _ :: _ :: _ :: _ :: _ :: [])) hP hD (true :: true :: true :: true :: true :: true :: true :: true :: true :: true :: true :: true :: true :: true :: true :: true :: true :: true :: true :: true :: true :: true :: true :: true :: true :: true :: true :: true :: true :: true :: true :: true :: true :: []) rfl rfl
              refine W.widen (k := (c2 - cp) + 4 * (dlN mm9 cl ln - cl)) (n := 8192 * (c2 - cp) + 512 * (dlN mm9 cl ln - cl)) (by omega) (by omega) ?_
              rw [hQ9]
              exact W.iret (v := nI mm9) hx hb hr (fun t ht hW => ⟨⟨rfl, z9, on1, ok1, S1, T1, P1, Q1, ox1, oy1, mt1, wi1, ins1, fl1, b2, sh2, t9, bl0, bl1, bl2, bl3, la1, lb1, lc1, ld1, (r0), (r1), (r2), (r3), (r4), (r5), (r6), by rw [ht]; exact hP9, hD9⟩, hS.F ht⟩) hS.2.2 dX11_plainer_66
            · exact absurd (by decide) c_7
          · have c_6 : ¬ (tn f).toInt = 0 := zc_ne rfl rfl c_6
            exfalso; omega
        · have c_3 : ((L : Nat) : Int) < 0 := zc_nle rfl (nI_toInt b9_4) c_3
          exfalso; omega
      · have c_2 : ¬ (¬ (kd f).toInt = 0 ∧ ¬ (kd f).toInt = 6) := zp_0 c_2
        exfalso; omega
    · exact absurd (by decide) c_1
  · skip
    refine lv_istore_n (lv' := [(3, .int 2), (0, .ref k0), (1, .int (nI f)), (2, .int (nI L))]) hx hb dX11_plainer_5 rfl hl (Nat.le_of_ble_eq_true rfl) rfl (fun ls hl => ?_)
    refine lv_iload_n hx hb dX11_plainer_6 rfl (lv_at hl 0 rfl) ?_
    refine lv_if_le (tgt := 14) hx hb dX11_plainer_7 rfl (fun c_8 => ?_) (fun c_8 => ?_)
    · exact absurd c_8 (by decide)
    · exfalso; omega
end
