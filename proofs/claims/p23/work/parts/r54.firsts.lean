section
set_option maxHeartbeats 4000000 in
set_option maxRecDepth 100000 in
theorem k_M_feature_4 (l : Launch) (dC : Nat → ClassId) (dI : Nat → Nat → Nat) (cI cZ cF : ClassId) (sz : Nat) (k0 : Nat) (a : Nat → Nat) (I0 : Nat → Int32) (J0 : Nat → Int64) (k1 : Int32) (k2 : Int32) (k3 : Int32) (k4 : Int32) (hbad : ¬ ((0 ≤ k1.toInt ∧ k1.toInt ≤ 6 ∧ 0 ≤ k2.toInt ∧ k2.toInt ≤ 9) ∧ (0 ≤ k3.toInt ∧ k3.toInt ≤ 100 ∧ 0 ≤ k4.toInt ∧ k4.toInt ≤ 9))) : zM l yX11_feature cX11_feature 6 (some .int) ({ frames := 1, cells := 0, slots := 0, locals := 21 } : Room) [.ref k0, .int k1, .int k2, .int k3, .int k4] (dC, dI) (zTy cI cZ cF) [(om k0 a I0 J0)] sz (some (.int (-1))) (fun A t => zPD (dC, dI) classes A [(om k0 a (upd (upd I0 14 4) 15 (I0 15)) J0)] t.heap) 0 0 := by
  refine zIn (own := "ScaleShopModel") (loc := [(0, .ref k0), (1, .int k1), (2, .int k2), (3, .int k3), (4, .int k4)]) rfl rfl rfl rfl (fun p e s m below meth c hx hb hr hts hown hlocks hml hnm9 A hA hS hP hD hK hXN Q9 hQ9 ls hl => ?_)
  refine lv_iload_n hx hb dX11_feature_0 rfl (lv_at hl 1 rfl) ?_
  refine lv_if_lt (tgt := 42) hx hb dX11_feature_1 rfl (fun c_1 => ?_) (fun c_1 => ?_)
  · have c_1 : k1.toInt < 0 := zc_lt rfl rfl c_1
    refine lv_aload_n hx hb dX11_feature_42 rfl (lv_at hl 0 rfl) ?_
    refine lv_iconst (v := 4) hx hb dX11_feature_43 rfl ?_
    obtain ⟨hPc, hDc, hFc⟩ := zo_sub (wc := [_]) hP hD hS hA [0] rfl rfl
    refine zcall (st1 := [.int (-1)]) (va_runV (As := [.int 4]) (rest := []) ⟨hx, hb, hml, hown, hts⟩ (k_M_refuse l dC dI cI cZ cF s.heap.size k0 a I0 J0 4 (by decide)) (csV_185 hts rfl rfl ⟨Nat.le_of_ble_eq_true rfl, Nat.le_of_ble_eq_true rfl⟩) (zPV2 (q0 := 0) (ci := 9) hPc hDc hK hXN rfl rfl) rfl rfl hl.1 rfl (lv_room (Nat.le_of_ble_eq_true rfl)) dX11_feature_44 ⟨Nat.le_of_ble_eq_true rfl, Nat.le_of_ble_eq_true rfl⟩) hS hFc hFc rfl (fun t H locs ht hB hk1 hS => ?_)
    obtain ⟨hP1, hD1⟩ := hB
    rw [ht] at hP1
    obtain ⟨hP, hD⟩ := zn (W2 := [(om k0 a (upd (upd I0 14 4) 15 (I0 15)) J0)]) hP hD hk1 hFc hP1 hD1 [0] [] [false] [0] (by decide +kernel) rfl rfl rfl rfl rfl
    clear hk1 hPc hDc hFc hP1 hD1 ht
    obtain ⟨hP9, hD9⟩ := zu_sub (wc := [_]) hP hD [true] rfl rfl
    rw [hQ9]
    exact W.iret (v := (-1)) hx hb hr (fun t ht hW => ⟨⟨rfl, by rw [ht]; exact hP9, hD9⟩, hS.F ht⟩) hS.2.2 dX11_feature_47
  · have c_1 : 0 ≤ k1.toInt := zc_nlt rfl rfl c_1
    refine lv_iload_n hx hb dX11_feature_4 rfl (lv_at hl 1 rfl) ?_
    refine lv_bipush (v := 6) hx hb dX11_feature_5 rfl ?_
    refine lv_icmp_gt (tgt := 42) hx hb dX11_feature_7 rfl (fun c_2 => ?_) (fun c_2 => ?_)
    · have c_2 : 6 < k1.toInt := zc_lt rfl rfl c_2
      refine lv_aload_n hx hb dX11_feature_42 rfl (lv_at hl 0 rfl) ?_
      refine lv_iconst (v := 4) hx hb dX11_feature_43 rfl ?_
      obtain ⟨hPc, hDc, hFc⟩ := zo_sub (wc := [_]) hP hD hS hA [0] rfl rfl
      refine zcall (st1 := [.int (-1)]) (va_runV (As := [.int 4]) (rest := []) ⟨hx, hb, hml, hown, hts⟩ (k_M_refuse l dC dI cI cZ cF s.heap.size k0 a I0 J0 4 (by decide)) (csV_185 hts rfl rfl ⟨Nat.le_of_ble_eq_true rfl, Nat.le_of_ble_eq_true rfl⟩) (zPV2 (q0 := 0) (ci := 9) hPc hDc hK hXN rfl rfl) rfl rfl hl.1 rfl (lv_room (Nat.le_of_ble_eq_true rfl)) dX11_feature_44 ⟨Nat.le_of_ble_eq_true rfl, Nat.le_of_ble_eq_true rfl⟩) hS hFc hFc rfl (fun t H locs ht hB hk1 hS => ?_)
      obtain ⟨hP1, hD1⟩ := hB
      rw [ht] at hP1
      obtain ⟨hP, hD⟩ := zn (W2 := [(om k0 a (upd (upd I0 14 4) 15 (I0 15)) J0)]) hP hD hk1 hFc hP1 hD1 [0] [] [false] [0] (by decide +kernel) rfl rfl rfl rfl rfl
      clear hk1 hPc hDc hFc hP1 hD1 ht
      obtain ⟨hP9, hD9⟩ := zu_sub (wc := [_]) hP hD [true] rfl rfl
      rw [hQ9]
      exact W.iret (v := (-1)) hx hb hr (fun t ht hW => ⟨⟨rfl, by rw [ht]; exact hP9, hD9⟩, hS.F ht⟩) hS.2.2 dX11_feature_47
    · have c_2 : k1.toInt ≤ 6 := zc_nlt rfl rfl c_2
      refine lv_iload_n hx hb dX11_feature_10 rfl (lv_at hl 2 rfl) ?_
      refine lv_if_lt (tgt := 42) hx hb dX11_feature_11 rfl (fun c_3 => ?_) (fun c_3 => ?_)
      · have c_3 : k2.toInt < 0 := zc_lt rfl rfl c_3
        refine lv_aload_n hx hb dX11_feature_42 rfl (lv_at hl 0 rfl) ?_
        refine lv_iconst (v := 4) hx hb dX11_feature_43 rfl ?_
        obtain ⟨hPc, hDc, hFc⟩ := zo_sub (wc := [_]) hP hD hS hA [0] rfl rfl
        refine zcall (st1 := [.int (-1)]) (va_runV (As := [.int 4]) (rest := []) ⟨hx, hb, hml, hown, hts⟩ (k_M_refuse l dC dI cI cZ cF s.heap.size k0 a I0 J0 4 (by decide)) (csV_185 hts rfl rfl ⟨Nat.le_of_ble_eq_true rfl, Nat.le_of_ble_eq_true rfl⟩) (zPV2 (q0 := 0) (ci := 9) hPc hDc hK hXN rfl rfl) rfl rfl hl.1 rfl (lv_room (Nat.le_of_ble_eq_true rfl)) dX11_feature_44 ⟨Nat.le_of_ble_eq_true rfl, Nat.le_of_ble_eq_true rfl⟩) hS hFc hFc rfl (fun t H locs ht hB hk1 hS => ?_)
        obtain ⟨hP1, hD1⟩ := hB
        rw [ht] at hP1
        obtain ⟨hP, hD⟩ := zn (W2 := [(om k0 a (upd (upd I0 14 4) 15 (I0 15)) J0)]) hP hD hk1 hFc hP1 hD1 [0] [] [false] [0] (by decide +kernel) rfl rfl rfl rfl rfl
        clear hk1 hPc hDc hFc hP1 hD1 ht
        obtain ⟨hP9, hD9⟩ := zu_sub (wc := [_]) hP hD [true] rfl rfl
        rw [hQ9]
        exact W.iret (v := (-1)) hx hb hr (fun t ht hW => ⟨⟨rfl, by rw [ht]; exact hP9, hD9⟩, hS.F ht⟩) hS.2.2 dX11_feature_47
      · have c_3 : 0 ≤ k2.toInt := zc_nlt rfl rfl c_3
        refine lv_iload_n hx hb dX11_feature_14 rfl (lv_at hl 2 rfl) ?_
        refine lv_bipush (v := 9) hx hb dX11_feature_15 rfl ?_
        refine lv_icmp_gt (tgt := 42) hx hb dX11_feature_17 rfl (fun c_4 => ?_) (fun c_4 => ?_)
        · have c_4 : 9 < k2.toInt := zc_lt rfl rfl c_4
          refine lv_aload_n hx hb dX11_feature_42 rfl (lv_at hl 0 rfl) ?_
          refine lv_iconst (v := 4) hx hb dX11_feature_43 rfl ?_
          obtain ⟨hPc, hDc, hFc⟩ := zo_sub (wc := [_]) hP hD hS hA [0] rfl rfl
          refine zcall (st1 := [.int (-1)]) (va_runV (As := [.int 4]) (rest := []) ⟨hx, hb, hml, hown, hts⟩ (k_M_refuse l dC dI cI cZ cF s.heap.size k0 a I0 J0 4 (by decide)) (csV_185 hts rfl rfl ⟨Nat.le_of_ble_eq_true rfl, Nat.le_of_ble_eq_true rfl⟩) (zPV2 (q0 := 0) (ci := 9) hPc hDc hK hXN rfl rfl) rfl rfl hl.1 rfl (lv_room (Nat.le_of_ble_eq_true rfl)) dX11_feature_44 ⟨Nat.le_of_ble_eq_true rfl, Nat.le_of_ble_eq_true rfl⟩) hS hFc hFc rfl (fun t H locs ht hB hk1 hS => ?_)
          obtain ⟨hP1, hD1⟩ := hB
          rw [ht] at hP1
          obtain ⟨hP, hD⟩ := zn (W2 := [(om k0 a (upd (upd I0 14 4) 15 (I0 15)) J0)]) hP hD hk1 hFc hP1 hD1 [0] [] [false] [0] (by decide +kernel) rfl rfl rfl rfl rfl
          clear hk1 hPc hDc hFc hP1 hD1 ht
          obtain ⟨hP9, hD9⟩ := zu_sub (wc := [_]) hP hD [true] rfl rfl
          rw [hQ9]
          exact W.iret (v := (-1)) hx hb hr (fun t ht hW => ⟨⟨rfl, by rw [ht]; exact hP9, hD9⟩, hS.F ht⟩) hS.2.2 dX11_feature_47
        · have c_4 : k2.toInt ≤ 9 := zc_nlt rfl rfl c_4
          refine lv_iload_n hx hb dX11_feature_20 rfl (lv_at hl 3 rfl) ?_
          refine lv_if_lt (tgt := 42) hx hb dX11_feature_21 rfl (fun c_5 => ?_) (fun c_5 => ?_)
          · have c_5 : k3.toInt < 0 := zc_lt rfl rfl c_5
            refine lv_aload_n hx hb dX11_feature_42 rfl (lv_at hl 0 rfl) ?_
            refine lv_iconst (v := 4) hx hb dX11_feature_43 rfl ?_
            obtain ⟨hPc, hDc, hFc⟩ := zo_sub (wc := [_]) hP hD hS hA [0] rfl rfl
            refine zcall (st1 := [.int (-1)]) (va_runV (As := [.int 4]) (rest := []) ⟨hx, hb, hml, hown, hts⟩ (k_M_refuse l dC dI cI cZ cF s.heap.size k0 a I0 J0 4 (by decide)) (csV_185 hts rfl rfl ⟨Nat.le_of_ble_eq_true rfl, Nat.le_of_ble_eq_true rfl⟩) (zPV2 (q0 := 0) (ci := 9) hPc hDc hK hXN rfl rfl) rfl rfl hl.1 rfl (lv_room (Nat.le_of_ble_eq_true rfl)) dX11_feature_44 ⟨Nat.le_of_ble_eq_true rfl, Nat.le_of_ble_eq_true rfl⟩) hS hFc hFc rfl (fun t H locs ht hB hk1 hS => ?_)
            obtain ⟨hP1, hD1⟩ := hB
            rw [ht] at hP1
            obtain ⟨hP, hD⟩ := zn (W2 := [(om k0 a (upd (upd I0 14 4) 15 (I0 15)) J0)]) hP hD hk1 hFc hP1 hD1 [0] [] [false] [0] (by decide +kernel) rfl rfl rfl rfl rfl
            clear hk1 hPc hDc hFc hP1 hD1 ht
            obtain ⟨hP9, hD9⟩ := zu_sub (wc := [_]) hP hD [true] rfl rfl
            rw [hQ9]
            exact W.iret (v := (-1)) hx hb hr (fun t ht hW => ⟨⟨rfl, by rw [ht]; exact hP9, hD9⟩, hS.F ht⟩) hS.2.2 dX11_feature_47
          · have c_5 : 0 ≤ k3.toInt := zc_nlt rfl rfl c_5
            refine lv_iload_n hx hb dX11_feature_24 rfl (lv_at hl 3 rfl) ?_
            refine lv_bipush (v := 100) hx hb dX11_feature_25 rfl ?_
            refine lv_icmp_gt (tgt := 42) hx hb dX11_feature_27 rfl (fun c_6 => ?_) (fun c_6 => ?_)
            · have c_6 : 100 < k3.toInt := zc_lt rfl rfl c_6
              refine lv_aload_n hx hb dX11_feature_42 rfl (lv_at hl 0 rfl) ?_
              refine lv_iconst (v := 4) hx hb dX11_feature_43 rfl ?_
              obtain ⟨hPc, hDc, hFc⟩ := zo_sub (wc := [_]) hP hD hS hA [0] rfl rfl
              refine zcall (st1 := [.int (-1)]) (va_runV (As := [.int 4]) (rest := []) ⟨hx, hb, hml, hown, hts⟩ (k_M_refuse l dC dI cI cZ cF s.heap.size k0 a I0 J0 4 (by decide)) (csV_185 hts rfl rfl ⟨Nat.le_of_ble_eq_true rfl, Nat.le_of_ble_eq_true rfl⟩) (zPV2 (q0 := 0) (ci := 9) hPc hDc hK hXN rfl rfl) rfl rfl hl.1 rfl (lv_room (Nat.le_of_ble_eq_true rfl)) dX11_feature_44 ⟨Nat.le_of_ble_eq_true rfl, Nat.le_of_ble_eq_true rfl⟩) hS hFc hFc rfl (fun t H locs ht hB hk1 hS => ?_)
              obtain ⟨hP1, hD1⟩ := hB
              rw [ht] at hP1
              obtain ⟨hP, hD⟩ := zn (W2 := [(om k0 a (upd (upd I0 14 4) 15 (I0 15)) J0)]) hP hD hk1 hFc hP1 hD1 [0] [] [false] [0] (by decide +kernel) rfl rfl rfl rfl rfl
              clear hk1 hPc hDc hFc hP1 hD1 ht
              obtain ⟨hP9, hD9⟩ := zu_sub (wc := [_]) hP hD [true] rfl rfl
              rw [hQ9]
              exact W.iret (v := (-1)) hx hb hr (fun t ht hW => ⟨⟨rfl, by rw [ht]; exact hP9, hD9⟩, hS.F ht⟩) hS.2.2 dX11_feature_47
            · have c_6 : k3.toInt ≤ 100 := zc_nlt rfl rfl c_6
              refine lv_iload hx hb dX11_feature_30 (lv_at hl 4 rfl) ?_
              refine lv_if_lt (tgt := 42) hx hb dX11_feature_32 rfl (fun c_7 => ?_) (fun c_7 => ?_)
              · have c_7 : k4.toInt < 0 := zc_lt rfl rfl c_7
                refine lv_aload_n hx hb dX11_feature_42 rfl (lv_at hl 0 rfl) ?_
                refine lv_iconst (v := 4) hx hb dX11_feature_43 rfl ?_
                obtain ⟨hPc, hDc, hFc⟩ := zo_sub (wc := [_]) hP hD hS hA [0] rfl rfl
                refine zcall (st1 := [.int (-1)]) (va_runV (As := [.int 4]) (rest := []) ⟨hx, hb, hml, hown, hts⟩ (k_M_refuse l dC dI cI cZ cF s.heap.size k0 a I0 J0 4 (by decide)) (csV_185 hts rfl rfl ⟨Nat.le_of_ble_eq_true rfl, Nat.le_of_ble_eq_true rfl⟩) (zPV2 (q0 := 0) (ci := 9) hPc hDc hK hXN rfl rfl) rfl rfl hl.1 rfl (lv_room (Nat.le_of_ble_eq_true rfl)) dX11_feature_44 ⟨Nat.le_of_ble_eq_true rfl, Nat.le_of_ble_eq_true rfl⟩) hS hFc hFc rfl (fun t H locs ht hB hk1 hS => ?_)
                obtain ⟨hP1, hD1⟩ := hB
                rw [ht] at hP1
                obtain ⟨hP, hD⟩ := zn (W2 := [(om k0 a (upd (upd I0 14 4) 15 (I0 15)) J0)]) hP hD hk1 hFc hP1 hD1 [0] [] [false] [0] (by decide +kernel) rfl rfl rfl rfl rfl
                clear hk1 hPc hDc hFc hP1 hD1 ht
                obtain ⟨hP9, hD9⟩ := zu_sub (wc := [_]) hP hD [true] rfl rfl
                rw [hQ9]
                exact W.iret (v := (-1)) hx hb hr (fun t ht hW => ⟨⟨rfl, by rw [ht]; exact hP9, hD9⟩, hS.F ht⟩) hS.2.2 dX11_feature_47
              · have c_7 : 0 ≤ k4.toInt := zc_nlt rfl rfl c_7
                refine lv_iload hx hb dX11_feature_35 (lv_at hl 4 rfl) ?_
                refine lv_bipush (v := 9) hx hb dX11_feature_37 rfl ?_
                refine lv_icmp_le (tgt := 48) hx hb dX11_feature_39 rfl (fun c_8 => ?_) (fun c_8 => ?_)
                · have c_8 : k4.toInt ≤ 9 := zc_le rfl rfl c_8
                  exfalso; omega
                · have c_8 : 9 < k4.toInt := zc_nle rfl rfl c_8
                  refine lv_aload_n hx hb dX11_feature_42 rfl (lv_at hl 0 rfl) ?_
                  refine lv_iconst (v := 4) hx hb dX11_feature_43 rfl ?_
                  obtain ⟨hPc, hDc, hFc⟩ := zo_sub (wc := [_]) hP hD hS hA [0] rfl rfl
                  refine zcall (st1 := [.int (-1)]) (va_runV (As := [.int 4]) (rest := []) ⟨hx, hb, hml, hown, hts⟩ (k_M_refuse l dC dI cI cZ cF s.heap.size k0 a I0 J0 4 (by decide)) (csV_185 hts rfl rfl ⟨Nat.le_of_ble_eq_true rfl, Nat.le_of_ble_eq_true rfl⟩) (zPV2 (q0 := 0) (ci := 9) hPc hDc hK hXN rfl rfl) rfl rfl hl.1 rfl (lv_room (Nat.le_of_ble_eq_true rfl)) dX11_feature_44 ⟨Nat.le_of_ble_eq_true rfl, Nat.le_of_ble_eq_true rfl⟩) hS hFc hFc rfl (fun t H locs ht hB hk1 hS => ?_)
                  obtain ⟨hP1, hD1⟩ := hB
                  rw [ht] at hP1
                  obtain ⟨hP, hD⟩ := zn (W2 := [(om k0 a (upd (upd I0 14 4) 15 (I0 15)) J0)]) hP hD hk1 hFc hP1 hD1 [0] [] [false] [0] (by decide +kernel) rfl rfl rfl rfl rfl
                  clear hk1 hPc hDc hFc hP1 hD1 ht
                  obtain ⟨hP9, hD9⟩ := zu_sub (wc := [_]) hP hD [true] rfl rfl
                  rw [hQ9]
                  exact W.iret (v := (-1)) hx hb hr (fun t ht hW => ⟨⟨rfl, by rw [ht]; exact hP9, hD9⟩, hS.F ht⟩) hS.2.2 dX11_feature_47
set_option maxHeartbeats 4000000 in
set_option maxRecDepth 100000 in
theorem k_M_feature_8 (l : Launch) (dC : Nat → ClassId) (dI : Nat → Nat → Nat) (cI cZ cF : ClassId) (sz : Nat) (k0 : Nat) (a : Nat → Nat) (I0 : Nat → Int32) (J0 : Nat → Int64) (k1 : Int32) (k2 : Int32) (k3 : Int32) (k4 : Int32) (hgood : (0 ≤ k1.toInt ∧ k1.toInt ≤ 6 ∧ 0 ≤ k2.toInt ∧ k2.toInt ≤ 9) ∧ (0 ≤ k3.toInt ∧ k3.toInt ≤ 100 ∧ 0 ≤ k4.toInt ∧ k4.toInt ≤ 9)) (hfull : I0 0 = nI 200) : zM l yX11_feature cX11_feature 6 (some .int) ({ frames := 1, cells := 0, slots := 0, locals := 21 } : Room) [.ref k0, .int k1, .int k2, .int k3, .int k4] (dC, dI) (zTy cI cZ cF) [(om k0 a I0 J0)] sz (some (.int (-1))) (fun A t => zPD (dC, dI) classes A [(om k0 a (upd (upd I0 14 8) 15 (I0 15)) J0)] t.heap) 0 0 := by
  refine zIn (own := "ScaleShopModel") (loc := [(0, .ref k0), (1, .int k1), (2, .int k2), (3, .int k3), (4, .int k4)]) rfl rfl rfl rfl (fun p e s m below meth c hx hb hr hts hown hlocks hml hnm9 A hA hS hP hD hK hXN Q9 hQ9 ls hl => ?_)
  refine lv_iload_n hx hb dX11_feature_0 rfl (lv_at hl 1 rfl) ?_
  refine lv_if_lt (tgt := 42) hx hb dX11_feature_1 rfl (fun c_1 => ?_) (fun c_1 => ?_)
  · have c_1 : k1.toInt < 0 := zc_lt rfl rfl c_1
    exfalso; omega
  · have c_1 : 0 ≤ k1.toInt := zc_nlt rfl rfl c_1
    refine lv_iload_n hx hb dX11_feature_4 rfl (lv_at hl 1 rfl) ?_
    refine lv_bipush (v := 6) hx hb dX11_feature_5 rfl ?_
    refine lv_icmp_gt (tgt := 42) hx hb dX11_feature_7 rfl (fun c_2 => ?_) (fun c_2 => ?_)
    · have c_2 : 6 < k1.toInt := zc_lt rfl rfl c_2
      exfalso; omega
    · have c_2 : k1.toInt ≤ 6 := zc_nlt rfl rfl c_2
      refine lv_iload_n hx hb dX11_feature_10 rfl (lv_at hl 2 rfl) ?_
      refine lv_if_lt (tgt := 42) hx hb dX11_feature_11 rfl (fun c_3 => ?_) (fun c_3 => ?_)
      · have c_3 : k2.toInt < 0 := zc_lt rfl rfl c_3
        exfalso; omega
      · have c_3 : 0 ≤ k2.toInt := zc_nlt rfl rfl c_3
        refine lv_iload_n hx hb dX11_feature_14 rfl (lv_at hl 2 rfl) ?_
        refine lv_bipush (v := 9) hx hb dX11_feature_15 rfl ?_
        refine lv_icmp_gt (tgt := 42) hx hb dX11_feature_17 rfl (fun c_4 => ?_) (fun c_4 => ?_)
        · have c_4 : 9 < k2.toInt := zc_lt rfl rfl c_4
          exfalso; omega
        · have c_4 : k2.toInt ≤ 9 := zc_nlt rfl rfl c_4
          refine lv_iload_n hx hb dX11_feature_20 rfl (lv_at hl 3 rfl) ?_
          refine lv_if_lt (tgt := 42) hx hb dX11_feature_21 rfl (fun c_5 => ?_) (fun c_5 => ?_)
          · have c_5 : k3.toInt < 0 := zc_lt rfl rfl c_5
            exfalso; omega
          · have c_5 : 0 ≤ k3.toInt := zc_nlt rfl rfl c_5
            refine lv_iload_n hx hb dX11_feature_24 rfl (lv_at hl 3 rfl) ?_
            refine lv_bipush (v := 100) hx hb dX11_feature_25 rfl ?_
            refine lv_icmp_gt (tgt := 42) hx hb dX11_feature_27 rfl (fun c_6 => ?_) (fun c_6 => ?_)
            · have c_6 : 100 < k3.toInt := zc_lt rfl rfl c_6
              exfalso; omega
            · have c_6 : k3.toInt ≤ 100 := zc_nlt rfl rfl c_6
              refine lv_iload hx hb dX11_feature_30 (lv_at hl 4 rfl) ?_
              refine lv_if_lt (tgt := 42) hx hb dX11_feature_32 rfl (fun c_7 => ?_) (fun c_7 => ?_)
              · have c_7 : k4.toInt < 0 := zc_lt rfl rfl c_7
                exfalso; omega
              · have c_7 : 0 ≤ k4.toInt := zc_nlt rfl rfl c_7
                refine lv_iload hx hb dX11_feature_35 (lv_at hl 4 rfl) ?_
                refine lv_bipush (v := 9) hx hb dX11_feature_37 rfl ?_
                refine lv_icmp_le (tgt := 48) hx hb dX11_feature_39 rfl (fun c_8 => ?_) (fun c_8 => ?_)
                · have c_8 : k4.toInt ≤ 9 := zc_le rfl rfl c_8
                  refine lv_aload_n hx hb dX11_feature_48 rfl (lv_at hl 0 rfl) ?_
                  refine va_get (D := (dC, dI)) (ci := 9) (v := .int (I0 0)) (C := RX11) (T := TX11) (N := 55) hx hb hts inX11 hown hK hP 0 rfl rfl 0 (Nat.le_of_ble_eq_true rfl) (hts _ mw_1159) (fun _ h9 => h9) rfl dX11_feature_49 ?_
                  refine zz_i (v := nI 200) (hfull) ?_
                  refine lv_sipush (v := 200) hx hb dX11_feature_52 rfl ?_
                  refine lv_icmp_ne (tgt := 65) hx hb dX11_feature_55 rfl (fun c_9 => ?_) (fun c_9 => ?_)
                  · have c_9 : ¬ ((200 : Nat) : Int) = 200 := zc_ne (nI_toInt (by omega)) rfl c_9
                    exfalso; omega
                  · have c_9 : ((200 : Nat) : Int) = 200 := zc_eq (nI_toInt (by omega)) rfl c_9
                    refine lv_aload_n hx hb dX11_feature_58 rfl (lv_at hl 0 rfl) ?_
                    refine lv_bipush (v := 8) hx hb dX11_feature_59 rfl ?_
                    obtain ⟨hPc, hDc, hFc⟩ := zo_sub (wc := [_]) hP hD hS hA [0] rfl rfl
                    refine zcall (st1 := [.int (-1)]) (va_runV (As := [.int 8]) (rest := []) ⟨hx, hb, hml, hown, hts⟩ (k_M_refuse l dC dI cI cZ cF s.heap.size k0 a I0 J0 8 (by decide)) (csV_185 hts rfl rfl ⟨Nat.le_of_ble_eq_true rfl, Nat.le_of_ble_eq_true rfl⟩) (zPV2 (q0 := 0) (ci := 9) hPc hDc hK hXN rfl rfl) rfl rfl hl.1 rfl (lv_room (Nat.le_of_ble_eq_true rfl)) dX11_feature_61 ⟨Nat.le_of_ble_eq_true rfl, Nat.le_of_ble_eq_true rfl⟩) hS hFc hFc rfl (fun t H locs ht hB hk1 hS => ?_)
                    obtain ⟨hP1, hD1⟩ := hB
                    rw [ht] at hP1
                    obtain ⟨hP, hD⟩ := zn (W2 := [(om k0 a (upd (upd I0 14 8) 15 (I0 15)) J0)]) hP hD hk1 hFc hP1 hD1 [0] [] [false] [0] (by decide +kernel) rfl rfl rfl rfl rfl
                    clear hk1 hPc hDc hFc hP1 hD1 ht
                    obtain ⟨hP9, hD9⟩ := zu_sub (wc := [_]) hP hD [true] rfl rfl
                    rw [hQ9]
                    exact W.iret (v := (-1)) hx hb hr (fun t ht hW => ⟨⟨rfl, by rw [ht]; exact hP9, hD9⟩, hS.F ht⟩) hS.2.2 dX11_feature_64
                · have c_8 : 9 < k4.toInt := zc_nle rfl rfl c_8
                  exfalso; omega
set_option maxHeartbeats 4000000 in
set_option maxRecDepth 100000 in
theorem k_M_feature_ok (l : Launch) (dC : Nat → ClassId) (dI : Nat → Nat → Nat) (cI cZ cF : ClassId) (sz : Nat) (k0 : Nat) (a : Nat → Nat) (I0 : Nat → Int32) (J0 : Nat → Int64) (k1 : Int32) (k2 : Int32) (k3 : Int32) (k4 : Int32) (ft : Nat) (kd : Nat → Int32) (rk : Nat → Int32) (wd : Nat → Int32) (tw : Nat → Int32) (st : Nat → Int32) (tn : Nat → Int32) (gb : Nat → Int32) (pa : Nat → Int32) (pb : Nat → Int32) (it : Nat → Int32) (mn : Nat → Int32) (sa : Nat → Int32) (hgood : (0 ≤ k1.toInt ∧ k1.toInt ≤ 6 ∧ 0 ≤ k2.toInt ∧ k2.toInt ≤ 9) ∧ (0 ≤ k3.toInt ∧ k3.toInt ≤ 100 ∧ 0 ≤ k4.toInt ∧ k4.toInt ≤ 9)) (hft : I0 0 = nI ft) (h200 : ft < 200) : zM l yX11_feature cX11_feature 6 (some .int) ({ frames := 1, cells := 0, slots := 0, locals := 25 } : Room) [.ref k0, .int k1, .int k2, .int k3, .int k4] (dC, dI) (zTy cI cZ cF) [(om k0 a I0 J0), (oa (a 1) cI 201 kd), (oa (a 2) cI 201 rk), (oa (a 3) cI 201 wd), (oa (a 4) cI 201 tw), (oa (a 5) cI 201 st), (oa (a 6) cZ 201 tn), (oa (a 7) cI 201 gb), (oa (a 8) cI 201 pa), (oa (a 9) cI 201 pb), (oa (a 10) cI 201 it), (oa (a 11) cI 201 mn), (oa (a 27) cI 516 sa)] sz (some (.int (nI ft))) (fun A t => zPD (dC, dI) classes A [(om k0 a (upd (upd (upd (upd I0 0 (nI (ft + 1))) 14 0) 20 0) 21 (I0 19)) J0), (oa (a 1) cI 201 (upd kd ft k1)), (oa (a 2) cI 201 (upd rk ft k2)), (oa (a 3) cI 201 (upd wd ft k3)), (oa (a 4) cI 201 (upd tw ft k4)), (oa (a 5) cI 201 (upd st ft 0)), (oa (a 6) cZ 201 (upd tn ft 0)), (oa (a 7) cI 201 (upd gb ft 0)), (oa (a 8) cI 201 (upd pa ft (-1))), (oa (a 9) cI 201 (upd pb ft (-1))), (oa (a 10) cI 201 (upd it ft (-1))), (oa (a 11) cI 201 (upd mn ft 0)), (oa (a 27) cI 516 (upd sa 0 0))] t.heap) 0 0 := by
  refine zIn (own := "ScaleShopModel") (loc := [(0, .ref k0), (1, .int k1), (2, .int k2), (3, .int k3), (4, .int k4)]) rfl rfl rfl rfl (fun p e s m below meth c hx hb hr hts hown hlocks hml hnm9 A hA hS hP hD hK hXN Q9 hQ9 ls hl => ?_)
  refine lv_iload_n hx hb dX11_feature_0 rfl (lv_at hl 1 rfl) ?_
  refine lv_if_lt (tgt := 42) hx hb dX11_feature_1 rfl (fun c_1 => ?_) (fun c_1 => ?_)
  · have c_1 : k1.toInt < 0 := zc_lt rfl rfl c_1
    exfalso; omega
  · have c_1 : 0 ≤ k1.toInt := zc_nlt rfl rfl c_1
    refine lv_iload_n hx hb dX11_feature_4 rfl (lv_at hl 1 rfl) ?_
    refine lv_bipush (v := 6) hx hb dX11_feature_5 rfl ?_
    refine lv_icmp_gt (tgt := 42) hx hb dX11_feature_7 rfl (fun c_2 => ?_) (fun c_2 => ?_)
    · have c_2 : 6 < k1.toInt := zc_lt rfl rfl c_2
      exfalso; omega
    · have c_2 : k1.toInt ≤ 6 := zc_nlt rfl rfl c_2
      refine lv_iload_n hx hb dX11_feature_10 rfl (lv_at hl 2 rfl) ?_
      refine lv_if_lt (tgt := 42) hx hb dX11_feature_11 rfl (fun c_3 => ?_) (fun c_3 => ?_)
      · have c_3 : k2.toInt < 0 := zc_lt rfl rfl c_3
        exfalso; omega
      · have c_3 : 0 ≤ k2.toInt := zc_nlt rfl rfl c_3
        refine lv_iload_n hx hb dX11_feature_14 rfl (lv_at hl 2 rfl) ?_
        refine lv_bipush (v := 9) hx hb dX11_feature_15 rfl ?_
        refine lv_icmp_gt (tgt := 42) hx hb dX11_feature_17 rfl (fun c_4 => ?_) (fun c_4 => ?_)
        · have c_4 : 9 < k2.toInt := zc_lt rfl rfl c_4
          exfalso; omega
        · have c_4 : k2.toInt ≤ 9 := zc_nlt rfl rfl c_4
          refine lv_iload_n hx hb dX11_feature_20 rfl (lv_at hl 3 rfl) ?_
          refine lv_if_lt (tgt := 42) hx hb dX11_feature_21 rfl (fun c_5 => ?_) (fun c_5 => ?_)
          · have c_5 : k3.toInt < 0 := zc_lt rfl rfl c_5
            exfalso; omega
          · have c_5 : 0 ≤ k3.toInt := zc_nlt rfl rfl c_5
            refine lv_iload_n hx hb dX11_feature_24 rfl (lv_at hl 3 rfl) ?_
            refine lv_bipush (v := 100) hx hb dX11_feature_25 rfl ?_
            refine lv_icmp_gt (tgt := 42) hx hb dX11_feature_27 rfl (fun c_6 => ?_) (fun c_6 => ?_)
            · have c_6 : 100 < k3.toInt := zc_lt rfl rfl c_6
              exfalso; omega
            · have c_6 : k3.toInt ≤ 100 := zc_nlt rfl rfl c_6
              refine lv_iload hx hb dX11_feature_30 (lv_at hl 4 rfl) ?_
              refine lv_if_lt (tgt := 42) hx hb dX11_feature_32 rfl (fun c_7 => ?_) (fun c_7 => ?_)
              · have c_7 : k4.toInt < 0 := zc_lt rfl rfl c_7
                exfalso; omega
              · have c_7 : 0 ≤ k4.toInt := zc_nlt rfl rfl c_7
                refine lv_iload hx hb dX11_feature_35 (lv_at hl 4 rfl) ?_
                refine lv_bipush (v := 9) hx hb dX11_feature_37 rfl ?_
                refine lv_icmp_le (tgt := 48) hx hb dX11_feature_39 rfl (fun c_8 => ?_) (fun c_8 => ?_)
                · have c_8 : k4.toInt ≤ 9 := zc_le rfl rfl c_8
                  refine lv_aload_n hx hb dX11_feature_48 rfl (lv_at hl 0 rfl) ?_
                  refine va_get (D := (dC, dI)) (ci := 9) (v := .int (I0 0)) (C := RX11) (T := TX11) (N := 55) hx hb hts inX11 hown hK hP 0 rfl rfl 0 (Nat.le_of_ble_eq_true rfl) (hts _ mw_1159) (fun _ h9 => h9) rfl dX11_feature_49 ?_
                  refine zz_i (v := nI ft) (hft) ?_
                  refine lv_sipush (v := 200) hx hb dX11_feature_52 rfl ?_
                  have b9_10 : zlt (ft) := show ft < 2147483648 by omega
                  refine lv_icmp_ne (tgt := 65) hx hb dX11_feature_55 rfl (fun c_9 => ?_) (fun c_9 => ?_)
                  · have c_9 : ¬ ((ft : Nat) : Int) = 200 := zc_ne (nI_toInt b9_10) rfl c_9
                    refine lv_aload_n hx hb dX11_feature_65 rfl (lv_at hl 0 rfl) ?_
                    refine va_get (D := (dC, dI)) (ci := 9) (v := .int (I0 0)) (C := RX11) (T := TX11) (N := 55) hx hb hts inX11 hown hK hP 0 rfl rfl 0 (Nat.le_of_ble_eq_true rfl) (hts _ mw_1159) (fun _ h9 => h9) rfl dX11_feature_66 ?_
                    refine zz_i (v := nI ft) (hft) ?_
                    refine lv_istore (lv' := [(5, .int (nI ft)), (0, .ref k0), (1, .int k1), (2, .int k2), (3, .int k3), (4, .int k4)]) hx hb dX11_feature_69 hl (Nat.le_of_ble_eq_true rfl) rfl (fun ls hl => ?_)
                    refine lv_aload_n hx hb dX11_feature_71 rfl (lv_at hl 1 rfl) ?_
                    refine lv_iload hx hb dX11_feature_72 (lv_at hl 0 rfl) ?_
                    refine lv_iload_n hx hb dX11_feature_74 rfl (lv_at hl 2 rfl) ?_
                    refine lv_iload_n hx hb dX11_feature_75 rfl (lv_at hl 3 rfl) ?_
                    refine lv_iload_n hx hb dX11_feature_76 rfl (lv_at hl 4 rfl) ?_
                    refine lv_iload hx hb dX11_feature_77 (lv_at hl 5 rfl) ?_
                    obtain ⟨hPc, hDc, hFc⟩ := zo_sub (wc := [_, _, _, _, _, _, _, _, _, _, _, _]) hP hD hS hA [0, 1, 2, 3, 4, 5, 6, 7, 8, 9, 10, 11] (by decide +kernel) rfl
                    refine zcall (st1 := []) (va_runV (As := [.int (nI ft), .int k1, .int k2, .int k3, .int k4]) (rest := []) ⟨hx, hb, hml, hown, hts⟩ (k_M_begin l dC dI cI cZ cF s.heap.size k0 a I0 J0 ft k1 k2 k3 k4 kd rk wd tw st tn gb pa pb it mn (by first | with_reducible assumption | omega)) (csV_196 hts rfl rfl ⟨Nat.le_of_ble_eq_true rfl, Nat.le_of_ble_eq_true rfl⟩) (zPV2 (q0 := 0) (ci := 9) hPc hDc hK hXN rfl rfl) rfl rfl hl.1 rfl (lv_room (Nat.le_of_ble_eq_true rfl)) dX11_feature_79 ⟨Nat.le_of_ble_eq_true rfl, Nat.le_of_ble_eq_true rfl⟩) hS hFc hFc rfl (fun t H locs ht hB hk1 hS => ?_)
                    obtain ⟨hP1, hD1⟩ := hB
                    rw [ht] at hP1
                    obtain ⟨hP, hD⟩ := zn (W2 := [(om k0 a (upd I0 0 (nI (ft + 1))) J0), (oa (a 1) cI 201 (upd kd ft k1)), (oa (a 2) cI 201 (upd rk ft k2)), (oa (a 3) cI 201 (upd wd ft k3)), (oa (a 4) cI 201 (upd tw ft k4)), (oa (a 5) cI 201 (upd st ft 0)), (oa (a 6) cZ 201 (upd tn ft 0)), (oa (a 7) cI 201 (upd gb ft 0)), (oa (a 8) cI 201 (upd pa ft (-1))), (oa (a 9) cI 201 (upd pb ft (-1))), (oa (a 10) cI 201 (upd it ft (-1))), (oa (a 11) cI 201 (upd mn ft 0)), _]) hP hD hk1 hFc hP1 hD1 zl_170 zl_39 zl_39 zl_170 (by decide +kernel) rfl rfl rfl rfl rfl
                    clear hk1 hPc hDc hFc hP1 hD1 ht
                    refine lv_aload_n hx hb dX11_feature_82 rfl (lv_at hl 1 rfl) ?_
                    obtain ⟨hPc, hDc, hFc⟩ := zo_sub (wc := [_, _]) hP hD hS hA [0, 12] rfl rfl
                    refine zcall (st1 := []) (va_runV (As := []) (rest := []) ⟨hx, hb, hml, hown, hts⟩ (k_M_settle l dC dI cI cZ cF H.size k0 a (upd I0 0 (nI (ft + 1))) J0 sa ) (csV_197 hts rfl rfl ⟨Nat.le_of_ble_eq_true rfl, Nat.le_of_ble_eq_true rfl⟩) (zPV2 (q0 := 0) (ci := 9) hPc hDc hK hXN rfl rfl) rfl rfl hl.1 rfl (lv_room (Nat.le_of_ble_eq_true rfl)) dX11_feature_83 ⟨Nat.le_of_ble_eq_true rfl, Nat.le_of_ble_eq_true rfl⟩) hS hFc hFc rfl (fun t H locs ht hB hk1 hS => ?_)
                    obtain ⟨hP1, hD1⟩ := hB
                    rw [ht] at hP1
                    obtain ⟨hP, hD⟩ := zn (W2 := [(om k0 a (upd (upd (upd I0 0 (nI (ft + 1))) 20 0) 21 (I0 19)) J0), _, _, _, _, _, _, _, _, _, _, _, (oa (a 27) cI 516 (upd sa 0 0))]) hP hD hk1 hFc hP1 hD1 [0, 12] zl_171 zl_172 [0, 12] (by decide +kernel) rfl rfl rfl rfl rfl
                    clear hk1 hPc hDc hFc hP1 hD1 ht
                    refine lv_aload_n hx hb dX11_feature_86 rfl (lv_at hl 1 rfl) ?_
                    refine lv_iconst (v := 0) hx hb dX11_feature_87 rfl ?_
                    refine va_put (D := (dC, dI)) (ci := 9) (v := .int 0) (ty := .int) (C := RX11) (T := TX11) (N := 55) hx hb hts inX11 tyX11 tyX11_ok nmX11 hown hK hP hD hS 0 rfl rfl 14 (by decide) (hts _ mw_1173) (fun _ h9 => h9) rfl (by decide +kernel) rfl rfl (Nat.le_of_ble_eq_true rfl) dX11_feature_88 (fun H locs hP hD hS => ?_)
                    obtain ⟨hP, hD⟩ := zre (W2 := [(om k0 a (upd (upd (upd (upd I0 0 (nI (ft + 1))) 14 0) 20 0) 21 (I0 19)) J0), _, _, _, _, _, _, _, _, _, _, _, _]) hP hD rfl
                    refine lv_iload hx hb dX11_feature_91 (lv_at hl 0 rfl) ?_
                    obtain ⟨hP9, hD9⟩ := zu_sub (wc := [_, _, _, _, _, _, _, _, _, _, _, _, _]) hP hD [true, true, true, true, true, true, true, true, true, true, true, true, true] rfl rfl
                    rw [hQ9]
                    exact W.iret (v := nI ft) hx hb hr (fun t ht hW => ⟨⟨rfl, by rw [ht]; exact hP9, hD9⟩, hS.F ht⟩) hS.2.2 dX11_feature_93
                  · have c_9 : ((ft : Nat) : Int) = 200 := zc_eq (nI_toInt b9_10) rfl c_9
                    exfalso; omega
                · have c_8 : 9 < k4.toInt := zc_nle rfl rfl c_8
                  exfalso; omega
set_option maxHeartbeats 4000000 in
set_option maxRecDepth 100000 in
theorem k_M_corner_x (l : Launch) (dC : Nat → ClassId) (dI : Nat → Nat → Nat) (cI cZ cF : ClassId) (sz : Nat) (k0 : Nat) (a : Nat → Nat) (I0 : Nat → Int32) (J0 : Nat → Int64) (ft : Nat) (v : Int32) (px : Int32) (py : Int32) (hft : I0 0 = nI ft) (h200 : ft ≤ 200) (hv : ¬ (0 ≤ v.toInt ∧ v.toInt < (ft : Int))) : zM l yX11_corner cX11_corner 4 (some .int) ({ frames := 1, cells := 0, slots := 0, locals := 21 } : Room) [.ref k0, .int v, .int px, .int py] (dC, dI) (zTy cI cZ cF) [(om k0 a I0 J0)] sz (some (.int (-1))) (fun A t => zPD (dC, dI) classes A [(om k0 a (upd (upd I0 14 1) 15 (I0 15)) J0)] t.heap) 0 0 := by
  refine zIn (own := "ScaleShopModel") (loc := [(0, .ref k0), (1, .int v), (2, .int px), (3, .int py)]) rfl rfl rfl rfl (fun p e s m below meth c hx hb hr hts hown hlocks hml hnm9 A hA hS hP hD hK hXN Q9 hQ9 ls hl => ?_)
  refine lv_aload_n hx hb dX11_corner_0 rfl (lv_at hl 0 rfl) ?_
  refine lv_iload_n hx hb dX11_corner_1 rfl (lv_at hl 1 rfl) ?_
  obtain ⟨hPc, hDc, hFc, hI1⟩ := zi_sub (wc := [_]) hP hD hS hA [0] rfl rfl
  refine zcall (st1 := [.int (pI (0 ≤ v.toInt ∧ v.toInt < (ft : Int)))]) (va_runV (As := [.int v]) (rest := []) ⟨hx, hb, hml, hown, hts⟩ (k_M_isFeature l dC dI cI cZ cF s.heap.size k0 a I0 J0 ft v (by first | with_reducible assumption | assumption) (by first | with_reducible assumption | omega)) (csV_178 hts rfl rfl ⟨Nat.le_of_ble_eq_true rfl, Nat.le_of_ble_eq_true rfl⟩) (zPV2 (q0 := 0) (ci := 9) hPc hDc hK hXN rfl rfl) rfl rfl hl.1 rfl (lv_room (Nat.le_of_ble_eq_true rfl)) dX11_corner_2 ⟨Nat.le_of_ble_eq_true rfl, Nat.le_of_ble_eq_true rfl⟩) hS hFc hFc rfl (fun t H locs ht hB hk1 hS => ?_)
  obtain ⟨hP1, hD1⟩ := hB
  rw [ht] at hP1
  replace hP := z0 hP hD hk1 hP1 hI1
  clear hk1 hPc hDc hFc hP1 hD1 ht hI1
  refine lv_if_ne (tgt := 14) hx hb dX11_corner_5 rfl (fun c_1 => ?_) (fun c_1 => ?_)
  · have c_1 : 0 ≤ v.toInt ∧ v.toInt < (ft : Int) := zp_1 c_1
    exfalso; exact absurd (by first | with_reducible assumption | assumption) hv
  · have c_1 : ¬ (0 ≤ v.toInt ∧ v.toInt < (ft : Int)) := zp_0 c_1
    refine lv_aload_n hx hb dX11_corner_8 rfl (lv_at hl 0 rfl) ?_
    refine lv_iconst (v := 1) hx hb dX11_corner_9 rfl ?_
    obtain ⟨hPc, hDc, hFc⟩ := zo_sub (wc := [_]) hP hD hS hA [0] rfl rfl
    refine zcall (st1 := [.int (-1)]) (va_runV (As := [.int 1]) (rest := []) ⟨hx, hb, hml, hown, hts⟩ (k_M_refuse l dC dI cI cZ cF H.size k0 a I0 J0 1 (by decide)) (csV_185 hts rfl rfl ⟨Nat.le_of_ble_eq_true rfl, Nat.le_of_ble_eq_true rfl⟩) (zPV2 (q0 := 0) (ci := 9) hPc hDc hK hXN rfl rfl) rfl rfl hl.1 rfl (lv_room (Nat.le_of_ble_eq_true rfl)) dX11_corner_10 ⟨Nat.le_of_ble_eq_true rfl, Nat.le_of_ble_eq_true rfl⟩) hS hFc hFc rfl (fun t H locs ht hB hk1 hS => ?_)
    obtain ⟨hP1, hD1⟩ := hB
    rw [ht] at hP1
    obtain ⟨hP, hD⟩ := zn (W2 := [(om k0 a (upd (upd I0 14 1) 15 (I0 15)) J0)]) hP hD hk1 hFc hP1 hD1 [0] [] [false] [0] (by decide +kernel) rfl rfl rfl rfl rfl
    clear hk1 hPc hDc hFc hP1 hD1 ht
    obtain ⟨hP9, hD9⟩ := zu_sub (wc := [_]) hP hD [true] rfl rfl
    rw [hQ9]
    exact W.iret (v := (-1)) hx hb hr (fun t ht hW => ⟨⟨rfl, by rw [ht]; exact hP9, hD9⟩, hS.F ht⟩) hS.2.2 dX11_corner_13
set_option maxHeartbeats 4000000 in
set_option maxRecDepth 100000 in
theorem k_M_tear_x (l : Launch) (dC : Nat → ClassId) (dI : Nat → Nat → Nat) (cI cZ cF : ClassId) (sz : Nat) (k0 : Nat) (a : Nat → Nat) (I0 : Nat → Int32) (J0 : Nat → Int64) (ft : Nat) (v : Int32) (hft : I0 0 = nI ft) (h200 : ft ≤ 200) (hv : ¬ (0 ≤ v.toInt ∧ v.toInt < (ft : Int))) : zM l yX11_tear cX11_tear 2 (some .boolean) ({ frames := 2, cells := 0, slots := 0, locals := 42 } : Room) [.ref k0, .int v] (dC, dI) (zTy cI cZ cF) [(om k0 a I0 J0)] sz (some (.int 0)) (fun A t => zPD (dC, dI) classes A [(om k0 a (upd (upd I0 14 1) 15 (I0 15)) J0)] t.heap) 0 0 := by
  refine zIn (own := "ScaleShopModel") (loc := [(0, .ref k0), (1, .int v)]) rfl rfl rfl rfl (fun p e s m below meth c hx hb hr hts hown hlocks hml hnm9 A hA hS hP hD hK hXN Q9 hQ9 ls hl => ?_)
  refine lv_aload_n hx hb dX11_tear_0 rfl (lv_at hl 0 rfl) ?_
  refine lv_iload_n hx hb dX11_tear_1 rfl (lv_at hl 1 rfl) ?_
  obtain ⟨hPc, hDc, hFc, hI1⟩ := zi_sub (wc := [_]) hP hD hS hA [0] rfl rfl
  refine zcall (st1 := [.int (pI (0 ≤ v.toInt ∧ v.toInt < (ft : Int)))]) (va_runV (As := [.int v]) (rest := []) ⟨hx, hb, hml, hown, hts⟩ (k_M_isFeature l dC dI cI cZ cF s.heap.size k0 a I0 J0 ft v (by first | with_reducible assumption | assumption) (by first | with_reducible assumption | omega)) (csV_178 hts rfl rfl ⟨Nat.le_of_ble_eq_true rfl, Nat.le_of_ble_eq_true rfl⟩) (zPV2 (q0 := 0) (ci := 9) hPc hDc hK hXN rfl rfl) rfl rfl hl.1 rfl (lv_room (Nat.le_of_ble_eq_true rfl)) dX11_tear_2 ⟨Nat.le_of_ble_eq_true rfl, Nat.le_of_ble_eq_true rfl⟩) hS hFc hFc rfl (fun t H locs ht hB hk1 hS => ?_)
  obtain ⟨hP1, hD1⟩ := hB
  rw [ht] at hP1
  replace hP := z0 hP hD hk1 hP1 hI1
  clear hk1 hPc hDc hFc hP1 hD1 ht hI1
  refine lv_if_ne (tgt := 14) hx hb dX11_tear_5 rfl (fun c_1 => ?_) (fun c_1 => ?_)
  · have c_1 : 0 ≤ v.toInt ∧ v.toInt < (ft : Int) := zp_1 c_1
    exfalso; exact absurd (by first | with_reducible assumption | assumption) hv
  · have c_1 : ¬ (0 ≤ v.toInt ∧ v.toInt < (ft : Int)) := zp_0 c_1
    refine lv_aload_n hx hb dX11_tear_8 rfl (lv_at hl 0 rfl) ?_
    refine lv_iconst (v := 1) hx hb dX11_tear_9 rfl ?_
    obtain ⟨hPc, hDc, hFc⟩ := zo_sub (wc := [_]) hP hD hS hA [0] rfl rfl
    refine zcall (st1 := [.int 0]) (va_runV (As := [.int 1]) (rest := []) ⟨hx, hb, hml, hown, hts⟩ (k_M_no l dC dI cI cZ cF H.size k0 a I0 J0 1 (by decide)) (csV_198 hts rfl rfl ⟨Nat.le_of_ble_eq_true rfl, Nat.le_of_ble_eq_true rfl⟩) (zPV2 (q0 := 0) (ci := 9) hPc hDc hK hXN rfl rfl) rfl rfl hl.1 rfl (lv_room (Nat.le_of_ble_eq_true rfl)) dX11_tear_10 ⟨Nat.le_of_ble_eq_true rfl, Nat.le_of_ble_eq_true rfl⟩) hS hFc hFc rfl (fun t H locs ht hB hk1 hS => ?_)
    obtain ⟨hP1, hD1⟩ := hB
    rw [ht] at hP1
    obtain ⟨hP, hD⟩ := zn (W2 := [(om k0 a (upd (upd I0 14 1) 15 (I0 15)) J0)]) hP hD hk1 hFc hP1 hD1 [0] [] [false] [0] (by decide +kernel) rfl rfl rfl rfl rfl
    clear hk1 hPc hDc hFc hP1 hD1 ht
    obtain ⟨hP9, hD9⟩ := zu_sub (wc := [_]) hP hD [true] rfl rfl
    rw [hQ9]
    exact W.zret (ty := .boolean) (v := 0) hx hb hr (rfl) (fun t ht hW => ⟨⟨rfl, by rw [ht]; exact hP9, hD9⟩, hS.F ht⟩) hS.2.2 dX11_tear_13
set_option maxHeartbeats 4000000 in
set_option maxRecDepth 100000 in
theorem k_M_done_x (l : Launch) (dC : Nat → ClassId) (dI : Nat → Nat → Nat) (cI cZ cF : ClassId) (sz : Nat) (k0 : Nat) (a : Nat → Nat) (I0 : Nat → Int32) (J0 : Nat → Int64) (ft : Nat) (v : Int32) (hft : I0 0 = nI ft) (h200 : ft ≤ 200) (hv : ¬ (0 ≤ v.toInt ∧ v.toInt < (ft : Int))) : zM l yX11_done cX11_done 2 (some .boolean) ({ frames := 2, cells := 0, slots := 0, locals := 42 } : Room) [.ref k0, .int v] (dC, dI) (zTy cI cZ cF) [(om k0 a I0 J0)] sz (some (.int 0)) (fun A t => zPD (dC, dI) classes A [(om k0 a (upd (upd I0 14 1) 15 (I0 15)) J0)] t.heap) 0 0 := by
  refine zIn (own := "ScaleShopModel") (loc := [(0, .ref k0), (1, .int v)]) rfl rfl rfl rfl (fun p e s m below meth c hx hb hr hts hown hlocks hml hnm9 A hA hS hP hD hK hXN Q9 hQ9 ls hl => ?_)
  refine lv_aload_n hx hb dX11_done_0 rfl (lv_at hl 0 rfl) ?_
  refine lv_iload_n hx hb dX11_done_1 rfl (lv_at hl 1 rfl) ?_
  obtain ⟨hPc, hDc, hFc, hI1⟩ := zi_sub (wc := [_]) hP hD hS hA [0] rfl rfl
  refine zcall (st1 := [.int (pI (0 ≤ v.toInt ∧ v.toInt < (ft : Int)))]) (va_runV (As := [.int v]) (rest := []) ⟨hx, hb, hml, hown, hts⟩ (k_M_isFeature l dC dI cI cZ cF s.heap.size k0 a I0 J0 ft v (by first | with_reducible assumption | assumption) (by first | with_reducible assumption | omega)) (csV_178 hts rfl rfl ⟨Nat.le_of_ble_eq_true rfl, Nat.le_of_ble_eq_true rfl⟩) (zPV2 (q0 := 0) (ci := 9) hPc hDc hK hXN rfl rfl) rfl rfl hl.1 rfl (lv_room (Nat.le_of_ble_eq_true rfl)) dX11_done_2 ⟨Nat.le_of_ble_eq_true rfl, Nat.le_of_ble_eq_true rfl⟩) hS hFc hFc rfl (fun t H locs ht hB hk1 hS => ?_)
  obtain ⟨hP1, hD1⟩ := hB
  rw [ht] at hP1
  replace hP := z0 hP hD hk1 hP1 hI1
  clear hk1 hPc hDc hFc hP1 hD1 ht hI1
  refine lv_if_ne (tgt := 14) hx hb dX11_done_5 rfl (fun c_1 => ?_) (fun c_1 => ?_)
  · have c_1 : 0 ≤ v.toInt ∧ v.toInt < (ft : Int) := zp_1 c_1
    exfalso; exact absurd (by first | with_reducible assumption | assumption) hv
  · have c_1 : ¬ (0 ≤ v.toInt ∧ v.toInt < (ft : Int)) := zp_0 c_1
    refine lv_aload_n hx hb dX11_done_8 rfl (lv_at hl 0 rfl) ?_
    refine lv_iconst (v := 1) hx hb dX11_done_9 rfl ?_
    obtain ⟨hPc, hDc, hFc⟩ := zo_sub (wc := [_]) hP hD hS hA [0] rfl rfl
    refine zcall (st1 := [.int 0]) (va_runV (As := [.int 1]) (rest := []) ⟨hx, hb, hml, hown, hts⟩ (k_M_no l dC dI cI cZ cF H.size k0 a I0 J0 1 (by decide)) (csV_198 hts rfl rfl ⟨Nat.le_of_ble_eq_true rfl, Nat.le_of_ble_eq_true rfl⟩) (zPV2 (q0 := 0) (ci := 9) hPc hDc hK hXN rfl rfl) rfl rfl hl.1 rfl (lv_room (Nat.le_of_ble_eq_true rfl)) dX11_done_10 ⟨Nat.le_of_ble_eq_true rfl, Nat.le_of_ble_eq_true rfl⟩) hS hFc hFc rfl (fun t H locs ht hB hk1 hS => ?_)
    obtain ⟨hP1, hD1⟩ := hB
    rw [ht] at hP1
    obtain ⟨hP, hD⟩ := zn (W2 := [(om k0 a (upd (upd I0 14 1) 15 (I0 15)) J0)]) hP hD hk1 hFc hP1 hD1 [0] [] [false] [0] (by decide +kernel) rfl rfl rfl rfl rfl
    clear hk1 hPc hDc hFc hP1 hD1 ht
    obtain ⟨hP9, hD9⟩ := zu_sub (wc := [_]) hP hD [true] rfl rfl
    rw [hQ9]
    exact W.zret (ty := .boolean) (v := 0) hx hb hr (rfl) (fun t ht hW => ⟨⟨rfl, by rw [ht]; exact hP9, hD9⟩, hS.F ht⟩) hS.2.2 dX11_done_13
set_option maxHeartbeats 4000000 in
set_option maxRecDepth 100000 in
theorem k_M_corner_r (l : Launch) (dC : Nat → ClassId) (dI : Nat → Nat → Nat) (cI cZ cF : ClassId) (sz : Nat) (k0 : Nat) (a : Nat → Nat) (I0 : Nat → Int32) (J0 : Nat → Int64) (f : Nat) (n : Nat) (ft : Nat) (px : Int32) (py : Int32) (st : Nat → Int32) (tn : Nat → Int32) (mn : Nat → Int32) (kd : Nat → Int32) (hft : I0 0 = nI ft) (h200 : ft ≤ 200) (hf_t : f < ft) (hm_f : mn f = nI n) (hn_f : n ≤ 40) (hbad : ¬ ((st f).toInt = 0 ∧ (0 ≤ px.toInt ∧ px.toInt ≤ 1000 ∧ 0 ≤ py.toInt ∧ py.toInt ≤ 1000) ∧ (tn f).toInt = 0 ∧ ¬ n = cpk (kd f).toInt)) : zM l yX11_corner cX11_corner 4 (some .int) ({ frames := 1, cells := 0, slots := 0, locals := 21 } : Room) [.ref k0, .int (nI f), .int px, .int py] (dC, dI) (zTy cI cZ cF) [(om k0 a I0 J0), (oa (a 5) cI 201 st), (oa (a 6) cZ 201 tn), (oa (a 11) cI 201 mn), (oa (a 1) cI 201 kd)] sz (some (.int (-1))) (fun A t => ∃ (z9 : Int32), zPD (dC, dI) classes A [(om k0 a (upd (upd I0 14 z9) 15 (I0 15)) J0), (oa (a 5) cI 201 st), (oa (a 6) cZ 201 tn), (oa (a 11) cI 201 mn), (oa (a 1) cI 201 kd)] t.heap) 0 0 := by
  refine zIn (own := "ScaleShopModel") (loc := [(0, .ref k0), (1, .int (nI f)), (2, .int px), (3, .int py)]) rfl rfl rfl rfl (fun p e s m below meth c hx hb hr hts hown hlocks hml hnm9 A hA hS hP hD hK hXN Q9 hQ9 ls hl => ?_)
  have hcp := cpk_s (kd f).toInt
  refine lv_aload_n hx hb dX11_corner_0 rfl (lv_at hl 0 rfl) ?_
  refine lv_iload_n hx hb dX11_corner_1 rfl (lv_at hl 1 rfl) ?_
  obtain ⟨hPc, hDc, hFc, hI1⟩ := zi_sub (wc := [_]) hP hD hS hA [0] rfl rfl
  refine zcall (st1 := [.int (pI (f < ft))]) (va_runV (As := [.int (nI f)]) (rest := []) ⟨hx, hb, hml, hown, hts⟩ (k_M_isFeature_n l dC dI cI cZ cF s.heap.size k0 a I0 J0 f ft (by first | with_reducible assumption | assumption) (by first | with_reducible assumption | omega) (by first | with_reducible assumption | omega)) (csV_178 hts rfl rfl ⟨Nat.le_of_ble_eq_true rfl, Nat.le_of_ble_eq_true rfl⟩) (zPV2 (q0 := 0) (ci := 9) hPc hDc hK hXN rfl rfl) rfl rfl hl.1 rfl (lv_room (Nat.le_of_ble_eq_true rfl)) dX11_corner_2 ⟨Nat.le_of_ble_eq_true rfl, Nat.le_of_ble_eq_true rfl⟩) hS hFc hFc rfl (fun t H locs ht hB hk1 hS => ?_)
  obtain ⟨hP1, hD1⟩ := hB
  rw [ht] at hP1
  replace hP := z0 hP hD hk1 hP1 hI1
  clear hk1 hPc hDc hFc hP1 hD1 ht hI1
  refine lv_if_ne (tgt := 14) hx hb dX11_corner_5 rfl (fun c_1 => ?_) (fun c_1 => ?_)
  · have c_1 : f < ft := zp_1 c_1
    refine lv_aload_n hx hb dX11_corner_14 rfl (lv_at hl 0 rfl) ?_
    refine va_get (D := (dC, dI)) (ci := 9) (v := .ref (a 5)) (C := RX11) (T := TX11) (N := 55) hx hb hts inX11 hown hK hP 0 rfl rfl 5 (Nat.le_of_ble_eq_true rfl) (hts _ mw_1164) (fun _ h9 => h9) rfl dX11_corner_15 ?_
    refine lv_iload_n hx hb dX11_corner_18 rfl (lv_at hl 1 rfl) ?_
    have b9_2 : f < 201 := by omega
    refine z_iald hx hb hK hP 1 0 rfl rfl (e := f) rfl b9_2 (Nat.le_of_ble_eq_true rfl) dX11_corner_19 ?_
    refine lv_if_eq (tgt := 29) hx hb dX11_corner_20 rfl (fun c_3 => ?_) (fun c_3 => ?_)
    · have c_3 : (st f).toInt = 0 := zc_eq rfl rfl c_3
      refine lv_iload_n hx hb dX11_corner_29 rfl (lv_at hl 2 rfl) ?_
      refine lv_if_lt (tgt := 51) hx hb dX11_corner_30 rfl (fun c_4 => ?_) (fun c_4 => ?_)
      · have c_4 : px.toInt < 0 := zc_lt rfl rfl c_4
        refine lv_aload_n hx hb dX11_corner_51 rfl (lv_at hl 0 rfl) ?_
        refine lv_iconst (v := 4) hx hb dX11_corner_52 rfl ?_
        obtain ⟨hPc, hDc, hFc⟩ := zo_sub (wc := [_]) hP hD hS hA [0] rfl rfl
        refine zcall (st1 := [.int (-1)]) (va_runV (As := [.int 4]) (rest := []) ⟨hx, hb, hml, hown, hts⟩ (k_M_refuse l dC dI cI cZ cF H.size k0 a I0 J0 4 (by decide)) (csV_185 hts rfl rfl ⟨Nat.le_of_ble_eq_true rfl, Nat.le_of_ble_eq_true rfl⟩) (zPV2 (q0 := 0) (ci := 9) hPc hDc hK hXN rfl rfl) rfl rfl hl.1 rfl (lv_room (Nat.le_of_ble_eq_true rfl)) dX11_corner_53 ⟨Nat.le_of_ble_eq_true rfl, Nat.le_of_ble_eq_true rfl⟩) hS hFc hFc rfl (fun t H locs ht hB hk1 hS => ?_)
        obtain ⟨hP1, hD1⟩ := hB
        rw [ht] at hP1
        obtain ⟨hP, hD⟩ := zn (W2 := [(om k0 a (upd (upd I0 14 4) 15 (I0 15)) J0), _, _, _, _]) hP hD hk1 hFc hP1 hD1 [0] [false, true, true, true, true] [false, true, true, true, true] [0] (by decide +kernel) rfl rfl rfl rfl rfl
        clear hk1 hPc hDc hFc hP1 hD1 ht
        obtain ⟨hP9, hD9⟩ := zu_sub (wc := [_, _, _, _, _]) hP hD [true, true, true, true, true] rfl rfl
        rw [hQ9]
        exact W.iret (v := (-1)) hx hb hr (fun t ht hW => ⟨⟨rfl, 4, by rw [ht]; exact hP9, hD9⟩, hS.F ht⟩) hS.2.2 dX11_corner_56
      · have c_4 : 0 ≤ px.toInt := zc_nlt rfl rfl c_4
        refine lv_iload_n hx hb dX11_corner_33 rfl (lv_at hl 2 rfl) ?_
        refine lv_sipush (v := 1000) hx hb dX11_corner_34 rfl ?_
        refine lv_icmp_gt (tgt := 51) hx hb dX11_corner_37 rfl (fun c_5 => ?_) (fun c_5 => ?_)
        · have c_5 : 1000 < px.toInt := zc_lt rfl rfl c_5
          refine lv_aload_n hx hb dX11_corner_51 rfl (lv_at hl 0 rfl) ?_
          refine lv_iconst (v := 4) hx hb dX11_corner_52 rfl ?_
          obtain ⟨hPc, hDc, hFc⟩ := zo_sub (wc := [_]) hP hD hS hA [0] rfl rfl
          refine zcall (st1 := [.int (-1)]) (va_runV (As := [.int 4]) (rest := []) ⟨hx, hb, hml, hown, hts⟩ (k_M_refuse l dC dI cI cZ cF H.size k0 a I0 J0 4 (by decide)) (csV_185 hts rfl rfl ⟨Nat.le_of_ble_eq_true rfl, Nat.le_of_ble_eq_true rfl⟩) (zPV2 (q0 := 0) (ci := 9) hPc hDc hK hXN rfl rfl) rfl rfl hl.1 rfl (lv_room (Nat.le_of_ble_eq_true rfl)) dX11_corner_53 ⟨Nat.le_of_ble_eq_true rfl, Nat.le_of_ble_eq_true rfl⟩) hS hFc hFc rfl (fun t H locs ht hB hk1 hS => ?_)
          obtain ⟨hP1, hD1⟩ := hB
          rw [ht] at hP1
          obtain ⟨hP, hD⟩ := zn (W2 := [(om k0 a (upd (upd I0 14 4) 15 (I0 15)) J0), _, _, _, _]) hP hD hk1 hFc hP1 hD1 [0] [false, true, true, true, true] [false, true, true, true, true] [0] (by decide +kernel) rfl rfl rfl rfl rfl
          clear hk1 hPc hDc hFc hP1 hD1 ht
          obtain ⟨hP9, hD9⟩ := zu_sub (wc := [_, _, _, _, _]) hP hD [true, true, true, true, true] rfl rfl
          rw [hQ9]
          exact W.iret (v := (-1)) hx hb hr (fun t ht hW => ⟨⟨rfl, 4, by rw [ht]; exact hP9, hD9⟩, hS.F ht⟩) hS.2.2 dX11_corner_56
        · have c_5 : px.toInt ≤ 1000 := zc_nlt rfl rfl c_5
          refine lv_iload_n hx hb dX11_corner_40 rfl (lv_at hl 3 rfl) ?_
          refine lv_if_lt (tgt := 51) hx hb dX11_corner_41 rfl (fun c_6 => ?_) (fun c_6 => ?_)
          · have c_6 : py.toInt < 0 := zc_lt rfl rfl c_6
            refine lv_aload_n hx hb dX11_corner_51 rfl (lv_at hl 0 rfl) ?_
            refine lv_iconst (v := 4) hx hb dX11_corner_52 rfl ?_
            obtain ⟨hPc, hDc, hFc⟩ := zo_sub (wc := [_]) hP hD hS hA [0] rfl rfl
            refine zcall (st1 := [.int (-1)]) (va_runV (As := [.int 4]) (rest := []) ⟨hx, hb, hml, hown, hts⟩ (k_M_refuse l dC dI cI cZ cF H.size k0 a I0 J0 4 (by decide)) (csV_185 hts rfl rfl ⟨Nat.le_of_ble_eq_true rfl, Nat.le_of_ble_eq_true rfl⟩) (zPV2 (q0 := 0) (ci := 9) hPc hDc hK hXN rfl rfl) rfl rfl hl.1 rfl (lv_room (Nat.le_of_ble_eq_true rfl)) dX11_corner_53 ⟨Nat.le_of_ble_eq_true rfl, Nat.le_of_ble_eq_true rfl⟩) hS hFc hFc rfl (fun t H locs ht hB hk1 hS => ?_)
            obtain ⟨hP1, hD1⟩ := hB
            rw [ht] at hP1
            obtain ⟨hP, hD⟩ := zn (W2 := [(om k0 a (upd (upd I0 14 4) 15 (I0 15)) J0), _, _, _, _]) hP hD hk1 hFc hP1 hD1 [0] [false, true, true, true, true] [false, true, true, true, true] [0] (by decide +kernel) rfl rfl rfl rfl rfl
            clear hk1 hPc hDc hFc hP1 hD1 ht
            obtain ⟨hP9, hD9⟩ := zu_sub (wc := [_, _, _, _, _]) hP hD [true, true, true, true, true] rfl rfl
            rw [hQ9]
            exact W.iret (v := (-1)) hx hb hr (fun t ht hW => ⟨⟨rfl, 4, by rw [ht]; exact hP9, hD9⟩, hS.F ht⟩) hS.2.2 dX11_corner_56
          · have c_6 : 0 ≤ py.toInt := zc_nlt rfl rfl c_6
            refine lv_iload_n hx hb dX11_corner_44 rfl (lv_at hl 3 rfl) ?_
            refine lv_sipush (v := 1000) hx hb dX11_corner_45 rfl ?_
            refine lv_icmp_le (tgt := 57) hx hb dX11_corner_48 rfl (fun c_7 => ?_) (fun c_7 => ?_)
            · have c_7 : py.toInt ≤ 1000 := zc_le rfl rfl c_7
              refine lv_aload_n hx hb dX11_corner_57 rfl (lv_at hl 0 rfl) ?_
              refine va_get (D := (dC, dI)) (ci := 9) (v := .ref (a 6)) (C := RX11) (T := TX11) (N := 55) hx hb hts inX11 hown hK hP 0 rfl rfl 6 (Nat.le_of_ble_eq_true rfl) (hts _ mw_1165) (fun _ h9 => h9) rfl dX11_corner_58 ?_
              refine lv_iload_n hx hb dX11_corner_61 rfl (lv_at hl 1 rfl) ?_
              refine z_zald hx hb hK hP 2 1 rfl rfl (e := f) rfl b9_2 (Nat.le_of_ble_eq_true rfl) dX11_corner_62 ?_
              refine lv_if_eq (tgt := 72) hx hb dX11_corner_63 rfl (fun c_8 => ?_) (fun c_8 => ?_)
              · have c_8 : (tn f).toInt = 0 := zc_eq rfl rfl c_8
                refine lv_aload_n hx hb dX11_corner_72 rfl (lv_at hl 0 rfl) ?_
                refine va_get (D := (dC, dI)) (ci := 9) (v := .ref (a 11)) (C := RX11) (T := TX11) (N := 55) hx hb hts inX11 hown hK hP 0 rfl rfl 11 (Nat.le_of_ble_eq_true rfl) (hts _ mw_1170) (fun _ h9 => h9) rfl dX11_corner_73 ?_
                refine lv_iload_n hx hb dX11_corner_76 rfl (lv_at hl 1 rfl) ?_
                refine z_iald hx hb hK hP 3 0 rfl rfl (e := f) rfl b9_2 (Nat.le_of_ble_eq_true rfl) dX11_corner_77 ?_
                refine zz_i (v := nI n) (hm_f) ?_
                refine lv_aload_n hx hb dX11_corner_78 rfl (lv_at hl 0 rfl) ?_
                refine va_get (D := (dC, dI)) (ci := 9) (v := .ref (a 1)) (C := RX11) (T := TX11) (N := 55) hx hb hts inX11 hown hK hP 0 rfl rfl 1 (Nat.le_of_ble_eq_true rfl) (hts _ mw_1160) (fun _ h9 => h9) rfl dX11_corner_79 ?_
                refine lv_iload_n hx hb dX11_corner_82 rfl (lv_at hl 1 rfl) ?_
                refine z_iald hx hb hK hP 4 0 rfl rfl (e := f) rfl b9_2 (Nat.le_of_ble_eq_true rfl) dX11_corner_83 ?_
                refine lv_if_ne (tgt := 91) hx hb dX11_corner_84 rfl (fun c_9 => ?_) (fun c_9 => ?_)
                · have c_9 : ¬ (kd f).toInt = 0 := zc_ne rfl rfl c_9
                  refine lv_bipush (v := 40) hx hb dX11_corner_91 rfl ?_
                  have b9_11 : zlt (n) := show n < 2147483648 by omega
                  refine lv_icmp_ne (tgt := 103) hx hb dX11_corner_93 rfl (fun c_10 => ?_) (fun c_10 => ?_)
                  · have c_10 : ¬ ((n : Nat) : Int) = 40 := zc_ne (nI_toInt b9_11) rfl c_10
                    exfalso; omega
                  · have c_10 : ((n : Nat) : Int) = 40 := zc_eq (nI_toInt b9_11) rfl c_10
                    refine lv_aload_n hx hb dX11_corner_96 rfl (lv_at hl 0 rfl) ?_
                    refine lv_bipush (v := 6) hx hb dX11_corner_97 rfl ?_
                    obtain ⟨hPc, hDc, hFc⟩ := zo_sub (wc := [_]) hP hD hS hA [0] rfl rfl
                    refine zcall (st1 := [.int (-1)]) (va_runV (As := [.int 6]) (rest := []) ⟨hx, hb, hml, hown, hts⟩ (k_M_refuse l dC dI cI cZ cF H.size k0 a I0 J0 6 (by decide)) (csV_185 hts rfl rfl ⟨Nat.le_of_ble_eq_true rfl, Nat.le_of_ble_eq_true rfl⟩) (zPV2 (q0 := 0) (ci := 9) hPc hDc hK hXN rfl rfl) rfl rfl hl.1 rfl (lv_room (Nat.le_of_ble_eq_true rfl)) dX11_corner_99 ⟨Nat.le_of_ble_eq_true rfl, Nat.le_of_ble_eq_true rfl⟩) hS hFc hFc rfl (fun t H locs ht hB hk1 hS => ?_)
                    obtain ⟨hP1, hD1⟩ := hB
                    rw [ht] at hP1
                    obtain ⟨hP, hD⟩ := zn (W2 := [(om k0 a (upd (upd I0 14 6) 15 (I0 15)) J0), _, _, _, _]) hP hD hk1 hFc hP1 hD1 [0] [false, true, true, true, true] [false, true, true, true, true] [0] (by decide +kernel) rfl rfl rfl rfl rfl
                    clear hk1 hPc hDc hFc hP1 hD1 ht
                    obtain ⟨hP9, hD9⟩ := zu_sub (wc := [_, _, _, _, _]) hP hD [true, true, true, true, true] rfl rfl
                    rw [hQ9]
                    exact W.iret (v := (-1)) hx hb hr (fun t ht hW => ⟨⟨rfl, 6, by rw [ht]; exact hP9, hD9⟩, hS.F ht⟩) hS.2.2 dX11_corner_102
                · have c_9 : (kd f).toInt = 0 := zc_eq rfl rfl c_9
                  refine lv_iconst (v := 1) hx hb dX11_corner_87 rfl ?_
                  refine lv_goto (tgt := 93) hx hb dX11_corner_88 rfl ?_
                  have b9_13 : zlt (n) := show n < 2147483648 by omega
                  refine lv_icmp_ne (tgt := 103) hx hb dX11_corner_93 rfl (fun c_12 => ?_) (fun c_12 => ?_)
                  · have c_12 : ¬ ((n : Nat) : Int) = 1 := zc_ne (nI_toInt b9_13) rfl c_12
                    exfalso; omega
                  · have c_12 : ((n : Nat) : Int) = 1 := zc_eq (nI_toInt b9_13) rfl c_12
                    refine lv_aload_n hx hb dX11_corner_96 rfl (lv_at hl 0 rfl) ?_
                    refine lv_bipush (v := 6) hx hb dX11_corner_97 rfl ?_
                    obtain ⟨hPc, hDc, hFc⟩ := zo_sub (wc := [_]) hP hD hS hA [0] rfl rfl
                    refine zcall (st1 := [.int (-1)]) (va_runV (As := [.int 6]) (rest := []) ⟨hx, hb, hml, hown, hts⟩ (k_M_refuse l dC dI cI cZ cF H.size k0 a I0 J0 6 (by decide)) (csV_185 hts rfl rfl ⟨Nat.le_of_ble_eq_true rfl, Nat.le_of_ble_eq_true rfl⟩) (zPV2 (q0 := 0) (ci := 9) hPc hDc hK hXN rfl rfl) rfl rfl hl.1 rfl (lv_room (Nat.le_of_ble_eq_true rfl)) dX11_corner_99 ⟨Nat.le_of_ble_eq_true rfl, Nat.le_of_ble_eq_true rfl⟩) hS hFc hFc rfl (fun t H locs ht hB hk1 hS => ?_)
                    obtain ⟨hP1, hD1⟩ := hB
                    rw [ht] at hP1
                    obtain ⟨hP, hD⟩ := zn (W2 := [(om k0 a (upd (upd I0 14 6) 15 (I0 15)) J0), _, _, _, _]) hP hD hk1 hFc hP1 hD1 [0] [false, true, true, true, true] [false, true, true, true, true] [0] (by decide +kernel) rfl rfl rfl rfl rfl
                    clear hk1 hPc hDc hFc hP1 hD1 ht
                    obtain ⟨hP9, hD9⟩ := zu_sub (wc := [_, _, _, _, _]) hP hD [true, true, true, true, true] rfl rfl
                    rw [hQ9]
                    exact W.iret (v := (-1)) hx hb hr (fun t ht hW => ⟨⟨rfl, 6, by rw [ht]; exact hP9, hD9⟩, hS.F ht⟩) hS.2.2 dX11_corner_102
              · have c_8 : ¬ (tn f).toInt = 0 := zc_ne rfl rfl c_8
                refine lv_aload_n hx hb dX11_corner_66 rfl (lv_at hl 0 rfl) ?_
                refine lv_iconst (v := 5) hx hb dX11_corner_67 rfl ?_
                obtain ⟨hPc, hDc, hFc⟩ := zo_sub (wc := [_]) hP hD hS hA [0] rfl rfl
                refine zcall (st1 := [.int (-1)]) (va_runV (As := [.int 5]) (rest := []) ⟨hx, hb, hml, hown, hts⟩ (k_M_refuse l dC dI cI cZ cF H.size k0 a I0 J0 5 (by decide)) (csV_185 hts rfl rfl ⟨Nat.le_of_ble_eq_true rfl, Nat.le_of_ble_eq_true rfl⟩) (zPV2 (q0 := 0) (ci := 9) hPc hDc hK hXN rfl rfl) rfl rfl hl.1 rfl (lv_room (Nat.le_of_ble_eq_true rfl)) dX11_corner_68 ⟨Nat.le_of_ble_eq_true rfl, Nat.le_of_ble_eq_true rfl⟩) hS hFc hFc rfl (fun t H locs ht hB hk1 hS => ?_)
                obtain ⟨hP1, hD1⟩ := hB
                rw [ht] at hP1
                obtain ⟨hP, hD⟩ := zn (W2 := [(om k0 a (upd (upd I0 14 5) 15 (I0 15)) J0), _, _, _, _]) hP hD hk1 hFc hP1 hD1 [0] [false, true, true, true, true] [false, true, true, true, true] [0] (by decide +kernel) rfl rfl rfl rfl rfl
                clear hk1 hPc hDc hFc hP1 hD1 ht
                obtain ⟨hP9, hD9⟩ := zu_sub (wc := [_, _, _, _, _]) hP hD [true, true, true, true, true] rfl rfl
                rw [hQ9]
                exact W.iret (v := (-1)) hx hb hr (fun t ht hW => ⟨⟨rfl, 5, by rw [ht]; exact hP9, hD9⟩, hS.F ht⟩) hS.2.2 dX11_corner_71
            · have c_7 : 1000 < py.toInt := zc_nle rfl rfl c_7
              refine lv_aload_n hx hb dX11_corner_51 rfl (lv_at hl 0 rfl) ?_
              refine lv_iconst (v := 4) hx hb dX11_corner_52 rfl ?_
              obtain ⟨hPc, hDc, hFc⟩ := zo_sub (wc := [_]) hP hD hS hA [0] rfl rfl
              refine zcall (st1 := [.int (-1)]) (va_runV (As := [.int 4]) (rest := []) ⟨hx, hb, hml, hown, hts⟩ (k_M_refuse l dC dI cI cZ cF H.size k0 a I0 J0 4 (by decide)) (csV_185 hts rfl rfl ⟨Nat.le_of_ble_eq_true rfl, Nat.le_of_ble_eq_true rfl⟩) (zPV2 (q0 := 0) (ci := 9) hPc hDc hK hXN rfl rfl) rfl rfl hl.1 rfl (lv_room (Nat.le_of_ble_eq_true rfl)) dX11_corner_53 ⟨Nat.le_of_ble_eq_true rfl, Nat.le_of_ble_eq_true rfl⟩) hS hFc hFc rfl (fun t H locs ht hB hk1 hS => ?_)
              obtain ⟨hP1, hD1⟩ := hB
              rw [ht] at hP1
              obtain ⟨hP, hD⟩ := zn (W2 := [(om k0 a (upd (upd I0 14 4) 15 (I0 15)) J0), _, _, _, _]) hP hD hk1 hFc hP1 hD1 [0] [false, true, true, true, true] [false, true, true, true, true] [0] (by decide +kernel) rfl rfl rfl rfl rfl
              clear hk1 hPc hDc hFc hP1 hD1 ht
              obtain ⟨hP9, hD9⟩ := zu_sub (wc := [_, _, _, _, _]) hP hD [true, true, true, true, true] rfl rfl
              rw [hQ9]
              exact W.iret (v := (-1)) hx hb hr (fun t ht hW => ⟨⟨rfl, 4, by rw [ht]; exact hP9, hD9⟩, hS.F ht⟩) hS.2.2 dX11_corner_56
    · have c_3 : ¬ (st f).toInt = 0 := zc_ne rfl rfl c_3
      refine lv_aload_n hx hb dX11_corner_23 rfl (lv_at hl 0 rfl) ?_
      refine lv_iconst (v := 2) hx hb dX11_corner_24 rfl ?_
      obtain ⟨hPc, hDc, hFc⟩ := zo_sub (wc := [_]) hP hD hS hA [0] rfl rfl
      refine zcall (st1 := [.int (-1)]) (va_runV (As := [.int 2]) (rest := []) ⟨hx, hb, hml, hown, hts⟩ (k_M_refuse l dC dI cI cZ cF H.size k0 a I0 J0 2 (by decide)) (csV_185 hts rfl rfl ⟨Nat.le_of_ble_eq_true rfl, Nat.le_of_ble_eq_true rfl⟩) (zPV2 (q0 := 0) (ci := 9) hPc hDc hK hXN rfl rfl) rfl rfl hl.1 rfl (lv_room (Nat.le_of_ble_eq_true rfl)) dX11_corner_25 ⟨Nat.le_of_ble_eq_true rfl, Nat.le_of_ble_eq_true rfl⟩) hS hFc hFc rfl (fun t H locs ht hB hk1 hS => ?_)
      obtain ⟨hP1, hD1⟩ := hB
      rw [ht] at hP1
      obtain ⟨hP, hD⟩ := zn (W2 := [(om k0 a (upd (upd I0 14 2) 15 (I0 15)) J0), _, _, _, _]) hP hD hk1 hFc hP1 hD1 [0] [false, true, true, true, true] [false, true, true, true, true] [0] (by decide +kernel) rfl rfl rfl rfl rfl
      clear hk1 hPc hDc hFc hP1 hD1 ht
      obtain ⟨hP9, hD9⟩ := zu_sub (wc := [_, _, _, _, _]) hP hD [true, true, true, true, true] rfl rfl
      rw [hQ9]
      exact W.iret (v := (-1)) hx hb hr (fun t ht hW => ⟨⟨rfl, 2, by rw [ht]; exact hP9, hD9⟩, hS.F ht⟩) hS.2.2 dX11_corner_28
  · have c_1 : ¬ (f < ft) := zp_0 c_1
    exfalso; omega
set_option maxHeartbeats 4000000 in
set_option maxRecDepth 100000 in
theorem k_M_corner_ok (l : Launch) (dC : Nat → ClassId) (dI : Nat → Nat → Nat) (cI cZ cF : ClassId) (sz : Nat) (k0 : Nat) (a : Nat → Nat) (I0 : Nat → Int32) (J0 : Nat → Int64) (f : Nat) (n : Nat) (ft : Nat) (px : Int32) (py : Int32) (st : Nat → Int32) (tn : Nat → Int32) (mn : Nat → Int32) (kd : Nat → Int32) (cx : Nat → Int32) (cy : Nat → Int32) (hft : I0 0 = nI ft) (h200 : ft ≤ 200) (hf_t : f < ft) (hm_f : mn f = nI n) (hn_f : n ≤ 40) (hgood : (st f).toInt = 0 ∧ (0 ≤ px.toInt ∧ px.toInt ≤ 1000 ∧ 0 ≤ py.toInt ∧ py.toInt ≤ 1000) ∧ (tn f).toInt = 0 ∧ ¬ n = cpk (kd f).toInt) : zM l yX11_corner cX11_corner 4 (some .int) ({ frames := 1, cells := 0, slots := 0, locals := 21 } : Room) [.ref k0, .int (nI f), .int px, .int py] (dC, dI) (zTy cI cZ cF) [(om k0 a I0 J0), (oa (a 5) cI 201 st), (oa (a 6) cZ 201 tn), (oa (a 11) cI 201 mn), (oa (a 1) cI 201 kd), (oa (a 12) cI 8040 cx), (oa (a 13) cI 8040 cy)] sz (some (.int (nI (n + 1)))) (fun A t => zPD (dC, dI) classes A [(om k0 a (upd I0 14 0) J0), (oa (a 5) cI 201 st), (oa (a 6) cZ 201 tn), (oa (a 11) cI 201 (upd mn f (nI (n + 1)))), (oa (a 1) cI 201 kd), (oa (a 12) cI 8040 (upd cx (40 * f + n) px)), (oa (a 13) cI 8040 (upd cy (40 * f + n) py))] t.heap) 0 0 := by
  refine zIn (own := "ScaleShopModel") (loc := [(0, .ref k0), (1, .int (nI f)), (2, .int px), (3, .int py)]) rfl rfl rfl rfl (fun p e s m below meth c hx hb hr hts hown hlocks hml hnm9 A hA hS hP hD hK hXN Q9 hQ9 ls hl => ?_)
  have hcp := cpk_s (kd f).toInt
  refine lv_aload_n hx hb dX11_corner_0 rfl (lv_at hl 0 rfl) ?_
  refine lv_iload_n hx hb dX11_corner_1 rfl (lv_at hl 1 rfl) ?_
  obtain ⟨hPc, hDc, hFc, hI1⟩ := zi_sub (wc := [_]) hP hD hS hA [0] rfl rfl
  refine zcall (st1 := [.int (pI (f < ft))]) (va_runV (As := [.int (nI f)]) (rest := []) ⟨hx, hb, hml, hown, hts⟩ (k_M_isFeature_n l dC dI cI cZ cF s.heap.size k0 a I0 J0 f ft (by first | with_reducible assumption | assumption) (by first | with_reducible assumption | omega) (by first | with_reducible assumption | omega)) (csV_178 hts rfl rfl ⟨Nat.le_of_ble_eq_true rfl, Nat.le_of_ble_eq_true rfl⟩) (zPV2 (q0 := 0) (ci := 9) hPc hDc hK hXN rfl rfl) rfl rfl hl.1 rfl (lv_room (Nat.le_of_ble_eq_true rfl)) dX11_corner_2 ⟨Nat.le_of_ble_eq_true rfl, Nat.le_of_ble_eq_true rfl⟩) hS hFc hFc rfl (fun t H locs ht hB hk1 hS => ?_)
  obtain ⟨hP1, hD1⟩ := hB
  rw [ht] at hP1
  replace hP := z0 hP hD hk1 hP1 hI1
  clear hk1 hPc hDc hFc hP1 hD1 ht hI1
  refine lv_if_ne (tgt := 14) hx hb dX11_corner_5 rfl (fun c_1 => ?_) (fun c_1 => ?_)
  · have c_1 : f < ft := zp_1 c_1
    refine lv_aload_n hx hb dX11_corner_14 rfl (lv_at hl 0 rfl) ?_
    refine va_get (D := (dC, dI)) (ci := 9) (v := .ref (a 5)) (C := RX11) (T := TX11) (N := 55) hx hb hts inX11 hown hK hP 0 rfl rfl 5 (Nat.le_of_ble_eq_true rfl) (hts _ mw_1164) (fun _ h9 => h9) rfl dX11_corner_15 ?_
    refine lv_iload_n hx hb dX11_corner_18 rfl (lv_at hl 1 rfl) ?_
    have b9_2 : f < 201 := by omega
    refine z_iald hx hb hK hP 1 0 rfl rfl (e := f) rfl b9_2 (Nat.le_of_ble_eq_true rfl) dX11_corner_19 ?_
    refine lv_if_eq (tgt := 29) hx hb dX11_corner_20 rfl (fun c_3 => ?_) (fun c_3 => ?_)
    · have c_3 : (st f).toInt = 0 := zc_eq rfl rfl c_3
      refine lv_iload_n hx hb dX11_corner_29 rfl (lv_at hl 2 rfl) ?_
      refine lv_if_lt (tgt := 51) hx hb dX11_corner_30 rfl (fun c_4 => ?_) (fun c_4 => ?_)
      · have c_4 : px.toInt < 0 := zc_lt rfl rfl c_4
        exfalso; omega
      · have c_4 : 0 ≤ px.toInt := zc_nlt rfl rfl c_4
        refine lv_iload_n hx hb dX11_corner_33 rfl (lv_at hl 2 rfl) ?_
        refine lv_sipush (v := 1000) hx hb dX11_corner_34 rfl ?_
        refine lv_icmp_gt (tgt := 51) hx hb dX11_corner_37 rfl (fun c_5 => ?_) (fun c_5 => ?_)
        · have c_5 : 1000 < px.toInt := zc_lt rfl rfl c_5
          exfalso; omega
        · have c_5 : px.toInt ≤ 1000 := zc_nlt rfl rfl c_5
          refine lv_iload_n hx hb dX11_corner_40 rfl (lv_at hl 3 rfl) ?_
          refine lv_if_lt (tgt := 51) hx hb dX11_corner_41 rfl (fun c_6 => ?_) (fun c_6 => ?_)
          · have c_6 : py.toInt < 0 := zc_lt rfl rfl c_6
            exfalso; omega
          · have c_6 : 0 ≤ py.toInt := zc_nlt rfl rfl c_6
            refine lv_iload_n hx hb dX11_corner_44 rfl (lv_at hl 3 rfl) ?_
            refine lv_sipush (v := 1000) hx hb dX11_corner_45 rfl ?_
            refine lv_icmp_le (tgt := 57) hx hb dX11_corner_48 rfl (fun c_7 => ?_) (fun c_7 => ?_)
            · have c_7 : py.toInt ≤ 1000 := zc_le rfl rfl c_7
              refine lv_aload_n hx hb dX11_corner_57 rfl (lv_at hl 0 rfl) ?_
              refine va_get (D := (dC, dI)) (ci := 9) (v := .ref (a 6)) (C := RX11) (T := TX11) (N := 55) hx hb hts inX11 hown hK hP 0 rfl rfl 6 (Nat.le_of_ble_eq_true rfl) (hts _ mw_1165) (fun _ h9 => h9) rfl dX11_corner_58 ?_
              refine lv_iload_n hx hb dX11_corner_61 rfl (lv_at hl 1 rfl) ?_
              refine z_zald hx hb hK hP 2 1 rfl rfl (e := f) rfl b9_2 (Nat.le_of_ble_eq_true rfl) dX11_corner_62 ?_
              refine lv_if_eq (tgt := 72) hx hb dX11_corner_63 rfl (fun c_8 => ?_) (fun c_8 => ?_)
              · have c_8 : (tn f).toInt = 0 := zc_eq rfl rfl c_8
                refine lv_aload_n hx hb dX11_corner_72 rfl (lv_at hl 0 rfl) ?_
                refine va_get (D := (dC, dI)) (ci := 9) (v := .ref (a 11)) (C := RX11) (T := TX11) (N := 55) hx hb hts inX11 hown hK hP 0 rfl rfl 11 (Nat.le_of_ble_eq_true rfl) (hts _ mw_1170) (fun _ h9 => h9) rfl dX11_corner_73 ?_
                refine lv_iload_n hx hb dX11_corner_76 rfl (lv_at hl 1 rfl) ?_
                refine z_iald hx hb hK hP 3 0 rfl rfl (e := f) rfl b9_2 (Nat.le_of_ble_eq_true rfl) dX11_corner_77 ?_
                refine zz_i (v := nI n) (hm_f) ?_
                refine lv_aload_n hx hb dX11_corner_78 rfl (lv_at hl 0 rfl) ?_
                refine va_get (D := (dC, dI)) (ci := 9) (v := .ref (a 1)) (C := RX11) (T := TX11) (N := 55) hx hb hts inX11 hown hK hP 0 rfl rfl 1 (Nat.le_of_ble_eq_true rfl) (hts _ mw_1160) (fun _ h9 => h9) rfl dX11_corner_79 ?_
                refine lv_iload_n hx hb dX11_corner_82 rfl (lv_at hl 1 rfl) ?_
                refine z_iald hx hb hK hP 4 0 rfl rfl (e := f) rfl b9_2 (Nat.le_of_ble_eq_true rfl) dX11_corner_83 ?_
                refine lv_if_ne (tgt := 91) hx hb dX11_corner_84 rfl (fun c_9 => ?_) (fun c_9 => ?_)
                · have c_9 : ¬ (kd f).toInt = 0 := zc_ne rfl rfl c_9
                  refine lv_bipush (v := 40) hx hb dX11_corner_91 rfl ?_
                  have b9_11 : zlt (n) := show n < 2147483648 by omega
                  refine lv_icmp_ne (tgt := 103) hx hb dX11_corner_93 rfl (fun c_10 => ?_) (fun c_10 => ?_)
                  · have c_10 : ¬ ((n : Nat) : Int) = 40 := zc_ne (nI_toInt b9_11) rfl c_10
                    refine lv_aload_n hx hb dX11_corner_103 rfl (lv_at hl 0 rfl) ?_
                    refine va_get (D := (dC, dI)) (ci := 9) (v := .ref (a 12)) (C := RX11) (T := TX11) (N := 55) hx hb hts inX11 hown hK hP 0 rfl rfl 12 (Nat.le_of_ble_eq_true rfl) (hts _ mw_1171) (fun _ h9 => h9) rfl dX11_corner_104 ?_
                    refine lv_bipush (v := 40) hx hb dX11_corner_107 rfl ?_
                    refine lv_iload_n hx hb dX11_corner_109 rfl (lv_at hl 1 rfl) ?_
                    refine lv_imul hx hb dX11_corner_110 ?_
                    refine zz_i (v := nI (40 * f)) (pk_mul 40 f) ?_
                    refine lv_aload_n hx hb dX11_corner_111 rfl (lv_at hl 0 rfl) ?_
                    refine va_get (D := (dC, dI)) (ci := 9) (v := .ref (a 11)) (C := RX11) (T := TX11) (N := 55) hx hb hts inX11 hown hK hP 0 rfl rfl 11 (Nat.le_of_ble_eq_true rfl) (hts _ mw_1170) (fun _ h9 => h9) rfl dX11_corner_112 ?_
                    refine lv_iload_n hx hb dX11_corner_115 rfl (lv_at hl 1 rfl) ?_
                    refine z_iald hx hb hK hP 3 0 rfl rfl (e := f) rfl b9_2 (Nat.le_of_ble_eq_true rfl) dX11_corner_116 ?_
                    refine zz_i (v := nI n) (hm_f) ?_
                    refine lv_iadd hx hb dX11_corner_117 ?_
                    refine zz_i (v := nI (40 * f + n)) (nI_add (40 * f) n) ?_
                    refine lv_iload_n hx hb dX11_corner_118 rfl (lv_at hl 2 rfl) ?_
                    have b9_12 : 40 * f + n < 8040 := by omega
                    refine z_iast hx hb hK hP hD hS 5 0 rfl rfl (e := 40 * f + n) (x := px) rfl b9_12 (Nat.le_of_ble_eq_true rfl) dX11_corner_119 (fun H locs hP hD hS => ?_)
                    obtain ⟨hP, hD⟩ := zre (W2 := [_, _, _, _, _, (oa (a 12) cI 8040 (upd cx (40 * f + n) px)), _]) hP hD rfl
                    refine lv_aload_n hx hb dX11_corner_120 rfl (lv_at hl 0 rfl) ?_
                    refine va_get (D := (dC, dI)) (ci := 9) (v := .ref (a 13)) (C := RX11) (T := TX11) (N := 55) hx hb hts inX11 hown hK hP 0 rfl rfl 13 (Nat.le_of_ble_eq_true rfl) (hts _ mw_1172) (fun _ h9 => h9) rfl dX11_corner_121 ?_
                    refine lv_bipush (v := 40) hx hb dX11_corner_124 rfl ?_
                    refine lv_iload_n hx hb dX11_corner_126 rfl (lv_at hl 1 rfl) ?_
                    refine lv_imul hx hb dX11_corner_127 ?_
                    refine zz_i (v := nI (40 * f)) (pk_mul 40 f) ?_
                    refine lv_aload_n hx hb dX11_corner_128 rfl (lv_at hl 0 rfl) ?_
                    refine va_get (D := (dC, dI)) (ci := 9) (v := .ref (a 11)) (C := RX11) (T := TX11) (N := 55) hx hb hts inX11 hown hK hP 0 rfl rfl 11 (Nat.le_of_ble_eq_true rfl) (hts _ mw_1170) (fun _ h9 => h9) rfl dX11_corner_129 ?_
                    refine lv_iload_n hx hb dX11_corner_132 rfl (lv_at hl 1 rfl) ?_
                    refine z_iald hx hb hK hP 3 0 rfl rfl (e := f) rfl b9_2 (Nat.le_of_ble_eq_true rfl) dX11_corner_133 ?_
                    refine zz_i (v := nI n) (hm_f) ?_
                    refine lv_iadd hx hb dX11_corner_134 ?_
                    refine zz_i (v := nI (40 * f + n)) (nI_add (40 * f) n) ?_
                    refine lv_iload_n hx hb dX11_corner_135 rfl (lv_at hl 3 rfl) ?_
                    refine z_iast hx hb hK hP hD hS 6 0 rfl rfl (e := 40 * f + n) (x := py) rfl b9_12 (Nat.le_of_ble_eq_true rfl) dX11_corner_136 (fun H locs hP hD hS => ?_)
                    obtain ⟨hP, hD⟩ := zre (W2 := [_, _, _, _, _, _, (oa (a 13) cI 8040 (upd cy (40 * f + n) py))]) hP hD rfl
                    refine lv_aload_n hx hb dX11_corner_137 rfl (lv_at hl 0 rfl) ?_
                    refine va_get (D := (dC, dI)) (ci := 9) (v := .ref (a 11)) (C := RX11) (T := TX11) (N := 55) hx hb hts inX11 hown hK hP 0 rfl rfl 11 (Nat.le_of_ble_eq_true rfl) (hts _ mw_1170) (fun _ h9 => h9) rfl dX11_corner_138 ?_
                    refine lv_iload_n hx hb dX11_corner_141 rfl (lv_at hl 1 rfl) ?_
                    refine lv_dup2_11 hx hb dX11_corner_142 rfl rfl ?_
                    refine z_iald hx hb hK hP 3 0 rfl rfl (e := f) rfl b9_2 (Nat.le_of_ble_eq_true rfl) dX11_corner_143 ?_
                    refine zz_i (v := nI n) (hm_f) ?_
                    refine lv_iconst (v := 1) hx hb dX11_corner_144 rfl ?_
                    refine lv_iadd hx hb dX11_corner_145 ?_
                    refine zz_i (v := nI (n + 1)) (nI_add n 1) ?_
                    refine z_iast hx hb hK hP hD hS 3 0 rfl rfl (e := f) (x := nI (n + 1)) rfl b9_2 (Nat.le_of_ble_eq_true rfl) dX11_corner_146 (fun H locs hP hD hS => ?_)
                    obtain ⟨hP, hD⟩ := zre (W2 := [_, _, _, (oa (a 11) cI 201 (upd mn f (nI (n + 1)))), _, _, _]) hP hD rfl
                    refine lv_aload_n hx hb dX11_corner_147 rfl (lv_at hl 0 rfl) ?_
                    refine lv_iconst (v := 0) hx hb dX11_corner_148 rfl ?_
                    refine va_put (D := (dC, dI)) (ci := 9) (v := .int 0) (ty := .int) (C := RX11) (T := TX11) (N := 55) hx hb hts inX11 tyX11 tyX11_ok nmX11 hown hK hP hD hS 0 rfl rfl 14 (by decide) (hts _ mw_1173) (fun _ h9 => h9) rfl (by decide +kernel) rfl rfl (Nat.le_of_ble_eq_true rfl) dX11_corner_149 (fun H locs hP hD hS => ?_)
                    obtain ⟨hP, hD⟩ := zre (W2 := [(om k0 a (upd I0 14 0) J0), _, _, _, _, _, _]) hP hD rfl
                    refine lv_aload_n hx hb dX11_corner_152 rfl (lv_at hl 0 rfl) ?_
                    refine va_get (D := (dC, dI)) (ci := 9) (v := .ref (a 11)) (C := RX11) (T := TX11) (N := 55) hx hb hts inX11 hown hK hP 0 rfl rfl 11 (Nat.le_of_ble_eq_true rfl) (hts _ mw_1170) (fun _ h9 => h9) rfl dX11_corner_153 ?_
                    refine lv_iload_n hx hb dX11_corner_156 rfl (lv_at hl 1 rfl) ?_
                    refine z_iald hx hb hK hP 3 0 rfl rfl (e := f) rfl b9_2 (Nat.le_of_ble_eq_true rfl) dX11_corner_157 ?_
                    refine zz_i (v := nI (n + 1)) (up_at _ _ _) ?_
                    obtain ⟨hP9, hD9⟩ := zu_sub (wc := [_, _, _, _, _, _, _]) hP hD [true, true, true, true, true, true, true] rfl rfl
                    rw [hQ9]
                    exact W.iret (v := nI (n + 1)) hx hb hr (fun t ht hW => ⟨⟨rfl, by rw [ht]; exact hP9, hD9⟩, hS.F ht⟩) hS.2.2 dX11_corner_158
                  · have c_10 : ((n : Nat) : Int) = 40 := zc_eq (nI_toInt b9_11) rfl c_10
                    exfalso; omega
                · have c_9 : (kd f).toInt = 0 := zc_eq rfl rfl c_9
                  refine lv_iconst (v := 1) hx hb dX11_corner_87 rfl ?_
                  refine lv_goto (tgt := 93) hx hb dX11_corner_88 rfl ?_
                  have b9_14 : zlt (n) := show n < 2147483648 by omega
                  refine lv_icmp_ne (tgt := 103) hx hb dX11_corner_93 rfl (fun c_13 => ?_) (fun c_13 => ?_)
                  · have c_13 : ¬ ((n : Nat) : Int) = 1 := zc_ne (nI_toInt b9_14) rfl c_13
                    refine lv_aload_n hx hb dX11_corner_103 rfl (lv_at hl 0 rfl) ?_
                    refine va_get (D := (dC, dI)) (ci := 9) (v := .ref (a 12)) (C := RX11) (T := TX11) (N := 55) hx hb hts inX11 hown hK hP 0 rfl rfl 12 (Nat.le_of_ble_eq_true rfl) (hts _ mw_1171) (fun _ h9 => h9) rfl dX11_corner_104 ?_
                    refine lv_bipush (v := 40) hx hb dX11_corner_107 rfl ?_
                    refine lv_iload_n hx hb dX11_corner_109 rfl (lv_at hl 1 rfl) ?_
                    refine lv_imul hx hb dX11_corner_110 ?_
                    refine zz_i (v := nI (40 * f)) (pk_mul 40 f) ?_
                    refine lv_aload_n hx hb dX11_corner_111 rfl (lv_at hl 0 rfl) ?_
                    refine va_get (D := (dC, dI)) (ci := 9) (v := .ref (a 11)) (C := RX11) (T := TX11) (N := 55) hx hb hts inX11 hown hK hP 0 rfl rfl 11 (Nat.le_of_ble_eq_true rfl) (hts _ mw_1170) (fun _ h9 => h9) rfl dX11_corner_112 ?_
                    refine lv_iload_n hx hb dX11_corner_115 rfl (lv_at hl 1 rfl) ?_
                    refine z_iald hx hb hK hP 3 0 rfl rfl (e := f) rfl b9_2 (Nat.le_of_ble_eq_true rfl) dX11_corner_116 ?_
                    refine zz_i (v := nI n) (hm_f) ?_
                    refine lv_iadd hx hb dX11_corner_117 ?_
                    refine zz_i (v := nI (40 * f + n)) (nI_add (40 * f) n) ?_
                    refine lv_iload_n hx hb dX11_corner_118 rfl (lv_at hl 2 rfl) ?_
                    have b9_15 : 40 * f + n < 8040 := by omega
                    refine z_iast hx hb hK hP hD hS 5 0 rfl rfl (e := 40 * f + n) (x := px) rfl b9_15 (Nat.le_of_ble_eq_true rfl) dX11_corner_119 (fun H locs hP hD hS => ?_)
                    obtain ⟨hP, hD⟩ := zre (W2 := [_, _, _, _, _, (oa (a 12) cI 8040 (upd cx (40 * f + n) px)), _]) hP hD rfl
                    refine lv_aload_n hx hb dX11_corner_120 rfl (lv_at hl 0 rfl) ?_
                    refine va_get (D := (dC, dI)) (ci := 9) (v := .ref (a 13)) (C := RX11) (T := TX11) (N := 55) hx hb hts inX11 hown hK hP 0 rfl rfl 13 (Nat.le_of_ble_eq_true rfl) (hts _ mw_1172) (fun _ h9 => h9) rfl dX11_corner_121 ?_
                    refine lv_bipush (v := 40) hx hb dX11_corner_124 rfl ?_
                    refine lv_iload_n hx hb dX11_corner_126 rfl (lv_at hl 1 rfl) ?_
                    refine lv_imul hx hb dX11_corner_127 ?_
                    refine zz_i (v := nI (40 * f)) (pk_mul 40 f) ?_
                    refine lv_aload_n hx hb dX11_corner_128 rfl (lv_at hl 0 rfl) ?_
                    refine va_get (D := (dC, dI)) (ci := 9) (v := .ref (a 11)) (C := RX11) (T := TX11) (N := 55) hx hb hts inX11 hown hK hP 0 rfl rfl 11 (Nat.le_of_ble_eq_true rfl) (hts _ mw_1170) (fun _ h9 => h9) rfl dX11_corner_129 ?_
                    refine lv_iload_n hx hb dX11_corner_132 rfl (lv_at hl 1 rfl) ?_
                    refine z_iald hx hb hK hP 3 0 rfl rfl (e := f) rfl b9_2 (Nat.le_of_ble_eq_true rfl) dX11_corner_133 ?_
                    refine zz_i (v := nI n) (hm_f) ?_
                    refine lv_iadd hx hb dX11_corner_134 ?_
                    refine zz_i (v := nI (40 * f + n)) (nI_add (40 * f) n) ?_
                    refine lv_iload_n hx hb dX11_corner_135 rfl (lv_at hl 3 rfl) ?_
                    refine z_iast hx hb hK hP hD hS 6 0 rfl rfl (e := 40 * f + n) (x := py) rfl b9_15 (Nat.le_of_ble_eq_true rfl) dX11_corner_136 (fun H locs hP hD hS => ?_)
                    obtain ⟨hP, hD⟩ := zre (W2 := [_, _, _, _, _, _, (oa (a 13) cI 8040 (upd cy (40 * f + n) py))]) hP hD rfl
                    refine lv_aload_n hx hb dX11_corner_137 rfl (lv_at hl 0 rfl) ?_
                    refine va_get (D := (dC, dI)) (ci := 9) (v := .ref (a 11)) (C := RX11) (T := TX11) (N := 55) hx hb hts inX11 hown hK hP 0 rfl rfl 11 (Nat.le_of_ble_eq_true rfl) (hts _ mw_1170) (fun _ h9 => h9) rfl dX11_corner_138 ?_
                    refine lv_iload_n hx hb dX11_corner_141 rfl (lv_at hl 1 rfl) ?_
                    refine lv_dup2_11 hx hb dX11_corner_142 rfl rfl ?_
                    refine z_iald hx hb hK hP 3 0 rfl rfl (e := f) rfl b9_2 (Nat.le_of_ble_eq_true rfl) dX11_corner_143 ?_
                    refine zz_i (v := nI n) (hm_f) ?_
                    refine lv_iconst (v := 1) hx hb dX11_corner_144 rfl ?_
                    refine lv_iadd hx hb dX11_corner_145 ?_
                    refine zz_i (v := nI (n + 1)) (nI_add n 1) ?_
                    refine z_iast hx hb hK hP hD hS 3 0 rfl rfl (e := f) (x := nI (n + 1)) rfl b9_2 (Nat.le_of_ble_eq_true rfl) dX11_corner_146 (fun H locs hP hD hS => ?_)
                    obtain ⟨hP, hD⟩ := zre (W2 := [_, _, _, (oa (a 11) cI 201 (upd mn f (nI (n + 1)))), _, _, _]) hP hD rfl
                    refine lv_aload_n hx hb dX11_corner_147 rfl (lv_at hl 0 rfl) ?_
                    refine lv_iconst (v := 0) hx hb dX11_corner_148 rfl ?_
                    refine va_put (D := (dC, dI)) (ci := 9) (v := .int 0) (ty := .int) (C := RX11) (T := TX11) (N := 55) hx hb hts inX11 tyX11 tyX11_ok nmX11 hown hK hP hD hS 0 rfl rfl 14 (by decide) (hts _ mw_1173) (fun _ h9 => h9) rfl (by decide +kernel) rfl rfl (Nat.le_of_ble_eq_true rfl) dX11_corner_149 (fun H locs hP hD hS => ?_)
                    obtain ⟨hP, hD⟩ := zre (W2 := [(om k0 a (upd I0 14 0) J0), _, _, _, _, _, _]) hP hD rfl
                    refine lv_aload_n hx hb dX11_corner_152 rfl (lv_at hl 0 rfl) ?_
                    refine va_get (D := (dC, dI)) (ci := 9) (v := .ref (a 11)) (C := RX11) (T := TX11) (N := 55) hx hb hts inX11 hown hK hP 0 rfl rfl 11 (Nat.le_of_ble_eq_true rfl) (hts _ mw_1170) (fun _ h9 => h9) rfl dX11_corner_153 ?_
                    refine lv_iload_n hx hb dX11_corner_156 rfl (lv_at hl 1 rfl) ?_
                    refine z_iald hx hb hK hP 3 0 rfl rfl (e := f) rfl b9_2 (Nat.le_of_ble_eq_true rfl) dX11_corner_157 ?_
                    refine zz_i (v := nI (n + 1)) (up_at _ _ _) ?_
                    obtain ⟨hP9, hD9⟩ := zu_sub (wc := [_, _, _, _, _, _, _]) hP hD [true, true, true, true, true, true, true] rfl rfl
                    rw [hQ9]
                    exact W.iret (v := nI (n + 1)) hx hb hr (fun t ht hW => ⟨⟨rfl, by rw [ht]; exact hP9, hD9⟩, hS.F ht⟩) hS.2.2 dX11_corner_158
                  · have c_13 : ((n : Nat) : Int) = 1 := zc_eq (nI_toInt b9_14) rfl c_13
                    exfalso; omega
              · have c_8 : ¬ (tn f).toInt = 0 := zc_ne rfl rfl c_8
                exfalso; omega
            · have c_7 : 1000 < py.toInt := zc_nle rfl rfl c_7
              exfalso; omega
    · have c_3 : ¬ (st f).toInt = 0 := zc_ne rfl rfl c_3
      exfalso; omega
  · have c_1 : ¬ (f < ft) := zp_0 c_1
    exfalso; omega
set_option maxHeartbeats 4000000 in
set_option maxRecDepth 100000 in
theorem k_M_tear_r (l : Launch) (dC : Nat → ClassId) (dI : Nat → Nat → Nat) (cI cZ cF : ClassId) (sz : Nat) (k0 : Nat) (a : Nat → Nat) (I0 : Nat → Int32) (J0 : Nat → Int64) (f : Nat) (ft : Nat) (st : Nat → Int32) (tn : Nat → Int32) (hft : I0 0 = nI ft) (h200 : ft ≤ 200) (hf_t : f < ft) (hbad : ¬ (¬ (st f).toInt = 2 ∧ (tn f).toInt = 0)) : zM l yX11_tear cX11_tear 2 (some .boolean) ({ frames := 2, cells := 0, slots := 0, locals := 42 } : Room) [.ref k0, .int (nI f)] (dC, dI) (zTy cI cZ cF) [(om k0 a I0 J0), (oa (a 5) cI 201 st), (oa (a 6) cZ 201 tn)] sz (some (.int 0)) (fun A t => ∃ (z9 : Int32), zPD (dC, dI) classes A [(om k0 a (upd (upd I0 14 z9) 15 (I0 15)) J0), (oa (a 5) cI 201 st), (oa (a 6) cZ 201 tn)] t.heap) 0 0 := by
  refine zIn (own := "ScaleShopModel") (loc := [(0, .ref k0), (1, .int (nI f))]) rfl rfl rfl rfl (fun p e s m below meth c hx hb hr hts hown hlocks hml hnm9 A hA hS hP hD hK hXN Q9 hQ9 ls hl => ?_)
  refine lv_aload_n hx hb dX11_tear_0 rfl (lv_at hl 0 rfl) ?_
  refine lv_iload_n hx hb dX11_tear_1 rfl (lv_at hl 1 rfl) ?_
  obtain ⟨hPc, hDc, hFc, hI1⟩ := zi_sub (wc := [_]) hP hD hS hA [0] rfl rfl
  refine zcall (st1 := [.int (pI (f < ft))]) (va_runV (As := [.int (nI f)]) (rest := []) ⟨hx, hb, hml, hown, hts⟩ (k_M_isFeature_n l dC dI cI cZ cF s.heap.size k0 a I0 J0 f ft (by first | with_reducible assumption | assumption) (by first | with_reducible assumption | omega) (by first | with_reducible assumption | omega)) (csV_178 hts rfl rfl ⟨Nat.le_of_ble_eq_true rfl, Nat.le_of_ble_eq_true rfl⟩) (zPV2 (q0 := 0) (ci := 9) hPc hDc hK hXN rfl rfl) rfl rfl hl.1 rfl (lv_room (Nat.le_of_ble_eq_true rfl)) dX11_tear_2 ⟨Nat.le_of_ble_eq_true rfl, Nat.le_of_ble_eq_true rfl⟩) hS hFc hFc rfl (fun t H locs ht hB hk1 hS => ?_)
  obtain ⟨hP1, hD1⟩ := hB
  rw [ht] at hP1
  replace hP := z0 hP hD hk1 hP1 hI1
  clear hk1 hPc hDc hFc hP1 hD1 ht hI1
  refine lv_if_ne (tgt := 14) hx hb dX11_tear_5 rfl (fun c_1 => ?_) (fun c_1 => ?_)
  · have c_1 : f < ft := zp_1 c_1
    refine lv_aload_n hx hb dX11_tear_14 rfl (lv_at hl 0 rfl) ?_
    refine va_get (D := (dC, dI)) (ci := 9) (v := .ref (a 5)) (C := RX11) (T := TX11) (N := 55) hx hb hts inX11 hown hK hP 0 rfl rfl 5 (Nat.le_of_ble_eq_true rfl) (hts _ mw_1164) (fun _ h9 => h9) rfl dX11_tear_15 ?_
    refine lv_iload_n hx hb dX11_tear_18 rfl (lv_at hl 1 rfl) ?_
    have b9_2 : f < 201 := by omega
    refine z_iald hx hb hK hP 1 0 rfl rfl (e := f) rfl b9_2 (Nat.le_of_ble_eq_true rfl) dX11_tear_19 ?_
    refine lv_iconst (v := 2) hx hb dX11_tear_20 rfl ?_
    refine lv_icmp_ne (tgt := 30) hx hb dX11_tear_21 rfl (fun c_3 => ?_) (fun c_3 => ?_)
    · have c_3 : ¬ (st f).toInt = 2 := zc_ne rfl rfl c_3
      refine lv_aload_n hx hb dX11_tear_30 rfl (lv_at hl 0 rfl) ?_
      refine va_get (D := (dC, dI)) (ci := 9) (v := .ref (a 6)) (C := RX11) (T := TX11) (N := 55) hx hb hts inX11 hown hK hP 0 rfl rfl 6 (Nat.le_of_ble_eq_true rfl) (hts _ mw_1165) (fun _ h9 => h9) rfl dX11_tear_31 ?_
      refine lv_iload_n hx hb dX11_tear_34 rfl (lv_at hl 1 rfl) ?_
      refine z_zald hx hb hK hP 2 1 rfl rfl (e := f) rfl b9_2 (Nat.le_of_ble_eq_true rfl) dX11_tear_35 ?_
      refine lv_if_eq (tgt := 45) hx hb dX11_tear_36 rfl (fun c_4 => ?_) (fun c_4 => ?_)
      · have c_4 : (tn f).toInt = 0 := zc_eq rfl rfl c_4
        exfalso; omega
      · have c_4 : ¬ (tn f).toInt = 0 := zc_ne rfl rfl c_4
        refine lv_aload_n hx hb dX11_tear_39 rfl (lv_at hl 0 rfl) ?_
        refine lv_iconst (v := 5) hx hb dX11_tear_40 rfl ?_
        obtain ⟨hPc, hDc, hFc⟩ := zo_sub (wc := [_]) hP hD hS hA [0] rfl rfl
        refine zcall (st1 := [.int 0]) (va_runV (As := [.int 5]) (rest := []) ⟨hx, hb, hml, hown, hts⟩ (k_M_no l dC dI cI cZ cF H.size k0 a I0 J0 5 (by decide)) (csV_198 hts rfl rfl ⟨Nat.le_of_ble_eq_true rfl, Nat.le_of_ble_eq_true rfl⟩) (zPV2 (q0 := 0) (ci := 9) hPc hDc hK hXN rfl rfl) rfl rfl hl.1 rfl (lv_room (Nat.le_of_ble_eq_true rfl)) dX11_tear_41 ⟨Nat.le_of_ble_eq_true rfl, Nat.le_of_ble_eq_true rfl⟩) hS hFc hFc rfl (fun t H locs ht hB hk1 hS => ?_)
        obtain ⟨hP1, hD1⟩ := hB
        rw [ht] at hP1
        obtain ⟨hP, hD⟩ := zn (W2 := [(om k0 a (upd (upd I0 14 5) 15 (I0 15)) J0), _, _]) hP hD hk1 hFc hP1 hD1 [0] [false, true, true] [false, true, true] [0] (by decide +kernel) rfl rfl rfl rfl rfl
        clear hk1 hPc hDc hFc hP1 hD1 ht
        obtain ⟨hP9, hD9⟩ := zu_sub (wc := [_, _, _]) hP hD [true, true, true] rfl rfl
        rw [hQ9]
        exact W.zret (ty := .boolean) (v := 0) hx hb hr (rfl) (fun t ht hW => ⟨⟨rfl, 5, by rw [ht]; exact hP9, hD9⟩, hS.F ht⟩) hS.2.2 dX11_tear_44
    · have c_3 : (st f).toInt = 2 := zc_eq rfl rfl c_3
      refine lv_aload_n hx hb dX11_tear_24 rfl (lv_at hl 0 rfl) ?_
      refine lv_iconst (v := 2) hx hb dX11_tear_25 rfl ?_
      obtain ⟨hPc, hDc, hFc⟩ := zo_sub (wc := [_]) hP hD hS hA [0] rfl rfl
      refine zcall (st1 := [.int 0]) (va_runV (As := [.int 2]) (rest := []) ⟨hx, hb, hml, hown, hts⟩ (k_M_no l dC dI cI cZ cF H.size k0 a I0 J0 2 (by decide)) (csV_198 hts rfl rfl ⟨Nat.le_of_ble_eq_true rfl, Nat.le_of_ble_eq_true rfl⟩) (zPV2 (q0 := 0) (ci := 9) hPc hDc hK hXN rfl rfl) rfl rfl hl.1 rfl (lv_room (Nat.le_of_ble_eq_true rfl)) dX11_tear_26 ⟨Nat.le_of_ble_eq_true rfl, Nat.le_of_ble_eq_true rfl⟩) hS hFc hFc rfl (fun t H locs ht hB hk1 hS => ?_)
      obtain ⟨hP1, hD1⟩ := hB
      rw [ht] at hP1
      obtain ⟨hP, hD⟩ := zn (W2 := [(om k0 a (upd (upd I0 14 2) 15 (I0 15)) J0), _, _]) hP hD hk1 hFc hP1 hD1 [0] [false, true, true] [false, true, true] [0] (by decide +kernel) rfl rfl rfl rfl rfl
      clear hk1 hPc hDc hFc hP1 hD1 ht
      obtain ⟨hP9, hD9⟩ := zu_sub (wc := [_, _, _]) hP hD [true, true, true] rfl rfl
      rw [hQ9]
      exact W.zret (ty := .boolean) (v := 0) hx hb hr (rfl) (fun t ht hW => ⟨⟨rfl, 2, by rw [ht]; exact hP9, hD9⟩, hS.F ht⟩) hS.2.2 dX11_tear_29
  · have c_1 : ¬ (f < ft) := zp_0 c_1
    exfalso; omega
set_option maxHeartbeats 4000000 in
set_option maxRecDepth 100000 in
theorem k_M_tear_ok (l : Launch) (dC : Nat → ClassId) (dI : Nat → Nat → Nat) (cI cZ cF : ClassId) (sz : Nat) (k0 : Nat) (a : Nat → Nat) (I0 : Nat → Int32) (J0 : Nat → Int64) (f : Nat) (ft : Nat) (st : Nat → Int32) (tn : Nat → Int32) (mn : Nat → Int32) (sa : Nat → Int32) (hft : I0 0 = nI ft) (h200 : ft ≤ 200) (hf_t : f < ft) (hgood : ¬ (st f).toInt = 2 ∧ (tn f).toInt = 0) : zM l yX11_tear cX11_tear 2 (some .boolean) ({ frames := 1, cells := 0, slots := 0, locals := 21 } : Room) [.ref k0, .int (nI f)] (dC, dI) (zTy cI cZ cF) [(om k0 a I0 J0), (oa (a 5) cI 201 st), (oa (a 6) cZ 201 tn), (oa (a 11) cI 201 mn), (oa (a 27) cI 516 sa)] sz (some (.int 1)) (fun A t => zPD (dC, dI) classes A [(om k0 a (upd (upd (upd I0 14 0) 20 0) 21 (I0 19)) J0), (oa (a 5) cI 201 st), (oa (a 6) cZ 201 (upd tn f 1)), (oa (a 11) cI 201 (upd mn f 0)), (oa (a 27) cI 516 (upd sa 0 0))] t.heap) 0 0 := by
  refine zIn (own := "ScaleShopModel") (loc := [(0, .ref k0), (1, .int (nI f))]) rfl rfl rfl rfl (fun p e s m below meth c hx hb hr hts hown hlocks hml hnm9 A hA hS hP hD hK hXN Q9 hQ9 ls hl => ?_)
  refine lv_aload_n hx hb dX11_tear_0 rfl (lv_at hl 0 rfl) ?_
  refine lv_iload_n hx hb dX11_tear_1 rfl (lv_at hl 1 rfl) ?_
  obtain ⟨hPc, hDc, hFc, hI1⟩ := zi_sub (wc := [_]) hP hD hS hA [0] rfl rfl
  refine zcall (st1 := [.int (pI (f < ft))]) (va_runV (As := [.int (nI f)]) (rest := []) ⟨hx, hb, hml, hown, hts⟩ (k_M_isFeature_n l dC dI cI cZ cF s.heap.size k0 a I0 J0 f ft (by first | with_reducible assumption | assumption) (by first | with_reducible assumption | omega) (by first | with_reducible assumption | omega)) (csV_178 hts rfl rfl ⟨Nat.le_of_ble_eq_true rfl, Nat.le_of_ble_eq_true rfl⟩) (zPV2 (q0 := 0) (ci := 9) hPc hDc hK hXN rfl rfl) rfl rfl hl.1 rfl (lv_room (Nat.le_of_ble_eq_true rfl)) dX11_tear_2 ⟨Nat.le_of_ble_eq_true rfl, Nat.le_of_ble_eq_true rfl⟩) hS hFc hFc rfl (fun t H locs ht hB hk1 hS => ?_)
  obtain ⟨hP1, hD1⟩ := hB
  rw [ht] at hP1
  replace hP := z0 hP hD hk1 hP1 hI1
  clear hk1 hPc hDc hFc hP1 hD1 ht hI1
  refine lv_if_ne (tgt := 14) hx hb dX11_tear_5 rfl (fun c_1 => ?_) (fun c_1 => ?_)
  · have c_1 : f < ft := zp_1 c_1
    refine lv_aload_n hx hb dX11_tear_14 rfl (lv_at hl 0 rfl) ?_
    refine va_get (D := (dC, dI)) (ci := 9) (v := .ref (a 5)) (C := RX11) (T := TX11) (N := 55) hx hb hts inX11 hown hK hP 0 rfl rfl 5 (Nat.le_of_ble_eq_true rfl) (hts _ mw_1164) (fun _ h9 => h9) rfl dX11_tear_15 ?_
    refine lv_iload_n hx hb dX11_tear_18 rfl (lv_at hl 1 rfl) ?_
    have b9_2 : f < 201 := by omega
    refine z_iald hx hb hK hP 1 0 rfl rfl (e := f) rfl b9_2 (Nat.le_of_ble_eq_true rfl) dX11_tear_19 ?_
    refine lv_iconst (v := 2) hx hb dX11_tear_20 rfl ?_
    refine lv_icmp_ne (tgt := 30) hx hb dX11_tear_21 rfl (fun c_3 => ?_) (fun c_3 => ?_)
    · have c_3 : ¬ (st f).toInt = 2 := zc_ne rfl rfl c_3
      refine lv_aload_n hx hb dX11_tear_30 rfl (lv_at hl 0 rfl) ?_
      refine va_get (D := (dC, dI)) (ci := 9) (v := .ref (a 6)) (C := RX11) (T := TX11) (N := 55) hx hb hts inX11 hown hK hP 0 rfl rfl 6 (Nat.le_of_ble_eq_true rfl) (hts _ mw_1165) (fun _ h9 => h9) rfl dX11_tear_31 ?_
      refine lv_iload_n hx hb dX11_tear_34 rfl (lv_at hl 1 rfl) ?_
      refine z_zald hx hb hK hP 2 1 rfl rfl (e := f) rfl b9_2 (Nat.le_of_ble_eq_true rfl) dX11_tear_35 ?_
      refine lv_if_eq (tgt := 45) hx hb dX11_tear_36 rfl (fun c_4 => ?_) (fun c_4 => ?_)
      · have c_4 : (tn f).toInt = 0 := zc_eq rfl rfl c_4
        refine lv_aload_n hx hb dX11_tear_45 rfl (lv_at hl 0 rfl) ?_
        refine va_get (D := (dC, dI)) (ci := 9) (v := .ref (a 6)) (C := RX11) (T := TX11) (N := 55) hx hb hts inX11 hown hK hP 0 rfl rfl 6 (Nat.le_of_ble_eq_true rfl) (hts _ mw_1165) (fun _ h9 => h9) rfl dX11_tear_46 ?_
        refine lv_iload_n hx hb dX11_tear_49 rfl (lv_at hl 1 rfl) ?_
        refine lv_iconst (v := 1) hx hb dX11_tear_50 rfl ?_
        refine z_zast hx hb hK hP hD hS 2 1 rfl rfl (e := f) (x := 1) rfl b9_2 (Nat.le_of_ble_eq_true rfl) (by decide) dX11_tear_51 (fun H locs hP hD hS => ?_)
        obtain ⟨hP, hD⟩ := zre (W2 := [_, _, (oa (a 6) cZ 201 (upd tn f 1)), _, _]) hP hD rfl
        refine lv_aload_n hx hb dX11_tear_52 rfl (lv_at hl 0 rfl) ?_
        refine va_get (D := (dC, dI)) (ci := 9) (v := .ref (a 11)) (C := RX11) (T := TX11) (N := 55) hx hb hts inX11 hown hK hP 0 rfl rfl 11 (Nat.le_of_ble_eq_true rfl) (hts _ mw_1170) (fun _ h9 => h9) rfl dX11_tear_53 ?_
        refine lv_iload_n hx hb dX11_tear_56 rfl (lv_at hl 1 rfl) ?_
        refine lv_iconst (v := 0) hx hb dX11_tear_57 rfl ?_
        refine z_iast hx hb hK hP hD hS 3 0 rfl rfl (e := f) (x := 0) rfl b9_2 (Nat.le_of_ble_eq_true rfl) dX11_tear_58 (fun H locs hP hD hS => ?_)
        obtain ⟨hP, hD⟩ := zre (W2 := [_, _, _, (oa (a 11) cI 201 (upd mn f 0)), _]) hP hD rfl
        refine lv_aload_n hx hb dX11_tear_59 rfl (lv_at hl 0 rfl) ?_
        obtain ⟨hPc, hDc, hFc⟩ := zo_sub (wc := [_, _]) hP hD hS hA [0, 4] rfl rfl
        refine zcall (st1 := []) (va_runV (As := []) (rest := []) ⟨hx, hb, hml, hown, hts⟩ (k_M_settle l dC dI cI cZ cF H.size k0 a I0 J0 sa ) (csV_197 hts rfl rfl ⟨Nat.le_of_ble_eq_true rfl, Nat.le_of_ble_eq_true rfl⟩) (zPV2 (q0 := 0) (ci := 9) hPc hDc hK hXN rfl rfl) rfl rfl hl.1 rfl (lv_room (Nat.le_of_ble_eq_true rfl)) dX11_tear_60 ⟨Nat.le_of_ble_eq_true rfl, Nat.le_of_ble_eq_true rfl⟩) hS hFc hFc rfl (fun t H locs ht hB hk1 hS => ?_)
        obtain ⟨hP1, hD1⟩ := hB
        rw [ht] at hP1
        obtain ⟨hP, hD⟩ := zn (W2 := [(om k0 a (upd (upd I0 20 0) 21 (I0 19)) J0), _, _, _, (oa (a 27) cI 516 (upd sa 0 0))]) hP hD hk1 hFc hP1 hD1 [0, 4] [false, true, true, true] [false, true, true, true, false] [0, 4] (by decide +kernel) rfl rfl rfl rfl rfl
        clear hk1 hPc hDc hFc hP1 hD1 ht
        refine lv_aload_n hx hb dX11_tear_63 rfl (lv_at hl 0 rfl) ?_
        refine lv_iconst (v := 0) hx hb dX11_tear_64 rfl ?_
        refine va_put (D := (dC, dI)) (ci := 9) (v := .int 0) (ty := .int) (C := RX11) (T := TX11) (N := 55) hx hb hts inX11 tyX11 tyX11_ok nmX11 hown hK hP hD hS 0 rfl rfl 14 (by decide) (hts _ mw_1173) (fun _ h9 => h9) rfl (by decide +kernel) rfl rfl (Nat.le_of_ble_eq_true rfl) dX11_tear_65 (fun H locs hP hD hS => ?_)
        obtain ⟨hP, hD⟩ := zre (W2 := [(om k0 a (upd (upd (upd I0 14 0) 20 0) 21 (I0 19)) J0), _, _, _, _]) hP hD rfl
        refine lv_iconst (v := 1) hx hb dX11_tear_68 rfl ?_
        obtain ⟨hP9, hD9⟩ := zu_sub (wc := [_, _, _, _, _]) hP hD [true, true, true, true, true] rfl rfl
        rw [hQ9]
        exact W.zret (ty := .boolean) (v := 1) hx hb hr (rfl) (fun t ht hW => ⟨⟨rfl, by rw [ht]; exact hP9, hD9⟩, hS.F ht⟩) hS.2.2 dX11_tear_69
      · have c_4 : ¬ (tn f).toInt = 0 := zc_ne rfl rfl c_4
        exfalso; omega
    · have c_3 : (st f).toInt = 2 := zc_eq rfl rfl c_3
      exfalso; omega
  · have c_1 : ¬ (f < ft) := zp_0 c_1
    exfalso; omega
set_option maxHeartbeats 4000000 in
set_option maxRecDepth 100000 in
theorem k_M_done_r (l : Launch) (dC : Nat → ClassId) (dI : Nat → Nat → Nat) (cI cZ cF : ClassId) (sz : Nat) (k0 : Nat) (a : Nat → Nat) (I0 : Nat → Int32) (J0 : Nat → Int64) (f : Nat) (n : Nat) (ft : Nat) (st : Nat → Int32) (tn : Nat → Int32) (kd : Nat → Int32) (mn : Nat → Int32) (cx : Nat → Int32) (cy : Nat → Int32) (S0 : Nat → Int32) (hft : I0 0 = nI ft) (h200 : ft ≤ 200) (hf_t : f < ft) (hm_f : mn f = nI n) (hn_f : n ≤ 40) (hp_f : (st f).toInt = 0 → (tn f).toInt = 0 → pls n (cF40 cx f) (cF40 cy f)) (hbad : ¬ ((st f).toInt = 0 ∧ (tn f).toInt = 0 ∧ mSm (kd f).toInt n (cF40 cx f) (cF40 cy f))) : zM l yX11_done cX11_done 2 (some .boolean) ({ frames := 5, cells := 0, slots := 0, locals := 131 } : Room) [.ref k0, .int (nI f)] (dC, dI) (zTy cI cZ cF) [(om k0 a I0 J0), (oa (a 5) cI 201 st), (oa (a 6) cZ 201 tn), (oa (a 1) cI 201 kd), (oa (a 11) cI 201 mn), (oa (a 12) cI 8040 cx), (oa (a 13) cI 8040 cy), (oa (a 32) cI 8 S0)] sz (some (.int 0)) (fun A t => ∃ (z9 : Int32), ∃ (S1 : Nat → Int32), zPD (dC, dI) classes A [(om k0 a (upd (upd I0 14 z9) 15 (I0 15)) J0), (oa (a 5) cI 201 st), (oa (a 6) cZ 201 tn), (oa (a 1) cI 201 kd), (oa (a 11) cI 201 mn), (oa (a 12) cI 8040 cx), (oa (a 13) cI 8040 cy), (oa (a 32) cI 8 S1)] t.heap) 0 0 := by
  refine zIn (own := "ScaleShopModel") (loc := [(0, .ref k0), (1, .int (nI f))]) rfl rfl rfl rfl (fun p e s m below meth c hx hb hr hts hown hlocks hml hnm9 A hA hS hP hD hK hXN Q9 hQ9 ls hl => ?_)
  refine lv_aload_n hx hb dX11_done_0 rfl (lv_at hl 0 rfl) ?_
  refine lv_iload_n hx hb dX11_done_1 rfl (lv_at hl 1 rfl) ?_
  obtain ⟨hPc, hDc, hFc, hI1⟩ := zi_sub (wc := [_]) hP hD hS hA [0] rfl rfl
  refine zcall (st1 := [.int (pI (f < ft))]) (va_runV (As := [.int (nI f)]) (rest := []) ⟨hx, hb, hml, hown, hts⟩ (k_M_isFeature_n l dC dI cI cZ cF s.heap.size k0 a I0 J0 f ft (by first | with_reducible assumption | assumption) (by first | with_reducible assumption | omega) (by first | with_reducible assumption | omega)) (csV_178 hts rfl rfl ⟨Nat.le_of_ble_eq_true rfl, Nat.le_of_ble_eq_true rfl⟩) (zPV2 (q0 := 0) (ci := 9) hPc hDc hK hXN rfl rfl) rfl rfl hl.1 rfl (lv_room (Nat.le_of_ble_eq_true rfl)) dX11_done_2 ⟨Nat.le_of_ble_eq_true rfl, Nat.le_of_ble_eq_true rfl⟩) hS hFc hFc rfl (fun t H locs ht hB hk1 hS => ?_)
  obtain ⟨hP1, hD1⟩ := hB
  rw [ht] at hP1
  replace hP := z0 hP hD hk1 hP1 hI1
  clear hk1 hPc hDc hFc hP1 hD1 ht hI1
  refine lv_if_ne (tgt := 14) hx hb dX11_done_5 rfl (fun c_1 => ?_) (fun c_1 => ?_)
  · have c_1 : f < ft := zp_1 c_1
    refine lv_aload_n hx hb dX11_done_14 rfl (lv_at hl 0 rfl) ?_
    refine va_get (D := (dC, dI)) (ci := 9) (v := .ref (a 5)) (C := RX11) (T := TX11) (N := 55) hx hb hts inX11 hown hK hP 0 rfl rfl 5 (Nat.le_of_ble_eq_true rfl) (hts _ mw_1164) (fun _ h9 => h9) rfl dX11_done_15 ?_
    refine lv_iload_n hx hb dX11_done_18 rfl (lv_at hl 1 rfl) ?_
    have b9_2 : f < 201 := by omega
    refine z_iald hx hb hK hP 1 0 rfl rfl (e := f) rfl b9_2 (Nat.le_of_ble_eq_true rfl) dX11_done_19 ?_
    refine lv_if_eq (tgt := 29) hx hb dX11_done_20 rfl (fun c_3 => ?_) (fun c_3 => ?_)
    · have c_3 : (st f).toInt = 0 := zc_eq rfl rfl c_3
      refine lv_aload_n hx hb dX11_done_29 rfl (lv_at hl 0 rfl) ?_
      refine va_get (D := (dC, dI)) (ci := 9) (v := .ref (a 6)) (C := RX11) (T := TX11) (N := 55) hx hb hts inX11 hown hK hP 0 rfl rfl 6 (Nat.le_of_ble_eq_true rfl) (hts _ mw_1165) (fun _ h9 => h9) rfl dX11_done_30 ?_
      refine lv_iload_n hx hb dX11_done_33 rfl (lv_at hl 1 rfl) ?_
      refine z_zald hx hb hK hP 2 1 rfl rfl (e := f) rfl b9_2 (Nat.le_of_ble_eq_true rfl) dX11_done_34 ?_
      refine lv_if_eq (tgt := 44) hx hb dX11_done_35 rfl (fun c_4 => ?_) (fun c_4 => ?_)
      · have c_4 : (tn f).toInt = 0 := zc_eq rfl rfl c_4
        refine lv_aload_n hx hb dX11_done_44 rfl (lv_at hl 0 rfl) ?_
        refine lv_iload_n hx hb dX11_done_45 rfl (lv_at hl 1 rfl) ?_
        obtain ⟨hPc, hDc, hFc⟩ := zo_sub (wc := [_, _, _, _, _, _]) hP hD hS hA [0, 3, 4, 5, 6, 7] (by decide +kernel) rfl
        refine zcall (st1 := [.int (pI (mSm (kd f).toInt n (cF40 cx f) (cF40 cy f)))]) (va_runV (As := [.int (nI f)]) (rest := []) ⟨hx, hb, hml, hown, hts⟩ (k_M_isSimple l dC dI cI cZ cF H.size k0 a I0 J0 f n kd mn cx cy S0 (by first | with_reducible assumption | omega) (by first | with_reducible assumption | assumption) (hp_f (by first | with_reducible assumption | omega) (by first | with_reducible assumption | omega)) (by first | with_reducible assumption | omega)) (csV_187 hts rfl rfl ⟨Nat.le_of_ble_eq_true rfl, Nat.le_of_ble_eq_true rfl⟩) (zPV2 (q0 := 0) (ci := 9) hPc hDc hK hXN rfl rfl) rfl rfl hl.1 rfl (lv_room (Nat.le_of_ble_eq_true rfl)) dX11_done_46 ⟨Nat.le_of_ble_eq_true rfl, Nat.le_of_ble_eq_true rfl⟩) hS hFc hFc rfl (fun t H locs ht hB hk1 hS => ?_)
        obtain ⟨q_5, hP1, hD1⟩ := hB
        rw [ht] at hP1
        obtain ⟨hP, hD⟩ := zn (W2 := [_, _, _, _, _, _, _, (oa (a 32) cI 8 q_5)]) hP hD hk1 hFc hP1 hD1 [0, 3, 4, 5, 6, 7] [false, true, true] zl_146 [0, 3, 4, 5, 6, 7] (by decide +kernel) rfl rfl rfl rfl rfl
        clear hk1 hPc hDc hFc hP1 hD1 ht
        refine lv_if_ne (tgt := 59) hx hb dX11_done_49 rfl (fun c_6 => ?_) (fun c_6 => ?_)
        · have c_6 : mSm (kd f).toInt n (cF40 cx f) (cF40 cy f) := zp_1 c_6
          exact absurd ⟨by omega, by omega, by assumption⟩ hbad
        · have c_6 : ¬ (mSm (kd f).toInt n (cF40 cx f) (cF40 cy f)) := zp_0 c_6
          refine lv_aload_n hx hb dX11_done_52 rfl (lv_at hl 0 rfl) ?_
          refine lv_bipush (v := 6) hx hb dX11_done_53 rfl ?_
          obtain ⟨hPc, hDc, hFc⟩ := zo_sub (wc := [_]) hP hD hS hA [0] rfl rfl
          refine zcall (st1 := [.int 0]) (va_runV (As := [.int 6]) (rest := []) ⟨hx, hb, hml, hown, hts⟩ (k_M_no l dC dI cI cZ cF H.size k0 a I0 J0 6 (by decide)) (csV_198 hts rfl rfl ⟨Nat.le_of_ble_eq_true rfl, Nat.le_of_ble_eq_true rfl⟩) (zPV2 (q0 := 0) (ci := 9) hPc hDc hK hXN rfl rfl) rfl rfl hl.1 rfl (lv_room (Nat.le_of_ble_eq_true rfl)) dX11_done_55 ⟨Nat.le_of_ble_eq_true rfl, Nat.le_of_ble_eq_true rfl⟩) hS hFc hFc rfl (fun t H locs ht hB hk1 hS => ?_)
          obtain ⟨hP1, hD1⟩ := hB
          rw [ht] at hP1
          obtain ⟨hP, hD⟩ := zn (W2 := [(om k0 a (upd (upd I0 14 6) 15 (I0 15)) J0), _, _, _, _, _, _, _]) hP hD hk1 hFc hP1 hD1 [0] zl_54 zl_54 [0] (by decide +kernel) rfl rfl rfl rfl rfl
          clear hk1 hPc hDc hFc hP1 hD1 ht
          obtain ⟨hP9, hD9⟩ := zu_sub (wc := [_, _, _, _, _, _, _, _]) hP hD [true, true, true, true, true, true, true, true] rfl rfl
          rw [hQ9]
          exact W.zret (ty := .boolean) (v := 0) hx hb hr (rfl) (fun t ht hW => ⟨⟨rfl, 6, q_5, by rw [ht]; exact hP9, hD9⟩, hS.F ht⟩) hS.2.2 dX11_done_58
      · have c_4 : ¬ (tn f).toInt = 0 := zc_ne rfl rfl c_4
        refine lv_aload_n hx hb dX11_done_38 rfl (lv_at hl 0 rfl) ?_
        refine lv_iconst (v := 5) hx hb dX11_done_39 rfl ?_
        obtain ⟨hPc, hDc, hFc⟩ := zo_sub (wc := [_]) hP hD hS hA [0] rfl rfl
        refine zcall (st1 := [.int 0]) (va_runV (As := [.int 5]) (rest := []) ⟨hx, hb, hml, hown, hts⟩ (k_M_no l dC dI cI cZ cF H.size k0 a I0 J0 5 (by decide)) (csV_198 hts rfl rfl ⟨Nat.le_of_ble_eq_true rfl, Nat.le_of_ble_eq_true rfl⟩) (zPV2 (q0 := 0) (ci := 9) hPc hDc hK hXN rfl rfl) rfl rfl hl.1 rfl (lv_room (Nat.le_of_ble_eq_true rfl)) dX11_done_40 ⟨Nat.le_of_ble_eq_true rfl, Nat.le_of_ble_eq_true rfl⟩) hS hFc hFc rfl (fun t H locs ht hB hk1 hS => ?_)
        obtain ⟨hP1, hD1⟩ := hB
        rw [ht] at hP1
        obtain ⟨hP, hD⟩ := zn (W2 := [(om k0 a (upd (upd I0 14 5) 15 (I0 15)) J0), _, _, _, _, _, _, _]) hP hD hk1 hFc hP1 hD1 [0] zl_54 zl_54 [0] (by decide +kernel) rfl rfl rfl rfl rfl
        clear hk1 hPc hDc hFc hP1 hD1 ht
        obtain ⟨hP9, hD9⟩ := zu_sub (wc := [_, _, _, _, _, _, _, _]) hP hD [true, true, true, true, true, true, true, true] rfl rfl
        rw [hQ9]
        exact W.zret (ty := .boolean) (v := 0) hx hb hr (rfl) (fun t ht hW => ⟨⟨rfl, 5, S0, by rw [ht]; exact hP9, hD9⟩, hS.F ht⟩) hS.2.2 dX11_done_43
    · have c_3 : ¬ (st f).toInt = 0 := zc_ne rfl rfl c_3
      refine lv_aload_n hx hb dX11_done_23 rfl (lv_at hl 0 rfl) ?_
      refine lv_iconst (v := 2) hx hb dX11_done_24 rfl ?_
      obtain ⟨hPc, hDc, hFc⟩ := zo_sub (wc := [_]) hP hD hS hA [0] rfl rfl
      refine zcall (st1 := [.int 0]) (va_runV (As := [.int 2]) (rest := []) ⟨hx, hb, hml, hown, hts⟩ (k_M_no l dC dI cI cZ cF H.size k0 a I0 J0 2 (by decide)) (csV_198 hts rfl rfl ⟨Nat.le_of_ble_eq_true rfl, Nat.le_of_ble_eq_true rfl⟩) (zPV2 (q0 := 0) (ci := 9) hPc hDc hK hXN rfl rfl) rfl rfl hl.1 rfl (lv_room (Nat.le_of_ble_eq_true rfl)) dX11_done_25 ⟨Nat.le_of_ble_eq_true rfl, Nat.le_of_ble_eq_true rfl⟩) hS hFc hFc rfl (fun t H locs ht hB hk1 hS => ?_)
      obtain ⟨hP1, hD1⟩ := hB
      rw [ht] at hP1
      obtain ⟨hP, hD⟩ := zn (W2 := [(om k0 a (upd (upd I0 14 2) 15 (I0 15)) J0), _, _, _, _, _, _, _]) hP hD hk1 hFc hP1 hD1 [0] zl_54 zl_54 [0] (by decide +kernel) rfl rfl rfl rfl rfl
      clear hk1 hPc hDc hFc hP1 hD1 ht
      obtain ⟨hP9, hD9⟩ := zu_sub (wc := [_, _, _, _, _, _, _, _]) hP hD [true, true, true, true, true, true, true, true] rfl rfl
      rw [hQ9]
      exact W.zret (ty := .boolean) (v := 0) hx hb hr (rfl) (fun t ht hW => ⟨⟨rfl, 2, S0, by rw [ht]; exact hP9, hD9⟩, hS.F ht⟩) hS.2.2 dX11_done_28
  · have c_1 : ¬ (f < ft) := zp_0 c_1
    exfalso; omega
set_option maxHeartbeats 4000000 in
set_option maxRecDepth 100000 in
theorem k_M_done_ok (l : Launch) (dC : Nat → ClassId) (dI : Nat → Nat → Nat) (cI cZ cF : ClassId) (sz : Nat) (k0 : Nat) (a : Nat → Nat) (I0 : Nat → Int32) (J0 : Nat → Int64) (f : Nat) (n : Nat) (ft : Nat) (st : Nat → Int32) (tn : Nat → Int32) (kd : Nat → Int32) (mn : Nat → Int32) (cx : Nat → Int32) (cy : Nat → Int32) (S0 : Nat → Int32) (sa : Nat → Int32) (hft : I0 0 = nI ft) (h200 : ft ≤ 200) (hf_t : f < ft) (hm_f : mn f = nI n) (hn_f : n ≤ 40) (hp_f : (st f).toInt = 0 → (tn f).toInt = 0 → pls n (cF40 cx f) (cF40 cy f)) (hgood : (st f).toInt = 0 ∧ (tn f).toInt = 0 ∧ mSm (kd f).toInt n (cF40 cx f) (cF40 cy f)) : zM l yX11_done cX11_done 2 (some .boolean) ({ frames := 5, cells := 0, slots := 0, locals := 131 } : Room) [.ref k0, .int (nI f)] (dC, dI) (zTy cI cZ cF) [(om k0 a I0 J0), (oa (a 5) cI 201 st), (oa (a 6) cZ 201 tn), (oa (a 1) cI 201 kd), (oa (a 11) cI 201 mn), (oa (a 12) cI 8040 cx), (oa (a 13) cI 8040 cy), (oa (a 32) cI 8 S0), (oa (a 27) cI 516 sa)] sz (some (.int 1)) (fun A t => ∃ (S1 : Nat → Int32), zPD (dC, dI) classes A [(om k0 a (upd (upd (upd I0 14 0) 20 0) 21 (I0 19)) J0), (oa (a 5) cI 201 (upd st f 1)), (oa (a 6) cZ 201 tn), (oa (a 1) cI 201 kd), (oa (a 11) cI 201 mn), (oa (a 12) cI 8040 cx), (oa (a 13) cI 8040 cy), (oa (a 32) cI 8 S1), (oa (a 27) cI 516 (upd sa 0 0))] t.heap) 0 0 := by
  refine zIn (own := "ScaleShopModel") (loc := [(0, .ref k0), (1, .int (nI f))]) rfl rfl rfl rfl (fun p e s m below meth c hx hb hr hts hown hlocks hml hnm9 A hA hS hP hD hK hXN Q9 hQ9 ls hl => ?_)
  refine lv_aload_n hx hb dX11_done_0 rfl (lv_at hl 0 rfl) ?_
  refine lv_iload_n hx hb dX11_done_1 rfl (lv_at hl 1 rfl) ?_
  obtain ⟨hPc, hDc, hFc, hI1⟩ := zi_sub (wc := [_]) hP hD hS hA [0] rfl rfl
  refine zcall (st1 := [.int (pI (f < ft))]) (va_runV (As := [.int (nI f)]) (rest := []) ⟨hx, hb, hml, hown, hts⟩ (k_M_isFeature_n l dC dI cI cZ cF s.heap.size k0 a I0 J0 f ft (by first | with_reducible assumption | assumption) (by first | with_reducible assumption | omega) (by first | with_reducible assumption | omega)) (csV_178 hts rfl rfl ⟨Nat.le_of_ble_eq_true rfl, Nat.le_of_ble_eq_true rfl⟩) (zPV2 (q0 := 0) (ci := 9) hPc hDc hK hXN rfl rfl) rfl rfl hl.1 rfl (lv_room (Nat.le_of_ble_eq_true rfl)) dX11_done_2 ⟨Nat.le_of_ble_eq_true rfl, Nat.le_of_ble_eq_true rfl⟩) hS hFc hFc rfl (fun t H locs ht hB hk1 hS => ?_)
  obtain ⟨hP1, hD1⟩ := hB
  rw [ht] at hP1
  replace hP := z0 hP hD hk1 hP1 hI1
  clear hk1 hPc hDc hFc hP1 hD1 ht hI1
  refine lv_if_ne (tgt := 14) hx hb dX11_done_5 rfl (fun c_1 => ?_) (fun c_1 => ?_)
  · have c_1 : f < ft := zp_1 c_1
    refine lv_aload_n hx hb dX11_done_14 rfl (lv_at hl 0 rfl) ?_
    refine va_get (D := (dC, dI)) (ci := 9) (v := .ref (a 5)) (C := RX11) (T := TX11) (N := 55) hx hb hts inX11 hown hK hP 0 rfl rfl 5 (Nat.le_of_ble_eq_true rfl) (hts _ mw_1164) (fun _ h9 => h9) rfl dX11_done_15 ?_
    refine lv_iload_n hx hb dX11_done_18 rfl (lv_at hl 1 rfl) ?_
    have b9_2 : f < 201 := by omega
    refine z_iald hx hb hK hP 1 0 rfl rfl (e := f) rfl b9_2 (Nat.le_of_ble_eq_true rfl) dX11_done_19 ?_
    refine lv_if_eq (tgt := 29) hx hb dX11_done_20 rfl (fun c_3 => ?_) (fun c_3 => ?_)
    · have c_3 : (st f).toInt = 0 := zc_eq rfl rfl c_3
      refine lv_aload_n hx hb dX11_done_29 rfl (lv_at hl 0 rfl) ?_
      refine va_get (D := (dC, dI)) (ci := 9) (v := .ref (a 6)) (C := RX11) (T := TX11) (N := 55) hx hb hts inX11 hown hK hP 0 rfl rfl 6 (Nat.le_of_ble_eq_true rfl) (hts _ mw_1165) (fun _ h9 => h9) rfl dX11_done_30 ?_
      refine lv_iload_n hx hb dX11_done_33 rfl (lv_at hl 1 rfl) ?_
      refine z_zald hx hb hK hP 2 1 rfl rfl (e := f) rfl b9_2 (Nat.le_of_ble_eq_true rfl) dX11_done_34 ?_
      refine lv_if_eq (tgt := 44) hx hb dX11_done_35 rfl (fun c_4 => ?_) (fun c_4 => ?_)
      · have c_4 : (tn f).toInt = 0 := zc_eq rfl rfl c_4
        refine lv_aload_n hx hb dX11_done_44 rfl (lv_at hl 0 rfl) ?_
        refine lv_iload_n hx hb dX11_done_45 rfl (lv_at hl 1 rfl) ?_
        obtain ⟨hPc, hDc, hFc⟩ := zo_sub (wc := [_, _, _, _, _, _]) hP hD hS hA [0, 3, 4, 5, 6, 7] (by decide +kernel) rfl
        refine zcall (st1 := [.int (pI (mSm (kd f).toInt n (cF40 cx f) (cF40 cy f)))]) (va_runV (As := [.int (nI f)]) (rest := []) ⟨hx, hb, hml, hown, hts⟩ (k_M_isSimple l dC dI cI cZ cF H.size k0 a I0 J0 f n kd mn cx cy S0 (by first | with_reducible assumption | omega) (by first | with_reducible assumption | assumption) (hp_f (by first | with_reducible assumption | omega) (by first | with_reducible assumption | omega)) (by first | with_reducible assumption | omega)) (csV_187 hts rfl rfl ⟨Nat.le_of_ble_eq_true rfl, Nat.le_of_ble_eq_true rfl⟩) (zPV2 (q0 := 0) (ci := 9) hPc hDc hK hXN rfl rfl) rfl rfl hl.1 rfl (lv_room (Nat.le_of_ble_eq_true rfl)) dX11_done_46 ⟨Nat.le_of_ble_eq_true rfl, Nat.le_of_ble_eq_true rfl⟩) hS hFc hFc rfl (fun t H locs ht hB hk1 hS => ?_)
        obtain ⟨q_5, hP1, hD1⟩ := hB
        rw [ht] at hP1
        obtain ⟨hP, hD⟩ := zn (W2 := [_, _, _, _, _, _, _, (oa (a 32) cI 8 q_5), _]) hP hD hk1 hFc hP1 hD1 [0, 3, 4, 5, 6, 7] zl_173 zl_173 [0, 3, 4, 5, 6, 7] (by decide +kernel) rfl rfl rfl rfl rfl
        clear hk1 hPc hDc hFc hP1 hD1 ht
        refine lv_if_ne (tgt := 59) hx hb dX11_done_49 rfl (fun c_6 => ?_) (fun c_6 => ?_)
        · have c_6 : mSm (kd f).toInt n (cF40 cx f) (cF40 cy f) := zp_1 c_6
          refine lv_aload_n hx hb dX11_done_59 rfl (lv_at hl 0 rfl) ?_
          refine va_get (D := (dC, dI)) (ci := 9) (v := .ref (a 5)) (C := RX11) (T := TX11) (N := 55) hx hb hts inX11 hown hK hP 0 rfl rfl 5 (Nat.le_of_ble_eq_true rfl) (hts _ mw_1164) (fun _ h9 => h9) rfl dX11_done_60 ?_
          refine lv_iload_n hx hb dX11_done_63 rfl (lv_at hl 1 rfl) ?_
          refine lv_iconst (v := 1) hx hb dX11_done_64 rfl ?_
          refine z_iast hx hb hK hP hD hS 1 0 rfl rfl (e := f) (x := 1) rfl b9_2 (Nat.le_of_ble_eq_true rfl) dX11_done_65 (fun H locs hP hD hS => ?_)
          obtain ⟨hP, hD⟩ := zre (W2 := [_, (oa (a 5) cI 201 (upd st f 1)), _, _, _, _, _, _, _]) hP hD rfl
          refine lv_aload_n hx hb dX11_done_66 rfl (lv_at hl 0 rfl) ?_
          obtain ⟨hPc, hDc, hFc⟩ := zo_sub (wc := [_, _]) hP hD hS hA [0, 8] rfl rfl
          refine zcall (st1 := []) (va_runV (As := []) (rest := []) ⟨hx, hb, hml, hown, hts⟩ (k_M_settle l dC dI cI cZ cF H.size k0 a I0 J0 sa ) (csV_197 hts rfl rfl ⟨Nat.le_of_ble_eq_true rfl, Nat.le_of_ble_eq_true rfl⟩) (zPV2 (q0 := 0) (ci := 9) hPc hDc hK hXN rfl rfl) rfl rfl hl.1 rfl (lv_room (Nat.le_of_ble_eq_true rfl)) dX11_done_67 ⟨Nat.le_of_ble_eq_true rfl, Nat.le_of_ble_eq_true rfl⟩) hS hFc hFc rfl (fun t H locs ht hB hk1 hS => ?_)
          obtain ⟨hP1, hD1⟩ := hB
          rw [ht] at hP1
          obtain ⟨hP, hD⟩ := zn (W2 := [(om k0 a (upd (upd I0 20 0) 21 (I0 19)) J0), _, _, _, _, _, _, _, (oa (a 27) cI 516 (upd sa 0 0))]) hP hD hk1 hFc hP1 hD1 [0, 8] zl_54 zl_174 [0, 8] (by decide +kernel) rfl rfl rfl rfl rfl
          clear hk1 hPc hDc hFc hP1 hD1 ht
          refine lv_aload_n hx hb dX11_done_70 rfl (lv_at hl 0 rfl) ?_
          refine lv_iconst (v := 0) hx hb dX11_done_71 rfl ?_
          refine va_put (D := (dC, dI)) (ci := 9) (v := .int 0) (ty := .int) (C := RX11) (T := TX11) (N := 55) hx hb hts inX11 tyX11 tyX11_ok nmX11 hown hK hP hD hS 0 rfl rfl 14 (by decide) (hts _ mw_1173) (fun _ h9 => h9) rfl (by decide +kernel) rfl rfl (Nat.le_of_ble_eq_true rfl) dX11_done_72 (fun H locs hP hD hS => ?_)
          obtain ⟨hP, hD⟩ := zre (W2 := [(om k0 a (upd (upd (upd I0 14 0) 20 0) 21 (I0 19)) J0), _, _, _, _, _, _, _, _]) hP hD rfl
          refine lv_iconst (v := 1) hx hb dX11_done_75 rfl ?_
          obtain ⟨hP9, hD9⟩ := zu_sub (wc := [_, _, _, _, _, _, _, _, _]) hP hD [true, true, true, true, true, true, true, true, true] rfl rfl
          rw [hQ9]
          exact W.zret (ty := .boolean) (v := 1) hx hb hr (rfl) (fun t ht hW => ⟨⟨rfl, q_5, by rw [ht]; exact hP9, hD9⟩, hS.F ht⟩) hS.2.2 dX11_done_76
        · have c_6 : ¬ (mSm (kd f).toInt n (cF40 cx f) (cF40 cy f)) := zp_0 c_6
          exact absurd hgood.2.2 (by first | with_reducible assumption | assumption)
      · have c_4 : ¬ (tn f).toInt = 0 := zc_ne rfl rfl c_4
        exact absurd hgood.2.1 (by omega)
    · have c_3 : ¬ (st f).toInt = 0 := zc_ne rfl rfl c_3
      exact absurd hgood.1 (by omega)
  · have c_1 : ¬ (f < ft) := zp_0 c_1
    exfalso; omega
end
section
set_option maxHeartbeats 4000000 in
set_option maxRecDepth 100000 in
theorem k_M_undo_r (l : Launch) (dC : Nat → ClassId) (dI : Nat → Nat → Nat) (cI cZ cF : ClassId) (sz : Nat) (k0 : Nat) (a : Nat → Nat) (I0 : Nat → Int32) (J0 : Nat → Int64) (dn : Nat) (bs : Nat) (hdn : I0 19 = nI dn) (hbs : I0 21 = nI bs) (hbd : bs ≤ dn) (hd512 : dn ≤ 512) (heq : dn = bs) : zM l yX11_undo cX11_undo 1 (some .int) ({ frames := 1, cells := 0, slots := 0, locals := 21 } : Room) [.ref k0] (dC, dI) (zTy cI cZ cF) [(om k0 a I0 J0)] sz (some (.int (-1))) (fun A t => zPD (dC, dI) classes A [(om k0 a (upd (upd I0 14 8) 15 (I0 15)) J0)] t.heap) 0 0 := by
  refine zIn (own := "ScaleShopModel") (loc := [(0, .ref k0)]) rfl rfl rfl rfl (fun p e s m below meth c hx hb hr hts hown hlocks hml hnm9 A hA hS hP hD hK hXN Q9 hQ9 ls hl => ?_)
  refine lv_aload_n hx hb dX11_undo_0 rfl (lv_at hl 0 rfl) ?_
  refine va_get (D := (dC, dI)) (ci := 9) (v := .int (I0 19)) (C := RX11) (T := TX11) (N := 55) hx hb hts inX11 hown hK hP 0 rfl rfl 19 (Nat.le_of_ble_eq_true rfl) (hts _ mw_1178) (fun _ h9 => h9) rfl dX11_undo_1 ?_
  refine zz_i (v := nI dn) (hdn) ?_
  refine lv_aload_n hx hb dX11_undo_4 rfl (lv_at hl 0 rfl) ?_
  refine va_get (D := (dC, dI)) (ci := 9) (v := .int (I0 21)) (C := RX11) (T := TX11) (N := 55) hx hb hts inX11 hown hK hP 0 rfl rfl 21 (Nat.le_of_ble_eq_true rfl) (hts _ mw_1180) (fun _ h9 => h9) rfl dX11_undo_5 ?_
  refine zz_i (v := nI bs) (hbs) ?_
  have b9_2 : zlt (dn) := show dn < 2147483648 by omega
  have b9_3 : zlt (bs) := show bs < 2147483648 by omega
  refine lv_icmp_ne (tgt := 18) hx hb dX11_undo_8 rfl (fun c_1 => ?_) (fun c_1 => ?_)
  · have c_1 : ¬ ((dn : Nat) : Int) = ((bs : Nat) : Int) := zc_ne (nI_toInt b9_2) (nI_toInt b9_3) c_1
    exfalso; omega
  · have c_1 : ((dn : Nat) : Int) = ((bs : Nat) : Int) := zc_eq (nI_toInt b9_2) (nI_toInt b9_3) c_1
    refine lv_aload_n hx hb dX11_undo_11 rfl (lv_at hl 0 rfl) ?_
    refine lv_bipush (v := 8) hx hb dX11_undo_12 rfl ?_
    obtain ⟨hPc, hDc, hFc⟩ := zo_sub (wc := [_]) hP hD hS hA [0] rfl rfl
    refine zcall (st1 := [.int (-1)]) (va_runV (As := [.int 8]) (rest := []) ⟨hx, hb, hml, hown, hts⟩ (k_M_refuse l dC dI cI cZ cF s.heap.size k0 a I0 J0 8 (by decide)) (csV_185 hts rfl rfl ⟨Nat.le_of_ble_eq_true rfl, Nat.le_of_ble_eq_true rfl⟩) (zPV2 (q0 := 0) (ci := 9) hPc hDc hK hXN rfl rfl) rfl rfl hl.1 rfl (lv_room (Nat.le_of_ble_eq_true rfl)) dX11_undo_14 ⟨Nat.le_of_ble_eq_true rfl, Nat.le_of_ble_eq_true rfl⟩) hS hFc hFc rfl (fun t H locs ht hB hk1 hS => ?_)
    obtain ⟨hP1, hD1⟩ := hB
    rw [ht] at hP1
    obtain ⟨hP, hD⟩ := zn (W2 := [(om k0 a (upd (upd I0 14 8) 15 (I0 15)) J0)]) hP hD hk1 hFc hP1 hD1 [0] [] [false] [0] (by decide +kernel) rfl rfl rfl rfl rfl
    clear hk1 hPc hDc hFc hP1 hD1 ht
    obtain ⟨hP9, hD9⟩ := zu_sub (wc := [_]) hP hD [true] rfl rfl
    rw [hQ9]
    exact W.iret (v := (-1)) hx hb hr (fun t ht hW => ⟨⟨rfl, by rw [ht]; exact hP9, hD9⟩, hS.F ht⟩) hS.2.2 dX11_undo_17
set_option maxHeartbeats 4000000 in
set_option maxRecDepth 100000 in
theorem k_M_redo_r (l : Launch) (dC : Nat → ClassId) (dI : Nat → Nat → Nat) (cI cZ cF : ClassId) (sz : Nat) (k0 : Nat) (a : Nat → Nat) (I0 : Nat → Int32) (J0 : Nat → Int64) (rd : Nat) (hrd : I0 20 = nI rd) (hr512 : rd ≤ 512) (heq : rd = 0) : zM l yX11_redo cX11_redo 1 (some .int) ({ frames := 1, cells := 0, slots := 0, locals := 21 } : Room) [.ref k0] (dC, dI) (zTy cI cZ cF) [(om k0 a I0 J0)] sz (some (.int (-1))) (fun A t => zPD (dC, dI) classes A [(om k0 a (upd (upd I0 14 8) 15 (I0 15)) J0)] t.heap) 0 0 := by
  refine zIn (own := "ScaleShopModel") (loc := [(0, .ref k0)]) rfl rfl rfl rfl (fun p e s m below meth c hx hb hr hts hown hlocks hml hnm9 A hA hS hP hD hK hXN Q9 hQ9 ls hl => ?_)
  refine lv_aload_n hx hb dX11_redo_0 rfl (lv_at hl 0 rfl) ?_
  refine va_get (D := (dC, dI)) (ci := 9) (v := .int (I0 20)) (C := RX11) (T := TX11) (N := 55) hx hb hts inX11 hown hK hP 0 rfl rfl 20 (Nat.le_of_ble_eq_true rfl) (hts _ mw_1179) (fun _ h9 => h9) rfl dX11_redo_1 ?_
  refine zz_i (v := nI rd) (hrd) ?_
  have b9_2 : zlt (rd) := show rd < 2147483648 by omega
  refine lv_if_ne (tgt := 14) hx hb dX11_redo_4 rfl (fun c_1 => ?_) (fun c_1 => ?_)
  · have c_1 : ¬ ((rd : Nat) : Int) = 0 := zc_ne (nI_toInt b9_2) rfl c_1
    exfalso; omega
  · have c_1 : ((rd : Nat) : Int) = 0 := zc_eq (nI_toInt b9_2) rfl c_1
    refine lv_aload_n hx hb dX11_redo_7 rfl (lv_at hl 0 rfl) ?_
    refine lv_bipush (v := 8) hx hb dX11_redo_8 rfl ?_
    obtain ⟨hPc, hDc, hFc⟩ := zo_sub (wc := [_]) hP hD hS hA [0] rfl rfl
    refine zcall (st1 := [.int (-1)]) (va_runV (As := [.int 8]) (rest := []) ⟨hx, hb, hml, hown, hts⟩ (k_M_refuse l dC dI cI cZ cF s.heap.size k0 a I0 J0 8 (by decide)) (csV_185 hts rfl rfl ⟨Nat.le_of_ble_eq_true rfl, Nat.le_of_ble_eq_true rfl⟩) (zPV2 (q0 := 0) (ci := 9) hPc hDc hK hXN rfl rfl) rfl rfl hl.1 rfl (lv_room (Nat.le_of_ble_eq_true rfl)) dX11_redo_10 ⟨Nat.le_of_ble_eq_true rfl, Nat.le_of_ble_eq_true rfl⟩) hS hFc hFc rfl (fun t H locs ht hB hk1 hS => ?_)
    obtain ⟨hP1, hD1⟩ := hB
    rw [ht] at hP1
    obtain ⟨hP, hD⟩ := zn (W2 := [(om k0 a (upd (upd I0 14 8) 15 (I0 15)) J0)]) hP hD hk1 hFc hP1 hD1 [0] [] [false] [0] (by decide +kernel) rfl rfl rfl rfl rfl
    clear hk1 hPc hDc hFc hP1 hD1 ht
    obtain ⟨hP9, hD9⟩ := zu_sub (wc := [_]) hP hD [true] rfl rfl
    rw [hQ9]
    exact W.iret (v := (-1)) hx hb hr (fun t ht hW => ⟨⟨rfl, by rw [ht]; exact hP9, hD9⟩, hS.F ht⟩) hS.2.2 dX11_redo_13
set_option maxHeartbeats 4000000 in
set_option maxRecDepth 100000 in
theorem k_M_undo_ok (l : Launch) (dC : Nat → ClassId) (dI : Nat → Nat → Nat) (cI cZ cF : ClassId) (sz : Nat) (k0 : Nat) (a : Nat → Nat) (I0 : Nat → Int32) (J0 : Nat → Int64) (dn : Nat) (bs : Nat) (rd : Nat) (ft1 : Nat) (w0 : Nat) (cp : Nat) (nn : Nat → Nat) (D : Nat → Nat → Int32) (kd : Nat → Int32) (st : Nat → Int32) (gb : Nat → Int32) (it : Nat → Int32) (pa : Nat → Int32) (pb : Nat → Int32) (rk : Nat → Int32) (wd : Nat → Int32) (tw : Nat → Int32) (tn : Nat → Int32) (mn : Nat → Int32) (cx : Nat → Int32) (cy : Nat → Int32) (sa : Nat → Int32) (sh : Nat → Int32) (hdn : I0 19 = nI dn) (hbs : I0 21 = nI bs) (hbd : bs ≤ dn) (hd512 : dn ≤ 512) (hrd : I0 20 = nI rd) (hr512 : rd ≤ 512) (hlt : bs < dn) (hi5 : (dn - 1 - bs) < 516) (hsa : sa (dn - 1 - bs) = nI w0) (hft1 : sh w0 = nI ft1) (h200 : ft1 ≤ 200) (hblk : ∀ g, g < ft1 → ∀ j, j < 10 + 2 * nn g → sh (psN nn w0 g + j) = D g j) (h9 : ∀ g, g < ft1 → D g 9 = nI (nn g)) (hn40 : ∀ g, g < ft1 → nn g ≤ 40) (hfit : psN nn w0 ft1 ≤ 4096 * cp) (hcm : cp ≤ 512) : zM l yX11_undo cX11_undo 1 (some .int) ({ frames := 2, cells := 0, slots := 0, locals := 44 } : Room) [.ref k0] (dC, dI) (zTy cI cZ cF) [(om k0 a I0 J0), (oa (a 1) cI 201 kd), (oa (a 5) cI 201 st), (oa (a 7) cI 201 gb), (oa (a 10) cI 201 it), (oa (a 8) cI 201 pa), (oa (a 9) cI 201 pb), (oa (a 2) cI 201 rk), (oa (a 3) cI 201 wd), (oa (a 4) cI 201 tw), (oa (a 6) cZ 201 tn), (oa (a 11) cI 201 mn), (oa (a 12) cI 8040 cx), (oa (a 13) cI 8040 cy), (oa (a 27) cI 516 sa), (oa (a 28) cI (4096 * cp) sh)] sz (some (.int (nI (dn - 1 + 1)))) (fun A t => zPD (dC, dI) classes A [(om k0 a (upd (upd (upd (upd (upd I0 0 (nI ft1)) 14 0) 19 (nI (dn - 1))) 20 (nI (rd + 1))) 42 (nI (psN nn w0 ft1))) J0), (oa (a 1) cI 201 (rsA ft1 (fun g => D g 0) kd)), (oa (a 5) cI 201 (rsA ft1 (fun g => D g 1) st)), (oa (a 7) cI 201 (rsA ft1 (fun g => D g 2) gb)), (oa (a 10) cI 201 (rsA ft1 (fun g => D g 3) it)), (oa (a 8) cI 201 (rsA ft1 (fun g => D g 4) pa)), (oa (a 9) cI 201 (rsA ft1 (fun g => D g 5) pb)), (oa (a 2) cI 201 (rsA ft1 (fun g => D g 6) rk)), (oa (a 3) cI 201 (rsA ft1 (fun g => D g 7) wd)), (oa (a 4) cI 201 (rsA ft1 (fun g => D g 8) tw)), (oa (a 6) cZ 201 tn), (oa (a 11) cI 201 (rsM ft1 D nn tn mn)), (oa (a 12) cI 8040 (rsC ft1 0 D nn 10 cx)), (oa (a 13) cI 8040 (rsC ft1 0 D nn 11 cy)), (oa (a 27) cI 516 sa), (oa (a 28) cI (4096 * cp) sh)] t.heap) 0 0 := by
  refine zIn (own := "ScaleShopModel") (loc := [(0, .ref k0)]) rfl rfl rfl rfl (fun p e s m below meth c hx hb hr hts hown hlocks hml hnm9 A hA hS hP hD hK hXN Q9 hQ9 ls hl => ?_)
  refine lv_aload_n hx hb dX11_undo_0 rfl (lv_at hl 0 rfl) ?_
  refine va_get (D := (dC, dI)) (ci := 9) (v := .int (I0 19)) (C := RX11) (T := TX11) (N := 55) hx hb hts inX11 hown hK hP 0 rfl rfl 19 (Nat.le_of_ble_eq_true rfl) (hts _ mw_1178) (fun _ h9 => h9) rfl dX11_undo_1 ?_
  refine zz_i (v := nI dn) (hdn) ?_
  refine lv_aload_n hx hb dX11_undo_4 rfl (lv_at hl 0 rfl) ?_
  refine va_get (D := (dC, dI)) (ci := 9) (v := .int (I0 21)) (C := RX11) (T := TX11) (N := 55) hx hb hts inX11 hown hK hP 0 rfl rfl 21 (Nat.le_of_ble_eq_true rfl) (hts _ mw_1180) (fun _ h9 => h9) rfl dX11_undo_5 ?_
  refine zz_i (v := nI bs) (hbs) ?_
  have b9_2 : zlt (dn) := show dn < 2147483648 by omega
  have b9_3 : zlt (bs) := show bs < 2147483648 by omega
  refine lv_icmp_ne (tgt := 18) hx hb dX11_undo_8 rfl (fun c_1 => ?_) (fun c_1 => ?_)
  · have c_1 : ¬ ((dn : Nat) : Int) = ((bs : Nat) : Int) := zc_ne (nI_toInt b9_2) (nI_toInt b9_3) c_1
    refine lv_aload_n hx hb dX11_undo_18 rfl (lv_at hl 0 rfl) ?_
    refine lv_dup hx hb dX11_undo_19 rfl ?_
    refine va_get (D := (dC, dI)) (ci := 9) (v := .int (I0 19)) (C := RX11) (T := TX11) (N := 55) hx hb hts inX11 hown hK hP 0 rfl rfl 19 (Nat.le_of_ble_eq_true rfl) (hts _ mw_1178) (fun _ h9 => h9) rfl dX11_undo_20 ?_
    refine zz_i (v := nI dn) (hdn) ?_
    refine lv_iconst (v := 1) hx hb dX11_undo_23 rfl ?_
    refine lv_isub hx hb dX11_undo_24 ?_
    refine zz_i (v := nI (dn - 1)) (pk_sub (a := dn) (b := 1) (by omega)) ?_
    refine va_put (D := (dC, dI)) (ci := 9) (v := .int (nI (dn - 1))) (ty := .int) (C := RX11) (T := TX11) (N := 55) hx hb hts inX11 tyX11 tyX11_ok nmX11 hown hK hP hD hS 0 rfl rfl 19 (by decide) (hts _ mw_1178) (fun _ h9 => h9) rfl (by decide +kernel) rfl rfl (Nat.le_of_ble_eq_true rfl) dX11_undo_25 (fun H locs hP hD hS => ?_)
    obtain ⟨hP, hD⟩ := zre (W2 := [(om k0 a (upd I0 19 (nI (dn - 1))) J0), _, _, _, _, _, _, _, _, _, _, _, _, _, _, _]) hP hD rfl
    refine lv_aload_n hx hb dX11_undo_28 rfl (lv_at hl 0 rfl) ?_
    refine lv_dup hx hb dX11_undo_29 rfl ?_
    refine va_get (D := (dC, dI)) (ci := 9) (v := .int (I0 20)) (C := RX11) (T := TX11) (N := 55) hx hb hts inX11 hown hK hP 0 rfl rfl 20 (Nat.le_of_ble_eq_true rfl) (hts _ mw_1179) (fun _ h9 => h9) rfl dX11_undo_30 ?_
    refine zz_i (v := nI rd) (hrd) ?_
    refine lv_iconst (v := 1) hx hb dX11_undo_33 rfl ?_
    refine lv_iadd hx hb dX11_undo_34 ?_
    refine zz_i (v := nI (rd + 1)) (nI_add rd 1) ?_
    refine va_put (D := (dC, dI)) (ci := 9) (v := .int (nI (rd + 1))) (ty := .int) (C := RX11) (T := TX11) (N := 55) hx hb hts inX11 tyX11 tyX11_ok nmX11 hown hK hP hD hS 0 rfl rfl 20 (by decide) (hts _ mw_1179) (fun _ h9 => h9) rfl (by decide +kernel) rfl rfl (Nat.le_of_ble_eq_true rfl) dX11_undo_35 (fun H locs hP hD hS => ?_)
    obtain ⟨hP, hD⟩ := zre (W2 := [(om k0 a (upd (upd I0 19 (nI (dn - 1))) 20 (nI (rd + 1))) J0), _, _, _, _, _, _, _, _, _, _, _, _, _, _, _]) hP hD rfl
    refine lv_aload_n hx hb dX11_undo_38 rfl (lv_at hl 0 rfl) ?_
    refine lv_aload_n hx hb dX11_undo_39 rfl (lv_at hl 0 rfl) ?_
    refine va_get (D := (dC, dI)) (ci := 9) (v := .int (nI (dn - 1))) (C := RX11) (T := TX11) (N := 55) hx hb hts inX11 hown hK hP 0 rfl rfl 19 (Nat.le_of_ble_eq_true rfl) (hts _ mw_1178) (fun _ h9 => h9) rfl dX11_undo_40 ?_
    refine lv_aload_n hx hb dX11_undo_43 rfl (lv_at hl 0 rfl) ?_
    refine va_get (D := (dC, dI)) (ci := 9) (v := .int (I0 21)) (C := RX11) (T := TX11) (N := 55) hx hb hts inX11 hown hK hP 0 rfl rfl 21 (Nat.le_of_ble_eq_true rfl) (hts _ mw_1180) (fun _ h9 => h9) rfl dX11_undo_44 ?_
    refine zz_i (v := nI bs) (hbs) ?_
    refine lv_isub hx hb dX11_undo_47 ?_
    refine zz_i (v := nI ((dn - 1) - bs)) (pk_sub (a := dn - 1) (b := bs) (by omega)) ?_
    obtain ⟨hPc, hDc, hFc⟩ := zo_sub (wc := [_, _, _, _, _, _, _, _, _, _, _, _, _, _, _, _]) hP hD hS hA [0, 1, 2, 3, 4, 5, 6, 7, 8, 9, 10, 11, 12, 13, 14, 15] (by decide +kernel) rfl
    refine zcall (st1 := []) (va_runV (As := [.int (nI ((dn - 1) - bs))]) (rest := []) ⟨hx, hb, hml, hown, hts⟩ (k_M_restore l dC dI cI cZ cF H.size k0 a (upd (upd I0 19 (nI (dn - 1))) 20 (nI (rd + 1))) J0 ((dn - 1) - bs) ft1 w0 cp nn D kd st gb it pa pb rk wd tw tn mn cx cy sa sh (by first | with_reducible assumption | omega) (by first | with_reducible assumption | assumption) (by first | with_reducible assumption | assumption) (by first | with_reducible assumption | omega) (by first | with_reducible assumption | assumption) (by first | with_reducible assumption | assumption) (by first | with_reducible assumption | assumption) (by first | with_reducible assumption | assumption) (by first | with_reducible assumption | omega)) (csV_199 hts rfl rfl ⟨Nat.le_of_ble_eq_true rfl, Nat.le_of_ble_eq_true rfl⟩) (zPV2 (q0 := 0) (ci := 9) hPc hDc hK hXN rfl rfl) rfl rfl hl.1 rfl (lv_room (Nat.le_of_ble_eq_true rfl)) dX11_undo_48 ⟨Nat.le_of_ble_eq_true rfl, Nat.le_of_ble_eq_true rfl⟩) hS hFc hFc rfl (fun t H locs ht hB hk1 hS => ?_)
    obtain ⟨hP1, hD1⟩ := hB
    rw [ht] at hP1
    obtain ⟨hP, hD⟩ := zn (W2 := [(om k0 a (upd (upd (upd (upd I0 0 (nI ft1)) 19 (nI (dn - 1))) 20 (nI (rd + 1))) 42 (nI (psN nn w0 ft1))) J0), (oa (a 1) cI 201 (rsA ft1 (fun g => D g 0) kd)), (oa (a 5) cI 201 (rsA ft1 (fun g => D g 1) st)), (oa (a 7) cI 201 (rsA ft1 (fun g => D g 2) gb)), (oa (a 10) cI 201 (rsA ft1 (fun g => D g 3) it)), (oa (a 8) cI 201 (rsA ft1 (fun g => D g 4) pa)), (oa (a 9) cI 201 (rsA ft1 (fun g => D g 5) pb)), (oa (a 2) cI 201 (rsA ft1 (fun g => D g 6) rk)), (oa (a 3) cI 201 (rsA ft1 (fun g => D g 7) wd)), (oa (a 4) cI 201 (rsA ft1 (fun g => D g 8) tw)), _, (oa (a 11) cI 201 (rsM ft1 D nn tn mn)), (oa (a 12) cI 8040 (rsC ft1 0 D nn 10 cx)), (oa (a 13) cI 8040 (rsC ft1 0 D nn 11 cy)), _, _]) hP hD hk1 hFc hP1 hD1 zl_80 [] zl_79 zl_80 (by decide +kernel) rfl rfl rfl rfl rfl
    clear hk1 hPc hDc hFc hP1 hD1 ht
    refine lv_aload_n hx hb dX11_undo_51 rfl (lv_at hl 0 rfl) ?_
    refine lv_iconst (v := 0) hx hb dX11_undo_52 rfl ?_
    refine va_put (D := (dC, dI)) (ci := 9) (v := .int 0) (ty := .int) (C := RX11) (T := TX11) (N := 55) hx hb hts inX11 tyX11 tyX11_ok nmX11 hown hK hP hD hS 0 rfl rfl 14 (by decide) (hts _ mw_1173) (fun _ h9 => h9) rfl (by decide +kernel) rfl rfl (Nat.le_of_ble_eq_true rfl) dX11_undo_53 (fun H locs hP hD hS => ?_)
    obtain ⟨hP, hD⟩ := zre (W2 := [(om k0 a (upd (upd (upd (upd (upd I0 0 (nI ft1)) 14 0) 19 (nI (dn - 1))) 20 (nI (rd + 1))) 42 (nI (psN nn w0 ft1))) J0), _, _, _, _, _, _, _, _, _, _, _, _, _, _, _]) hP hD rfl
    refine lv_aload_n hx hb dX11_undo_56 rfl (lv_at hl 0 rfl) ?_
    refine va_get (D := (dC, dI)) (ci := 9) (v := .int (nI (dn - 1))) (C := RX11) (T := TX11) (N := 55) hx hb hts inX11 hown hK hP 0 rfl rfl 19 (Nat.le_of_ble_eq_true rfl) (hts _ mw_1178) (fun _ h9 => h9) rfl dX11_undo_57 ?_
    refine lv_iconst (v := 1) hx hb dX11_undo_60 rfl ?_
    refine lv_iadd hx hb dX11_undo_61 ?_
    refine zz_i (v := nI ((dn - 1) + 1)) (nI_add (dn - 1) 1) ?_
    obtain ⟨hP9, hD9⟩ := zu_sub (wc := [_, _, _, _, _, _, _, _, _, _, _, _, _, _, _, _]) hP hD [true, true, true, true, true, true, true, true, true, true, true, true, true, true, true, true] rfl rfl
    rw [hQ9]
    exact W.iret (v := nI ((dn - 1) + 1)) hx hb hr (fun t ht hW => ⟨⟨rfl, by rw [ht]; exact hP9, hD9⟩, hS.F ht⟩) hS.2.2 dX11_undo_62
  · have c_1 : ((dn : Nat) : Int) = ((bs : Nat) : Int) := zc_eq (nI_toInt b9_2) (nI_toInt b9_3) c_1
    exfalso; omega
set_option maxHeartbeats 4000000 in
set_option maxRecDepth 100000 in
theorem k_M_redo_ok (l : Launch) (dC : Nat → ClassId) (dI : Nat → Nat → Nat) (cI cZ cF : ClassId) (sz : Nat) (k0 : Nat) (a : Nat → Nat) (I0 : Nat → Int32) (J0 : Nat → Int64) (dn : Nat) (bs : Nat) (rd : Nat) (ft1 : Nat) (w0 : Nat) (cp : Nat) (nn : Nat → Nat) (D : Nat → Nat → Int32) (kd : Nat → Int32) (st : Nat → Int32) (gb : Nat → Int32) (it : Nat → Int32) (pa : Nat → Int32) (pb : Nat → Int32) (rk : Nat → Int32) (wd : Nat → Int32) (tw : Nat → Int32) (tn : Nat → Int32) (mn : Nat → Int32) (cx : Nat → Int32) (cy : Nat → Int32) (sa : Nat → Int32) (sh : Nat → Int32) (hdn : I0 19 = nI dn) (hbs : I0 21 = nI bs) (hbd : bs ≤ dn) (hd512 : dn ≤ 512) (hrd : I0 20 = nI rd) (hr512 : rd ≤ 512) (hlt : 0 < rd) (hi5 : (dn + 1 - bs) < 516) (hsa : sa (dn + 1 - bs) = nI w0) (hft1 : sh w0 = nI ft1) (h200 : ft1 ≤ 200) (hblk : ∀ g, g < ft1 → ∀ j, j < 10 + 2 * nn g → sh (psN nn w0 g + j) = D g j) (h9 : ∀ g, g < ft1 → D g 9 = nI (nn g)) (hn40 : ∀ g, g < ft1 → nn g ≤ 40) (hfit : psN nn w0 ft1 ≤ 4096 * cp) (hcm : cp ≤ 512) : zM l yX11_redo cX11_redo 1 (some .int) ({ frames := 2, cells := 0, slots := 0, locals := 44 } : Room) [.ref k0] (dC, dI) (zTy cI cZ cF) [(om k0 a I0 J0), (oa (a 1) cI 201 kd), (oa (a 5) cI 201 st), (oa (a 7) cI 201 gb), (oa (a 10) cI 201 it), (oa (a 8) cI 201 pa), (oa (a 9) cI 201 pb), (oa (a 2) cI 201 rk), (oa (a 3) cI 201 wd), (oa (a 4) cI 201 tw), (oa (a 6) cZ 201 tn), (oa (a 11) cI 201 mn), (oa (a 12) cI 8040 cx), (oa (a 13) cI 8040 cy), (oa (a 27) cI 516 sa), (oa (a 28) cI (4096 * cp) sh)] sz (some (.int (nI (dn + 1)))) (fun A t => zPD (dC, dI) classes A [(om k0 a (upd (upd (upd (upd (upd I0 0 (nI ft1)) 14 0) 19 (nI (dn + 1))) 20 (nI (rd - 1))) 42 (nI (psN nn w0 ft1))) J0), (oa (a 1) cI 201 (rsA ft1 (fun g => D g 0) kd)), (oa (a 5) cI 201 (rsA ft1 (fun g => D g 1) st)), (oa (a 7) cI 201 (rsA ft1 (fun g => D g 2) gb)), (oa (a 10) cI 201 (rsA ft1 (fun g => D g 3) it)), (oa (a 8) cI 201 (rsA ft1 (fun g => D g 4) pa)), (oa (a 9) cI 201 (rsA ft1 (fun g => D g 5) pb)), (oa (a 2) cI 201 (rsA ft1 (fun g => D g 6) rk)), (oa (a 3) cI 201 (rsA ft1 (fun g => D g 7) wd)), (oa (a 4) cI 201 (rsA ft1 (fun g => D g 8) tw)), (oa (a 6) cZ 201 tn), (oa (a 11) cI 201 (rsM ft1 D nn tn mn)), (oa (a 12) cI 8040 (rsC ft1 0 D nn 10 cx)), (oa (a 13) cI 8040 (rsC ft1 0 D nn 11 cy)), (oa (a 27) cI 516 sa), (oa (a 28) cI (4096 * cp) sh)] t.heap) 0 0 := by
  refine zIn (own := "ScaleShopModel") (loc := [(0, .ref k0)]) rfl rfl rfl rfl (fun p e s m below meth c hx hb hr hts hown hlocks hml hnm9 A hA hS hP hD hK hXN Q9 hQ9 ls hl => ?_)
  refine lv_aload_n hx hb dX11_redo_0 rfl (lv_at hl 0 rfl) ?_
  refine va_get (D := (dC, dI)) (ci := 9) (v := .int (I0 20)) (C := RX11) (T := TX11) (N := 55) hx hb hts inX11 hown hK hP 0 rfl rfl 20 (Nat.le_of_ble_eq_true rfl) (hts _ mw_1179) (fun _ h9 => h9) rfl dX11_redo_1 ?_
  refine zz_i (v := nI rd) (hrd) ?_
  have b9_2 : zlt (rd) := show rd < 2147483648 by omega
  refine lv_if_ne (tgt := 14) hx hb dX11_redo_4 rfl (fun c_1 => ?_) (fun c_1 => ?_)
  · have c_1 : ¬ ((rd : Nat) : Int) = 0 := zc_ne (nI_toInt b9_2) rfl c_1
    refine lv_aload_n hx hb dX11_redo_14 rfl (lv_at hl 0 rfl) ?_
    refine lv_dup hx hb dX11_redo_15 rfl ?_
    refine va_get (D := (dC, dI)) (ci := 9) (v := .int (I0 19)) (C := RX11) (T := TX11) (N := 55) hx hb hts inX11 hown hK hP 0 rfl rfl 19 (Nat.le_of_ble_eq_true rfl) (hts _ mw_1178) (fun _ h9 => h9) rfl dX11_redo_16 ?_
    refine zz_i (v := nI dn) (hdn) ?_
    refine lv_iconst (v := 1) hx hb dX11_redo_19 rfl ?_
    refine lv_iadd hx hb dX11_redo_20 ?_
    refine zz_i (v := nI (dn + 1)) (nI_add dn 1) ?_
    refine va_put (D := (dC, dI)) (ci := 9) (v := .int (nI (dn + 1))) (ty := .int) (C := RX11) (T := TX11) (N := 55) hx hb hts inX11 tyX11 tyX11_ok nmX11 hown hK hP hD hS 0 rfl rfl 19 (by decide) (hts _ mw_1178) (fun _ h9 => h9) rfl (by decide +kernel) rfl rfl (Nat.le_of_ble_eq_true rfl) dX11_redo_21 (fun H locs hP hD hS => ?_)
    obtain ⟨hP, hD⟩ := zre (W2 := [(om k0 a (upd I0 19 (nI (dn + 1))) J0), _, _, _, _, _, _, _, _, _, _, _, _, _, _, _]) hP hD rfl
    refine lv_aload_n hx hb dX11_redo_24 rfl (lv_at hl 0 rfl) ?_
    refine lv_dup hx hb dX11_redo_25 rfl ?_
    refine va_get (D := (dC, dI)) (ci := 9) (v := .int (I0 20)) (C := RX11) (T := TX11) (N := 55) hx hb hts inX11 hown hK hP 0 rfl rfl 20 (Nat.le_of_ble_eq_true rfl) (hts _ mw_1179) (fun _ h9 => h9) rfl dX11_redo_26 ?_
    refine zz_i (v := nI rd) (hrd) ?_
    refine lv_iconst (v := 1) hx hb dX11_redo_29 rfl ?_
    refine lv_isub hx hb dX11_redo_30 ?_
    refine zz_i (v := nI (rd - 1)) (pk_sub (a := rd) (b := 1) (by omega)) ?_
    refine va_put (D := (dC, dI)) (ci := 9) (v := .int (nI (rd - 1))) (ty := .int) (C := RX11) (T := TX11) (N := 55) hx hb hts inX11 tyX11 tyX11_ok nmX11 hown hK hP hD hS 0 rfl rfl 20 (by decide) (hts _ mw_1179) (fun _ h9 => h9) rfl (by decide +kernel) rfl rfl (Nat.le_of_ble_eq_true rfl) dX11_redo_31 (fun H locs hP hD hS => ?_)
    obtain ⟨hP, hD⟩ := zre (W2 := [(om k0 a (upd (upd I0 19 (nI (dn + 1))) 20 (nI (rd - 1))) J0), _, _, _, _, _, _, _, _, _, _, _, _, _, _, _]) hP hD rfl
    refine lv_aload_n hx hb dX11_redo_34 rfl (lv_at hl 0 rfl) ?_
    refine lv_aload_n hx hb dX11_redo_35 rfl (lv_at hl 0 rfl) ?_
    refine va_get (D := (dC, dI)) (ci := 9) (v := .int (nI (dn + 1))) (C := RX11) (T := TX11) (N := 55) hx hb hts inX11 hown hK hP 0 rfl rfl 19 (Nat.le_of_ble_eq_true rfl) (hts _ mw_1178) (fun _ h9 => h9) rfl dX11_redo_36 ?_
    refine lv_aload_n hx hb dX11_redo_39 rfl (lv_at hl 0 rfl) ?_
    refine va_get (D := (dC, dI)) (ci := 9) (v := .int (I0 21)) (C := RX11) (T := TX11) (N := 55) hx hb hts inX11 hown hK hP 0 rfl rfl 21 (Nat.le_of_ble_eq_true rfl) (hts _ mw_1180) (fun _ h9 => h9) rfl dX11_redo_40 ?_
    refine zz_i (v := nI bs) (hbs) ?_
    refine lv_isub hx hb dX11_redo_43 ?_
    refine zz_i (v := nI ((dn + 1) - bs)) (pk_sub (a := dn + 1) (b := bs) (by omega)) ?_
    obtain ⟨hPc, hDc, hFc⟩ := zo_sub (wc := [_, _, _, _, _, _, _, _, _, _, _, _, _, _, _, _]) hP hD hS hA [0, 1, 2, 3, 4, 5, 6, 7, 8, 9, 10, 11, 12, 13, 14, 15] (by decide +kernel) rfl
    refine zcall (st1 := []) (va_runV (As := [.int (nI ((dn + 1) - bs))]) (rest := []) ⟨hx, hb, hml, hown, hts⟩ (k_M_restore l dC dI cI cZ cF H.size k0 a (upd (upd I0 19 (nI (dn + 1))) 20 (nI (rd - 1))) J0 ((dn + 1) - bs) ft1 w0 cp nn D kd st gb it pa pb rk wd tw tn mn cx cy sa sh (by first | with_reducible assumption | omega) (by first | with_reducible assumption | assumption) (by first | with_reducible assumption | assumption) (by first | with_reducible assumption | omega) (by first | with_reducible assumption | assumption) (by first | with_reducible assumption | assumption) (by first | with_reducible assumption | assumption) (by first | with_reducible assumption | assumption) (by first | with_reducible assumption | omega)) (csV_199 hts rfl rfl ⟨Nat.le_of_ble_eq_true rfl, Nat.le_of_ble_eq_true rfl⟩) (zPV2 (q0 := 0) (ci := 9) hPc hDc hK hXN rfl rfl) rfl rfl hl.1 rfl (lv_room (Nat.le_of_ble_eq_true rfl)) dX11_redo_44 ⟨Nat.le_of_ble_eq_true rfl, Nat.le_of_ble_eq_true rfl⟩) hS hFc hFc rfl (fun t H locs ht hB hk1 hS => ?_)
    obtain ⟨hP1, hD1⟩ := hB
    rw [ht] at hP1
    obtain ⟨hP, hD⟩ := zn (W2 := [(om k0 a (upd (upd (upd (upd I0 0 (nI ft1)) 19 (nI (dn + 1))) 20 (nI (rd - 1))) 42 (nI (psN nn w0 ft1))) J0), (oa (a 1) cI 201 (rsA ft1 (fun g => D g 0) kd)), (oa (a 5) cI 201 (rsA ft1 (fun g => D g 1) st)), (oa (a 7) cI 201 (rsA ft1 (fun g => D g 2) gb)), (oa (a 10) cI 201 (rsA ft1 (fun g => D g 3) it)), (oa (a 8) cI 201 (rsA ft1 (fun g => D g 4) pa)), (oa (a 9) cI 201 (rsA ft1 (fun g => D g 5) pb)), (oa (a 2) cI 201 (rsA ft1 (fun g => D g 6) rk)), (oa (a 3) cI 201 (rsA ft1 (fun g => D g 7) wd)), (oa (a 4) cI 201 (rsA ft1 (fun g => D g 8) tw)), _, (oa (a 11) cI 201 (rsM ft1 D nn tn mn)), (oa (a 12) cI 8040 (rsC ft1 0 D nn 10 cx)), (oa (a 13) cI 8040 (rsC ft1 0 D nn 11 cy)), _, _]) hP hD hk1 hFc hP1 hD1 zl_80 [] zl_79 zl_80 (by decide +kernel) rfl rfl rfl rfl rfl
    clear hk1 hPc hDc hFc hP1 hD1 ht
    refine lv_aload_n hx hb dX11_redo_47 rfl (lv_at hl 0 rfl) ?_
    refine lv_iconst (v := 0) hx hb dX11_redo_48 rfl ?_
    refine va_put (D := (dC, dI)) (ci := 9) (v := .int 0) (ty := .int) (C := RX11) (T := TX11) (N := 55) hx hb hts inX11 tyX11 tyX11_ok nmX11 hown hK hP hD hS 0 rfl rfl 14 (by decide) (hts _ mw_1173) (fun _ h9 => h9) rfl (by decide +kernel) rfl rfl (Nat.le_of_ble_eq_true rfl) dX11_redo_49 (fun H locs hP hD hS => ?_)
    obtain ⟨hP, hD⟩ := zre (W2 := [(om k0 a (upd (upd (upd (upd (upd I0 0 (nI ft1)) 14 0) 19 (nI (dn + 1))) 20 (nI (rd - 1))) 42 (nI (psN nn w0 ft1))) J0), _, _, _, _, _, _, _, _, _, _, _, _, _, _, _]) hP hD rfl
    refine lv_aload_n hx hb dX11_redo_52 rfl (lv_at hl 0 rfl) ?_
    refine va_get (D := (dC, dI)) (ci := 9) (v := .int (nI (dn + 1))) (C := RX11) (T := TX11) (N := 55) hx hb hts inX11 hown hK hP 0 rfl rfl 19 (Nat.le_of_ble_eq_true rfl) (hts _ mw_1178) (fun _ h9 => h9) rfl dX11_redo_53 ?_
    obtain ⟨hP9, hD9⟩ := zu_sub (wc := [_, _, _, _, _, _, _, _, _, _, _, _, _, _, _, _]) hP hD [true, true, true, true, true, true, true, true, true, true, true, true, true, true, true, true] rfl rfl
    rw [hQ9]
    exact W.iret (v := nI (dn + 1)) hx hb hr (fun t ht hW => ⟨⟨rfl, by rw [ht]; exact hP9, hD9⟩, hS.F ht⟩) hS.2.2 dX11_redo_56
  · have c_1 : ((rd : Nat) : Int) = 0 := zc_eq (nI_toInt b9_2) rfl c_1
    exfalso; omega
set_option maxHeartbeats 4000000 in
set_option maxRecDepth 100000 in
theorem k_M_layBox (l : Launch) (dC : Nat → ClassId) (dI : Nat → Nat → Nat) (cI cZ cF : ClassId) (sz : Nat) (k0 : Nat) (a : Nat → Nat) (I0 : Nat → Int32) (J0 : Nat → Int64) (f : Nat) (kd : Nat → Int32) (mn : Nat → Int32) (cx : Nat → Int32) (cy : Nat → Int32) (hf_f : f ≤ 200) : zM l yX11_layBox cX11_layBox 3 none ({ frames := 0, cells := 0, slots := 0, locals := 0 } : Room) [.ref k0, .int (nI f)] (dC, dI) (zTy cI cZ cF) [(om k0 a I0 J0), (oa (a 1) cI 201 kd), (oa (a 11) cI 201 mn), (oa (a 12) cI 8040 cx), (oa (a 13) cI 8040 cy)] sz none (fun A t => zPD (dC, dI) classes A [(om k0 a I0 J0), (oa (a 1) cI 201 (upd kd f 6)), (oa (a 11) cI 201 (upd mn f 4)), (oa (a 12) cI 8040 (bxX f (I0 44) (I0 46) 4 cx)), (oa (a 13) cI 8040 (bxY f (I0 45) (I0 47) 4 cy))] t.heap) 0 0 := by
  refine zIn (own := "ScaleShopModel") (loc := [(0, .ref k0), (1, .int (nI f))]) rfl rfl rfl rfl (fun p e s m below meth c hx hb hr hts hown hlocks hml hnm9 A hA hS hP hD hK hXN Q9 hQ9 ls hl => ?_)
  refine lv_aload_n hx hb dX11_layBox_0 rfl (lv_at hl 0 rfl) ?_
  refine va_get (D := (dC, dI)) (ci := 9) (v := .ref (a 11)) (C := RX11) (T := TX11) (N := 55) hx hb hts inX11 hown hK hP 0 rfl rfl 11 (Nat.le_of_ble_eq_true rfl) (hts _ mw_1170) (fun _ h9 => h9) rfl dX11_layBox_1 ?_
  refine lv_iload_n hx hb dX11_layBox_4 rfl (lv_at hl 1 rfl) ?_
  refine lv_iconst (v := 4) hx hb dX11_layBox_5 rfl ?_
  have b9_1 : f < 201 := by omega
  refine z_iast hx hb hK hP hD hS 2 0 rfl rfl (e := f) (x := 4) rfl b9_1 (Nat.le_of_ble_eq_true rfl) dX11_layBox_6 (fun H locs hP hD hS => ?_)
  obtain ⟨hP, hD⟩ := zre (W2 := [_, _, (oa (a 11) cI 201 (upd mn f 4)), _, _]) hP hD rfl
  refine lv_iconst (v := 0) hx hb dX11_layBox_7 rfl ?_
  refine lv_istore_n (lv' := [(2, .int 0), (0, .ref k0), (1, .int (nI f))]) hx hb dX11_layBox_8 rfl hl (Nat.le_of_ble_eq_true rfl) rfl (fun ls hl => ?_)
  have hl_9 : ∀ (n9 : Nat) (k : Nat) (cx1 : Nat → Int32) (cy1 : Nat → Int32) (H : Heap) (locs : List Loc) (ls : Array Slot), 4 - k < n9 → (k ≤ 4) → (cx1 = bxX f (I0 44) (I0 46) k cx) → (cy1 = bxY f (I0 45) (I0 47) k cy) → va_P (dC, dI) classes [(om k0 a I0 J0), (oa (a 1) cI 201 kd), (oa (a 11) cI 201 (upd mn f 4)), (oa (a 12) cI 8040 cx1), (oa (a 13) cI 8040 cy1)] H → va_D A [(om k0 a I0 J0), (oa (a 1) cI 201 kd), (oa (a 11) cI 201 (upd mn f 4)), (oa (a 12) cI 8040 cx1), (oa (a 13) cI 8040 cy1)] → va_S A s.heap H locs → lv_has ls 3 [(2, .int (nI k)), (0, .ref k0), (1, .int (nI f))] → W p l e ({ frames := 0, cells := 0, slots := 0, locals := 0 } : Room) s m ([.ref k0, .int (nI f)] : List Value).toArray below meth c H locs 0 0 Q9 (F0 m 9 ls []) := by
    intro n9
    induction n9 with
    | zero => intro k cx1 cy1 H locs ls hm; exact absurd hm (Nat.not_lt_zero _)
    | succ n9 ih_9 =>
      intro k cx1 cy1 H locs ls hm hk hcx hcy hP hD hS hl
      refine lv_iload_n hx hb dX11_layBox_9 rfl (lv_at hl 0 rfl) ?_
      refine lv_iconst (v := 4) hx hb dX11_layBox_10 rfl ?_
      have b9_3 : zlt (k) := show k < 2147483648 by omega
      refine lv_icmp_ge (tgt := 79) hx hb dX11_layBox_11 rfl (fun c_2 => ?_) (fun c_2 => ?_)
      · have c_2 : 4 ≤ ((k : Nat) : Int) := zc_le rfl (nI_toInt b9_3) c_2
        refine lv_aload_n hx hb dX11_layBox_79 rfl (lv_at hl 1 rfl) ?_
        refine va_get (D := (dC, dI)) (ci := 9) (v := .ref (a 1)) (C := RX11) (T := TX11) (N := 55) hx hb hts inX11 hown hK hP 0 rfl rfl 1 (Nat.le_of_ble_eq_true rfl) (hts _ mw_1160) (fun _ h9 => h9) rfl dX11_layBox_80 ?_
        refine lv_iload_n hx hb dX11_layBox_83 rfl (lv_at hl 2 rfl) ?_
        refine lv_bipush (v := 6) hx hb dX11_layBox_84 rfl ?_
        refine z_iast hx hb hK hP hD hS 1 0 rfl rfl (e := f) (x := 6) rfl b9_1 (Nat.le_of_ble_eq_true rfl) dX11_layBox_86 (fun H locs hP hD hS => ?_)
        obtain ⟨hP, hD⟩ := zre (W2 := [_, (oa (a 1) cI 201 (upd kd f 6)), _, _, _]) hP hD rfl
        have hk4 : k = 4 := (by omega)
        subst hk4
        obtain ⟨hP9, hD9⟩ := zu_sub (wc := [(om k0 a I0 J0), (oa (a 1) cI 201 (upd kd f 6)), (oa (a 11) cI 201 (upd mn f 4)), (oa (a 12) cI 8040 cx1), (oa (a 13) cI 8040 cy1)]) hP hD [true, true, true, true, true] rfl rfl
        have hE9 : ([(om k0 a I0 J0), (oa (a 1) cI 201 (upd kd f 6)), (oa (a 11) cI 201 (upd mn f 4)), (oa (a 12) cI 8040 cx1), (oa (a 13) cI 8040 cy1)] : va_W) = [(om k0 a I0 J0), (oa (a 1) cI 201 (upd kd f 6)), (oa (a 11) cI 201 (upd mn f 4)), (oa (a 12) cI 8040 (bxX f (I0 44) (I0 46) 4 cx)), (oa (a 13) cI 8040 (bxY f (I0 45) (I0 47) 4 cy))] := by rw [hcx, hcy]
        rw [hE9] at hP9 hD9
        rw [hQ9]
        exact W.vret hx hb hr (fun t ht hW => ⟨⟨rfl, by rw [ht]; exact hP9, hD9⟩, hS.F ht⟩) hS.2.2 dX11_layBox_87
      · have c_2 : ((k : Nat) : Int) < 4 := zc_nle rfl (nI_toInt b9_3) c_2
        refine lv_aload_n hx hb dX11_layBox_14 rfl (lv_at hl 1 rfl) ?_
        refine va_get (D := (dC, dI)) (ci := 9) (v := .ref (a 12)) (C := RX11) (T := TX11) (N := 55) hx hb hts inX11 hown hK hP 0 rfl rfl 12 (Nat.le_of_ble_eq_true rfl) (hts _ mw_1171) (fun _ h9 => h9) rfl dX11_layBox_15 ?_
        refine lv_bipush (v := 40) hx hb dX11_layBox_18 rfl ?_
        refine lv_iload_n hx hb dX11_layBox_20 rfl (lv_at hl 2 rfl) ?_
        refine lv_imul hx hb dX11_layBox_21 ?_
        refine zz_i (v := nI (40 * f)) (pk_mul 40 f) ?_
        refine lv_iload_n hx hb dX11_layBox_22 rfl (lv_at hl 0 rfl) ?_
        refine lv_iadd hx hb dX11_layBox_23 ?_
        refine zz_i (v := nI (40 * f + k)) (nI_add (40 * f) k) ?_
        refine lv_iload_n hx hb dX11_layBox_24 rfl (lv_at hl 0 rfl) ?_
        refine lv_iconst (v := 1) hx hb dX11_layBox_25 rfl ?_
        refine lv_icmp_eq (tgt := 34) hx hb dX11_layBox_26 rfl (fun c_4 => ?_) (fun c_4 => ?_)
        · have c_4 : ((k : Nat) : Int) = 1 := zc_eq (nI_toInt b9_3) rfl c_4
          refine lv_aload_n hx hb dX11_layBox_34 rfl (lv_at hl 1 rfl) ?_
          refine va_get (D := (dC, dI)) (ci := 9) (v := .int (I0 46)) (C := RX11) (T := TX11) (N := 55) hx hb hts inX11 hown hK hP 0 rfl rfl 46 (Nat.le_of_ble_eq_true rfl) (hts _ mw_1205) (fun _ h9 => h9) rfl dX11_layBox_35 ?_
          refine lv_goto (tgt := 45) hx hb dX11_layBox_38 rfl ?_
          have b9_5 : 40 * f + k < 8040 := by omega
          refine z_iast hx hb hK hP hD hS 3 0 rfl rfl (e := 40 * f + k) (x := I0 46) rfl b9_5 (Nat.le_of_ble_eq_true rfl) dX11_layBox_45 (fun H locs hP hD hS => ?_)
          obtain ⟨hP, hD⟩ := zre (W2 := [_, _, _, (oa (a 12) cI 8040 (upd cx1 (40 * f + k) (I0 46))), _]) hP hD rfl
          refine lv_aload_n hx hb dX11_layBox_46 rfl (lv_at hl 1 rfl) ?_
          refine va_get (D := (dC, dI)) (ci := 9) (v := .ref (a 13)) (C := RX11) (T := TX11) (N := 55) hx hb hts inX11 hown hK hP 0 rfl rfl 13 (Nat.le_of_ble_eq_true rfl) (hts _ mw_1172) (fun _ h9 => h9) rfl dX11_layBox_47 ?_
          refine lv_bipush (v := 40) hx hb dX11_layBox_50 rfl ?_
          refine lv_iload_n hx hb dX11_layBox_52 rfl (lv_at hl 2 rfl) ?_
          refine lv_imul hx hb dX11_layBox_53 ?_
          refine zz_i (v := nI (40 * f)) (pk_mul 40 f) ?_
          refine lv_iload_n hx hb dX11_layBox_54 rfl (lv_at hl 0 rfl) ?_
          refine lv_iadd hx hb dX11_layBox_55 ?_
          refine zz_i (v := nI (40 * f + k)) (nI_add (40 * f) k) ?_
          refine lv_iload_n hx hb dX11_layBox_56 rfl (lv_at hl 0 rfl) ?_
          refine lv_iconst (v := 1) hx hb dX11_layBox_57 rfl ?_
          refine lv_icmp_le (tgt := 68) hx hb dX11_layBox_58 rfl (fun c_6 => ?_) (fun c_6 => ?_)
          · have c_6 : ((k : Nat) : Int) ≤ 1 := zc_le (nI_toInt b9_3) rfl c_6
            refine lv_aload_n hx hb dX11_layBox_68 rfl (lv_at hl 1 rfl) ?_
            refine va_get (D := (dC, dI)) (ci := 9) (v := .int (I0 45)) (C := RX11) (T := TX11) (N := 55) hx hb hts inX11 hown hK hP 0 rfl rfl 45 (Nat.le_of_ble_eq_true rfl) (hts _ mw_1204) (fun _ h9 => h9) rfl dX11_layBox_69 ?_
            refine z_iast hx hb hK hP hD hS 4 0 rfl rfl (e := 40 * f + k) (x := I0 45) rfl b9_5 (Nat.le_of_ble_eq_true rfl) dX11_layBox_72 (fun H locs hP hD hS => ?_)
            obtain ⟨hP, hD⟩ := zre (W2 := [_, _, _, _, (oa (a 13) cI 8040 (upd cy1 (40 * f + k) (I0 45)))]) hP hD rfl
            refine lv_iinc (v := nI (k + 1)) (lv' := [(2, .int (nI (k + 1))), (0, .ref k0), (1, .int (nI f))]) hx hb dX11_layBox_73 hl (k := 0) rfl (nI_add k 1) (Nat.le_of_ble_eq_true rfl) rfl (fun ls hl => ?_)
            refine lv_goto (tgt := 9) hx hb dX11_layBox_76 rfl ?_
            exact ih_9 (k + 1) (upd cx1 (40 * f + k) (I0 46)) (upd cy1 (40 * f + k) (I0 45)) H locs ls (by first | with_reducible assumption | omega) (by first | with_reducible assumption | omega) (bxX_s hcx (by first | (exfalso; omega) | (rw [if_pos (by first | with_reducible assumption | omega)]) | (rw [if_neg (by first | with_reducible assumption | omega)]))) (bxY_s hcy (by first | (exfalso; omega) | (rw [if_pos (by first | with_reducible assumption | omega)]) | (rw [if_neg (by first | with_reducible assumption | omega)]))) hP hD hS (lv_sub hl [0, 1, 2] rfl)
          · have c_6 : 1 < ((k : Nat) : Int) := zc_nle (nI_toInt b9_3) rfl c_6
            refine lv_aload_n hx hb dX11_layBox_61 rfl (lv_at hl 1 rfl) ?_
            refine va_get (D := (dC, dI)) (ci := 9) (v := .int (I0 47)) (C := RX11) (T := TX11) (N := 55) hx hb hts inX11 hown hK hP 0 rfl rfl 47 (Nat.le_of_ble_eq_true rfl) (hts _ mw_1206) (fun _ h9 => h9) rfl dX11_layBox_62 ?_
            refine lv_goto (tgt := 72) hx hb dX11_layBox_65 rfl ?_
            refine z_iast hx hb hK hP hD hS 4 0 rfl rfl (e := 40 * f + k) (x := I0 47) rfl b9_5 (Nat.le_of_ble_eq_true rfl) dX11_layBox_72 (fun H locs hP hD hS => ?_)
            obtain ⟨hP, hD⟩ := zre (W2 := [_, _, _, _, (oa (a 13) cI 8040 (upd cy1 (40 * f + k) (I0 47)))]) hP hD rfl
            refine lv_iinc (v := nI (k + 1)) (lv' := [(2, .int (nI (k + 1))), (0, .ref k0), (1, .int (nI f))]) hx hb dX11_layBox_73 hl (k := 0) rfl (nI_add k 1) (Nat.le_of_ble_eq_true rfl) rfl (fun ls hl => ?_)
            refine lv_goto (tgt := 9) hx hb dX11_layBox_76 rfl ?_
            exact ih_9 (k + 1) (upd cx1 (40 * f + k) (I0 46)) (upd cy1 (40 * f + k) (I0 47)) H locs ls (by first | with_reducible assumption | omega) (by first | with_reducible assumption | omega) (bxX_s hcx (by first | (exfalso; omega) | (rw [if_pos (by first | with_reducible assumption | omega)]) | (rw [if_neg (by first | with_reducible assumption | omega)]))) (bxY_s hcy (by first | (exfalso; omega) | (rw [if_pos (by first | with_reducible assumption | omega)]) | (rw [if_neg (by first | with_reducible assumption | omega)]))) hP hD hS (lv_sub hl [0, 1, 2] rfl)
        · have c_4 : ¬ ((k : Nat) : Int) = 1 := zc_ne (nI_toInt b9_3) rfl c_4
          refine lv_iload_n hx hb dX11_layBox_29 rfl (lv_at hl 0 rfl) ?_
          refine lv_iconst (v := 2) hx hb dX11_layBox_30 rfl ?_
          refine lv_icmp_ne (tgt := 41) hx hb dX11_layBox_31 rfl (fun c_7 => ?_) (fun c_7 => ?_)
          · have c_7 : ¬ ((k : Nat) : Int) = 2 := zc_ne (nI_toInt b9_3) rfl c_7
            refine lv_aload_n hx hb dX11_layBox_41 rfl (lv_at hl 1 rfl) ?_
            refine va_get (D := (dC, dI)) (ci := 9) (v := .int (I0 44)) (C := RX11) (T := TX11) (N := 55) hx hb hts inX11 hown hK hP 0 rfl rfl 44 (Nat.le_of_ble_eq_true rfl) (hts _ mw_1203) (fun _ h9 => h9) rfl dX11_layBox_42 ?_
            have b9_8 : 40 * f + k < 8040 := by omega
            refine z_iast hx hb hK hP hD hS 3 0 rfl rfl (e := 40 * f + k) (x := I0 44) rfl b9_8 (Nat.le_of_ble_eq_true rfl) dX11_layBox_45 (fun H locs hP hD hS => ?_)
            obtain ⟨hP, hD⟩ := zre (W2 := [_, _, _, (oa (a 12) cI 8040 (upd cx1 (40 * f + k) (I0 44))), _]) hP hD rfl
            refine lv_aload_n hx hb dX11_layBox_46 rfl (lv_at hl 1 rfl) ?_
            refine va_get (D := (dC, dI)) (ci := 9) (v := .ref (a 13)) (C := RX11) (T := TX11) (N := 55) hx hb hts inX11 hown hK hP 0 rfl rfl 13 (Nat.le_of_ble_eq_true rfl) (hts _ mw_1172) (fun _ h9 => h9) rfl dX11_layBox_47 ?_
            refine lv_bipush (v := 40) hx hb dX11_layBox_50 rfl ?_
            refine lv_iload_n hx hb dX11_layBox_52 rfl (lv_at hl 2 rfl) ?_
            refine lv_imul hx hb dX11_layBox_53 ?_
            refine zz_i (v := nI (40 * f)) (pk_mul 40 f) ?_
            refine lv_iload_n hx hb dX11_layBox_54 rfl (lv_at hl 0 rfl) ?_
            refine lv_iadd hx hb dX11_layBox_55 ?_
            refine zz_i (v := nI (40 * f + k)) (nI_add (40 * f) k) ?_
            refine lv_iload_n hx hb dX11_layBox_56 rfl (lv_at hl 0 rfl) ?_
            refine lv_iconst (v := 1) hx hb dX11_layBox_57 rfl ?_
            refine lv_icmp_le (tgt := 68) hx hb dX11_layBox_58 rfl (fun c_9 => ?_) (fun c_9 => ?_)
            · have c_9 : ((k : Nat) : Int) ≤ 1 := zc_le (nI_toInt b9_3) rfl c_9
              refine lv_aload_n hx hb dX11_layBox_68 rfl (lv_at hl 1 rfl) ?_
              refine va_get (D := (dC, dI)) (ci := 9) (v := .int (I0 45)) (C := RX11) (T := TX11) (N := 55) hx hb hts inX11 hown hK hP 0 rfl rfl 45 (Nat.le_of_ble_eq_true rfl) (hts _ mw_1204) (fun _ h9 => h9) rfl dX11_layBox_69 ?_
              refine z_iast hx hb hK hP hD hS 4 0 rfl rfl (e := 40 * f + k) (x := I0 45) rfl b9_8 (Nat.le_of_ble_eq_true rfl) dX11_layBox_72 (fun H locs hP hD hS => ?_)
              obtain ⟨hP, hD⟩ := zre (W2 := [_, _, _, _, (oa (a 13) cI 8040 (upd cy1 (40 * f + k) (I0 45)))]) hP hD rfl
              refine lv_iinc (v := nI (k + 1)) (lv' := [(2, .int (nI (k + 1))), (0, .ref k0), (1, .int (nI f))]) hx hb dX11_layBox_73 hl (k := 0) rfl (nI_add k 1) (Nat.le_of_ble_eq_true rfl) rfl (fun ls hl => ?_)
              refine lv_goto (tgt := 9) hx hb dX11_layBox_76 rfl ?_
              exact ih_9 (k + 1) (upd cx1 (40 * f + k) (I0 44)) (upd cy1 (40 * f + k) (I0 45)) H locs ls (by first | with_reducible assumption | omega) (by first | with_reducible assumption | omega) (bxX_s hcx (by first | (exfalso; omega) | (rw [if_pos (by first | with_reducible assumption | omega)]) | (rw [if_neg (by first | with_reducible assumption | omega)]))) (bxY_s hcy (by first | (exfalso; omega) | (rw [if_pos (by first | with_reducible assumption | omega)]) | (rw [if_neg (by first | with_reducible assumption | omega)]))) hP hD hS (lv_sub hl [0, 1, 2] rfl)
            · have c_9 : 1 < ((k : Nat) : Int) := zc_nle (nI_toInt b9_3) rfl c_9
              refine lv_aload_n hx hb dX11_layBox_61 rfl (lv_at hl 1 rfl) ?_
              refine va_get (D := (dC, dI)) (ci := 9) (v := .int (I0 47)) (C := RX11) (T := TX11) (N := 55) hx hb hts inX11 hown hK hP 0 rfl rfl 47 (Nat.le_of_ble_eq_true rfl) (hts _ mw_1206) (fun _ h9 => h9) rfl dX11_layBox_62 ?_
              refine lv_goto (tgt := 72) hx hb dX11_layBox_65 rfl ?_
              refine z_iast hx hb hK hP hD hS 4 0 rfl rfl (e := 40 * f + k) (x := I0 47) rfl b9_8 (Nat.le_of_ble_eq_true rfl) dX11_layBox_72 (fun H locs hP hD hS => ?_)
              obtain ⟨hP, hD⟩ := zre (W2 := [_, _, _, _, (oa (a 13) cI 8040 (upd cy1 (40 * f + k) (I0 47)))]) hP hD rfl
              refine lv_iinc (v := nI (k + 1)) (lv' := [(2, .int (nI (k + 1))), (0, .ref k0), (1, .int (nI f))]) hx hb dX11_layBox_73 hl (k := 0) rfl (nI_add k 1) (Nat.le_of_ble_eq_true rfl) rfl (fun ls hl => ?_)
              refine lv_goto (tgt := 9) hx hb dX11_layBox_76 rfl ?_
              exact ih_9 (k + 1) (upd cx1 (40 * f + k) (I0 44)) (upd cy1 (40 * f + k) (I0 47)) H locs ls (by first | with_reducible assumption | omega) (by first | with_reducible assumption | omega) (bxX_s hcx (by first | (exfalso; omega) | (rw [if_pos (by first | with_reducible assumption | omega)]) | (rw [if_neg (by first | with_reducible assumption | omega)]))) (bxY_s hcy (by first | (exfalso; omega) | (rw [if_pos (by first | with_reducible assumption | omega)]) | (rw [if_neg (by first | with_reducible assumption | omega)]))) hP hD hS (lv_sub hl [0, 1, 2] rfl)
          · have c_7 : ((k : Nat) : Int) = 2 := zc_eq (nI_toInt b9_3) rfl c_7
            refine lv_aload_n hx hb dX11_layBox_34 rfl (lv_at hl 1 rfl) ?_
            refine va_get (D := (dC, dI)) (ci := 9) (v := .int (I0 46)) (C := RX11) (T := TX11) (N := 55) hx hb hts inX11 hown hK hP 0 rfl rfl 46 (Nat.le_of_ble_eq_true rfl) (hts _ mw_1205) (fun _ h9 => h9) rfl dX11_layBox_35 ?_
            refine lv_goto (tgt := 45) hx hb dX11_layBox_38 rfl ?_
            have b9_10 : 40 * f + k < 8040 := by omega
            refine z_iast hx hb hK hP hD hS 3 0 rfl rfl (e := 40 * f + k) (x := I0 46) rfl b9_10 (Nat.le_of_ble_eq_true rfl) dX11_layBox_45 (fun H locs hP hD hS => ?_)
            obtain ⟨hP, hD⟩ := zre (W2 := [_, _, _, (oa (a 12) cI 8040 (upd cx1 (40 * f + k) (I0 46))), _]) hP hD rfl
            refine lv_aload_n hx hb dX11_layBox_46 rfl (lv_at hl 1 rfl) ?_
            refine va_get (D := (dC, dI)) (ci := 9) (v := .ref (a 13)) (C := RX11) (T := TX11) (N := 55) hx hb hts inX11 hown hK hP 0 rfl rfl 13 (Nat.le_of_ble_eq_true rfl) (hts _ mw_1172) (fun _ h9 => h9) rfl dX11_layBox_47 ?_
            refine lv_bipush (v := 40) hx hb dX11_layBox_50 rfl ?_
            refine lv_iload_n hx hb dX11_layBox_52 rfl (lv_at hl 2 rfl) ?_
            refine lv_imul hx hb dX11_layBox_53 ?_
            refine zz_i (v := nI (40 * f)) (pk_mul 40 f) ?_
            refine lv_iload_n hx hb dX11_layBox_54 rfl (lv_at hl 0 rfl) ?_
            refine lv_iadd hx hb dX11_layBox_55 ?_
            refine zz_i (v := nI (40 * f + k)) (nI_add (40 * f) k) ?_
            refine lv_iload_n hx hb dX11_layBox_56 rfl (lv_at hl 0 rfl) ?_
            refine lv_iconst (v := 1) hx hb dX11_layBox_57 rfl ?_
            refine lv_icmp_le (tgt := 68) hx hb dX11_layBox_58 rfl (fun c_11 => ?_) (fun c_11 => ?_)
            · have c_11 : ((k : Nat) : Int) ≤ 1 := zc_le (nI_toInt b9_3) rfl c_11
              refine lv_aload_n hx hb dX11_layBox_68 rfl (lv_at hl 1 rfl) ?_
              refine va_get (D := (dC, dI)) (ci := 9) (v := .int (I0 45)) (C := RX11) (T := TX11) (N := 55) hx hb hts inX11 hown hK hP 0 rfl rfl 45 (Nat.le_of_ble_eq_true rfl) (hts _ mw_1204) (fun _ h9 => h9) rfl dX11_layBox_69 ?_
              refine z_iast hx hb hK hP hD hS 4 0 rfl rfl (e := 40 * f + k) (x := I0 45) rfl b9_10 (Nat.le_of_ble_eq_true rfl) dX11_layBox_72 (fun H locs hP hD hS => ?_)
              obtain ⟨hP, hD⟩ := zre (W2 := [_, _, _, _, (oa (a 13) cI 8040 (upd cy1 (40 * f + k) (I0 45)))]) hP hD rfl
              refine lv_iinc (v := nI (k + 1)) (lv' := [(2, .int (nI (k + 1))), (0, .ref k0), (1, .int (nI f))]) hx hb dX11_layBox_73 hl (k := 0) rfl (nI_add k 1) (Nat.le_of_ble_eq_true rfl) rfl (fun ls hl => ?_)
              refine lv_goto (tgt := 9) hx hb dX11_layBox_76 rfl ?_
              exact ih_9 (k + 1) (upd cx1 (40 * f + k) (I0 46)) (upd cy1 (40 * f + k) (I0 45)) H locs ls (by first | with_reducible assumption | omega) (by first | with_reducible assumption | omega) (bxX_s hcx (by first | (exfalso; omega) | (rw [if_pos (by first | with_reducible assumption | omega)]) | (rw [if_neg (by first | with_reducible assumption | omega)]))) (bxY_s hcy (by first | (exfalso; omega) | (rw [if_pos (by first | with_reducible assumption | omega)]) | (rw [if_neg (by first | with_reducible assumption | omega)]))) hP hD hS (lv_sub hl [0, 1, 2] rfl)
            · have c_11 : 1 < ((k : Nat) : Int) := zc_nle (nI_toInt b9_3) rfl c_11
              refine lv_aload_n hx hb dX11_layBox_61 rfl (lv_at hl 1 rfl) ?_
              refine va_get (D := (dC, dI)) (ci := 9) (v := .int (I0 47)) (C := RX11) (T := TX11) (N := 55) hx hb hts inX11 hown hK hP 0 rfl rfl 47 (Nat.le_of_ble_eq_true rfl) (hts _ mw_1206) (fun _ h9 => h9) rfl dX11_layBox_62 ?_
              refine lv_goto (tgt := 72) hx hb dX11_layBox_65 rfl ?_
              refine z_iast hx hb hK hP hD hS 4 0 rfl rfl (e := 40 * f + k) (x := I0 47) rfl b9_10 (Nat.le_of_ble_eq_true rfl) dX11_layBox_72 (fun H locs hP hD hS => ?_)
              obtain ⟨hP, hD⟩ := zre (W2 := [_, _, _, _, (oa (a 13) cI 8040 (upd cy1 (40 * f + k) (I0 47)))]) hP hD rfl
              refine lv_iinc (v := nI (k + 1)) (lv' := [(2, .int (nI (k + 1))), (0, .ref k0), (1, .int (nI f))]) hx hb dX11_layBox_73 hl (k := 0) rfl (nI_add k 1) (Nat.le_of_ble_eq_true rfl) rfl (fun ls hl => ?_)
              refine lv_goto (tgt := 9) hx hb dX11_layBox_76 rfl ?_
              exact ih_9 (k + 1) (upd cx1 (40 * f + k) (I0 46)) (upd cy1 (40 * f + k) (I0 47)) H locs ls (by first | with_reducible assumption | omega) (by first | with_reducible assumption | omega) (bxX_s hcx (by first | (exfalso; omega) | (rw [if_pos (by first | with_reducible assumption | omega)]) | (rw [if_neg (by first | with_reducible assumption | omega)]))) (bxY_s hcy (by first | (exfalso; omega) | (rw [if_pos (by first | with_reducible assumption | omega)]) | (rw [if_neg (by first | with_reducible assumption | omega)]))) hP hD hS (lv_sub hl [0, 1, 2] rfl)
  exact hl_9 _ 0 cx cy H locs ls (Nat.lt_succ_self _) (by first | with_reducible assumption | omega) (bxX_0 _ _ _ _) (bxY_0 _ _ _ _) hP hD hS (lv_sub hl [0, 1, 2] rfl)
end
section
set_option maxHeartbeats 4000000 in
set_option maxRecDepth 100000 in
theorem k_M_plain_y (l : Launch) (dC : Nat → ClassId) (dI : Nat → Nat → Nat) (cI cZ cF : ClassId) (sz : Nat) (k0 : Nat) (a : Nat → Nat) (I0 : Nat → Int32) (J0 : Nat → Int64) (f : Nat) (n : Nat) (L : Nat) (ft : Nat) (ln : Nat) (cl : Nat) (kb : Nat) (stp : Int32) (st : Nat → Int32) (tn : Nat → Int32) (kd : Nat → Int32) (mn : Nat → Int32) (cx : Nat → Int32) (cy : Nat → Int32) (S0 : Nat → Int32) (T0 : Nat → Int32) (P0 : Nat → Int32) (Q0 : Nat → Int32) (ox : Nat → Int32) (oy : Nat → Int32) (mt : Nat → Int32) (wi : Nat → Int32) (ins : Nat → Int32) (fl : Nat → Int32) (la : Nat → Int32) (lb : Nat → Int32) (lc : Nat → Int32) (ld : Nat → Int32) (hft : I0 0 = nI ft) (h200 : ft ≤ 200) (hf_f : f ≤ 200) (hm_f : mn f = nI n) (hn_f : 1 ≤ n ∧ n ≤ 40) (hp_f : pls n (cF40 cx f) (cF40 cy f)) (hL : L ≤ 2147483647) (hwf : ∀ q, lvF ft st tn q → wfM mn cx cy q) (hr3 : 5 ≤ (kd f).toInt → 3 ≤ n) (hlc : ln ≤ 64 * cl) (hcl1 : 1 ≤ cl) (hclm : cl ≤ 1000000) (hkb : pBest ft st tn kd mn cx cy f n L kb) : zM l yX11_plain cX11_plain 8 (some .boolean) ({ frames := 7, cells := 4 * (dl cl ln - cl), slots := 512 * (dl cl ln - cl), locals := 182 } : Room) [.ref k0, .int (nI f), .long (jI ((L : Nat) : Int)), .int stp] (dC, dI) (zTy cI cZ cF) [(om k0 a (upd I0 26 (nI ln)) J0), (oa (a 5) cI 201 st), (oa (a 6) cZ 201 tn), (oa (a 1) cI 201 kd), (oa (a 11) cI 201 mn), (oa (a 12) cI 8040 cx), (oa (a 13) cI 8040 cy), (oa (a 32) cI 8 S0), (oa (a 40) cI 6 T0), (oa (a 29) cI 42 P0), (oa (a 30) cI 42 Q0), (oa (a 33) cI 42 ox), (oa (a 34) cI 42 oy), (oa (a 37) cZ 201 mt), (oa (a 38) cZ 201 wi), (oa (a 39) cZ 8040 ins), (oa (a 43) cZ 40 fl), (oa (a 22) cI (64 * cl) la), (oa (a 23) cI (64 * cl) lb), (oa (a 24) cI (64 * cl) lc), (oa (a 25) cI (64 * cl) ld)] sz (some (.int 1)) (fun A t => ∃ (z9 : Int32), ∃ (on1 : Int32), ∃ (ok1 : Int32), ∃ (S1 : Nat → Int32), ∃ (T1 : Nat → Int32), ∃ (P1 : Nat → Int32), ∃ (Q1 : Nat → Int32), ∃ (ox1 : Nat → Int32), ∃ (oy1 : Nat → Int32), ∃ (mt1 : Nat → Int32), ∃ (wi1 : Nat → Int32), ∃ (ins1 : Nat → Int32), ∃ (fl1 : Nat → Int32), ∃ (bl0 : Nat), ∃ (bl1 : Nat), ∃ (bl2 : Nat), ∃ (bl3 : Nat), ∃ (la1 : Nat → Int32), ∃ (lb1 : Nat → Int32), ∃ (lc1 : Nat → Int32), ∃ (ld1 : Nat → Int32), ((∀ j, j < ln → pl (lb j) ∧ pl (lc j)) → ∀ j, j < ln + 1 → pl (lb1 j) ∧ pl (lc1 j)) ∧ zPD (dC, dI) classes A [(om k0 (va_up (va_up (va_up (va_up a 22 bl0) 23 bl1) 24 bl2) 25 bl3) (upd (upd (upd (upd I0 26 (nI (ln + 1))) 31 z9) 35 on1) 36 ok1) J0), (oa (a 5) cI 201 st), (oa (a 6) cZ 201 tn), (oa (a 1) cI 201 kd), (oa (a 11) cI 201 (upd mn f (nI (n - 1)))), (oa (a 12) cI 8040 (shp f kb (n - 1) cx)), (oa (a 13) cI 8040 (shp f kb (n - 1) cy)), (oa (a 32) cI 8 S1), (oa (a 40) cI 6 T1), (oa (a 29) cI 42 P1), (oa (a 30) cI 42 Q1), (oa (a 33) cI 42 ox1), (oa (a 34) cI 42 oy1), (oa (a 37) cZ 201 mt1), (oa (a 38) cZ 201 wi1), (oa (a 39) cZ 8040 ins1), (oa (a 43) cZ 40 fl1), (oa bl0 cI (64 * (dl cl ln)) la1), (oa bl1 cI (64 * (dl cl ln)) lb1), (oa bl2 cI (64 * (dl cl ln)) lc1), (oa bl3 cI (64 * (dl cl ln)) ld1)] t.heap) (4 * (dl cl ln - cl)) (512 * (dl cl ln - cl)) := by
  refine zIn (own := "ScaleShopModel") (loc := [(0, .ref k0), (1, .int (nI f)), (2, .long (jI ((L : Nat) : Int))), (4, .int stp)]) rfl rfl rfl rfl (fun p e s m below meth c hx hb hr hts hown hlocks hml hnm9 A hA hS hP hD hK hXN Q9 hQ9 ls hl => ?_)
  have hdl : cl ≤ dl cl ln := (by unfold dl; split <;> omega)
  refine lv_iconst (v := 0) hx hb dX11_plain_0 rfl ?_
  refine lv_istore (lv' := [(5, .int 0), (0, .ref k0), (1, .int (nI f)), (2, .long (jI ((L : Nat) : Int))), (4, .int stp)]) hx hb dX11_plain_1 hl (Nat.le_of_ble_eq_true rfl) rfl (fun ls hl => ?_)
  have hl_3 : ∀ (n9 : Nat) (k : Nat) (S1 : Nat → Int32) (fl1 : Nat → Int32) (H : Heap) (locs : List Loc) (ls : Array Slot), n - k < n9 → (k ≤ n) → (∀ j, j < k → fl1 j = pI (¬ cnd ft st tn kd mn cx cy f n L j)) → va_P (dC, dI) classes [(om k0 a (upd I0 26 (nI ln)) J0), (oa (a 5) cI 201 st), (oa (a 6) cZ 201 tn), (oa (a 1) cI 201 kd), (oa (a 11) cI 201 mn), (oa (a 12) cI 8040 cx), (oa (a 13) cI 8040 cy), (oa (a 32) cI 8 S1), (oa (a 40) cI 6 T0), (oa (a 29) cI 42 P0), (oa (a 30) cI 42 Q0), (oa (a 33) cI 42 ox), (oa (a 34) cI 42 oy), (oa (a 37) cZ 201 mt), (oa (a 38) cZ 201 wi), (oa (a 39) cZ 8040 ins), (oa (a 43) cZ 40 fl1), (oa (a 22) cI (64 * cl) la), (oa (a 23) cI (64 * cl) lb), (oa (a 24) cI (64 * cl) lc), (oa (a 25) cI (64 * cl) ld)] H → va_D A [(om k0 a (upd I0 26 (nI ln)) J0), (oa (a 5) cI 201 st), (oa (a 6) cZ 201 tn), (oa (a 1) cI 201 kd), (oa (a 11) cI 201 mn), (oa (a 12) cI 8040 cx), (oa (a 13) cI 8040 cy), (oa (a 32) cI 8 S1), (oa (a 40) cI 6 T0), (oa (a 29) cI 42 P0), (oa (a 30) cI 42 Q0), (oa (a 33) cI 42 ox), (oa (a 34) cI 42 oy), (oa (a 37) cZ 201 mt), (oa (a 38) cZ 201 wi), (oa (a 39) cZ 8040 ins), (oa (a 43) cZ 40 fl1), (oa (a 22) cI (64 * cl) la), (oa (a 23) cI (64 * cl) lb), (oa (a 24) cI (64 * cl) lc), (oa (a 25) cI (64 * cl) ld)] → va_S A s.heap H locs → lv_has ls 8 [(5, .int (nI k)), (0, .ref k0), (1, .int (nI f)), (2, .long (jI ((L : Nat) : Int))), (4, .int stp)] → W p l e ({ frames := 7, cells := 4 * (dl cl ln - cl), slots := 512 * (dl cl ln - cl), locals := 182 } : Room) s m ([.ref k0, .int (nI f), .long (jI ((L : Nat) : Int)), .int stp] : List Value).toArray below meth c H locs 0 0 Q9 (F0 m 3 ls []) := by
    intro n9
    induction n9 with
    | zero => intro k S1 fl1 H locs ls hm; exact absurd hm (Nat.not_lt_zero _)
    | succ n9 ih_3 =>
      intro k S1 fl1 H locs ls hm hk hfl hP hD hS hl
      refine lv_iload hx hb dX11_plain_3 (lv_at hl 0 rfl) ?_
      refine lv_aload_n hx hb dX11_plain_5 rfl (lv_at hl 1 rfl) ?_
      refine va_get (D := (dC, dI)) (ci := 9) (v := .ref (a 11)) (C := RX11) (T := TX11) (N := 55) hx hb hts inX11 hown hK hP 0 rfl rfl 11 (Nat.le_of_ble_eq_true rfl) (hts _ mw_1170) (fun _ h9 => h9) rfl dX11_plain_6 ?_
      refine lv_iload_n hx hb dX11_plain_9 rfl (lv_at hl 2 rfl) ?_
      have b9_1 : f < 201 := by omega
      refine z_iald hx hb hK hP 4 0 rfl rfl (e := f) rfl b9_1 (Nat.le_of_ble_eq_true rfl) dX11_plain_10 ?_
      refine zz_i (v := nI n) (hm_f) ?_
      have b9_3 : zlt (k) := show k < 2147483648 by omega
      have b9_4 : zlt (n) := show n < 2147483648 by omega
      refine lv_icmp_ge (tgt := 54) hx hb dX11_plain_11 rfl (fun c_2 => ?_) (fun c_2 => ?_)
      · have c_2 : ((n : Nat) : Int) ≤ ((k : Nat) : Int) := zc_le (nI_toInt b9_4) (nI_toInt b9_3) c_2
        have hl_54 : ∀ (n9 : Nat) (FS : Nat → Prop) (z9 : Int32) (on1 : Int32) (ok1 : Int32) (S1 : Nat → Int32) (T1 : Nat → Int32) (P1 : Nat → Int32) (Q1 : Nat → Int32) (ox1 : Nat → Int32) (oy1 : Nat → Int32) (mt1 : Nat → Int32) (wi1 : Nat → Int32) (ins1 : Nat → Int32) (fl1 : Nat → Int32) (H : Heap) (locs : List Loc) (ls : Array Slot), cntP (fun j => ¬ FS j) n < n9 → (∀ j, j < n → fl1 j = pI (FS j)) → (∀ j, j < n → ¬ FS j → cnd ft st tn kd mn cx cy f n L j) → (∀ j, j < n → FS j → cnd ft st tn kd mn cx cy f n L j → ¬ lwP ft st tn kd mn cx cy f n j) → va_P (dC, dI) classes [(om k0 a (upd (upd (upd (upd I0 26 (nI ln)) 31 z9) 35 on1) 36 ok1) J0), (oa (a 5) cI 201 st), (oa (a 6) cZ 201 tn), (oa (a 1) cI 201 kd), (oa (a 11) cI 201 mn), (oa (a 12) cI 8040 cx), (oa (a 13) cI 8040 cy), (oa (a 32) cI 8 S1), (oa (a 40) cI 6 T1), (oa (a 29) cI 42 P1), (oa (a 30) cI 42 Q1), (oa (a 33) cI 42 ox1), (oa (a 34) cI 42 oy1), (oa (a 37) cZ 201 mt1), (oa (a 38) cZ 201 wi1), (oa (a 39) cZ 8040 ins1), (oa (a 43) cZ 40 fl1), (oa (a 22) cI (64 * cl) la), (oa (a 23) cI (64 * cl) lb), (oa (a 24) cI (64 * cl) lc), (oa (a 25) cI (64 * cl) ld)] H → va_D A [(om k0 a (upd (upd (upd (upd I0 26 (nI ln)) 31 z9) 35 on1) 36 ok1) J0), (oa (a 5) cI 201 st), (oa (a 6) cZ 201 tn), (oa (a 1) cI 201 kd), (oa (a 11) cI 201 mn), (oa (a 12) cI 8040 cx), (oa (a 13) cI 8040 cy), (oa (a 32) cI 8 S1), (oa (a 40) cI 6 T1), (oa (a 29) cI 42 P1), (oa (a 30) cI 42 Q1), (oa (a 33) cI 42 ox1), (oa (a 34) cI 42 oy1), (oa (a 37) cZ 201 mt1), (oa (a 38) cZ 201 wi1), (oa (a 39) cZ 8040 ins1), (oa (a 43) cZ 40 fl1), (oa (a 22) cI (64 * cl) la), (oa (a 23) cI (64 * cl) lb), (oa (a 24) cI (64 * cl) lc), (oa (a 25) cI (64 * cl) ld)] → va_S A s.heap H locs → lv_has ls 8 [(0, .ref k0), (1, .int (nI f)), (2, .long (jI ((L : Nat) : Int))), (4, .int stp)] → W p l e ({ frames := 7, cells := 4 * (dl cl ln - cl), slots := 512 * (dl cl ln - cl), locals := 182 } : Room) s m ([.ref k0, .int (nI f), .long (jI ((L : Nat) : Int)), .int stp] : List Value).toArray below meth c H locs 0 0 Q9 (F0 m 54 ls []) := by
          intro n9
          induction n9 with
          | zero => intro FS z9 on1 ok1 S1 T1 P1 Q1 ox1 oy1 mt1 wi1 ins1 fl1 H locs ls hm; exact absurd hm (Nat.not_lt_zero _)
          | succ n9 ih_54 =>
            intro FS z9 on1 ok1 S1 T1 P1 Q1 ox1 oy1 mt1 wi1 ins1 fl1 H locs ls hm hfs hfc hfd hP hD hS hl
            have hm54 := hm
            refine lv_iconst (v := (-1)) hx hb dX11_plain_54 rfl ?_
            refine lv_istore (lv' := [(5, .int (-1)), (0, .ref k0), (1, .int (nI f)), (2, .long (jI ((L : Nat) : Int))), (4, .int stp)]) hx hb dX11_plain_55 hl (Nat.le_of_ble_eq_true rfl) rfl (fun ls hl => ?_)
            refine lv_iconst (v := 0) hx hb dX11_plain_57 rfl ?_
            refine lv_istore (lv' := [(6, .int 0), (5, .int (-1)), (0, .ref k0), (1, .int (nI f)), (2, .long (jI ((L : Nat) : Int))), (4, .int stp)]) hx hb dX11_plain_58 hl (Nat.le_of_ble_eq_true rfl) rfl (fun ls hl => ?_)
            have hl_60 : ∀ (n9 : Nat) (k : Nat) (zb : Int32) (H : Heap) (locs : List Loc) (ls : Array Slot), n - k < n9 → (k ≤ n) → (bstS (trF cx cy f n) FS k zb) → va_P (dC, dI) classes [(om k0 a (upd (upd (upd (upd I0 26 (nI ln)) 31 z9) 35 on1) 36 ok1) J0), (oa (a 5) cI 201 st), (oa (a 6) cZ 201 tn), (oa (a 1) cI 201 kd), (oa (a 11) cI 201 mn), (oa (a 12) cI 8040 cx), (oa (a 13) cI 8040 cy), (oa (a 32) cI 8 S1), (oa (a 40) cI 6 T1), (oa (a 29) cI 42 P1), (oa (a 30) cI 42 Q1), (oa (a 33) cI 42 ox1), (oa (a 34) cI 42 oy1), (oa (a 37) cZ 201 mt1), (oa (a 38) cZ 201 wi1), (oa (a 39) cZ 8040 ins1), (oa (a 43) cZ 40 fl1), (oa (a 22) cI (64 * cl) la), (oa (a 23) cI (64 * cl) lb), (oa (a 24) cI (64 * cl) lc), (oa (a 25) cI (64 * cl) ld)] H → va_D A [(om k0 a (upd (upd (upd (upd I0 26 (nI ln)) 31 z9) 35 on1) 36 ok1) J0), (oa (a 5) cI 201 st), (oa (a 6) cZ 201 tn), (oa (a 1) cI 201 kd), (oa (a 11) cI 201 mn), (oa (a 12) cI 8040 cx), (oa (a 13) cI 8040 cy), (oa (a 32) cI 8 S1), (oa (a 40) cI 6 T1), (oa (a 29) cI 42 P1), (oa (a 30) cI 42 Q1), (oa (a 33) cI 42 ox1), (oa (a 34) cI 42 oy1), (oa (a 37) cZ 201 mt1), (oa (a 38) cZ 201 wi1), (oa (a 39) cZ 8040 ins1), (oa (a 43) cZ 40 fl1), (oa (a 22) cI (64 * cl) la), (oa (a 23) cI (64 * cl) lb), (oa (a 24) cI (64 * cl) lc), (oa (a 25) cI (64 * cl) ld)] → va_S A s.heap H locs → lv_has ls 8 [(6, .int (nI k)), (5, .int zb), (0, .ref k0), (1, .int (nI f)), (2, .long (jI ((L : Nat) : Int))), (4, .int stp)] → W p l e ({ frames := 7, cells := 4 * (dl cl ln - cl), slots := 512 * (dl cl ln - cl), locals := 182 } : Room) s m ([.ref k0, .int (nI f), .long (jI ((L : Nat) : Int)), .int stp] : List Value).toArray below meth c H locs 0 0 Q9 (F0 m 60 ls []) := by
              intro n9
              induction n9 with
              | zero => intro k zb H locs ls hm; exact absurd hm (Nat.not_lt_zero _)
              | succ n9 ih_60 =>
                intro k zb H locs ls hm hk hat hP hD hS hl
                refine lv_iload hx hb dX11_plain_60 (lv_at hl 0 rfl) ?_
                refine lv_aload_n hx hb dX11_plain_62 rfl (lv_at hl 2 rfl) ?_
                refine va_get (D := (dC, dI)) (ci := 9) (v := .ref (a 11)) (C := RX11) (T := TX11) (N := 55) hx hb hts inX11 hown hK hP 0 rfl rfl 11 (Nat.le_of_ble_eq_true rfl) (hts _ mw_1170) (fun _ h9 => h9) rfl dX11_plain_63 ?_
                refine lv_iload_n hx hb dX11_plain_66 rfl (lv_at hl 3 rfl) ?_
                refine z_iald hx hb hK hP 4 0 rfl rfl (e := f) rfl b9_1 (Nat.le_of_ble_eq_true rfl) dX11_plain_67 ?_
                refine zz_i (v := nI n) (hm_f) ?_
                have b9_6 : zlt (k) := show k < 2147483648 by omega
                refine lv_icmp_ge (tgt := 115) hx hb dX11_plain_68 rfl (fun c_5 => ?_) (fun c_5 => ?_)
                · have c_5 : ((n : Nat) : Int) ≤ ((k : Nat) : Int) := zc_le (nI_toInt b9_4) (nI_toInt b9_6) c_5
                  refine lv_iload hx hb dX11_plain_115 (lv_at hl 1 rfl) ?_
                  refine lv_iconst (v := (-1)) hx hb dX11_plain_117 rfl ?_
                  refine lv_icmp_ne (tgt := 123) hx hb dX11_plain_118 rfl (fun c_7 => ?_) (fun c_7 => ?_)
                  · have c_7 : ¬ zb.toInt = (-1) := zc_ne rfl rfl c_7
                    have hkn : k = n := (by omega)
                    rw [hkn] at hat
                    obtain ⟨b9, hz9, hbk, hbF, hbm⟩ := bst_get hat (by omega)
                    have hcb := hfc b9 hbk hbF
                    refine lv_aload_n hx hb dX11_plain_123 rfl (lv_at hl 2 rfl) ?_
                    refine va_get (D := (dC, dI)) (ci := 9) (v := .ref (a 12)) (C := RX11) (T := TX11) (N := 55) hx hb hts inX11 hown hK hP 0 rfl rfl 12 (Nat.le_of_ble_eq_true rfl) (hts _ mw_1171) (fun _ h9 => h9) rfl dX11_plain_124 ?_
                    refine lv_bipush (v := 40) hx hb dX11_plain_127 rfl ?_
                    refine lv_iload_n hx hb dX11_plain_129 rfl (lv_at hl 3 rfl) ?_
                    refine lv_imul hx hb dX11_plain_130 ?_
                    refine zz_i (v := nI (40 * f)) (pk_mul 40 f) ?_
                    refine lv_iload hx hb dX11_plain_131 (lv_at hl 1 rfl) ?_
                    refine zz_i (v := nI b9) (hz9) ?_
                    refine lv_iadd hx hb dX11_plain_133 ?_
                    refine zz_i (v := nI (40 * f + b9)) (nI_add (40 * f) b9) ?_
                    have b9_8 : 40 * f + b9 < 8040 := by omega
                    refine z_iald hx hb hK hP 5 0 rfl rfl (e := 40 * f + b9) rfl b9_8 (Nat.le_of_ble_eq_true rfl) dX11_plain_134 ?_
                    refine lv_istore (lv' := [(6, .int (cx (40 * f + b9))), (5, .int zb), (0, .ref k0), (1, .int (nI f)), (2, .long (jI ((L : Nat) : Int))), (4, .int stp)]) hx hb dX11_plain_135 hl (Nat.le_of_ble_eq_true rfl) rfl (fun ls hl => ?_)
                    refine lv_aload_n hx hb dX11_plain_137 rfl (lv_at hl 2 rfl) ?_
                    refine va_get (D := (dC, dI)) (ci := 9) (v := .ref (a 13)) (C := RX11) (T := TX11) (N := 55) hx hb hts inX11 hown hK hP 0 rfl rfl 13 (Nat.le_of_ble_eq_true rfl) (hts _ mw_1172) (fun _ h9 => h9) rfl dX11_plain_138 ?_
                    refine lv_bipush (v := 40) hx hb dX11_plain_141 rfl ?_
                    refine lv_iload_n hx hb dX11_plain_143 rfl (lv_at hl 3 rfl) ?_
                    refine lv_imul hx hb dX11_plain_144 ?_
                    refine zz_i (v := nI (40 * f)) (pk_mul 40 f) ?_
                    refine lv_iload hx hb dX11_plain_145 (lv_at hl 1 rfl) ?_
                    refine zz_i (v := nI b9) (hz9) ?_
                    refine lv_iadd hx hb dX11_plain_147 ?_
                    refine zz_i (v := nI (40 * f + b9)) (nI_add (40 * f) b9) ?_
                    refine z_iald hx hb hK hP 6 0 rfl rfl (e := 40 * f + b9) rfl b9_8 (Nat.le_of_ble_eq_true rfl) dX11_plain_148 ?_
                    refine lv_istore (lv' := [(7, .int (cy (40 * f + b9))), (6, .int (cx (40 * f + b9))), (5, .int zb), (0, .ref k0), (1, .int (nI f)), (2, .long (jI ((L : Nat) : Int))), (4, .int stp)]) hx hb dX11_plain_149 hl (Nat.le_of_ble_eq_true rfl) rfl (fun ls hl => ?_)
                    refine lv_aload_n hx hb dX11_plain_151 rfl (lv_at hl 3 rfl) ?_
                    refine lv_iload_n hx hb dX11_plain_152 rfl (lv_at hl 4 rfl) ?_
                    refine lv_iload hx hb dX11_plain_153 (lv_at hl 2 rfl) ?_
                    refine zz_i (v := nI b9) (hz9) ?_
                    obtain ⟨hPc, hDc, hFc⟩ := zo_sub (wc := [_, _, _, _, _, _, _, _, _, _, _, _, _, _, _, _]) hP hD hS hA [0, 1, 2, 3, 4, 5, 6, 7, 8, 9, 10, 11, 12, 13, 14, 15] (by decide +kernel) rfl
                    refine zcall (st1 := [.int (pI (lwP ft st tn kd mn cx cy f n b9))]) (va_runV (As := [.int (nI f), .int (nI b9)]) (rest := []) ⟨hx, hb, hml, hown, hts⟩ (k_M_goes l dC dI cI cZ cF H.size k0 a (upd (upd (upd (upd I0 26 (nI ln)) 31 z9) 35 on1) 36 ok1) J0 f n b9 ft st tn kd mn cx cy S1 T1 P1 Q1 ox1 oy1 mt1 wi1 ins1 (by first | with_reducible assumption | assumption) (by first | with_reducible assumption | omega) (by first | with_reducible assumption | omega) (by first | with_reducible assumption | assumption) (by first | with_reducible assumption | omega) (by first | with_reducible assumption | assumption) (hbk) (mGo_2 hcb.1 hbk hr3) (hwf)) (csV_200 hts rfl rfl ⟨Nat.le_of_ble_eq_true rfl, Nat.le_of_ble_eq_true rfl⟩) (zPV2 (q0 := 0) (ci := 9) hPc hDc hK hXN rfl rfl) rfl rfl hl.1 rfl (lv_room (Nat.le_of_ble_eq_true rfl)) dX11_plain_155 ⟨Nat.zero_le _, Nat.zero_le _⟩) hS hFc hFc rfl (fun t H locs ht hB hk1 hS => ?_)
                    refine ex13 hB (fun z2 mn2 cx2 cy2 S3 T3 P3 Q3 ox3 oy3 mt3 wi3 ins3 hB0 => ?_)
                    clear hB
                    obtain ⟨hyes, hnot, hP1, hD1⟩ := hB0
                    rw [ht] at hP1
                    obtain ⟨hP, hD⟩ := zn (W2 := [(om k0 a (upd (upd (upd (upd I0 26 (nI ln)) 31 z2) 35 (nI n)) 36 (kd f)) J0), _, _, _, (oa (a 11) cI 201 mn2), (oa (a 12) cI 8040 cx2), (oa (a 13) cI 8040 cy2), (oa (a 32) cI 8 S3), (oa (a 40) cI 6 T3), (oa (a 29) cI 42 P3), (oa (a 30) cI 42 Q3), (oa (a 33) cI 42 ox3), (oa (a 34) cI 42 oy3), (oa (a 37) cZ 201 mt3), (oa (a 38) cZ 201 wi3), (oa (a 39) cZ 8040 ins3), _, _, _, _, _]) hP hD hk1 hFc hP1 hD1 zl_80 zl_175 zl_175 zl_80 (by decide +kernel) rfl rfl rfl rfl rfl
                    clear hk1 hPc hDc hFc hP1 hD1 ht
                    refine lv_if_eq (tgt := 174) hx hb dX11_plain_158 rfl (fun c_9 => ?_) (fun c_9 => ?_)
                    · have c_9 : ¬ (lwP ft st tn kd mn cx cy f n b9) := zp_0 c_9
                      have hno9 := hnot (by first | with_reducible assumption | assumption)
                      rw [hno9.1, hno9.2.1, hno9.2.2] at hP hD
                      refine lv_aload_n hx hb dX11_plain_174 rfl (lv_at hl 3 rfl) ?_
                      refine va_get (D := (dC, dI)) (ci := 9) (v := .ref (a 43)) (C := RX11) (T := TX11) (N := 55) hx hb hts inX11 hown hK hP 0 rfl rfl 43 (Nat.le_of_ble_eq_true rfl) (hts _ mw_1202) (fun _ h9 => h9) rfl dX11_plain_175 ?_
                      refine lv_iload hx hb dX11_plain_178 (lv_at hl 2 rfl) ?_
                      refine zz_i (v := nI b9) (hz9) ?_
                      refine lv_iconst (v := 1) hx hb dX11_plain_180 rfl ?_
                      have b9_10 : b9 < 40 := by omega
                      refine z_zast hx hb hK hP hD hS 16 1 rfl rfl (e := b9) (x := 1) rfl b9_10 (Nat.le_of_ble_eq_true rfl) (by decide) dX11_plain_181 (fun H locs hP hD hS => ?_)
                      obtain ⟨hP, hD⟩ := zre (W2 := [_, _, _, _, _, _, _, _, _, _, _, _, _, _, _, _, (oa (a 43) cZ 40 (upd fl1 b9 1)), _, _, _, _]) hP hD rfl
                      refine lv_goto (tgt := 54) hx hb dX11_plain_182 rfl ?_
                      exact ih_54 (fun j => FS j ∨ j = b9) z2 (nI n) (kd f) S3 T3 P3 Q3 ox3 oy3 mt3 wi3 ins3 (upd fl1 b9 1) H locs ls (Nat.lt_of_lt_of_le (cntP_lt (P := fun j => ¬ FS j) (Q := fun j => ¬ (FS j ∨ j = b9)) (i := b9) (fun j h h2 => h (Or.inl h2)) hbk hbF (fun h => h (Or.inr rfl))) (Nat.le_of_lt_succ hm54)) (by intro j hj; unfold upd; by_cases h : j = b9; rw [if_pos h]; exact (zp_t (Or.inr h)).symm; rw [if_neg h, hfs j hj]; exact zp_iff ⟨Or.inl, fun h2 => h2.resolve_right h⟩) (fun j hj h => hfc j hj (fun h2 => h (Or.inl h2))) (fun j hj h h2 => h.elim (fun h3 => hfd j hj h3 h2) (fun h3 => by rw [h3]; assumption)) hP hD hS (lv_sub hl [3, 4, 5, 6] rfl)
                    · have c_9 : lwP ft st tn kd mn cx cy f n b9 := zp_1 c_9
                      refine lv_aload_n hx hb dX11_plain_161 rfl (lv_at hl 3 rfl) ?_
                      refine lv_iload_n hx hb dX11_plain_162 rfl (lv_at hl 4 rfl) ?_
                      refine lv_iload hx hb dX11_plain_163 (lv_at hl 1 rfl) ?_
                      refine lv_iload hx hb dX11_plain_165 (lv_at hl 0 rfl) ?_
                      refine lv_iload hx hb dX11_plain_167 (lv_at hl 6 rfl) ?_
                      obtain ⟨hPc, hDc, hFc⟩ := zo_sub (wc := [_, _, _, _, _]) hP hD hS hA [0, 17, 18, 19, 20] (by decide +kernel) rfl
                      refine zcall (st1 := []) (va_runV (As := [.int (nI f), .int (cx (40 * f + b9)), .int (cy (40 * f + b9)), .int stp]) (rest := []) ⟨hx, hb, hml, hown, hts⟩ (k_M_lose l dC dI cI cZ cF H.size k0 a (upd (upd (upd (upd I0 26 (nI ln)) 31 z2) 35 (nI n)) 36 (kd f)) J0 (nI f) (cx (40 * f + b9)) (cy (40 * f + b9)) stp ln cl la lb lc ld (rfl) (by first | with_reducible assumption | omega) (by first | with_reducible assumption | omega) (by first | with_reducible assumption | omega)) (csV_201 hts rfl rfl ⟨Nat.le_of_ble_eq_true rfl, Nat.le_of_ble_eq_true rfl⟩) (zPV2 (q0 := 0) (ci := 9) hPc hDc hK hXN rfl rfl) rfl rfl hl.1 rfl (lv_room (Nat.le_of_ble_eq_true rfl)) dX11_plain_169 ⟨show (0 + (4 * (dl cl ln - cl))) ≤ 4 * (dl cl ln - cl) by omega, show (0 + (512 * (dl cl ln - cl))) ≤ 512 * (dl cl ln - cl) by omega⟩) hS hFc hFc rfl (fun t H locs ht hB hk1 hS => ?_)
                      refine ex9 hB (fun bl0 bl1 bl2 bl3 cl1 la1 lb1 lc1 ld1 hB0 => ?_)
                      clear hB
                      obtain ⟨hcc, hnn0, hnn1, hnn2, hnn3, hkk0, hkk1, hkk2, hkk3, hP1, hD1⟩ := hB0
                      rw [ht] at hP1
                      obtain ⟨hP, hD⟩ := zn (W2 := [_, _, _, _, _, _, _, _, _, _, _, _, _, _, _, _, (om k0 (va_up (va_up (va_up (va_up a 22 bl0) 23 bl1) 24 bl2) 25 bl3) (upd (upd (upd (upd I0 26 (nI (ln + 1))) 31 z2) 35 (nI n)) 36 (kd f)) J0), (oa bl0 cI (64 * cl1) la1), (oa bl1 cI (64 * cl1) lb1), (oa bl2 cI (64 * cl1) lc1), (oa bl3 cI (64 * cl1) ld1)]) hP hD hk1 hFc hP1 hD1 [0, 17, 18, 19, 20] zl_123 zl_176 [16, 17, 18, 19, 20] (by decide +kernel) rfl rfl rfl rfl rfl
                      clear hk1 hPc hDc hFc hP1 hD1 ht
                      refine lv_iconst (v := 1) hx hb dX11_plain_172 rfl ?_
                      have hbest : pBest ft st tn kd mn cx cy f n L b9 := ⟨hbk, hcb, by assumption, fun j hj hc hl => hbm j hj (fun h => hfd j hj h hc hl)⟩
                      have hbe : b9 = kb := pBest_u hbest hkb
                      have h8 := hyes (by first | with_reducible assumption | assumption)
                      rw [hbe] at h8
                      obtain ⟨hP9, hD9⟩ := zq_sub (wc := [(om k0 (va_up (va_up (va_up (va_up a 22 bl0) 23 bl1) 24 bl2) 25 bl3) (upd (upd (upd (upd I0 26 (nI (ln + 1))) 31 z2) 35 (nI n)) 36 (kd f)) J0), (oa (a 5) cI 201 st), (oa (a 6) cZ 201 tn), (oa (a 1) cI 201 kd), (oa (a 11) cI 201 mn2), (oa (a 12) cI 8040 cx2), (oa (a 13) cI 8040 cy2), (oa (a 32) cI 8 S3), (oa (a 40) cI 6 T3), (oa (a 29) cI 42 P3), (oa (a 30) cI 42 Q3), (oa (a 33) cI 42 ox3), (oa (a 34) cI 42 oy3), (oa (a 37) cZ 201 mt3), (oa (a 38) cZ 201 wi3), (oa (a 39) cZ 8040 ins3), (oa (a 43) cZ 40 fl1), (oa bl0 cI (64 * cl1) la1), (oa bl1 cI (64 * cl1) lb1), (oa bl2 cI (64 * cl1) lc1), (oa bl3 cI (64 * cl1) ld1)]) hP hD [16, 0, 1, 2, 3, 4, 5, 6, 7, 8, 9, 10, 11, 12, 13, 14, 15, 17, 18, 19, 20] rfl rfl
                      have hE9 : ([(om k0 (va_up (va_up (va_up (va_up a 22 bl0) 23 bl1) 24 bl2) 25 bl3) (upd (upd (upd (upd I0 26 (nI (ln + 1))) 31 z2) 35 (nI n)) 36 (kd f)) J0), (oa (a 5) cI 201 st), (oa (a 6) cZ 201 tn), (oa (a 1) cI 201 kd), (oa (a 11) cI 201 mn2), (oa (a 12) cI 8040 cx2), (oa (a 13) cI 8040 cy2), (oa (a 32) cI 8 S3), (oa (a 40) cI 6 T3), (oa (a 29) cI 42 P3), (oa (a 30) cI 42 Q3), (oa (a 33) cI 42 ox3), (oa (a 34) cI 42 oy3), (oa (a 37) cZ 201 mt3), (oa (a 38) cZ 201 wi3), (oa (a 39) cZ 8040 ins3), (oa (a 43) cZ 40 fl1), (oa bl0 cI (64 * cl1) la1), (oa bl1 cI (64 * cl1) lb1), (oa bl2 cI (64 * cl1) lc1), (oa bl3 cI (64 * cl1) ld1)] : va_W) = [(om k0 (va_up (va_up (va_up (va_up a 22 bl0) 23 bl1) 24 bl2) 25 bl3) (upd (upd (upd (upd I0 26 (nI (ln + 1))) 31 z2) 35 (nI n)) 36 (kd f)) J0), (oa (a 5) cI 201 st), (oa (a 6) cZ 201 tn), (oa (a 1) cI 201 kd), (oa (a 11) cI 201 (upd mn f (nI (n - 1)))), (oa (a 12) cI 8040 (shp f kb (n - 1) cx)), (oa (a 13) cI 8040 (shp f kb (n - 1) cy)), (oa (a 32) cI 8 S3), (oa (a 40) cI 6 T3), (oa (a 29) cI 42 P3), (oa (a 30) cI 42 Q3), (oa (a 33) cI 42 ox3), (oa (a 34) cI 42 oy3), (oa (a 37) cZ 201 mt3), (oa (a 38) cZ 201 wi3), (oa (a 39) cZ 8040 ins3), (oa (a 43) cZ 40 fl1), (oa bl0 cI (64 * (dl cl ln)) la1), (oa bl1 cI (64 * (dl cl ln)) lb1), (oa bl2 cI (64 * (dl cl ln)) lc1), (oa bl3 cI (64 * (dl cl ln)) ld1)] := by rw [h8.1, h8.2.1, h8.2.2, hcc]
                      rw [hE9] at hP9 hD9
                      refine W.widen (k := 4 * (dl cl ln - cl)) (n := 512 * (dl cl ln - cl)) (by omega) (by omega) ?_
                      rw [hQ9]
                      exact W.zret (ty := .boolean) (v := 1) hx hb hr (rfl) (fun t ht hW => ⟨⟨rfl, z2, (nI n), (kd f), S3, T3, P3, Q3, ox3, oy3, mt3, wi3, ins3, fl1, bl0, bl1, bl2, bl3, la1, lb1, lc1, ld1, (fun h j hj => by rcases Nat.lt_or_ge j ln with q | q; rw [hkk1 j q, hkk2 j q]; exact h j q; rw [show j = ln by omega, hnn1, hnn2]; exact hp_f b9 hbk), by rw [ht]; exact hP9, hD9⟩, hS.F ht⟩) hS.2.2 dX11_plain_173
                  · have c_7 : zb.toInt = (-1) := zc_eq rfl rfl c_7
                    exact absurd hkb (by intro h9; exact hfd kb h9.1 (bst_no hat (by omega) (by omega) kb (by have := h9.1; omega)) h9.2.1 h9.2.2.1)
                · have c_5 : ((k : Nat) : Int) < ((n : Nat) : Int) := zc_nle (nI_toInt b9_4) (nI_toInt b9_6) c_5
                  have hk9 : k < n := (by omega)
                  have hfk := hfs k hk9
                  have htB := trB hp_f hk9
                  refine lv_aload_n hx hb dX11_plain_71 rfl (lv_at hl 2 rfl) ?_
                  refine va_get (D := (dC, dI)) (ci := 9) (v := .ref (a 43)) (C := RX11) (T := TX11) (N := 55) hx hb hts inX11 hown hK hP 0 rfl rfl 43 (Nat.le_of_ble_eq_true rfl) (hts _ mw_1202) (fun _ h9 => h9) rfl dX11_plain_72 ?_
                  refine lv_iload hx hb dX11_plain_75 (lv_at hl 0 rfl) ?_
                  have b9_11 : k < 40 := by omega
                  refine z_zald hx hb hK hP 16 1 rfl rfl (e := k) rfl b9_11 (Nat.le_of_ble_eq_true rfl) dX11_plain_77 ?_
                  refine zz_i (v := pI (FS k)) (hfk) ?_
                  refine lv_if_ne (tgt := 109) hx hb dX11_plain_78 rfl (fun c_12 => ?_) (fun c_12 => ?_)
                  · have c_12 : FS k := zp_1 c_12
                    refine lv_iinc (v := nI (k + 1)) (lv' := [(6, .int (nI (k + 1))), (5, .int zb), (0, .ref k0), (1, .int (nI f)), (2, .long (jI ((L : Nat) : Int))), (4, .int stp)]) hx hb dX11_plain_109 hl (k := 0) rfl (nI_add k 1) (Nat.le_of_ble_eq_true rfl) rfl (fun ls hl => ?_)
                    refine lv_goto (tgt := 60) hx hb dX11_plain_112 rfl ?_
                    exact ih_60 (k + 1) zb H locs ls (by first | with_reducible assumption | omega) (by first | with_reducible assumption | omega) (by first | exact bst_f hat (by first | with_reducible assumption | assumption) | exact bst_n hat (by first | with_reducible assumption | omega) (by first | with_reducible assumption | omega) (by first | with_reducible assumption | assumption) | exact bst_l hz9 hbk hbF hbm (by first | with_reducible assumption | assumption) (by first | with_reducible assumption | omega) | exact bst_g hz9 hbk hbF hbm (by first | with_reducible assumption | omega)) hP hD hS (lv_sub hl [0, 1, 2, 3, 4, 5] rfl)
                  · have c_12 : ¬ (FS k) := zp_0 c_12
                    refine lv_iload hx hb dX11_plain_81 (lv_at hl 1 rfl) ?_
                    refine lv_iconst (v := (-1)) hx hb dX11_plain_83 rfl ?_
                    refine lv_icmp_eq (tgt := 105) hx hb dX11_plain_84 rfl (fun c_13 => ?_) (fun c_13 => ?_)
                    · have c_13 : zb.toInt = (-1) := zc_eq rfl rfl c_13
                      refine lv_iload hx hb dX11_plain_105 (lv_at hl 0 rfl) ?_
                      refine lv_istore (lv' := [(5, .int (nI k)), (6, .int (nI k)), (0, .ref k0), (1, .int (nI f)), (2, .long (jI ((L : Nat) : Int))), (4, .int stp)]) hx hb dX11_plain_107 hl (Nat.le_of_ble_eq_true rfl) rfl (fun ls hl => ?_)
                      refine lv_iinc (v := nI (k + 1)) (lv' := [(6, .int (nI (k + 1))), (5, .int (nI k)), (0, .ref k0), (1, .int (nI f)), (2, .long (jI ((L : Nat) : Int))), (4, .int stp)]) hx hb dX11_plain_109 hl (k := 1) rfl (nI_add k 1) (Nat.le_of_ble_eq_true rfl) rfl (fun ls hl => ?_)
                      refine lv_goto (tgt := 60) hx hb dX11_plain_112 rfl ?_
                      exact ih_60 (k + 1) (nI k) H locs ls (by first | with_reducible assumption | omega) (by first | with_reducible assumption | omega) (by first | exact bst_f hat (by first | with_reducible assumption | assumption) | exact bst_n hat (by first | with_reducible assumption | omega) (by first | with_reducible assumption | omega) (by first | with_reducible assumption | assumption) | exact bst_l hz9 hbk hbF hbm (by first | with_reducible assumption | assumption) (by first | with_reducible assumption | omega) | exact bst_g hz9 hbk hbF hbm (by first | with_reducible assumption | omega)) hP hD hS (lv_sub hl [0, 1, 2, 3, 4, 5] rfl)
                    · have c_13 : ¬ zb.toInt = (-1) := zc_ne rfl rfl c_13
                      obtain ⟨b9, hz9, hbk, hbF, hbm⟩ := bst_get hat (by omega)
                      have htb := trB (k := b9) hp_f (by omega)
                      refine lv_aload_n hx hb dX11_plain_87 rfl (lv_at hl 2 rfl) ?_
                      refine lv_iload_n hx hb dX11_plain_88 rfl (lv_at hl 3 rfl) ?_
                      refine lv_iload hx hb dX11_plain_89 (lv_at hl 0 rfl) ?_
                      obtain ⟨hPc, hDc, hFc, hI1⟩ := zi_sub (wc := [_, _, _, _]) hP hD hS hA [0, 4, 5, 6] (by decide +kernel) rfl
                      refine zcall (st1 := [.long (jI ((Int.natAbs (cr (cF40 cx f (prv n k)).toInt (cF40 cy f (prv n k)).toInt (cF40 cx f k).toInt (cF40 cy f k).toInt (cF40 cx f (nxt n k)).toInt (cF40 cy f (nxt n k)).toInt) : Nat) : Int))]) (va_runV (As := [.int (nI f), .int (nI k)]) (rest := []) ⟨hx, hb, hml, hown, hts⟩ (k_M_triangle l dC dI cI cZ cF H.size k0 a (upd (upd (upd (upd I0 26 (nI ln)) 31 z9) 35 on1) 36 ok1) J0 f n k mn cx cy (by first | with_reducible assumption | omega) (by first | with_reducible assumption | assumption) (by first | with_reducible assumption | omega) (by first | with_reducible assumption | assumption) (by first | with_reducible assumption | omega)) (csV_202 hts rfl rfl ⟨Nat.le_of_ble_eq_true rfl, Nat.le_of_ble_eq_true rfl⟩) (zPV2 (q0 := 0) (ci := 9) hPc hDc hK hXN rfl rfl) rfl rfl hl.1 rfl (lv_room (Nat.le_of_ble_eq_true rfl)) dX11_plain_91 ⟨Nat.zero_le _, Nat.zero_le _⟩) hS hFc hFc rfl (fun t H locs ht hB hk1 hS => ?_)
                      obtain ⟨hP1, hD1⟩ := hB
                      rw [ht] at hP1
                      replace hP := z0 hP hD hk1 hP1 hI1
                      clear hk1 hPc hDc hFc hP1 hD1 ht hI1
                      refine zz_l (v := jI ((trF cx cy f n k : Nat) : Int)) (rfl) ?_
                      refine lv_aload_n hx hb dX11_plain_94 rfl (lv_at hl 2 rfl) ?_
                      refine lv_iload_n hx hb dX11_plain_95 rfl (lv_at hl 3 rfl) ?_
                      refine lv_iload hx hb dX11_plain_96 (lv_at hl 1 rfl) ?_
                      refine zz_i (v := nI b9) (hz9) ?_
                      obtain ⟨hPc, hDc, hFc, hI1⟩ := zi_sub (wc := [_, _, _, _]) hP hD hS hA [0, 4, 5, 6] (by decide +kernel) rfl
                      refine zcall (st1 := [.long (jI ((Int.natAbs (cr (cF40 cx f (prv n b9)).toInt (cF40 cy f (prv n b9)).toInt (cF40 cx f b9).toInt (cF40 cy f b9).toInt (cF40 cx f (nxt n b9)).toInt (cF40 cy f (nxt n b9)).toInt) : Nat) : Int)), .long (jI ((trF cx cy f n k : Nat) : Int))]) (va_runV (As := [.int (nI f), .int (nI b9)]) (rest := [.long (jI ((trF cx cy f n k : Nat) : Int))]) ⟨hx, hb, hml, hown, hts⟩ (k_M_triangle l dC dI cI cZ cF H.size k0 a (upd (upd (upd (upd I0 26 (nI ln)) 31 z9) 35 on1) 36 ok1) J0 f n b9 mn cx cy (by first | with_reducible assumption | omega) (by first | with_reducible assumption | assumption) (by first | with_reducible assumption | omega) (by first | with_reducible assumption | assumption) (by first | with_reducible assumption | omega)) (csV_202 hts rfl rfl ⟨Nat.le_of_ble_eq_true rfl, Nat.le_of_ble_eq_true rfl⟩) (zPV2 (q0 := 0) (ci := 9) hPc hDc hK hXN rfl rfl) rfl rfl hl.1 rfl (lv_room (Nat.le_of_ble_eq_true rfl)) dX11_plain_98 ⟨Nat.zero_le _, Nat.zero_le _⟩) hS hFc hFc rfl (fun t H locs ht hB hk1 hS => ?_)
                      obtain ⟨hP1, hD1⟩ := hB
                      rw [ht] at hP1
                      replace hP := z0 hP hD hk1 hP1 hI1
                      clear hk1 hPc hDc hFc hP1 hD1 ht hI1
                      refine zz_l (v := jI ((trF cx cy f n b9 : Nat) : Int)) (rfl) ?_
                      refine W.lcmp hx hb dX11_plain_101 ?_
                      refine lv_if_ge (tgt := 109) hx hb dX11_plain_102 rfl (fun c_14 => ?_) (fun c_14 => ?_)
                      · have c_14 : ((trF cx cy f n b9 : Nat) : Int) ≤ ((trF cx cy f n k : Nat) : Int) := zl_ge (jI_toInt (by omega)) (jI_toInt (by omega)) c_14
                        refine lv_iinc (v := nI (k + 1)) (lv' := [(6, .int (nI (k + 1))), (5, .int zb), (0, .ref k0), (1, .int (nI f)), (2, .long (jI ((L : Nat) : Int))), (4, .int stp)]) hx hb dX11_plain_109 hl (k := 0) rfl (nI_add k 1) (Nat.le_of_ble_eq_true rfl) rfl (fun ls hl => ?_)
                        refine lv_goto (tgt := 60) hx hb dX11_plain_112 rfl ?_
                        exact ih_60 (k + 1) zb H locs ls (by first | with_reducible assumption | omega) (by first | with_reducible assumption | omega) (by first | exact bst_f hat (by first | with_reducible assumption | assumption) | exact bst_n hat (by first | with_reducible assumption | omega) (by first | with_reducible assumption | omega) (by first | with_reducible assumption | assumption) | exact bst_l hz9 hbk hbF hbm (by first | with_reducible assumption | assumption) (by first | with_reducible assumption | omega) | exact bst_g hz9 hbk hbF hbm (by first | with_reducible assumption | omega)) hP hD hS (lv_sub hl [0, 1, 2, 3, 4, 5] rfl)
                      · have c_14 : ((trF cx cy f n k : Nat) : Int) < ((trF cx cy f n b9 : Nat) : Int) := zl_nge (jI_toInt (by omega)) (jI_toInt (by omega)) c_14
                        refine lv_iload hx hb dX11_plain_105 (lv_at hl 0 rfl) ?_
                        refine lv_istore (lv' := [(5, .int (nI k)), (6, .int (nI k)), (0, .ref k0), (1, .int (nI f)), (2, .long (jI ((L : Nat) : Int))), (4, .int stp)]) hx hb dX11_plain_107 hl (Nat.le_of_ble_eq_true rfl) rfl (fun ls hl => ?_)
                        refine lv_iinc (v := nI (k + 1)) (lv' := [(6, .int (nI (k + 1))), (5, .int (nI k)), (0, .ref k0), (1, .int (nI f)), (2, .long (jI ((L : Nat) : Int))), (4, .int stp)]) hx hb dX11_plain_109 hl (k := 1) rfl (nI_add k 1) (Nat.le_of_ble_eq_true rfl) rfl (fun ls hl => ?_)
                        refine lv_goto (tgt := 60) hx hb dX11_plain_112 rfl ?_
                        exact ih_60 (k + 1) (nI k) H locs ls (by first | with_reducible assumption | omega) (by first | with_reducible assumption | omega) (by first | exact bst_f hat (by first | with_reducible assumption | assumption) | exact bst_n hat (by first | with_reducible assumption | omega) (by first | with_reducible assumption | omega) (by first | with_reducible assumption | assumption) | exact bst_l hz9 hbk hbF hbm (by first | with_reducible assumption | assumption) (by first | with_reducible assumption | omega) | exact bst_g hz9 hbk hbF hbm (by first | with_reducible assumption | omega)) hP hD hS (lv_sub hl [0, 1, 2, 3, 4, 5] rfl)
            exact hl_60 _ 0 (-1) H locs ls (Nat.lt_succ_self _) (by first | with_reducible assumption | omega) (bst_0 _ _) hP hD hS (lv_sub hl [0, 1, 2, 3, 4, 5] rfl)
        exact hl_54 _ (fun j => ¬ cnd ft st tn kd mn cx cy f n L j) (I0 31) (I0 35) (I0 36) S1 T0 P0 Q0 ox oy mt wi ins fl1 H locs ls (Nat.lt_succ_self _) (fun j hj => hfl j (by first | with_reducible assumption | omega)) (fun j hj h => Classical.not_not.mp h) (fun j hj h h2 => absurd h2 h) hP hD hS (lv_sub hl [1, 2, 3, 4] rfl)
      · have c_2 : ((k : Nat) : Int) < ((n : Nat) : Int) := zc_nle (nI_toInt b9_4) (nI_toInt b9_3) c_2
        have hk9 : k < n := (by omega)
        refine lv_aload_n hx hb dX11_plain_14 rfl (lv_at hl 1 rfl) ?_
        refine va_get (D := (dC, dI)) (ci := 9) (v := .ref (a 43)) (C := RX11) (T := TX11) (N := 55) hx hb hts inX11 hown hK hP 0 rfl rfl 43 (Nat.le_of_ble_eq_true rfl) (hts _ mw_1202) (fun _ h9 => h9) rfl dX11_plain_15 ?_
        refine lv_iload hx hb dX11_plain_18 (lv_at hl 0 rfl) ?_
        refine lv_aload_n hx hb dX11_plain_20 rfl (lv_at hl 1 rfl) ?_
        refine lv_iload_n hx hb dX11_plain_21 rfl (lv_at hl 2 rfl) ?_
        refine lv_iload hx hb dX11_plain_22 (lv_at hl 0 rfl) ?_
        obtain ⟨hPc, hDc, hFc⟩ := zo_sub (wc := [_, _, _, _, _, _, _, _]) hP hD hS hA [0, 1, 2, 3, 4, 5, 6, 7] (by decide +kernel) rfl
        refine zcall (st1 := [.int (pI (mGo ft st tn kd mn cx cy f n k)), .int (nI k), .ref (a 43)]) (va_runV (As := [.int (nI f), .int (nI k)]) (rest := [.int (nI k), .ref (a 43)]) ⟨hx, hb, hml, hown, hts⟩ (k_M_mayGo l dC dI cI cZ cF H.size k0 a (upd I0 26 (nI ln)) J0 f n k ft st tn kd mn cx cy S1 (by first | with_reducible assumption | assumption) (by first | with_reducible assumption | omega) (by first | with_reducible assumption | omega) (by first | with_reducible assumption | assumption) (by first | with_reducible assumption | omega) (by first | with_reducible assumption | assumption) (by first | with_reducible assumption | omega) (by first | with_reducible assumption | assumption)) (csV_203 hts rfl rfl ⟨Nat.le_of_ble_eq_true rfl, Nat.le_of_ble_eq_true rfl⟩) (zPV2 (q0 := 0) (ci := 9) hPc hDc hK hXN rfl rfl) rfl rfl hl.1 rfl (lv_room (Nat.le_of_ble_eq_true rfl)) dX11_plain_24 ⟨Nat.zero_le _, Nat.zero_le _⟩) hS hFc hFc rfl (fun t H locs ht hB hk1 hS => ?_)
        obtain ⟨S2, hP1, hD1⟩ := hB
        rw [ht] at hP1
        obtain ⟨hP, hD⟩ := zn (W2 := [_, _, _, _, _, _, _, (oa (a 32) cI 8 S2), _, _, _, _, _, _, _, _, _, _, _, _, _]) hP hD hk1 hFc hP1 hD1 zl_157 zl_177 zl_177 zl_157 (by decide +kernel) rfl rfl rfl rfl rfl
        clear hk1 hPc hDc hFc hP1 hD1 ht
        refine lv_if_eq (tgt := 42) hx hb dX11_plain_27 rfl (fun c_15 => ?_) (fun c_15 => ?_)
        · have c_15 : ¬ (mGo ft st tn kd mn cx cy f n k) := zp_0 c_15
          refine lv_iconst (v := 1) hx hb dX11_plain_42 rfl ?_
          refine lv_goto (tgt := 47) hx hb dX11_plain_43 rfl ?_
          refine zz_i (v := pI (¬ cnd ft st tn kd mn cx cy f n L k)) (by first | exact (zp_t (fun h => absurd h.1 (by first | with_reducible assumption | assumption))).symm | exact (zp_t (fun h => absurd h.2 (by omega))).symm | exact (zp_f (fun h => h ⟨by assumption, by omega⟩)).symm) ?_
          have b9_16 : k < 40 := by omega
          refine z_zast hx hb hK hP hD hS 16 1 rfl rfl (e := k) (x := pI (¬ cnd ft st tn kd mn cx cy f n L k)) rfl b9_16 (Nat.le_of_ble_eq_true rfl) (zp_and _) dX11_plain_47 (fun H locs hP hD hS => ?_)
          obtain ⟨hP, hD⟩ := zre (W2 := [_, _, _, _, _, _, _, _, _, _, _, _, _, _, _, _, (oa (a 43) cZ 40 (upd fl1 k (pI (¬ cnd ft st tn kd mn cx cy f n L k)))), _, _, _, _]) hP hD rfl
          refine lv_iinc (v := nI (k + 1)) (lv' := [(5, .int (nI (k + 1))), (0, .ref k0), (1, .int (nI f)), (2, .long (jI ((L : Nat) : Int))), (4, .int stp)]) hx hb dX11_plain_48 hl (k := 0) rfl (nI_add k 1) (Nat.le_of_ble_eq_true rfl) rfl (fun ls hl => ?_)
          refine lv_goto (tgt := 3) hx hb dX11_plain_51 rfl ?_
          exact ih_3 (k + 1) S2 (upd fl1 k (pI (¬ cnd ft st tn kd mn cx cy f n L k))) H locs ls (by first | with_reducible assumption | omega) (by first | with_reducible assumption | omega) (by intro j hj; rcases Nat.lt_or_ge j k with h | h; simp only [upd, if_neg (show j ≠ k by omega)]; exact hfl j h; rw [show j = k by omega]; simp only [upd, if_true]) hP hD hS (lv_sub hl [0, 1, 2, 3, 4] rfl)
        · have c_15 : mGo ft st tn kd mn cx cy f n k := zp_1 c_15
          refine lv_aload_n hx hb dX11_plain_30 rfl (lv_at hl 1 rfl) ?_
          refine lv_iload_n hx hb dX11_plain_31 rfl (lv_at hl 2 rfl) ?_
          refine lv_iload hx hb dX11_plain_32 (lv_at hl 0 rfl) ?_
          obtain ⟨hPc, hDc, hFc, hI1⟩ := zi_sub (wc := [_, _, _, _]) hP hD hS hA [0, 4, 5, 6] (by decide +kernel) rfl
          refine zcall (st1 := [.long (jI ((Int.natAbs (cr (cF40 cx f (prv n k)).toInt (cF40 cy f (prv n k)).toInt (cF40 cx f k).toInt (cF40 cy f k).toInt (cF40 cx f (nxt n k)).toInt (cF40 cy f (nxt n k)).toInt) : Nat) : Int)), .int (nI k), .ref (a 43)]) (va_runV (As := [.int (nI f), .int (nI k)]) (rest := [.int (nI k), .ref (a 43)]) ⟨hx, hb, hml, hown, hts⟩ (k_M_triangle l dC dI cI cZ cF H.size k0 a (upd I0 26 (nI ln)) J0 f n k mn cx cy (by first | with_reducible assumption | omega) (by first | with_reducible assumption | assumption) (by first | with_reducible assumption | omega) (by first | with_reducible assumption | assumption) (by first | with_reducible assumption | omega)) (csV_202 hts rfl rfl ⟨Nat.le_of_ble_eq_true rfl, Nat.le_of_ble_eq_true rfl⟩) (zPV2 (q0 := 0) (ci := 9) hPc hDc hK hXN rfl rfl) rfl rfl hl.1 rfl (lv_room (Nat.le_of_ble_eq_true rfl)) dX11_plain_34 ⟨Nat.zero_le _, Nat.zero_le _⟩) hS hFc hFc rfl (fun t H locs ht hB hk1 hS => ?_)
          obtain ⟨hP1, hD1⟩ := hB
          rw [ht] at hP1
          replace hP := z0 hP hD hk1 hP1 hI1
          clear hk1 hPc hDc hFc hP1 hD1 ht hI1
          refine zz_l (v := jI ((trF cx cy f n k : Nat) : Int)) (rfl) ?_
          have htB := trB hp_f hk9
          refine lv_lload_n hx hb dX11_plain_37 rfl (lv_at hl 3 rfl) ?_
          refine W.lcmp hx hb dX11_plain_38 ?_
          refine lv_if_le (tgt := 46) hx hb dX11_plain_39 rfl (fun c_17 => ?_) (fun c_17 => ?_)
          · have c_17 : ((trF cx cy f n k : Nat) : Int) ≤ ((L : Nat) : Int) := zl_le (jI_toInt (by omega)) (jI_toInt (by omega)) c_17
            refine lv_iconst (v := 0) hx hb dX11_plain_46 rfl ?_
            refine zz_i (v := pI (¬ cnd ft st tn kd mn cx cy f n L k)) (by first | exact (zp_t (fun h => absurd h.1 (by first | with_reducible assumption | assumption))).symm | exact (zp_t (fun h => absurd h.2 (by omega))).symm | exact (zp_f (fun h => h ⟨by assumption, by omega⟩)).symm) ?_
            have b9_18 : k < 40 := by omega
            refine z_zast hx hb hK hP hD hS 16 1 rfl rfl (e := k) (x := pI (¬ cnd ft st tn kd mn cx cy f n L k)) rfl b9_18 (Nat.le_of_ble_eq_true rfl) (zp_and _) dX11_plain_47 (fun H locs hP hD hS => ?_)
            obtain ⟨hP, hD⟩ := zre (W2 := [_, _, _, _, _, _, _, _, _, _, _, _, _, _, _, _, (oa (a 43) cZ 40 (upd fl1 k (pI (¬ cnd ft st tn kd mn cx cy f n L k)))), _, _, _, _]) hP hD rfl
            refine lv_iinc (v := nI (k + 1)) (lv' := [(5, .int (nI (k + 1))), (0, .ref k0), (1, .int (nI f)), (2, .long (jI ((L : Nat) : Int))), (4, .int stp)]) hx hb dX11_plain_48 hl (k := 0) rfl (nI_add k 1) (Nat.le_of_ble_eq_true rfl) rfl (fun ls hl => ?_)
            refine lv_goto (tgt := 3) hx hb dX11_plain_51 rfl ?_
            exact ih_3 (k + 1) S2 (upd fl1 k (pI (¬ cnd ft st tn kd mn cx cy f n L k))) H locs ls (by first | with_reducible assumption | omega) (by first | with_reducible assumption | omega) (by intro j hj; rcases Nat.lt_or_ge j k with h | h; simp only [upd, if_neg (show j ≠ k by omega)]; exact hfl j h; rw [show j = k by omega]; simp only [upd, if_true]) hP hD hS (lv_sub hl [0, 1, 2, 3, 4] rfl)
          · have c_17 : ((L : Nat) : Int) < ((trF cx cy f n k : Nat) : Int) := zl_nle (jI_toInt (by omega)) (jI_toInt (by omega)) c_17
            refine lv_iconst (v := 1) hx hb dX11_plain_42 rfl ?_
            refine lv_goto (tgt := 47) hx hb dX11_plain_43 rfl ?_
            refine zz_i (v := pI (¬ cnd ft st tn kd mn cx cy f n L k)) (by first | exact (zp_t (fun h => absurd h.1 (by first | with_reducible assumption | assumption))).symm | exact (zp_t (fun h => absurd h.2 (by omega))).symm | exact (zp_f (fun h => h ⟨by assumption, by omega⟩)).symm) ?_
            have b9_19 : k < 40 := by omega
            refine z_zast hx hb hK hP hD hS 16 1 rfl rfl (e := k) (x := pI (¬ cnd ft st tn kd mn cx cy f n L k)) rfl b9_19 (Nat.le_of_ble_eq_true rfl) (zp_and _) dX11_plain_47 (fun H locs hP hD hS => ?_)
            obtain ⟨hP, hD⟩ := zre (W2 := [_, _, _, _, _, _, _, _, _, _, _, _, _, _, _, _, (oa (a 43) cZ 40 (upd fl1 k (pI (¬ cnd ft st tn kd mn cx cy f n L k)))), _, _, _, _]) hP hD rfl
            refine lv_iinc (v := nI (k + 1)) (lv' := [(5, .int (nI (k + 1))), (0, .ref k0), (1, .int (nI f)), (2, .long (jI ((L : Nat) : Int))), (4, .int stp)]) hx hb dX11_plain_48 hl (k := 0) rfl (nI_add k 1) (Nat.le_of_ble_eq_true rfl) rfl (fun ls hl => ?_)
            refine lv_goto (tgt := 3) hx hb dX11_plain_51 rfl ?_
            exact ih_3 (k + 1) S2 (upd fl1 k (pI (¬ cnd ft st tn kd mn cx cy f n L k))) H locs ls (by first | with_reducible assumption | omega) (by first | with_reducible assumption | omega) (by intro j hj; rcases Nat.lt_or_ge j k with h | h; simp only [upd, if_neg (show j ≠ k by omega)]; exact hfl j h; rw [show j = k by omega]; simp only [upd, if_true]) hP hD hS (lv_sub hl [0, 1, 2, 3, 4] rfl)
  exact hl_3 _ 0 S0 fl s.heap [] ls (Nat.lt_succ_self _) (by first | with_reducible assumption | omega) (by intro j hj; omega) hP hD hS (lv_sub hl [0, 1, 2, 3, 4] rfl)
set_option maxHeartbeats 4000000 in
set_option maxRecDepth 100000 in
theorem k_M_plain_n (l : Launch) (dC : Nat → ClassId) (dI : Nat → Nat → Nat) (cI cZ cF : ClassId) (sz : Nat) (k0 : Nat) (a : Nat → Nat) (I0 : Nat → Int32) (J0 : Nat → Int64) (f : Nat) (n : Nat) (L : Nat) (ft : Nat) (ln : Nat) (cl : Nat) (stp : Int32) (st : Nat → Int32) (tn : Nat → Int32) (kd : Nat → Int32) (mn : Nat → Int32) (cx : Nat → Int32) (cy : Nat → Int32) (S0 : Nat → Int32) (T0 : Nat → Int32) (P0 : Nat → Int32) (Q0 : Nat → Int32) (ox : Nat → Int32) (oy : Nat → Int32) (mt : Nat → Int32) (wi : Nat → Int32) (ins : Nat → Int32) (fl : Nat → Int32) (la : Nat → Int32) (lb : Nat → Int32) (lc : Nat → Int32) (ld : Nat → Int32) (hft : I0 0 = nI ft) (h200 : ft ≤ 200) (hf_f : f ≤ 200) (hm_f : mn f = nI n) (hn_f : 1 ≤ n ∧ n ≤ 40) (hp_f : pls n (cF40 cx f) (cF40 cy f)) (hL : L ≤ 2147483647) (hwf : ∀ q, lvF ft st tn q → wfM mn cx cy q) (hr3 : 5 ≤ (kd f).toInt → 3 ≤ n) (hnb : ¬ ∃ k, pBest ft st tn kd mn cx cy f n L k) : zM l yX11_plain cX11_plain 8 (some .boolean) ({ frames := 7, cells := 0, slots := 0, locals := 182 } : Room) [.ref k0, .int (nI f), .long (jI ((L : Nat) : Int)), .int stp] (dC, dI) (zTy cI cZ cF) [(om k0 a (upd I0 26 (nI ln)) J0), (oa (a 5) cI 201 st), (oa (a 6) cZ 201 tn), (oa (a 1) cI 201 kd), (oa (a 11) cI 201 mn), (oa (a 12) cI 8040 cx), (oa (a 13) cI 8040 cy), (oa (a 32) cI 8 S0), (oa (a 40) cI 6 T0), (oa (a 29) cI 42 P0), (oa (a 30) cI 42 Q0), (oa (a 33) cI 42 ox), (oa (a 34) cI 42 oy), (oa (a 37) cZ 201 mt), (oa (a 38) cZ 201 wi), (oa (a 39) cZ 8040 ins), (oa (a 43) cZ 40 fl), (oa (a 22) cI (64 * cl) la), (oa (a 23) cI (64 * cl) lb), (oa (a 24) cI (64 * cl) lc), (oa (a 25) cI (64 * cl) ld)] sz (some (.int 0)) (fun A t => ∃ (z9 : Int32), ∃ (on1 : Int32), ∃ (ok1 : Int32), ∃ (S1 : Nat → Int32), ∃ (T1 : Nat → Int32), ∃ (P1 : Nat → Int32), ∃ (Q1 : Nat → Int32), ∃ (ox1 : Nat → Int32), ∃ (oy1 : Nat → Int32), ∃ (mt1 : Nat → Int32), ∃ (wi1 : Nat → Int32), ∃ (ins1 : Nat → Int32), ∃ (fl1 : Nat → Int32), zPD (dC, dI) classes A [(om k0 a (upd (upd (upd (upd I0 26 (nI ln)) 31 z9) 35 on1) 36 ok1) J0), (oa (a 5) cI 201 st), (oa (a 6) cZ 201 tn), (oa (a 1) cI 201 kd), (oa (a 11) cI 201 mn), (oa (a 12) cI 8040 cx), (oa (a 13) cI 8040 cy), (oa (a 32) cI 8 S1), (oa (a 40) cI 6 T1), (oa (a 29) cI 42 P1), (oa (a 30) cI 42 Q1), (oa (a 33) cI 42 ox1), (oa (a 34) cI 42 oy1), (oa (a 37) cZ 201 mt1), (oa (a 38) cZ 201 wi1), (oa (a 39) cZ 8040 ins1), (oa (a 43) cZ 40 fl1), (oa (a 22) cI (64 * cl) la), (oa (a 23) cI (64 * cl) lb), (oa (a 24) cI (64 * cl) lc), (oa (a 25) cI (64 * cl) ld)] t.heap) 0 0 := by
  refine zIn (own := "ScaleShopModel") (loc := [(0, .ref k0), (1, .int (nI f)), (2, .long (jI ((L : Nat) : Int))), (4, .int stp)]) rfl rfl rfl rfl (fun p e s m below meth c hx hb hr hts hown hlocks hml hnm9 A hA hS hP hD hK hXN Q9 hQ9 ls hl => ?_)
  refine lv_iconst (v := 0) hx hb dX11_plain_0 rfl ?_
  refine lv_istore (lv' := [(5, .int 0), (0, .ref k0), (1, .int (nI f)), (2, .long (jI ((L : Nat) : Int))), (4, .int stp)]) hx hb dX11_plain_1 hl (Nat.le_of_ble_eq_true rfl) rfl (fun ls hl => ?_)
  have hl_3 : ∀ (n9 : Nat) (k : Nat) (S1 : Nat → Int32) (fl1 : Nat → Int32) (H : Heap) (locs : List Loc) (ls : Array Slot), n - k < n9 → (k ≤ n) → (∀ j, j < k → fl1 j = pI (¬ cnd ft st tn kd mn cx cy f n L j)) → va_P (dC, dI) classes [(om k0 a (upd I0 26 (nI ln)) J0), (oa (a 5) cI 201 st), (oa (a 6) cZ 201 tn), (oa (a 1) cI 201 kd), (oa (a 11) cI 201 mn), (oa (a 12) cI 8040 cx), (oa (a 13) cI 8040 cy), (oa (a 32) cI 8 S1), (oa (a 40) cI 6 T0), (oa (a 29) cI 42 P0), (oa (a 30) cI 42 Q0), (oa (a 33) cI 42 ox), (oa (a 34) cI 42 oy), (oa (a 37) cZ 201 mt), (oa (a 38) cZ 201 wi), (oa (a 39) cZ 8040 ins), (oa (a 43) cZ 40 fl1), (oa (a 22) cI (64 * cl) la), (oa (a 23) cI (64 * cl) lb), (oa (a 24) cI (64 * cl) lc), (oa (a 25) cI (64 * cl) ld)] H → va_D A [(om k0 a (upd I0 26 (nI ln)) J0), (oa (a 5) cI 201 st), (oa (a 6) cZ 201 tn), (oa (a 1) cI 201 kd), (oa (a 11) cI 201 mn), (oa (a 12) cI 8040 cx), (oa (a 13) cI 8040 cy), (oa (a 32) cI 8 S1), (oa (a 40) cI 6 T0), (oa (a 29) cI 42 P0), (oa (a 30) cI 42 Q0), (oa (a 33) cI 42 ox), (oa (a 34) cI 42 oy), (oa (a 37) cZ 201 mt), (oa (a 38) cZ 201 wi), (oa (a 39) cZ 8040 ins), (oa (a 43) cZ 40 fl1), (oa (a 22) cI (64 * cl) la), (oa (a 23) cI (64 * cl) lb), (oa (a 24) cI (64 * cl) lc), (oa (a 25) cI (64 * cl) ld)] → va_S A s.heap H locs → lv_has ls 8 [(5, .int (nI k)), (0, .ref k0), (1, .int (nI f)), (2, .long (jI ((L : Nat) : Int))), (4, .int stp)] → W p l e ({ frames := 7, cells := 0, slots := 0, locals := 182 } : Room) s m ([.ref k0, .int (nI f), .long (jI ((L : Nat) : Int)), .int stp] : List Value).toArray below meth c H locs 0 0 Q9 (F0 m 3 ls []) := by
    intro n9
    induction n9 with
    | zero => intro k S1 fl1 H locs ls hm; exact absurd hm (Nat.not_lt_zero _)
    | succ n9 ih_3 =>
      intro k S1 fl1 H locs ls hm hk hfl hP hD hS hl
      refine lv_iload hx hb dX11_plain_3 (lv_at hl 0 rfl) ?_
      refine lv_aload_n hx hb dX11_plain_5 rfl (lv_at hl 1 rfl) ?_
      refine va_get (D := (dC, dI)) (ci := 9) (v := .ref (a 11)) (C := RX11) (T := TX11) (N := 55) hx hb hts inX11 hown hK hP 0 rfl rfl 11 (Nat.le_of_ble_eq_true rfl) (hts _ mw_1170) (fun _ h9 => h9) rfl dX11_plain_6 ?_
      refine lv_iload_n hx hb dX11_plain_9 rfl (lv_at hl 2 rfl) ?_
      have b9_1 : f < 201 := by omega
      refine z_iald hx hb hK hP 4 0 rfl rfl (e := f) rfl b9_1 (Nat.le_of_ble_eq_true rfl) dX11_plain_10 ?_
      refine zz_i (v := nI n) (hm_f) ?_
      have b9_3 : zlt (k) := show k < 2147483648 by omega
      have b9_4 : zlt (n) := show n < 2147483648 by omega
      refine lv_icmp_ge (tgt := 54) hx hb dX11_plain_11 rfl (fun c_2 => ?_) (fun c_2 => ?_)
      · have c_2 : ((n : Nat) : Int) ≤ ((k : Nat) : Int) := zc_le (nI_toInt b9_4) (nI_toInt b9_3) c_2
        have hl_54 : ∀ (n9 : Nat) (FS : Nat → Prop) (z9 : Int32) (on1 : Int32) (ok1 : Int32) (S1 : Nat → Int32) (T1 : Nat → Int32) (P1 : Nat → Int32) (Q1 : Nat → Int32) (ox1 : Nat → Int32) (oy1 : Nat → Int32) (mt1 : Nat → Int32) (wi1 : Nat → Int32) (ins1 : Nat → Int32) (fl1 : Nat → Int32) (H : Heap) (locs : List Loc) (ls : Array Slot), cntP (fun j => ¬ FS j) n < n9 → (∀ j, j < n → fl1 j = pI (FS j)) → (∀ j, j < n → ¬ FS j → cnd ft st tn kd mn cx cy f n L j) → (∀ j, j < n → FS j → cnd ft st tn kd mn cx cy f n L j → ¬ lwP ft st tn kd mn cx cy f n j) → va_P (dC, dI) classes [(om k0 a (upd (upd (upd (upd I0 26 (nI ln)) 31 z9) 35 on1) 36 ok1) J0), (oa (a 5) cI 201 st), (oa (a 6) cZ 201 tn), (oa (a 1) cI 201 kd), (oa (a 11) cI 201 mn), (oa (a 12) cI 8040 cx), (oa (a 13) cI 8040 cy), (oa (a 32) cI 8 S1), (oa (a 40) cI 6 T1), (oa (a 29) cI 42 P1), (oa (a 30) cI 42 Q1), (oa (a 33) cI 42 ox1), (oa (a 34) cI 42 oy1), (oa (a 37) cZ 201 mt1), (oa (a 38) cZ 201 wi1), (oa (a 39) cZ 8040 ins1), (oa (a 43) cZ 40 fl1), (oa (a 22) cI (64 * cl) la), (oa (a 23) cI (64 * cl) lb), (oa (a 24) cI (64 * cl) lc), (oa (a 25) cI (64 * cl) ld)] H → va_D A [(om k0 a (upd (upd (upd (upd I0 26 (nI ln)) 31 z9) 35 on1) 36 ok1) J0), (oa (a 5) cI 201 st), (oa (a 6) cZ 201 tn), (oa (a 1) cI 201 kd), (oa (a 11) cI 201 mn), (oa (a 12) cI 8040 cx), (oa (a 13) cI 8040 cy), (oa (a 32) cI 8 S1), (oa (a 40) cI 6 T1), (oa (a 29) cI 42 P1), (oa (a 30) cI 42 Q1), (oa (a 33) cI 42 ox1), (oa (a 34) cI 42 oy1), (oa (a 37) cZ 201 mt1), (oa (a 38) cZ 201 wi1), (oa (a 39) cZ 8040 ins1), (oa (a 43) cZ 40 fl1), (oa (a 22) cI (64 * cl) la), (oa (a 23) cI (64 * cl) lb), (oa (a 24) cI (64 * cl) lc), (oa (a 25) cI (64 * cl) ld)] → va_S A s.heap H locs → lv_has ls 8 [(0, .ref k0), (1, .int (nI f)), (2, .long (jI ((L : Nat) : Int))), (4, .int stp)] → W p l e ({ frames := 7, cells := 0, slots := 0, locals := 182 } : Room) s m ([.ref k0, .int (nI f), .long (jI ((L : Nat) : Int)), .int stp] : List Value).toArray below meth c H locs 0 0 Q9 (F0 m 54 ls []) := by
          intro n9
          induction n9 with
          | zero => intro FS z9 on1 ok1 S1 T1 P1 Q1 ox1 oy1 mt1 wi1 ins1 fl1 H locs ls hm; exact absurd hm (Nat.not_lt_zero _)
          | succ n9 ih_54 =>
            intro FS z9 on1 ok1 S1 T1 P1 Q1 ox1 oy1 mt1 wi1 ins1 fl1 H locs ls hm hfs hfc hfd hP hD hS hl
            have hm54 := hm
            refine lv_iconst (v := (-1)) hx hb dX11_plain_54 rfl ?_
            refine lv_istore (lv' := [(5, .int (-1)), (0, .ref k0), (1, .int (nI f)), (2, .long (jI ((L : Nat) : Int))), (4, .int stp)]) hx hb dX11_plain_55 hl (Nat.le_of_ble_eq_true rfl) rfl (fun ls hl => ?_)
            refine lv_iconst (v := 0) hx hb dX11_plain_57 rfl ?_
            refine lv_istore (lv' := [(6, .int 0), (5, .int (-1)), (0, .ref k0), (1, .int (nI f)), (2, .long (jI ((L : Nat) : Int))), (4, .int stp)]) hx hb dX11_plain_58 hl (Nat.le_of_ble_eq_true rfl) rfl (fun ls hl => ?_)
            have hl_60 : ∀ (n9 : Nat) (k : Nat) (zb : Int32) (H : Heap) (locs : List Loc) (ls : Array Slot), n - k < n9 → (k ≤ n) → (bstS (trF cx cy f n) FS k zb) → va_P (dC, dI) classes [(om k0 a (upd (upd (upd (upd I0 26 (nI ln)) 31 z9) 35 on1) 36 ok1) J0), (oa (a 5) cI 201 st), (oa (a 6) cZ 201 tn), (oa (a 1) cI 201 kd), (oa (a 11) cI 201 mn), (oa (a 12) cI 8040 cx), (oa (a 13) cI 8040 cy), (oa (a 32) cI 8 S1), (oa (a 40) cI 6 T1), (oa (a 29) cI 42 P1), (oa (a 30) cI 42 Q1), (oa (a 33) cI 42 ox1), (oa (a 34) cI 42 oy1), (oa (a 37) cZ 201 mt1), (oa (a 38) cZ 201 wi1), (oa (a 39) cZ 8040 ins1), (oa (a 43) cZ 40 fl1), (oa (a 22) cI (64 * cl) la), (oa (a 23) cI (64 * cl) lb), (oa (a 24) cI (64 * cl) lc), (oa (a 25) cI (64 * cl) ld)] H → va_D A [(om k0 a (upd (upd (upd (upd I0 26 (nI ln)) 31 z9) 35 on1) 36 ok1) J0), (oa (a 5) cI 201 st), (oa (a 6) cZ 201 tn), (oa (a 1) cI 201 kd), (oa (a 11) cI 201 mn), (oa (a 12) cI 8040 cx), (oa (a 13) cI 8040 cy), (oa (a 32) cI 8 S1), (oa (a 40) cI 6 T1), (oa (a 29) cI 42 P1), (oa (a 30) cI 42 Q1), (oa (a 33) cI 42 ox1), (oa (a 34) cI 42 oy1), (oa (a 37) cZ 201 mt1), (oa (a 38) cZ 201 wi1), (oa (a 39) cZ 8040 ins1), (oa (a 43) cZ 40 fl1), (oa (a 22) cI (64 * cl) la), (oa (a 23) cI (64 * cl) lb), (oa (a 24) cI (64 * cl) lc), (oa (a 25) cI (64 * cl) ld)] → va_S A s.heap H locs → lv_has ls 8 [(6, .int (nI k)), (5, .int zb), (0, .ref k0), (1, .int (nI f)), (2, .long (jI ((L : Nat) : Int))), (4, .int stp)] → W p l e ({ frames := 7, cells := 0, slots := 0, locals := 182 } : Room) s m ([.ref k0, .int (nI f), .long (jI ((L : Nat) : Int)), .int stp] : List Value).toArray below meth c H locs 0 0 Q9 (F0 m 60 ls []) := by
              intro n9
              induction n9 with
              | zero => intro k zb H locs ls hm; exact absurd hm (Nat.not_lt_zero _)
              | succ n9 ih_60 =>
                intro k zb H locs ls hm hk hat hP hD hS hl
                refine lv_iload hx hb dX11_plain_60 (lv_at hl 0 rfl) ?_
                refine lv_aload_n hx hb dX11_plain_62 rfl (lv_at hl 2 rfl) ?_
                refine va_get (D := (dC, dI)) (ci := 9) (v := .ref (a 11)) (C := RX11) (T := TX11) (N := 55) hx hb hts inX11 hown hK hP 0 rfl rfl 11 (Nat.le_of_ble_eq_true rfl) (hts _ mw_1170) (fun _ h9 => h9) rfl dX11_plain_63 ?_
                refine lv_iload_n hx hb dX11_plain_66 rfl (lv_at hl 3 rfl) ?_
                refine z_iald hx hb hK hP 4 0 rfl rfl (e := f) rfl b9_1 (Nat.le_of_ble_eq_true rfl) dX11_plain_67 ?_
                refine zz_i (v := nI n) (hm_f) ?_
                have b9_6 : zlt (k) := show k < 2147483648 by omega
                refine lv_icmp_ge (tgt := 115) hx hb dX11_plain_68 rfl (fun c_5 => ?_) (fun c_5 => ?_)
                · have c_5 : ((n : Nat) : Int) ≤ ((k : Nat) : Int) := zc_le (nI_toInt b9_4) (nI_toInt b9_6) c_5
                  refine lv_iload hx hb dX11_plain_115 (lv_at hl 1 rfl) ?_
                  refine lv_iconst (v := (-1)) hx hb dX11_plain_117 rfl ?_
                  refine lv_icmp_ne (tgt := 123) hx hb dX11_plain_118 rfl (fun c_7 => ?_) (fun c_7 => ?_)
                  · have c_7 : ¬ zb.toInt = (-1) := zc_ne rfl rfl c_7
                    have hkn : k = n := (by omega)
                    rw [hkn] at hat
                    obtain ⟨b9, hz9, hbk, hbF, hbm⟩ := bst_get hat (by omega)
                    have hcb := hfc b9 hbk hbF
                    refine lv_aload_n hx hb dX11_plain_123 rfl (lv_at hl 2 rfl) ?_
                    refine va_get (D := (dC, dI)) (ci := 9) (v := .ref (a 12)) (C := RX11) (T := TX11) (N := 55) hx hb hts inX11 hown hK hP 0 rfl rfl 12 (Nat.le_of_ble_eq_true rfl) (hts _ mw_1171) (fun _ h9 => h9) rfl dX11_plain_124 ?_
                    refine lv_bipush (v := 40) hx hb dX11_plain_127 rfl ?_
                    refine lv_iload_n hx hb dX11_plain_129 rfl (lv_at hl 3 rfl) ?_
                    refine lv_imul hx hb dX11_plain_130 ?_
                    refine zz_i (v := nI (40 * f)) (pk_mul 40 f) ?_
                    refine lv_iload hx hb dX11_plain_131 (lv_at hl 1 rfl) ?_
                    refine zz_i (v := nI b9) (hz9) ?_
                    refine lv_iadd hx hb dX11_plain_133 ?_
                    refine zz_i (v := nI (40 * f + b9)) (nI_add (40 * f) b9) ?_
                    have b9_8 : 40 * f + b9 < 8040 := by omega
                    refine z_iald hx hb hK hP 5 0 rfl rfl (e := 40 * f + b9) rfl b9_8 (Nat.le_of_ble_eq_true rfl) dX11_plain_134 ?_
                    refine lv_istore (lv' := [(6, .int (cx (40 * f + b9))), (5, .int zb), (0, .ref k0), (1, .int (nI f)), (2, .long (jI ((L : Nat) : Int))), (4, .int stp)]) hx hb dX11_plain_135 hl (Nat.le_of_ble_eq_true rfl) rfl (fun ls hl => ?_)
                    refine lv_aload_n hx hb dX11_plain_137 rfl (lv_at hl 2 rfl) ?_
                    refine va_get (D := (dC, dI)) (ci := 9) (v := .ref (a 13)) (C := RX11) (T := TX11) (N := 55) hx hb hts inX11 hown hK hP 0 rfl rfl 13 (Nat.le_of_ble_eq_true rfl) (hts _ mw_1172) (fun _ h9 => h9) rfl dX11_plain_138 ?_
                    refine lv_bipush (v := 40) hx hb dX11_plain_141 rfl ?_
                    refine lv_iload_n hx hb dX11_plain_143 rfl (lv_at hl 3 rfl) ?_
                    refine lv_imul hx hb dX11_plain_144 ?_
                    refine zz_i (v := nI (40 * f)) (pk_mul 40 f) ?_
                    refine lv_iload hx hb dX11_plain_145 (lv_at hl 1 rfl) ?_
                    refine zz_i (v := nI b9) (hz9) ?_
                    refine lv_iadd hx hb dX11_plain_147 ?_
                    refine zz_i (v := nI (40 * f + b9)) (nI_add (40 * f) b9) ?_
                    refine z_iald hx hb hK hP 6 0 rfl rfl (e := 40 * f + b9) rfl b9_8 (Nat.le_of_ble_eq_true rfl) dX11_plain_148 ?_
                    refine lv_istore (lv' := [(7, .int (cy (40 * f + b9))), (6, .int (cx (40 * f + b9))), (5, .int zb), (0, .ref k0), (1, .int (nI f)), (2, .long (jI ((L : Nat) : Int))), (4, .int stp)]) hx hb dX11_plain_149 hl (Nat.le_of_ble_eq_true rfl) rfl (fun ls hl => ?_)
                    refine lv_aload_n hx hb dX11_plain_151 rfl (lv_at hl 3 rfl) ?_
                    refine lv_iload_n hx hb dX11_plain_152 rfl (lv_at hl 4 rfl) ?_
                    refine lv_iload hx hb dX11_plain_153 (lv_at hl 2 rfl) ?_
                    refine zz_i (v := nI b9) (hz9) ?_
                    obtain ⟨hPc, hDc, hFc⟩ := zo_sub (wc := [_, _, _, _, _, _, _, _, _, _, _, _, _, _, _, _]) hP hD hS hA [0, 1, 2, 3, 4, 5, 6, 7, 8, 9, 10, 11, 12, 13, 14, 15] (by decide +kernel) rfl
                    refine zcall (st1 := [.int (pI (lwP ft st tn kd mn cx cy f n b9))]) (va_runV (As := [.int (nI f), .int (nI b9)]) (rest := []) ⟨hx, hb, hml, hown, hts⟩ (k_M_goes l dC dI cI cZ cF H.size k0 a (upd (upd (upd (upd I0 26 (nI ln)) 31 z9) 35 on1) 36 ok1) J0 f n b9 ft st tn kd mn cx cy S1 T1 P1 Q1 ox1 oy1 mt1 wi1 ins1 (by first | with_reducible assumption | assumption) (by first | with_reducible assumption | omega) (by first | with_reducible assumption | omega) (by first | with_reducible assumption | assumption) (by first | with_reducible assumption | omega) (by first | with_reducible assumption | assumption) (hbk) (mGo_2 hcb.1 hbk hr3) (hwf)) (csV_200 hts rfl rfl ⟨Nat.le_of_ble_eq_true rfl, Nat.le_of_ble_eq_true rfl⟩) (zPV2 (q0 := 0) (ci := 9) hPc hDc hK hXN rfl rfl) rfl rfl hl.1 rfl (lv_room (Nat.le_of_ble_eq_true rfl)) dX11_plain_155 ⟨Nat.le_of_ble_eq_true rfl, Nat.le_of_ble_eq_true rfl⟩) hS hFc hFc rfl (fun t H locs ht hB hk1 hS => ?_)
                    refine ex13 hB (fun z2 mn2 cx2 cy2 S3 T3 P3 Q3 ox3 oy3 mt3 wi3 ins3 hB0 => ?_)
                    clear hB
                    obtain ⟨hyes, hnot, hP1, hD1⟩ := hB0
                    rw [ht] at hP1
                    obtain ⟨hP, hD⟩ := zn (W2 := [(om k0 a (upd (upd (upd (upd I0 26 (nI ln)) 31 z2) 35 (nI n)) 36 (kd f)) J0), _, _, _, (oa (a 11) cI 201 mn2), (oa (a 12) cI 8040 cx2), (oa (a 13) cI 8040 cy2), (oa (a 32) cI 8 S3), (oa (a 40) cI 6 T3), (oa (a 29) cI 42 P3), (oa (a 30) cI 42 Q3), (oa (a 33) cI 42 ox3), (oa (a 34) cI 42 oy3), (oa (a 37) cZ 201 mt3), (oa (a 38) cZ 201 wi3), (oa (a 39) cZ 8040 ins3), _, _, _, _, _]) hP hD hk1 hFc hP1 hD1 zl_80 zl_175 zl_175 zl_80 (by decide +kernel) rfl rfl rfl rfl rfl
                    clear hk1 hPc hDc hFc hP1 hD1 ht
                    refine lv_if_eq (tgt := 174) hx hb dX11_plain_158 rfl (fun c_9 => ?_) (fun c_9 => ?_)
                    · have c_9 : ¬ (lwP ft st tn kd mn cx cy f n b9) := zp_0 c_9
                      have hno9 := hnot (by first | with_reducible assumption | assumption)
                      rw [hno9.1, hno9.2.1, hno9.2.2] at hP hD
                      refine lv_aload_n hx hb dX11_plain_174 rfl (lv_at hl 3 rfl) ?_
                      refine va_get (D := (dC, dI)) (ci := 9) (v := .ref (a 43)) (C := RX11) (T := TX11) (N := 55) hx hb hts inX11 hown hK hP 0 rfl rfl 43 (Nat.le_of_ble_eq_true rfl) (hts _ mw_1202) (fun _ h9 => h9) rfl dX11_plain_175 ?_
                      refine lv_iload hx hb dX11_plain_178 (lv_at hl 2 rfl) ?_
                      refine zz_i (v := nI b9) (hz9) ?_
                      refine lv_iconst (v := 1) hx hb dX11_plain_180 rfl ?_
                      have b9_10 : b9 < 40 := by omega
                      refine z_zast hx hb hK hP hD hS 16 1 rfl rfl (e := b9) (x := 1) rfl b9_10 (Nat.le_of_ble_eq_true rfl) (by decide) dX11_plain_181 (fun H locs hP hD hS => ?_)
                      obtain ⟨hP, hD⟩ := zre (W2 := [_, _, _, _, _, _, _, _, _, _, _, _, _, _, _, _, (oa (a 43) cZ 40 (upd fl1 b9 1)), _, _, _, _]) hP hD rfl
                      refine lv_goto (tgt := 54) hx hb dX11_plain_182 rfl ?_
                      exact ih_54 (fun j => FS j ∨ j = b9) z2 (nI n) (kd f) S3 T3 P3 Q3 ox3 oy3 mt3 wi3 ins3 (upd fl1 b9 1) H locs ls (Nat.lt_of_lt_of_le (cntP_lt (P := fun j => ¬ FS j) (Q := fun j => ¬ (FS j ∨ j = b9)) (i := b9) (fun j h h2 => h (Or.inl h2)) hbk hbF (fun h => h (Or.inr rfl))) (Nat.le_of_lt_succ hm54)) (by intro j hj; unfold upd; by_cases h : j = b9; rw [if_pos h]; exact (zp_t (Or.inr h)).symm; rw [if_neg h, hfs j hj]; exact zp_iff ⟨Or.inl, fun h2 => h2.resolve_right h⟩) (fun j hj h => hfc j hj (fun h2 => h (Or.inl h2))) (fun j hj h h2 => h.elim (fun h3 => hfd j hj h3 h2) (fun h3 => by rw [h3]; assumption)) hP hD hS (lv_sub hl [3, 4, 5, 6] rfl)
                    · have c_9 : lwP ft st tn kd mn cx cy f n b9 := zp_1 c_9
                      have hbest : pBest ft st tn kd mn cx cy f n L b9 := ⟨hbk, hcb, by assumption, fun j hj hc hl => hbm j hj (fun h => hfd j hj h hc hl)⟩
                      exact absurd ⟨b9, hbest⟩ hnb
                  · have c_7 : zb.toInt = (-1) := zc_eq rfl rfl c_7
                    refine lv_iconst (v := 0) hx hb dX11_plain_121 rfl ?_
                    obtain ⟨hP9, hD9⟩ := zu_sub (wc := [_, _, _, _, _, _, _, _, _, _, _, _, _, _, _, _, _, _, _, _, _]) hP hD [true, true, true, true, true, true, true, true, true, true, true, true, true, true, true, true, true, true, true, true, true] rfl rfl
                    rw [hQ9]
                    exact W.zret (ty := .boolean) (v := 0) hx hb hr (rfl) (fun t ht hW => ⟨⟨rfl, z9, on1, ok1, S1, T1, P1, Q1, ox1, oy1, mt1, wi1, ins1, fl1, by rw [ht]; exact hP9, hD9⟩, hS.F ht⟩) hS.2.2 dX11_plain_122
                · have c_5 : ((k : Nat) : Int) < ((n : Nat) : Int) := zc_nle (nI_toInt b9_4) (nI_toInt b9_6) c_5
                  have hk9 : k < n := (by omega)
                  have hfk := hfs k hk9
                  have htB := trB hp_f hk9
                  refine lv_aload_n hx hb dX11_plain_71 rfl (lv_at hl 2 rfl) ?_
                  refine va_get (D := (dC, dI)) (ci := 9) (v := .ref (a 43)) (C := RX11) (T := TX11) (N := 55) hx hb hts inX11 hown hK hP 0 rfl rfl 43 (Nat.le_of_ble_eq_true rfl) (hts _ mw_1202) (fun _ h9 => h9) rfl dX11_plain_72 ?_
                  refine lv_iload hx hb dX11_plain_75 (lv_at hl 0 rfl) ?_
                  have b9_11 : k < 40 := by omega
                  refine z_zald hx hb hK hP 16 1 rfl rfl (e := k) rfl b9_11 (Nat.le_of_ble_eq_true rfl) dX11_plain_77 ?_
                  refine zz_i (v := pI (FS k)) (hfk) ?_
                  refine lv_if_ne (tgt := 109) hx hb dX11_plain_78 rfl (fun c_12 => ?_) (fun c_12 => ?_)
                  · have c_12 : FS k := zp_1 c_12
                    refine lv_iinc (v := nI (k + 1)) (lv' := [(6, .int (nI (k + 1))), (5, .int zb), (0, .ref k0), (1, .int (nI f)), (2, .long (jI ((L : Nat) : Int))), (4, .int stp)]) hx hb dX11_plain_109 hl (k := 0) rfl (nI_add k 1) (Nat.le_of_ble_eq_true rfl) rfl (fun ls hl => ?_)
                    refine lv_goto (tgt := 60) hx hb dX11_plain_112 rfl ?_
                    exact ih_60 (k + 1) zb H locs ls (by first | with_reducible assumption | omega) (by first | with_reducible assumption | omega) (by first | exact bst_f hat (by first | with_reducible assumption | assumption) | exact bst_n hat (by first | with_reducible assumption | omega) (by first | with_reducible assumption | omega) (by first | with_reducible assumption | assumption) | exact bst_l hz9 hbk hbF hbm (by first | with_reducible assumption | assumption) (by first | with_reducible assumption | omega) | exact bst_g hz9 hbk hbF hbm (by first | with_reducible assumption | omega)) hP hD hS (lv_sub hl [0, 1, 2, 3, 4, 5] rfl)
                  · have c_12 : ¬ (FS k) := zp_0 c_12
                    refine lv_iload hx hb dX11_plain_81 (lv_at hl 1 rfl) ?_
                    refine lv_iconst (v := (-1)) hx hb dX11_plain_83 rfl ?_
                    refine lv_icmp_eq (tgt := 105) hx hb dX11_plain_84 rfl (fun c_13 => ?_) (fun c_13 => ?_)
                    · have c_13 : zb.toInt = (-1) := zc_eq rfl rfl c_13
                      refine lv_iload hx hb dX11_plain_105 (lv_at hl 0 rfl) ?_
                      refine lv_istore (lv' := [(5, .int (nI k)), (6, .int (nI k)), (0, .ref k0), (1, .int (nI f)), (2, .long (jI ((L : Nat) : Int))), (4, .int stp)]) hx hb dX11_plain_107 hl (Nat.le_of_ble_eq_true rfl) rfl (fun ls hl => ?_)
                      refine lv_iinc (v := nI (k + 1)) (lv' := [(6, .int (nI (k + 1))), (5, .int (nI k)), (0, .ref k0), (1, .int (nI f)), (2, .long (jI ((L : Nat) : Int))), (4, .int stp)]) hx hb dX11_plain_109 hl (k := 1) rfl (nI_add k 1) (Nat.le_of_ble_eq_true rfl) rfl (fun ls hl => ?_)
                      refine lv_goto (tgt := 60) hx hb dX11_plain_112 rfl ?_
                      exact ih_60 (k + 1) (nI k) H locs ls (by first | with_reducible assumption | omega) (by first | with_reducible assumption | omega) (by first | exact bst_f hat (by first | with_reducible assumption | assumption) | exact bst_n hat (by first | with_reducible assumption | omega) (by first | with_reducible assumption | omega) (by first | with_reducible assumption | assumption) | exact bst_l hz9 hbk hbF hbm (by first | with_reducible assumption | assumption) (by first | with_reducible assumption | omega) | exact bst_g hz9 hbk hbF hbm (by first | with_reducible assumption | omega)) hP hD hS (lv_sub hl [0, 1, 2, 3, 4, 5] rfl)
                    · have c_13 : ¬ zb.toInt = (-1) := zc_ne rfl rfl c_13
                      obtain ⟨b9, hz9, hbk, hbF, hbm⟩ := bst_get hat (by omega)
                      have htb := trB (k := b9) hp_f (by omega)
                      refine lv_aload_n hx hb dX11_plain_87 rfl (lv_at hl 2 rfl) ?_
                      refine lv_iload_n hx hb dX11_plain_88 rfl (lv_at hl 3 rfl) ?_
                      refine lv_iload hx hb dX11_plain_89 (lv_at hl 0 rfl) ?_
                      obtain ⟨hPc, hDc, hFc, hI1⟩ := zi_sub (wc := [_, _, _, _]) hP hD hS hA [0, 4, 5, 6] (by decide +kernel) rfl
                      refine zcall (st1 := [.long (jI ((Int.natAbs (cr (cF40 cx f (prv n k)).toInt (cF40 cy f (prv n k)).toInt (cF40 cx f k).toInt (cF40 cy f k).toInt (cF40 cx f (nxt n k)).toInt (cF40 cy f (nxt n k)).toInt) : Nat) : Int))]) (va_runV (As := [.int (nI f), .int (nI k)]) (rest := []) ⟨hx, hb, hml, hown, hts⟩ (k_M_triangle l dC dI cI cZ cF H.size k0 a (upd (upd (upd (upd I0 26 (nI ln)) 31 z9) 35 on1) 36 ok1) J0 f n k mn cx cy (by first | with_reducible assumption | omega) (by first | with_reducible assumption | assumption) (by first | with_reducible assumption | omega) (by first | with_reducible assumption | assumption) (by first | with_reducible assumption | omega)) (csV_202 hts rfl rfl ⟨Nat.le_of_ble_eq_true rfl, Nat.le_of_ble_eq_true rfl⟩) (zPV2 (q0 := 0) (ci := 9) hPc hDc hK hXN rfl rfl) rfl rfl hl.1 rfl (lv_room (Nat.le_of_ble_eq_true rfl)) dX11_plain_91 ⟨Nat.le_of_ble_eq_true rfl, Nat.le_of_ble_eq_true rfl⟩) hS hFc hFc rfl (fun t H locs ht hB hk1 hS => ?_)
                      obtain ⟨hP1, hD1⟩ := hB
                      rw [ht] at hP1
                      replace hP := z0 hP hD hk1 hP1 hI1
                      clear hk1 hPc hDc hFc hP1 hD1 ht hI1
                      refine zz_l (v := jI ((trF cx cy f n k : Nat) : Int)) (rfl) ?_
                      refine lv_aload_n hx hb dX11_plain_94 rfl (lv_at hl 2 rfl) ?_
                      refine lv_iload_n hx hb dX11_plain_95 rfl (lv_at hl 3 rfl) ?_
                      refine lv_iload hx hb dX11_plain_96 (lv_at hl 1 rfl) ?_
                      refine zz_i (v := nI b9) (hz9) ?_
                      obtain ⟨hPc, hDc, hFc, hI1⟩ := zi_sub (wc := [_, _, _, _]) hP hD hS hA [0, 4, 5, 6] (by decide +kernel) rfl
                      refine zcall (st1 := [.long (jI ((Int.natAbs (cr (cF40 cx f (prv n b9)).toInt (cF40 cy f (prv n b9)).toInt (cF40 cx f b9).toInt (cF40 cy f b9).toInt (cF40 cx f (nxt n b9)).toInt (cF40 cy f (nxt n b9)).toInt) : Nat) : Int)), .long (jI ((trF cx cy f n k : Nat) : Int))]) (va_runV (As := [.int (nI f), .int (nI b9)]) (rest := [.long (jI ((trF cx cy f n k : Nat) : Int))]) ⟨hx, hb, hml, hown, hts⟩ (k_M_triangle l dC dI cI cZ cF H.size k0 a (upd (upd (upd (upd I0 26 (nI ln)) 31 z9) 35 on1) 36 ok1) J0 f n b9 mn cx cy (by first | with_reducible assumption | omega) (by first | with_reducible assumption | assumption) (by first | with_reducible assumption | omega) (by first | with_reducible assumption | assumption) (by first | with_reducible assumption | omega)) (csV_202 hts rfl rfl ⟨Nat.le_of_ble_eq_true rfl, Nat.le_of_ble_eq_true rfl⟩) (zPV2 (q0 := 0) (ci := 9) hPc hDc hK hXN rfl rfl) rfl rfl hl.1 rfl (lv_room (Nat.le_of_ble_eq_true rfl)) dX11_plain_98 ⟨Nat.le_of_ble_eq_true rfl, Nat.le_of_ble_eq_true rfl⟩) hS hFc hFc rfl (fun t H locs ht hB hk1 hS => ?_)
                      obtain ⟨hP1, hD1⟩ := hB
                      rw [ht] at hP1
                      replace hP := z0 hP hD hk1 hP1 hI1
                      clear hk1 hPc hDc hFc hP1 hD1 ht hI1
                      refine zz_l (v := jI ((trF cx cy f n b9 : Nat) : Int)) (rfl) ?_
                      refine W.lcmp hx hb dX11_plain_101 ?_
                      refine lv_if_ge (tgt := 109) hx hb dX11_plain_102 rfl (fun c_14 => ?_) (fun c_14 => ?_)
                      · have c_14 : ((trF cx cy f n b9 : Nat) : Int) ≤ ((trF cx cy f n k : Nat) : Int) := zl_ge (jI_toInt (by omega)) (jI_toInt (by omega)) c_14
                        refine lv_iinc (v := nI (k + 1)) (lv' := [(6, .int (nI (k + 1))), (5, .int zb), (0, .ref k0), (1, .int (nI f)), (2, .long (jI ((L : Nat) : Int))), (4, .int stp)]) hx hb dX11_plain_109 hl (k := 0) rfl (nI_add k 1) (Nat.le_of_ble_eq_true rfl) rfl (fun ls hl => ?_)
                        refine lv_goto (tgt := 60) hx hb dX11_plain_112 rfl ?_
                        exact ih_60 (k + 1) zb H locs ls (by first | with_reducible assumption | omega) (by first | with_reducible assumption | omega) (by first | exact bst_f hat (by first | with_reducible assumption | assumption) | exact bst_n hat (by first | with_reducible assumption | omega) (by first | with_reducible assumption | omega) (by first | with_reducible assumption | assumption) | exact bst_l hz9 hbk hbF hbm (by first | with_reducible assumption | assumption) (by first | with_reducible assumption | omega) | exact bst_g hz9 hbk hbF hbm (by first | with_reducible assumption | omega)) hP hD hS (lv_sub hl [0, 1, 2, 3, 4, 5] rfl)
                      · have c_14 : ((trF cx cy f n k : Nat) : Int) < ((trF cx cy f n b9 : Nat) : Int) := zl_nge (jI_toInt (by omega)) (jI_toInt (by omega)) c_14
                        refine lv_iload hx hb dX11_plain_105 (lv_at hl 0 rfl) ?_
                        refine lv_istore (lv' := [(5, .int (nI k)), (6, .int (nI k)), (0, .ref k0), (1, .int (nI f)), (2, .long (jI ((L : Nat) : Int))), (4, .int stp)]) hx hb dX11_plain_107 hl (Nat.le_of_ble_eq_true rfl) rfl (fun ls hl => ?_)
                        refine lv_iinc (v := nI (k + 1)) (lv' := [(6, .int (nI (k + 1))), (5, .int (nI k)), (0, .ref k0), (1, .int (nI f)), (2, .long (jI ((L : Nat) : Int))), (4, .int stp)]) hx hb dX11_plain_109 hl (k := 1) rfl (nI_add k 1) (Nat.le_of_ble_eq_true rfl) rfl (fun ls hl => ?_)
                        refine lv_goto (tgt := 60) hx hb dX11_plain_112 rfl ?_
                        exact ih_60 (k + 1) (nI k) H locs ls (by first | with_reducible assumption | omega) (by first | with_reducible assumption | omega) (by first | exact bst_f hat (by first | with_reducible assumption | assumption) | exact bst_n hat (by first | with_reducible assumption | omega) (by first | with_reducible assumption | omega) (by first | with_reducible assumption | assumption) | exact bst_l hz9 hbk hbF hbm (by first | with_reducible assumption | assumption) (by first | with_reducible assumption | omega) | exact bst_g hz9 hbk hbF hbm (by first | with_reducible assumption | omega)) hP hD hS (lv_sub hl [0, 1, 2, 3, 4, 5] rfl)
            exact hl_60 _ 0 (-1) H locs ls (Nat.lt_succ_self _) (by first | with_reducible assumption | omega) (bst_0 _ _) hP hD hS (lv_sub hl [0, 1, 2, 3, 4, 5] rfl)
        exact hl_54 _ (fun j => ¬ cnd ft st tn kd mn cx cy f n L j) (I0 31) (I0 35) (I0 36) S1 T0 P0 Q0 ox oy mt wi ins fl1 H locs ls (Nat.lt_succ_self _) (fun j hj => hfl j (by first | with_reducible assumption | omega)) (fun j hj h => Classical.not_not.mp h) (fun j hj h h2 => absurd h2 h) hP hD hS (lv_sub hl [1, 2, 3, 4] rfl)
      · have c_2 : ((k : Nat) : Int) < ((n : Nat) : Int) := zc_nle (nI_toInt b9_4) (nI_toInt b9_3) c_2
        have hk9 : k < n := (by omega)
        refine lv_aload_n hx hb dX11_plain_14 rfl (lv_at hl 1 rfl) ?_
        refine va_get (D := (dC, dI)) (ci := 9) (v := .ref (a 43)) (C := RX11) (T := TX11) (N := 55) hx hb hts inX11 hown hK hP 0 rfl rfl 43 (Nat.le_of_ble_eq_true rfl) (hts _ mw_1202) (fun _ h9 => h9) rfl dX11_plain_15 ?_
        refine lv_iload hx hb dX11_plain_18 (lv_at hl 0 rfl) ?_
        refine lv_aload_n hx hb dX11_plain_20 rfl (lv_at hl 1 rfl) ?_
        refine lv_iload_n hx hb dX11_plain_21 rfl (lv_at hl 2 rfl) ?_
        refine lv_iload hx hb dX11_plain_22 (lv_at hl 0 rfl) ?_
        obtain ⟨hPc, hDc, hFc⟩ := zo_sub (wc := [_, _, _, _, _, _, _, _]) hP hD hS hA [0, 1, 2, 3, 4, 5, 6, 7] (by decide +kernel) rfl
        refine zcall (st1 := [.int (pI (mGo ft st tn kd mn cx cy f n k)), .int (nI k), .ref (a 43)]) (va_runV (As := [.int (nI f), .int (nI k)]) (rest := [.int (nI k), .ref (a 43)]) ⟨hx, hb, hml, hown, hts⟩ (k_M_mayGo l dC dI cI cZ cF H.size k0 a (upd I0 26 (nI ln)) J0 f n k ft st tn kd mn cx cy S1 (by first | with_reducible assumption | assumption) (by first | with_reducible assumption | omega) (by first | with_reducible assumption | omega) (by first | with_reducible assumption | assumption) (by first | with_reducible assumption | omega) (by first | with_reducible assumption | assumption) (by first | with_reducible assumption | omega) (by first | with_reducible assumption | assumption)) (csV_203 hts rfl rfl ⟨Nat.le_of_ble_eq_true rfl, Nat.le_of_ble_eq_true rfl⟩) (zPV2 (q0 := 0) (ci := 9) hPc hDc hK hXN rfl rfl) rfl rfl hl.1 rfl (lv_room (Nat.le_of_ble_eq_true rfl)) dX11_plain_24 ⟨Nat.le_of_ble_eq_true rfl, Nat.le_of_ble_eq_true rfl⟩) hS hFc hFc rfl (fun t H locs ht hB hk1 hS => ?_)
        obtain ⟨S2, hP1, hD1⟩ := hB
        rw [ht] at hP1
        obtain ⟨hP, hD⟩ := zn (W2 := [_, _, _, _, _, _, _, (oa (a 32) cI 8 S2), _, _, _, _, _, _, _, _, _, _, _, _, _]) hP hD hk1 hFc hP1 hD1 zl_157 zl_177 zl_177 zl_157 (by decide +kernel) rfl rfl rfl rfl rfl
        clear hk1 hPc hDc hFc hP1 hD1 ht
        refine lv_if_eq (tgt := 42) hx hb dX11_plain_27 rfl (fun c_15 => ?_) (fun c_15 => ?_)
        · have c_15 : ¬ (mGo ft st tn kd mn cx cy f n k) := zp_0 c_15
          refine lv_iconst (v := 1) hx hb dX11_plain_42 rfl ?_
          refine lv_goto (tgt := 47) hx hb dX11_plain_43 rfl ?_
          refine zz_i (v := pI (¬ cnd ft st tn kd mn cx cy f n L k)) (by first | exact (zp_t (fun h => absurd h.1 (by first | with_reducible assumption | assumption))).symm | exact (zp_t (fun h => absurd h.2 (by omega))).symm | exact (zp_f (fun h => h ⟨by assumption, by omega⟩)).symm) ?_
          have b9_16 : k < 40 := by omega
          refine z_zast hx hb hK hP hD hS 16 1 rfl rfl (e := k) (x := pI (¬ cnd ft st tn kd mn cx cy f n L k)) rfl b9_16 (Nat.le_of_ble_eq_true rfl) (zp_and _) dX11_plain_47 (fun H locs hP hD hS => ?_)
          obtain ⟨hP, hD⟩ := zre (W2 := [_, _, _, _, _, _, _, _, _, _, _, _, _, _, _, _, (oa (a 43) cZ 40 (upd fl1 k (pI (¬ cnd ft st tn kd mn cx cy f n L k)))), _, _, _, _]) hP hD rfl
          refine lv_iinc (v := nI (k + 1)) (lv' := [(5, .int (nI (k + 1))), (0, .ref k0), (1, .int (nI f)), (2, .long (jI ((L : Nat) : Int))), (4, .int stp)]) hx hb dX11_plain_48 hl (k := 0) rfl (nI_add k 1) (Nat.le_of_ble_eq_true rfl) rfl (fun ls hl => ?_)
          refine lv_goto (tgt := 3) hx hb dX11_plain_51 rfl ?_
          exact ih_3 (k + 1) S2 (upd fl1 k (pI (¬ cnd ft st tn kd mn cx cy f n L k))) H locs ls (by first | with_reducible assumption | omega) (by first | with_reducible assumption | omega) (by intro j hj; rcases Nat.lt_or_ge j k with h | h; simp only [upd, if_neg (show j ≠ k by omega)]; exact hfl j h; rw [show j = k by omega]; simp only [upd, if_true]) hP hD hS (lv_sub hl [0, 1, 2, 3, 4] rfl)
        · have c_15 : mGo ft st tn kd mn cx cy f n k := zp_1 c_15
          refine lv_aload_n hx hb dX11_plain_30 rfl (lv_at hl 1 rfl) ?_
          refine lv_iload_n hx hb dX11_plain_31 rfl (lv_at hl 2 rfl) ?_
          refine lv_iload hx hb dX11_plain_32 (lv_at hl 0 rfl) ?_
          obtain ⟨hPc, hDc, hFc, hI1⟩ := zi_sub (wc := [_, _, _, _]) hP hD hS hA [0, 4, 5, 6] (by decide +kernel) rfl
          refine zcall (st1 := [.long (jI ((Int.natAbs (cr (cF40 cx f (prv n k)).toInt (cF40 cy f (prv n k)).toInt (cF40 cx f k).toInt (cF40 cy f k).toInt (cF40 cx f (nxt n k)).toInt (cF40 cy f (nxt n k)).toInt) : Nat) : Int)), .int (nI k), .ref (a 43)]) (va_runV (As := [.int (nI f), .int (nI k)]) (rest := [.int (nI k), .ref (a 43)]) ⟨hx, hb, hml, hown, hts⟩ (k_M_triangle l dC dI cI cZ cF H.size k0 a (upd I0 26 (nI ln)) J0 f n k mn cx cy (by first | with_reducible assumption | omega) (by first | with_reducible assumption | assumption) (by first | with_reducible assumption | omega) (by first | with_reducible assumption | assumption) (by first | with_reducible assumption | omega)) (csV_202 hts rfl rfl ⟨Nat.le_of_ble_eq_true rfl, Nat.le_of_ble_eq_true rfl⟩) (zPV2 (q0 := 0) (ci := 9) hPc hDc hK hXN rfl rfl) rfl rfl hl.1 rfl (lv_room (Nat.le_of_ble_eq_true rfl)) dX11_plain_34 ⟨Nat.le_of_ble_eq_true rfl, Nat.le_of_ble_eq_true rfl⟩) hS hFc hFc rfl (fun t H locs ht hB hk1 hS => ?_)
          obtain ⟨hP1, hD1⟩ := hB
          rw [ht] at hP1
          replace hP := z0 hP hD hk1 hP1 hI1
          clear hk1 hPc hDc hFc hP1 hD1 ht hI1
          refine zz_l (v := jI ((trF cx cy f n k : Nat) : Int)) (rfl) ?_
          have htB := trB hp_f hk9
          refine lv_lload_n hx hb dX11_plain_37 rfl (lv_at hl 3 rfl) ?_
          refine W.lcmp hx hb dX11_plain_38 ?_
          refine lv_if_le (tgt := 46) hx hb dX11_plain_39 rfl (fun c_17 => ?_) (fun c_17 => ?_)
          · have c_17 : ((trF cx cy f n k : Nat) : Int) ≤ ((L : Nat) : Int) := zl_le (jI_toInt (by omega)) (jI_toInt (by omega)) c_17
            refine lv_iconst (v := 0) hx hb dX11_plain_46 rfl ?_
            refine zz_i (v := pI (¬ cnd ft st tn kd mn cx cy f n L k)) (by first | exact (zp_t (fun h => absurd h.1 (by first | with_reducible assumption | assumption))).symm | exact (zp_t (fun h => absurd h.2 (by omega))).symm | exact (zp_f (fun h => h ⟨by assumption, by omega⟩)).symm) ?_
            have b9_18 : k < 40 := by omega
            refine z_zast hx hb hK hP hD hS 16 1 rfl rfl (e := k) (x := pI (¬ cnd ft st tn kd mn cx cy f n L k)) rfl b9_18 (Nat.le_of_ble_eq_true rfl) (zp_and _) dX11_plain_47 (fun H locs hP hD hS => ?_)
            obtain ⟨hP, hD⟩ := zre (W2 := [_, _, _, _, _, _, _, _, _, _, _, _, _, _, _, _, (oa (a 43) cZ 40 (upd fl1 k (pI (¬ cnd ft st tn kd mn cx cy f n L k)))), _, _, _, _]) hP hD rfl
            refine lv_iinc (v := nI (k + 1)) (lv' := [(5, .int (nI (k + 1))), (0, .ref k0), (1, .int (nI f)), (2, .long (jI ((L : Nat) : Int))), (4, .int stp)]) hx hb dX11_plain_48 hl (k := 0) rfl (nI_add k 1) (Nat.le_of_ble_eq_true rfl) rfl (fun ls hl => ?_)
            refine lv_goto (tgt := 3) hx hb dX11_plain_51 rfl ?_
            exact ih_3 (k + 1) S2 (upd fl1 k (pI (¬ cnd ft st tn kd mn cx cy f n L k))) H locs ls (by first | with_reducible assumption | omega) (by first | with_reducible assumption | omega) (by intro j hj; rcases Nat.lt_or_ge j k with h | h; simp only [upd, if_neg (show j ≠ k by omega)]; exact hfl j h; rw [show j = k by omega]; simp only [upd, if_true]) hP hD hS (lv_sub hl [0, 1, 2, 3, 4] rfl)
          · have c_17 : ((L : Nat) : Int) < ((trF cx cy f n k : Nat) : Int) := zl_nle (jI_toInt (by omega)) (jI_toInt (by omega)) c_17
            refine lv_iconst (v := 1) hx hb dX11_plain_42 rfl ?_
            refine lv_goto (tgt := 47) hx hb dX11_plain_43 rfl ?_
            refine zz_i (v := pI (¬ cnd ft st tn kd mn cx cy f n L k)) (by first | exact (zp_t (fun h => absurd h.1 (by first | with_reducible assumption | assumption))).symm | exact (zp_t (fun h => absurd h.2 (by omega))).symm | exact (zp_f (fun h => h ⟨by assumption, by omega⟩)).symm) ?_
            have b9_19 : k < 40 := by omega
            refine z_zast hx hb hK hP hD hS 16 1 rfl rfl (e := k) (x := pI (¬ cnd ft st tn kd mn cx cy f n L k)) rfl b9_19 (Nat.le_of_ble_eq_true rfl) (zp_and _) dX11_plain_47 (fun H locs hP hD hS => ?_)
            obtain ⟨hP, hD⟩ := zre (W2 := [_, _, _, _, _, _, _, _, _, _, _, _, _, _, _, _, (oa (a 43) cZ 40 (upd fl1 k (pI (¬ cnd ft st tn kd mn cx cy f n L k)))), _, _, _, _]) hP hD rfl
            refine lv_iinc (v := nI (k + 1)) (lv' := [(5, .int (nI (k + 1))), (0, .ref k0), (1, .int (nI f)), (2, .long (jI ((L : Nat) : Int))), (4, .int stp)]) hx hb dX11_plain_48 hl (k := 0) rfl (nI_add k 1) (Nat.le_of_ble_eq_true rfl) rfl (fun ls hl => ?_)
            refine lv_goto (tgt := 3) hx hb dX11_plain_51 rfl ?_
            exact ih_3 (k + 1) S2 (upd fl1 k (pI (¬ cnd ft st tn kd mn cx cy f n L k))) H locs ls (by first | with_reducible assumption | omega) (by first | with_reducible assumption | omega) (by intro j hj; rcases Nat.lt_or_ge j k with h | h; simp only [upd, if_neg (show j ≠ k by omega)]; exact hfl j h; rw [show j = k by omega]; simp only [upd, if_true]) hP hD hS (lv_sub hl [0, 1, 2, 3, 4] rfl)
  exact hl_3 _ 0 S0 fl s.heap [] ls (Nat.lt_succ_self _) (by first | with_reducible assumption | omega) (by intro j hj; omega) hP hD hS (lv_sub hl [0, 1, 2, 3, 4] rfl)
end
section
set_option maxHeartbeats 4000000 in
set_option maxRecDepth 100000 in
theorem k_M_plainAll (l : Launch) (dC : Nat → ClassId) (dI : Nat → Nat → Nat) (cI cZ cF : ClassId) (sz : Nat) (k0 : Nat) (a : Nat → Nat) (I0 : Nat → Int32) (J0 : Nat → Int64) (f : Nat) (n : Nat) (L : Nat) (ft : Nat) (ln : Nat) (cl : Nat) (mm9 : Nat) (nn1 : Nat) (stp : Int32) (st : Nat → Int32) (tn : Nat → Int32) (kd : Nat → Int32) (mn : Nat → Int32) (cx : Nat → Int32) (cy : Nat → Int32) (S0 : Nat → Int32) (T0 : Nat → Int32) (P0 : Nat → Int32) (Q0 : Nat → Int32) (ox : Nat → Int32) (oy : Nat → Int32) (mt : Nat → Int32) (wi : Nat → Int32) (ins : Nat → Int32) (fl : Nat → Int32) (la : Nat → Int32) (lb : Nat → Int32) (lc : Nat → Int32) (ld : Nat → Int32) (mn1 : Nat → Int32) (cx1 : Nat → Int32) (cy1 : Nat → Int32) (hft : I0 0 = nI ft) (h200 : ft ≤ 200) (hf_f : f ≤ 200) (hL : L ≤ 2147483647) (hpi : plI ft st tn kd f mn cx cy n) (hfin : plN ft st tn kd f L mm9 mn cx cy n mn1 cx1 cy1 nn1) (hclm : dlN mm9 cl ln ≤ 100000) (hlc : ln ≤ 64 * cl) (hcl1 : 1 ≤ cl) (hmb : mm9 ≤ 40) : zM l yX11_plainAll cX11_plainAll 5 (some .int) ({ frames := 8, cells := 4 * (dlN mm9 cl ln - cl), slots := 512 * (dlN mm9 cl ln - cl), locals := 209 } : Room) [.ref k0, .int (nI f), .int (nI L), .int stp] (dC, dI) (zTy cI cZ cF) [(om k0 a (upd I0 26 (nI ln)) J0), (oa (a 5) cI 201 st), (oa (a 6) cZ 201 tn), (oa (a 1) cI 201 kd), (oa (a 11) cI 201 mn), (oa (a 12) cI 8040 cx), (oa (a 13) cI 8040 cy), (oa (a 32) cI 8 S0), (oa (a 40) cI 6 T0), (oa (a 29) cI 42 P0), (oa (a 30) cI 42 Q0), (oa (a 33) cI 42 ox), (oa (a 34) cI 42 oy), (oa (a 37) cZ 201 mt), (oa (a 38) cZ 201 wi), (oa (a 39) cZ 8040 ins), (oa (a 43) cZ 40 fl), (oa (a 22) cI (64 * cl) la), (oa (a 23) cI (64 * cl) lb), (oa (a 24) cI (64 * cl) lc), (oa (a 25) cI (64 * cl) ld)] sz (some (.int (nI mm9))) (fun A t => ∃ (z9 : Int32), ∃ (on1 : Int32), ∃ (ok1 : Int32), ∃ (S1 : Nat → Int32), ∃ (T1 : Nat → Int32), ∃ (P1 : Nat → Int32), ∃ (Q1 : Nat → Int32), ∃ (ox1 : Nat → Int32), ∃ (oy1 : Nat → Int32), ∃ (mt1 : Nat → Int32), ∃ (wi1 : Nat → Int32), ∃ (ins1 : Nat → Int32), ∃ (fl1 : Nat → Int32), ∃ (bl0 : Nat), ∃ (bl1 : Nat), ∃ (bl2 : Nat), ∃ (bl3 : Nat), ∃ (la1 : Nat → Int32), ∃ (lb1 : Nat → Int32), ∃ (lc1 : Nat → Int32), ∃ (ld1 : Nat → Int32), ((∀ j, j < ln → pl (lb j) ∧ pl (lc j)) → ∀ j, j < ln + mm9 → pl (lb1 j) ∧ pl (lc1 j)) ∧ zPD (dC, dI) classes A [(om k0 (va_up (va_up (va_up (va_up a 22 bl0) 23 bl1) 24 bl2) 25 bl3) (upd (upd (upd (upd I0 26 (nI (ln + mm9))) 31 z9) 35 on1) 36 ok1) J0), (oa (a 5) cI 201 st), (oa (a 6) cZ 201 tn), (oa (a 1) cI 201 kd), (oa (a 11) cI 201 mn1), (oa (a 12) cI 8040 cx1), (oa (a 13) cI 8040 cy1), (oa (a 32) cI 8 S1), (oa (a 40) cI 6 T1), (oa (a 29) cI 42 P1), (oa (a 30) cI 42 Q1), (oa (a 33) cI 42 ox1), (oa (a 34) cI 42 oy1), (oa (a 37) cZ 201 mt1), (oa (a 38) cZ 201 wi1), (oa (a 39) cZ 8040 ins1), (oa (a 43) cZ 40 fl1), (oa bl0 cI (64 * (dlN mm9 cl ln)) la1), (oa bl1 cI (64 * (dlN mm9 cl ln)) lb1), (oa bl2 cI (64 * (dlN mm9 cl ln)) lc1), (oa bl3 cI (64 * (dlN mm9 cl ln)) ld1)] t.heap) (4 * (dlN mm9 cl ln - cl)) (512 * (dlN mm9 cl ln - cl)) := by
  refine zIn (own := "ScaleShopModel") (loc := [(0, .ref k0), (1, .int (nI f)), (2, .int (nI L)), (3, .int stp)]) rfl rfl rfl rfl (fun p e s m below meth c hx hb hr hts hown hlocks hml hnm9 A hA hS hP hD hK hXN Q9 hQ9 ls hl => ?_)
  refine lv_iconst (v := 0) hx hb dX11_plainAll_0 rfl ?_
  refine lv_istore (lv' := [(4, .int 0), (0, .ref k0), (1, .int (nI f)), (2, .int (nI L)), (3, .int stp)]) hx hb dX11_plainAll_1 hl (Nat.le_of_ble_eq_true rfl) rfl (fun ls hl => ?_)
  have hl_3 : ∀ (n9 : Nat) (i : Nat) (j9 : Nat) (n2 : Nat) (cl2 : Nat) (ln2 : Nat) (z9 : Int32) (on1 : Int32) (ok1 : Int32) (mn2 : Nat → Int32) (cx2 : Nat → Int32) (cy2 : Nat → Int32) (S1 : Nat → Int32) (T1 : Nat → Int32) (P1 : Nat → Int32) (Q1 : Nat → Int32) (ox1 : Nat → Int32) (oy1 : Nat → Int32) (mt1 : Nat → Int32) (wi1 : Nat → Int32) (ins1 : Nat → Int32) (fl1 : Nat → Int32) (bl0 : Nat) (bl1 : Nat) (bl2 : Nat) (bl3 : Nat) (la1 : Nat → Int32) (lb1 : Nat → Int32) (lc1 : Nat → Int32) (ld1 : Nat → Int32) (H : Heap) (locs : List Loc) (ls : Array Slot), j9 < n9 → (i + j9 = mm9) → (plI ft st tn kd f mn2 cx2 cy2 n2) → (plN ft st tn kd f L j9 mn2 cx2 cy2 n2 mn1 cx1 cy1 nn1) → (ln2 = ln + i) → (dlN j9 cl2 ln2 = dlN mm9 cl ln) → (cl ≤ cl2) → (ln2 ≤ 64 * cl2) → ((∀ j, j < ln → pl (lb j) ∧ pl (lc j)) → ∀ j, j < ln2 → pl (lb1 j) ∧ pl (lc1 j)) → va_P (dC, dI) classes [(om k0 (va_up (va_up (va_up (va_up a 22 bl0) 23 bl1) 24 bl2) 25 bl3) (upd (upd (upd (upd I0 26 (nI ln2)) 31 z9) 35 on1) 36 ok1) J0), (oa (a 5) cI 201 st), (oa (a 6) cZ 201 tn), (oa (a 1) cI 201 kd), (oa (a 11) cI 201 mn2), (oa (a 12) cI 8040 cx2), (oa (a 13) cI 8040 cy2), (oa (a 32) cI 8 S1), (oa (a 40) cI 6 T1), (oa (a 29) cI 42 P1), (oa (a 30) cI 42 Q1), (oa (a 33) cI 42 ox1), (oa (a 34) cI 42 oy1), (oa (a 37) cZ 201 mt1), (oa (a 38) cZ 201 wi1), (oa (a 39) cZ 8040 ins1), (oa (a 43) cZ 40 fl1), (oa bl0 cI (64 * cl2) la1), (oa bl1 cI (64 * cl2) lb1), (oa bl2 cI (64 * cl2) lc1), (oa bl3 cI (64 * cl2) ld1)] H → va_D A [(om k0 (va_up (va_up (va_up (va_up a 22 bl0) 23 bl1) 24 bl2) 25 bl3) (upd (upd (upd (upd I0 26 (nI ln2)) 31 z9) 35 on1) 36 ok1) J0), (oa (a 5) cI 201 st), (oa (a 6) cZ 201 tn), (oa (a 1) cI 201 kd), (oa (a 11) cI 201 mn2), (oa (a 12) cI 8040 cx2), (oa (a 13) cI 8040 cy2), (oa (a 32) cI 8 S1), (oa (a 40) cI 6 T1), (oa (a 29) cI 42 P1), (oa (a 30) cI 42 Q1), (oa (a 33) cI 42 ox1), (oa (a 34) cI 42 oy1), (oa (a 37) cZ 201 mt1), (oa (a 38) cZ 201 wi1), (oa (a 39) cZ 8040 ins1), (oa (a 43) cZ 40 fl1), (oa bl0 cI (64 * cl2) la1), (oa bl1 cI (64 * cl2) lb1), (oa bl2 cI (64 * cl2) lc1), (oa bl3 cI (64 * cl2) ld1)] → va_S A s.heap H locs → lv_has ls 5 [(4, .int (nI i)), (0, .ref k0), (1, .int (nI f)), (2, .int (nI L)), (3, .int stp)] → W p l e ({ frames := 8, cells := 4 * (dlN mm9 cl ln - cl), slots := 512 * (dlN mm9 cl ln - cl), locals := 209 } : Room) s m ([.ref k0, .int (nI f), .int (nI L), .int stp] : List Value).toArray below meth c H locs (4 * (cl2 - cl)) (512 * (cl2 - cl)) Q9 (F0 m 3 ls []) := by
    intro n9
    induction n9 with
    | zero => intro i j9 n2 cl2 ln2 z9 on1 ok1 mn2 cx2 cy2 S1 T1 P1 Q1 ox1 oy1 mt1 wi1 ins1 fl1 bl0 bl1 bl2 bl3 la1 lb1 lc1 ld1 H locs ls hm; exact absurd hm (Nat.not_lt_zero _)
    | succ n9 ih_3 =>
      intro i j9 n2 cl2 ln2 z9 on1 ok1 mn2 cx2 cy2 S1 T1 P1 Q1 ox1 oy1 mt1 wi1 ins1 fl1 bl0 bl1 bl2 bl3 la1 lb1 lc1 ld1 H locs ls hm hij hpi2 hf2 hln2 hce hcl2 hlc2 hlp2 hP hD hS hl
      have hle9 := dlN_le j9 cl2 ln2
      have hnb9 := hpi2.2.1
      rcases Nat.eq_zero_or_pos j9 with h0 | h0
      · skip
        have hz9 := plN_z h0 hf2
        have hce0 : dlN mm9 cl ln = cl2 := (by rw [← hce, h0]; rfl)
        refine lv_aload_n hx hb dX11_plainAll_3 rfl (lv_at hl 1 rfl) ?_
        refine lv_iload_n hx hb dX11_plainAll_4 rfl (lv_at hl 2 rfl) ?_
        refine lv_iload_n hx hb dX11_plainAll_5 rfl (lv_at hl 3 rfl) ?_
        refine lv_i2l (v := (nI L).toInt64) hx hb dX11_plainAll_6 (rfl) ?_
        refine zz_l (v := jI ((L : Nat) : Int)) (nI_64 (by omega)) ?_
        refine lv_iload_n hx hb dX11_plainAll_7 rfl (lv_at hl 4 rfl) ?_
        obtain ⟨hPc, hDc, hFc⟩ := zo_sub (wc := [_, _, _, _, _, _, _, _, _, _, _, _, _, _, _, _, _, _, _, _, _]) hP hD hS hA [0, 1, 2, 3, 4, 5, 6, 7, 8, 9, 10, 11, 12, 13, 14, 15, 16, 17, 18, 19, 20] (by decide +kernel) rfl
        refine zcall (st1 := [.int 0]) (va_runV (As := [.int (nI f), .long (jI ((L : Nat) : Int)), .int stp]) (rest := []) ⟨hx, hb, hml, hown, hts⟩ (k_M_plain_n l dC dI cI cZ cF H.size k0 (va_up (va_up (va_up (va_up a 22 bl0) 23 bl1) 24 bl2) 25 bl3) (upd (upd (upd (upd I0 26 (nI ln2)) 31 z9) 35 on1) 36 ok1) J0 f n2 L ft ln2 cl2 stp st tn kd mn2 cx2 cy2 S1 T1 P1 Q1 ox1 oy1 mt1 wi1 ins1 fl1 la1 lb1 lc1 ld1 (by first | with_reducible assumption | assumption) (by first | with_reducible assumption | omega) (by first | with_reducible assumption | omega) (hpi2.1) (hpi2.2.1) (hpi2.2.2.1) (by first | with_reducible assumption | omega) (hpi2.2.2.2.1) (hpi2.2.2.2.2) (hz9.2.2.2.2)) (csV_204 hts rfl rfl ⟨Nat.le_of_ble_eq_true rfl, Nat.le_of_ble_eq_true rfl⟩) (zPV2 (q0 := 0) (ci := 9) hPc hDc hK hXN rfl rfl) rfl rfl hl.1 rfl (lv_room (Nat.le_of_ble_eq_true rfl)) dX11_plainAll_8 ⟨show 4 * (cl2 - cl) ≤ 4 * (dlN mm9 cl ln - cl) by omega, show 512 * (cl2 - cl) ≤ 512 * (dlN mm9 cl ln - cl) by omega⟩) hS hFc hFc rfl (fun t H locs ht hB hk1 hS => ?_)
        refine ex13 hB (fun z3 on3 ok3 S3 T3 P3 Q3 ox3 oy3 mt3 wi3 ins3 fl3 hB0 => ?_)
        clear hB
        obtain ⟨hP1, hD1⟩ := hB0
        rw [ht] at hP1
        obtain ⟨hP, hD⟩ := zn (W2 := [(om k0 (va_up (va_up (va_up (va_up a 22 bl0) 23 bl1) 24 bl2) 25 bl3) (upd (upd (upd (upd I0 26 (nI ln2)) 31 z3) 35 on3) 36 ok3) J0), _, _, _, _, _, _, (oa (a 32) cI 8 S3), (oa (a 40) cI 6 T3), (oa (a 29) cI 42 P3), (oa (a 30) cI 42 Q3), (oa (a 33) cI 42 ox3), (oa (a 34) cI 42 oy3), (oa (a 37) cZ 201 mt3), (oa (a 38) cZ 201 wi3), (oa (a 39) cZ 8040 ins3), (oa (a 43) cZ 40 fl3), _, _, _, _]) hP hD hk1 hFc hP1 hD1 zl_178 [] zl_179 zl_178 (by decide +kernel) rfl rfl rfl rfl rfl
        clear hk1 hPc hDc hFc hP1 hD1 ht
        refine lv_if_eq (tgt := 20) hx hb dX11_plainAll_11 rfl (fun c_1 => ?_) (fun c_1 => ?_)
        · refine lv_iload hx hb dX11_plainAll_20 (lv_at hl 0 rfl) ?_
          obtain ⟨hP9, hD9⟩ := zu_sub (wc := [(om k0 (va_up (va_up (va_up (va_up a 22 bl0) 23 bl1) 24 bl2) 25 bl3) (upd (upd (upd (upd I0 26 (nI ln2)) 31 z3) 35 on3) 36 ok3) J0), (oa (a 5) cI 201 st), (oa (a 6) cZ 201 tn), (oa (a 1) cI 201 kd), (oa (a 11) cI 201 mn2), (oa (a 12) cI 8040 cx2), (oa (a 13) cI 8040 cy2), (oa (a 32) cI 8 S3), (oa (a 40) cI 6 T3), (oa (a 29) cI 42 P3), (oa (a 30) cI 42 Q3), (oa (a 33) cI 42 ox3), (oa (a 34) cI 42 oy3), (oa (a 37) cZ 201 mt3), (oa (a 38) cZ 201 wi3), (oa (a 39) cZ 8040 ins3), (oa (a 43) cZ 40 fl3), (oa bl0 cI (64 * cl2) la1), (oa bl1 cI (64 * cl2) lb1), (oa bl2 cI (64 * cl2) lc1), (oa bl3 cI (64 * cl2) ld1)]) hP hD [true, true, true, true, true, true, true, true, true, true, true, true, true, true, true, true, true, true, true, true, true] rfl rfl
          have hE9 : ([(om k0 (va_up (va_up (va_up (va_up a 22 bl0) 23 bl1) 24 bl2) 25 bl3) (upd (upd (upd (upd I0 26 (nI ln2)) 31 z3) 35 on3) 36 ok3) J0), (oa (a 5) cI 201 st), (oa (a 6) cZ 201 tn), (oa (a 1) cI 201 kd), (oa (a 11) cI 201 mn2), (oa (a 12) cI 8040 cx2), (oa (a 13) cI 8040 cy2), (oa (a 32) cI 8 S3), (oa (a 40) cI 6 T3), (oa (a 29) cI 42 P3), (oa (a 30) cI 42 Q3), (oa (a 33) cI 42 ox3), (oa (a 34) cI 42 oy3), (oa (a 37) cZ 201 mt3), (oa (a 38) cZ 201 wi3), (oa (a 39) cZ 8040 ins3), (oa (a 43) cZ 40 fl3), (oa bl0 cI (64 * cl2) la1), (oa bl1 cI (64 * cl2) lb1), (oa bl2 cI (64 * cl2) lc1), (oa bl3 cI (64 * cl2) ld1)] : va_W) = [(om k0 (va_up (va_up (va_up (va_up a 22 bl0) 23 bl1) 24 bl2) 25 bl3) (upd (upd (upd (upd I0 26 (nI (ln + mm9))) 31 z3) 35 on3) 36 ok3) J0), (oa (a 5) cI 201 st), (oa (a 6) cZ 201 tn), (oa (a 1) cI 201 kd), (oa (a 11) cI 201 mn1), (oa (a 12) cI 8040 cx1), (oa (a 13) cI 8040 cy1), (oa (a 32) cI 8 S3), (oa (a 40) cI 6 T3), (oa (a 29) cI 42 P3), (oa (a 30) cI 42 Q3), (oa (a 33) cI 42 ox3), (oa (a 34) cI 42 oy3), (oa (a 37) cZ 201 mt3), (oa (a 38) cZ 201 wi3), (oa (a 39) cZ 8040 ins3), (oa (a 43) cZ 40 fl3), (oa bl0 cI (64 * (dlN mm9 cl ln)) la1), (oa bl1 cI (64 * (dlN mm9 cl ln)) lb1), (oa bl2 cI (64 * (dlN mm9 cl ln)) lc1), (oa bl3 cI (64 * (dlN mm9 cl ln)) ld1)] := by rw [hz9.1, hz9.2.1, hz9.2.2.1, show ln2 = ln + mm9 by omega, hce0]
          rw [hE9] at hP9 hD9
          refine W.widen (k := 4 * (dlN mm9 cl ln - cl)) (n := 512 * (dlN mm9 cl ln - cl)) (by omega) (by omega) ?_
          rw [hQ9]
          exact W.iret (v := nI i) hx hb hr (fun t ht hW => ⟨⟨congrArg (fun z => Outcome.returned (some (Value.int z))) (show (nI i : Int32) = nI mm9 from zn_eq (by omega)), z3, on3, ok3, S3, T3, P3, Q3, ox3, oy3, mt3, wi3, ins3, fl3, bl0, bl1, bl2, bl3, la1, lb1, lc1, ld1, (fun h j hj => hlp2 h j (by omega)), by rw [ht]; exact hP9, hD9⟩, hS.F ht⟩) hS.2.2 dX11_plainAll_22
        · exact absurd (by decide) c_1
      · skip
        obtain ⟨r9, k9, hr9, hk9, hf3⟩ := plN_p h0 hf2
        have hce3 : dlN r9 (dl cl2 ln2) (ln2 + 1) = dlN mm9 cl ln := (by rw [← hce, hr9]; rfl)
        have hle3 := dlN_le r9 (dl cl2 ln2) (ln2 + 1)
        have hle4 := dl_le cl2 ln2
        refine lv_aload_n hx hb dX11_plainAll_3 rfl (lv_at hl 1 rfl) ?_
        refine lv_iload_n hx hb dX11_plainAll_4 rfl (lv_at hl 2 rfl) ?_
        refine lv_iload_n hx hb dX11_plainAll_5 rfl (lv_at hl 3 rfl) ?_
        refine lv_i2l (v := (nI L).toInt64) hx hb dX11_plainAll_6 (rfl) ?_
        refine zz_l (v := jI ((L : Nat) : Int)) (nI_64 (by omega)) ?_
        refine lv_iload_n hx hb dX11_plainAll_7 rfl (lv_at hl 4 rfl) ?_
        obtain ⟨hPc, hDc, hFc⟩ := zo_sub (wc := [_, _, _, _, _, _, _, _, _, _, _, _, _, _, _, _, _, _, _, _, _]) hP hD hS hA [0, 1, 2, 3, 4, 5, 6, 7, 8, 9, 10, 11, 12, 13, 14, 15, 16, 17, 18, 19, 20] (by decide +kernel) rfl
        refine zcall (st1 := [.int 1]) (va_runV (As := [.int (nI f), .long (jI ((L : Nat) : Int)), .int stp]) (rest := []) ⟨hx, hb, hml, hown, hts⟩ (k_M_plain_y l dC dI cI cZ cF H.size k0 (va_up (va_up (va_up (va_up a 22 bl0) 23 bl1) 24 bl2) 25 bl3) (upd (upd (upd (upd I0 26 (nI ln2)) 31 z9) 35 on1) 36 ok1) J0 f n2 L ft ln2 cl2 k9 stp st tn kd mn2 cx2 cy2 S1 T1 P1 Q1 ox1 oy1 mt1 wi1 ins1 fl1 la1 lb1 lc1 ld1 (by first | with_reducible assumption | assumption) (by first | with_reducible assumption | omega) (by first | with_reducible assumption | omega) (hpi2.1) (hpi2.2.1) (hpi2.2.2.1) (by first | with_reducible assumption | omega) (hpi2.2.2.2.1) (hpi2.2.2.2.2) (by first | with_reducible assumption | omega) (by first | with_reducible assumption | omega) (by first | with_reducible assumption | omega) (hk9)) (csV_204 hts rfl rfl ⟨Nat.le_of_ble_eq_true rfl, Nat.le_of_ble_eq_true rfl⟩) (zPV2 (q0 := 0) (ci := 9) hPc hDc hK hXN rfl rfl) rfl rfl hl.1 rfl (lv_room (Nat.le_of_ble_eq_true rfl)) dX11_plainAll_8 ⟨show (4 * (cl2 - cl) + (4 * (dl cl2 ln2 - cl2))) ≤ 4 * (dlN mm9 cl ln - cl) by omega, show (512 * (cl2 - cl) + (512 * (dl cl2 ln2 - cl2))) ≤ 512 * (dlN mm9 cl ln - cl) by omega⟩) hS hFc hFc rfl (fun t H locs ht hB hk1 hS => ?_)
        refine ex21 hB (fun z3 on3 ok3 S3 T3 P3 Q3 ox3 oy3 mt3 wi3 ins3 fl3 b30 b31 b32 b33 la3 lb3 lc3 ld3 hB0 => ?_)
        clear hB
        obtain ⟨hlp3, hP1, hD1⟩ := hB0
        rw [ht] at hP1
        obtain ⟨hP, hD⟩ := zn (W2 := [(om k0 (va_up (va_up (va_up (va_up a 22 b30) 23 b31) 24 b32) 25 b33) (upd (upd (upd (upd I0 26 (nI (ln2 + 1))) 31 z3) 35 on3) 36 ok3) J0), (oa (a 5) cI 201 st), (oa (a 6) cZ 201 tn), (oa (a 1) cI 201 kd), (oa (a 11) cI 201 (upd mn2 f (nI (n2 - 1)))), (oa (a 12) cI 8040 (shp f k9 (n2 - 1) cx2)), (oa (a 13) cI 8040 (shp f k9 (n2 - 1) cy2)), (oa (a 32) cI 8 S3), (oa (a 40) cI 6 T3), (oa (a 29) cI 42 P3), (oa (a 30) cI 42 Q3), (oa (a 33) cI 42 ox3), (oa (a 34) cI 42 oy3), (oa (a 37) cZ 201 mt3), (oa (a 38) cZ 201 wi3), (oa (a 39) cZ 8040 ins3), (oa (a 43) cZ 40 fl3), (oa b30 cI (64 * (dl cl2 ln2)) la3), (oa b31 cI (64 * (dl cl2 ln2)) lb3), (oa b32 cI (64 * (dl cl2 ln2)) lc3), (oa b33 cI (64 * (dl cl2 ln2)) ld3)]) hP hD hk1 hFc hP1 hD1 zl_178 [] zl_179 zl_178 (by decide +kernel) rfl rfl rfl rfl rfl
        clear hk1 hPc hDc hFc hP1 hD1 ht
        refine lv_if_eq (tgt := 20) hx hb dX11_plainAll_11 rfl (fun c_2 => ?_) (fun c_2 => ?_)
        · exact absurd c_2 (by decide)
        · refine lv_iinc (v := nI (i + 1)) (lv' := [(4, .int (nI (i + 1))), (0, .ref k0), (1, .int (nI f)), (2, .int (nI L)), (3, .int stp)]) hx hb dX11_plainAll_14 hl (k := 0) rfl (nI_add i 1) (Nat.le_of_ble_eq_true rfl) rfl (fun ls hl => ?_)
          refine lv_goto (tgt := 3) hx hb dX11_plainAll_17 rfl ?_
          refine W.widen (k := 4 * ((dl cl2 ln2) - cl)) (n := 512 * ((dl cl2 ln2) - cl)) (by omega) (by omega) ?_
          exact ih_3 (i + 1) r9 (n2 - 1) (dl cl2 ln2) (ln2 + 1) z3 on3 ok3 (upd mn2 f (nI (n2 - 1))) (shp f k9 (n2 - 1) cx2) (shp f k9 (n2 - 1) cy2) S3 T3 P3 Q3 ox3 oy3 mt3 wi3 ins3 fl3 b30 b31 b32 b33 la3 lb3 lc3 ld3 H locs ls (by first | with_reducible assumption | omega) (by first | with_reducible assumption | omega) (plI_s hpi2 hk9) (hf3) (by first | with_reducible assumption | omega) (hce3) (by first | with_reducible assumption | omega) (dl_fit hlc2 (by first | with_reducible assumption | omega)) (fun h => hlp3 (hlp2 h)) hP hD hS (lv_sub hl [0, 1, 2, 3, 4] rfl)
  refine W.widen (k := 4 * (cl - cl)) (n := 512 * (cl - cl)) (by omega) (by omega) ?_
  exact hl_3 _ 0 mm9 n cl ln (I0 31) (I0 35) (I0 36) mn cx cy S0 T0 P0 Q0 ox oy mt wi ins fl (a 22) (a 23) (a 24) (a 25) la lb lc ld s.heap [] ls (Nat.lt_succ_self _) (by first | with_reducible assumption | omega) (hpi) (hfin) (by first | with_reducible assumption | omega) (rfl) (Nat.le_refl _) (by first | with_reducible assumption | omega) (fun h => h) hP hD hS (lv_sub hl [0, 1, 2, 3, 4] rfl)
end
section
set_option maxHeartbeats 4000000 in
set_option maxRecDepth 100000 in
theorem k_M_changes_mn (l : Launch) (dC : Nat → ClassId) (dI : Nat → Nat → Nat) (cI cZ cF : ClassId) (sz : Nat) (k0 : Nat) (a : Nat → Nat) (I0 : Nat → Int32) (J0 : Nat → Int64) (f : Nat) (n : Nat) (ft : Nat) (on : Nat) (ok : Int32) (h : Nat) (kd : Nat → Int32) (st : Nat → Int32) (gb : Nat → Int32) (it : Nat → Int32) (pa : Nat → Int32) (pb : Nat → Int32) (rk : Nat → Int32) (wd : Nat → Int32) (tw : Nat → Int32) (tn : Nat → Int32) (mn : Nat → Int32) (cx : Nat → Int32) (cy : Nat → Int32) (sa : Nat → Int32) (sh : Nat → Int32) (wh : Nat → Int32) (of9 : Nat → Int32) (we : Nat → Int32) (S0 : Nat → Int32) (T0 : Nat → Int32) (P0 : Nat → Int32) (Q0 : Nat → Int32) (ox : Nat → Int32) (oy : Nat → Int32) (mt : Nat → Int32) (wi : Nat → Int32) (ins : Nat → Int32) (la : Nat → Int32) (lb : Nat → Int32) (lc : Nat → Int32) (ld : Nat → Int32) (MT : Nat → Prop) (WI : Nat → Prop) (IN : Nat → Nat → Prop) (cp : Nat) (cl : Nat) (hft : I0 0 = nI ft) (h200 : ft ≤ 200) (hf_f : f ≤ 200) (hm_f : mn f = nI n) (hn_f : n ≤ 40) (hwf : ∀ q, lvF ft st tn q → q ≠ f → wfM mn cx cy q) (ho40 : on ≤ 40) (ho1 : 1 ≤ on) (hpo : pls on ox oy) (hmt : ∀ q, lvF ft st tn q → q ≠ f → mt q = pI (MT q)) (hwi : ∀ q, lvF ft st tn q → q ≠ f → 5 ≤ (kd q).toInt → wi q = pI (WI q)) (hin : ∀ q, lvF ft st tn q → q ≠ f → ∀ k, k < nN (mn q) → 5 ≤ (kd f).toInt → ins (40 * q + k) = pI (IN q k)) (hh : h < 5) (hon2 : n = on) (hft_f : f < ft) (hno : ¬ lwA ft st tn kd mn cx cy f n (ox 0) (oy 0) MT WI IN (sWm (kd f).toInt on ox oy cx cy f)) : zM l yX11_changes cX11_changes 5 (some .boolean) ({ frames := 7, cells := 0, slots := 0, locals := 186 } : Room) [.ref k0, .int (nI f), .int (nI h)] (dC, dI) (zTy cI cZ cF) [(om k0 a (upd (upd I0 35 (nI on)) 36 ok) J0), (oa (a 1) cI 201 kd), (oa (a 5) cI 201 st), (oa (a 7) cI 201 gb), (oa (a 10) cI 201 it), (oa (a 8) cI 201 pa), (oa (a 9) cI 201 pb), (oa (a 2) cI 201 rk), (oa (a 3) cI 201 wd), (oa (a 4) cI 201 tw), (oa (a 6) cZ 201 tn), (oa (a 11) cI 201 mn), (oa (a 12) cI 8040 cx), (oa (a 13) cI 8040 cy), (oa (a 27) cI 516 sa), (oa (a 28) cI (4096 * cp) sh), (oa (a 16) cI 514 wh), (oa (a 17) cI 514 of9), (oa (a 18) cI 514 we), (oa (a 32) cI 8 S0), (oa (a 40) cI 6 T0), (oa (a 29) cI 42 P0), (oa (a 30) cI 42 Q0), (oa (a 33) cI 42 ox), (oa (a 34) cI 42 oy), (oa (a 37) cZ 201 mt), (oa (a 38) cZ 201 wi), (oa (a 39) cZ 8040 ins), (oa (a 22) cI (64 * cl) la), (oa (a 23) cI (64 * cl) lb), (oa (a 24) cI (64 * cl) lc), (oa (a 25) cI (64 * cl) ld)] sz (some (.int 0)) (fun A t => ∃ (z9 : Int32), ∃ (S1 : Nat → Int32), ∃ (T1 : Nat → Int32), ∃ (P1 : Nat → Int32), ∃ (Q1 : Nat → Int32), zPD (dC, dI) classes A [(om k0 a (upd (upd (upd (upd (upd I0 14 7) 15 (I0 15 + 1)) 31 z9) 35 (nI on)) 36 ok) J0), (oa (a 1) cI 201 (upd kd f ok)), (oa (a 5) cI 201 st), (oa (a 7) cI 201 gb), (oa (a 10) cI 201 it), (oa (a 8) cI 201 pa), (oa (a 9) cI 201 pb), (oa (a 2) cI 201 rk), (oa (a 3) cI 201 wd), (oa (a 4) cI 201 tw), (oa (a 6) cZ 201 tn), (oa (a 11) cI 201 (upd mn f (nI on))), (oa (a 12) cI 8040 (fgX f on ox cx)), (oa (a 13) cI 8040 (fgX f on oy cy)), (oa (a 27) cI 516 sa), (oa (a 28) cI (4096 * cp) sh), (oa (a 16) cI 514 wh), (oa (a 17) cI 514 of9), (oa (a 18) cI 514 we), (oa (a 32) cI 8 S1), (oa (a 40) cI 6 T1), (oa (a 29) cI 42 P1), (oa (a 30) cI 42 Q1), (oa (a 33) cI 42 ox), (oa (a 34) cI 42 oy), (oa (a 37) cZ 201 mt), (oa (a 38) cZ 201 wi), (oa (a 39) cZ 8040 ins), (oa (a 22) cI (64 * cl) la), (oa (a 23) cI (64 * cl) lb), (oa (a 24) cI (64 * cl) lc), (oa (a 25) cI (64 * cl) ld)] t.heap) 0 0 := by
  refine zIn (own := "ScaleShopModel") (loc := [(0, .ref k0), (1, .int (nI f)), (2, .int (nI h))]) rfl rfl rfl rfl (fun p e s m below meth c hx hb hr hts hown hlocks hml hnm9 A hA hS hP hD hK hXN Q9 hQ9 ls hl => ?_)
  refine lv_aload_n hx hb dX11_changes_0 rfl (lv_at hl 0 rfl) ?_
  refine lv_iload_n hx hb dX11_changes_1 rfl (lv_at hl 1 rfl) ?_
  refine lv_iload_n hx hb dX11_changes_2 rfl (lv_at hl 2 rfl) ?_
  refine lv_iconst (v := (-1)) hx hb dX11_changes_3 rfl ?_
  obtain ⟨hPc, hDc, hFc⟩ := zo_sub (wc := [_, _, _, _, _, _, _, _, _, _, _, _, _, _, _, _]) hP hD hS hA [0, 2, 10, 1, 11, 12, 13, 19, 20, 21, 22, 23, 24, 25, 26, 27] (by decide +kernel) rfl
  refine zcall (st1 := [.int (pI (lwA ft st tn kd mn cx cy f n (ox 0) (oy 0) MT WI IN (sWm (kd f).toInt on ox oy cx cy f)))]) (va_runV (As := [.int (nI f), .int (nI h), .int (-1)]) (rest := []) ⟨hx, hb, hml, hown, hts⟩ (k_M_isLawful_m l dC dI cI cZ cF s.heap.size k0 a (upd (upd I0 35 (nI on)) 36 ok) J0 f n ft on h st tn kd mn cx cy S0 T0 P0 Q0 ox oy mt wi ins MT WI IN (by first | with_reducible assumption | assumption) (by first | with_reducible assumption | omega) (by first | with_reducible assumption | omega) (by first | with_reducible assumption | assumption) (by first | with_reducible assumption | omega) (by first | with_reducible assumption | assumption) (rfl) (by first | with_reducible assumption | omega) (by first | with_reducible assumption | omega) (by first | with_reducible assumption | assumption) (by first | with_reducible assumption | assumption) (by first | with_reducible assumption | assumption) (by first | with_reducible assumption | assumption) (by first | with_reducible assumption | omega) (by first | with_reducible assumption | omega)) (csV_191 hts rfl rfl ⟨Nat.le_of_ble_eq_true rfl, Nat.le_of_ble_eq_true rfl⟩) (zPV2 (q0 := 0) (ci := 9) hPc hDc hK hXN rfl rfl) rfl rfl hl.1 rfl (lv_room (Nat.le_of_ble_eq_true rfl)) dX11_changes_4 ⟨Nat.le_of_ble_eq_true rfl, Nat.le_of_ble_eq_true rfl⟩) hS hFc hFc rfl (fun t H locs ht hB hk1 hS => ?_)
  obtain ⟨z8, S1, T1, P8, Q8, hP1, hD1⟩ := hB
  rw [ht] at hP1
  obtain ⟨hP, hD⟩ := zn (W2 := [(om k0 a (upd (upd (upd I0 31 z8) 35 (nI on)) 36 ok) J0), _, _, _, _, _, _, _, _, _, _, _, _, _, _, _, _, _, _, (oa (a 32) cI 8 S1), (oa (a 40) cI 6 T1), (oa (a 29) cI 42 P8), (oa (a 30) cI 42 Q8), _, _, _, _, _, _, _, _, _]) hP hD hk1 hFc hP1 hD1 zl_180 zl_181 zl_181 zl_180 (by decide +kernel) rfl rfl rfl rfl rfl
  clear hk1 hPc hDc hFc hP1 hD1 ht
  refine zz_i (v := pI (lwA ft st tn kd mn cx cy f n (ox 0) (oy 0) MT WI IN (sWm (kd f).toInt on ox oy cx cy f))) (rfl) ?_
  refine lv_if_ne (tgt := 22) hx hb dX11_changes_7 rfl (fun c_1 => ?_) (fun c_1 => ?_)
  · have c_1 : lwA ft st tn kd mn cx cy f n (ox 0) (oy 0) MT WI IN (sWm (kd f).toInt on ox oy cx cy f) := zp_1 c_1
    exfalso; exact absurd (by first | with_reducible assumption | assumption) hno
  · have c_1 : ¬ (lwA ft st tn kd mn cx cy f n (ox 0) (oy 0) MT WI IN (sWm (kd f).toInt on ox oy cx cy f)) := zp_0 c_1
    refine lv_aload_n hx hb dX11_changes_10 rfl (lv_at hl 0 rfl) ?_
    refine lv_iload_n hx hb dX11_changes_11 rfl (lv_at hl 1 rfl) ?_
    obtain ⟨hPc, hDc, hFc⟩ := zo_sub (wc := [_, _, _, _, _, _, _]) hP hD hS hA [0, 1, 11, 12, 13, 23, 24] (by decide +kernel) rfl
    refine zcall (st1 := []) (va_runV (As := [.int (nI f)]) (rest := []) ⟨hx, hb, hml, hown, hts⟩ (k_M_forgetNew l dC dI cI cZ cF H.size k0 a (upd (upd (upd I0 31 z8) 35 (nI on)) 36 ok) J0 f on kd mn cx cy ox oy (by first | with_reducible assumption | omega) (rfl) (by first | with_reducible assumption | omega)) (csV_192 hts rfl rfl ⟨Nat.le_of_ble_eq_true rfl, Nat.le_of_ble_eq_true rfl⟩) (zPV2 (q0 := 0) (ci := 9) hPc hDc hK hXN rfl rfl) rfl rfl hl.1 rfl (lv_room (Nat.le_of_ble_eq_true rfl)) dX11_changes_12 ⟨Nat.le_of_ble_eq_true rfl, Nat.le_of_ble_eq_true rfl⟩) hS hFc hFc rfl (fun t H locs ht hB hk1 hS => ?_)
    obtain ⟨cx1, cy1, hc1, hc2, hP1, hD1⟩ := hB
    rw [ht] at hP1
    obtain ⟨hP, hD⟩ := zn (W2 := [_, (oa (a 1) cI 201 (upd kd f ((upd (upd (upd I0 31 z8) 35 (nI on)) 36 ok) 36))), _, _, _, _, _, _, _, _, _, (oa (a 11) cI 201 (upd mn f (nI on))), (oa (a 12) cI 8040 cx1), (oa (a 13) cI 8040 cy1), _, _, _, _, _, _, _, _, _, _, _, _, _, _, _, _, _, _]) hP hD hk1 hFc hP1 hD1 [0, 1, 11, 12, 13, 23, 24] zl_182 zl_182 [0, 1, 11, 12, 13, 23, 24] (by decide +kernel) rfl rfl rfl rfl rfl
    clear hk1 hPc hDc hFc hP1 hD1 ht
    have hfx := fgX_of (fun j hj => (hc1 j hj).1) (fun j hj => (hc2 j hj).1)
    have hfy := fgX_of (fun j hj => (hc1 j hj).2) (fun j hj => (hc2 j hj).2)
    refine lv_aload_n hx hb dX11_changes_15 rfl (lv_at hl 0 rfl) ?_
    refine lv_bipush (v := 7) hx hb dX11_changes_16 rfl ?_
    obtain ⟨hPc, hDc, hFc⟩ := zo_sub (wc := [_]) hP hD hS hA [0] rfl rfl
    refine zcall (st1 := [.int 0]) (va_runV (As := [.int 7]) (rest := []) ⟨hx, hb, hml, hown, hts⟩ (k_M_no_7 l dC dI cI cZ cF H.size k0 a (upd (upd (upd I0 31 z8) 35 (nI on)) 36 ok) J0 ) (csV_198 hts rfl rfl ⟨Nat.le_of_ble_eq_true rfl, Nat.le_of_ble_eq_true rfl⟩) (zPV2 (q0 := 0) (ci := 9) hPc hDc hK hXN rfl rfl) rfl rfl hl.1 rfl (lv_room (Nat.le_of_ble_eq_true rfl)) dX11_changes_18 ⟨Nat.le_of_ble_eq_true rfl, Nat.le_of_ble_eq_true rfl⟩) hS hFc hFc rfl (fun t H locs ht hB hk1 hS => ?_)
    obtain ⟨hP1, hD1⟩ := hB
    rw [ht] at hP1
    obtain ⟨hP, hD⟩ := zn (W2 := [(om k0 a (upd (upd (upd (upd (upd I0 14 7) 15 (I0 15 + 1)) 31 z8) 35 (nI on)) 36 ok) J0), _, _, _, _, _, _, _, _, _, _, _, _, _, _, _, _, _, _, _, _, _, _, _, _, _, _, _, _, _, _, _]) hP hD hk1 hFc hP1 hD1 [0] zl_183 zl_183 [0] (by decide +kernel) rfl rfl rfl rfl rfl
    clear hk1 hPc hDc hFc hP1 hD1 ht
    obtain ⟨hP9, hD9⟩ := zu_sub (wc := [(om k0 a (upd (upd (upd (upd (upd I0 14 7) 15 (I0 15 + 1)) 31 z8) 35 (nI on)) 36 ok) J0), (oa (a 1) cI 201 (upd kd f ((upd (upd (upd I0 31 z8) 35 (nI on)) 36 ok) 36))), (oa (a 5) cI 201 st), (oa (a 7) cI 201 gb), (oa (a 10) cI 201 it), (oa (a 8) cI 201 pa), (oa (a 9) cI 201 pb), (oa (a 2) cI 201 rk), (oa (a 3) cI 201 wd), (oa (a 4) cI 201 tw), (oa (a 6) cZ 201 tn), (oa (a 11) cI 201 (upd mn f (nI on))), (oa (a 12) cI 8040 cx1), (oa (a 13) cI 8040 cy1), (oa (a 27) cI 516 sa), (oa (a 28) cI (4096 * cp) sh), (oa (a 16) cI 514 wh), (oa (a 17) cI 514 of9), (oa (a 18) cI 514 we), (oa (a 32) cI 8 S1), (oa (a 40) cI 6 T1), (oa (a 29) cI 42 P8), (oa (a 30) cI 42 Q8), (oa (a 33) cI 42 ox), (oa (a 34) cI 42 oy), (oa (a 37) cZ 201 mt), (oa (a 38) cZ 201 wi), (oa (a 39) cZ 8040 ins), (oa (a 22) cI (64 * cl) la), (oa (a 23) cI (64 * cl) lb), (oa (a 24) cI (64 * cl) lc), (oa (a 25) cI (64 * cl) ld)]) hP hD (true :: true :: true :: true :: true :: true :: true :: true :: true :: true :: true :: true :: true :: true :: true :: true :: true :: true :: true :: true :: true :: true :: true :: true :: true :: true :: true :: true :: true :: true :: true :: true :: []) rfl rfl
    have hE9 : ([(om k0 a (upd (upd (upd (upd (upd I0 14 7) 15 (I0 15 + 1)) 31 z8) 35 (nI on)) 36 ok) J0), (oa (a 1) cI 201 (upd kd f ((upd (upd (upd I0 31 z8) 35 (nI on)) 36 ok) 36))), (oa (a 5) cI 201 st), (oa (a 7) cI 201 gb), (oa (a 10) cI 201 it), (oa (a 8) cI 201 pa), (oa (a 9) cI 201 pb), (oa (a 2) cI 201 rk), (oa (a 3) cI 201 wd), (oa (a 4) cI 201 tw), (oa (a 6) cZ 201 tn), (oa (a 11) cI 201 (upd mn f (nI on))), (oa (a 12) cI 8040 cx1), (oa (a 13) cI 8040 cy1), (oa (a 27) cI 516 sa), (oa (a 28) cI (4096 * cp) sh), (oa (a 16) cI 514 wh), (oa (a 17) cI 514 of9), (oa (a 18) cI 514 we), (oa (a 32) cI 8 S1), (oa (a 40) cI 6 T1), (oa (a 29) cI 42 P8), (oa (a 30) cI 42 Q8), (oa (a 33) cI 42 ox), (oa (a 34) cI 42 oy), (oa (a 37) cZ 201 mt), (oa (a 38) cZ 201 wi), (oa (a 39) cZ 8040 ins), (oa (a 22) cI (64 * cl) la), (oa (a 23) cI (64 * cl) lb), (oa (a 24) cI (64 * cl) lc), (oa (a 25) cI (64 * cl) ld)] : va_W) = [(om k0 a (upd (upd (upd (upd (upd I0 14 7) 15 (I0 15 + 1)) 31 z8) 35 (nI on)) 36 ok) J0), (oa (a 1) cI 201 (upd kd f ok)), (oa (a 5) cI 201 st), (oa (a 7) cI 201 gb), (oa (a 10) cI 201 it), (oa (a 8) cI 201 pa), (oa (a 9) cI 201 pb), (oa (a 2) cI 201 rk), (oa (a 3) cI 201 wd), (oa (a 4) cI 201 tw), (oa (a 6) cZ 201 tn), (oa (a 11) cI 201 (upd mn f (nI on))), (oa (a 12) cI 8040 (fgX f on ox cx)), (oa (a 13) cI 8040 (fgX f on oy cy)), (oa (a 27) cI 516 sa), (oa (a 28) cI (4096 * cp) sh), (oa (a 16) cI 514 wh), (oa (a 17) cI 514 of9), (oa (a 18) cI 514 we), (oa (a 32) cI 8 S1), (oa (a 40) cI 6 T1), (oa (a 29) cI 42 P8), (oa (a 30) cI 42 Q8), (oa (a 33) cI 42 ox), (oa (a 34) cI 42 oy), (oa (a 37) cZ 201 mt), (oa (a 38) cZ 201 wi), (oa (a 39) cZ 8040 ins), (oa (a 22) cI (64 * cl) la), (oa (a 23) cI (64 * cl) lb), (oa (a 24) cI (64 * cl) lc), (oa (a 25) cI (64 * cl) ld)] := by rw [hfx, hfy]; try rfl
    rw [hE9] at hP9 hD9
    rw [hQ9]
    exact W.zret (ty := .boolean) (v := 0) hx hb hr (rfl) (fun t ht hW => ⟨⟨rfl, z8, S1, T1, P8, Q8, by rw [ht]; exact hP9, hD9⟩, hS.F ht⟩) hS.2.2 dX11_changes_21
set_option maxHeartbeats 4000000 in
set_option maxRecDepth 100000 in
theorem k_M_changes_my (l : Launch) (dC : Nat → ClassId) (dI : Nat → Nat → Nat) (cI cZ cF : ClassId) (sz : Nat) (k0 : Nat) (a : Nat → Nat) (I0 : Nat → Int32) (J0 : Nat → Int64) (f : Nat) (n : Nat) (ft : Nat) (on : Nat) (ok : Int32) (h : Nat) (kd : Nat → Int32) (st : Nat → Int32) (gb : Nat → Int32) (it : Nat → Int32) (pa : Nat → Int32) (pb : Nat → Int32) (rk : Nat → Int32) (wd : Nat → Int32) (tw : Nat → Int32) (tn : Nat → Int32) (mn : Nat → Int32) (cx : Nat → Int32) (cy : Nat → Int32) (sa : Nat → Int32) (sh : Nat → Int32) (wh : Nat → Int32) (of9 : Nat → Int32) (we : Nat → Int32) (S0 : Nat → Int32) (T0 : Nat → Int32) (P0 : Nat → Int32) (Q0 : Nat → Int32) (ox : Nat → Int32) (oy : Nat → Int32) (mt : Nat → Int32) (wi : Nat → Int32) (ins : Nat → Int32) (la : Nat → Int32) (lb : Nat → Int32) (lc : Nat → Int32) (ld : Nat → Int32) (MT : Nat → Prop) (WI : Nat → Prop) (IN : Nat → Nat → Prop) (dn : Nat) (bs : Nat) (w0 : Nat) (cp : Nat) (c1 : Nat) (c2 : Nat) (ln : Nat) (cl : Nat) (hft : I0 0 = nI ft) (h200 : ft ≤ 200) (hf_f : f ≤ 200) (hm_f : mn f = nI n) (hn_f : n ≤ 40) (hwf : ∀ q, lvF ft st tn q → q ≠ f → wfM mn cx cy q) (ho40 : on ≤ 40) (ho1 : 1 ≤ on) (hpo : pls on ox oy) (hmt : ∀ q, lvF ft st tn q → q ≠ f → mt q = pI (MT q)) (hwi : ∀ q, lvF ft st tn q → q ≠ f → 5 ≤ (kd q).toInt → wi q = pI (WI q)) (hin : ∀ q, lvF ft st tn q → q ≠ f → ∀ k, k < nN (mn q) → 5 ≤ (kd f).toInt → ins (40 * q + k) = pI (IN q k)) (hh : h < 5) (hon2 : n = on) (hft_f : f < ft) (hdn : I0 19 = nI dn) (hbs : I0 21 = nI bs) (hbd : bs ≤ dn) (hd512 : dn ≤ 512) (hi5_1 : (dn - bs) < 515) (hsa_1 : sa (dn - bs) = nI w0) (hmn_1 : ∀ v9, v9 < ft → (tn v9).toInt = 0 → ¬ (st v9).toInt = 0 → (upd mn f (nI on)) v9 = nI (nN ((upd mn f (nI on)) v9)) ∧ nN ((upd mn f (nI on)) v9) ≤ 40) (hc1_1 : 1 ≤ cp) (hpw_1 : pw cp c1) (hw0_1 : w0 ≤ 4096 * cp) (hfit_1 : psN (nnF st tn (upd mn f (nI on))) w0 ft ≤ 4096 * c1) (hmin_1 : c1 = cp ∨ 2048 * c1 < psN (nnF st tn (upd mn f (nI on))) w0 ft) (hcE_1 : c1 ≤ 512) (hmn_2 : ∀ f, f < ft → (tn f).toInt = 0 → ¬ (st f).toInt = 0 → mn f = nI (nN (mn f)) ∧ nN (mn f) ≤ 40) (hpw_2 : pw c1 c2) (hfit_2 : psN (nnF st tn mn) (psN (nnF st tn (upd mn f (nI on))) w0 ft) ft ≤ 4096 * c2) (hmin_2 : c2 = c1 ∨ 2048 * c2 < psN (nnF st tn mn) (psN (nnF st tn (upd mn f (nI on))) w0 ft) ft) (hcE_2 : c2 ≤ 512) (hrow : ∀ j, n ≤ j → j < on → cx (40 * f + j) = ox j ∧ cy (40 * f + j) = oy j) (hlc : ln ≤ 64 * cl) (hcl1 : 1 ≤ cl) (hclm : cl ≤ 1000000) (hlc9 : True) (hyes : lwA ft st tn kd mn cx cy f n (ox 0) (oy 0) MT WI IN (sWm (kd f).toInt on ox oy cx cy f)) : zM l yX11_changes cX11_changes 5 (some .boolean) ({ frames := 7, cells := c2 - cp, slots := 8192 * (c2 - cp), locals := 186 } : Room) [.ref k0, .int (nI f), .int (nI h)] (dC, dI) (zTy cI cZ cF) [(om k0 a (upd (upd (upd I0 26 (nI ln)) 35 (nI on)) 36 ok) J0), (oa (a 1) cI 201 kd), (oa (a 5) cI 201 st), (oa (a 7) cI 201 gb), (oa (a 10) cI 201 it), (oa (a 8) cI 201 pa), (oa (a 9) cI 201 pb), (oa (a 2) cI 201 rk), (oa (a 3) cI 201 wd), (oa (a 4) cI 201 tw), (oa (a 6) cZ 201 tn), (oa (a 11) cI 201 mn), (oa (a 12) cI 8040 cx), (oa (a 13) cI 8040 cy), (oa (a 27) cI 516 sa), (oa (a 28) cI (4096 * cp) sh), (oa (a 16) cI 514 wh), (oa (a 17) cI 514 of9), (oa (a 18) cI 514 we), (oa (a 32) cI 8 S0), (oa (a 40) cI 6 T0), (oa (a 29) cI 42 P0), (oa (a 30) cI 42 Q0), (oa (a 33) cI 42 ox), (oa (a 34) cI 42 oy), (oa (a 37) cZ 201 mt), (oa (a 38) cZ 201 wi), (oa (a 39) cZ 8040 ins), (oa (a 22) cI (64 * cl) la), (oa (a 23) cI (64 * cl) lb), (oa (a 24) cI (64 * cl) lc), (oa (a 25) cI (64 * cl) ld)] sz (some (.int 1)) (fun A t => ∃ (z9 : Int32), ∃ (b2 : Nat), ∃ (sh2 : Nat → Int32), ∃ (t9 : Nat), ∃ (S1 : Nat → Int32), ∃ (T1 : Nat → Int32), ∃ (P1 : Nat → Int32), ∃ (Q1 : Nat → Int32), ∃ (la1 : Nat → Int32), ∃ (lb1 : Nat → Int32), ∃ (lc1 : Nat → Int32), ∃ (ld1 : Nat → Int32), (sh2 w0 = nI ft) ∧ (∀ j, j < w0 → sh2 j = sh j) ∧ (∀ g, g < ft → ∀ j, j < 10 + 2 * (nnF st tn (upd mn f (nI on))) g → sh2 (psN (nnF st tn (upd mn f (nI on))) w0 g + j) = (shD (upd kd f ok) st gb it pa pb rk wd tw (nnF st tn (upd mn f (nI on))) (fgX f on ox cx) (fgX f on oy cy)) g j) ∧ (sh2 (psN (nnF st tn (upd mn f (nI on))) w0 ft) = nI ft) ∧ (∀ g, g < ft → ∀ j, j < 10 + 2 * (nnF st tn mn) g → sh2 (psN (nnF st tn mn) (psN (nnF st tn (upd mn f (nI on))) w0 ft) g + j) = (shD kd st gb it pa pb rk wd tw (nnF st tn mn) cx cy) g j) ∧ (t9 ≤ ln) ∧ (∀ j, j < t9 → ∃ i, i < ln ∧ lb1 j = lb i ∧ lc1 j = lc i) ∧ zPD (dC, dI) classes A [(om k0 (va_up a 28 b2) (upd (upd (upd (upd (upd (upd (upd (upd I0 14 0) 19 (nI (dn + 1))) 20 0) 26 (nI t9)) 31 z9) 35 (nI on)) 36 ok) 41 (nI (psN (nnF st tn mn) (psN (nnF st tn (upd mn f (nI on))) w0 ft) ft))) J0), (oa (a 1) cI 201 kd), (oa (a 5) cI 201 st), (oa (a 7) cI 201 gb), (oa (a 10) cI 201 it), (oa (a 8) cI 201 pa), (oa (a 9) cI 201 pb), (oa (a 2) cI 201 rk), (oa (a 3) cI 201 wd), (oa (a 4) cI 201 tw), (oa (a 6) cZ 201 tn), (oa (a 11) cI 201 mn), (oa (a 12) cI 8040 cx), (oa (a 13) cI 8040 cy), (oa (a 27) cI 516 (upd (upd sa (dn - bs + 1) (nI (psN (nnF st tn (upd mn f (nI on))) w0 ft))) (dn + 1 - bs + 1) (nI (psN (nnF st tn mn) (psN (nnF st tn (upd mn f (nI on))) w0 ft) ft)))), (oa b2 cI (4096 * c2) sh2), (oa (a 16) cI 514 (upd wh (dn + 1) (nI h))), (oa (a 17) cI 514 (upd of9 (dn + 1) (nI f))), (oa (a 18) cI 514 (upd we (dn + 1) (0 : Int32))), (oa (a 32) cI 8 S1), (oa (a 40) cI 6 T1), (oa (a 29) cI 42 P1), (oa (a 30) cI 42 Q1), (oa (a 33) cI 42 ox), (oa (a 34) cI 42 oy), (oa (a 37) cZ 201 mt), (oa (a 38) cZ 201 wi), (oa (a 39) cZ 8040 ins), (oa (a 22) cI (64 * cl) la1), (oa (a 23) cI (64 * cl) lb1), (oa (a 24) cI (64 * cl) lc1), (oa (a 25) cI (64 * cl) ld1)] t.heap) (c2 - cp) (8192 * (c2 - cp)) := by
  refine zIn (own := "ScaleShopModel") (loc := [(0, .ref k0), (1, .int (nI f)), (2, .int (nI h))]) rfl rfl rfl rfl (fun p e s m below meth c hx hb hr hts hown hlocks hml hnm9 A hA hS hP hD hK hXN Q9 hQ9 ls hl => ?_)
  have hq1 := pw_le hpw_1
  have hq2 := pw_le hpw_2
  refine lv_aload_n hx hb dX11_changes_0 rfl (lv_at hl 0 rfl) ?_
  refine lv_iload_n hx hb dX11_changes_1 rfl (lv_at hl 1 rfl) ?_
  refine lv_iload_n hx hb dX11_changes_2 rfl (lv_at hl 2 rfl) ?_
  refine lv_iconst (v := (-1)) hx hb dX11_changes_3 rfl ?_
  obtain ⟨hPc, hDc, hFc⟩ := zo_sub (wc := [_, _, _, _, _, _, _, _, _, _, _, _, _, _, _, _]) hP hD hS hA [0, 2, 10, 1, 11, 12, 13, 19, 20, 21, 22, 23, 24, 25, 26, 27] (by decide +kernel) rfl
  refine zcall (st1 := [.int (pI (lwA ft st tn kd mn cx cy f n (ox 0) (oy 0) MT WI IN (sWm (kd f).toInt on ox oy cx cy f)))]) (va_runV (As := [.int (nI f), .int (nI h), .int (-1)]) (rest := []) ⟨hx, hb, hml, hown, hts⟩ (k_M_isLawful_m l dC dI cI cZ cF s.heap.size k0 a (upd (upd (upd I0 26 (nI ln)) 35 (nI on)) 36 ok) J0 f n ft on h st tn kd mn cx cy S0 T0 P0 Q0 ox oy mt wi ins MT WI IN (by first | with_reducible assumption | assumption) (by first | with_reducible assumption | omega) (by first | with_reducible assumption | omega) (by first | with_reducible assumption | assumption) (by first | with_reducible assumption | omega) (by first | with_reducible assumption | assumption) (rfl) (by first | with_reducible assumption | omega) (by first | with_reducible assumption | omega) (by first | with_reducible assumption | assumption) (by first | with_reducible assumption | assumption) (by first | with_reducible assumption | assumption) (by first | with_reducible assumption | assumption) (by first | with_reducible assumption | omega) (by first | with_reducible assumption | omega)) (csV_191 hts rfl rfl ⟨Nat.le_of_ble_eq_true rfl, Nat.le_of_ble_eq_true rfl⟩) (zPV2 (q0 := 0) (ci := 9) hPc hDc hK hXN rfl rfl) rfl rfl hl.1 rfl (lv_room (Nat.le_of_ble_eq_true rfl)) dX11_changes_4 ⟨Nat.zero_le _, Nat.zero_le _⟩) hS hFc hFc rfl (fun t H locs ht hB hk1 hS => ?_)
  obtain ⟨z8, S1, T1, P8, Q8, hP1, hD1⟩ := hB
  rw [ht] at hP1
  obtain ⟨hP, hD⟩ := zn (W2 := [(om k0 a (upd (upd (upd (upd I0 26 (nI ln)) 31 z8) 35 (nI on)) 36 ok) J0), _, _, _, _, _, _, _, _, _, _, _, _, _, _, _, _, _, _, (oa (a 32) cI 8 S1), (oa (a 40) cI 6 T1), (oa (a 29) cI 42 P8), (oa (a 30) cI 42 Q8), _, _, _, _, _, _, _, _, _]) hP hD hk1 hFc hP1 hD1 zl_180 zl_181 zl_181 zl_180 (by decide +kernel) rfl rfl rfl rfl rfl
  clear hk1 hPc hDc hFc hP1 hD1 ht
  refine zz_i (v := pI (lwA ft st tn kd mn cx cy f n (ox 0) (oy 0) MT WI IN (sWm (kd f).toInt on ox oy cx cy f))) (rfl) ?_
  refine lv_if_ne (tgt := 22) hx hb dX11_changes_7 rfl (fun c_1 => ?_) (fun c_1 => ?_)
  · have c_1 : lwA ft st tn kd mn cx cy f n (ox 0) (oy 0) MT WI IN (sWm (kd f).toInt on ox oy cx cy f) := zp_1 c_1
    refine lv_aload_n hx hb dX11_changes_22 rfl (lv_at hl 0 rfl) ?_
    refine lv_iload_n hx hb dX11_changes_23 rfl (lv_at hl 1 rfl) ?_
    obtain ⟨hPc, hDc, hFc⟩ := zo_sub (wc := [_, _, _, _, _, _]) hP hD hS hA [0, 11, 12, 13, 21, 22] (by decide +kernel) rfl
    refine zcall (st1 := []) (va_runV (As := [.int (nI f)]) (rest := []) ⟨hx, hb, hml, hown, hts⟩ (k_M_take l dC dI cI cZ cF H.size k0 a (upd (upd (upd (upd I0 26 (nI ln)) 31 z8) 35 (nI on)) 36 ok) J0 f n mn cx cy P8 Q8 (by first | with_reducible assumption | omega) (by first | with_reducible assumption | assumption) (by first | with_reducible assumption | omega)) (csV_173 hts rfl rfl ⟨Nat.le_of_ble_eq_true rfl, Nat.le_of_ble_eq_true rfl⟩) (zPV2 (q0 := 0) (ci := 9) hPc hDc hK hXN rfl rfl) rfl rfl hl.1 rfl (lv_room (Nat.le_of_ble_eq_true rfl)) dX11_changes_24 ⟨Nat.zero_le _, Nat.zero_le _⟩) hS hFc hFc rfl (fun t H locs ht hB hk1 hS => ?_)
    obtain ⟨P1, Q1, htk, hP1, hD1⟩ := hB
    rw [ht] at hP1
    obtain ⟨hP, hD⟩ := zn (W2 := [(om k0 a (upd (upd (upd (upd I0 26 (nI ln)) 31 (nI n)) 35 (nI on)) 36 ok) J0), _, _, _, _, _, _, _, _, _, _, _, _, _, _, _, _, _, _, _, _, (oa (a 29) cI 42 P1), (oa (a 30) cI 42 Q1), _, _, _, _, _, _, _, _, _]) hP hD hk1 hFc hP1 hD1 [0, 11, 12, 13, 21, 22] zl_184 zl_184 [0, 11, 12, 13, 21, 22] (by decide +kernel) rfl rfl rfl rfl rfl
    clear hk1 hPc hDc hFc hP1 hD1 ht
    refine lv_aload_n hx hb dX11_changes_27 rfl (lv_at hl 0 rfl) ?_
    refine va_get (D := (dC, dI)) (ci := 9) (v := .ref (a 1)) (C := RX11) (T := TX11) (N := 55) hx hb hts inX11 hown hK hP 0 rfl rfl 1 (Nat.le_of_ble_eq_true rfl) (hts _ mw_1160) (fun _ h9 => h9) rfl dX11_changes_28 ?_
    refine lv_iload_n hx hb dX11_changes_31 rfl (lv_at hl 1 rfl) ?_
    have b9_2 : f < 201 := by omega
    refine z_iald hx hb hK hP 1 0 rfl rfl (e := f) rfl b9_2 (Nat.le_of_ble_eq_true rfl) dX11_changes_32 ?_
    refine zz_i (v := kd f) (rfl) ?_
    refine lv_istore_n (lv' := [(3, .int (kd f)), (0, .ref k0), (1, .int (nI f)), (2, .int (nI h))]) hx hb dX11_changes_33 rfl hl (Nat.le_of_ble_eq_true rfl) rfl (fun ls hl => ?_)
    refine lv_aload_n hx hb dX11_changes_34 rfl (lv_at hl 1 rfl) ?_
    refine lv_iload_n hx hb dX11_changes_35 rfl (lv_at hl 2 rfl) ?_
    obtain ⟨hPc, hDc, hFc⟩ := zo_sub (wc := [_, _, _, _, _, _, _]) hP hD hS hA [0, 1, 11, 12, 13, 23, 24] (by decide +kernel) rfl
    refine zcall (st1 := []) (va_runV (As := [.int (nI f)]) (rest := []) ⟨hx, hb, hml, hown, hts⟩ (k_M_forgetNew l dC dI cI cZ cF H.size k0 a (upd (upd (upd (upd I0 26 (nI ln)) 31 (nI n)) 35 (nI on)) 36 ok) J0 f on kd mn cx cy ox oy (by first | with_reducible assumption | omega) (rfl) (by first | with_reducible assumption | omega)) (csV_192 hts rfl rfl ⟨Nat.le_of_ble_eq_true rfl, Nat.le_of_ble_eq_true rfl⟩) (zPV2 (q0 := 0) (ci := 9) hPc hDc hK hXN rfl rfl) rfl rfl hl.1 rfl (lv_room (Nat.le_of_ble_eq_true rfl)) dX11_changes_36 ⟨Nat.zero_le _, Nat.zero_le _⟩) hS hFc hFc rfl (fun t H locs ht hB hk1 hS => ?_)
    obtain ⟨cx1, cy1, hc1, hc2, hP1, hD1⟩ := hB
    rw [ht] at hP1
    obtain ⟨hP, hD⟩ := zn (W2 := [_, (oa (a 1) cI 201 (upd kd f ((upd (upd (upd (upd I0 26 (nI ln)) 31 (nI n)) 35 (nI on)) 36 ok) 36))), _, _, _, _, _, _, _, _, _, (oa (a 11) cI 201 (upd mn f (nI on))), (oa (a 12) cI 8040 cx1), (oa (a 13) cI 8040 cy1), _, _, _, _, _, _, _, _, _, _, _, _, _, _, _, _, _, _]) hP hD hk1 hFc hP1 hD1 [0, 1, 11, 12, 13, 23, 24] zl_182 zl_182 [0, 1, 11, 12, 13, 23, 24] (by decide +kernel) rfl rfl rfl rfl rfl
    clear hk1 hPc hDc hFc hP1 hD1 ht
    have hfx := fgX_of (fun j hj => (hc1 j hj).1) (fun j hj => (hc2 j hj).1)
    have hfy := fgX_of (fun j hj => (hc1 j hj).2) (fun j hj => (hc2 j hj).2)
    rw [hfx, hfy] at hP hD
    refine lv_aload_n hx hb dX11_changes_39 rfl (lv_at hl 1 rfl) ?_
    obtain ⟨hPc, hDc, hFc⟩ := zo_sub (wc := [_, _, _, _, _, _, _, _, _, _, _, _, _, _, _, _]) hP hD hS hA [0, 1, 2, 3, 4, 5, 6, 7, 8, 9, 10, 11, 12, 13, 14, 15] (by decide +kernel) rfl
    refine zcall (st1 := []) (va_runV (As := []) (rest := []) ⟨hx, hb, hml, hown, hts⟩ (k_M_begins l dC dI cI cZ cF H.size k0 a (upd (upd (upd (upd I0 26 (nI ln)) 31 (nI n)) 35 (nI on)) 36 ok) J0 dn bs ft w0 cp c1 (upd kd f ((upd (upd (upd (upd I0 26 (nI ln)) 31 (nI n)) 35 (nI on)) 36 ok) 36)) st gb it pa pb rk wd tw tn (upd mn f (nI on)) (fgX f on ox cx) (fgX f on oy cy) sa sh (hft) (by first | with_reducible assumption | omega) (hdn) (hbs) (by first | with_reducible assumption | omega) (by first | with_reducible assumption | omega) (hi5_1) (hsa_1) (hmn_1) (hc1_1) (hpw_1) (hw0_1) (hfit_1) (hmin_1) (hcE_1)) (csV_205 hts rfl rfl ⟨Nat.le_of_ble_eq_true rfl, Nat.le_of_ble_eq_true rfl⟩) (zPV2 (q0 := 0) (ci := 9) hPc hDc hK hXN rfl rfl) rfl rfl hl.1 rfl (lv_room (Nat.le_of_ble_eq_true rfl)) dX11_changes_40 ⟨show (0 + (c1 - cp)) ≤ c2 - cp by omega, show (0 + (8192 * (c1 - cp))) ≤ 8192 * (c2 - cp) by omega⟩) hS hFc hFc rfl (fun t H locs ht hB hk1 hS => ?_)
    obtain ⟨b1, sh1, g1, g2, g3, g4, hP1, hD1⟩ := hB
    rw [ht] at hP1
    obtain ⟨hP, hD⟩ := zn (W2 := [_, _, _, _, _, _, _, _, _, _, _, _, _, _, _, _, (om k0 (va_up a 28 b1) (upd (upd (upd (upd (upd I0 26 (nI ln)) 31 (nI n)) 35 (nI on)) 36 ok) 41 (nI (psN (nnF st tn (upd mn f (nI on))) w0 ft))) J0), (oa (a 1) cI 201 (upd kd f ((upd (upd (upd (upd I0 26 (nI ln)) 31 (nI n)) 35 (nI on)) 36 ok) 36))), (oa (a 5) cI 201 st), (oa (a 7) cI 201 gb), (oa (a 10) cI 201 it), (oa (a 8) cI 201 pa), (oa (a 9) cI 201 pb), (oa (a 2) cI 201 rk), (oa (a 3) cI 201 wd), (oa (a 4) cI 201 tw), (oa (a 6) cZ 201 tn), (oa (a 11) cI 201 (upd mn f (nI on))), (oa (a 12) cI 8040 (fgX f on ox cx)), (oa (a 13) cI 8040 (fgX f on oy cy)), (oa (a 27) cI 516 (upd sa ((dn - bs) + 1) (nI (psN (nnF st tn (upd mn f (nI on))) w0 ft)))), (oa b1 cI (4096 * c1) sh1)]) hP hD hk1 hFc hP1 hD1 zl_80 zl_185 zl_186 zl_187 (by decide +kernel) rfl rfl rfl rfl rfl
    clear hk1 hPc hDc hFc hP1 hD1 ht
    refine lv_aload_n hx hb dX11_changes_43 rfl (lv_at hl 1 rfl) ?_
    refine va_get (D := (dC, dI)) (ci := 9) (v := .ref (a 1)) (C := RX11) (T := TX11) (N := 55) hx hb hts inX11 hown hK hP 16 rfl rfl 1 (Nat.le_of_ble_eq_true rfl) (hts _ mw_1160) (fun _ h9 => h9) rfl dX11_changes_44 ?_
    refine lv_iload_n hx hb dX11_changes_47 rfl (lv_at hl 2 rfl) ?_
    refine lv_iload_n hx hb dX11_changes_48 rfl (lv_at hl 0 rfl) ?_
    refine z_iast hx hb hK hP hD hS 17 0 rfl rfl (e := f) (x := kd f) rfl b9_2 (Nat.le_of_ble_eq_true rfl) dX11_changes_49 (fun H locs hP hD hS => ?_)
    obtain ⟨hP, hD⟩ := zre (W2 := [_, _, _, _, _, _, _, _, _, _, _, _, _, _, _, _, _, (oa (a 1) cI 201 (upd (upd kd f ((upd (upd (upd (upd I0 26 (nI ln)) 31 (nI n)) 35 (nI on)) 36 ok) 36)) f (kd f))), _, _, _, _, _, _, _, _, _, _, _, _, _, _]) hP hD rfl
    refine lv_aload_n hx hb dX11_changes_50 rfl (lv_at hl 1 rfl) ?_
    refine lv_iload_n hx hb dX11_changes_51 rfl (lv_at hl 2 rfl) ?_
    obtain ⟨hPc, hDc, hFc⟩ := zo_sub (wc := [_, _, _, _, _, _]) hP hD hS hA [16, 27, 28, 29, 5, 6] (by decide +kernel) rfl
    refine zcall (st1 := []) (va_runV (As := [.int (nI f)]) (rest := []) ⟨hx, hb, hml, hown, hts⟩ (k_M_give l dC dI cI cZ cF H.size k0 (va_up a 28 b1) (upd (upd (upd (upd (upd I0 26 (nI ln)) 31 (nI n)) 35 (nI on)) 36 ok) 41 (nI (psN (nnF st tn (upd mn f (nI on))) w0 ft))) J0 f n (upd mn f (nI on)) (fgX f on ox cx) (fgX f on oy cy) P1 Q1 (by first | with_reducible assumption | omega) (rfl) (by first | with_reducible assumption | omega)) (csV_206 hts rfl rfl ⟨Nat.le_of_ble_eq_true rfl, Nat.le_of_ble_eq_true rfl⟩) (zPV2 (q0 := 0) (ci := 9) hPc hDc hK hXN rfl rfl) rfl rfl hl.1 rfl (lv_room (Nat.le_of_ble_eq_true rfl)) dX11_changes_52 ⟨show (0 + (c1 - cp)) ≤ c2 - cp by omega, show (0 + (8192 * (c1 - cp))) ≤ 8192 * (c2 - cp) by omega⟩) hS hFc hFc rfl (fun t H locs ht hB hk1 hS => ?_)
    obtain ⟨cx3, cy3, hg1, hg2, hP1, hD1⟩ := hB
    rw [ht] at hP1
    obtain ⟨hP, hD⟩ := zn (W2 := [_, _, _, _, _, _, _, _, _, _, _, _, _, _, _, _, _, _, _, _, _, _, _, _, _, _, _, (oa (a 11) cI 201 (upd (upd mn f (nI on)) f (nI n))), (oa (a 12) cI 8040 cx3), (oa (a 13) cI 8040 cy3), _, _]) hP hD hk1 hFc hP1 hD1 [16, 27, 28, 29, 5, 6] zl_188 zl_188 [16, 27, 28, 29, 5, 6] (by decide +kernel) rfl rfl rfl rfl rfl
    clear hk1 hPc hDc hFc hP1 hD1 ht
    have hgx := gv_of (c := cx) rfl (fun j hj => (htk j hj).1) (fun j h1 h2 => (hrow j h1 h2).1) (fun j hj => (hg1 j hj).1) (fun j hj => (hg2 j hj).1)
    have hgy := gv_of (c := cy) rfl (fun j hj => (htk j hj).2) (fun j h1 h2 => (hrow j h1 h2).2) (fun j hj => (hg1 j hj).2) (fun j hj => (hg2 j hj).2)
    rw [hgx, hgy, show (upd (upd kd f ((upd (upd (upd (upd I0 26 (nI ln)) 31 (nI n)) 35 (nI on)) 36 ok) 36)) f (kd f) : Nat → Int32) = kd from upd_back rfl, show (upd (upd mn f (nI on)) f (nI n) : Nat → Int32) = mn from upd_back hm_f] at hP hD
    refine lv_aload_n hx hb dX11_changes_55 rfl (lv_at hl 1 rfl) ?_
    refine lv_aload_n hx hb dX11_changes_56 rfl (lv_at hl 1 rfl) ?_
    refine va_get (D := (dC, dI)) (ci := 9) (v := .int (nI ln)) (C := RX11) (T := TX11) (N := 55) hx hb hts inX11 hown hK hP 16 rfl rfl 26 (Nat.le_of_ble_eq_true rfl) (hts _ mw_1185) (fun _ h9 => h9) rfl dX11_changes_57 ?_
    obtain ⟨hPc, hDc, hFc⟩ := zo_sub (wc := [_, _, _, _, _]) hP hD hS hA [16, 12, 13, 14, 15] (by decide +kernel) rfl
    refine zcall (st1 := []) (va_runV (As := [.int (nI ln)]) (rest := []) ⟨hx, hb, hml, hown, hts⟩ (k_M_squeeze l dC dI cI cZ cF H.size k0 (va_up a 28 b1) (upd (upd (upd (upd (upd I0 26 (nI ln)) 31 (nI n)) 35 (nI on)) 36 ok) 41 (nI (psN (nnF st tn (upd mn f (nI on))) w0 ft))) J0 ln ln cl la lb lc ld (rfl) (by first | with_reducible assumption | omega) (by first | with_reducible assumption | omega) (by first | with_reducible assumption | omega) (by first | with_reducible assumption | omega)) (csV_207 hts rfl rfl ⟨Nat.le_of_ble_eq_true rfl, Nat.le_of_ble_eq_true rfl⟩) (zPV2 (q0 := 0) (ci := 9) hPc hDc hK hXN rfl rfl) rfl rfl hl.1 rfl (lv_room (Nat.le_of_ble_eq_true rfl)) dX11_changes_60 ⟨show (0 + (c1 - cp)) ≤ c2 - cp by omega, show (0 + (8192 * (c1 - cp))) ≤ 8192 * (c2 - cp) by omega⟩) hS hFc hFc rfl (fun t H locs ht hB hk1 hS => ?_)
    obtain ⟨t9, la1, lb1, lc1, ld1, hs1, hs2, hP1, hD1⟩ := hB
    rw [ht] at hP1
    obtain ⟨hP, hD⟩ := zn (W2 := [_, _, _, _, _, _, _, _, _, _, _, _, (oa (a 22) cI (64 * cl) la1), (oa (a 23) cI (64 * cl) lb1), (oa (a 24) cI (64 * cl) lc1), (oa (a 25) cI (64 * cl) ld1), (om k0 (va_up a 28 b1) (upd (upd (upd (upd (upd I0 26 (nI t9)) 31 (nI n)) 35 (nI on)) 36 ok) 41 (nI (psN (nnF st tn (upd mn f (nI on))) w0 ft))) J0), _, _, _, _, _, _, _, _, _, _, _, _, _, _, _]) hP hD hk1 hFc hP1 hD1 [16, 12, 13, 14, 15] zl_189 zl_189 [16, 12, 13, 14, 15] (by decide +kernel) rfl rfl rfl rfl rfl
    clear hk1 hPc hDc hFc hP1 hD1 ht
    refine lv_aload_n hx hb dX11_changes_63 rfl (lv_at hl 1 rfl) ?_
    refine lv_iload_n hx hb dX11_changes_64 rfl (lv_at hl 3 rfl) ?_
    refine lv_iload_n hx hb dX11_changes_65 rfl (lv_at hl 2 rfl) ?_
    refine lv_iconst (v := 0) hx hb dX11_changes_66 rfl ?_
    obtain ⟨hPc, hDc, hFc⟩ := zo_sub (wc := [_, _, _, _, _, _, _, _, _, _, _, _, _, _, _, _, _, _, _]) hP hD hS hA [16, 17, 18, 19, 20, 21, 22, 23, 24, 25, 26, 27, 28, 29, 30, 31, 0, 1, 2] (by decide +kernel) rfl
    refine zcall (st1 := [.int (nI (dn + 1))]) (va_runV (As := [.int (nI h), .int (nI f), .int 0]) (rest := []) ⟨hx, hb, hml, hown, hts⟩ (k_M_ends l dC dI cI cZ cF H.size k0 (va_up a 28 b1) (upd (upd (upd (upd (upd I0 26 (nI t9)) 31 (nI n)) 35 (nI on)) 36 ok) 41 (nI (psN (nnF st tn (upd mn f (nI on))) w0 ft))) J0 (nI h) (nI f) 0 dn bs ft (psN (nnF st tn (upd mn f (nI on))) w0 ft) c1 c2 kd st gb it pa pb rk wd tw tn mn cx cy (upd sa ((dn - bs) + 1) (nI (psN (nnF st tn (upd mn f (nI on))) w0 ft))) sh1 wh of9 we (hft) (by first | with_reducible assumption | omega) (hdn) (hbs) (by first | with_reducible assumption | omega) (by first | with_reducible assumption | omega) (by first | with_reducible assumption | omega) (by rw [show dn + 1 - bs = dn - bs + 1 by omega]; exact up_at _ _ _) (hmn_2) (by have := pw_le hpw_1; omega) (hpw_2) (by first | with_reducible assumption | omega) (hfit_2) (hmin_2) (hcE_2)) (csV_208 hts rfl rfl ⟨Nat.le_of_ble_eq_true rfl, Nat.le_of_ble_eq_true rfl⟩) (zPV2 (q0 := 0) (ci := 9) hPc hDc hK hXN rfl rfl) rfl rfl hl.1 rfl (lv_room (Nat.le_of_ble_eq_true rfl)) dX11_changes_67 ⟨show ((0 + (c1 - cp)) + (c2 - c1)) ≤ c2 - cp by omega, show ((0 + (8192 * (c1 - cp))) + (8192 * (c2 - c1))) ≤ 8192 * (c2 - cp) by omega⟩) hS hFc hFc rfl (fun t H locs ht hB hk1 hS => ?_)
    obtain ⟨b2, sh2, g5, g6, g7, g8, hP1, hD1⟩ := hB
    rw [ht] at hP1
    obtain ⟨hP, hD⟩ := zn (W2 := [_, _, _, _, _, _, _, _, _, _, _, _, _, (om k0 (va_up a 28 b2) (upd (upd (upd (upd (upd (upd (upd (upd I0 14 0) 19 (nI (dn + 1))) 20 0) 26 (nI t9)) 31 (nI n)) 35 (nI on)) 36 ok) 41 (nI (psN (nnF st tn mn) (psN (nnF st tn (upd mn f (nI on))) w0 ft) ft))) J0), (oa (a 1) cI 201 kd), (oa (a 5) cI 201 st), (oa (a 7) cI 201 gb), (oa (a 10) cI 201 it), (oa (a 8) cI 201 pa), (oa (a 9) cI 201 pb), (oa (a 2) cI 201 rk), (oa (a 3) cI 201 wd), (oa (a 4) cI 201 tw), (oa (a 6) cZ 201 tn), (oa (a 11) cI 201 mn), (oa (a 12) cI 8040 cx), (oa (a 13) cI 8040 cy), (oa (a 27) cI 516 (upd (upd sa ((dn - bs) + 1) (nI (psN (nnF st tn (upd mn f (nI on))) w0 ft))) ((dn + 1 - bs) + 1) (nI (psN (nnF st tn mn) (psN (nnF st tn (upd mn f (nI on))) w0 ft) ft)))), (oa b2 cI (4096 * c2) sh2), (oa (a 16) cI 514 (upd wh (dn + 1) (nI h))), (oa (a 17) cI 514 (upd of9 (dn + 1) (nI f))), (oa (a 18) cI 514 (upd we (dn + 1) (0 : Int32)))]) hP hD hk1 hFc hP1 hD1 zl_190 zl_191 zl_192 zl_193 (by decide +kernel) rfl rfl rfl rfl rfl
    clear hk1 hPc hDc hFc hP1 hD1 ht
    refine lv_istore (lv' := [(4, .int (nI (dn + 1))), (3, .int (kd f)), (0, .ref k0), (1, .int (nI f)), (2, .int (nI h))]) hx hb dX11_changes_70 hl (Nat.le_of_ble_eq_true rfl) rfl (fun ls hl => ?_)
    refine lv_iconst (v := 1) hx hb dX11_changes_72 rfl ?_
    obtain ⟨hP9, hD9⟩ := zq_sub (wc := [_, _, _, _, _, _, _, _, _, _, _, _, _, _, _, _, _, _, _, _, _, _, _, _, _, _, _, _, _, _, _, _]) hP hD [13, 14, 15, 16, 17, 18, 19, 20, 21, 22, 23, 24, 25, 26, 27, 28, 29, 30, 31, 0, 1, 2, 3, 4, 5, 6, 7, 8, 9, 10, 11, 12] rfl rfl
    refine W.widen (k := c2 - cp) (n := 8192 * (c2 - cp)) (by omega) (by omega) ?_
    rw [hQ9]
    exact W.zret (ty := .boolean) (v := 1) hx hb hr (rfl) (fun t ht hW => ⟨⟨rfl, (nI n), b2, sh2, t9, S1, T1, P1, Q1, la1, lb1, lc1, ld1, (by have h9 := psN_ge (nnF st tn (upd mn f (nI on))) w0 ft; rw [g6 _ (by omega)]; exact g1), (fun j hj => by have h9 := psN_ge (nnF st tn (upd mn f (nI on))) w0 ft; rw [g6 _ (by omega)]; exact g2 j hj), (fun g hg j hj => by have h9 := psN_mono (nnF st tn (upd mn f (nI on))) w0 hg; rw [g6 _ (by omega)]; exact g3 g hg j hj), (g5), (g7), (hs1), (hs2), by rw [ht]; exact hP9, hD9⟩, hS.F ht⟩) hS.2.2 dX11_changes_73
  · have c_1 : ¬ (lwA ft st tn kd mn cx cy f n (ox 0) (oy 0) MT WI IN (sWm (kd f).toInt on ox oy cx cy f)) := zp_0 c_1
    exfalso; exact absurd hyes (by first | with_reducible assumption | assumption)
set_option maxHeartbeats 4000000 in
set_option maxRecDepth 100000 in
theorem k_M_changes_sn (l : Launch) (dC : Nat → ClassId) (dI : Nat → Nat → Nat) (cI cZ cF : ClassId) (sz : Nat) (k0 : Nat) (a : Nat → Nat) (I0 : Nat → Int32) (J0 : Nat → Int64) (f : Nat) (n : Nat) (ft : Nat) (on : Nat) (ok : Int32) (kd : Nat → Int32) (st : Nat → Int32) (gb : Nat → Int32) (it : Nat → Int32) (pa : Nat → Int32) (pb : Nat → Int32) (rk : Nat → Int32) (wd : Nat → Int32) (tw : Nat → Int32) (tn : Nat → Int32) (mn : Nat → Int32) (cx : Nat → Int32) (cy : Nat → Int32) (sa : Nat → Int32) (sh : Nat → Int32) (wh : Nat → Int32) (of9 : Nat → Int32) (we : Nat → Int32) (S0 : Nat → Int32) (T0 : Nat → Int32) (P0 : Nat → Int32) (Q0 : Nat → Int32) (ox : Nat → Int32) (oy : Nat → Int32) (mt : Nat → Int32) (wi : Nat → Int32) (ins : Nat → Int32) (la : Nat → Int32) (lb : Nat → Int32) (lc : Nat → Int32) (ld : Nat → Int32) (MT : Nat → Prop) (WI : Nat → Prop) (IN : Nat → Nat → Prop) (cp : Nat) (cl : Nat) (hft : I0 0 = nI ft) (h200 : ft ≤ 200) (hf_f : f ≤ 200) (hm_f : mn f = nI n) (hn_f : n ≤ 40) (hwf : ∀ q, lvF ft st tn q → q ≠ f → wfM mn cx cy q) (ho40 : on ≤ 40) (ho1 : 1 ≤ on) (hpo : pls on ox oy) (hmt : ∀ q, lvF ft st tn q → q ≠ f → mt q = pI (MT q)) (hwi : ∀ q, lvF ft st tn q → q ≠ f → 5 ≤ (kd q).toInt → wi q = pI (WI q)) (hin : ∀ q, lvF ft st tn q → q ≠ f → ∀ k, k < nN (mn q) → 5 ≤ (kd f).toInt → ins (40 * q + k) = pI (IN q k)) (hft_f : f < ft) (hno : ¬ lwA ft st tn kd mn cx cy f n (ox 0) (oy 0) MT WI IN (sW0)) : zM l yX11_changes cX11_changes 5 (some .boolean) ({ frames := 6, cells := 0, slots := 0, locals := 159 } : Room) [.ref k0, .int (nI f), .int 5] (dC, dI) (zTy cI cZ cF) [(om k0 a (upd (upd I0 35 (nI on)) 36 ok) J0), (oa (a 1) cI 201 kd), (oa (a 5) cI 201 st), (oa (a 7) cI 201 gb), (oa (a 10) cI 201 it), (oa (a 8) cI 201 pa), (oa (a 9) cI 201 pb), (oa (a 2) cI 201 rk), (oa (a 3) cI 201 wd), (oa (a 4) cI 201 tw), (oa (a 6) cZ 201 tn), (oa (a 11) cI 201 mn), (oa (a 12) cI 8040 cx), (oa (a 13) cI 8040 cy), (oa (a 27) cI 516 sa), (oa (a 28) cI (4096 * cp) sh), (oa (a 16) cI 514 wh), (oa (a 17) cI 514 of9), (oa (a 18) cI 514 we), (oa (a 32) cI 8 S0), (oa (a 40) cI 6 T0), (oa (a 29) cI 42 P0), (oa (a 30) cI 42 Q0), (oa (a 33) cI 42 ox), (oa (a 34) cI 42 oy), (oa (a 37) cZ 201 mt), (oa (a 38) cZ 201 wi), (oa (a 39) cZ 8040 ins), (oa (a 22) cI (64 * cl) la), (oa (a 23) cI (64 * cl) lb), (oa (a 24) cI (64 * cl) lc), (oa (a 25) cI (64 * cl) ld)] sz (some (.int 0)) (fun A t => ∃ (z9 : Int32), ∃ (S1 : Nat → Int32), ∃ (T1 : Nat → Int32), ∃ (P1 : Nat → Int32), ∃ (Q1 : Nat → Int32), zPD (dC, dI) classes A [(om k0 a (upd (upd (upd (upd (upd I0 14 7) 15 (I0 15 + 1)) 31 z9) 35 (nI on)) 36 ok) J0), (oa (a 1) cI 201 (upd kd f ok)), (oa (a 5) cI 201 st), (oa (a 7) cI 201 gb), (oa (a 10) cI 201 it), (oa (a 8) cI 201 pa), (oa (a 9) cI 201 pb), (oa (a 2) cI 201 rk), (oa (a 3) cI 201 wd), (oa (a 4) cI 201 tw), (oa (a 6) cZ 201 tn), (oa (a 11) cI 201 (upd mn f (nI on))), (oa (a 12) cI 8040 (fgX f on ox cx)), (oa (a 13) cI 8040 (fgX f on oy cy)), (oa (a 27) cI 516 sa), (oa (a 28) cI (4096 * cp) sh), (oa (a 16) cI 514 wh), (oa (a 17) cI 514 of9), (oa (a 18) cI 514 we), (oa (a 32) cI 8 S1), (oa (a 40) cI 6 T1), (oa (a 29) cI 42 P1), (oa (a 30) cI 42 Q1), (oa (a 33) cI 42 ox), (oa (a 34) cI 42 oy), (oa (a 37) cZ 201 mt), (oa (a 38) cZ 201 wi), (oa (a 39) cZ 8040 ins), (oa (a 22) cI (64 * cl) la), (oa (a 23) cI (64 * cl) lb), (oa (a 24) cI (64 * cl) lc), (oa (a 25) cI (64 * cl) ld)] t.heap) 0 0 := by
  refine zIn (own := "ScaleShopModel") (loc := [(0, .ref k0), (1, .int (nI f)), (2, .int 5)]) rfl rfl rfl rfl (fun p e s m below meth c hx hb hr hts hown hlocks hml hnm9 A hA hS hP hD hK hXN Q9 hQ9 ls hl => ?_)
  refine lv_aload_n hx hb dX11_changes_0 rfl (lv_at hl 0 rfl) ?_
  refine lv_iload_n hx hb dX11_changes_1 rfl (lv_at hl 1 rfl) ?_
  refine lv_iload_n hx hb dX11_changes_2 rfl (lv_at hl 2 rfl) ?_
  refine lv_iconst (v := (-1)) hx hb dX11_changes_3 rfl ?_
  obtain ⟨hPc, hDc, hFc⟩ := zo_sub (wc := [_, _, _, _, _, _, _, _, _, _, _, _, _, _, _, _]) hP hD hS hA [0, 2, 10, 1, 11, 12, 13, 19, 20, 21, 22, 23, 24, 25, 26, 27] (by decide +kernel) rfl
  refine zcall (st1 := [.int (pI (lwA ft st tn kd mn cx cy f n (ox 0) (oy 0) MT WI IN (sW0)))]) (va_runV (As := [.int (nI f), .int 5, .int (-1)]) (rest := []) ⟨hx, hb, hml, hown, hts⟩ (k_M_isLawful_s l dC dI cI cZ cF s.heap.size k0 a (upd (upd I0 35 (nI on)) 36 ok) J0 f n ft on st tn kd mn cx cy S0 T0 P0 Q0 ox oy mt wi ins MT WI IN (by first | with_reducible assumption | assumption) (by first | with_reducible assumption | omega) (by first | with_reducible assumption | omega) (by first | with_reducible assumption | assumption) (by first | with_reducible assumption | omega) (by first | with_reducible assumption | assumption) (rfl) (by first | with_reducible assumption | omega) (by first | with_reducible assumption | omega) (by first | with_reducible assumption | assumption) (by first | with_reducible assumption | assumption) (by first | with_reducible assumption | assumption) (by first | with_reducible assumption | assumption)) (csV_191 hts rfl rfl ⟨Nat.le_of_ble_eq_true rfl, Nat.le_of_ble_eq_true rfl⟩) (zPV2 (q0 := 0) (ci := 9) hPc hDc hK hXN rfl rfl) rfl rfl hl.1 rfl (lv_room (Nat.le_of_ble_eq_true rfl)) dX11_changes_4 ⟨Nat.le_of_ble_eq_true rfl, Nat.le_of_ble_eq_true rfl⟩) hS hFc hFc rfl (fun t H locs ht hB hk1 hS => ?_)
  obtain ⟨z8, S1, T1, P8, Q8, hP1, hD1⟩ := hB
  rw [ht] at hP1
  obtain ⟨hP, hD⟩ := zn (W2 := [(om k0 a (upd (upd (upd I0 31 z8) 35 (nI on)) 36 ok) J0), _, _, _, _, _, _, _, _, _, _, _, _, _, _, _, _, _, _, (oa (a 32) cI 8 S1), (oa (a 40) cI 6 T1), (oa (a 29) cI 42 P8), (oa (a 30) cI 42 Q8), _, _, _, _, _, _, _, _, _]) hP hD hk1 hFc hP1 hD1 zl_180 zl_181 zl_181 zl_180 (by decide +kernel) rfl rfl rfl rfl rfl
  clear hk1 hPc hDc hFc hP1 hD1 ht
  refine zz_i (v := pI (lwA ft st tn kd mn cx cy f n (ox 0) (oy 0) MT WI IN (sW0))) (rfl) ?_
  refine lv_if_ne (tgt := 22) hx hb dX11_changes_7 rfl (fun c_1 => ?_) (fun c_1 => ?_)
  · have c_1 : lwA ft st tn kd mn cx cy f n (ox 0) (oy 0) MT WI IN (sW0) := zp_1 c_1
    exfalso; exact absurd (by first | with_reducible assumption | assumption) hno
  · have c_1 : ¬ (lwA ft st tn kd mn cx cy f n (ox 0) (oy 0) MT WI IN (sW0)) := zp_0 c_1
    refine lv_aload_n hx hb dX11_changes_10 rfl (lv_at hl 0 rfl) ?_
    refine lv_iload_n hx hb dX11_changes_11 rfl (lv_at hl 1 rfl) ?_
    obtain ⟨hPc, hDc, hFc⟩ := zo_sub (wc := [_, _, _, _, _, _, _]) hP hD hS hA [0, 1, 11, 12, 13, 23, 24] (by decide +kernel) rfl
    refine zcall (st1 := []) (va_runV (As := [.int (nI f)]) (rest := []) ⟨hx, hb, hml, hown, hts⟩ (k_M_forgetNew l dC dI cI cZ cF H.size k0 a (upd (upd (upd I0 31 z8) 35 (nI on)) 36 ok) J0 f on kd mn cx cy ox oy (by first | with_reducible assumption | omega) (rfl) (by first | with_reducible assumption | omega)) (csV_192 hts rfl rfl ⟨Nat.le_of_ble_eq_true rfl, Nat.le_of_ble_eq_true rfl⟩) (zPV2 (q0 := 0) (ci := 9) hPc hDc hK hXN rfl rfl) rfl rfl hl.1 rfl (lv_room (Nat.le_of_ble_eq_true rfl)) dX11_changes_12 ⟨Nat.le_of_ble_eq_true rfl, Nat.le_of_ble_eq_true rfl⟩) hS hFc hFc rfl (fun t H locs ht hB hk1 hS => ?_)
    obtain ⟨cx1, cy1, hc1, hc2, hP1, hD1⟩ := hB
    rw [ht] at hP1
    obtain ⟨hP, hD⟩ := zn (W2 := [_, (oa (a 1) cI 201 (upd kd f ((upd (upd (upd I0 31 z8) 35 (nI on)) 36 ok) 36))), _, _, _, _, _, _, _, _, _, (oa (a 11) cI 201 (upd mn f (nI on))), (oa (a 12) cI 8040 cx1), (oa (a 13) cI 8040 cy1), _, _, _, _, _, _, _, _, _, _, _, _, _, _, _, _, _, _]) hP hD hk1 hFc hP1 hD1 [0, 1, 11, 12, 13, 23, 24] zl_182 zl_182 [0, 1, 11, 12, 13, 23, 24] (by decide +kernel) rfl rfl rfl rfl rfl
    clear hk1 hPc hDc hFc hP1 hD1 ht
    have hfx := fgX_of (fun j hj => (hc1 j hj).1) (fun j hj => (hc2 j hj).1)
    have hfy := fgX_of (fun j hj => (hc1 j hj).2) (fun j hj => (hc2 j hj).2)
    refine lv_aload_n hx hb dX11_changes_15 rfl (lv_at hl 0 rfl) ?_
    refine lv_bipush (v := 7) hx hb dX11_changes_16 rfl ?_
    obtain ⟨hPc, hDc, hFc⟩ := zo_sub (wc := [_]) hP hD hS hA [0] rfl rfl
    refine zcall (st1 := [.int 0]) (va_runV (As := [.int 7]) (rest := []) ⟨hx, hb, hml, hown, hts⟩ (k_M_no_7 l dC dI cI cZ cF H.size k0 a (upd (upd (upd I0 31 z8) 35 (nI on)) 36 ok) J0 ) (csV_198 hts rfl rfl ⟨Nat.le_of_ble_eq_true rfl, Nat.le_of_ble_eq_true rfl⟩) (zPV2 (q0 := 0) (ci := 9) hPc hDc hK hXN rfl rfl) rfl rfl hl.1 rfl (lv_room (Nat.le_of_ble_eq_true rfl)) dX11_changes_18 ⟨Nat.le_of_ble_eq_true rfl, Nat.le_of_ble_eq_true rfl⟩) hS hFc hFc rfl (fun t H locs ht hB hk1 hS => ?_)
    obtain ⟨hP1, hD1⟩ := hB
    rw [ht] at hP1
    obtain ⟨hP, hD⟩ := zn (W2 := [(om k0 a (upd (upd (upd (upd (upd I0 14 7) 15 (I0 15 + 1)) 31 z8) 35 (nI on)) 36 ok) J0), _, _, _, _, _, _, _, _, _, _, _, _, _, _, _, _, _, _, _, _, _, _, _, _, _, _, _, _, _, _, _]) hP hD hk1 hFc hP1 hD1 [0] zl_183 zl_183 [0] (by decide +kernel) rfl rfl rfl rfl rfl
    clear hk1 hPc hDc hFc hP1 hD1 ht
    obtain ⟨hP9, hD9⟩ := zu_sub (wc := [(om k0 a (upd (upd (upd (upd (upd I0 14 7) 15 (I0 15 + 1)) 31 z8) 35 (nI on)) 36 ok) J0), (oa (a 1) cI 201 (upd kd f ((upd (upd (upd I0 31 z8) 35 (nI on)) 36 ok) 36))), (oa (a 5) cI 201 st), (oa (a 7) cI 201 gb), (oa (a 10) cI 201 it), (oa (a 8) cI 201 pa), (oa (a 9) cI 201 pb), (oa (a 2) cI 201 rk), (oa (a 3) cI 201 wd), (oa (a 4) cI 201 tw), (oa (a 6) cZ 201 tn), (oa (a 11) cI 201 (upd mn f (nI on))), (oa (a 12) cI 8040 cx1), (oa (a 13) cI 8040 cy1), (oa (a 27) cI 516 sa), (oa (a 28) cI (4096 * cp) sh), (oa (a 16) cI 514 wh), (oa (a 17) cI 514 of9), (oa (a 18) cI 514 we), (oa (a 32) cI 8 S1), (oa (a 40) cI 6 T1), (oa (a 29) cI 42 P8), (oa (a 30) cI 42 Q8), (oa (a 33) cI 42 ox), (oa (a 34) cI 42 oy), (oa (a 37) cZ 201 mt), (oa (a 38) cZ 201 wi), (oa (a 39) cZ 8040 ins), (oa (a 22) cI (64 * cl) la), (oa (a 23) cI (64 * cl) lb), (oa (a 24) cI (64 * cl) lc), (oa (a 25) cI (64 * cl) ld)]) hP hD (true :: true :: true :: true :: true :: true :: true :: true :: true :: true :: true :: true :: true :: true :: true :: true :: true :: true :: true :: true :: true :: true :: true :: true :: true :: true :: true :: true :: true :: true :: true :: true :: []) rfl rfl
    have hE9 : ([(om k0 a (upd (upd (upd (upd (upd I0 14 7) 15 (I0 15 + 1)) 31 z8) 35 (nI on)) 36 ok) J0), (oa (a 1) cI 201 (upd kd f ((upd (upd (upd I0 31 z8) 35 (nI on)) 36 ok) 36))), (oa (a 5) cI 201 st), (oa (a 7) cI 201 gb), (oa (a 10) cI 201 it), (oa (a 8) cI 201 pa), (oa (a 9) cI 201 pb), (oa (a 2) cI 201 rk), (oa (a 3) cI 201 wd), (oa (a 4) cI 201 tw), (oa (a 6) cZ 201 tn), (oa (a 11) cI 201 (upd mn f (nI on))), (oa (a 12) cI 8040 cx1), (oa (a 13) cI 8040 cy1), (oa (a 27) cI 516 sa), (oa (a 28) cI (4096 * cp) sh), (oa (a 16) cI 514 wh), (oa (a 17) cI 514 of9), (oa (a 18) cI 514 we), (oa (a 32) cI 8 S1), (oa (a 40) cI 6 T1), (oa (a 29) cI 42 P8), (oa (a 30) cI 42 Q8), (oa (a 33) cI 42 ox), (oa (a 34) cI 42 oy), (oa (a 37) cZ 201 mt), (oa (a 38) cZ 201 wi), (oa (a 39) cZ 8040 ins), (oa (a 22) cI (64 * cl) la), (oa (a 23) cI (64 * cl) lb), (oa (a 24) cI (64 * cl) lc), (oa (a 25) cI (64 * cl) ld)] : va_W) = [(om k0 a (upd (upd (upd (upd (upd I0 14 7) 15 (I0 15 + 1)) 31 z8) 35 (nI on)) 36 ok) J0), (oa (a 1) cI 201 (upd kd f ok)), (oa (a 5) cI 201 st), (oa (a 7) cI 201 gb), (oa (a 10) cI 201 it), (oa (a 8) cI 201 pa), (oa (a 9) cI 201 pb), (oa (a 2) cI 201 rk), (oa (a 3) cI 201 wd), (oa (a 4) cI 201 tw), (oa (a 6) cZ 201 tn), (oa (a 11) cI 201 (upd mn f (nI on))), (oa (a 12) cI 8040 (fgX f on ox cx)), (oa (a 13) cI 8040 (fgX f on oy cy)), (oa (a 27) cI 516 sa), (oa (a 28) cI (4096 * cp) sh), (oa (a 16) cI 514 wh), (oa (a 17) cI 514 of9), (oa (a 18) cI 514 we), (oa (a 32) cI 8 S1), (oa (a 40) cI 6 T1), (oa (a 29) cI 42 P8), (oa (a 30) cI 42 Q8), (oa (a 33) cI 42 ox), (oa (a 34) cI 42 oy), (oa (a 37) cZ 201 mt), (oa (a 38) cZ 201 wi), (oa (a 39) cZ 8040 ins), (oa (a 22) cI (64 * cl) la), (oa (a 23) cI (64 * cl) lb), (oa (a 24) cI (64 * cl) lc), (oa (a 25) cI (64 * cl) ld)] := by rw [hfx, hfy]; try rfl
    rw [hE9] at hP9 hD9
    rw [hQ9]
    exact W.zret (ty := .boolean) (v := 0) hx hb hr (rfl) (fun t ht hW => ⟨⟨rfl, z8, S1, T1, P8, Q8, by rw [ht]; exact hP9, hD9⟩, hS.F ht⟩) hS.2.2 dX11_changes_21
set_option maxHeartbeats 4000000 in
set_option maxRecDepth 100000 in
theorem k_M_changes_sy (l : Launch) (dC : Nat → ClassId) (dI : Nat → Nat → Nat) (cI cZ cF : ClassId) (sz : Nat) (k0 : Nat) (a : Nat → Nat) (I0 : Nat → Int32) (J0 : Nat → Int64) (f : Nat) (n : Nat) (ft : Nat) (on : Nat) (ok : Int32) (kd : Nat → Int32) (st : Nat → Int32) (gb : Nat → Int32) (it : Nat → Int32) (pa : Nat → Int32) (pb : Nat → Int32) (rk : Nat → Int32) (wd : Nat → Int32) (tw : Nat → Int32) (tn : Nat → Int32) (mn : Nat → Int32) (cx : Nat → Int32) (cy : Nat → Int32) (sa : Nat → Int32) (sh : Nat → Int32) (wh : Nat → Int32) (of9 : Nat → Int32) (we : Nat → Int32) (S0 : Nat → Int32) (T0 : Nat → Int32) (P0 : Nat → Int32) (Q0 : Nat → Int32) (ox : Nat → Int32) (oy : Nat → Int32) (mt : Nat → Int32) (wi : Nat → Int32) (ins : Nat → Int32) (la : Nat → Int32) (lb : Nat → Int32) (lc : Nat → Int32) (ld : Nat → Int32) (MT : Nat → Prop) (WI : Nat → Prop) (IN : Nat → Nat → Prop) (dn : Nat) (bs : Nat) (w0 : Nat) (cp : Nat) (c1 : Nat) (c2 : Nat) (ln : Nat) (cl : Nat) (hft : I0 0 = nI ft) (h200 : ft ≤ 200) (hf_f : f ≤ 200) (hm_f : mn f = nI n) (hn_f : n ≤ 40) (hwf : ∀ q, lvF ft st tn q → q ≠ f → wfM mn cx cy q) (ho40 : on ≤ 40) (ho1 : 1 ≤ on) (hpo : pls on ox oy) (hmt : ∀ q, lvF ft st tn q → q ≠ f → mt q = pI (MT q)) (hwi : ∀ q, lvF ft st tn q → q ≠ f → 5 ≤ (kd q).toInt → wi q = pI (WI q)) (hin : ∀ q, lvF ft st tn q → q ≠ f → ∀ k, k < nN (mn q) → 5 ≤ (kd f).toInt → ins (40 * q + k) = pI (IN q k)) (hft_f : f < ft) (hdn : I0 19 = nI dn) (hbs : I0 21 = nI bs) (hbd : bs ≤ dn) (hd512 : dn ≤ 512) (hi5_1 : (dn - bs) < 515) (hsa_1 : sa (dn - bs) = nI w0) (hmn_1 : ∀ v9, v9 < ft → (tn v9).toInt = 0 → ¬ (st v9).toInt = 0 → (upd mn f (nI on)) v9 = nI (nN ((upd mn f (nI on)) v9)) ∧ nN ((upd mn f (nI on)) v9) ≤ 40) (hc1_1 : 1 ≤ cp) (hpw_1 : pw cp c1) (hw0_1 : w0 ≤ 4096 * cp) (hfit_1 : psN (nnF st tn (upd mn f (nI on))) w0 ft ≤ 4096 * c1) (hmin_1 : c1 = cp ∨ 2048 * c1 < psN (nnF st tn (upd mn f (nI on))) w0 ft) (hcE_1 : c1 ≤ 512) (hmn_2 : ∀ f, f < ft → (tn f).toInt = 0 → ¬ (st f).toInt = 0 → mn f = nI (nN (mn f)) ∧ nN (mn f) ≤ 40) (hpw_2 : pw c1 c2) (hfit_2 : psN (nnF st tn mn) (psN (nnF st tn (upd mn f (nI on))) w0 ft) ft ≤ 4096 * c2) (hmin_2 : c2 = c1 ∨ 2048 * c2 < psN (nnF st tn mn) (psN (nnF st tn (upd mn f (nI on))) w0 ft) ft) (hcE_2 : c2 ≤ 512) (hrow : ∀ j, n ≤ j → j < on → cx (40 * f + j) = ox j ∧ cy (40 * f + j) = oy j) (hlc : ln ≤ 64 * cl) (hcl1 : 1 ≤ cl) (hclm : cl ≤ 1000000) (hlc9 : True) (hyes : lwA ft st tn kd mn cx cy f n (ox 0) (oy 0) MT WI IN (sW0)) : zM l yX11_changes cX11_changes 5 (some .boolean) ({ frames := 6, cells := c2 - cp, slots := 8192 * (c2 - cp), locals := 159 } : Room) [.ref k0, .int (nI f), .int 5] (dC, dI) (zTy cI cZ cF) [(om k0 a (upd (upd (upd I0 26 (nI ln)) 35 (nI on)) 36 ok) J0), (oa (a 1) cI 201 kd), (oa (a 5) cI 201 st), (oa (a 7) cI 201 gb), (oa (a 10) cI 201 it), (oa (a 8) cI 201 pa), (oa (a 9) cI 201 pb), (oa (a 2) cI 201 rk), (oa (a 3) cI 201 wd), (oa (a 4) cI 201 tw), (oa (a 6) cZ 201 tn), (oa (a 11) cI 201 mn), (oa (a 12) cI 8040 cx), (oa (a 13) cI 8040 cy), (oa (a 27) cI 516 sa), (oa (a 28) cI (4096 * cp) sh), (oa (a 16) cI 514 wh), (oa (a 17) cI 514 of9), (oa (a 18) cI 514 we), (oa (a 32) cI 8 S0), (oa (a 40) cI 6 T0), (oa (a 29) cI 42 P0), (oa (a 30) cI 42 Q0), (oa (a 33) cI 42 ox), (oa (a 34) cI 42 oy), (oa (a 37) cZ 201 mt), (oa (a 38) cZ 201 wi), (oa (a 39) cZ 8040 ins), (oa (a 22) cI (64 * cl) la), (oa (a 23) cI (64 * cl) lb), (oa (a 24) cI (64 * cl) lc), (oa (a 25) cI (64 * cl) ld)] sz (some (.int 1)) (fun A t => ∃ (z9 : Int32), ∃ (b2 : Nat), ∃ (sh2 : Nat → Int32), ∃ (t9 : Nat), ∃ (S1 : Nat → Int32), ∃ (T1 : Nat → Int32), ∃ (P1 : Nat → Int32), ∃ (Q1 : Nat → Int32), ∃ (la1 : Nat → Int32), ∃ (lb1 : Nat → Int32), ∃ (lc1 : Nat → Int32), ∃ (ld1 : Nat → Int32), (sh2 w0 = nI ft) ∧ (∀ j, j < w0 → sh2 j = sh j) ∧ (∀ g, g < ft → ∀ j, j < 10 + 2 * (nnF st tn (upd mn f (nI on))) g → sh2 (psN (nnF st tn (upd mn f (nI on))) w0 g + j) = (shD (upd kd f ok) st gb it pa pb rk wd tw (nnF st tn (upd mn f (nI on))) (fgX f on ox cx) (fgX f on oy cy)) g j) ∧ (sh2 (psN (nnF st tn (upd mn f (nI on))) w0 ft) = nI ft) ∧ (∀ g, g < ft → ∀ j, j < 10 + 2 * (nnF st tn mn) g → sh2 (psN (nnF st tn mn) (psN (nnF st tn (upd mn f (nI on))) w0 ft) g + j) = (shD kd st gb it pa pb rk wd tw (nnF st tn mn) cx cy) g j) ∧ (t9 ≤ ln) ∧ (∀ j, j < t9 → ∃ i, i < ln ∧ lb1 j = lb i ∧ lc1 j = lc i) ∧ zPD (dC, dI) classes A [(om k0 (va_up a 28 b2) (upd (upd (upd (upd (upd (upd (upd (upd I0 14 0) 19 (nI (dn + 1))) 20 0) 26 (nI t9)) 31 z9) 35 (nI on)) 36 ok) 41 (nI (psN (nnF st tn mn) (psN (nnF st tn (upd mn f (nI on))) w0 ft) ft))) J0), (oa (a 1) cI 201 kd), (oa (a 5) cI 201 st), (oa (a 7) cI 201 gb), (oa (a 10) cI 201 it), (oa (a 8) cI 201 pa), (oa (a 9) cI 201 pb), (oa (a 2) cI 201 rk), (oa (a 3) cI 201 wd), (oa (a 4) cI 201 tw), (oa (a 6) cZ 201 tn), (oa (a 11) cI 201 mn), (oa (a 12) cI 8040 cx), (oa (a 13) cI 8040 cy), (oa (a 27) cI 516 (upd (upd sa (dn - bs + 1) (nI (psN (nnF st tn (upd mn f (nI on))) w0 ft))) (dn + 1 - bs + 1) (nI (psN (nnF st tn mn) (psN (nnF st tn (upd mn f (nI on))) w0 ft) ft)))), (oa b2 cI (4096 * c2) sh2), (oa (a 16) cI 514 (upd wh (dn + 1) (5 : Int32))), (oa (a 17) cI 514 (upd of9 (dn + 1) (nI f))), (oa (a 18) cI 514 (upd we (dn + 1) (0 : Int32))), (oa (a 32) cI 8 S1), (oa (a 40) cI 6 T1), (oa (a 29) cI 42 P1), (oa (a 30) cI 42 Q1), (oa (a 33) cI 42 ox), (oa (a 34) cI 42 oy), (oa (a 37) cZ 201 mt), (oa (a 38) cZ 201 wi), (oa (a 39) cZ 8040 ins), (oa (a 22) cI (64 * cl) la1), (oa (a 23) cI (64 * cl) lb1), (oa (a 24) cI (64 * cl) lc1), (oa (a 25) cI (64 * cl) ld1)] t.heap) (c2 - cp) (8192 * (c2 - cp)) := by
  refine zIn (own := "ScaleShopModel") (loc := [(0, .ref k0), (1, .int (nI f)), (2, .int 5)]) rfl rfl rfl rfl (fun p e s m below meth c hx hb hr hts hown hlocks hml hnm9 A hA hS hP hD hK hXN Q9 hQ9 ls hl => ?_)
  have hq1 := pw_le hpw_1
  have hq2 := pw_le hpw_2
  refine lv_aload_n hx hb dX11_changes_0 rfl (lv_at hl 0 rfl) ?_
  refine lv_iload_n hx hb dX11_changes_1 rfl (lv_at hl 1 rfl) ?_
  refine lv_iload_n hx hb dX11_changes_2 rfl (lv_at hl 2 rfl) ?_
  refine lv_iconst (v := (-1)) hx hb dX11_changes_3 rfl ?_
  obtain ⟨hPc, hDc, hFc⟩ := zo_sub (wc := [_, _, _, _, _, _, _, _, _, _, _, _, _, _, _, _]) hP hD hS hA [0, 2, 10, 1, 11, 12, 13, 19, 20, 21, 22, 23, 24, 25, 26, 27] (by decide +kernel) rfl
  refine zcall (st1 := [.int (pI (lwA ft st tn kd mn cx cy f n (ox 0) (oy 0) MT WI IN (sW0)))]) (va_runV (As := [.int (nI f), .int 5, .int (-1)]) (rest := []) ⟨hx, hb, hml, hown, hts⟩ (k_M_isLawful_s l dC dI cI cZ cF s.heap.size k0 a (upd (upd (upd I0 26 (nI ln)) 35 (nI on)) 36 ok) J0 f n ft on st tn kd mn cx cy S0 T0 P0 Q0 ox oy mt wi ins MT WI IN (by first | with_reducible assumption | assumption) (by first | with_reducible assumption | omega) (by first | with_reducible assumption | omega) (by first | with_reducible assumption | assumption) (by first | with_reducible assumption | omega) (by first | with_reducible assumption | assumption) (rfl) (by first | with_reducible assumption | omega) (by first | with_reducible assumption | omega) (by first | with_reducible assumption | assumption) (by first | with_reducible assumption | assumption) (by first | with_reducible assumption | assumption) (by first | with_reducible assumption | assumption)) (csV_191 hts rfl rfl ⟨Nat.le_of_ble_eq_true rfl, Nat.le_of_ble_eq_true rfl⟩) (zPV2 (q0 := 0) (ci := 9) hPc hDc hK hXN rfl rfl) rfl rfl hl.1 rfl (lv_room (Nat.le_of_ble_eq_true rfl)) dX11_changes_4 ⟨Nat.zero_le _, Nat.zero_le _⟩) hS hFc hFc rfl (fun t H locs ht hB hk1 hS => ?_)
  obtain ⟨z8, S1, T1, P8, Q8, hP1, hD1⟩ := hB
  rw [ht] at hP1
  obtain ⟨hP, hD⟩ := zn (W2 := [(om k0 a (upd (upd (upd (upd I0 26 (nI ln)) 31 z8) 35 (nI on)) 36 ok) J0), _, _, _, _, _, _, _, _, _, _, _, _, _, _, _, _, _, _, (oa (a 32) cI 8 S1), (oa (a 40) cI 6 T1), (oa (a 29) cI 42 P8), (oa (a 30) cI 42 Q8), _, _, _, _, _, _, _, _, _]) hP hD hk1 hFc hP1 hD1 zl_180 zl_181 zl_181 zl_180 (by decide +kernel) rfl rfl rfl rfl rfl
  clear hk1 hPc hDc hFc hP1 hD1 ht
  refine zz_i (v := pI (lwA ft st tn kd mn cx cy f n (ox 0) (oy 0) MT WI IN (sW0))) (rfl) ?_
  refine lv_if_ne (tgt := 22) hx hb dX11_changes_7 rfl (fun c_1 => ?_) (fun c_1 => ?_)
  · have c_1 : lwA ft st tn kd mn cx cy f n (ox 0) (oy 0) MT WI IN (sW0) := zp_1 c_1
    refine lv_aload_n hx hb dX11_changes_22 rfl (lv_at hl 0 rfl) ?_
    refine lv_iload_n hx hb dX11_changes_23 rfl (lv_at hl 1 rfl) ?_
    obtain ⟨hPc, hDc, hFc⟩ := zo_sub (wc := [_, _, _, _, _, _]) hP hD hS hA [0, 11, 12, 13, 21, 22] (by decide +kernel) rfl
    refine zcall (st1 := []) (va_runV (As := [.int (nI f)]) (rest := []) ⟨hx, hb, hml, hown, hts⟩ (k_M_take l dC dI cI cZ cF H.size k0 a (upd (upd (upd (upd I0 26 (nI ln)) 31 z8) 35 (nI on)) 36 ok) J0 f n mn cx cy P8 Q8 (by first | with_reducible assumption | omega) (by first | with_reducible assumption | assumption) (by first | with_reducible assumption | omega)) (csV_173 hts rfl rfl ⟨Nat.le_of_ble_eq_true rfl, Nat.le_of_ble_eq_true rfl⟩) (zPV2 (q0 := 0) (ci := 9) hPc hDc hK hXN rfl rfl) rfl rfl hl.1 rfl (lv_room (Nat.le_of_ble_eq_true rfl)) dX11_changes_24 ⟨Nat.zero_le _, Nat.zero_le _⟩) hS hFc hFc rfl (fun t H locs ht hB hk1 hS => ?_)
    obtain ⟨P1, Q1, htk, hP1, hD1⟩ := hB
    rw [ht] at hP1
    obtain ⟨hP, hD⟩ := zn (W2 := [(om k0 a (upd (upd (upd (upd I0 26 (nI ln)) 31 (nI n)) 35 (nI on)) 36 ok) J0), _, _, _, _, _, _, _, _, _, _, _, _, _, _, _, _, _, _, _, _, (oa (a 29) cI 42 P1), (oa (a 30) cI 42 Q1), _, _, _, _, _, _, _, _, _]) hP hD hk1 hFc hP1 hD1 [0, 11, 12, 13, 21, 22] zl_184 zl_184 [0, 11, 12, 13, 21, 22] (by decide +kernel) rfl rfl rfl rfl rfl
    clear hk1 hPc hDc hFc hP1 hD1 ht
    refine lv_aload_n hx hb dX11_changes_27 rfl (lv_at hl 0 rfl) ?_
    refine va_get (D := (dC, dI)) (ci := 9) (v := .ref (a 1)) (C := RX11) (T := TX11) (N := 55) hx hb hts inX11 hown hK hP 0 rfl rfl 1 (Nat.le_of_ble_eq_true rfl) (hts _ mw_1160) (fun _ h9 => h9) rfl dX11_changes_28 ?_
    refine lv_iload_n hx hb dX11_changes_31 rfl (lv_at hl 1 rfl) ?_
    have b9_2 : f < 201 := by omega
    refine z_iald hx hb hK hP 1 0 rfl rfl (e := f) rfl b9_2 (Nat.le_of_ble_eq_true rfl) dX11_changes_32 ?_
    refine zz_i (v := kd f) (rfl) ?_
    refine lv_istore_n (lv' := [(3, .int (kd f)), (0, .ref k0), (1, .int (nI f)), (2, .int 5)]) hx hb dX11_changes_33 rfl hl (Nat.le_of_ble_eq_true rfl) rfl (fun ls hl => ?_)
    refine lv_aload_n hx hb dX11_changes_34 rfl (lv_at hl 1 rfl) ?_
    refine lv_iload_n hx hb dX11_changes_35 rfl (lv_at hl 2 rfl) ?_
    obtain ⟨hPc, hDc, hFc⟩ := zo_sub (wc := [_, _, _, _, _, _, _]) hP hD hS hA [0, 1, 11, 12, 13, 23, 24] (by decide +kernel) rfl
    refine zcall (st1 := []) (va_runV (As := [.int (nI f)]) (rest := []) ⟨hx, hb, hml, hown, hts⟩ (k_M_forgetNew l dC dI cI cZ cF H.size k0 a (upd (upd (upd (upd I0 26 (nI ln)) 31 (nI n)) 35 (nI on)) 36 ok) J0 f on kd mn cx cy ox oy (by first | with_reducible assumption | omega) (rfl) (by first | with_reducible assumption | omega)) (csV_192 hts rfl rfl ⟨Nat.le_of_ble_eq_true rfl, Nat.le_of_ble_eq_true rfl⟩) (zPV2 (q0 := 0) (ci := 9) hPc hDc hK hXN rfl rfl) rfl rfl hl.1 rfl (lv_room (Nat.le_of_ble_eq_true rfl)) dX11_changes_36 ⟨Nat.zero_le _, Nat.zero_le _⟩) hS hFc hFc rfl (fun t H locs ht hB hk1 hS => ?_)
    obtain ⟨cx1, cy1, hc1, hc2, hP1, hD1⟩ := hB
    rw [ht] at hP1
    obtain ⟨hP, hD⟩ := zn (W2 := [_, (oa (a 1) cI 201 (upd kd f ((upd (upd (upd (upd I0 26 (nI ln)) 31 (nI n)) 35 (nI on)) 36 ok) 36))), _, _, _, _, _, _, _, _, _, (oa (a 11) cI 201 (upd mn f (nI on))), (oa (a 12) cI 8040 cx1), (oa (a 13) cI 8040 cy1), _, _, _, _, _, _, _, _, _, _, _, _, _, _, _, _, _, _]) hP hD hk1 hFc hP1 hD1 [0, 1, 11, 12, 13, 23, 24] zl_182 zl_182 [0, 1, 11, 12, 13, 23, 24] (by decide +kernel) rfl rfl rfl rfl rfl
    clear hk1 hPc hDc hFc hP1 hD1 ht
    have hfx := fgX_of (fun j hj => (hc1 j hj).1) (fun j hj => (hc2 j hj).1)
    have hfy := fgX_of (fun j hj => (hc1 j hj).2) (fun j hj => (hc2 j hj).2)
    rw [hfx, hfy] at hP hD
    refine lv_aload_n hx hb dX11_changes_39 rfl (lv_at hl 1 rfl) ?_
    obtain ⟨hPc, hDc, hFc⟩ := zo_sub (wc := [_, _, _, _, _, _, _, _, _, _, _, _, _, _, _, _]) hP hD hS hA [0, 1, 2, 3, 4, 5, 6, 7, 8, 9, 10, 11, 12, 13, 14, 15] (by decide +kernel) rfl
    refine zcall (st1 := []) (va_runV (As := []) (rest := []) ⟨hx, hb, hml, hown, hts⟩ (k_M_begins l dC dI cI cZ cF H.size k0 a (upd (upd (upd (upd I0 26 (nI ln)) 31 (nI n)) 35 (nI on)) 36 ok) J0 dn bs ft w0 cp c1 (upd kd f ((upd (upd (upd (upd I0 26 (nI ln)) 31 (nI n)) 35 (nI on)) 36 ok) 36)) st gb it pa pb rk wd tw tn (upd mn f (nI on)) (fgX f on ox cx) (fgX f on oy cy) sa sh (hft) (by first | with_reducible assumption | omega) (hdn) (hbs) (by first | with_reducible assumption | omega) (by first | with_reducible assumption | omega) (hi5_1) (hsa_1) (hmn_1) (hc1_1) (hpw_1) (hw0_1) (hfit_1) (hmin_1) (hcE_1)) (csV_205 hts rfl rfl ⟨Nat.le_of_ble_eq_true rfl, Nat.le_of_ble_eq_true rfl⟩) (zPV2 (q0 := 0) (ci := 9) hPc hDc hK hXN rfl rfl) rfl rfl hl.1 rfl (lv_room (Nat.le_of_ble_eq_true rfl)) dX11_changes_40 ⟨show (0 + (c1 - cp)) ≤ c2 - cp by omega, show (0 + (8192 * (c1 - cp))) ≤ 8192 * (c2 - cp) by omega⟩) hS hFc hFc rfl (fun t H locs ht hB hk1 hS => ?_)
    obtain ⟨b1, sh1, g1, g2, g3, g4, hP1, hD1⟩ := hB
    rw [ht] at hP1
    obtain ⟨hP, hD⟩ := zn (W2 := [_, _, _, _, _, _, _, _, _, _, _, _, _, _, _, _, (om k0 (va_up a 28 b1) (upd (upd (upd (upd (upd I0 26 (nI ln)) 31 (nI n)) 35 (nI on)) 36 ok) 41 (nI (psN (nnF st tn (upd mn f (nI on))) w0 ft))) J0), (oa (a 1) cI 201 (upd kd f ((upd (upd (upd (upd I0 26 (nI ln)) 31 (nI n)) 35 (nI on)) 36 ok) 36))), (oa (a 5) cI 201 st), (oa (a 7) cI 201 gb), (oa (a 10) cI 201 it), (oa (a 8) cI 201 pa), (oa (a 9) cI 201 pb), (oa (a 2) cI 201 rk), (oa (a 3) cI 201 wd), (oa (a 4) cI 201 tw), (oa (a 6) cZ 201 tn), (oa (a 11) cI 201 (upd mn f (nI on))), (oa (a 12) cI 8040 (fgX f on ox cx)), (oa (a 13) cI 8040 (fgX f on oy cy)), (oa (a 27) cI 516 (upd sa ((dn - bs) + 1) (nI (psN (nnF st tn (upd mn f (nI on))) w0 ft)))), (oa b1 cI (4096 * c1) sh1)]) hP hD hk1 hFc hP1 hD1 zl_80 zl_185 zl_186 zl_187 (by decide +kernel) rfl rfl rfl rfl rfl
    clear hk1 hPc hDc hFc hP1 hD1 ht
    refine lv_aload_n hx hb dX11_changes_43 rfl (lv_at hl 1 rfl) ?_
    refine va_get (D := (dC, dI)) (ci := 9) (v := .ref (a 1)) (C := RX11) (T := TX11) (N := 55) hx hb hts inX11 hown hK hP 16 rfl rfl 1 (Nat.le_of_ble_eq_true rfl) (hts _ mw_1160) (fun _ h9 => h9) rfl dX11_changes_44 ?_
    refine lv_iload_n hx hb dX11_changes_47 rfl (lv_at hl 2 rfl) ?_
    refine lv_iload_n hx hb dX11_changes_48 rfl (lv_at hl 0 rfl) ?_
    refine z_iast hx hb hK hP hD hS 17 0 rfl rfl (e := f) (x := kd f) rfl b9_2 (Nat.le_of_ble_eq_true rfl) dX11_changes_49 (fun H locs hP hD hS => ?_)
    obtain ⟨hP, hD⟩ := zre (W2 := [_, _, _, _, _, _, _, _, _, _, _, _, _, _, _, _, _, (oa (a 1) cI 201 (upd (upd kd f ((upd (upd (upd (upd I0 26 (nI ln)) 31 (nI n)) 35 (nI on)) 36 ok) 36)) f (kd f))), _, _, _, _, _, _, _, _, _, _, _, _, _, _]) hP hD rfl
    refine lv_aload_n hx hb dX11_changes_50 rfl (lv_at hl 1 rfl) ?_
    refine lv_iload_n hx hb dX11_changes_51 rfl (lv_at hl 2 rfl) ?_
    obtain ⟨hPc, hDc, hFc⟩ := zo_sub (wc := [_, _, _, _, _, _]) hP hD hS hA [16, 27, 28, 29, 5, 6] (by decide +kernel) rfl
    refine zcall (st1 := []) (va_runV (As := [.int (nI f)]) (rest := []) ⟨hx, hb, hml, hown, hts⟩ (k_M_give l dC dI cI cZ cF H.size k0 (va_up a 28 b1) (upd (upd (upd (upd (upd I0 26 (nI ln)) 31 (nI n)) 35 (nI on)) 36 ok) 41 (nI (psN (nnF st tn (upd mn f (nI on))) w0 ft))) J0 f n (upd mn f (nI on)) (fgX f on ox cx) (fgX f on oy cy) P1 Q1 (by first | with_reducible assumption | omega) (rfl) (by first | with_reducible assumption | omega)) (csV_206 hts rfl rfl ⟨Nat.le_of_ble_eq_true rfl, Nat.le_of_ble_eq_true rfl⟩) (zPV2 (q0 := 0) (ci := 9) hPc hDc hK hXN rfl rfl) rfl rfl hl.1 rfl (lv_room (Nat.le_of_ble_eq_true rfl)) dX11_changes_52 ⟨show (0 + (c1 - cp)) ≤ c2 - cp by omega, show (0 + (8192 * (c1 - cp))) ≤ 8192 * (c2 - cp) by omega⟩) hS hFc hFc rfl (fun t H locs ht hB hk1 hS => ?_)
    obtain ⟨cx3, cy3, hg1, hg2, hP1, hD1⟩ := hB
    rw [ht] at hP1
    obtain ⟨hP, hD⟩ := zn (W2 := [_, _, _, _, _, _, _, _, _, _, _, _, _, _, _, _, _, _, _, _, _, _, _, _, _, _, _, (oa (a 11) cI 201 (upd (upd mn f (nI on)) f (nI n))), (oa (a 12) cI 8040 cx3), (oa (a 13) cI 8040 cy3), _, _]) hP hD hk1 hFc hP1 hD1 [16, 27, 28, 29, 5, 6] zl_188 zl_188 [16, 27, 28, 29, 5, 6] (by decide +kernel) rfl rfl rfl rfl rfl
    clear hk1 hPc hDc hFc hP1 hD1 ht
    have hgx := gv_of (c := cx) rfl (fun j hj => (htk j hj).1) (fun j h1 h2 => (hrow j h1 h2).1) (fun j hj => (hg1 j hj).1) (fun j hj => (hg2 j hj).1)
    have hgy := gv_of (c := cy) rfl (fun j hj => (htk j hj).2) (fun j h1 h2 => (hrow j h1 h2).2) (fun j hj => (hg1 j hj).2) (fun j hj => (hg2 j hj).2)
    rw [hgx, hgy, show (upd (upd kd f ((upd (upd (upd (upd I0 26 (nI ln)) 31 (nI n)) 35 (nI on)) 36 ok) 36)) f (kd f) : Nat → Int32) = kd from upd_back rfl, show (upd (upd mn f (nI on)) f (nI n) : Nat → Int32) = mn from upd_back hm_f] at hP hD
    refine lv_aload_n hx hb dX11_changes_55 rfl (lv_at hl 1 rfl) ?_
    refine lv_aload_n hx hb dX11_changes_56 rfl (lv_at hl 1 rfl) ?_
    refine va_get (D := (dC, dI)) (ci := 9) (v := .int (nI ln)) (C := RX11) (T := TX11) (N := 55) hx hb hts inX11 hown hK hP 16 rfl rfl 26 (Nat.le_of_ble_eq_true rfl) (hts _ mw_1185) (fun _ h9 => h9) rfl dX11_changes_57 ?_
    obtain ⟨hPc, hDc, hFc⟩ := zo_sub (wc := [_, _, _, _, _]) hP hD hS hA [16, 12, 13, 14, 15] (by decide +kernel) rfl
    refine zcall (st1 := []) (va_runV (As := [.int (nI ln)]) (rest := []) ⟨hx, hb, hml, hown, hts⟩ (k_M_squeeze l dC dI cI cZ cF H.size k0 (va_up a 28 b1) (upd (upd (upd (upd (upd I0 26 (nI ln)) 31 (nI n)) 35 (nI on)) 36 ok) 41 (nI (psN (nnF st tn (upd mn f (nI on))) w0 ft))) J0 ln ln cl la lb lc ld (rfl) (by first | with_reducible assumption | omega) (by first | with_reducible assumption | omega) (by first | with_reducible assumption | omega) (by first | with_reducible assumption | omega)) (csV_207 hts rfl rfl ⟨Nat.le_of_ble_eq_true rfl, Nat.le_of_ble_eq_true rfl⟩) (zPV2 (q0 := 0) (ci := 9) hPc hDc hK hXN rfl rfl) rfl rfl hl.1 rfl (lv_room (Nat.le_of_ble_eq_true rfl)) dX11_changes_60 ⟨show (0 + (c1 - cp)) ≤ c2 - cp by omega, show (0 + (8192 * (c1 - cp))) ≤ 8192 * (c2 - cp) by omega⟩) hS hFc hFc rfl (fun t H locs ht hB hk1 hS => ?_)
    obtain ⟨t9, la1, lb1, lc1, ld1, hs1, hs2, hP1, hD1⟩ := hB
    rw [ht] at hP1
    obtain ⟨hP, hD⟩ := zn (W2 := [_, _, _, _, _, _, _, _, _, _, _, _, (oa (a 22) cI (64 * cl) la1), (oa (a 23) cI (64 * cl) lb1), (oa (a 24) cI (64 * cl) lc1), (oa (a 25) cI (64 * cl) ld1), (om k0 (va_up a 28 b1) (upd (upd (upd (upd (upd I0 26 (nI t9)) 31 (nI n)) 35 (nI on)) 36 ok) 41 (nI (psN (nnF st tn (upd mn f (nI on))) w0 ft))) J0), _, _, _, _, _, _, _, _, _, _, _, _, _, _, _]) hP hD hk1 hFc hP1 hD1 [16, 12, 13, 14, 15] zl_189 zl_189 [16, 12, 13, 14, 15] (by decide +kernel) rfl rfl rfl rfl rfl
    clear hk1 hPc hDc hFc hP1 hD1 ht
    refine lv_aload_n hx hb dX11_changes_63 rfl (lv_at hl 1 rfl) ?_
    refine lv_iload_n hx hb dX11_changes_64 rfl (lv_at hl 3 rfl) ?_
    refine lv_iload_n hx hb dX11_changes_65 rfl (lv_at hl 2 rfl) ?_
    refine lv_iconst (v := 0) hx hb dX11_changes_66 rfl ?_
    obtain ⟨hPc, hDc, hFc⟩ := zo_sub (wc := [_, _, _, _, _, _, _, _, _, _, _, _, _, _, _, _, _, _, _]) hP hD hS hA [16, 17, 18, 19, 20, 21, 22, 23, 24, 25, 26, 27, 28, 29, 30, 31, 0, 1, 2] (by decide +kernel) rfl
    refine zcall (st1 := [.int (nI (dn + 1))]) (va_runV (As := [.int 5, .int (nI f), .int 0]) (rest := []) ⟨hx, hb, hml, hown, hts⟩ (k_M_ends l dC dI cI cZ cF H.size k0 (va_up a 28 b1) (upd (upd (upd (upd (upd I0 26 (nI t9)) 31 (nI n)) 35 (nI on)) 36 ok) 41 (nI (psN (nnF st tn (upd mn f (nI on))) w0 ft))) J0 5 (nI f) 0 dn bs ft (psN (nnF st tn (upd mn f (nI on))) w0 ft) c1 c2 kd st gb it pa pb rk wd tw tn mn cx cy (upd sa ((dn - bs) + 1) (nI (psN (nnF st tn (upd mn f (nI on))) w0 ft))) sh1 wh of9 we (hft) (by first | with_reducible assumption | omega) (hdn) (hbs) (by first | with_reducible assumption | omega) (by first | with_reducible assumption | omega) (by first | with_reducible assumption | omega) (by rw [show dn + 1 - bs = dn - bs + 1 by omega]; exact up_at _ _ _) (hmn_2) (by have := pw_le hpw_1; omega) (hpw_2) (by first | with_reducible assumption | omega) (hfit_2) (hmin_2) (hcE_2)) (csV_208 hts rfl rfl ⟨Nat.le_of_ble_eq_true rfl, Nat.le_of_ble_eq_true rfl⟩) (zPV2 (q0 := 0) (ci := 9) hPc hDc hK hXN rfl rfl) rfl rfl hl.1 rfl (lv_room (Nat.le_of_ble_eq_true rfl)) dX11_changes_67 ⟨show ((0 + (c1 - cp)) + (c2 - c1)) ≤ c2 - cp by omega, show ((0 + (8192 * (c1 - cp))) + (8192 * (c2 - c1))) ≤ 8192 * (c2 - cp) by omega⟩) hS hFc hFc rfl (fun t H locs ht hB hk1 hS => ?_)
    obtain ⟨b2, sh2, g5, g6, g7, g8, hP1, hD1⟩ := hB
    rw [ht] at hP1
    obtain ⟨hP, hD⟩ := zn (W2 := [_, _, _, _, _, _, _, _, _, _, _, _, _, (om k0 (va_up a 28 b2) (upd (upd (upd (upd (upd (upd (upd (upd I0 14 0) 19 (nI (dn + 1))) 20 0) 26 (nI t9)) 31 (nI n)) 35 (nI on)) 36 ok) 41 (nI (psN (nnF st tn mn) (psN (nnF st tn (upd mn f (nI on))) w0 ft) ft))) J0), (oa (a 1) cI 201 kd), (oa (a 5) cI 201 st), (oa (a 7) cI 201 gb), (oa (a 10) cI 201 it), (oa (a 8) cI 201 pa), (oa (a 9) cI 201 pb), (oa (a 2) cI 201 rk), (oa (a 3) cI 201 wd), (oa (a 4) cI 201 tw), (oa (a 6) cZ 201 tn), (oa (a 11) cI 201 mn), (oa (a 12) cI 8040 cx), (oa (a 13) cI 8040 cy), (oa (a 27) cI 516 (upd (upd sa ((dn - bs) + 1) (nI (psN (nnF st tn (upd mn f (nI on))) w0 ft))) ((dn + 1 - bs) + 1) (nI (psN (nnF st tn mn) (psN (nnF st tn (upd mn f (nI on))) w0 ft) ft)))), (oa b2 cI (4096 * c2) sh2), (oa (a 16) cI 514 (upd wh (dn + 1) (5 : Int32))), (oa (a 17) cI 514 (upd of9 (dn + 1) (nI f))), (oa (a 18) cI 514 (upd we (dn + 1) (0 : Int32)))]) hP hD hk1 hFc hP1 hD1 zl_190 zl_191 zl_192 zl_193 (by decide +kernel) rfl rfl rfl rfl rfl
    clear hk1 hPc hDc hFc hP1 hD1 ht
    refine lv_istore (lv' := [(4, .int (nI (dn + 1))), (3, .int (kd f)), (0, .ref k0), (1, .int (nI f)), (2, .int 5)]) hx hb dX11_changes_70 hl (Nat.le_of_ble_eq_true rfl) rfl (fun ls hl => ?_)
    refine lv_iconst (v := 1) hx hb dX11_changes_72 rfl ?_
    obtain ⟨hP9, hD9⟩ := zq_sub (wc := [_, _, _, _, _, _, _, _, _, _, _, _, _, _, _, _, _, _, _, _, _, _, _, _, _, _, _, _, _, _, _, _]) hP hD [13, 14, 15, 16, 17, 18, 19, 20, 21, 22, 23, 24, 25, 26, 27, 28, 29, 30, 31, 0, 1, 2, 3, 4, 5, 6, 7, 8, 9, 10, 11, 12] rfl rfl
    refine W.widen (k := c2 - cp) (n := 8192 * (c2 - cp)) (by omega) (by omega) ?_
    rw [hQ9]
    exact W.zret (ty := .boolean) (v := 1) hx hb hr (rfl) (fun t ht hW => ⟨⟨rfl, (nI n), b2, sh2, t9, S1, T1, P1, Q1, la1, lb1, lc1, ld1, (by have h9 := psN_ge (nnF st tn (upd mn f (nI on))) w0 ft; rw [g6 _ (by omega)]; exact g1), (fun j hj => by have h9 := psN_ge (nnF st tn (upd mn f (nI on))) w0 ft; rw [g6 _ (by omega)]; exact g2 j hj), (fun g hg j hj => by have h9 := psN_mono (nnF st tn (upd mn f (nI on))) w0 hg; rw [g6 _ (by omega)]; exact g3 g hg j hj), (g5), (g7), (hs1), (hs2), by rw [ht]; exact hP9, hD9⟩, hS.F ht⟩) hS.2.2 dX11_changes_73
  · have c_1 : ¬ (lwA ft st tn kd mn cx cy f n (ox 0) (oy 0) MT WI IN (sW0)) := zp_0 c_1
    exfalso; exact absurd hyes (by first | with_reducible assumption | assumption)
end
