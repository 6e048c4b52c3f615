section
set_option maxHeartbeats 4000000 in
set_option maxRecDepth 100000 in
theorem k_M_is_x (l : Launch) (dC : Nat → ClassId) (dI : Nat → Nat → Nat) (cI cZ cF : ClassId) (sz : Nat) (k0 : Nat) (a : Nat → Nat) (I0 : Nat → Int32) (J0 : Nat → Int64) (ft : Nat) (v : Int32) (hft : I0 0 = nI ft) (h200 : ft ≤ 200) (hv : ¬ (0 ≤ v.toInt ∧ v.toInt < (ft : Int))) : zM l yX11_is cX11_is 2 (some .boolean) ({ frames := 1, cells := 0, slots := 0, locals := 21 } : Room) [.ref k0, .int v] (dC, dI) (zTy cI cZ cF) [(om k0 a I0 J0)] sz (some (.int 0)) (fun A t => zPD (dC, dI) classes A [(om k0 a I0 J0)] t.heap) 0 0 := by
  refine zIn (own := "ScaleShopModel") (loc := [(0, .ref k0), (1, .int v)]) rfl rfl rfl rfl (fun p e s m below meth c hx hb hr hts hown hlocks hml hnm9 A hA hS hP hD hK hXN Q9 hQ9 ls hl => ?_)
  refine lv_aload_n hx hb dX11_is_0 rfl (lv_at hl 0 rfl) ?_
  refine lv_iload_n hx hb dX11_is_1 rfl (lv_at hl 1 rfl) ?_
  obtain ⟨hPc, hDc, hFc, hI1⟩ := zi_sub (wc := [_]) hP hD hS hA [0] rfl rfl
  refine zcall (st1 := [.int (pI (0 ≤ v.toInt ∧ v.toInt < (ft : Int)))]) (va_runV (As := [.int v]) (rest := []) ⟨hx, hb, hml, hown, hts⟩ (k_M_isFeature l dC dI cI cZ cF s.heap.size k0 a I0 J0 ft v (by first | with_reducible assumption | assumption) (by first | with_reducible assumption | omega)) (csV_178 hts rfl rfl ⟨Nat.le_of_ble_eq_true rfl, Nat.le_of_ble_eq_true rfl⟩) (zPV2 (q0 := 0) (ci := 9) hPc hDc hK hXN rfl rfl) rfl rfl hl.1 rfl (lv_room (Nat.le_of_ble_eq_true rfl)) dX11_is_2 ⟨Nat.le_of_ble_eq_true rfl, Nat.le_of_ble_eq_true rfl⟩) hS hFc hFc rfl (fun t H locs ht hB hk1 hS => ?_)
  obtain ⟨hP1, hD1⟩ := hB
  rw [ht] at hP1
  replace hP := z0 hP hD hk1 hP1 hI1
  clear hk1 hPc hDc hFc hP1 hD1 ht hI1
  refine lv_if_eq (tgt := 31) hx hb dX11_is_5 rfl (fun c_1 => ?_) (fun c_1 => ?_)
  · have c_1 : ¬ (0 ≤ v.toInt ∧ v.toInt < (ft : Int)) := zp_0 c_1
    refine lv_iconst (v := 0) hx hb dX11_is_31 rfl ?_
    obtain ⟨hP9, hD9⟩ := zu_sub (wc := [_]) hP hD [true] rfl rfl
    rw [hQ9]
    exact W.zret (ty := .boolean) (v := 0) hx hb hr (rfl) (fun t ht hW => ⟨⟨rfl, by rw [ht]; exact hP9, hD9⟩, hS.F ht⟩) hS.2.2 dX11_is_32
  · have c_1 : 0 ≤ v.toInt ∧ v.toInt < (ft : Int) := zp_1 c_1
    exfalso; exact absurd (by first | with_reducible assumption | assumption) hv
set_option maxHeartbeats 4000000 in
set_option maxRecDepth 100000 in
theorem k_M_meets_x1 (l : Launch) (dC : Nat → ClassId) (dI : Nat → Nat → Nat) (cI cZ cF : ClassId) (sz : Nat) (k0 : Nat) (a : Nat → Nat) (I0 : Nat → Int32) (J0 : Nat → Int64) (ft : Nat) (v : Int32) (w : Int32) (hft : I0 0 = nI ft) (h200 : ft ≤ 200) (hv : ¬ (0 ≤ v.toInt ∧ v.toInt < (ft : Int))) : zM l yX11_meets cX11_meets 3 (some .boolean) ({ frames := 2, cells := 0, slots := 0, locals := 42 } : Room) [.ref k0, .int v, .int w] (dC, dI) (zTy cI cZ cF) [(om k0 a I0 J0)] sz (some (.int 0)) (fun A t => zPD (dC, dI) classes A [(om k0 a I0 J0)] t.heap) 0 0 := by
  refine zIn (own := "ScaleShopModel") (loc := [(0, .ref k0), (1, .int v), (2, .int w)]) rfl rfl rfl rfl (fun p e s m below meth c hx hb hr hts hown hlocks hml hnm9 A hA hS hP hD hK hXN Q9 hQ9 ls hl => ?_)
  refine lv_aload_n hx hb dX11_meets_0 rfl (lv_at hl 0 rfl) ?_
  refine lv_iload_n hx hb dX11_meets_1 rfl (lv_at hl 1 rfl) ?_
  obtain ⟨hPc, hDc, hFc, hI1⟩ := zi_sub (wc := [_]) hP hD hS hA [0] rfl rfl
  refine zcall (st1 := [.int 0]) (va_runV (As := [.int v]) (rest := []) ⟨hx, hb, hml, hown, hts⟩ (k_M_is_x l dC dI cI cZ cF s.heap.size k0 a I0 J0 ft v (by first | with_reducible assumption | assumption) (by first | with_reducible assumption | omega) (by first | with_reducible assumption | assumption)) (csV_179 hts rfl rfl ⟨Nat.le_of_ble_eq_true rfl, Nat.le_of_ble_eq_true rfl⟩) (zPV2 (q0 := 0) (ci := 9) hPc hDc hK hXN rfl rfl) rfl rfl hl.1 rfl (lv_room (Nat.le_of_ble_eq_true rfl)) dX11_meets_2 ⟨Nat.le_of_ble_eq_true rfl, Nat.le_of_ble_eq_true rfl⟩) hS hFc hFc rfl (fun t H locs ht hB hk1 hS => ?_)
  obtain ⟨hP1, hD1⟩ := hB
  rw [ht] at hP1
  replace hP := z0 hP hD hk1 hP1 hI1
  clear hk1 hPc hDc hFc hP1 hD1 ht hI1
  refine lv_if_eq (tgt := 29) hx hb dX11_meets_5 rfl (fun c_1 => ?_) (fun c_1 => ?_)
  · refine lv_iconst (v := 0) hx hb dX11_meets_29 rfl ?_
    obtain ⟨hP9, hD9⟩ := zu_sub (wc := [_]) hP hD [true] rfl rfl
    rw [hQ9]
    exact W.zret (ty := .boolean) (v := 0) hx hb hr (rfl) (fun t ht hW => ⟨⟨rfl, by rw [ht]; exact hP9, hD9⟩, hS.F ht⟩) hS.2.2 dX11_meets_30
  · exact absurd (by decide) c_1
set_option maxHeartbeats 4000000 in
set_option maxRecDepth 100000 in
theorem k_M_meets_x2 (l : Launch) (dC : Nat → ClassId) (dI : Nat → Nat → Nat) (cI cZ cF : ClassId) (sz : Nat) (k0 : Nat) (a : Nat → Nat) (I0 : Nat → Int32) (J0 : Nat → Int64) (f : Nat) (ft : Nat) (v : Int32) (st : Nat → Int32) (tn : Nat → Int32) (hft : I0 0 = nI ft) (h200 : ft ≤ 200) (hv : ¬ (0 ≤ v.toInt ∧ v.toInt < (ft : Int))) (hf_t : f < ft) : zM l yX11_meets cX11_meets 3 (some .boolean) ({ frames := 2, cells := 0, slots := 0, locals := 42 } : Room) [.ref k0, .int (nI f), .int v] (dC, dI) (zTy cI cZ cF) [(om k0 a I0 J0), (oa (a 5) cI 201 st), (oa (a 6) cZ 201 tn)] sz (some (.int 0)) (fun A t => zPD (dC, dI) classes A [(om k0 a I0 J0), (oa (a 5) cI 201 st), (oa (a 6) cZ 201 tn)] t.heap) 0 0 := by
  refine zIn (own := "ScaleShopModel") (loc := [(0, .ref k0), (1, .int (nI f)), (2, .int v)]) rfl rfl rfl rfl (fun p e s m below meth c hx hb hr hts hown hlocks hml hnm9 A hA hS hP hD hK hXN Q9 hQ9 ls hl => ?_)
  refine lv_aload_n hx hb dX11_meets_0 rfl (lv_at hl 0 rfl) ?_
  refine lv_iload_n hx hb dX11_meets_1 rfl (lv_at hl 1 rfl) ?_
  obtain ⟨hPc, hDc, hFc, hI1⟩ := zi_sub (wc := [_, _, _]) hP hD hS hA [0, 1, 2] rfl rfl
  refine zcall (st1 := [.int (pI (f < ft ∧ (st f).toInt = 1 ∧ (tn f).toInt = 0))]) (va_runV (As := [.int (nI f)]) (rest := []) ⟨hx, hb, hml, hown, hts⟩ (k_M_is_n l dC dI cI cZ cF s.heap.size k0 a I0 J0 f ft st tn (by first | with_reducible assumption | assumption) (by first | with_reducible assumption | omega) (by first | with_reducible assumption | omega)) (csV_179 hts rfl rfl ⟨Nat.le_of_ble_eq_true rfl, Nat.le_of_ble_eq_true rfl⟩) (zPV2 (q0 := 0) (ci := 9) hPc hDc hK hXN rfl rfl) rfl rfl hl.1 rfl (lv_room (Nat.le_of_ble_eq_true rfl)) dX11_meets_2 ⟨Nat.le_of_ble_eq_true rfl, Nat.le_of_ble_eq_true rfl⟩) hS hFc hFc rfl (fun t H locs ht hB hk1 hS => ?_)
  obtain ⟨hP1, hD1⟩ := hB
  rw [ht] at hP1
  replace hP := z0 hP hD hk1 hP1 hI1
  clear hk1 hPc hDc hFc hP1 hD1 ht hI1
  refine lv_if_eq (tgt := 29) hx hb dX11_meets_5 rfl (fun c_1 => ?_) (fun c_1 => ?_)
  · have c_1 : ¬ (f < ft ∧ (st f).toInt = 1 ∧ (tn f).toInt = 0) := zp_0 c_1
    refine lv_iconst (v := 0) hx hb dX11_meets_29 rfl ?_
    obtain ⟨hP9, hD9⟩ := zu_sub (wc := [_, _, _]) hP hD [true, true, true] rfl rfl
    rw [hQ9]
    exact W.zret (ty := .boolean) (v := 0) hx hb hr (rfl) (fun t ht hW => ⟨⟨rfl, by rw [ht]; exact hP9, hD9⟩, hS.F ht⟩) hS.2.2 dX11_meets_30
  · have c_1 : f < ft ∧ (st f).toInt = 1 ∧ (tn f).toInt = 0 := zp_1 c_1
    refine lv_aload_n hx hb dX11_meets_8 rfl (lv_at hl 0 rfl) ?_
    refine lv_iload_n hx hb dX11_meets_9 rfl (lv_at hl 2 rfl) ?_
    obtain ⟨hPc, hDc, hFc, hI1⟩ := zi_sub (wc := [_]) hP hD hS hA [0] rfl rfl
    refine zcall (st1 := [.int 0]) (va_runV (As := [.int v]) (rest := []) ⟨hx, hb, hml, hown, hts⟩ (k_M_is_x l dC dI cI cZ cF H.size k0 a I0 J0 ft v (by first | with_reducible assumption | assumption) (by first | with_reducible assumption | omega) (by first | with_reducible assumption | assumption)) (csV_179 hts rfl rfl ⟨Nat.le_of_ble_eq_true rfl, Nat.le_of_ble_eq_true rfl⟩) (zPV2 (q0 := 0) (ci := 9) hPc hDc hK hXN rfl rfl) rfl rfl hl.1 rfl (lv_room (Nat.le_of_ble_eq_true rfl)) dX11_meets_10 ⟨Nat.le_of_ble_eq_true rfl, Nat.le_of_ble_eq_true rfl⟩) hS hFc hFc rfl (fun t H locs ht hB hk1 hS => ?_)
    obtain ⟨hP1, hD1⟩ := hB
    rw [ht] at hP1
    replace hP := z0 hP hD hk1 hP1 hI1
    clear hk1 hPc hDc hFc hP1 hD1 ht hI1
    refine lv_if_eq (tgt := 29) hx hb dX11_meets_13 rfl (fun c_2 => ?_) (fun c_2 => ?_)
    · refine lv_iconst (v := 0) hx hb dX11_meets_29 rfl ?_
      obtain ⟨hP9, hD9⟩ := zu_sub (wc := [_, _, _]) hP hD [true, true, true] rfl rfl
      rw [hQ9]
      exact W.zret (ty := .boolean) (v := 0) hx hb hr (rfl) (fun t ht hW => ⟨⟨rfl, by rw [ht]; exact hP9, hD9⟩, hS.F ht⟩) hS.2.2 dX11_meets_30
    · exact absurd (by decide) c_2
set_option maxHeartbeats 4000000 in
set_option maxRecDepth 100000 in
theorem k_M_meets (l : Launch) (dC : Nat → ClassId) (dI : Nat → Nat → Nat) (cI cZ cF : ClassId) (sz : Nat) (k0 : Nat) (a : Nat → Nat) (I0 : Nat → Int32) (J0 : Nat → Int64) (f : Nat) (g : Nat) (ft : Nat) (st : Nat → Int32) (tn : Nat → Int32) (kd : Nat → Int32) (mn : Nat → Int32) (cx : Nat → Int32) (cy : Nat → Int32) (S0 : Nat → Int32) (hft : I0 0 = nI ft) (h200 : ft ≤ 200) (hwf : ∀ q, lvF ft st tn q → wfM mn cx cy q) (hf_t : f < ft) (hg_t : g < ft) : zM l yX11_meets cX11_meets 3 (some .boolean) ({ frames := 4, cells := 0, slots := 0, locals := 105 } : Room) [.ref k0, .int (nI f), .int (nI g)] (dC, dI) (zTy cI cZ cF) [(om k0 a I0 J0), (oa (a 5) cI 201 st), (oa (a 6) cZ 201 tn), (oa (a 1) cI 201 kd), (oa (a 11) cI 201 mn), (oa (a 12) cI 8040 cx), (oa (a 13) cI 8040 cy), (oa (a 32) cI 8 S0)] sz (some (.int (pI (lvF ft st tn f ∧ lvF ft st tn g ∧ mtF (kd f).toInt (nN (mn f)) (cF40 cx f) (cF40 cy f) (kd g).toInt (nN (mn g)) (cF40 cx g) (cF40 cy g))))) (fun A t => ∃ (S1 : Nat → Int32), zPD (dC, dI) classes A [(om k0 a I0 J0), (oa (a 5) cI 201 st), (oa (a 6) cZ 201 tn), (oa (a 1) cI 201 kd), (oa (a 11) cI 201 mn), (oa (a 12) cI 8040 cx), (oa (a 13) cI 8040 cy), (oa (a 32) cI 8 S1)] t.heap) 0 0 := by
  refine zIn (own := "ScaleShopModel") (loc := [(0, .ref k0), (1, .int (nI f)), (2, .int (nI g))]) rfl rfl rfl rfl (fun p e s m below meth c hx hb hr hts hown hlocks hml hnm9 A hA hS hP hD hK hXN Q9 hQ9 ls hl => ?_)
  refine lv_aload_n hx hb dX11_meets_0 rfl (lv_at hl 0 rfl) ?_
  refine lv_iload_n hx hb dX11_meets_1 rfl (lv_at hl 1 rfl) ?_
  obtain ⟨hPc, hDc, hFc, hI1⟩ := zi_sub (wc := [_, _, _]) hP hD hS hA [0, 1, 2] rfl rfl
  refine zcall (st1 := [.int (pI (f < ft ∧ (st f).toInt = 1 ∧ (tn f).toInt = 0))]) (va_runV (As := [.int (nI f)]) (rest := []) ⟨hx, hb, hml, hown, hts⟩ (k_M_is_n l dC dI cI cZ cF s.heap.size k0 a I0 J0 f ft st tn (by first | with_reducible assumption | assumption) (by first | with_reducible assumption | omega) (by first | with_reducible assumption | omega)) (csV_179 hts rfl rfl ⟨Nat.le_of_ble_eq_true rfl, Nat.le_of_ble_eq_true rfl⟩) (zPV2 (q0 := 0) (ci := 9) hPc hDc hK hXN rfl rfl) rfl rfl hl.1 rfl (lv_room (Nat.le_of_ble_eq_true rfl)) dX11_meets_2 ⟨Nat.le_of_ble_eq_true rfl, Nat.le_of_ble_eq_true rfl⟩) hS hFc hFc rfl (fun t H locs ht hB hk1 hS => ?_)
  obtain ⟨hP1, hD1⟩ := hB
  rw [ht] at hP1
  replace hP := z0 hP hD hk1 hP1 hI1
  clear hk1 hPc hDc hFc hP1 hD1 ht hI1
  refine lv_if_eq (tgt := 29) hx hb dX11_meets_5 rfl (fun c_1 => ?_) (fun c_1 => ?_)
  · have c_1 : ¬ (f < ft ∧ (st f).toInt = 1 ∧ (tn f).toInt = 0) := zp_0 c_1
    refine lv_iconst (v := 0) hx hb dX11_meets_29 rfl ?_
    obtain ⟨hP9, hD9⟩ := zu_sub (wc := [_, _, _, _, _, _, _, _]) hP hD [true, true, true, true, true, true, true, true] rfl rfl
    rw [hQ9]
    exact W.zret (ty := .boolean) (v := 0) hx hb hr (rfl) (fun t ht hW => ⟨⟨congrArg (fun z => Outcome.returned (some (Value.int z))) (show (0 : Int32) = pI (lvF ft st tn f ∧ lvF ft st tn g ∧ mtF (kd f).toInt (nN (mn f)) (cF40 cx f) (cF40 cy f) (kd g).toInt (nN (mn g)) (cF40 cx g) (cF40 cy g)) from (zp_f (by first | exact ⟨by assumption, by assumption, by assumption⟩ | exact fun h => absurd h.1 (by first | with_reducible assumption | assumption) | exact fun h => absurd h.2.1 (by first | with_reducible assumption | assumption) | exact fun h => absurd h.2.2 (by first | with_reducible assumption | assumption))).symm), S0, by rw [ht]; exact hP9, hD9⟩, hS.F ht⟩) hS.2.2 dX11_meets_30
  · have c_1 : f < ft ∧ (st f).toInt = 1 ∧ (tn f).toInt = 0 := zp_1 c_1
    have hw_ff := hwf f (by first | with_reducible assumption | assumption)
    have hm_ff := hw_ff.1
    have hn_ff := hw_ff.2.1
    have hp_ff := hw_ff.2.2
    refine lv_aload_n hx hb dX11_meets_8 rfl (lv_at hl 0 rfl) ?_
    refine lv_iload_n hx hb dX11_meets_9 rfl (lv_at hl 2 rfl) ?_
    obtain ⟨hPc, hDc, hFc, hI1⟩ := zi_sub (wc := [_, _, _]) hP hD hS hA [0, 1, 2] rfl rfl
    refine zcall (st1 := [.int (pI (g < ft ∧ (st g).toInt = 1 ∧ (tn g).toInt = 0))]) (va_runV (As := [.int (nI g)]) (rest := []) ⟨hx, hb, hml, hown, hts⟩ (k_M_is_n l dC dI cI cZ cF H.size k0 a I0 J0 g ft st tn (by first | with_reducible assumption | assumption) (by first | with_reducible assumption | omega) (by first | with_reducible assumption | omega)) (csV_179 hts rfl rfl ⟨Nat.le_of_ble_eq_true rfl, Nat.le_of_ble_eq_true rfl⟩) (zPV2 (q0 := 0) (ci := 9) hPc hDc hK hXN rfl rfl) rfl rfl hl.1 rfl (lv_room (Nat.le_of_ble_eq_true rfl)) dX11_meets_10 ⟨Nat.le_of_ble_eq_true rfl, Nat.le_of_ble_eq_true rfl⟩) hS hFc hFc rfl (fun t H locs ht hB hk1 hS => ?_)
    obtain ⟨hP1, hD1⟩ := hB
    rw [ht] at hP1
    replace hP := z0 hP hD hk1 hP1 hI1
    clear hk1 hPc hDc hFc hP1 hD1 ht hI1
    refine lv_if_eq (tgt := 29) hx hb dX11_meets_13 rfl (fun c_2 => ?_) (fun c_2 => ?_)
    · have c_2 : ¬ (g < ft ∧ (st g).toInt = 1 ∧ (tn g).toInt = 0) := zp_0 c_2
      refine lv_iconst (v := 0) hx hb dX11_meets_29 rfl ?_
      obtain ⟨hP9, hD9⟩ := zu_sub (wc := [_, _, _, _, _, _, _, _]) hP hD [true, true, true, true, true, true, true, true] rfl rfl
      rw [hQ9]
      exact W.zret (ty := .boolean) (v := 0) hx hb hr (rfl) (fun t ht hW => ⟨⟨congrArg (fun z => Outcome.returned (some (Value.int z))) (show (0 : Int32) = pI (lvF ft st tn f ∧ lvF ft st tn g ∧ mtF (kd f).toInt (nN (mn f)) (cF40 cx f) (cF40 cy f) (kd g).toInt (nN (mn g)) (cF40 cx g) (cF40 cy g)) from (zp_f (by first | exact ⟨by assumption, by assumption, by assumption⟩ | exact fun h => absurd h.1 (by first | with_reducible assumption | assumption) | exact fun h => absurd h.2.1 (by first | with_reducible assumption | assumption) | exact fun h => absurd h.2.2 (by first | with_reducible assumption | assumption))).symm), S0, by rw [ht]; exact hP9, hD9⟩, hS.F ht⟩) hS.2.2 dX11_meets_30
    · have c_2 : g < ft ∧ (st g).toInt = 1 ∧ (tn g).toInt = 0 := zp_1 c_2
      have hw_gg := hwf g (by first | with_reducible assumption | assumption)
      have hm_gg := hw_gg.1
      have hn_gg := hw_gg.2.1
      have hp_gg := hw_gg.2.2
      refine lv_aload_n hx hb dX11_meets_16 rfl (lv_at hl 0 rfl) ?_
      refine lv_iload_n hx hb dX11_meets_17 rfl (lv_at hl 1 rfl) ?_
      refine lv_iload_n hx hb dX11_meets_18 rfl (lv_at hl 2 rfl) ?_
      obtain ⟨hPc, hDc, hFc⟩ := zo_sub (wc := [_, _, _, _, _, _]) hP hD hS hA [0, 3, 4, 5, 6, 7] (by decide +kernel) rfl
      refine zcall (st1 := [.int (pI (∃ i, i < eO (kd f).toInt (nN (mn f)) ∧ ∃ j, j < eO (kd g).toInt (nN (mn g)) ∧ eMt (nN (mn f)) (cF40 cx f) (cF40 cy f) i (nN (mn g)) (cF40 cx g) (cF40 cy g) j))]) (va_runV (As := [.int (nI f), .int (nI g)]) (rest := []) ⟨hx, hb, hml, hown, hts⟩ (k_M_isMet l dC dI cI cZ cF H.size k0 a I0 J0 f (nN (mn f)) g (nN (mn g)) kd mn cx cy S0 (by first | with_reducible assumption | omega) (by first | with_reducible assumption | assumption) (by first | with_reducible assumption | omega) (by first | with_reducible assumption | assumption) (by first | with_reducible assumption | omega) (by first | with_reducible assumption | assumption) (by first | with_reducible assumption | omega) (by first | with_reducible assumption | assumption)) (csV_180 hts rfl rfl ⟨Nat.le_of_ble_eq_true rfl, Nat.le_of_ble_eq_true rfl⟩) (zPV2 (q0 := 0) (ci := 9) hPc hDc hK hXN rfl rfl) rfl rfl hl.1 rfl (lv_room (Nat.le_of_ble_eq_true rfl)) dX11_meets_19 ⟨Nat.le_of_ble_eq_true rfl, Nat.le_of_ble_eq_true rfl⟩) hS hFc hFc rfl (fun t H locs ht hB hk1 hS => ?_)
      obtain ⟨q_3, hP1, hD1⟩ := hB
      rw [ht] at hP1
      obtain ⟨hP, hD⟩ := zn (W2 := [_, _, _, _, _, _, _, (oa (a 32) cI 8 q_3)]) hP hD hk1 hFc hP1 hD1 [0, 3, 4, 5, 6, 7] [false, true, true] zl_146 [0, 3, 4, 5, 6, 7] (by decide +kernel) rfl rfl rfl rfl rfl
      clear hk1 hPc hDc hFc hP1 hD1 ht
      refine zz_i (v := pI (mtF (kd f).toInt (nN (mn f)) (cF40 cx f) (cF40 cy f) (kd g).toInt (nN (mn g)) (cF40 cx g) (cF40 cy g))) (rfl) ?_
      refine lv_if_eq (tgt := 29) hx hb dX11_meets_22 rfl (fun c_4 => ?_) (fun c_4 => ?_)
      · have c_4 : ¬ (mtF (kd f).toInt (nN (mn f)) (cF40 cx f) (cF40 cy f) (kd g).toInt (nN (mn g)) (cF40 cx g) (cF40 cy g)) := zp_0 c_4
        refine lv_iconst (v := 0) hx hb dX11_meets_29 rfl ?_
        obtain ⟨hP9, hD9⟩ := zu_sub (wc := [_, _, _, _, _, _, _, _]) hP hD [true, true, true, true, true, true, true, true] rfl rfl
        rw [hQ9]
        exact W.zret (ty := .boolean) (v := 0) hx hb hr (rfl) (fun t ht hW => ⟨⟨congrArg (fun z => Outcome.returned (some (Value.int z))) (show (0 : Int32) = pI (lvF ft st tn f ∧ lvF ft st tn g ∧ mtF (kd f).toInt (nN (mn f)) (cF40 cx f) (cF40 cy f) (kd g).toInt (nN (mn g)) (cF40 cx g) (cF40 cy g)) from (zp_f (by first | exact ⟨by assumption, by assumption, by assumption⟩ | exact fun h => absurd h.1 (by first | with_reducible assumption | assumption) | exact fun h => absurd h.2.1 (by first | with_reducible assumption | assumption) | exact fun h => absurd h.2.2 (by first | with_reducible assumption | assumption))).symm), q_3, by rw [ht]; exact hP9, hD9⟩, hS.F ht⟩) hS.2.2 dX11_meets_30
      · have c_4 : mtF (kd f).toInt (nN (mn f)) (cF40 cx f) (cF40 cy f) (kd g).toInt (nN (mn g)) (cF40 cx g) (cF40 cy g) := zp_1 c_4
        refine lv_iconst (v := 1) hx hb dX11_meets_25 rfl ?_
        refine lv_goto (tgt := 30) hx hb dX11_meets_26 rfl ?_
        obtain ⟨hP9, hD9⟩ := zu_sub (wc := [_, _, _, _, _, _, _, _]) hP hD [true, true, true, true, true, true, true, true] rfl rfl
        rw [hQ9]
        exact W.zret (ty := .boolean) (v := 1) hx hb hr (rfl) (fun t ht hW => ⟨⟨congrArg (fun z => Outcome.returned (some (Value.int z))) (show (1 : Int32) = pI (lvF ft st tn f ∧ lvF ft st tn g ∧ mtF (kd f).toInt (nN (mn f)) (cF40 cx f) (cF40 cy f) (kd g).toInt (nN (mn g)) (cF40 cx g) (cF40 cy g)) from (zp_t (by first | exact ⟨by assumption, by assumption, by assumption⟩ | exact fun h => absurd h.1 (by first | with_reducible assumption | assumption) | exact fun h => absurd h.2.1 (by first | with_reducible assumption | assumption) | exact fun h => absurd h.2.2 (by first | with_reducible assumption | assumption))).symm), q_3, by rw [ht]; exact hP9, hD9⟩, hS.F ht⟩) hS.2.2 dX11_meets_30
set_option maxHeartbeats 4000000 in
set_option maxRecDepth 100000 in
theorem k_M_inside_x (l : Launch) (dC : Nat → ClassId) (dI : Nat → Nat → Nat) (cI cZ cF : ClassId) (sz : Nat) (k0 : Nat) (a : Nat → Nat) (I0 : Nat → Int32) (J0 : Nat → Int64) (ft : Nat) (px : Int32) (py : Int32) (v : Int32) (hft : I0 0 = nI ft) (h200 : ft ≤ 200) (hv : ¬ (0 ≤ v.toInt ∧ v.toInt < (ft : Int))) : zM l yX11_inside cX11_inside 4 (some .int) ({ frames := 2, cells := 0, slots := 0, locals := 42 } : Room) [.ref k0, .int px, .int py, .int v] (dC, dI) (zTy cI cZ cF) [(om k0 a I0 J0)] sz (some (.int (-1))) (fun A t => zPD (dC, dI) classes A [(om k0 a I0 J0)] t.heap) 0 0 := by
  refine zIn (own := "ScaleShopModel") (loc := [(0, .ref k0), (1, .int px), (2, .int py), (3, .int v)]) rfl rfl rfl rfl (fun p e s m below meth c hx hb hr hts hown hlocks hml hnm9 A hA hS hP hD hK hXN Q9 hQ9 ls hl => ?_)
  refine lv_aload_n hx hb dX11_inside_0 rfl (lv_at hl 0 rfl) ?_
  refine lv_iload_n hx hb dX11_inside_1 rfl (lv_at hl 3 rfl) ?_
  obtain ⟨hPc, hDc, hFc, hI1⟩ := zi_sub (wc := [_]) hP hD hS hA [0] rfl rfl
  refine zcall (st1 := [.int 0]) (va_runV (As := [.int v]) (rest := []) ⟨hx, hb, hml, hown, hts⟩ (k_M_is_x l dC dI cI cZ cF s.heap.size k0 a I0 J0 ft v (by first | with_reducible assumption | assumption) (by first | with_reducible assumption | omega) (by first | with_reducible assumption | assumption)) (csV_179 hts rfl rfl ⟨Nat.le_of_ble_eq_true rfl, Nat.le_of_ble_eq_true rfl⟩) (zPV2 (q0 := 0) (ci := 9) hPc hDc hK hXN rfl rfl) rfl rfl hl.1 rfl (lv_room (Nat.le_of_ble_eq_true rfl)) dX11_inside_2 ⟨Nat.le_of_ble_eq_true rfl, Nat.le_of_ble_eq_true rfl⟩) hS hFc hFc rfl (fun t H locs ht hB hk1 hS => ?_)
  obtain ⟨hP1, hD1⟩ := hB
  rw [ht] at hP1
  replace hP := z0 hP hD hk1 hP1 hI1
  clear hk1 hPc hDc hFc hP1 hD1 ht hI1
  refine lv_if_eq (tgt := 38) hx hb dX11_inside_5 rfl (fun c_1 => ?_) (fun c_1 => ?_)
  · refine lv_iconst (v := (-1)) hx hb dX11_inside_38 rfl ?_
    obtain ⟨hP9, hD9⟩ := zu_sub (wc := [_]) hP hD [true] rfl rfl
    rw [hQ9]
    exact W.iret (v := (-1)) hx hb hr (fun t ht hW => ⟨⟨rfl, by rw [ht]; exact hP9, hD9⟩, hS.F ht⟩) hS.2.2 dX11_inside_39
  · exact absurd (by decide) c_1
set_option maxHeartbeats 4000000 in
set_option maxRecDepth 100000 in
theorem k_M_inside_r (l : Launch) (dC : Nat → ClassId) (dI : Nat → Nat → Nat) (cI cZ cF : ClassId) (sz : Nat) (k0 : Nat) (a : Nat → Nat) (I0 : Nat → Int32) (J0 : Nat → Int64) (f : Nat) (ft : Nat) (px : Int32) (py : Int32) (st : Nat → Int32) (tn : Nat → Int32) (kd : Nat → Int32) (hft : I0 0 = nI ft) (h200 : ft ≤ 200) (hf_t : f < ft) (hbad : ¬ (lvF ft st tn f ∧ 5 ≤ (kd f).toInt ∧ 0 ≤ px.toInt ∧ px.toInt ≤ 1000 ∧ 0 ≤ py.toInt ∧ py.toInt ≤ 1000)) : zM l yX11_inside cX11_inside 4 (some .int) ({ frames := 2, cells := 0, slots := 0, locals := 42 } : Room) [.ref k0, .int px, .int py, .int (nI f)] (dC, dI) (zTy cI cZ cF) [(om k0 a I0 J0), (oa (a 5) cI 201 st), (oa (a 6) cZ 201 tn), (oa (a 1) cI 201 kd)] sz (some (.int (-1))) (fun A t => zPD (dC, dI) classes A [(om k0 a I0 J0), (oa (a 5) cI 201 st), (oa (a 6) cZ 201 tn), (oa (a 1) cI 201 kd)] t.heap) 0 0 := by
  refine zIn (own := "ScaleShopModel") (loc := [(0, .ref k0), (1, .int px), (2, .int py), (3, .int (nI f))]) rfl rfl rfl rfl (fun p e s m below meth c hx hb hr hts hown hlocks hml hnm9 A hA hS hP hD hK hXN Q9 hQ9 ls hl => ?_)
  refine lv_aload_n hx hb dX11_inside_0 rfl (lv_at hl 0 rfl) ?_
  refine lv_iload_n hx hb dX11_inside_1 rfl (lv_at hl 3 rfl) ?_
  obtain ⟨hPc, hDc, hFc, hI1⟩ := zi_sub (wc := [_, _, _]) hP hD hS hA [0, 1, 2] rfl rfl
  refine zcall (st1 := [.int (pI (f < ft ∧ (st f).toInt = 1 ∧ (tn f).toInt = 0))]) (va_runV (As := [.int (nI f)]) (rest := []) ⟨hx, hb, hml, hown, hts⟩ (k_M_is_n l dC dI cI cZ cF s.heap.size k0 a I0 J0 f ft st tn (by first | with_reducible assumption | assumption) (by first | with_reducible assumption | omega) (by first | with_reducible assumption | omega)) (csV_179 hts rfl rfl ⟨Nat.le_of_ble_eq_true rfl, Nat.le_of_ble_eq_true rfl⟩) (zPV2 (q0 := 0) (ci := 9) hPc hDc hK hXN rfl rfl) rfl rfl hl.1 rfl (lv_room (Nat.le_of_ble_eq_true rfl)) dX11_inside_2 ⟨Nat.le_of_ble_eq_true rfl, Nat.le_of_ble_eq_true rfl⟩) hS hFc hFc rfl (fun t H locs ht hB hk1 hS => ?_)
  obtain ⟨hP1, hD1⟩ := hB
  rw [ht] at hP1
  replace hP := z0 hP hD hk1 hP1 hI1
  clear hk1 hPc hDc hFc hP1 hD1 ht hI1
  refine lv_if_eq (tgt := 38) hx hb dX11_inside_5 rfl (fun c_1 => ?_) (fun c_1 => ?_)
  · have c_1 : ¬ (f < ft ∧ (st f).toInt = 1 ∧ (tn f).toInt = 0) := zp_0 c_1
    refine lv_iconst (v := (-1)) hx hb dX11_inside_38 rfl ?_
    obtain ⟨hP9, hD9⟩ := zu_sub (wc := [_, _, _, _]) hP hD [true, true, true, true] rfl rfl
    rw [hQ9]
    exact W.iret (v := (-1)) hx hb hr (fun t ht hW => ⟨⟨rfl, by rw [ht]; exact hP9, hD9⟩, hS.F ht⟩) hS.2.2 dX11_inside_39
  · have c_1 : f < ft ∧ (st f).toInt = 1 ∧ (tn f).toInt = 0 := zp_1 c_1
    refine lv_aload_n hx hb dX11_inside_8 rfl (lv_at hl 0 rfl) ?_
    refine lv_iload_n hx hb dX11_inside_9 rfl (lv_at hl 3 rfl) ?_
    obtain ⟨hPc, hDc, hFc, hI1⟩ := zi_sub (wc := [_, _]) hP hD hS hA [0, 3] rfl rfl
    refine zcall (st1 := [.int (pI (5 ≤ (kd f).toInt))]) (va_runV (As := [.int (nI f)]) (rest := []) ⟨hx, hb, hml, hown, hts⟩ (k_M_isRing l dC dI cI cZ cF H.size k0 a I0 J0 f kd (by first | with_reducible assumption | omega)) (csV_165 hts rfl rfl ⟨Nat.le_of_ble_eq_true rfl, Nat.le_of_ble_eq_true rfl⟩) (zPV2 (q0 := 0) (ci := 9) hPc hDc hK hXN rfl rfl) rfl rfl hl.1 rfl (lv_room (Nat.le_of_ble_eq_true rfl)) dX11_inside_10 ⟨Nat.le_of_ble_eq_true rfl, Nat.le_of_ble_eq_true rfl⟩) hS hFc hFc rfl (fun t H locs ht hB hk1 hS => ?_)
    obtain ⟨hP1, hD1⟩ := hB
    rw [ht] at hP1
    replace hP := z0 hP hD hk1 hP1 hI1
    clear hk1 hPc hDc hFc hP1 hD1 ht hI1
    refine lv_if_eq (tgt := 38) hx hb dX11_inside_13 rfl (fun c_2 => ?_) (fun c_2 => ?_)
    · have c_2 : ¬ (5 ≤ (kd f).toInt) := zp_0 c_2
      refine lv_iconst (v := (-1)) hx hb dX11_inside_38 rfl ?_
      obtain ⟨hP9, hD9⟩ := zu_sub (wc := [_, _, _, _]) hP hD [true, true, true, true] rfl rfl
      rw [hQ9]
      exact W.iret (v := (-1)) hx hb hr (fun t ht hW => ⟨⟨rfl, by rw [ht]; exact hP9, hD9⟩, hS.F ht⟩) hS.2.2 dX11_inside_39
    · have c_2 : 5 ≤ (kd f).toInt := zp_1 c_2
      refine lv_iload_n hx hb dX11_inside_16 rfl (lv_at hl 1 rfl) ?_
      refine lv_if_lt (tgt := 38) hx hb dX11_inside_17 rfl (fun c_3 => ?_) (fun c_3 => ?_)
      · have c_3 : px.toInt < 0 := zc_lt rfl rfl c_3
        refine lv_iconst (v := (-1)) hx hb dX11_inside_38 rfl ?_
        obtain ⟨hP9, hD9⟩ := zu_sub (wc := [_, _, _, _]) hP hD [true, true, true, true] rfl rfl
        rw [hQ9]
        exact W.iret (v := (-1)) hx hb hr (fun t ht hW => ⟨⟨rfl, by rw [ht]; exact hP9, hD9⟩, hS.F ht⟩) hS.2.2 dX11_inside_39
      · have c_3 : 0 ≤ px.toInt := zc_nlt rfl rfl c_3
        refine lv_iload_n hx hb dX11_inside_20 rfl (lv_at hl 1 rfl) ?_
        refine lv_sipush (v := 1000) hx hb dX11_inside_21 rfl ?_
        refine lv_icmp_gt (tgt := 38) hx hb dX11_inside_24 rfl (fun c_4 => ?_) (fun c_4 => ?_)
        · have c_4 : 1000 < px.toInt := zc_lt rfl rfl c_4
          refine lv_iconst (v := (-1)) hx hb dX11_inside_38 rfl ?_
          obtain ⟨hP9, hD9⟩ := zu_sub (wc := [_, _, _, _]) hP hD [true, true, true, true] rfl rfl
          rw [hQ9]
          exact W.iret (v := (-1)) hx hb hr (fun t ht hW => ⟨⟨rfl, by rw [ht]; exact hP9, hD9⟩, hS.F ht⟩) hS.2.2 dX11_inside_39
        · have c_4 : px.toInt ≤ 1000 := zc_nlt rfl rfl c_4
          refine lv_iload_n hx hb dX11_inside_27 rfl (lv_at hl 2 rfl) ?_
          refine lv_if_lt (tgt := 38) hx hb dX11_inside_28 rfl (fun c_5 => ?_) (fun c_5 => ?_)
          · have c_5 : py.toInt < 0 := zc_lt rfl rfl c_5
            refine lv_iconst (v := (-1)) hx hb dX11_inside_38 rfl ?_
            obtain ⟨hP9, hD9⟩ := zu_sub (wc := [_, _, _, _]) hP hD [true, true, true, true] rfl rfl
            rw [hQ9]
            exact W.iret (v := (-1)) hx hb hr (fun t ht hW => ⟨⟨rfl, by rw [ht]; exact hP9, hD9⟩, hS.F ht⟩) hS.2.2 dX11_inside_39
          · have c_5 : 0 ≤ py.toInt := zc_nlt rfl rfl c_5
            refine lv_iload_n hx hb dX11_inside_31 rfl (lv_at hl 2 rfl) ?_
            refine lv_sipush (v := 1000) hx hb dX11_inside_32 rfl ?_
            refine lv_icmp_le (tgt := 40) hx hb dX11_inside_35 rfl (fun c_6 => ?_) (fun c_6 => ?_)
            · have c_6 : py.toInt ≤ 1000 := zc_le rfl rfl c_6
              exact absurd ⟨by assumption, by assumption, by omega⟩ hbad
            · have c_6 : 1000 < py.toInt := zc_nle rfl rfl c_6
              refine lv_iconst (v := (-1)) hx hb dX11_inside_38 rfl ?_
              obtain ⟨hP9, hD9⟩ := zu_sub (wc := [_, _, _, _]) hP hD [true, true, true, true] rfl rfl
              rw [hQ9]
              exact W.iret (v := (-1)) hx hb hr (fun t ht hW => ⟨⟨rfl, by rw [ht]; exact hP9, hD9⟩, hS.F ht⟩) hS.2.2 dX11_inside_39
set_option maxHeartbeats 4000000 in
set_option maxRecDepth 100000 in
theorem k_M_inside_y (l : Launch) (dC : Nat → ClassId) (dI : Nat → Nat → Nat) (cI cZ cF : ClassId) (sz : Nat) (k0 : Nat) (a : Nat → Nat) (I0 : Nat → Int32) (J0 : Nat → Int64) (f : Nat) (ft : Nat) (px : Int32) (py : Int32) (st : Nat → Int32) (tn : Nat → Int32) (kd : Nat → Int32) (mn : Nat → Int32) (cx : Nat → Int32) (cy : Nat → Int32) (S0 : Nat → Int32) (hft : I0 0 = nI ft) (h200 : ft ≤ 200) (hwf : ∀ q, lvF ft st tn q → wfM mn cx cy q) (hf_t : f < ft) (hlv : lvF ft st tn f) (hrg : 5 ≤ (kd f).toInt) (hpl : 0 ≤ px.toInt ∧ px.toInt ≤ 1000 ∧ 0 ≤ py.toInt ∧ py.toInt ≤ 1000) : zM l yX11_inside cX11_inside 4 (some .int) ({ frames := 4, cells := 0, slots := 0, locals := 107 } : Room) [.ref k0, .int px, .int py, .int (nI f)] (dC, dI) (zTy cI cZ cF) [(om k0 a I0 J0), (oa (a 5) cI 201 st), (oa (a 6) cZ 201 tn), (oa (a 1) cI 201 kd), (oa (a 11) cI 201 mn), (oa (a 12) cI 8040 cx), (oa (a 13) cI 8040 cy), (oa (a 32) cI 8 S0)] sz (some (.int (inV (∃ i, i < eO (kd f).toInt (nN (mn f)) ∧ eOn (nN (mn f)) (cF40 cx f) (cF40 cy f) i px.toInt py.toInt) (inF (kd f).toInt (nN (mn f)) (cF40 cx f) (cF40 cy f) px.toInt py.toInt)))) (fun A t => ∃ (S1 : Nat → Int32), zPD (dC, dI) classes A [(om k0 a I0 J0), (oa (a 5) cI 201 st), (oa (a 6) cZ 201 tn), (oa (a 1) cI 201 kd), (oa (a 11) cI 201 mn), (oa (a 12) cI 8040 cx), (oa (a 13) cI 8040 cy), (oa (a 32) cI 8 S1)] t.heap) 0 0 := by
  refine zIn (own := "ScaleShopModel") (loc := [(0, .ref k0), (1, .int px), (2, .int py), (3, .int (nI f))]) rfl rfl rfl rfl (fun p e s m below meth c hx hb hr hts hown hlocks hml hnm9 A hA hS hP hD hK hXN Q9 hQ9 ls hl => ?_)
  refine lv_aload_n hx hb dX11_inside_0 rfl (lv_at hl 0 rfl) ?_
  refine lv_iload_n hx hb dX11_inside_1 rfl (lv_at hl 3 rfl) ?_
  obtain ⟨hPc, hDc, hFc, hI1⟩ := zi_sub (wc := [_, _, _]) hP hD hS hA [0, 1, 2] rfl rfl
  refine zcall (st1 := [.int (pI (f < ft ∧ (st f).toInt = 1 ∧ (tn f).toInt = 0))]) (va_runV (As := [.int (nI f)]) (rest := []) ⟨hx, hb, hml, hown, hts⟩ (k_M_is_n l dC dI cI cZ cF s.heap.size k0 a I0 J0 f ft st tn (by first | with_reducible assumption | assumption) (by first | with_reducible assumption | omega) (by first | with_reducible assumption | omega)) (csV_179 hts rfl rfl ⟨Nat.le_of_ble_eq_true rfl, Nat.le_of_ble_eq_true rfl⟩) (zPV2 (q0 := 0) (ci := 9) hPc hDc hK hXN rfl rfl) rfl rfl hl.1 rfl (lv_room (Nat.le_of_ble_eq_true rfl)) dX11_inside_2 ⟨Nat.le_of_ble_eq_true rfl, Nat.le_of_ble_eq_true rfl⟩) hS hFc hFc rfl (fun t H locs ht hB hk1 hS => ?_)
  obtain ⟨hP1, hD1⟩ := hB
  rw [ht] at hP1
  replace hP := z0 hP hD hk1 hP1 hI1
  clear hk1 hPc hDc hFc hP1 hD1 ht hI1
  refine lv_if_eq (tgt := 38) hx hb dX11_inside_5 rfl (fun c_1 => ?_) (fun c_1 => ?_)
  · have c_1 : ¬ (f < ft ∧ (st f).toInt = 1 ∧ (tn f).toInt = 0) := zp_0 c_1
    exfalso; exact absurd hlv (by first | with_reducible assumption | assumption)
  · have c_1 : f < ft ∧ (st f).toInt = 1 ∧ (tn f).toInt = 0 := zp_1 c_1
    have hw_ff := hwf f (by first | with_reducible assumption | assumption)
    have hm_ff := hw_ff.1
    have hn_ff := hw_ff.2.1
    have hp_ff := hw_ff.2.2
    refine lv_aload_n hx hb dX11_inside_8 rfl (lv_at hl 0 rfl) ?_
    refine lv_iload_n hx hb dX11_inside_9 rfl (lv_at hl 3 rfl) ?_
    obtain ⟨hPc, hDc, hFc, hI1⟩ := zi_sub (wc := [_, _]) hP hD hS hA [0, 3] rfl rfl
    refine zcall (st1 := [.int (pI (5 ≤ (kd f).toInt))]) (va_runV (As := [.int (nI f)]) (rest := []) ⟨hx, hb, hml, hown, hts⟩ (k_M_isRing l dC dI cI cZ cF H.size k0 a I0 J0 f kd (by first | with_reducible assumption | omega)) (csV_165 hts rfl rfl ⟨Nat.le_of_ble_eq_true rfl, Nat.le_of_ble_eq_true rfl⟩) (zPV2 (q0 := 0) (ci := 9) hPc hDc hK hXN rfl rfl) rfl rfl hl.1 rfl (lv_room (Nat.le_of_ble_eq_true rfl)) dX11_inside_10 ⟨Nat.le_of_ble_eq_true rfl, Nat.le_of_ble_eq_true rfl⟩) hS hFc hFc rfl (fun t H locs ht hB hk1 hS => ?_)
    obtain ⟨hP1, hD1⟩ := hB
    rw [ht] at hP1
    replace hP := z0 hP hD hk1 hP1 hI1
    clear hk1 hPc hDc hFc hP1 hD1 ht hI1
    refine lv_if_eq (tgt := 38) hx hb dX11_inside_13 rfl (fun c_2 => ?_) (fun c_2 => ?_)
    · have c_2 : ¬ (5 ≤ (kd f).toInt) := zp_0 c_2
      exfalso; exact absurd hrg (by first | with_reducible assumption | assumption)
    · have c_2 : 5 ≤ (kd f).toInt := zp_1 c_2
      refine lv_iload_n hx hb dX11_inside_16 rfl (lv_at hl 1 rfl) ?_
      refine lv_if_lt (tgt := 38) hx hb dX11_inside_17 rfl (fun c_3 => ?_) (fun c_3 => ?_)
      · have c_3 : px.toInt < 0 := zc_lt rfl rfl c_3
        exfalso; omega
      · have c_3 : 0 ≤ px.toInt := zc_nlt rfl rfl c_3
        refine lv_iload_n hx hb dX11_inside_20 rfl (lv_at hl 1 rfl) ?_
        refine lv_sipush (v := 1000) hx hb dX11_inside_21 rfl ?_
        refine lv_icmp_gt (tgt := 38) hx hb dX11_inside_24 rfl (fun c_4 => ?_) (fun c_4 => ?_)
        · have c_4 : 1000 < px.toInt := zc_lt rfl rfl c_4
          exfalso; omega
        · have c_4 : px.toInt ≤ 1000 := zc_nlt rfl rfl c_4
          refine lv_iload_n hx hb dX11_inside_27 rfl (lv_at hl 2 rfl) ?_
          refine lv_if_lt (tgt := 38) hx hb dX11_inside_28 rfl (fun c_5 => ?_) (fun c_5 => ?_)
          · have c_5 : py.toInt < 0 := zc_lt rfl rfl c_5
            exfalso; omega
          · have c_5 : 0 ≤ py.toInt := zc_nlt rfl rfl c_5
            refine lv_iload_n hx hb dX11_inside_31 rfl (lv_at hl 2 rfl) ?_
            refine lv_sipush (v := 1000) hx hb dX11_inside_32 rfl ?_
            refine lv_icmp_le (tgt := 40) hx hb dX11_inside_35 rfl (fun c_6 => ?_) (fun c_6 => ?_)
            · have c_6 : py.toInt ≤ 1000 := zc_le rfl rfl c_6
              have hpx9 : pl px := ⟨by omega, by omega⟩
              have hpy9 : pl py := ⟨by omega, by omega⟩
              refine lv_aload_n hx hb dX11_inside_40 rfl (lv_at hl 0 rfl) ?_
              refine lv_iload_n hx hb dX11_inside_41 rfl (lv_at hl 3 rfl) ?_
              refine lv_iload_n hx hb dX11_inside_42 rfl (lv_at hl 1 rfl) ?_
              refine lv_iload_n hx hb dX11_inside_43 rfl (lv_at hl 2 rfl) ?_
              obtain ⟨hPc, hDc, hFc⟩ := zo_sub (wc := [_, _, _, _, _, _]) hP hD hS hA [0, 3, 4, 5, 6, 7] (by decide +kernel) rfl
              refine zcall (st1 := [.int (pI (∃ i, i < eO (kd f).toInt (nN (mn f)) ∧ eOn (nN (mn f)) (cF40 cx f) (cF40 cy f) i px.toInt py.toInt))]) (va_runV (As := [.int (nI f), .int px, .int py]) (rest := []) ⟨hx, hb, hml, hown, hts⟩ (k_M_isOnSet l dC dI cI cZ cF H.size k0 a I0 J0 f (nN (mn f)) kd mn cx cy S0 px py (by first | with_reducible assumption | omega) (by first | with_reducible assumption | assumption) (by first | with_reducible assumption | omega) (by first | with_reducible assumption | assumption) (hpx9) (hpy9)) (csV_169 hts rfl rfl ⟨Nat.le_of_ble_eq_true rfl, Nat.le_of_ble_eq_true rfl⟩) (zPV2 (q0 := 0) (ci := 9) hPc hDc hK hXN rfl rfl) rfl rfl hl.1 rfl (lv_room (Nat.le_of_ble_eq_true rfl)) dX11_inside_44 ⟨Nat.le_of_ble_eq_true rfl, Nat.le_of_ble_eq_true rfl⟩) hS hFc hFc rfl (fun t H locs ht hB hk1 hS => ?_)
              obtain ⟨q_7, hP1, hD1⟩ := hB
              rw [ht] at hP1
              obtain ⟨hP, hD⟩ := zn (W2 := [_, _, _, _, _, _, _, (oa (a 32) cI 8 q_7)]) hP hD hk1 hFc hP1 hD1 [0, 3, 4, 5, 6, 7] [false, true, true] zl_146 [0, 3, 4, 5, 6, 7] (by decide +kernel) rfl rfl rfl rfl rfl
              clear hk1 hPc hDc hFc hP1 hD1 ht
              refine lv_if_eq (tgt := 54) hx hb dX11_inside_47 rfl (fun c_8 => ?_) (fun c_8 => ?_)
              · have c_8 : ¬ (∃ i, i < eO (kd f).toInt (nN (mn f)) ∧ eOn (nN (mn f)) (cF40 cx f) (cF40 cy f) i px.toInt py.toInt) := zp_0 c_8
                refine lv_aload_n hx hb dX11_inside_54 rfl (lv_at hl 0 rfl) ?_
                refine lv_iload_n hx hb dX11_inside_55 rfl (lv_at hl 3 rfl) ?_
                refine lv_iload_n hx hb dX11_inside_56 rfl (lv_at hl 1 rfl) ?_
                refine lv_iload_n hx hb dX11_inside_57 rfl (lv_at hl 2 rfl) ?_
                obtain ⟨hPc, hDc, hFc⟩ := zo_sub (wc := [_, _, _, _, _, _]) hP hD hS hA [0, 3, 4, 5, 6, 7] (by decide +kernel) rfl
                refine zcall (st1 := [.int (pI (¬ (∃ i, i < eO (kd f).toInt (nN (mn f)) ∧ eOn (nN (mn f)) (cF40 cx f) (cF40 cy f) i px.toInt py.toInt) ∧ par2 (eTg (nN (mn f)) (cF40 cx f) (cF40 cy f) px.toInt py.toInt) (eO (kd f).toInt (nN (mn f)))))]) (va_runV (As := [.int (nI f), .int px, .int py]) (rest := []) ⟨hx, hb, hml, hown, hts⟩ (k_M_isInside l dC dI cI cZ cF H.size k0 a I0 J0 f (nN (mn f)) kd mn cx cy q_7 px py (by first | with_reducible assumption | omega) (by first | with_reducible assumption | assumption) (by first | with_reducible assumption | omega) (by first | with_reducible assumption | assumption) (hpx9) (hpy9)) (csV_183 hts rfl rfl ⟨Nat.le_of_ble_eq_true rfl, Nat.le_of_ble_eq_true rfl⟩) (zPV2 (q0 := 0) (ci := 9) hPc hDc hK hXN rfl rfl) rfl rfl hl.1 rfl (lv_room (Nat.le_of_ble_eq_true rfl)) dX11_inside_58 ⟨Nat.le_of_ble_eq_true rfl, Nat.le_of_ble_eq_true rfl⟩) hS hFc hFc rfl (fun t H locs ht hB hk1 hS => ?_)
                obtain ⟨q_9, hP1, hD1⟩ := hB
                rw [ht] at hP1
                obtain ⟨hP, hD⟩ := zn (W2 := [_, _, _, _, _, _, _, (oa (a 32) cI 8 q_9)]) hP hD hk1 hFc hP1 hD1 [0, 3, 4, 5, 6, 7] [false, true, true] zl_146 [0, 3, 4, 5, 6, 7] (by decide +kernel) rfl rfl rfl rfl rfl
                clear hk1 hPc hDc hFc hP1 hD1 ht
                refine zz_i (v := pI (inF (kd f).toInt (nN (mn f)) (cF40 cx f) (cF40 cy f) px.toInt py.toInt)) (rfl) ?_
                refine lv_if_eq (tgt := 68) hx hb dX11_inside_61 rfl (fun c_10 => ?_) (fun c_10 => ?_)
                · have c_10 : ¬ (inF (kd f).toInt (nN (mn f)) (cF40 cx f) (cF40 cy f) px.toInt py.toInt) := zp_0 c_10
                  refine lv_iconst (v := 0) hx hb dX11_inside_68 rfl ?_
                  obtain ⟨hP9, hD9⟩ := zu_sub (wc := [_, _, _, _, _, _, _, _]) hP hD [true, true, true, true, true, true, true, true] rfl rfl
                  rw [hQ9]
                  exact W.iret (v := 0) hx hb hr (fun t ht hW => ⟨⟨congrArg (fun z => Outcome.returned (some (Value.int z))) (show (0 : Int32) = inV (∃ i, i < eO (kd f).toInt (nN (mn f)) ∧ eOn (nN (mn f)) (cF40 cx f) (cF40 cy f) i px.toInt py.toInt) (inF (kd f).toInt (nN (mn f)) (cF40 cx f) (cF40 cy f) px.toInt py.toInt) from by first | exact inV_2 (by first | with_reducible assumption | assumption) | exact inV_1 (by first | with_reducible assumption | assumption) (by first | with_reducible assumption | assumption) | exact inV_0 (by first | with_reducible assumption | assumption) (by first | with_reducible assumption | assumption)), q_9, by rw [ht]; exact hP9, hD9⟩, hS.F ht⟩) hS.2.2 dX11_inside_69
                · have c_10 : inF (kd f).toInt (nN (mn f)) (cF40 cx f) (cF40 cy f) px.toInt py.toInt := zp_1 c_10
                  refine lv_iconst (v := 1) hx hb dX11_inside_64 rfl ?_
                  refine lv_goto (tgt := 69) hx hb dX11_inside_65 rfl ?_
                  obtain ⟨hP9, hD9⟩ := zu_sub (wc := [_, _, _, _, _, _, _, _]) hP hD [true, true, true, true, true, true, true, true] rfl rfl
                  rw [hQ9]
                  exact W.iret (v := 1) hx hb hr (fun t ht hW => ⟨⟨congrArg (fun z => Outcome.returned (some (Value.int z))) (show (1 : Int32) = inV (∃ i, i < eO (kd f).toInt (nN (mn f)) ∧ eOn (nN (mn f)) (cF40 cx f) (cF40 cy f) i px.toInt py.toInt) (inF (kd f).toInt (nN (mn f)) (cF40 cx f) (cF40 cy f) px.toInt py.toInt) from by first | exact inV_2 (by first | with_reducible assumption | assumption) | exact inV_1 (by first | with_reducible assumption | assumption) (by first | with_reducible assumption | assumption) | exact inV_0 (by first | with_reducible assumption | assumption) (by first | with_reducible assumption | assumption)), q_9, by rw [ht]; exact hP9, hD9⟩, hS.F ht⟩) hS.2.2 dX11_inside_69
              · have c_8 : ∃ i, i < eO (kd f).toInt (nN (mn f)) ∧ eOn (nN (mn f)) (cF40 cx f) (cF40 cy f) i px.toInt py.toInt := zp_1 c_8
                refine lv_iconst (v := 2) hx hb dX11_inside_50 rfl ?_
                refine lv_goto (tgt := 69) hx hb dX11_inside_51 rfl ?_
                obtain ⟨hP9, hD9⟩ := zu_sub (wc := [_, _, _, _, _, _, _, _]) hP hD [true, true, true, true, true, true, true, true] rfl rfl
                rw [hQ9]
                exact W.iret (v := 2) hx hb hr (fun t ht hW => ⟨⟨congrArg (fun z => Outcome.returned (some (Value.int z))) (show (2 : Int32) = inV (∃ i, i < eO (kd f).toInt (nN (mn f)) ∧ eOn (nN (mn f)) (cF40 cx f) (cF40 cy f) i px.toInt py.toInt) (inF (kd f).toInt (nN (mn f)) (cF40 cx f) (cF40 cy f) px.toInt py.toInt) from by first | exact inV_2 (by first | with_reducible assumption | assumption) | exact inV_1 (by first | with_reducible assumption | assumption) (by first | with_reducible assumption | assumption) | exact inV_0 (by first | with_reducible assumption | assumption) (by first | with_reducible assumption | assumption)), q_7, by rw [ht]; exact hP9, hD9⟩, hS.F ht⟩) hS.2.2 dX11_inside_69
            · have c_6 : 1000 < py.toInt := zc_nle rfl rfl c_6
              exfalso; omega
set_option maxHeartbeats 4000000 in
set_option maxRecDepth 100000 in
theorem k_M_told_x (l : Launch) (dC : Nat → ClassId) (dI : Nat → Nat → Nat) (cI cZ cF : ClassId) (sz : Nat) (k0 : Nat) (a : Nat → Nat) (I0 : Nat → Int32) (J0 : Nat → Int64) (ft : Nat) (v : Int32) (w : Int32) (hft : I0 0 = nI ft) (h200 : ft ≤ 200) (hv : ¬ (0 ≤ v.toInt ∧ v.toInt < (ft : Int))) : zM l yX11_told cX11_told 3 (some .int) ({ frames := 1, cells := 0, slots := 0, locals := 21 } : Room) [.ref k0, .int v, .int w] (dC, dI) (zTy cI cZ cF) [(om k0 a I0 J0)] sz (some (.int (-1))) (fun A t => zPD (dC, dI) classes A [(om k0 a I0 J0)] t.heap) 0 0 := by
  refine zIn (own := "ScaleShopModel") (loc := [(0, .ref k0), (1, .int v), (2, .int w)]) rfl rfl rfl rfl (fun p e s m below meth c hx hb hr hts hown hlocks hml hnm9 A hA hS hP hD hK hXN Q9 hQ9 ls hl => ?_)
  refine lv_aload_n hx hb dX11_told_0 rfl (lv_at hl 0 rfl) ?_
  refine lv_iload_n hx hb dX11_told_1 rfl (lv_at hl 1 rfl) ?_
  obtain ⟨hPc, hDc, hFc, hI1⟩ := zi_sub (wc := [_]) hP hD hS hA [0] rfl rfl
  refine zcall (st1 := [.int (pI (0 ≤ v.toInt ∧ v.toInt < (ft : Int)))]) (va_runV (As := [.int v]) (rest := []) ⟨hx, hb, hml, hown, hts⟩ (k_M_isFeature l dC dI cI cZ cF s.heap.size k0 a I0 J0 ft v (by first | with_reducible assumption | assumption) (by first | with_reducible assumption | omega)) (csV_178 hts rfl rfl ⟨Nat.le_of_ble_eq_true rfl, Nat.le_of_ble_eq_true rfl⟩) (zPV2 (q0 := 0) (ci := 9) hPc hDc hK hXN rfl rfl) rfl rfl hl.1 rfl (lv_room (Nat.le_of_ble_eq_true rfl)) dX11_told_2 ⟨Nat.le_of_ble_eq_true rfl, Nat.le_of_ble_eq_true rfl⟩) hS hFc hFc rfl (fun t H locs ht hB hk1 hS => ?_)
  obtain ⟨hP1, hD1⟩ := hB
  rw [ht] at hP1
  replace hP := z0 hP hD hk1 hP1 hI1
  clear hk1 hPc hDc hFc hP1 hD1 ht hI1
  refine lv_if_ne (tgt := 10) hx hb dX11_told_5 rfl (fun c_1 => ?_) (fun c_1 => ?_)
  · have c_1 : 0 ≤ v.toInt ∧ v.toInt < (ft : Int) := zp_1 c_1
    exfalso; exact absurd (by first | with_reducible assumption | assumption) hv
  · have c_1 : ¬ (0 ≤ v.toInt ∧ v.toInt < (ft : Int)) := zp_0 c_1
    refine lv_iconst (v := (-1)) hx hb dX11_told_8 rfl ?_
    obtain ⟨hP9, hD9⟩ := zu_sub (wc := [_]) hP hD [true] rfl rfl
    rw [hQ9]
    exact W.iret (v := (-1)) hx hb hr (fun t ht hW => ⟨⟨rfl, by rw [ht]; exact hP9, hD9⟩, hS.F ht⟩) hS.2.2 dX11_told_9
set_option maxHeartbeats 4000000 in
set_option maxRecDepth 100000 in
theorem k_M_step_x (l : Launch) (dC : Nat → ClassId) (dI : Nat → Nat → Nat) (cI cZ cF : ClassId) (sz : Nat) (k0 : Nat) (a : Nat → Nat) (I0 : Nat → Int32) (J0 : Nat → Int64) (dn : Nat) (rd : Nat) (v : Int32) (w : Int32) (hdn : I0 19 = nI dn) (hrd : I0 20 = nI rd) (hsum : dn + rd ≤ 512) (hv : ¬ (1 ≤ v.toInt ∧ v.toInt ≤ ((dn + rd : Nat) : Int))) : zM l yX11_step cX11_step 3 (some .int) ({ frames := 0, cells := 0, slots := 0, locals := 0 } : Room) [.ref k0, .int v, .int w] (dC, dI) (zTy cI cZ cF) [(om k0 a I0 J0)] sz (some (.int (-1))) (fun A t => zPD (dC, dI) classes A [(om k0 a I0 J0)] t.heap) 0 0 := by
  refine zIn (own := "ScaleShopModel") (loc := [(0, .ref k0), (1, .int v), (2, .int w)]) rfl rfl rfl rfl (fun p e s m below meth c hx hb hr hts hown hlocks hml hnm9 A hA hS hP hD hK hXN Q9 hQ9 ls hl => ?_)
  refine lv_iload_n hx hb dX11_step_0 rfl (lv_at hl 1 rfl) ?_
  refine lv_iconst (v := 1) hx hb dX11_step_1 rfl ?_
  refine lv_icmp_lt (tgt := 18) hx hb dX11_step_2 rfl (fun c_1 => ?_) (fun c_1 => ?_)
  · have c_1 : v.toInt < 1 := zc_lt rfl rfl c_1
    refine lv_iconst (v := (-1)) hx hb dX11_step_18 rfl ?_
    obtain ⟨hP9, hD9⟩ := zu_sub (wc := [_]) hP hD [true] rfl rfl
    rw [hQ9]
    exact W.iret (v := (-1)) hx hb hr (fun t ht hW => ⟨⟨rfl, by rw [ht]; exact hP9, hD9⟩, hS.F ht⟩) hS.2.2 dX11_step_19
  · have c_1 : 1 ≤ v.toInt := zc_nlt rfl rfl c_1
    refine lv_iload_n hx hb dX11_step_5 rfl (lv_at hl 1 rfl) ?_
    refine lv_aload_n hx hb dX11_step_6 rfl (lv_at hl 0 rfl) ?_
    refine va_get (D := (dC, dI)) (ci := 9) (v := .int (I0 19)) (C := RX11) (T := TX11) (N := 55) hx hb hts inX11 hown hK hP 0 rfl rfl 19 (Nat.le_of_ble_eq_true rfl) (hts _ mw_1178) (fun _ h9 => h9) rfl dX11_step_7 ?_
    refine zz_i (v := nI dn) (hdn) ?_
    refine lv_aload_n hx hb dX11_step_10 rfl (lv_at hl 0 rfl) ?_
    refine va_get (D := (dC, dI)) (ci := 9) (v := .int (I0 20)) (C := RX11) (T := TX11) (N := 55) hx hb hts inX11 hown hK hP 0 rfl rfl 20 (Nat.le_of_ble_eq_true rfl) (hts _ mw_1179) (fun _ h9 => h9) rfl dX11_step_11 ?_
    refine zz_i (v := nI rd) (hrd) ?_
    refine lv_iadd hx hb dX11_step_14 ?_
    refine zz_i (v := nI (dn + rd)) (nI_add dn rd) ?_
    have b9_3 : zlt ((dn + rd)) := show (dn + rd) < 2147483648 by omega
    refine lv_icmp_le (tgt := 20) hx hb dX11_step_15 rfl (fun c_2 => ?_) (fun c_2 => ?_)
    · have c_2 : v.toInt ≤ ((dn + rd : Nat) : Int) := zc_le rfl (nI_toInt b9_3) c_2
      exfalso; omega
    · have c_2 : ((dn + rd : Nat) : Int) < v.toInt := zc_nle rfl (nI_toInt b9_3) c_2
      refine lv_iconst (v := (-1)) hx hb dX11_step_18 rfl ?_
      obtain ⟨hP9, hD9⟩ := zu_sub (wc := [_]) hP hD [true] rfl rfl
      rw [hQ9]
      exact W.iret (v := (-1)) hx hb hr (fun t ht hW => ⟨⟨rfl, by rw [ht]; exact hP9, hD9⟩, hS.F ht⟩) hS.2.2 dX11_step_19
set_option maxHeartbeats 4000000 in
set_option maxRecDepth 100000 in
theorem k_M_at_x (l : Launch) (dC : Nat → ClassId) (dI : Nat → Nat → Nat) (cI cZ cF : ClassId) (sz : Nat) (k0 : Nat) (a : Nat → Nat) (I0 : Nat → Int32) (J0 : Nat → Int64) (ft : Nat) (v : Int32) (kv : Int32) (w : Int32) (hft : I0 0 = nI ft) (h200 : ft ≤ 200) (hv : ¬ (0 ≤ v.toInt ∧ v.toInt < (ft : Int))) : zM l yX11_at cX11_at 4 (some .int) ({ frames := 1, cells := 0, slots := 0, locals := 21 } : Room) [.ref k0, .int v, .int kv, .int w] (dC, dI) (zTy cI cZ cF) [(om k0 a I0 J0)] sz (some (.int (-1))) (fun A t => zPD (dC, dI) classes A [(om k0 a I0 J0)] t.heap) 0 0 := by
  refine zIn (own := "ScaleShopModel") (loc := [(0, .ref k0), (1, .int v), (2, .int kv), (3, .int w)]) rfl rfl rfl rfl (fun p e s m below meth c hx hb hr hts hown hlocks hml hnm9 A hA hS hP hD hK hXN Q9 hQ9 ls hl => ?_)
  refine lv_aload_n hx hb dX11_at_0 rfl (lv_at hl 0 rfl) ?_
  refine lv_iload_n hx hb dX11_at_1 rfl (lv_at hl 1 rfl) ?_
  obtain ⟨hPc, hDc, hFc, hI1⟩ := zi_sub (wc := [_]) hP hD hS hA [0] rfl rfl
  refine zcall (st1 := [.int (pI (0 ≤ v.toInt ∧ v.toInt < (ft : Int)))]) (va_runV (As := [.int v]) (rest := []) ⟨hx, hb, hml, hown, hts⟩ (k_M_isFeature l dC dI cI cZ cF s.heap.size k0 a I0 J0 ft v (by first | with_reducible assumption | assumption) (by first | with_reducible assumption | omega)) (csV_178 hts rfl rfl ⟨Nat.le_of_ble_eq_true rfl, Nat.le_of_ble_eq_true rfl⟩) (zPV2 (q0 := 0) (ci := 9) hPc hDc hK hXN rfl rfl) rfl rfl hl.1 rfl (lv_room (Nat.le_of_ble_eq_true rfl)) dX11_at_2 ⟨Nat.le_of_ble_eq_true rfl, Nat.le_of_ble_eq_true rfl⟩) hS hFc hFc rfl (fun t H locs ht hB hk1 hS => ?_)
  obtain ⟨hP1, hD1⟩ := hB
  rw [ht] at hP1
  replace hP := z0 hP hD hk1 hP1 hI1
  clear hk1 hPc hDc hFc hP1 hD1 ht hI1
  refine lv_if_eq (tgt := 31) hx hb dX11_at_5 rfl (fun c_1 => ?_) (fun c_1 => ?_)
  · have c_1 : ¬ (0 ≤ v.toInt ∧ v.toInt < (ft : Int)) := zp_0 c_1
    refine lv_iconst (v := (-1)) hx hb dX11_at_31 rfl ?_
    obtain ⟨hP9, hD9⟩ := zu_sub (wc := [_]) hP hD [true] rfl rfl
    rw [hQ9]
    exact W.iret (v := (-1)) hx hb hr (fun t ht hW => ⟨⟨rfl, by rw [ht]; exact hP9, hD9⟩, hS.F ht⟩) hS.2.2 dX11_at_32
  · have c_1 : 0 ≤ v.toInt ∧ v.toInt < (ft : Int) := zp_1 c_1
    exfalso; exact absurd (by first | with_reducible assumption | assumption) hv
set_option maxHeartbeats 4000000 in
set_option maxRecDepth 100000 in
theorem k_M_at_r (l : Launch) (dC : Nat → ClassId) (dI : Nat → Nat → Nat) (cI cZ cF : ClassId) (sz : Nat) (k0 : Nat) (a : Nat → Nat) (I0 : Nat → Int32) (J0 : Nat → Int64) (f : Nat) (n : Nat) (ft : Nat) (kv : Int32) (w : Int32) (tn : Nat → Int32) (mn : Nat → Int32) (hft : I0 0 = nI ft) (h200 : ft ≤ 200) (hf_t : f < ft) (hm_f : mn f = nI n) (hn_f : n ≤ 40) (hbad : ¬ ((tn f).toInt = 0 ∧ 0 ≤ kv.toInt ∧ kv.toInt < ((n : Nat) : Int))) : zM l yX11_at cX11_at 4 (some .int) ({ frames := 1, cells := 0, slots := 0, locals := 21 } : Room) [.ref k0, .int (nI f), .int kv, .int w] (dC, dI) (zTy cI cZ cF) [(om k0 a I0 J0), (oa (a 6) cZ 201 tn), (oa (a 11) cI 201 mn)] sz (some (.int (-1))) (fun A t => zPD (dC, dI) classes A [(om k0 a I0 J0), (oa (a 6) cZ 201 tn), (oa (a 11) cI 201 mn)] t.heap) 0 0 := by
  refine zIn (own := "ScaleShopModel") (loc := [(0, .ref k0), (1, .int (nI f)), (2, .int kv), (3, .int w)]) rfl rfl rfl rfl (fun p e s m below meth c hx hb hr hts hown hlocks hml hnm9 A hA hS hP hD hK hXN Q9 hQ9 ls hl => ?_)
  refine lv_aload_n hx hb dX11_at_0 rfl (lv_at hl 0 rfl) ?_
  refine lv_iload_n hx hb dX11_at_1 rfl (lv_at hl 1 rfl) ?_
  obtain ⟨hPc, hDc, hFc, hI1⟩ := zi_sub (wc := [_]) hP hD hS hA [0] rfl rfl
  refine zcall (st1 := [.int (pI (f < ft))]) (va_runV (As := [.int (nI f)]) (rest := []) ⟨hx, hb, hml, hown, hts⟩ (k_M_isFeature_n l dC dI cI cZ cF s.heap.size k0 a I0 J0 f ft (by first | with_reducible assumption | assumption) (by first | with_reducible assumption | omega) (by first | with_reducible assumption | omega)) (csV_178 hts rfl rfl ⟨Nat.le_of_ble_eq_true rfl, Nat.le_of_ble_eq_true rfl⟩) (zPV2 (q0 := 0) (ci := 9) hPc hDc hK hXN rfl rfl) rfl rfl hl.1 rfl (lv_room (Nat.le_of_ble_eq_true rfl)) dX11_at_2 ⟨Nat.le_of_ble_eq_true rfl, Nat.le_of_ble_eq_true rfl⟩) hS hFc hFc rfl (fun t H locs ht hB hk1 hS => ?_)
  obtain ⟨hP1, hD1⟩ := hB
  rw [ht] at hP1
  replace hP := z0 hP hD hk1 hP1 hI1
  clear hk1 hPc hDc hFc hP1 hD1 ht hI1
  refine lv_if_eq (tgt := 31) hx hb dX11_at_5 rfl (fun c_1 => ?_) (fun c_1 => ?_)
  · have c_1 : ¬ (f < ft) := zp_0 c_1
    exfalso; omega
  · have c_1 : f < ft := zp_1 c_1
    refine lv_aload_n hx hb dX11_at_8 rfl (lv_at hl 0 rfl) ?_
    refine va_get (D := (dC, dI)) (ci := 9) (v := .ref (a 6)) (C := RX11) (T := TX11) (N := 55) hx hb hts inX11 hown hK hP 0 rfl rfl 6 (Nat.le_of_ble_eq_true rfl) (hts _ mw_1165) (fun _ h9 => h9) rfl dX11_at_9 ?_
    refine lv_iload_n hx hb dX11_at_12 rfl (lv_at hl 1 rfl) ?_
    have b9_2 : f < 201 := by omega
    refine z_zald hx hb hK hP 1 1 rfl rfl (e := f) rfl b9_2 (Nat.le_of_ble_eq_true rfl) dX11_at_13 ?_
    refine lv_if_ne (tgt := 31) hx hb dX11_at_14 rfl (fun c_3 => ?_) (fun c_3 => ?_)
    · have c_3 : ¬ (tn f).toInt = 0 := zc_ne rfl rfl c_3
      refine lv_iconst (v := (-1)) hx hb dX11_at_31 rfl ?_
      obtain ⟨hP9, hD9⟩ := zu_sub (wc := [_, _, _]) hP hD [true, true, true] rfl rfl
      rw [hQ9]
      exact W.iret (v := (-1)) hx hb hr (fun t ht hW => ⟨⟨rfl, by rw [ht]; exact hP9, hD9⟩, hS.F ht⟩) hS.2.2 dX11_at_32
    · have c_3 : (tn f).toInt = 0 := zc_eq rfl rfl c_3
      refine lv_iload_n hx hb dX11_at_17 rfl (lv_at hl 2 rfl) ?_
      refine lv_if_lt (tgt := 31) hx hb dX11_at_18 rfl (fun c_4 => ?_) (fun c_4 => ?_)
      · have c_4 : kv.toInt < 0 := zc_lt rfl rfl c_4
        refine lv_iconst (v := (-1)) hx hb dX11_at_31 rfl ?_
        obtain ⟨hP9, hD9⟩ := zu_sub (wc := [_, _, _]) hP hD [true, true, true] rfl rfl
        rw [hQ9]
        exact W.iret (v := (-1)) hx hb hr (fun t ht hW => ⟨⟨rfl, by rw [ht]; exact hP9, hD9⟩, hS.F ht⟩) hS.2.2 dX11_at_32
      · have c_4 : 0 ≤ kv.toInt := zc_nlt rfl rfl c_4
        refine lv_iload_n hx hb dX11_at_21 rfl (lv_at hl 2 rfl) ?_
        refine lv_aload_n hx hb dX11_at_22 rfl (lv_at hl 0 rfl) ?_
        refine va_get (D := (dC, dI)) (ci := 9) (v := .ref (a 11)) (C := RX11) (T := TX11) (N := 55) hx hb hts inX11 hown hK hP 0 rfl rfl 11 (Nat.le_of_ble_eq_true rfl) (hts _ mw_1170) (fun _ h9 => h9) rfl dX11_at_23 ?_
        refine lv_iload_n hx hb dX11_at_26 rfl (lv_at hl 1 rfl) ?_
        refine z_iald hx hb hK hP 2 0 rfl rfl (e := f) rfl b9_2 (Nat.le_of_ble_eq_true rfl) dX11_at_27 ?_
        refine zz_i (v := nI n) (hm_f) ?_
        have b9_6 : zlt (n) := show n < 2147483648 by omega
        refine lv_icmp_lt (tgt := 33) hx hb dX11_at_28 rfl (fun c_5 => ?_) (fun c_5 => ?_)
        · have c_5 : kv.toInt < ((n : Nat) : Int) := zc_lt rfl (nI_toInt b9_6) c_5
          exfalso; omega
        · have c_5 : ((n : Nat) : Int) ≤ kv.toInt := zc_nlt rfl (nI_toInt b9_6) c_5
          refine lv_iconst (v := (-1)) hx hb dX11_at_31 rfl ?_
          obtain ⟨hP9, hD9⟩ := zu_sub (wc := [_, _, _]) hP hD [true, true, true] rfl rfl
          rw [hQ9]
          exact W.iret (v := (-1)) hx hb hr (fun t ht hW => ⟨⟨rfl, by rw [ht]; exact hP9, hD9⟩, hS.F ht⟩) hS.2.2 dX11_at_32
set_option maxHeartbeats 4000000 in
set_option maxRecDepth 100000 in
theorem k_M_at_0 (l : Launch) (dC : Nat → ClassId) (dI : Nat → Nat → Nat) (cI cZ cF : ClassId) (sz : Nat) (k0 : Nat) (a : Nat → Nat) (I0 : Nat → Int32) (J0 : Nat → Int64) (f : Nat) (n : Nat) (k : Nat) (ft : Nat) (tn : Nat → Int32) (mn : Nat → Int32) (cx : Nat → Int32) (hft : I0 0 = nI ft) (h200 : ft ≤ 200) (hf_t : f < ft) (hm_f : mn f = nI n) (hn_f : n ≤ 40) (htn0 : (tn f).toInt = 0) (hk9 : k < n) : zM l yX11_at cX11_at 4 (some .int) ({ frames := 1, cells := 0, slots := 0, locals := 21 } : Room) [.ref k0, .int (nI f), .int (nI k), .int 0] (dC, dI) (zTy cI cZ cF) [(om k0 a I0 J0), (oa (a 6) cZ 201 tn), (oa (a 11) cI 201 mn), (oa (a 12) cI 8040 cx)] sz (some (.int (cF40 cx f k))) (fun A t => zPD (dC, dI) classes A [(om k0 a I0 J0), (oa (a 6) cZ 201 tn), (oa (a 11) cI 201 mn), (oa (a 12) cI 8040 cx)] t.heap) 0 0 := by
  refine zIn (own := "ScaleShopModel") (loc := [(0, .ref k0), (1, .int (nI f)), (2, .int (nI k)), (3, .int 0)]) rfl rfl rfl rfl (fun p e s m below meth c hx hb hr hts hown hlocks hml hnm9 A hA hS hP hD hK hXN Q9 hQ9 ls hl => ?_)
  refine lv_aload_n hx hb dX11_at_0 rfl (lv_at hl 0 rfl) ?_
  refine lv_iload_n hx hb dX11_at_1 rfl (lv_at hl 1 rfl) ?_
  obtain ⟨hPc, hDc, hFc, hI1⟩ := zi_sub (wc := [_]) hP hD hS hA [0] rfl rfl
  refine zcall (st1 := [.int (pI (f < ft))]) (va_runV (As := [.int (nI f)]) (rest := []) ⟨hx, hb, hml, hown, hts⟩ (k_M_isFeature_n l dC dI cI cZ cF s.heap.size k0 a I0 J0 f ft (by first | with_reducible assumption | assumption) (by first | with_reducible assumption | omega) (by first | with_reducible assumption | omega)) (csV_178 hts rfl rfl ⟨Nat.le_of_ble_eq_true rfl, Nat.le_of_ble_eq_true rfl⟩) (zPV2 (q0 := 0) (ci := 9) hPc hDc hK hXN rfl rfl) rfl rfl hl.1 rfl (lv_room (Nat.le_of_ble_eq_true rfl)) dX11_at_2 ⟨Nat.le_of_ble_eq_true rfl, Nat.le_of_ble_eq_true rfl⟩) hS hFc hFc rfl (fun t H locs ht hB hk1 hS => ?_)
  obtain ⟨hP1, hD1⟩ := hB
  rw [ht] at hP1
  replace hP := z0 hP hD hk1 hP1 hI1
  clear hk1 hPc hDc hFc hP1 hD1 ht hI1
  refine lv_if_eq (tgt := 31) hx hb dX11_at_5 rfl (fun c_1 => ?_) (fun c_1 => ?_)
  · have c_1 : ¬ (f < ft) := zp_0 c_1
    exfalso; omega
  · have c_1 : f < ft := zp_1 c_1
    refine lv_aload_n hx hb dX11_at_8 rfl (lv_at hl 0 rfl) ?_
    refine va_get (D := (dC, dI)) (ci := 9) (v := .ref (a 6)) (C := RX11) (T := TX11) (N := 55) hx hb hts inX11 hown hK hP 0 rfl rfl 6 (Nat.le_of_ble_eq_true rfl) (hts _ mw_1165) (fun _ h9 => h9) rfl dX11_at_9 ?_
    refine lv_iload_n hx hb dX11_at_12 rfl (lv_at hl 1 rfl) ?_
    have b9_2 : f < 201 := by omega
    refine z_zald hx hb hK hP 1 1 rfl rfl (e := f) rfl b9_2 (Nat.le_of_ble_eq_true rfl) dX11_at_13 ?_
    refine lv_if_ne (tgt := 31) hx hb dX11_at_14 rfl (fun c_3 => ?_) (fun c_3 => ?_)
    · have c_3 : ¬ (tn f).toInt = 0 := zc_ne rfl rfl c_3
      exfalso; omega
    · have c_3 : (tn f).toInt = 0 := zc_eq rfl rfl c_3
      refine lv_iload_n hx hb dX11_at_17 rfl (lv_at hl 2 rfl) ?_
      have b9_5 : zlt (k) := show k < 2147483648 by omega
      refine lv_if_lt (tgt := 31) hx hb dX11_at_18 rfl (fun c_4 => ?_) (fun c_4 => ?_)
      · have c_4 : ((k : Nat) : Int) < 0 := zc_lt (nI_toInt b9_5) rfl c_4
        exfalso; omega
      · have c_4 : 0 ≤ ((k : Nat) : Int) := zc_nlt (nI_toInt b9_5) rfl c_4
        refine lv_iload_n hx hb dX11_at_21 rfl (lv_at hl 2 rfl) ?_
        refine lv_aload_n hx hb dX11_at_22 rfl (lv_at hl 0 rfl) ?_
        refine va_get (D := (dC, dI)) (ci := 9) (v := .ref (a 11)) (C := RX11) (T := TX11) (N := 55) hx hb hts inX11 hown hK hP 0 rfl rfl 11 (Nat.le_of_ble_eq_true rfl) (hts _ mw_1170) (fun _ h9 => h9) rfl dX11_at_23 ?_
        refine lv_iload_n hx hb dX11_at_26 rfl (lv_at hl 1 rfl) ?_
        refine z_iald hx hb hK hP 2 0 rfl rfl (e := f) rfl b9_2 (Nat.le_of_ble_eq_true rfl) dX11_at_27 ?_
        refine zz_i (v := nI n) (hm_f) ?_
        have b9_7 : zlt (n) := show n < 2147483648 by omega
        refine lv_icmp_lt (tgt := 33) hx hb dX11_at_28 rfl (fun c_6 => ?_) (fun c_6 => ?_)
        · have c_6 : ((k : Nat) : Int) < ((n : Nat) : Int) := zc_lt (nI_toInt b9_5) (nI_toInt b9_7) c_6
          refine lv_iload_n hx hb dX11_at_33 rfl (lv_at hl 3 rfl) ?_
          refine lv_if_ne (tgt := 51) hx hb dX11_at_34 rfl (fun c_8 => ?_) (fun c_8 => ?_)
          · exact absurd (by decide) c_8
          · refine lv_aload_n hx hb dX11_at_37 rfl (lv_at hl 0 rfl) ?_
            refine va_get (D := (dC, dI)) (ci := 9) (v := .ref (a 12)) (C := RX11) (T := TX11) (N := 55) hx hb hts inX11 hown hK hP 0 rfl rfl 12 (Nat.le_of_ble_eq_true rfl) (hts _ mw_1171) (fun _ h9 => h9) rfl dX11_at_38 ?_
            refine lv_bipush (v := 40) hx hb dX11_at_41 rfl ?_
            refine lv_iload_n hx hb dX11_at_43 rfl (lv_at hl 1 rfl) ?_
            refine lv_imul hx hb dX11_at_44 ?_
            refine zz_i (v := nI (40 * f)) (pk_mul 40 f) ?_
            refine lv_iload_n hx hb dX11_at_45 rfl (lv_at hl 2 rfl) ?_
            refine lv_iadd hx hb dX11_at_46 ?_
            refine zz_i (v := nI (40 * f + k)) (nI_add (40 * f) k) ?_
            have b9_9 : 40 * f + k < 8040 := by omega
            refine z_iald hx hb hK hP 3 0 rfl rfl (e := 40 * f + k) rfl b9_9 (Nat.le_of_ble_eq_true rfl) dX11_at_47 ?_
            refine lv_goto (tgt := 71) hx hb dX11_at_48 rfl ?_
            obtain ⟨hP9, hD9⟩ := zu_sub (wc := [_, _, _, _]) hP hD [true, true, true, true] rfl rfl
            rw [hQ9]
            exact W.iret (v := cx (40 * f + k)) hx hb hr (fun t ht hW => ⟨⟨congrArg (fun z => Outcome.returned (some (Value.int z))) (show (cx (40 * f + k) : Int32) = cF40 cx f k from rfl), by rw [ht]; exact hP9, hD9⟩, hS.F ht⟩) hS.2.2 dX11_at_71
        · have c_6 : ((n : Nat) : Int) ≤ ((k : Nat) : Int) := zc_nlt (nI_toInt b9_5) (nI_toInt b9_7) c_6
          exfalso; omega
set_option maxHeartbeats 4000000 in
set_option maxRecDepth 100000 in
theorem k_M_at_1 (l : Launch) (dC : Nat → ClassId) (dI : Nat → Nat → Nat) (cI cZ cF : ClassId) (sz : Nat) (k0 : Nat) (a : Nat → Nat) (I0 : Nat → Int32) (J0 : Nat → Int64) (f : Nat) (n : Nat) (k : Nat) (ft : Nat) (tn : Nat → Int32) (mn : Nat → Int32) (cy : Nat → Int32) (hft : I0 0 = nI ft) (h200 : ft ≤ 200) (hf_t : f < ft) (hm_f : mn f = nI n) (hn_f : n ≤ 40) (htn0 : (tn f).toInt = 0) (hk9 : k < n) : zM l yX11_at cX11_at 4 (some .int) ({ frames := 1, cells := 0, slots := 0, locals := 21 } : Room) [.ref k0, .int (nI f), .int (nI k), .int 1] (dC, dI) (zTy cI cZ cF) [(om k0 a I0 J0), (oa (a 6) cZ 201 tn), (oa (a 11) cI 201 mn), (oa (a 13) cI 8040 cy)] sz (some (.int (cF40 cy f k))) (fun A t => zPD (dC, dI) classes A [(om k0 a I0 J0), (oa (a 6) cZ 201 tn), (oa (a 11) cI 201 mn), (oa (a 13) cI 8040 cy)] t.heap) 0 0 := by
  refine zIn (own := "ScaleShopModel") (loc := [(0, .ref k0), (1, .int (nI f)), (2, .int (nI k)), (3, .int 1)]) rfl rfl rfl rfl (fun p e s m below meth c hx hb hr hts hown hlocks hml hnm9 A hA hS hP hD hK hXN Q9 hQ9 ls hl => ?_)
  refine lv_aload_n hx hb dX11_at_0 rfl (lv_at hl 0 rfl) ?_
  refine lv_iload_n hx hb dX11_at_1 rfl (lv_at hl 1 rfl) ?_
  obtain ⟨hPc, hDc, hFc, hI1⟩ := zi_sub (wc := [_]) hP hD hS hA [0] rfl rfl
  refine zcall (st1 := [.int (pI (f < ft))]) (va_runV (As := [.int (nI f)]) (rest := []) ⟨hx, hb, hml, hown, hts⟩ (k_M_isFeature_n l dC dI cI cZ cF s.heap.size k0 a I0 J0 f ft (by first | with_reducible assumption | assumption) (by first | with_reducible assumption | omega) (by first | with_reducible assumption | omega)) (csV_178 hts rfl rfl ⟨Nat.le_of_ble_eq_true rfl, Nat.le_of_ble_eq_true rfl⟩) (zPV2 (q0 := 0) (ci := 9) hPc hDc hK hXN rfl rfl) rfl rfl hl.1 rfl (lv_room (Nat.le_of_ble_eq_true rfl)) dX11_at_2 ⟨Nat.le_of_ble_eq_true rfl, Nat.le_of_ble_eq_true rfl⟩) hS hFc hFc rfl (fun t H locs ht hB hk1 hS => ?_)
  obtain ⟨hP1, hD1⟩ := hB
  rw [ht] at hP1
  replace hP := z0 hP hD hk1 hP1 hI1
  clear hk1 hPc hDc hFc hP1 hD1 ht hI1
  refine lv_if_eq (tgt := 31) hx hb dX11_at_5 rfl (fun c_1 => ?_) (fun c_1 => ?_)
  · have c_1 : ¬ (f < ft) := zp_0 c_1
    exfalso; omega
  · have c_1 : f < ft := zp_1 c_1
    refine lv_aload_n hx hb dX11_at_8 rfl (lv_at hl 0 rfl) ?_
    refine va_get (D := (dC, dI)) (ci := 9) (v := .ref (a 6)) (C := RX11) (T := TX11) (N := 55) hx hb hts inX11 hown hK hP 0 rfl rfl 6 (Nat.le_of_ble_eq_true rfl) (hts _ mw_1165) (fun _ h9 => h9) rfl dX11_at_9 ?_
    refine lv_iload_n hx hb dX11_at_12 rfl (lv_at hl 1 rfl) ?_
    have b9_2 : f < 201 := by omega
    refine z_zald hx hb hK hP 1 1 rfl rfl (e := f) rfl b9_2 (Nat.le_of_ble_eq_true rfl) dX11_at_13 ?_
    refine lv_if_ne (tgt := 31) hx hb dX11_at_14 rfl (fun c_3 => ?_) (fun c_3 => ?_)
    · have c_3 : ¬ (tn f).toInt = 0 := zc_ne rfl rfl c_3
      exfalso; omega
    · have c_3 : (tn f).toInt = 0 := zc_eq rfl rfl c_3
      refine lv_iload_n hx hb dX11_at_17 rfl (lv_at hl 2 rfl) ?_
      have b9_5 : zlt (k) := show k < 2147483648 by omega
      refine lv_if_lt (tgt := 31) hx hb dX11_at_18 rfl (fun c_4 => ?_) (fun c_4 => ?_)
      · have c_4 : ((k : Nat) : Int) < 0 := zc_lt (nI_toInt b9_5) rfl c_4
        exfalso; omega
      · have c_4 : 0 ≤ ((k : Nat) : Int) := zc_nlt (nI_toInt b9_5) rfl c_4
        refine lv_iload_n hx hb dX11_at_21 rfl (lv_at hl 2 rfl) ?_
        refine lv_aload_n hx hb dX11_at_22 rfl (lv_at hl 0 rfl) ?_
        refine va_get (D := (dC, dI)) (ci := 9) (v := .ref (a 11)) (C := RX11) (T := TX11) (N := 55) hx hb hts inX11 hown hK hP 0 rfl rfl 11 (Nat.le_of_ble_eq_true rfl) (hts _ mw_1170) (fun _ h9 => h9) rfl dX11_at_23 ?_
        refine lv_iload_n hx hb dX11_at_26 rfl (lv_at hl 1 rfl) ?_
        refine z_iald hx hb hK hP 2 0 rfl rfl (e := f) rfl b9_2 (Nat.le_of_ble_eq_true rfl) dX11_at_27 ?_
        refine zz_i (v := nI n) (hm_f) ?_
        have b9_7 : zlt (n) := show n < 2147483648 by omega
        refine lv_icmp_lt (tgt := 33) hx hb dX11_at_28 rfl (fun c_6 => ?_) (fun c_6 => ?_)
        · have c_6 : ((k : Nat) : Int) < ((n : Nat) : Int) := zc_lt (nI_toInt b9_5) (nI_toInt b9_7) c_6
          refine lv_iload_n hx hb dX11_at_33 rfl (lv_at hl 3 rfl) ?_
          refine lv_if_ne (tgt := 51) hx hb dX11_at_34 rfl (fun c_8 => ?_) (fun c_8 => ?_)
          · refine lv_iload_n hx hb dX11_at_51 rfl (lv_at hl 3 rfl) ?_
            refine lv_iconst (v := 1) hx hb dX11_at_52 rfl ?_
            refine lv_icmp_ne (tgt := 70) hx hb dX11_at_53 rfl (fun c_9 => ?_) (fun c_9 => ?_)
            · exact absurd (by decide) c_9
            · refine lv_aload_n hx hb dX11_at_56 rfl (lv_at hl 0 rfl) ?_
              refine va_get (D := (dC, dI)) (ci := 9) (v := .ref (a 13)) (C := RX11) (T := TX11) (N := 55) hx hb hts inX11 hown hK hP 0 rfl rfl 13 (Nat.le_of_ble_eq_true rfl) (hts _ mw_1172) (fun _ h9 => h9) rfl dX11_at_57 ?_
              refine lv_bipush (v := 40) hx hb dX11_at_60 rfl ?_
              refine lv_iload_n hx hb dX11_at_62 rfl (lv_at hl 1 rfl) ?_
              refine lv_imul hx hb dX11_at_63 ?_
              refine zz_i (v := nI (40 * f)) (pk_mul 40 f) ?_
              refine lv_iload_n hx hb dX11_at_64 rfl (lv_at hl 2 rfl) ?_
              refine lv_iadd hx hb dX11_at_65 ?_
              refine zz_i (v := nI (40 * f + k)) (nI_add (40 * f) k) ?_
              have b9_10 : 40 * f + k < 8040 := by omega
              refine z_iald hx hb hK hP 3 0 rfl rfl (e := 40 * f + k) rfl b9_10 (Nat.le_of_ble_eq_true rfl) dX11_at_66 ?_
              refine lv_goto (tgt := 71) hx hb dX11_at_67 rfl ?_
              obtain ⟨hP9, hD9⟩ := zu_sub (wc := [_, _, _, _]) hP hD [true, true, true, true] rfl rfl
              rw [hQ9]
              exact W.iret (v := cy (40 * f + k)) hx hb hr (fun t ht hW => ⟨⟨congrArg (fun z => Outcome.returned (some (Value.int z))) (show (cy (40 * f + k) : Int32) = cF40 cy f k from rfl), by rw [ht]; exact hP9, hD9⟩, hS.F ht⟩) hS.2.2 dX11_at_71
          · exact absurd c_8 (by decide)
        · have c_6 : ((n : Nat) : Int) ≤ ((k : Nat) : Int) := zc_nlt (nI_toInt b9_5) (nI_toInt b9_7) c_6
          exfalso; omega
set_option maxHeartbeats 4000000 in
set_option maxRecDepth 100000 in
theorem k_M_at_d (l : Launch) (dC : Nat → ClassId) (dI : Nat → Nat → Nat) (cI cZ cF : ClassId) (sz : Nat) (k0 : Nat) (a : Nat → Nat) (I0 : Nat → Int32) (J0 : Nat → Int64) (f : Nat) (n : Nat) (k : Nat) (ft : Nat) (w : Int32) (tn : Nat → Int32) (mn : Nat → Int32) (hft : I0 0 = nI ft) (h200 : ft ≤ 200) (hf_t : f < ft) (hm_f : mn f = nI n) (hn_f : n ≤ 40) (htn0 : (tn f).toInt = 0) (hk9 : k < n) (hw9 : ¬ w.toInt = 0 ∧ ¬ w.toInt = 1) : zM l yX11_at cX11_at 4 (some .int) ({ frames := 1, cells := 0, slots := 0, locals := 21 } : Room) [.ref k0, .int (nI f), .int (nI k), .int w] (dC, dI) (zTy cI cZ cF) [(om k0 a I0 J0), (oa (a 6) cZ 201 tn), (oa (a 11) cI 201 mn)] sz (some (.int (-1))) (fun A t => zPD (dC, dI) classes A [(om k0 a I0 J0), (oa (a 6) cZ 201 tn), (oa (a 11) cI 201 mn)] t.heap) 0 0 := by
  refine zIn (own := "ScaleShopModel") (loc := [(0, .ref k0), (1, .int (nI f)), (2, .int (nI k)), (3, .int w)]) rfl rfl rfl rfl (fun p e s m below meth c hx hb hr hts hown hlocks hml hnm9 A hA hS hP hD hK hXN Q9 hQ9 ls hl => ?_)
  refine lv_aload_n hx hb dX11_at_0 rfl (lv_at hl 0 rfl) ?_
  refine lv_iload_n hx hb dX11_at_1 rfl (lv_at hl 1 rfl) ?_
  obtain ⟨hPc, hDc, hFc, hI1⟩ := zi_sub (wc := [_]) hP hD hS hA [0] rfl rfl
  refine zcall (st1 := [.int (pI (f < ft))]) (va_runV (As := [.int (nI f)]) (rest := []) ⟨hx, hb, hml, hown, hts⟩ (k_M_isFeature_n l dC dI cI cZ cF s.heap.size k0 a I0 J0 f ft (by first | with_reducible assumption | assumption) (by first | with_reducible assumption | omega) (by first | with_reducible assumption | omega)) (csV_178 hts rfl rfl ⟨Nat.le_of_ble_eq_true rfl, Nat.le_of_ble_eq_true rfl⟩) (zPV2 (q0 := 0) (ci := 9) hPc hDc hK hXN rfl rfl) rfl rfl hl.1 rfl (lv_room (Nat.le_of_ble_eq_true rfl)) dX11_at_2 ⟨Nat.le_of_ble_eq_true rfl, Nat.le_of_ble_eq_true rfl⟩) hS hFc hFc rfl (fun t H locs ht hB hk1 hS => ?_)
  obtain ⟨hP1, hD1⟩ := hB
  rw [ht] at hP1
  replace hP := z0 hP hD hk1 hP1 hI1
  clear hk1 hPc hDc hFc hP1 hD1 ht hI1
  refine lv_if_eq (tgt := 31) hx hb dX11_at_5 rfl (fun c_1 => ?_) (fun c_1 => ?_)
  · have c_1 : ¬ (f < ft) := zp_0 c_1
    exfalso; omega
  · have c_1 : f < ft := zp_1 c_1
    refine lv_aload_n hx hb dX11_at_8 rfl (lv_at hl 0 rfl) ?_
    refine va_get (D := (dC, dI)) (ci := 9) (v := .ref (a 6)) (C := RX11) (T := TX11) (N := 55) hx hb hts inX11 hown hK hP 0 rfl rfl 6 (Nat.le_of_ble_eq_true rfl) (hts _ mw_1165) (fun _ h9 => h9) rfl dX11_at_9 ?_
    refine lv_iload_n hx hb dX11_at_12 rfl (lv_at hl 1 rfl) ?_
    have b9_2 : f < 201 := by omega
    refine z_zald hx hb hK hP 1 1 rfl rfl (e := f) rfl b9_2 (Nat.le_of_ble_eq_true rfl) dX11_at_13 ?_
    refine lv_if_ne (tgt := 31) hx hb dX11_at_14 rfl (fun c_3 => ?_) (fun c_3 => ?_)
    · have c_3 : ¬ (tn f).toInt = 0 := zc_ne rfl rfl c_3
      exfalso; omega
    · have c_3 : (tn f).toInt = 0 := zc_eq rfl rfl c_3
      refine lv_iload_n hx hb dX11_at_17 rfl (lv_at hl 2 rfl) ?_
      have b9_5 : zlt (k) := show k < 2147483648 by omega
      refine lv_if_lt (tgt := 31) hx hb dX11_at_18 rfl (fun c_4 => ?_) (fun c_4 => ?_)
      · have c_4 : ((k : Nat) : Int) < 0 := zc_lt (nI_toInt b9_5) rfl c_4
        exfalso; omega
      · have c_4 : 0 ≤ ((k : Nat) : Int) := zc_nlt (nI_toInt b9_5) rfl c_4
        refine lv_iload_n hx hb dX11_at_21 rfl (lv_at hl 2 rfl) ?_
        refine lv_aload_n hx hb dX11_at_22 rfl (lv_at hl 0 rfl) ?_
        refine va_get (D := (dC, dI)) (ci := 9) (v := .ref (a 11)) (C := RX11) (T := TX11) (N := 55) hx hb hts inX11 hown hK hP 0 rfl rfl 11 (Nat.le_of_ble_eq_true rfl) (hts _ mw_1170) (fun _ h9 => h9) rfl dX11_at_23 ?_
        refine lv_iload_n hx hb dX11_at_26 rfl (lv_at hl 1 rfl) ?_
        refine z_iald hx hb hK hP 2 0 rfl rfl (e := f) rfl b9_2 (Nat.le_of_ble_eq_true rfl) dX11_at_27 ?_
        refine zz_i (v := nI n) (hm_f) ?_
        have b9_7 : zlt (n) := show n < 2147483648 by omega
        refine lv_icmp_lt (tgt := 33) hx hb dX11_at_28 rfl (fun c_6 => ?_) (fun c_6 => ?_)
        · have c_6 : ((k : Nat) : Int) < ((n : Nat) : Int) := zc_lt (nI_toInt b9_5) (nI_toInt b9_7) c_6
          refine lv_iload_n hx hb dX11_at_33 rfl (lv_at hl 3 rfl) ?_
          refine lv_if_ne (tgt := 51) hx hb dX11_at_34 rfl (fun c_8 => ?_) (fun c_8 => ?_)
          · have c_8 : ¬ w.toInt = 0 := zc_ne rfl rfl c_8
            refine lv_iload_n hx hb dX11_at_51 rfl (lv_at hl 3 rfl) ?_
            refine lv_iconst (v := 1) hx hb dX11_at_52 rfl ?_
            refine lv_icmp_ne (tgt := 70) hx hb dX11_at_53 rfl (fun c_9 => ?_) (fun c_9 => ?_)
            · have c_9 : ¬ w.toInt = 1 := zc_ne rfl rfl c_9
              refine lv_iconst (v := (-1)) hx hb dX11_at_70 rfl ?_
              obtain ⟨hP9, hD9⟩ := zu_sub (wc := [_, _, _]) hP hD [true, true, true] rfl rfl
              rw [hQ9]
              exact W.iret (v := (-1)) hx hb hr (fun t ht hW => ⟨⟨rfl, by rw [ht]; exact hP9, hD9⟩, hS.F ht⟩) hS.2.2 dX11_at_71
            · have c_9 : w.toInt = 1 := zc_eq rfl rfl c_9
              exfalso; omega
          · have c_8 : w.toInt = 0 := zc_eq rfl rfl c_8
            exfalso; omega
        · have c_6 : ((n : Nat) : Int) ≤ ((k : Nat) : Int) := zc_nlt (nI_toInt b9_5) (nI_toInt b9_7) c_6
          exfalso; omega
set_option maxHeartbeats 4000000 in
set_option maxRecDepth 100000 in
theorem k_M_status (l : Launch) (dC : Nat → ClassId) (dI : Nat → Nat → Nat) (cI cZ cF : ClassId) (sz : Nat) (k0 : Nat) (a : Nat → Nat) (I0 : Nat → Int32) (J0 : Nat → Int64) : zM l yX11_status cX11_status 1 (some .int) ({ frames := 0, cells := 0, slots := 0, locals := 0 } : Room) [.ref k0] (dC, dI) (zTy cI cZ cF) [(om k0 a I0 J0)] sz (some (.int (I0 14))) (fun A t => zPD (dC, dI) classes A [(om k0 a I0 J0)] t.heap) 0 0 := by
  refine zIn (own := "ScaleShopModel") (loc := [(0, .ref k0)]) rfl rfl rfl rfl (fun p e s m below meth c hx hb hr hts hown hlocks hml hnm9 A hA hS hP hD hK hXN Q9 hQ9 ls hl => ?_)
  refine lv_aload_n hx hb dX11_status_0 rfl (lv_at hl 0 rfl) ?_
  refine va_get (D := (dC, dI)) (ci := 9) (v := .int (I0 14)) (C := RX11) (T := TX11) (N := 55) hx hb hts inX11 hown hK hP 0 rfl rfl 14 (Nat.le_of_ble_eq_true rfl) (hts _ mw_1173) (fun _ h9 => h9) rfl dX11_status_1 ?_
  obtain ⟨hP9, hD9⟩ := zu_sub (wc := [_]) hP hD [true] rfl rfl
  rw [hQ9]
  exact W.iret (v := I0 14) hx hb hr (fun t ht hW => ⟨⟨rfl, by rw [ht]; exact hP9, hD9⟩, hS.F ht⟩) hS.2.2 dX11_status_4
end
section
set_option maxHeartbeats 4000000 in
set_option maxRecDepth 100000 in
theorem k_M_size_x (l : Launch) (dC : Nat → ClassId) (dI : Nat → Nat → Nat) (cI cZ cF : ClassId) (sz : Nat) (k0 : Nat) (a : Nat → Nat) (I0 : Nat → Int32) (J0 : Nat → Int64) (ft : Nat) (v : Int32) (hft : I0 0 = nI ft) (h200 : ft ≤ 200) (hv : ¬ (0 ≤ v.toInt ∧ v.toInt < (ft : Int))) : zM l yX11_size cX11_size 2 (some .long) ({ frames := 2, cells := 0, slots := 0, locals := 42 } : Room) [.ref k0, .int v] (dC, dI) (zTy cI cZ cF) [(om k0 a I0 J0)] sz (some (.long (-1))) (fun A t => zPD (dC, dI) classes A [(om k0 a I0 J0)] t.heap) 0 0 := by
  refine zIn (own := "ScaleShopModel") (loc := [(0, .ref k0), (1, .int v)]) rfl rfl rfl rfl (fun p e s m below meth c hx hb hr hts hown hlocks hml hnm9 A hA hS hP hD hK hXN Q9 hQ9 ls hl => ?_)
  refine lv_aload_n hx hb dX11_size_0 rfl (lv_at hl 0 rfl) ?_
  refine lv_iload_n hx hb dX11_size_1 rfl (lv_at hl 1 rfl) ?_
  obtain ⟨hPc, hDc, hFc, hI1⟩ := zi_sub (wc := [_]) hP hD hS hA [0] rfl rfl
  refine zcall (st1 := [.int 0]) (va_runV (As := [.int v]) (rest := []) ⟨hx, hb, hml, hown, hts⟩ (k_M_is_x l dC dI cI cZ cF s.heap.size k0 a I0 J0 ft v (by first | with_reducible assumption | assumption) (by first | with_reducible assumption | omega) (by first | with_reducible assumption | assumption)) (csV_179 hts rfl rfl ⟨Nat.le_of_ble_eq_true rfl, Nat.le_of_ble_eq_true rfl⟩) (zPV2 (q0 := 0) (ci := 9) hPc hDc hK hXN rfl rfl) rfl rfl hl.1 rfl (lv_room (Nat.le_of_ble_eq_true rfl)) dX11_size_2 ⟨Nat.le_of_ble_eq_true rfl, Nat.le_of_ble_eq_true rfl⟩) hS hFc hFc rfl (fun t H locs ht hB hk1 hS => ?_)
  obtain ⟨hP1, hD1⟩ := hB
  rw [ht] at hP1
  replace hP := z0 hP hD hk1 hP1 hI1
  clear hk1 hPc hDc hFc hP1 hD1 ht hI1
  refine lv_if_ne (tgt := 12) hx hb dX11_size_5 rfl (fun c_1 => ?_) (fun c_1 => ?_)
  · exact absurd (by decide) c_1
  · refine lv_ldc2 hx hb hown (hts _ mw_1620) dX11_size_8 ?_
    obtain ⟨hP9, hD9⟩ := zu_sub (wc := [_]) hP hD [true] rfl rfl
    rw [hQ9]
    exact W.lret (v := (-1)) hx hb hr (fun t ht hW => ⟨⟨rfl, by rw [ht]; exact hP9, hD9⟩, hS.F ht⟩) hS.2.2 dX11_size_11
set_option maxHeartbeats 4000000 in
set_option maxRecDepth 100000 in
theorem k_M_size_r (l : Launch) (dC : Nat → ClassId) (dI : Nat → Nat → Nat) (cI cZ cF : ClassId) (sz : Nat) (k0 : Nat) (a : Nat → Nat) (I0 : Nat → Int32) (J0 : Nat → Int64) (f : Nat) (ft : Nat) (st : Nat → Int32) (tn : Nat → Int32) (hft : I0 0 = nI ft) (h200 : ft ≤ 200) (hf_t : f < ft) (hbad : ¬ lvF ft st tn f) : zM l yX11_size cX11_size 2 (some .long) ({ frames := 2, cells := 0, slots := 0, locals := 42 } : Room) [.ref k0, .int (nI f)] (dC, dI) (zTy cI cZ cF) [(om k0 a I0 J0), (oa (a 5) cI 201 st), (oa (a 6) cZ 201 tn)] sz (some (.long (-1))) (fun A t => zPD (dC, dI) classes A [(om k0 a I0 J0), (oa (a 5) cI 201 st), (oa (a 6) cZ 201 tn)] t.heap) 0 0 := by
  refine zIn (own := "ScaleShopModel") (loc := [(0, .ref k0), (1, .int (nI f))]) rfl rfl rfl rfl (fun p e s m below meth c hx hb hr hts hown hlocks hml hnm9 A hA hS hP hD hK hXN Q9 hQ9 ls hl => ?_)
  refine lv_aload_n hx hb dX11_size_0 rfl (lv_at hl 0 rfl) ?_
  refine lv_iload_n hx hb dX11_size_1 rfl (lv_at hl 1 rfl) ?_
  obtain ⟨hPc, hDc, hFc, hI1⟩ := zi_sub (wc := [_, _, _]) hP hD hS hA [0, 1, 2] rfl rfl
  refine zcall (st1 := [.int (pI (f < ft ∧ (st f).toInt = 1 ∧ (tn f).toInt = 0))]) (va_runV (As := [.int (nI f)]) (rest := []) ⟨hx, hb, hml, hown, hts⟩ (k_M_is_n l dC dI cI cZ cF s.heap.size k0 a I0 J0 f ft st tn (by first | with_reducible assumption | assumption) (by first | with_reducible assumption | omega) (by first | with_reducible assumption | omega)) (csV_179 hts rfl rfl ⟨Nat.le_of_ble_eq_true rfl, Nat.le_of_ble_eq_true rfl⟩) (zPV2 (q0 := 0) (ci := 9) hPc hDc hK hXN rfl rfl) rfl rfl hl.1 rfl (lv_room (Nat.le_of_ble_eq_true rfl)) dX11_size_2 ⟨Nat.le_of_ble_eq_true rfl, Nat.le_of_ble_eq_true rfl⟩) hS hFc hFc rfl (fun t H locs ht hB hk1 hS => ?_)
  obtain ⟨hP1, hD1⟩ := hB
  rw [ht] at hP1
  replace hP := z0 hP hD hk1 hP1 hI1
  clear hk1 hPc hDc hFc hP1 hD1 ht hI1
  refine lv_if_ne (tgt := 12) hx hb dX11_size_5 rfl (fun c_1 => ?_) (fun c_1 => ?_)
  · have c_1 : f < ft ∧ (st f).toInt = 1 ∧ (tn f).toInt = 0 := zp_1 c_1
    exfalso; exact absurd (by first | with_reducible assumption | assumption) hbad
  · have c_1 : ¬ (f < ft ∧ (st f).toInt = 1 ∧ (tn f).toInt = 0) := zp_0 c_1
    refine lv_ldc2 hx hb hown (hts _ mw_1620) dX11_size_8 ?_
    obtain ⟨hP9, hD9⟩ := zu_sub (wc := [_, _, _]) hP hD [true, true, true] rfl rfl
    rw [hQ9]
    exact W.lret (v := (-1)) hx hb hr (fun t ht hW => ⟨⟨rfl, by rw [ht]; exact hP9, hD9⟩, hS.F ht⟩) hS.2.2 dX11_size_11
set_option maxHeartbeats 4000000 in
set_option maxRecDepth 100000 in
theorem k_M_size_p (l : Launch) (dC : Nat → ClassId) (dI : Nat → Nat → Nat) (cI cZ cF : ClassId) (sz : Nat) (k0 : Nat) (a : Nat → Nat) (I0 : Nat → Int32) (J0 : Nat → Int64) (f : Nat) (ft : Nat) (st : Nat → Int32) (tn : Nat → Int32) (kd : Nat → Int32) (hft : I0 0 = nI ft) (h200 : ft ≤ 200) (hf_t : f < ft) (hlv : lvF ft st tn f) (hk0 : (kd f).toInt = 0) : zM l yX11_size cX11_size 2 (some .long) ({ frames := 2, cells := 0, slots := 0, locals := 42 } : Room) [.ref k0, .int (nI f)] (dC, dI) (zTy cI cZ cF) [(om k0 a I0 J0), (oa (a 5) cI 201 st), (oa (a 6) cZ 201 tn), (oa (a 1) cI 201 kd)] sz (some (.long 0)) (fun A t => zPD (dC, dI) classes A [(om k0 a I0 J0), (oa (a 5) cI 201 st), (oa (a 6) cZ 201 tn), (oa (a 1) cI 201 kd)] t.heap) 0 0 := by
  refine zIn (own := "ScaleShopModel") (loc := [(0, .ref k0), (1, .int (nI f))]) rfl rfl rfl rfl (fun p e s m below meth c hx hb hr hts hown hlocks hml hnm9 A hA hS hP hD hK hXN Q9 hQ9 ls hl => ?_)
  refine lv_aload_n hx hb dX11_size_0 rfl (lv_at hl 0 rfl) ?_
  refine lv_iload_n hx hb dX11_size_1 rfl (lv_at hl 1 rfl) ?_
  obtain ⟨hPc, hDc, hFc, hI1⟩ := zi_sub (wc := [_, _, _]) hP hD hS hA [0, 1, 2] rfl rfl
  refine zcall (st1 := [.int (pI (f < ft ∧ (st f).toInt = 1 ∧ (tn f).toInt = 0))]) (va_runV (As := [.int (nI f)]) (rest := []) ⟨hx, hb, hml, hown, hts⟩ (k_M_is_n l dC dI cI cZ cF s.heap.size k0 a I0 J0 f ft st tn (by first | with_reducible assumption | assumption) (by first | with_reducible assumption | omega) (by first | with_reducible assumption | omega)) (csV_179 hts rfl rfl ⟨Nat.le_of_ble_eq_true rfl, Nat.le_of_ble_eq_true rfl⟩) (zPV2 (q0 := 0) (ci := 9) hPc hDc hK hXN rfl rfl) rfl rfl hl.1 rfl (lv_room (Nat.le_of_ble_eq_true rfl)) dX11_size_2 ⟨Nat.le_of_ble_eq_true rfl, Nat.le_of_ble_eq_true rfl⟩) hS hFc hFc rfl (fun t H locs ht hB hk1 hS => ?_)
  obtain ⟨hP1, hD1⟩ := hB
  rw [ht] at hP1
  replace hP := z0 hP hD hk1 hP1 hI1
  clear hk1 hPc hDc hFc hP1 hD1 ht hI1
  refine lv_if_ne (tgt := 12) hx hb dX11_size_5 rfl (fun c_1 => ?_) (fun c_1 => ?_)
  · have c_1 : f < ft ∧ (st f).toInt = 1 ∧ (tn f).toInt = 0 := zp_1 c_1
    refine lv_aload_n hx hb dX11_size_12 rfl (lv_at hl 0 rfl) ?_
    refine va_get (D := (dC, dI)) (ci := 9) (v := .ref (a 1)) (C := RX11) (T := TX11) (N := 55) hx hb hts inX11 hown hK hP 0 rfl rfl 1 (Nat.le_of_ble_eq_true rfl) (hts _ mw_1160) (fun _ h9 => h9) rfl dX11_size_13 ?_
    refine lv_iload_n hx hb dX11_size_16 rfl (lv_at hl 1 rfl) ?_
    have b9_2 : f < 201 := by omega
    refine z_iald hx hb hK hP 3 0 rfl rfl (e := f) rfl b9_2 (Nat.le_of_ble_eq_true rfl) dX11_size_17 ?_
    refine lv_if_ne (tgt := 25) hx hb dX11_size_18 rfl (fun c_3 => ?_) (fun c_3 => ?_)
    · have c_3 : ¬ (kd f).toInt = 0 := zc_ne rfl rfl c_3
      exfalso; omega
    · have c_3 : (kd f).toInt = 0 := zc_eq rfl rfl c_3
      refine lv_lconst (v := 0) hx hb dX11_size_21 rfl ?_
      refine lv_goto (tgt := 46) hx hb dX11_size_22 rfl ?_
      obtain ⟨hP9, hD9⟩ := zu_sub (wc := [_, _, _, _]) hP hD [true, true, true, true] rfl rfl
      rw [hQ9]
      exact W.lret (v := 0) hx hb hr (fun t ht hW => ⟨⟨rfl, by rw [ht]; exact hP9, hD9⟩, hS.F ht⟩) hS.2.2 dX11_size_46
  · have c_1 : ¬ (f < ft ∧ (st f).toInt = 1 ∧ (tn f).toInt = 0) := zp_0 c_1
    exfalso; exact absurd hlv (by first | with_reducible assumption | assumption)
set_option maxHeartbeats 4000000 in
set_option maxRecDepth 100000 in
theorem k_M_size_a (l : Launch) (dC : Nat → ClassId) (dI : Nat → Nat → Nat) (cI cZ cF : ClassId) (sz : Nat) (k0 : Nat) (a : Nat → Nat) (I0 : Nat → Int32) (J0 : Nat → Int64) (f : Nat) (ft : Nat) (st : Nat → Int32) (tn : Nat → Int32) (kd : Nat → Int32) (mn : Nat → Int32) (cx : Nat → Int32) (cy : Nat → Int32) (S0 : Nat → Int32) (hft : I0 0 = nI ft) (h200 : ft ≤ 200) (hwf : ∀ q, lvF ft st tn q → wfM mn cx cy q) (hf_t : f < ft) (hlv : lvF ft st tn f) (hk5 : 5 ≤ (kd f).toInt) : zM l yX11_size cX11_size 2 (some .long) ({ frames := 2, cells := 0, slots := 0, locals := 49 } : Room) [.ref k0, .int (nI f)] (dC, dI) (zTy cI cZ cF) [(om k0 a I0 J0), (oa (a 5) cI 201 st), (oa (a 6) cZ 201 tn), (oa (a 1) cI 201 kd), (oa (a 11) cI 201 mn), (oa (a 12) cI 8040 cx), (oa (a 13) cI 8040 cy), (oa (a 32) cI 8 S0)] sz (some (.long (jI ((arF mn cx cy f : Nat) : Int)))) (fun A t => ∃ (S1 : Nat → Int32), zPD (dC, dI) classes A [(om k0 a I0 J0), (oa (a 5) cI 201 st), (oa (a 6) cZ 201 tn), (oa (a 1) cI 201 kd), (oa (a 11) cI 201 mn), (oa (a 12) cI 8040 cx), (oa (a 13) cI 8040 cy), (oa (a 32) cI 8 S1)] t.heap) 0 0 := by
  refine zIn (own := "ScaleShopModel") (loc := [(0, .ref k0), (1, .int (nI f))]) rfl rfl rfl rfl (fun p e s m below meth c hx hb hr hts hown hlocks hml hnm9 A hA hS hP hD hK hXN Q9 hQ9 ls hl => ?_)
  refine lv_aload_n hx hb dX11_size_0 rfl (lv_at hl 0 rfl) ?_
  refine lv_iload_n hx hb dX11_size_1 rfl (lv_at hl 1 rfl) ?_
  obtain ⟨hPc, hDc, hFc, hI1⟩ := zi_sub (wc := [_, _, _]) hP hD hS hA [0, 1, 2] rfl rfl
  refine zcall (st1 := [.int (pI (f < ft ∧ (st f).toInt = 1 ∧ (tn f).toInt = 0))]) (va_runV (As := [.int (nI f)]) (rest := []) ⟨hx, hb, hml, hown, hts⟩ (k_M_is_n l dC dI cI cZ cF s.heap.size k0 a I0 J0 f ft st tn (by first | with_reducible assumption | assumption) (by first | with_reducible assumption | omega) (by first | with_reducible assumption | omega)) (csV_179 hts rfl rfl ⟨Nat.le_of_ble_eq_true rfl, Nat.le_of_ble_eq_true rfl⟩) (zPV2 (q0 := 0) (ci := 9) hPc hDc hK hXN rfl rfl) rfl rfl hl.1 rfl (lv_room (Nat.le_of_ble_eq_true rfl)) dX11_size_2 ⟨Nat.le_of_ble_eq_true rfl, Nat.le_of_ble_eq_true rfl⟩) hS hFc hFc rfl (fun t H locs ht hB hk1 hS => ?_)
  obtain ⟨hP1, hD1⟩ := hB
  rw [ht] at hP1
  replace hP := z0 hP hD hk1 hP1 hI1
  clear hk1 hPc hDc hFc hP1 hD1 ht hI1
  refine lv_if_ne (tgt := 12) hx hb dX11_size_5 rfl (fun c_1 => ?_) (fun c_1 => ?_)
  · have c_1 : f < ft ∧ (st f).toInt = 1 ∧ (tn f).toInt = 0 := zp_1 c_1
    have hw_ff := hwf f (by first | with_reducible assumption | assumption)
    have hm_ff := hw_ff.1
    have hn_ff := hw_ff.2.1
    have hp_ff := hw_ff.2.2
    refine lv_aload_n hx hb dX11_size_12 rfl (lv_at hl 0 rfl) ?_
    refine va_get (D := (dC, dI)) (ci := 9) (v := .ref (a 1)) (C := RX11) (T := TX11) (N := 55) hx hb hts inX11 hown hK hP 0 rfl rfl 1 (Nat.le_of_ble_eq_true rfl) (hts _ mw_1160) (fun _ h9 => h9) rfl dX11_size_13 ?_
    refine lv_iload_n hx hb dX11_size_16 rfl (lv_at hl 1 rfl) ?_
    have b9_2 : f < 201 := by omega
    refine z_iald hx hb hK hP 3 0 rfl rfl (e := f) rfl b9_2 (Nat.le_of_ble_eq_true rfl) dX11_size_17 ?_
    refine lv_if_ne (tgt := 25) hx hb dX11_size_18 rfl (fun c_3 => ?_) (fun c_3 => ?_)
    · have c_3 : ¬ (kd f).toInt = 0 := zc_ne rfl rfl c_3
      refine lv_aload_n hx hb dX11_size_25 rfl (lv_at hl 0 rfl) ?_
      refine lv_iload_n hx hb dX11_size_26 rfl (lv_at hl 1 rfl) ?_
      obtain ⟨hPc, hDc, hFc, hI1⟩ := zi_sub (wc := [_, _]) hP hD hS hA [0, 3] rfl rfl
      refine zcall (st1 := [.int (pI (5 ≤ (kd f).toInt))]) (va_runV (As := [.int (nI f)]) (rest := []) ⟨hx, hb, hml, hown, hts⟩ (k_M_isRing l dC dI cI cZ cF H.size k0 a I0 J0 f kd (by first | with_reducible assumption | omega)) (csV_165 hts rfl rfl ⟨Nat.le_of_ble_eq_true rfl, Nat.le_of_ble_eq_true rfl⟩) (zPV2 (q0 := 0) (ci := 9) hPc hDc hK hXN rfl rfl) rfl rfl hl.1 rfl (lv_room (Nat.le_of_ble_eq_true rfl)) dX11_size_27 ⟨Nat.le_of_ble_eq_true rfl, Nat.le_of_ble_eq_true rfl⟩) hS hFc hFc rfl (fun t H locs ht hB hk1 hS => ?_)
      obtain ⟨hP1, hD1⟩ := hB
      rw [ht] at hP1
      replace hP := z0 hP hD hk1 hP1 hI1
      clear hk1 hPc hDc hFc hP1 hD1 ht hI1
      refine lv_if_eq (tgt := 41) hx hb dX11_size_30 rfl (fun c_4 => ?_) (fun c_4 => ?_)
      · have c_4 : ¬ (5 ≤ (kd f).toInt) := zp_0 c_4
        exfalso; exact absurd hk5 (by first | with_reducible assumption | assumption)
      · have c_4 : 5 ≤ (kd f).toInt := zp_1 c_4
        refine lv_aload_n hx hb dX11_size_33 rfl (lv_at hl 0 rfl) ?_
        refine lv_iload_n hx hb dX11_size_34 rfl (lv_at hl 1 rfl) ?_
        obtain ⟨hPc, hDc, hFc⟩ := zo_sub (wc := [_, _, _, _, _]) hP hD hS hA [0, 4, 5, 6, 7] (by decide +kernel) rfl
        refine zcall (st1 := [.long (jI ((Int.natAbs (ar2 (nN (mn f)) (cF40 cx f) (cF40 cy f) (nN (mn f))) : Nat) : Int))]) (va_runV (As := [.int (nI f)]) (rest := []) ⟨hx, hb, hml, hown, hts⟩ (k_M_area l dC dI cI cZ cF H.size k0 a I0 J0 f (nN (mn f)) mn cx cy S0 (by first | with_reducible assumption | omega) (by first | with_reducible assumption | assumption) (by first | with_reducible assumption | omega) (by first | with_reducible assumption | assumption)) (csV_218 hts rfl rfl ⟨Nat.le_of_ble_eq_true rfl, Nat.le_of_ble_eq_true rfl⟩) (zPV2 (q0 := 0) (ci := 9) hPc hDc hK hXN rfl rfl) rfl rfl hl.1 rfl (lv_room (Nat.le_of_ble_eq_true rfl)) dX11_size_35 ⟨Nat.le_of_ble_eq_true rfl, Nat.le_of_ble_eq_true rfl⟩) hS hFc hFc rfl (fun t H locs ht hB hk1 hS => ?_)
        obtain ⟨q_5, hP1, hD1⟩ := hB
        rw [ht] at hP1
        obtain ⟨hP, hD⟩ := zn (W2 := [_, _, _, _, _, _, _, (oa (a 32) cI 8 q_5)]) hP hD hk1 hFc hP1 hD1 [0, 4, 5, 6, 7] [false, true, true, true] zl_230 [0, 4, 5, 6, 7] (by decide +kernel) rfl rfl rfl rfl rfl
        clear hk1 hPc hDc hFc hP1 hD1 ht
        refine zz_l (v := jI ((arF mn cx cy f : Nat) : Int)) (rfl) ?_
        refine lv_goto (tgt := 46) hx hb dX11_size_38 rfl ?_
        obtain ⟨hP9, hD9⟩ := zu_sub (wc := [_, _, _, _, _, _, _, _]) hP hD [true, true, true, true, true, true, true, true] rfl rfl
        rw [hQ9]
        exact W.lret (v := jI ((arF mn cx cy f : Nat) : Int)) hx hb hr (fun t ht hW => ⟨⟨rfl, q_5, by rw [ht]; exact hP9, hD9⟩, hS.F ht⟩) hS.2.2 dX11_size_46
    · have c_3 : (kd f).toInt = 0 := zc_eq rfl rfl c_3
      exfalso; omega
  · have c_1 : ¬ (f < ft ∧ (st f).toInt = 1 ∧ (tn f).toInt = 0) := zp_0 c_1
    exfalso; exact absurd hlv (by first | with_reducible assumption | assumption)
set_option maxHeartbeats 4000000 in
set_option maxRecDepth 100000 in
theorem k_M_size_l (l : Launch) (dC : Nat → ClassId) (dI : Nat → Nat → Nat) (cI cZ cF : ClassId) (sz : Nat) (k0 : Nat) (a : Nat → Nat) (I0 : Nat → Int32) (J0 : Nat → Int64) (f : Nat) (ft : Nat) (st : Nat → Int32) (tn : Nat → Int32) (kd : Nat → Int32) (mn : Nat → Int32) (cx : Nat → Int32) (cy : Nat → Int32) (S0 : Nat → Int32) (hft : I0 0 = nI ft) (h200 : ft ≤ 200) (hwf : ∀ q, lvF ft st tn q → wfM mn cx cy q) (hf_t : f < ft) (hlv : lvF ft st tn f) (hk5 : ¬ 5 ≤ (kd f).toInt ∧ ¬ (kd f).toInt = 0) : zM l yX11_size cX11_size 2 (some .long) ({ frames := 2, cells := 0, slots := 0, locals := 49 } : Room) [.ref k0, .int (nI f)] (dC, dI) (zTy cI cZ cF) [(om k0 a I0 J0), (oa (a 5) cI 201 st), (oa (a 6) cZ 201 tn), (oa (a 1) cI 201 kd), (oa (a 11) cI 201 mn), (oa (a 12) cI 8040 cx), (oa (a 13) cI 8040 cy), (oa (a 32) cI 8 S0)] sz (some (.long (jI ((ln2 (cF40 cx f) (cF40 cy f) (nN (mn f) - 1) : Nat) : Int)))) (fun A t => ∃ (S1 : Nat → Int32), zPD (dC, dI) classes A [(om k0 a I0 J0), (oa (a 5) cI 201 st), (oa (a 6) cZ 201 tn), (oa (a 1) cI 201 kd), (oa (a 11) cI 201 mn), (oa (a 12) cI 8040 cx), (oa (a 13) cI 8040 cy), (oa (a 32) cI 8 S1)] t.heap) 0 0 := by
  refine zIn (own := "ScaleShopModel") (loc := [(0, .ref k0), (1, .int (nI f))]) rfl rfl rfl rfl (fun p e s m below meth c hx hb hr hts hown hlocks hml hnm9 A hA hS hP hD hK hXN Q9 hQ9 ls hl => ?_)
  refine lv_aload_n hx hb dX11_size_0 rfl (lv_at hl 0 rfl) ?_
  refine lv_iload_n hx hb dX11_size_1 rfl (lv_at hl 1 rfl) ?_
  obtain ⟨hPc, hDc, hFc, hI1⟩ := zi_sub (wc := [_, _, _]) hP hD hS hA [0, 1, 2] rfl rfl
  refine zcall (st1 := [.int (pI (f < ft ∧ (st f).toInt = 1 ∧ (tn f).toInt = 0))]) (va_runV (As := [.int (nI f)]) (rest := []) ⟨hx, hb, hml, hown, hts⟩ (k_M_is_n l dC dI cI cZ cF s.heap.size k0 a I0 J0 f ft st tn (by first | with_reducible assumption | assumption) (by first | with_reducible assumption | omega) (by first | with_reducible assumption | omega)) (csV_179 hts rfl rfl ⟨Nat.le_of_ble_eq_true rfl, Nat.le_of_ble_eq_true rfl⟩) (zPV2 (q0 := 0) (ci := 9) hPc hDc hK hXN rfl rfl) rfl rfl hl.1 rfl (lv_room (Nat.le_of_ble_eq_true rfl)) dX11_size_2 ⟨Nat.le_of_ble_eq_true rfl, Nat.le_of_ble_eq_true rfl⟩) hS hFc hFc rfl (fun t H locs ht hB hk1 hS => ?_)
  obtain ⟨hP1, hD1⟩ := hB
  rw [ht] at hP1
  replace hP := z0 hP hD hk1 hP1 hI1
  clear hk1 hPc hDc hFc hP1 hD1 ht hI1
  refine lv_if_ne (tgt := 12) hx hb dX11_size_5 rfl (fun c_1 => ?_) (fun c_1 => ?_)
  · have c_1 : f < ft ∧ (st f).toInt = 1 ∧ (tn f).toInt = 0 := zp_1 c_1
    have hw_ff := hwf f (by first | with_reducible assumption | assumption)
    have hm_ff := hw_ff.1
    have hn_ff := hw_ff.2.1
    have hp_ff := hw_ff.2.2
    refine lv_aload_n hx hb dX11_size_12 rfl (lv_at hl 0 rfl) ?_
    refine va_get (D := (dC, dI)) (ci := 9) (v := .ref (a 1)) (C := RX11) (T := TX11) (N := 55) hx hb hts inX11 hown hK hP 0 rfl rfl 1 (Nat.le_of_ble_eq_true rfl) (hts _ mw_1160) (fun _ h9 => h9) rfl dX11_size_13 ?_
    refine lv_iload_n hx hb dX11_size_16 rfl (lv_at hl 1 rfl) ?_
    have b9_2 : f < 201 := by omega
    refine z_iald hx hb hK hP 3 0 rfl rfl (e := f) rfl b9_2 (Nat.le_of_ble_eq_true rfl) dX11_size_17 ?_
    refine lv_if_ne (tgt := 25) hx hb dX11_size_18 rfl (fun c_3 => ?_) (fun c_3 => ?_)
    · have c_3 : ¬ (kd f).toInt = 0 := zc_ne rfl rfl c_3
      refine lv_aload_n hx hb dX11_size_25 rfl (lv_at hl 0 rfl) ?_
      refine lv_iload_n hx hb dX11_size_26 rfl (lv_at hl 1 rfl) ?_
      obtain ⟨hPc, hDc, hFc, hI1⟩ := zi_sub (wc := [_, _]) hP hD hS hA [0, 3] rfl rfl
      refine zcall (st1 := [.int (pI (5 ≤ (kd f).toInt))]) (va_runV (As := [.int (nI f)]) (rest := []) ⟨hx, hb, hml, hown, hts⟩ (k_M_isRing l dC dI cI cZ cF H.size k0 a I0 J0 f kd (by first | with_reducible assumption | omega)) (csV_165 hts rfl rfl ⟨Nat.le_of_ble_eq_true rfl, Nat.le_of_ble_eq_true rfl⟩) (zPV2 (q0 := 0) (ci := 9) hPc hDc hK hXN rfl rfl) rfl rfl hl.1 rfl (lv_room (Nat.le_of_ble_eq_true rfl)) dX11_size_27 ⟨Nat.le_of_ble_eq_true rfl, Nat.le_of_ble_eq_true rfl⟩) hS hFc hFc rfl (fun t H locs ht hB hk1 hS => ?_)
      obtain ⟨hP1, hD1⟩ := hB
      rw [ht] at hP1
      replace hP := z0 hP hD hk1 hP1 hI1
      clear hk1 hPc hDc hFc hP1 hD1 ht hI1
      refine lv_if_eq (tgt := 41) hx hb dX11_size_30 rfl (fun c_4 => ?_) (fun c_4 => ?_)
      · have c_4 : ¬ (5 ≤ (kd f).toInt) := zp_0 c_4
        refine lv_aload_n hx hb dX11_size_41 rfl (lv_at hl 0 rfl) ?_
        refine lv_iload_n hx hb dX11_size_42 rfl (lv_at hl 1 rfl) ?_
        obtain ⟨hPc, hDc, hFc⟩ := zo_sub (wc := [_, _, _, _, _]) hP hD hS hA [0, 4, 5, 6, 7] (by decide +kernel) rfl
        refine zcall (st1 := [.long (jI ((ln2 (cF40 cx f) (cF40 cy f) ((nN (mn f)) - 1) : Nat) : Int))]) (va_runV (As := [.int (nI f)]) (rest := []) ⟨hx, hb, hml, hown, hts⟩ (k_M_lengthOf l dC dI cI cZ cF H.size k0 a I0 J0 f (nN (mn f)) mn cx cy S0 (by first | with_reducible assumption | omega) (by first | with_reducible assumption | assumption) (by first | with_reducible assumption | omega) (by first | with_reducible assumption | assumption)) (csV_223 hts rfl rfl ⟨Nat.le_of_ble_eq_true rfl, Nat.le_of_ble_eq_true rfl⟩) (zPV2 (q0 := 0) (ci := 9) hPc hDc hK hXN rfl rfl) rfl rfl hl.1 rfl (lv_room (Nat.le_of_ble_eq_true rfl)) dX11_size_43 ⟨Nat.le_of_ble_eq_true rfl, Nat.le_of_ble_eq_true rfl⟩) hS hFc hFc rfl (fun t H locs ht hB hk1 hS => ?_)
        obtain ⟨q_5, hP1, hD1⟩ := hB
        rw [ht] at hP1
        obtain ⟨hP, hD⟩ := zn (W2 := [_, _, _, _, _, _, _, (oa (a 32) cI 8 q_5)]) hP hD hk1 hFc hP1 hD1 [0, 4, 5, 6, 7] [false, true, true, true] zl_230 [0, 4, 5, 6, 7] (by decide +kernel) rfl rfl rfl rfl rfl
        clear hk1 hPc hDc hFc hP1 hD1 ht
        obtain ⟨hP9, hD9⟩ := zu_sub (wc := [_, _, _, _, _, _, _, _]) hP hD [true, true, true, true, true, true, true, true] rfl rfl
        rw [hQ9]
        exact W.lret (v := jI ((ln2 (cF40 cx f) (cF40 cy f) ((nN (mn f)) - 1) : Nat) : Int)) hx hb hr (fun t ht hW => ⟨⟨rfl, q_5, by rw [ht]; exact hP9, hD9⟩, hS.F ht⟩) hS.2.2 dX11_size_46
      · have c_4 : 5 ≤ (kd f).toInt := zp_1 c_4
        exfalso; exact absurd (by first | with_reducible assumption | assumption) hk5.1
    · have c_3 : (kd f).toInt = 0 := zc_eq rfl rfl c_3
      exfalso; omega
  · have c_1 : ¬ (f < ft ∧ (st f).toInt = 1 ∧ (tn f).toInt = 0) := zp_0 c_1
    exfalso; exact absurd hlv (by first | with_reducible assumption | assumption)
set_option maxHeartbeats 4000000 in
set_option maxRecDepth 100000 in
theorem k_M_side_x (l : Launch) (dC : Nat → ClassId) (dI : Nat → Nat → Nat) (cI cZ cF : ClassId) (sz : Nat) (k0 : Nat) (a : Nat → Nat) (I0 : Nat → Int32) (J0 : Nat → Int64) (ft : Nat) (px : Int32) (py : Int32) (v : Int32) (kv : Int32) (hft : I0 0 = nI ft) (h200 : ft ≤ 200) (hv : ¬ (0 ≤ v.toInt ∧ v.toInt < (ft : Int))) : zM l yX11_side cX11_side 6 (some .int) ({ frames := 2, cells := 0, slots := 0, locals := 42 } : Room) [.ref k0, .int px, .int py, .int v, .int kv] (dC, dI) (zTy cI cZ cF) [(om k0 a I0 J0)] sz (some (.int 0)) (fun A t => zPD (dC, dI) classes A [(om k0 a I0 J0)] t.heap) 0 0 := by
  refine zIn (own := "ScaleShopModel") (loc := [(0, .ref k0), (1, .int px), (2, .int py), (3, .int v), (4, .int kv)]) rfl rfl rfl rfl (fun p e s m below meth c hx hb hr hts hown hlocks hml hnm9 A hA hS hP hD hK hXN Q9 hQ9 ls hl => ?_)
  have hj_1 : W p l e ({ frames := 2, cells := 0, slots := 0, locals := 42 } : Room) s m ([.ref k0, .int px, .int py, .int v, .int kv] : List Value).toArray below meth c s.heap [] 0 0 Q9 (F0 m 27 ls [.int (pI (0 ≤ px.toInt ∧ px.toInt ≤ 1000 ∧ 0 ≤ py.toInt ∧ py.toInt ≤ 1000))]) := by
    refine lv_istore (lv' := [(5, .int (pI (0 ≤ px.toInt ∧ px.toInt ≤ 1000 ∧ 0 ≤ py.toInt ∧ py.toInt ≤ 1000))), (0, .ref k0), (1, .int px), (2, .int py), (3, .int v), (4, .int kv)]) hx hb dX11_side_27 hl (Nat.le_of_ble_eq_true rfl) rfl (fun ls hl => ?_)
    refine lv_iload hx hb dX11_side_29 (lv_at hl 0 rfl) ?_
    refine lv_if_eq (tgt := 66) hx hb dX11_side_31 rfl (fun c_2 => ?_) (fun c_2 => ?_)
    · have c_2 : ¬ (0 ≤ px.toInt ∧ px.toInt ≤ 1000 ∧ 0 ≤ py.toInt ∧ py.toInt ≤ 1000) := zp_0 c_2
      refine lv_iconst (v := 0) hx hb dX11_side_66 rfl ?_
      obtain ⟨hP9, hD9⟩ := zu_sub (wc := [_]) hP hD [true] rfl rfl
      rw [hQ9]
      exact W.iret (v := 0) hx hb hr (fun t ht hW => ⟨⟨rfl, by rw [ht]; exact hP9, hD9⟩, hS.F ht⟩) hS.2.2 dX11_side_67
    · have c_2 : 0 ≤ px.toInt ∧ px.toInt ≤ 1000 ∧ 0 ≤ py.toInt ∧ py.toInt ≤ 1000 := zp_1 c_2
      refine lv_aload_n hx hb dX11_side_34 rfl (lv_at hl 1 rfl) ?_
      refine lv_iload_n hx hb dX11_side_35 rfl (lv_at hl 4 rfl) ?_
      obtain ⟨hPc, hDc, hFc, hI1⟩ := zi_sub (wc := [_]) hP hD hS hA [0] rfl rfl
      refine zcall (st1 := [.int 0]) (va_runV (As := [.int v]) (rest := []) ⟨hx, hb, hml, hown, hts⟩ (k_M_is_x l dC dI cI cZ cF s.heap.size k0 a I0 J0 ft v (by first | with_reducible assumption | assumption) (by first | with_reducible assumption | omega) (by first | with_reducible assumption | assumption)) (csV_179 hts rfl rfl ⟨Nat.le_of_ble_eq_true rfl, Nat.le_of_ble_eq_true rfl⟩) (zPV2 (q0 := 0) (ci := 9) hPc hDc hK hXN rfl rfl) rfl rfl hl.1 rfl (lv_room (Nat.le_of_ble_eq_true rfl)) dX11_side_36 ⟨Nat.le_of_ble_eq_true rfl, Nat.le_of_ble_eq_true rfl⟩) hS hFc hFc rfl (fun t H locs ht hB hk1 hS => ?_)
      obtain ⟨hP1, hD1⟩ := hB
      rw [ht] at hP1
      replace hP := z0 hP hD hk1 hP1 hI1
      clear hk1 hPc hDc hFc hP1 hD1 ht hI1
      refine lv_if_eq (tgt := 66) hx hb dX11_side_39 rfl (fun c_3 => ?_) (fun c_3 => ?_)
      · refine lv_iconst (v := 0) hx hb dX11_side_66 rfl ?_
        obtain ⟨hP9, hD9⟩ := zu_sub (wc := [_]) hP hD [true] rfl rfl
        rw [hQ9]
        exact W.iret (v := 0) hx hb hr (fun t ht hW => ⟨⟨rfl, by rw [ht]; exact hP9, hD9⟩, hS.F ht⟩) hS.2.2 dX11_side_67
      · exact absurd (by decide) c_3
  refine lv_iload_n hx hb dX11_side_0 rfl (lv_at hl 1 rfl) ?_
  refine lv_if_lt (tgt := 26) hx hb dX11_side_1 rfl (fun c_4 => ?_) (fun c_4 => ?_)
  · have c_4 : px.toInt < 0 := zc_lt rfl rfl c_4
    refine lv_iconst (v := 0) hx hb dX11_side_26 rfl ?_
    refine zz_i (v := pI (0 ≤ px.toInt ∧ px.toInt ≤ 1000 ∧ 0 ≤ py.toInt ∧ py.toInt ≤ 1000)) (by first | exact (zp_t (by omega)).symm | exact (zp_f (by omega)).symm) ?_
    exact hj_1 
  · have c_4 : 0 ≤ px.toInt := zc_nlt rfl rfl c_4
    refine lv_iload_n hx hb dX11_side_4 rfl (lv_at hl 1 rfl) ?_
    refine lv_sipush (v := 1000) hx hb dX11_side_5 rfl ?_
    refine lv_icmp_gt (tgt := 26) hx hb dX11_side_8 rfl (fun c_5 => ?_) (fun c_5 => ?_)
    · have c_5 : 1000 < px.toInt := zc_lt rfl rfl c_5
      refine lv_iconst (v := 0) hx hb dX11_side_26 rfl ?_
      refine zz_i (v := pI (0 ≤ px.toInt ∧ px.toInt ≤ 1000 ∧ 0 ≤ py.toInt ∧ py.toInt ≤ 1000)) (by first | exact (zp_t (by omega)).symm | exact (zp_f (by omega)).symm) ?_
      exact hj_1 
    · have c_5 : px.toInt ≤ 1000 := zc_nlt rfl rfl c_5
      refine lv_iload_n hx hb dX11_side_11 rfl (lv_at hl 2 rfl) ?_
      refine lv_if_lt (tgt := 26) hx hb dX11_side_12 rfl (fun c_6 => ?_) (fun c_6 => ?_)
      · have c_6 : py.toInt < 0 := zc_lt rfl rfl c_6
        refine lv_iconst (v := 0) hx hb dX11_side_26 rfl ?_
        refine zz_i (v := pI (0 ≤ px.toInt ∧ px.toInt ≤ 1000 ∧ 0 ≤ py.toInt ∧ py.toInt ≤ 1000)) (by first | exact (zp_t (by omega)).symm | exact (zp_f (by omega)).symm) ?_
        exact hj_1 
      · have c_6 : 0 ≤ py.toInt := zc_nlt rfl rfl c_6
        refine lv_iload_n hx hb dX11_side_15 rfl (lv_at hl 2 rfl) ?_
        refine lv_sipush (v := 1000) hx hb dX11_side_16 rfl ?_
        refine lv_icmp_gt (tgt := 26) hx hb dX11_side_19 rfl (fun c_7 => ?_) (fun c_7 => ?_)
        · have c_7 : 1000 < py.toInt := zc_lt rfl rfl c_7
          refine lv_iconst (v := 0) hx hb dX11_side_26 rfl ?_
          refine zz_i (v := pI (0 ≤ px.toInt ∧ px.toInt ≤ 1000 ∧ 0 ≤ py.toInt ∧ py.toInt ≤ 1000)) (by first | exact (zp_t (by omega)).symm | exact (zp_f (by omega)).symm) ?_
          exact hj_1 
        · have c_7 : py.toInt ≤ 1000 := zc_nlt rfl rfl c_7
          refine lv_iconst (v := 1) hx hb dX11_side_22 rfl ?_
          refine lv_goto (tgt := 27) hx hb dX11_side_23 rfl ?_
          refine zz_i (v := pI (0 ≤ px.toInt ∧ px.toInt ≤ 1000 ∧ 0 ≤ py.toInt ∧ py.toInt ≤ 1000)) (by first | exact (zp_t (by omega)).symm | exact (zp_f (by omega)).symm) ?_
          exact hj_1 
set_option maxHeartbeats 4000000 in
set_option maxRecDepth 100000 in
theorem k_M_side_r (l : Launch) (dC : Nat → ClassId) (dI : Nat → Nat → Nat) (cI cZ cF : ClassId) (sz : Nat) (k0 : Nat) (a : Nat → Nat) (I0 : Nat → Int32) (J0 : Nat → Int64) (f : Nat) (ft : Nat) (px : Int32) (py : Int32) (kv : Int32) (st : Nat → Int32) (tn : Nat → Int32) (kd : Nat → Int32) (mn : Nat → Int32) (hft : I0 0 = nI ft) (h200 : ft ≤ 200) (hf_t : f < ft) (hmw : lvF ft st tn f → mn f = nI (nN (mn f)) ∧ 1 ≤ nN (mn f) ∧ nN (mn f) ≤ 40) (hbad : ¬ ((0 ≤ px.toInt ∧ px.toInt ≤ 1000 ∧ 0 ≤ py.toInt ∧ py.toInt ≤ 1000) ∧ lvF ft st tn f ∧ ¬ (kd f).toInt = 0 ∧ 0 ≤ kv.toInt ∧ kv.toInt < ((eO (kd f).toInt (nN (mn f)) : Nat) : Int))) : zM l yX11_side cX11_side 6 (some .int) ({ frames := 2, cells := 0, slots := 0, locals := 42 } : Room) [.ref k0, .int px, .int py, .int (nI f), .int kv] (dC, dI) (zTy cI cZ cF) [(om k0 a I0 J0), (oa (a 5) cI 201 st), (oa (a 6) cZ 201 tn), (oa (a 1) cI 201 kd), (oa (a 11) cI 201 mn)] sz (some (.int 0)) (fun A t => zPD (dC, dI) classes A [(om k0 a I0 J0), (oa (a 5) cI 201 st), (oa (a 6) cZ 201 tn), (oa (a 1) cI 201 kd), (oa (a 11) cI 201 mn)] t.heap) 0 0 := by
  refine zIn (own := "ScaleShopModel") (loc := [(0, .ref k0), (1, .int px), (2, .int py), (3, .int (nI f)), (4, .int kv)]) rfl rfl rfl rfl (fun p e s m below meth c hx hb hr hts hown hlocks hml hnm9 A hA hS hP hD hK hXN Q9 hQ9 ls hl => ?_)
  have hj_1 : W p l e ({ frames := 2, cells := 0, slots := 0, locals := 42 } : Room) s m ([.ref k0, .int px, .int py, .int (nI f), .int kv] : List Value).toArray below meth c s.heap [] 0 0 Q9 (F0 m 27 ls [.int (pI (0 ≤ px.toInt ∧ px.toInt ≤ 1000 ∧ 0 ≤ py.toInt ∧ py.toInt ≤ 1000))]) := by
    refine lv_istore (lv' := [(5, .int (pI (0 ≤ px.toInt ∧ px.toInt ≤ 1000 ∧ 0 ≤ py.toInt ∧ py.toInt ≤ 1000))), (0, .ref k0), (1, .int px), (2, .int py), (3, .int (nI f)), (4, .int kv)]) hx hb dX11_side_27 hl (Nat.le_of_ble_eq_true rfl) rfl (fun ls hl => ?_)
    refine lv_iload hx hb dX11_side_29 (lv_at hl 0 rfl) ?_
    refine lv_if_eq (tgt := 66) hx hb dX11_side_31 rfl (fun c_2 => ?_) (fun c_2 => ?_)
    · have c_2 : ¬ (0 ≤ px.toInt ∧ px.toInt ≤ 1000 ∧ 0 ≤ py.toInt ∧ py.toInt ≤ 1000) := zp_0 c_2
      refine lv_iconst (v := 0) hx hb dX11_side_66 rfl ?_
      obtain ⟨hP9, hD9⟩ := zu_sub (wc := [_, _, _, _, _]) hP hD [true, true, true, true, true] rfl rfl
      rw [hQ9]
      exact W.iret (v := 0) hx hb hr (fun t ht hW => ⟨⟨rfl, by rw [ht]; exact hP9, hD9⟩, hS.F ht⟩) hS.2.2 dX11_side_67
    · have c_2 : 0 ≤ px.toInt ∧ px.toInt ≤ 1000 ∧ 0 ≤ py.toInt ∧ py.toInt ≤ 1000 := zp_1 c_2
      refine lv_aload_n hx hb dX11_side_34 rfl (lv_at hl 1 rfl) ?_
      refine lv_iload_n hx hb dX11_side_35 rfl (lv_at hl 4 rfl) ?_
      obtain ⟨hPc, hDc, hFc, hI1⟩ := zi_sub (wc := [_, _, _]) hP hD hS hA [0, 1, 2] rfl rfl
      refine zcall (st1 := [.int (pI (f < ft ∧ (st f).toInt = 1 ∧ (tn f).toInt = 0))]) (va_runV (As := [.int (nI f)]) (rest := []) ⟨hx, hb, hml, hown, hts⟩ (k_M_is_n l dC dI cI cZ cF s.heap.size k0 a I0 J0 f ft st tn (by first | with_reducible assumption | assumption) (by first | with_reducible assumption | omega) (by first | with_reducible assumption | omega)) (csV_179 hts rfl rfl ⟨Nat.le_of_ble_eq_true rfl, Nat.le_of_ble_eq_true rfl⟩) (zPV2 (q0 := 0) (ci := 9) hPc hDc hK hXN rfl rfl) rfl rfl hl.1 rfl (lv_room (Nat.le_of_ble_eq_true rfl)) dX11_side_36 ⟨Nat.le_of_ble_eq_true rfl, Nat.le_of_ble_eq_true rfl⟩) hS hFc hFc rfl (fun t H locs ht hB hk1 hS => ?_)
      obtain ⟨hP1, hD1⟩ := hB
      rw [ht] at hP1
      replace hP := z0 hP hD hk1 hP1 hI1
      clear hk1 hPc hDc hFc hP1 hD1 ht hI1
      refine lv_if_eq (tgt := 66) hx hb dX11_side_39 rfl (fun c_3 => ?_) (fun c_3 => ?_)
      · have c_3 : ¬ (f < ft ∧ (st f).toInt = 1 ∧ (tn f).toInt = 0) := zp_0 c_3
        refine lv_iconst (v := 0) hx hb dX11_side_66 rfl ?_
        obtain ⟨hP9, hD9⟩ := zu_sub (wc := [_, _, _, _, _]) hP hD [true, true, true, true, true] rfl rfl
        rw [hQ9]
        exact W.iret (v := 0) hx hb hr (fun t ht hW => ⟨⟨rfl, by rw [ht]; exact hP9, hD9⟩, hS.F ht⟩) hS.2.2 dX11_side_67
      · have c_3 : f < ft ∧ (st f).toInt = 1 ∧ (tn f).toInt = 0 := zp_1 c_3
        have hmq := hmw (by first | with_reducible assumption | assumption)
        have hmq1 := hmq.1
        have hee := eO_le (k := (kd f).toInt) hmq.2.1
        refine lv_aload_n hx hb dX11_side_42 rfl (lv_at hl 1 rfl) ?_
        refine va_get (D := (dC, dI)) (ci := 9) (v := .ref (a 1)) (C := RX11) (T := TX11) (N := 55) hx hb hts inX11 hown hK hP 0 rfl rfl 1 (Nat.le_of_ble_eq_true rfl) (hts _ mw_1160) (fun _ h9 => h9) rfl dX11_side_43 ?_
        refine lv_iload_n hx hb dX11_side_46 rfl (lv_at hl 4 rfl) ?_
        have b9_4 : f < 201 := by omega
        refine z_iald hx hb hK hP 3 0 rfl rfl (e := f) rfl b9_4 (Nat.le_of_ble_eq_true rfl) dX11_side_47 ?_
        refine lv_if_eq (tgt := 66) hx hb dX11_side_48 rfl (fun c_5 => ?_) (fun c_5 => ?_)
        · have c_5 : (kd f).toInt = 0 := zc_eq rfl rfl c_5
          refine lv_iconst (v := 0) hx hb dX11_side_66 rfl ?_
          obtain ⟨hP9, hD9⟩ := zu_sub (wc := [_, _, _, _, _]) hP hD [true, true, true, true, true] rfl rfl
          rw [hQ9]
          exact W.iret (v := 0) hx hb hr (fun t ht hW => ⟨⟨rfl, by rw [ht]; exact hP9, hD9⟩, hS.F ht⟩) hS.2.2 dX11_side_67
        · have c_5 : ¬ (kd f).toInt = 0 := zc_ne rfl rfl c_5
          refine lv_iload hx hb dX11_side_51 (lv_at hl 5 rfl) ?_
          refine lv_if_lt (tgt := 66) hx hb dX11_side_53 rfl (fun c_6 => ?_) (fun c_6 => ?_)
          · have c_6 : kv.toInt < 0 := zc_lt rfl rfl c_6
            refine lv_iconst (v := 0) hx hb dX11_side_66 rfl ?_
            obtain ⟨hP9, hD9⟩ := zu_sub (wc := [_, _, _, _, _]) hP hD [true, true, true, true, true] rfl rfl
            rw [hQ9]
            exact W.iret (v := 0) hx hb hr (fun t ht hW => ⟨⟨rfl, by rw [ht]; exact hP9, hD9⟩, hS.F ht⟩) hS.2.2 dX11_side_67
          · have c_6 : 0 ≤ kv.toInt := zc_nlt rfl rfl c_6
            refine lv_iload hx hb dX11_side_56 (lv_at hl 5 rfl) ?_
            refine lv_aload_n hx hb dX11_side_58 rfl (lv_at hl 1 rfl) ?_
            refine lv_iload_n hx hb dX11_side_59 rfl (lv_at hl 4 rfl) ?_
            obtain ⟨hPc, hDc, hFc, hI1⟩ := zi_sub (wc := [_, _, _]) hP hD hS hA [0, 3, 4] rfl rfl
            refine zcall (st1 := [.int (nI (eO (kd f).toInt (nN (mn f)))), .int kv]) (va_runV (As := [.int (nI f)]) (rest := [.int kv]) ⟨hx, hb, hml, hown, hts⟩ (k_M_edgesOf l dC dI cI cZ cF H.size k0 a I0 J0 f (nN (mn f)) kd mn (by first | with_reducible assumption | omega) (hmq1) (hmq.2)) (csV_166 hts rfl rfl ⟨Nat.le_of_ble_eq_true rfl, Nat.le_of_ble_eq_true rfl⟩) (zPV2 (q0 := 0) (ci := 9) hPc hDc hK hXN rfl rfl) rfl rfl hl.1 rfl (lv_room (Nat.le_of_ble_eq_true rfl)) dX11_side_60 ⟨Nat.le_of_ble_eq_true rfl, Nat.le_of_ble_eq_true rfl⟩) hS hFc hFc rfl (fun t H locs ht hB hk1 hS => ?_)
            obtain ⟨hP1, hD1⟩ := hB
            rw [ht] at hP1
            replace hP := z0 hP hD hk1 hP1 hI1
            clear hk1 hPc hDc hFc hP1 hD1 ht hI1
            have b9_8 : zlt ((eO (kd f).toInt (nN (mn f)))) := show (eO (kd f).toInt (nN (mn f))) < 2147483648 by omega
            refine lv_icmp_lt (tgt := 68) hx hb dX11_side_63 rfl (fun c_7 => ?_) (fun c_7 => ?_)
            · have c_7 : kv.toInt < ((eO (kd f).toInt (nN (mn f)) : Nat) : Int) := zc_lt rfl (nI_toInt b9_8) c_7
              exact absurd ⟨by assumption, by assumption, by omega, by omega, by omega⟩ hbad
            · have c_7 : ((eO (kd f).toInt (nN (mn f)) : Nat) : Int) ≤ kv.toInt := zc_nlt rfl (nI_toInt b9_8) c_7
              refine lv_iconst (v := 0) hx hb dX11_side_66 rfl ?_
              obtain ⟨hP9, hD9⟩ := zu_sub (wc := [_, _, _, _, _]) hP hD [true, true, true, true, true] rfl rfl
              rw [hQ9]
              exact W.iret (v := 0) hx hb hr (fun t ht hW => ⟨⟨rfl, by rw [ht]; exact hP9, hD9⟩, hS.F ht⟩) hS.2.2 dX11_side_67
  refine lv_iload_n hx hb dX11_side_0 rfl (lv_at hl 1 rfl) ?_
  refine lv_if_lt (tgt := 26) hx hb dX11_side_1 rfl (fun c_9 => ?_) (fun c_9 => ?_)
  · have c_9 : px.toInt < 0 := zc_lt rfl rfl c_9
    refine lv_iconst (v := 0) hx hb dX11_side_26 rfl ?_
    refine zz_i (v := pI (0 ≤ px.toInt ∧ px.toInt ≤ 1000 ∧ 0 ≤ py.toInt ∧ py.toInt ≤ 1000)) (by first | exact (zp_t (by omega)).symm | exact (zp_f (by omega)).symm) ?_
    exact hj_1 
  · have c_9 : 0 ≤ px.toInt := zc_nlt rfl rfl c_9
    refine lv_iload_n hx hb dX11_side_4 rfl (lv_at hl 1 rfl) ?_
    refine lv_sipush (v := 1000) hx hb dX11_side_5 rfl ?_
    refine lv_icmp_gt (tgt := 26) hx hb dX11_side_8 rfl (fun c_10 => ?_) (fun c_10 => ?_)
    · have c_10 : 1000 < px.toInt := zc_lt rfl rfl c_10
      refine lv_iconst (v := 0) hx hb dX11_side_26 rfl ?_
      refine zz_i (v := pI (0 ≤ px.toInt ∧ px.toInt ≤ 1000 ∧ 0 ≤ py.toInt ∧ py.toInt ≤ 1000)) (by first | exact (zp_t (by omega)).symm | exact (zp_f (by omega)).symm) ?_
      exact hj_1 
    · have c_10 : px.toInt ≤ 1000 := zc_nlt rfl rfl c_10
      refine lv_iload_n hx hb dX11_side_11 rfl (lv_at hl 2 rfl) ?_
      refine lv_if_lt (tgt := 26) hx hb dX11_side_12 rfl (fun c_11 => ?_) (fun c_11 => ?_)
      · have c_11 : py.toInt < 0 := zc_lt rfl rfl c_11
        refine lv_iconst (v := 0) hx hb dX11_side_26 rfl ?_
        refine zz_i (v := pI (0 ≤ px.toInt ∧ px.toInt ≤ 1000 ∧ 0 ≤ py.toInt ∧ py.toInt ≤ 1000)) (by first | exact (zp_t (by omega)).symm | exact (zp_f (by omega)).symm) ?_
        exact hj_1 
      · have c_11 : 0 ≤ py.toInt := zc_nlt rfl rfl c_11
        refine lv_iload_n hx hb dX11_side_15 rfl (lv_at hl 2 rfl) ?_
        refine lv_sipush (v := 1000) hx hb dX11_side_16 rfl ?_
        refine lv_icmp_gt (tgt := 26) hx hb dX11_side_19 rfl (fun c_12 => ?_) (fun c_12 => ?_)
        · have c_12 : 1000 < py.toInt := zc_lt rfl rfl c_12
          refine lv_iconst (v := 0) hx hb dX11_side_26 rfl ?_
          refine zz_i (v := pI (0 ≤ px.toInt ∧ px.toInt ≤ 1000 ∧ 0 ≤ py.toInt ∧ py.toInt ≤ 1000)) (by first | exact (zp_t (by omega)).symm | exact (zp_f (by omega)).symm) ?_
          exact hj_1 
        · have c_12 : py.toInt ≤ 1000 := zc_nlt rfl rfl c_12
          refine lv_iconst (v := 1) hx hb dX11_side_22 rfl ?_
          refine lv_goto (tgt := 27) hx hb dX11_side_23 rfl ?_
          refine zz_i (v := pI (0 ≤ px.toInt ∧ px.toInt ≤ 1000 ∧ 0 ≤ py.toInt ∧ py.toInt ≤ 1000)) (by first | exact (zp_t (by omega)).symm | exact (zp_f (by omega)).symm) ?_
          exact hj_1 
set_option maxHeartbeats 4000000 in
set_option maxRecDepth 100000 in
theorem k_M_side_y (l : Launch) (dC : Nat → ClassId) (dI : Nat → Nat → Nat) (cI cZ cF : ClassId) (sz : Nat) (k0 : Nat) (a : Nat → Nat) (I0 : Nat → Int32) (J0 : Nat → Int64) (f : Nat) (k : Nat) (ft : Nat) (px : Int32) (py : Int32) (st : Nat → Int32) (tn : Nat → Int32) (kd : Nat → Int32) (mn : Nat → Int32) (cx : Nat → Int32) (cy : Nat → Int32) (S0 : Nat → Int32) (hft : I0 0 = nI ft) (h200 : ft ≤ 200) (hwf : ∀ q, lvF ft st tn q → wfM mn cx cy q) (hf_t : f < ft) (hlv : lvF ft st tn f) (hk0 : ¬ (kd f).toInt = 0) (hpl : 0 ≤ px.toInt ∧ px.toInt ≤ 1000 ∧ 0 ≤ py.toInt ∧ py.toInt ≤ 1000) (hke : k < eO (kd f).toInt (nN (mn f))) : zM l yX11_side cX11_side 6 (some .int) ({ frames := 2, cells := 0, slots := 0, locals := 42 } : Room) [.ref k0, .int px, .int py, .int (nI f), .int (nI k)] (dC, dI) (zTy cI cZ cF) [(om k0 a I0 J0), (oa (a 5) cI 201 st), (oa (a 6) cZ 201 tn), (oa (a 1) cI 201 kd), (oa (a 11) cI 201 mn), (oa (a 12) cI 8040 cx), (oa (a 13) cI 8040 cy), (oa (a 32) cI 8 S0)] sz (some (.int (iI (sg (eCr (nN (mn f)) (cF40 cx f) (cF40 cy f) k px.toInt py.toInt))))) (fun A t => ∃ (S1 : Nat → Int32), zPD (dC, dI) classes A [(om k0 a I0 J0), (oa (a 5) cI 201 st), (oa (a 6) cZ 201 tn), (oa (a 1) cI 201 kd), (oa (a 11) cI 201 mn), (oa (a 12) cI 8040 cx), (oa (a 13) cI 8040 cy), (oa (a 32) cI 8 S1)] t.heap) 0 0 := by
  refine zIn (own := "ScaleShopModel") (loc := [(0, .ref k0), (1, .int px), (2, .int py), (3, .int (nI f)), (4, .int (nI k))]) rfl rfl rfl rfl (fun p e s m below meth c hx hb hr hts hown hlocks hml hnm9 A hA hS hP hD hK hXN Q9 hQ9 ls hl => ?_)
  have hw_ff := hwf f (by first | with_reducible assumption | assumption)
  have hm_ff := hw_ff.1
  have hn_ff := hw_ff.2.1
  have hp_ff := hw_ff.2.2
  have hee := eO_le (k := (kd f).toInt) hn_ff.1
  have hpx9 : pl px := ⟨by omega, by omega⟩
  have hpy9 : pl py := ⟨by omega, by omega⟩
  have hk9 : k < nN (mn f) := (by omega)
  have hnx := nxt_lt (n := nN (mn f)) (i := k) (by omega)
  have hB := crBp (hp_ff k hk9).1 (hp_ff k hk9).2 (hp_ff _ hnx).1 (hp_ff _ hnx).2 hpx9 hpy9
  have hj_1 : W p l e ({ frames := 2, cells := 0, slots := 0, locals := 42 } : Room) s m ([.ref k0, .int px, .int py, .int (nI f), .int (nI k)] : List Value).toArray below meth c s.heap [] 0 0 Q9 (F0 m 27 ls [.int (pI (0 ≤ px.toInt ∧ px.toInt ≤ 1000 ∧ 0 ≤ py.toInt ∧ py.toInt ≤ 1000))]) := by
    refine lv_istore (lv' := [(5, .int (pI (0 ≤ px.toInt ∧ px.toInt ≤ 1000 ∧ 0 ≤ py.toInt ∧ py.toInt ≤ 1000))), (0, .ref k0), (1, .int px), (2, .int py), (3, .int (nI f)), (4, .int (nI k))]) hx hb dX11_side_27 hl (Nat.le_of_ble_eq_true rfl) rfl (fun ls hl => ?_)
    refine lv_iload hx hb dX11_side_29 (lv_at hl 0 rfl) ?_
    refine lv_if_eq (tgt := 66) hx hb dX11_side_31 rfl (fun c_2 => ?_) (fun c_2 => ?_)
    · have c_2 : ¬ (0 ≤ px.toInt ∧ px.toInt ≤ 1000 ∧ 0 ≤ py.toInt ∧ py.toInt ≤ 1000) := zp_0 c_2
      exfalso; exact absurd hpl (by first | with_reducible assumption | assumption)
    · have c_2 : 0 ≤ px.toInt ∧ px.toInt ≤ 1000 ∧ 0 ≤ py.toInt ∧ py.toInt ≤ 1000 := zp_1 c_2
      refine lv_aload_n hx hb dX11_side_34 rfl (lv_at hl 1 rfl) ?_
      refine lv_iload_n hx hb dX11_side_35 rfl (lv_at hl 4 rfl) ?_
      obtain ⟨hPc, hDc, hFc, hI1⟩ := zi_sub (wc := [_, _, _]) hP hD hS hA [0, 1, 2] rfl rfl
      refine zcall (st1 := [.int (pI (f < ft ∧ (st f).toInt = 1 ∧ (tn f).toInt = 0))]) (va_runV (As := [.int (nI f)]) (rest := []) ⟨hx, hb, hml, hown, hts⟩ (k_M_is_n l dC dI cI cZ cF s.heap.size k0 a I0 J0 f ft st tn (by first | with_reducible assumption | assumption) (by first | with_reducible assumption | omega) (by first | with_reducible assumption | omega)) (csV_179 hts rfl rfl ⟨Nat.le_of_ble_eq_true rfl, Nat.le_of_ble_eq_true rfl⟩) (zPV2 (q0 := 0) (ci := 9) hPc hDc hK hXN rfl rfl) rfl rfl hl.1 rfl (lv_room (Nat.le_of_ble_eq_true rfl)) dX11_side_36 ⟨Nat.le_of_ble_eq_true rfl, Nat.le_of_ble_eq_true rfl⟩) hS hFc hFc rfl (fun t H locs ht hB hk1 hS => ?_)
      obtain ⟨hP1, hD1⟩ := hB
      rw [ht] at hP1
      replace hP := z0 hP hD hk1 hP1 hI1
      clear hk1 hPc hDc hFc hP1 hD1 ht hI1
      refine lv_if_eq (tgt := 66) hx hb dX11_side_39 rfl (fun c_3 => ?_) (fun c_3 => ?_)
      · have c_3 : ¬ (f < ft ∧ (st f).toInt = 1 ∧ (tn f).toInt = 0) := zp_0 c_3
        exfalso; exact absurd hlv (by first | with_reducible assumption | assumption)
      · have c_3 : f < ft ∧ (st f).toInt = 1 ∧ (tn f).toInt = 0 := zp_1 c_3
        refine lv_aload_n hx hb dX11_side_42 rfl (lv_at hl 1 rfl) ?_
        refine va_get (D := (dC, dI)) (ci := 9) (v := .ref (a 1)) (C := RX11) (T := TX11) (N := 55) hx hb hts inX11 hown hK hP 0 rfl rfl 1 (Nat.le_of_ble_eq_true rfl) (hts _ mw_1160) (fun _ h9 => h9) rfl dX11_side_43 ?_
        refine lv_iload_n hx hb dX11_side_46 rfl (lv_at hl 4 rfl) ?_
        have b9_4 : f < 201 := by omega
        refine z_iald hx hb hK hP 3 0 rfl rfl (e := f) rfl b9_4 (Nat.le_of_ble_eq_true rfl) dX11_side_47 ?_
        refine lv_if_eq (tgt := 66) hx hb dX11_side_48 rfl (fun c_5 => ?_) (fun c_5 => ?_)
        · have c_5 : (kd f).toInt = 0 := zc_eq rfl rfl c_5
          exfalso; omega
        · have c_5 : ¬ (kd f).toInt = 0 := zc_ne rfl rfl c_5
          refine lv_iload hx hb dX11_side_51 (lv_at hl 5 rfl) ?_
          have b9_7 : zlt (k) := show k < 2147483648 by omega
          refine lv_if_lt (tgt := 66) hx hb dX11_side_53 rfl (fun c_6 => ?_) (fun c_6 => ?_)
          · have c_6 : ((k : Nat) : Int) < 0 := zc_lt (nI_toInt b9_7) rfl c_6
            exfalso; omega
          · have c_6 : 0 ≤ ((k : Nat) : Int) := zc_nlt (nI_toInt b9_7) rfl c_6
            refine lv_iload hx hb dX11_side_56 (lv_at hl 5 rfl) ?_
            refine lv_aload_n hx hb dX11_side_58 rfl (lv_at hl 1 rfl) ?_
            refine lv_iload_n hx hb dX11_side_59 rfl (lv_at hl 4 rfl) ?_
            obtain ⟨hPc, hDc, hFc, hI1⟩ := zi_sub (wc := [_, _, _]) hP hD hS hA [0, 3, 4] rfl rfl
            refine zcall (st1 := [.int (nI (eO (kd f).toInt (nN (mn f)))), .int (nI k)]) (va_runV (As := [.int (nI f)]) (rest := [.int (nI k)]) ⟨hx, hb, hml, hown, hts⟩ (k_M_edgesOf l dC dI cI cZ cF H.size k0 a I0 J0 f (nN (mn f)) kd mn (by first | with_reducible assumption | omega) (hm_ff) (by first | with_reducible assumption | omega)) (csV_166 hts rfl rfl ⟨Nat.le_of_ble_eq_true rfl, Nat.le_of_ble_eq_true rfl⟩) (zPV2 (q0 := 0) (ci := 9) hPc hDc hK hXN rfl rfl) rfl rfl hl.1 rfl (lv_room (Nat.le_of_ble_eq_true rfl)) dX11_side_60 ⟨Nat.le_of_ble_eq_true rfl, Nat.le_of_ble_eq_true rfl⟩) hS hFc hFc rfl (fun t H locs ht hB hk1 hS => ?_)
            obtain ⟨hP1, hD1⟩ := hB
            rw [ht] at hP1
            replace hP := z0 hP hD hk1 hP1 hI1
            clear hk1 hPc hDc hFc hP1 hD1 ht hI1
            have b9_9 : zlt ((eO (kd f).toInt (nN (mn f)))) := show (eO (kd f).toInt (nN (mn f))) < 2147483648 by omega
            refine lv_icmp_lt (tgt := 68) hx hb dX11_side_63 rfl (fun c_8 => ?_) (fun c_8 => ?_)
            · have c_8 : ((k : Nat) : Int) < ((eO (kd f).toInt (nN (mn f)) : Nat) : Int) := zc_lt (nI_toInt b9_7) (nI_toInt b9_9) c_8
              refine lv_aload_n hx hb dX11_side_68 rfl (lv_at hl 1 rfl) ?_
              refine lv_iload_n hx hb dX11_side_69 rfl (lv_at hl 4 rfl) ?_
              refine lv_iload hx hb dX11_side_70 (lv_at hl 5 rfl) ?_
              refine lv_iconst (v := 0) hx hb dX11_side_72 rfl ?_
              obtain ⟨hPc, hDc, hFc⟩ := zo_sub (wc := [_, _, _, _, _]) hP hD hS hA [0, 4, 5, 6, 7] (by decide +kernel) rfl
              refine zcall (st1 := []) (va_runV (As := [.int (nI f), .int (nI k), .int 0]) (rest := []) ⟨hx, hb, hml, hown, hts⟩ (k_M_edge l dC dI cI cZ cF H.size k0 a I0 J0 f (nN (mn f)) k 0 mn cx cy S0 (by first | with_reducible assumption | omega) (hm_ff) (by first | with_reducible assumption | omega) (by first | with_reducible assumption | omega) (by first | with_reducible assumption | omega)) (csV_167 hts rfl rfl ⟨Nat.le_of_ble_eq_true rfl, Nat.le_of_ble_eq_true rfl⟩) (zPV2 (q0 := 0) (ci := 9) hPc hDc hK hXN rfl rfl) rfl rfl hl.1 rfl (lv_room (Nat.le_of_ble_eq_true rfl)) dX11_side_73 ⟨Nat.le_of_ble_eq_true rfl, Nat.le_of_ble_eq_true rfl⟩) hS hFc hFc rfl (fun t H locs ht hB hk1 hS => ?_)
              obtain ⟨S2, t0, t1, t2, t3, tr, hP1, hD1⟩ := hB
              rw [ht] at hP1
              obtain ⟨hP, hD⟩ := zn (W2 := [_, _, _, _, _, _, _, (oa (a 32) cI 8 S2)]) hP hD hk1 hFc hP1 hD1 [0, 4, 5, 6, 7] [false, true, true, true] zl_230 [0, 4, 5, 6, 7] (by decide +kernel) rfl rfl rfl rfl rfl
              clear hk1 hPc hDc hFc hP1 hD1 ht
              refine lv_aload_n hx hb dX11_side_76 rfl (lv_at hl 1 rfl) ?_
              refine va_get (D := (dC, dI)) (ci := 9) (v := .ref (a 32)) (C := RX11) (T := TX11) (N := 55) hx hb hts inX11 hown hK hP 0 rfl rfl 32 (Nat.le_of_ble_eq_true rfl) (hts _ mw_1191) (fun _ h9 => h9) rfl dX11_side_77 ?_
              refine lv_iconst (v := 0) hx hb dX11_side_80 rfl ?_
              refine z_iald hx hb hK hP 7 0 rfl rfl (e := 0) rfl (Nat.le_of_ble_eq_true rfl) (Nat.le_of_ble_eq_true rfl) dX11_side_81 ?_
              refine zz_i (v := cF40 cx f k) (t0) ?_
              refine lv_i2l (v := (cF40 cx f k).toInt64) hx hb dX11_side_82 (rfl) ?_
              refine lv_aload_n hx hb dX11_side_83 rfl (lv_at hl 1 rfl) ?_
              refine va_get (D := (dC, dI)) (ci := 9) (v := .ref (a 32)) (C := RX11) (T := TX11) (N := 55) hx hb hts inX11 hown hK hP 0 rfl rfl 32 (Nat.le_of_ble_eq_true rfl) (hts _ mw_1191) (fun _ h9 => h9) rfl dX11_side_84 ?_
              refine lv_iconst (v := 1) hx hb dX11_side_87 rfl ?_
              refine z_iald hx hb hK hP 7 0 rfl rfl (e := 1) rfl (Nat.le_of_ble_eq_true rfl) (Nat.le_of_ble_eq_true rfl) dX11_side_88 ?_
              refine zz_i (v := cF40 cy f k) (t1) ?_
              refine lv_i2l (v := (cF40 cy f k).toInt64) hx hb dX11_side_89 (rfl) ?_
              refine lv_aload_n hx hb dX11_side_90 rfl (lv_at hl 1 rfl) ?_
              refine va_get (D := (dC, dI)) (ci := 9) (v := .ref (a 32)) (C := RX11) (T := TX11) (N := 55) hx hb hts inX11 hown hK hP 0 rfl rfl 32 (Nat.le_of_ble_eq_true rfl) (hts _ mw_1191) (fun _ h9 => h9) rfl dX11_side_91 ?_
              refine lv_iconst (v := 2) hx hb dX11_side_94 rfl ?_
              refine z_iald hx hb hK hP 7 0 rfl rfl (e := 2) rfl (Nat.le_of_ble_eq_true rfl) (Nat.le_of_ble_eq_true rfl) dX11_side_95 ?_
              refine zz_i (v := cF40 cx f (nxt (nN (mn f)) k)) (t2) ?_
              refine lv_i2l (v := (cF40 cx f (nxt (nN (mn f)) k)).toInt64) hx hb dX11_side_96 (rfl) ?_
              refine lv_aload_n hx hb dX11_side_97 rfl (lv_at hl 1 rfl) ?_
              refine va_get (D := (dC, dI)) (ci := 9) (v := .ref (a 32)) (C := RX11) (T := TX11) (N := 55) hx hb hts inX11 hown hK hP 0 rfl rfl 32 (Nat.le_of_ble_eq_true rfl) (hts _ mw_1191) (fun _ h9 => h9) rfl dX11_side_98 ?_
              refine lv_iconst (v := 3) hx hb dX11_side_101 rfl ?_
              refine z_iald hx hb hK hP 7 0 rfl rfl (e := 3) rfl (Nat.le_of_ble_eq_true rfl) (Nat.le_of_ble_eq_true rfl) dX11_side_102 ?_
              refine zz_i (v := cF40 cy f (nxt (nN (mn f)) k)) (t3) ?_
              refine lv_i2l (v := (cF40 cy f (nxt (nN (mn f)) k)).toInt64) hx hb dX11_side_103 (rfl) ?_
              refine lv_iload_n hx hb dX11_side_104 rfl (lv_at hl 2 rfl) ?_
              refine lv_i2l (v := px.toInt64) hx hb dX11_side_105 (rfl) ?_
              refine lv_iload_n hx hb dX11_side_106 rfl (lv_at hl 3 rfl) ?_
              refine lv_i2l (v := py.toInt64) hx hb dX11_side_107 (rfl) ?_
              obtain ⟨hPc, hDc, hFc, hI1⟩ := zi_sub (wc := []) hP hD hS hA [] rfl rfl
              refine zcall (st1 := [.long (jI (cr (cF40 cx f k).toInt (cF40 cy f k).toInt (cF40 cx f (nxt (nN (mn f)) k)).toInt (cF40 cy f (nxt (nN (mn f)) k)).toInt px.toInt py.toInt))]) (va_runS (As := [.long ((cF40 cx f k).toInt64), .long ((cF40 cy f k).toInt64), .long ((cF40 cx f (nxt (nN (mn f)) k)).toInt64), .long ((cF40 cy f (nxt (nN (mn f)) k)).toInt64), .long px.toInt64, .long py.toInt64]) (rest := []) ⟨hx, hb, hml, hown, hts⟩ (k_M_cross l dC dI cI cZ cF H.size (cF40 cx f k) (cF40 cy f k) (cF40 cx f (nxt (nN (mn f)) k)) (cF40 cy f (nxt (nN (mn f)) k)) px py ((hp_ff k hk9).1) ((hp_ff k hk9).2) ((hp_ff _ hnx).1) ((hp_ff _ hnx).2) (hpx9) (hpy9)) (csS_162 hts rfl rfl ⟨Nat.le_of_ble_eq_true rfl, Nat.le_of_ble_eq_true rfl⟩) (zPS2 hPc hDc hK hXN) rfl rfl hl.1 rfl (lv_room (Nat.le_of_ble_eq_true rfl)) dX11_side_108 ⟨Nat.le_of_ble_eq_true rfl, Nat.le_of_ble_eq_true rfl⟩) hS hFc hFc rfl (fun t H locs ht hB hk1 hS => ?_)
              obtain ⟨hP1, hD1⟩ := hB
              rw [ht] at hP1
              replace hP := z0 hP hD hk1 hP1 hI1
              clear hk1 hPc hDc hFc hP1 hD1 ht hI1
              refine zz_l (v := jI (eCr (nN (mn f)) (cF40 cx f) (cF40 cy f) k px.toInt py.toInt)) (rfl) ?_
              obtain ⟨hPc, hDc, hFc, hI1⟩ := zi_sub (wc := []) hP hD hS hA [] rfl rfl
              refine zcall (st1 := [.int (iI (sg (eCr (nN (mn f)) (cF40 cx f) (cF40 cy f) k px.toInt py.toInt)))]) (va_runS (As := [.long (jI (eCr (nN (mn f)) (cF40 cx f) (cF40 cy f) k px.toInt py.toInt))]) (rest := []) ⟨hx, hb, hml, hown, hts⟩ (k_M_signOf l dC dI cI cZ cF H.size (eCr (nN (mn f)) (cF40 cx f) (cF40 cy f) k px.toInt py.toInt) (hB)) (csS_163 hts rfl rfl ⟨Nat.le_of_ble_eq_true rfl, Nat.le_of_ble_eq_true rfl⟩) (zPS2 hPc hDc hK hXN) rfl rfl hl.1 rfl (lv_room (Nat.le_of_ble_eq_true rfl)) dX11_side_111 ⟨Nat.le_of_ble_eq_true rfl, Nat.le_of_ble_eq_true rfl⟩) hS hFc hFc rfl (fun t H locs ht hB hk1 hS => ?_)
              obtain ⟨hP1, hD1⟩ := hB
              rw [ht] at hP1
              replace hP := z0 hP hD hk1 hP1 hI1
              clear hk1 hPc hDc hFc hP1 hD1 ht hI1
              obtain ⟨hP9, hD9⟩ := zu_sub (wc := [_, _, _, _, _, _, _, _]) hP hD [true, true, true, true, true, true, true, true] rfl rfl
              rw [hQ9]
              exact W.iret (v := iI (sg (eCr (nN (mn f)) (cF40 cx f) (cF40 cy f) k px.toInt py.toInt))) hx hb hr (fun t ht hW => ⟨⟨rfl, S2, by rw [ht]; exact hP9, hD9⟩, hS.F ht⟩) hS.2.2 dX11_side_114
            · have c_8 : ((eO (kd f).toInt (nN (mn f)) : Nat) : Int) ≤ ((k : Nat) : Int) := zc_nlt (nI_toInt b9_7) (nI_toInt b9_9) c_8
              exfalso; omega
  refine lv_iload_n hx hb dX11_side_0 rfl (lv_at hl 1 rfl) ?_
  refine lv_if_lt (tgt := 26) hx hb dX11_side_1 rfl (fun c_10 => ?_) (fun c_10 => ?_)
  · have c_10 : px.toInt < 0 := zc_lt rfl rfl c_10
    refine lv_iconst (v := 0) hx hb dX11_side_26 rfl ?_
    refine zz_i (v := pI (0 ≤ px.toInt ∧ px.toInt ≤ 1000 ∧ 0 ≤ py.toInt ∧ py.toInt ≤ 1000)) (by first | exact (zp_t (by omega)).symm | exact (zp_f (by omega)).symm) ?_
    exact hj_1 
  · have c_10 : 0 ≤ px.toInt := zc_nlt rfl rfl c_10
    refine lv_iload_n hx hb dX11_side_4 rfl (lv_at hl 1 rfl) ?_
    refine lv_sipush (v := 1000) hx hb dX11_side_5 rfl ?_
    refine lv_icmp_gt (tgt := 26) hx hb dX11_side_8 rfl (fun c_11 => ?_) (fun c_11 => ?_)
    · have c_11 : 1000 < px.toInt := zc_lt rfl rfl c_11
      refine lv_iconst (v := 0) hx hb dX11_side_26 rfl ?_
      refine zz_i (v := pI (0 ≤ px.toInt ∧ px.toInt ≤ 1000 ∧ 0 ≤ py.toInt ∧ py.toInt ≤ 1000)) (by first | exact (zp_t (by omega)).symm | exact (zp_f (by omega)).symm) ?_
      exact hj_1 
    · have c_11 : px.toInt ≤ 1000 := zc_nlt rfl rfl c_11
      refine lv_iload_n hx hb dX11_side_11 rfl (lv_at hl 2 rfl) ?_
      refine lv_if_lt (tgt := 26) hx hb dX11_side_12 rfl (fun c_12 => ?_) (fun c_12 => ?_)
      · have c_12 : py.toInt < 0 := zc_lt rfl rfl c_12
        refine lv_iconst (v := 0) hx hb dX11_side_26 rfl ?_
        refine zz_i (v := pI (0 ≤ px.toInt ∧ px.toInt ≤ 1000 ∧ 0 ≤ py.toInt ∧ py.toInt ≤ 1000)) (by first | exact (zp_t (by omega)).symm | exact (zp_f (by omega)).symm) ?_
        exact hj_1 
      · have c_12 : 0 ≤ py.toInt := zc_nlt rfl rfl c_12
        refine lv_iload_n hx hb dX11_side_15 rfl (lv_at hl 2 rfl) ?_
        refine lv_sipush (v := 1000) hx hb dX11_side_16 rfl ?_
        refine lv_icmp_gt (tgt := 26) hx hb dX11_side_19 rfl (fun c_13 => ?_) (fun c_13 => ?_)
        · have c_13 : 1000 < py.toInt := zc_lt rfl rfl c_13
          refine lv_iconst (v := 0) hx hb dX11_side_26 rfl ?_
          refine zz_i (v := pI (0 ≤ px.toInt ∧ px.toInt ≤ 1000 ∧ 0 ≤ py.toInt ∧ py.toInt ≤ 1000)) (by first | exact (zp_t (by omega)).symm | exact (zp_f (by omega)).symm) ?_
          exact hj_1 
        · have c_13 : py.toInt ≤ 1000 := zc_nlt rfl rfl c_13
          refine lv_iconst (v := 1) hx hb dX11_side_22 rfl ?_
          refine lv_goto (tgt := 27) hx hb dX11_side_23 rfl ?_
          refine zz_i (v := pI (0 ≤ px.toInt ∧ px.toInt ≤ 1000 ∧ 0 ≤ py.toInt ∧ py.toInt ≤ 1000)) (by first | exact (zp_t (by omega)).symm | exact (zp_f (by omega)).symm) ?_
          exact hj_1 
set_option maxHeartbeats 4000000 in
set_option maxRecDepth 100000 in
theorem k_M_isRoad (l : Launch) (dC : Nat → ClassId) (dI : Nat → Nat → Nat) (cI cZ cF : ClassId) (sz : Nat) (k0 : Nat) (a : Nat → Nat) (I0 : Nat → Int32) (J0 : Nat → Int64) (f : Nat) (ft : Nat) (st : Nat → Int32) (tn : Nat → Int32) (kd : Nat → Int32) (hft : I0 0 = nI ft) (h200 : ft ≤ 200) (hf_t : f < ft) : zM l yX11_isRoad cX11_isRoad 2 (some .boolean) ({ frames := 2, cells := 0, slots := 0, locals := 42 } : Room) [.ref k0, .int (nI f)] (dC, dI) (zTy cI cZ cF) [(om k0 a I0 J0), (oa (a 5) cI 201 st), (oa (a 6) cZ 201 tn), (oa (a 1) cI 201 kd)] sz (some (.int (pI (lvF ft st tn f ∧ (kd f).toInt = 3)))) (fun A t => zPD (dC, dI) classes A [(om k0 a I0 J0), (oa (a 5) cI 201 st), (oa (a 6) cZ 201 tn), (oa (a 1) cI 201 kd)] t.heap) 0 0 := by
  refine zIn (own := "ScaleShopModel") (loc := [(0, .ref k0), (1, .int (nI f))]) rfl rfl rfl rfl (fun p e s m below meth c hx hb hr hts hown hlocks hml hnm9 A hA hS hP hD hK hXN Q9 hQ9 ls hl => ?_)
  refine lv_aload_n hx hb dX11_isRoad_0 rfl (lv_at hl 0 rfl) ?_
  refine lv_iload_n hx hb dX11_isRoad_1 rfl (lv_at hl 1 rfl) ?_
  obtain ⟨hPc, hDc, hFc, hI1⟩ := zi_sub (wc := [_, _, _]) hP hD hS hA [0, 1, 2] rfl rfl
  refine zcall (st1 := [.int (pI (f < ft ∧ (st f).toInt = 1 ∧ (tn f).toInt = 0))]) (va_runV (As := [.int (nI f)]) (rest := []) ⟨hx, hb, hml, hown, hts⟩ (k_M_is_n l dC dI cI cZ cF s.heap.size k0 a I0 J0 f ft st tn (by first | with_reducible assumption | assumption) (by first | with_reducible assumption | omega) (by first | with_reducible assumption | omega)) (csV_179 hts rfl rfl ⟨Nat.le_of_ble_eq_true rfl, Nat.le_of_ble_eq_true rfl⟩) (zPV2 (q0 := 0) (ci := 9) hPc hDc hK hXN rfl rfl) rfl rfl hl.1 rfl (lv_room (Nat.le_of_ble_eq_true rfl)) dX11_isRoad_2 ⟨Nat.le_of_ble_eq_true rfl, Nat.le_of_ble_eq_true rfl⟩) hS hFc hFc rfl (fun t H locs ht hB hk1 hS => ?_)
  obtain ⟨hP1, hD1⟩ := hB
  rw [ht] at hP1
  replace hP := z0 hP hD hk1 hP1 hI1
  clear hk1 hPc hDc hFc hP1 hD1 ht hI1
  refine lv_if_eq (tgt := 22) hx hb dX11_isRoad_5 rfl (fun c_1 => ?_) (fun c_1 => ?_)
  · have c_1 : ¬ (f < ft ∧ (st f).toInt = 1 ∧ (tn f).toInt = 0) := zp_0 c_1
    refine lv_iconst (v := 0) hx hb dX11_isRoad_22 rfl ?_
    obtain ⟨hP9, hD9⟩ := zu_sub (wc := [_, _, _, _]) hP hD [true, true, true, true] rfl rfl
    rw [hQ9]
    exact W.zret (ty := .boolean) (v := 0) hx hb hr (rfl) (fun t ht hW => ⟨⟨congrArg (fun z => Outcome.returned (some (Value.int z))) (show (0 : Int32) = pI (lvF ft st tn f ∧ (kd f).toInt = 3) from (zp_f (by first | exact ⟨by assumption, by omega⟩ | exact fun h => absurd h.1 (by first | with_reducible assumption | assumption) | exact fun h => absurd h.2 (by omega))).symm), by rw [ht]; exact hP9, hD9⟩, hS.F ht⟩) hS.2.2 dX11_isRoad_23
  · have c_1 : f < ft ∧ (st f).toInt = 1 ∧ (tn f).toInt = 0 := zp_1 c_1
    refine lv_aload_n hx hb dX11_isRoad_8 rfl (lv_at hl 0 rfl) ?_
    refine va_get (D := (dC, dI)) (ci := 9) (v := .ref (a 1)) (C := RX11) (T := TX11) (N := 55) hx hb hts inX11 hown hK hP 0 rfl rfl 1 (Nat.le_of_ble_eq_true rfl) (hts _ mw_1160) (fun _ h9 => h9) rfl dX11_isRoad_9 ?_
    refine lv_iload_n hx hb dX11_isRoad_12 rfl (lv_at hl 1 rfl) ?_
    have b9_2 : f < 201 := by omega
    refine z_iald hx hb hK hP 3 0 rfl rfl (e := f) rfl b9_2 (Nat.le_of_ble_eq_true rfl) dX11_isRoad_13 ?_
    refine lv_iconst (v := 3) hx hb dX11_isRoad_14 rfl ?_
    refine lv_icmp_ne (tgt := 22) hx hb dX11_isRoad_15 rfl (fun c_3 => ?_) (fun c_3 => ?_)
    · have c_3 : ¬ (kd f).toInt = 3 := zc_ne rfl rfl c_3
      refine lv_iconst (v := 0) hx hb dX11_isRoad_22 rfl ?_
      obtain ⟨hP9, hD9⟩ := zu_sub (wc := [_, _, _, _]) hP hD [true, true, true, true] rfl rfl
      rw [hQ9]
      exact W.zret (ty := .boolean) (v := 0) hx hb hr (rfl) (fun t ht hW => ⟨⟨congrArg (fun z => Outcome.returned (some (Value.int z))) (show (0 : Int32) = pI (lvF ft st tn f ∧ (kd f).toInt = 3) from (zp_f (by first | exact ⟨by assumption, by omega⟩ | exact fun h => absurd h.1 (by first | with_reducible assumption | assumption) | exact fun h => absurd h.2 (by omega))).symm), by rw [ht]; exact hP9, hD9⟩, hS.F ht⟩) hS.2.2 dX11_isRoad_23
    · have c_3 : (kd f).toInt = 3 := zc_eq rfl rfl c_3
      refine lv_iconst (v := 1) hx hb dX11_isRoad_18 rfl ?_
      refine lv_goto (tgt := 23) hx hb dX11_isRoad_19 rfl ?_
      obtain ⟨hP9, hD9⟩ := zu_sub (wc := [_, _, _, _]) hP hD [true, true, true, true] rfl rfl
      rw [hQ9]
      exact W.zret (ty := .boolean) (v := 1) hx hb hr (rfl) (fun t ht hW => ⟨⟨congrArg (fun z => Outcome.returned (some (Value.int z))) (show (1 : Int32) = pI (lvF ft st tn f ∧ (kd f).toInt = 3) from (zp_t (by first | exact ⟨by assumption, by omega⟩ | exact fun h => absurd h.1 (by first | with_reducible assumption | assumption) | exact fun h => absurd h.2 (by omega))).symm), by rw [ht]; exact hP9, hD9⟩, hS.F ht⟩) hS.2.2 dX11_isRoad_23
end
section
set_option maxHeartbeats 4000000 in
set_option maxRecDepth 100000 in
theorem k_M_plainFraction (l : Launch) (dC : Nat → ClassId) (dI : Nat → Nat → Nat) (cI cZ cF : ClassId) (sz : Nat) (k0 : Nat) (a : Nat → Nat) (I0 : Nat → Int32) (J0 : Nat → Int64) (un : Nat) (dd : Nat) (hun : un ≤ 4000000000000) (hdd : 1 ≤ dd ∧ dd ≤ 2000000) : zM l yX11_plainFraction cX11_plainFraction 7 none ({ frames := 0, cells := 0, slots := 0, locals := 0 } : Room) [.ref k0] (dC, dI) (zTy cI cZ cF) [(om k0 a I0 (vp_updL (vp_updL J0 48 (jI ((un : Nat) : Int))) 49 (jI ((dd : Nat) : Int))))] sz none (fun A t => zPD (dC, dI) classes A [(om k0 a I0 (vp_updL (vp_updL J0 48 (jI ((un / Nat.gcd un dd : Nat) : Int))) 49 (jI ((dd / Nat.gcd un dd : Nat) : Int))))] t.heap) 0 0 := by
  refine zIn (own := "ScaleShopModel") (loc := [(0, .ref k0)]) rfl rfl rfl rfl (fun p e s m below meth c hx hb hr hts hown hlocks hml hnm9 A hA hS hP hD hK hXN Q9 hQ9 ls hl => ?_)
  refine lv_aload_n hx hb dX11_plainFraction_0 rfl (lv_at hl 0 rfl) ?_
  refine va_get (D := (dC, dI)) (ci := 9) (v := .long (jI ((un : Nat) : Int))) (C := RX11) (T := TX11) (N := 55) hx hb hts inX11 hown hK hP 0 rfl rfl 48 (Nat.le_of_ble_eq_true rfl) (hts _ mw_1207) (fun _ h9 => h9) rfl dX11_plainFraction_1 ?_
  refine lv_lstore_n (lv' := [(1, .long (jI ((un : Nat) : Int))), (0, .ref k0)]) hx hb dX11_plainFraction_4 rfl hl (Nat.le_of_ble_eq_true rfl) rfl (fun ls hl => ?_)
  refine lv_aload_n hx hb dX11_plainFraction_5 rfl (lv_at hl 1 rfl) ?_
  refine va_get (D := (dC, dI)) (ci := 9) (v := .long (jI ((dd : Nat) : Int))) (C := RX11) (T := TX11) (N := 55) hx hb hts inX11 hown hK hP 0 rfl rfl 49 (Nat.le_of_ble_eq_true rfl) (hts _ mw_1208) (fun _ h9 => h9) rfl dX11_plainFraction_6 ?_
  refine lv_lstore_n (lv' := [(3, .long (jI ((dd : Nat) : Int))), (1, .long (jI ((un : Nat) : Int))), (0, .ref k0)]) hx hb dX11_plainFraction_9 rfl hl (Nat.le_of_ble_eq_true rfl) rfl (fun ls hl => ?_)
  have hl_10 : ∀ (n9 : Nat) (aa : Nat) (bb : Nat) (H : Heap) (locs : List Loc) (ls : Array Slot), aa < n9 → (aa ≤ 4000000000000 ∧ bb ≤ 4000000000000) → (Nat.gcd aa bb = Nat.gcd un dd) → va_P (dC, dI) classes [(om k0 a I0 (vp_updL (vp_updL J0 48 (jI ((un : Nat) : Int))) 49 (jI ((dd : Nat) : Int))))] H → va_D A [(om k0 a I0 (vp_updL (vp_updL J0 48 (jI ((un : Nat) : Int))) 49 (jI ((dd : Nat) : Int))))] → va_S A s.heap H locs → lv_has ls 7 [(3, .long (jI ((bb : Nat) : Int))), (1, .long (jI ((aa : Nat) : Int))), (0, .ref k0)] → W p l e ({ frames := 0, cells := 0, slots := 0, locals := 0 } : Room) s m ([.ref k0] : List Value).toArray below meth c H locs 0 0 Q9 (F0 m 10 ls []) := by
    intro n9
    induction n9 with
    | zero => intro aa bb H locs ls hm; exact absurd hm (Nat.not_lt_zero _)
    | succ n9 ih_10 =>
      intro aa bb H locs ls hm hab hgc hP hD hS hl
      refine lv_lload_n hx hb dX11_plainFraction_10 rfl (lv_at hl 1 rfl) ?_
      refine lv_lconst (v := 0) hx hb dX11_plainFraction_11 rfl ?_
      refine W.lcmp hx hb dX11_plainFraction_12 ?_
      refine lv_if_eq (tgt := 29) hx hb dX11_plainFraction_13 rfl (fun c_1 => ?_) (fun c_1 => ?_)
      · have c_1 : ((aa : Nat) : Int) = 0 := zl_eq (jI_toInt (by omega)) rfl c_1
        have hbg : bb = Nat.gcd un dd := (by rw [← hgc, show aa = 0 by omega, Nat.gcd_zero_left])
        have hgp : 0 < bb := (by rw [hbg]; exact Nat.gcd_pos_of_pos_right un (by omega))
        refine lv_aload_n hx hb dX11_plainFraction_29 rfl (lv_at hl 2 rfl) ?_
        refine lv_dup hx hb dX11_plainFraction_30 rfl ?_
        refine va_get (D := (dC, dI)) (ci := 9) (v := .long (jI ((un : Nat) : Int))) (C := RX11) (T := TX11) (N := 55) hx hb hts inX11 hown hK hP 0 rfl rfl 48 (Nat.le_of_ble_eq_true rfl) (hts _ mw_1207) (fun _ h9 => h9) rfl dX11_plainFraction_31 ?_
        refine lv_lload_n hx hb dX11_plainFraction_34 rfl (lv_at hl 0 rfl) ?_
        refine lv_ldiv hx hb dX11_plainFraction_35 (jN_ne hgp (by omega)) ?_
        refine zz_l (v := jI ((un / Nat.gcd un dd : Nat) : Int)) (by rw [jN_div hgp (by omega) (by omega), hbg]) ?_
        refine va_put (D := (dC, dI)) (ci := 9) (v := .long (jI ((un / Nat.gcd un dd : Nat) : Int))) (ty := .long) (C := RX11) (T := TX11) (N := 55) hx hb hts inX11 tyX11 tyX11_ok nmX11 hown hK hP hD hS 0 rfl rfl 48 (by decide) (hts _ mw_1207) (fun _ h9 => h9) rfl (by decide +kernel) rfl rfl (Nat.le_of_ble_eq_true rfl) dX11_plainFraction_36 (fun H locs hP hD hS => ?_)
        obtain ⟨hP, hD⟩ := zre (W2 := [(om k0 a I0 (vp_updL (vp_updL J0 48 (jI ((un / Nat.gcd un dd : Nat) : Int))) 49 (jI ((dd : Nat) : Int))))]) hP hD rfl
        refine lv_aload_n hx hb dX11_plainFraction_39 rfl (lv_at hl 2 rfl) ?_
        refine lv_dup hx hb dX11_plainFraction_40 rfl ?_
        refine va_get (D := (dC, dI)) (ci := 9) (v := .long (jI ((dd : Nat) : Int))) (C := RX11) (T := TX11) (N := 55) hx hb hts inX11 hown hK hP 0 rfl rfl 49 (Nat.le_of_ble_eq_true rfl) (hts _ mw_1208) (fun _ h9 => h9) rfl dX11_plainFraction_41 ?_
        refine lv_lload_n hx hb dX11_plainFraction_44 rfl (lv_at hl 0 rfl) ?_
        refine lv_ldiv hx hb dX11_plainFraction_45 (jN_ne hgp (by omega)) ?_
        refine zz_l (v := jI ((dd / Nat.gcd un dd : Nat) : Int)) (by rw [jN_div hgp (by omega) (by omega), hbg]) ?_
        refine va_put (D := (dC, dI)) (ci := 9) (v := .long (jI ((dd / Nat.gcd un dd : Nat) : Int))) (ty := .long) (C := RX11) (T := TX11) (N := 55) hx hb hts inX11 tyX11 tyX11_ok nmX11 hown hK hP hD hS 0 rfl rfl 49 (by decide) (hts _ mw_1208) (fun _ h9 => h9) rfl (by decide +kernel) rfl rfl (Nat.le_of_ble_eq_true rfl) dX11_plainFraction_46 (fun H locs hP hD hS => ?_)
        obtain ⟨hP, hD⟩ := zre (W2 := [(om k0 a I0 (vp_updL (vp_updL J0 48 (jI ((un / Nat.gcd un dd : Nat) : Int))) 49 (jI ((dd / Nat.gcd un dd : Nat) : Int))))]) hP hD rfl
        obtain ⟨hP9, hD9⟩ := zu_sub (wc := [_]) hP hD [true] rfl rfl
        rw [hQ9]
        exact W.vret hx hb hr (fun t ht hW => ⟨⟨rfl, by rw [ht]; exact hP9, hD9⟩, hS.F ht⟩) hS.2.2 dX11_plainFraction_49
      · have c_1 : ¬ ((aa : Nat) : Int) = 0 := zl_ne (jI_toInt (by omega)) rfl c_1
        refine lv_lload_n hx hb dX11_plainFraction_16 rfl (lv_at hl 0 rfl) ?_
        refine lv_lload_n hx hb dX11_plainFraction_17 rfl (lv_at hl 1 rfl) ?_
        refine lv_lrem hx hb dX11_plainFraction_18 (jN_ne (by omega) hab.1) ?_
        refine zz_l (v := jI ((bb % aa : Nat) : Int)) (jN_rem (by omega) hab.1 hab.2) ?_
        refine lv_lstore (lv' := [(5, .long (jI ((bb % aa : Nat) : Int))), (3, .long (jI ((bb : Nat) : Int))), (1, .long (jI ((aa : Nat) : Int))), (0, .ref k0)]) hx hb dX11_plainFraction_19 hl (Nat.le_of_ble_eq_true rfl) rfl (fun ls hl => ?_)
        refine lv_lload_n hx hb dX11_plainFraction_21 rfl (lv_at hl 2 rfl) ?_
        refine lv_lstore_n (lv' := [(3, .long (jI ((aa : Nat) : Int))), (5, .long (jI ((bb % aa : Nat) : Int))), (1, .long (jI ((aa : Nat) : Int))), (0, .ref k0)]) hx hb dX11_plainFraction_22 rfl hl (Nat.le_of_ble_eq_true rfl) rfl (fun ls hl => ?_)
        refine lv_lload hx hb dX11_plainFraction_23 (lv_at hl 1 rfl) ?_
        refine lv_lstore_n (lv' := [(1, .long (jI ((bb % aa : Nat) : Int))), (3, .long (jI ((aa : Nat) : Int))), (5, .long (jI ((bb % aa : Nat) : Int))), (0, .ref k0)]) hx hb dX11_plainFraction_25 rfl hl (Nat.le_of_ble_eq_true rfl) rfl (fun ls hl => ?_)
        refine lv_goto (tgt := 10) hx hb dX11_plainFraction_26 rfl ?_
        exact ih_10 (bb % aa) aa H locs ls (by have h9 := Nat.mod_lt bb (show 0 < aa by omega); omega) (by have h9 := Nat.mod_lt bb (show 0 < aa by omega); omega) (by rw [← Nat.gcd_rec]; exact hgc) hP hD hS (lv_sub hl [1, 0, 3] rfl)
  exact hl_10 _ un dd s.heap [] ls (Nat.lt_succ_self _) (by first | with_reducible assumption | omega) (rfl) hP hD hS (lv_sub hl [0, 1, 2] rfl)
end
section
set_option maxHeartbeats 4000000 in
set_option maxRecDepth 100000 in
theorem k_M_distance_n (l : Launch) (dC : Nat → ClassId) (dI : Nat → Nat → Nat) (cI cZ cF : ClassId) (sz : Nat) (k0 : Nat) (a : Nat → Nat) (I0 : Nat → Int32) (J0 : Nat → Int64) (f : Nat) (n : Nat) (g : Nat) (m2 : Nat) (kd : Nat → Int32) (mn : Nat → Int32) (cx : Nat → Int32) (cy : Nat → Int32) (S0 : Nat → Int32) (hf_f : f ≤ 200) (hm_f : mn f = nI n) (hn_f : 1 ≤ n ∧ n ≤ 40) (hp_f : pls n (cF40 cx f) (cF40 cy f)) (hf_g : g ≤ 200) (hm_g : mn g = nI m2) (hn_g : 1 ≤ m2 ∧ m2 ≤ 40) (hp_g : pls m2 (cF40 cx g) (cF40 cy g)) (hmt : ¬ mtF (kd f).toInt n (cF40 cx f) (cF40 cy f) (kd g).toInt m2 (cF40 cx g) (cF40 cy g)) (he_f : 1 ≤ eO (kd f).toInt n) (he_g : 1 ≤ eO (kd g).toInt m2) : zM l yX11_distance cX11_distance 5 none ({ frames := 4, cells := 0, slots := 0, locals := 105 } : Room) [.ref k0, .int (nI f), .int (nI g)] (dC, dI) (zTy cI cZ cF) [(om k0 a I0 J0), (oa (a 1) cI 201 kd), (oa (a 11) cI 201 mn), (oa (a 12) cI 8040 cx), (oa (a 13) cI 8040 cy), (oa (a 32) cI 8 S0)] sz none (fun A t => ∃ (un : Nat), ∃ (dd : Nat), ∃ (S1 : Nat → Int32), (IM (dcP n (cF40 cx f) (cF40 cy f) m2 (cF40 cx g) (cF40 cy g) (eO (kd g).toInt m2) (eO (kd f).toInt n) 0) ((un : Nat) : Int) ((dd : Nat) : Int)) ∧ (un ≤ 4000000000000 ∧ 1 ≤ dd ∧ dd ≤ 2000000) ∧ zPD (dC, dI) classes A [(om k0 a I0 (vp_updL (vp_updL J0 48 (jI ((un / Nat.gcd un dd : Nat) : Int))) 49 (jI ((dd / Nat.gcd un dd : Nat) : Int)))), (oa (a 1) cI 201 kd), (oa (a 11) cI 201 mn), (oa (a 12) cI 8040 cx), (oa (a 13) cI 8040 cy), (oa (a 32) cI 8 S1)] t.heap) 0 0 := by
  refine zIn (own := "ScaleShopModel") (loc := [(0, .ref k0), (1, .int (nI f)), (2, .int (nI g))]) rfl rfl rfl rfl (fun p e s m below meth c hx hb hr hts hown hlocks hml hnm9 A hA hS hP hD hK hXN Q9 hQ9 ls hl => ?_)
  have hef := eO_le (k := (kd f).toInt) hn_f.1
  have heg := eO_le (k := (kd g).toInt) hn_g.1
  refine lv_aload_n hx hb dX11_distance_0 rfl (lv_at hl 0 rfl) ?_
  refine lv_lconst (v := 0) hx hb dX11_distance_1 rfl ?_
  refine zz_l (v := jI 0) (jI_0) ?_
  refine va_put (D := (dC, dI)) (ci := 9) (v := .long (jI 0)) (ty := .long) (C := RX11) (T := TX11) (N := 55) hx hb hts inX11 tyX11 tyX11_ok nmX11 hown hK hP hD hS 0 rfl rfl 48 (by decide) (hts _ mw_1207) (fun _ h9 => h9) rfl (by decide +kernel) rfl rfl (Nat.le_of_ble_eq_true rfl) dX11_distance_2 (fun H locs hP hD hS => ?_)
  obtain ⟨hP, hD⟩ := zre (W2 := [(om k0 a I0 (vp_updL J0 48 (jI 0))), _, _, _, _, _]) hP hD rfl
  refine lv_aload_n hx hb dX11_distance_5 rfl (lv_at hl 0 rfl) ?_
  refine lv_lconst (v := 0) hx hb dX11_distance_6 rfl ?_
  refine zz_l (v := jI 0) (jI_0) ?_
  refine va_put (D := (dC, dI)) (ci := 9) (v := .long (jI 0)) (ty := .long) (C := RX11) (T := TX11) (N := 55) hx hb hts inX11 tyX11 tyX11_ok nmX11 hown hK hP hD hS 0 rfl rfl 49 (by decide) (hts _ mw_1208) (fun _ h9 => h9) rfl (by decide +kernel) rfl rfl (Nat.le_of_ble_eq_true rfl) dX11_distance_7 (fun H locs hP hD hS => ?_)
  obtain ⟨hP, hD⟩ := zre (W2 := [(om k0 a I0 (vp_updL (vp_updL J0 48 (jI 0)) 49 (jI 0))), _, _, _, _, _]) hP hD rfl
  refine lv_aload_n hx hb dX11_distance_10 rfl (lv_at hl 0 rfl) ?_
  refine lv_iload_n hx hb dX11_distance_11 rfl (lv_at hl 1 rfl) ?_
  refine lv_iload_n hx hb dX11_distance_12 rfl (lv_at hl 2 rfl) ?_
  obtain ⟨hPc, hDc, hFc⟩ := zo_sub (wc := [_, _, _, _, _, _]) hP hD hS hA [0, 1, 2, 3, 4, 5] (by decide +kernel) rfl
  refine zcall (st1 := [.int (pI (∃ i, i < eO (kd f).toInt n ∧ ∃ j, j < eO (kd g).toInt m2 ∧ eMt n (cF40 cx f) (cF40 cy f) i m2 (cF40 cx g) (cF40 cy g) j))]) (va_runV (As := [.int (nI f), .int (nI g)]) (rest := []) ⟨hx, hb, hml, hown, hts⟩ (k_M_isMet l dC dI cI cZ cF H.size k0 a I0 (vp_updL (vp_updL J0 48 (jI 0)) 49 (jI 0)) f n g m2 kd mn cx cy S0 (by first | with_reducible assumption | omega) (by first | with_reducible assumption | assumption) (by first | with_reducible assumption | omega) (by first | with_reducible assumption | assumption) (by first | with_reducible assumption | omega) (by first | with_reducible assumption | assumption) (by first | with_reducible assumption | omega) (by first | with_reducible assumption | assumption)) (csV_180 hts rfl rfl ⟨Nat.le_of_ble_eq_true rfl, Nat.le_of_ble_eq_true rfl⟩) (zPV2 (q0 := 0) (ci := 9) hPc hDc hK hXN rfl rfl) rfl rfl hl.1 rfl (lv_room (Nat.le_of_ble_eq_true rfl)) dX11_distance_13 ⟨Nat.le_of_ble_eq_true rfl, Nat.le_of_ble_eq_true rfl⟩) hS hFc hFc rfl (fun t H locs ht hB hk1 hS => ?_)
  obtain ⟨q_1, hP1, hD1⟩ := hB
  rw [ht] at hP1
  obtain ⟨hP, hD⟩ := zn (W2 := [_, _, _, _, _, (oa (a 32) cI 8 q_1)]) hP hD hk1 hFc hP1 hD1 [0, 1, 2, 3, 4, 5] [] [false, false, false, false, false, false] [0, 1, 2, 3, 4, 5] (by decide +kernel) rfl rfl rfl rfl rfl
  clear hk1 hPc hDc hFc hP1 hD1 ht
  refine zz_i (v := pI (mtF (kd f).toInt n (cF40 cx f) (cF40 cy f) (kd g).toInt m2 (cF40 cx g) (cF40 cy g))) (rfl) ?_
  refine lv_if_eq (tgt := 25) hx hb dX11_distance_16 rfl (fun c_2 => ?_) (fun c_2 => ?_)
  · have c_2 : ¬ (mtF (kd f).toInt n (cF40 cx f) (cF40 cy f) (kd g).toInt m2 (cF40 cx g) (cF40 cy g)) := zp_0 c_2
    refine lv_iconst (v := 0) hx hb dX11_distance_25 rfl ?_
    refine lv_istore_n (lv' := [(3, .int 0), (0, .ref k0), (1, .int (nI f)), (2, .int (nI g))]) hx hb dX11_distance_26 rfl hl (Nat.le_of_ble_eq_true rfl) rfl (fun ls hl => ?_)
    have hl_27 : ∀ (n9 : Nat) (i : Nat) (S1 : Nat → Int32) (u : Int) (d : Int) (H : Heap) (locs : List Loc) (ls : Array Slot), eO (kd f).toInt n - i < n9 → (i ≤ eO (kd f).toInt n) → (IM (dcP n (cF40 cx f) (cF40 cy f) m2 (cF40 cx g) (cF40 cy g) (eO (kd g).toInt m2) i 0) u d) → ((0 ≤ u ∧ u ≤ 4000000000000) ∧ (0 ≤ d ∧ d ≤ 2000000)) → va_P (dC, dI) classes [(om k0 a I0 (vp_updL (vp_updL J0 48 (jI u)) 49 (jI d))), (oa (a 1) cI 201 kd), (oa (a 11) cI 201 mn), (oa (a 12) cI 8040 cx), (oa (a 13) cI 8040 cy), (oa (a 32) cI 8 S1)] H → va_D A [(om k0 a I0 (vp_updL (vp_updL J0 48 (jI u)) 49 (jI d))), (oa (a 1) cI 201 kd), (oa (a 11) cI 201 mn), (oa (a 12) cI 8040 cx), (oa (a 13) cI 8040 cy), (oa (a 32) cI 8 S1)] → va_S A s.heap H locs → lv_has ls 5 [(3, .int (nI i)), (0, .ref k0), (1, .int (nI f)), (2, .int (nI g))] → W p l e ({ frames := 4, cells := 0, slots := 0, locals := 105 } : Room) s m ([.ref k0, .int (nI f), .int (nI g)] : List Value).toArray below meth c H locs 0 0 Q9 (F0 m 27 ls []) := by
      intro n9
      induction n9 with
      | zero => intro i S1 u d H locs ls hm; exact absurd hm (Nat.not_lt_zero _)
      | succ n9 ih_27 =>
        intro i S1 u d H locs ls hm hi him hud hP hD hS hl
        refine lv_iload_n hx hb dX11_distance_27 rfl (lv_at hl 0 rfl) ?_
        refine lv_aload_n hx hb dX11_distance_28 rfl (lv_at hl 1 rfl) ?_
        refine lv_iload_n hx hb dX11_distance_29 rfl (lv_at hl 2 rfl) ?_
        obtain ⟨hPc, hDc, hFc, hI1⟩ := zi_sub (wc := [_, _, _]) hP hD hS hA [0, 1, 2] rfl rfl
        refine zcall (st1 := [.int (nI (eO (kd f).toInt n)), .int (nI i)]) (va_runV (As := [.int (nI f)]) (rest := [.int (nI i)]) ⟨hx, hb, hml, hown, hts⟩ (k_M_edgesOf l dC dI cI cZ cF H.size k0 a I0 (vp_updL (vp_updL J0 48 (jI u)) 49 (jI d)) f n kd mn (by first | with_reducible assumption | omega) (by first | with_reducible assumption | assumption) (by first | with_reducible assumption | omega)) (csV_166 hts rfl rfl ⟨Nat.le_of_ble_eq_true rfl, Nat.le_of_ble_eq_true rfl⟩) (zPV2 (q0 := 0) (ci := 9) hPc hDc hK hXN rfl rfl) rfl rfl hl.1 rfl (lv_room (Nat.le_of_ble_eq_true rfl)) dX11_distance_30 ⟨Nat.le_of_ble_eq_true rfl, Nat.le_of_ble_eq_true rfl⟩) hS hFc hFc rfl (fun t H locs ht hB hk1 hS => ?_)
        obtain ⟨hP1, hD1⟩ := hB
        rw [ht] at hP1
        replace hP := z0 hP hD hk1 hP1 hI1
        clear hk1 hPc hDc hFc hP1 hD1 ht hI1
        have b9_4 : zlt (i) := show i < 2147483648 by omega
        have b9_5 : zlt ((eO (kd f).toInt n)) := show (eO (kd f).toInt n) < 2147483648 by omega
        refine lv_icmp_ge (tgt := 162) hx hb dX11_distance_33 rfl (fun c_3 => ?_) (fun c_3 => ?_)
        · have c_3 : ((eO (kd f).toInt n : Nat) : Int) ≤ ((i : Nat) : Int) := zc_le (nI_toInt b9_5) (nI_toInt b9_4) c_3
          have hie : i = eO (kd f).toInt n := (by omega)
          rw [hie] at him
          have hd1 := dcP_e him he_f he_g
          obtain ⟨un, hun⟩ : ∃ un : Nat, u = ((un : Nat) : Int) := ⟨u.toNat, by omega⟩
          obtain ⟨dd, hdd⟩ : ∃ dd : Nat, d = ((dd : Nat) : Int) := ⟨d.toNat, by omega⟩
          rw [hun, hdd] at hP hD
          refine lv_aload_n hx hb dX11_distance_162 rfl (lv_at hl 1 rfl) ?_
          obtain ⟨hPc, hDc, hFc⟩ := zo_sub (wc := [_]) hP hD hS hA [0] rfl rfl
          refine zcall (st1 := []) (va_runV (As := []) (rest := []) ⟨hx, hb, hml, hown, hts⟩ (k_M_plainFraction l dC dI cI cZ cF H.size k0 a I0 (vp_updL (vp_updL J0 48 (jI ((un : Nat) : Int))) 49 (jI ((dd : Nat) : Int))) un dd (by first | with_reducible assumption | omega) (by first | with_reducible assumption | omega)) (csV_224 hts rfl rfl ⟨Nat.le_of_ble_eq_true rfl, Nat.le_of_ble_eq_true rfl⟩) (zPV2 (q0 := 0) (ci := 9) hPc hDc hK hXN rfl rfl) rfl rfl hl.1 rfl (lv_room (Nat.le_of_ble_eq_true rfl)) dX11_distance_163 ⟨Nat.le_of_ble_eq_true rfl, Nat.le_of_ble_eq_true rfl⟩) hS hFc hFc rfl (fun t H locs ht hB hk1 hS => ?_)
          obtain ⟨hP1, hD1⟩ := hB
          rw [ht] at hP1
          obtain ⟨hP, hD⟩ := zn (W2 := [(om k0 a I0 (vp_updL (vp_updL J0 48 (jI ((un / Nat.gcd un dd : Nat) : Int))) 49 (jI ((dd / Nat.gcd un dd : Nat) : Int)))), _, _, _, _, _]) hP hD hk1 hFc hP1 hD1 [0] [false, true, true, true, true, true] [false, true, true, true, true, true] [0] (by decide +kernel) rfl rfl rfl rfl rfl
          clear hk1 hPc hDc hFc hP1 hD1 ht
          obtain ⟨hP9, hD9⟩ := zu_sub (wc := [_, _, _, _, _, _]) hP hD [true, true, true, true, true, true] rfl rfl
          rw [hQ9]
          exact W.vret hx hb hr (fun t ht hW => ⟨⟨rfl, un, dd, S1, (by rw [← hun, ← hdd]; exact him), (by omega), by rw [ht]; exact hP9, hD9⟩, hS.F ht⟩) hS.2.2 dX11_distance_166
        · have c_3 : ((i : Nat) : Int) < ((eO (kd f).toInt n : Nat) : Int) := zc_nle (nI_toInt b9_5) (nI_toInt b9_4) c_3
          have hin9 : i < n := (by omega)
          have hnx := nxt_lt (n := n) (i := i) (by omega)
          refine lv_aload_n hx hb dX11_distance_36 rfl (lv_at hl 1 rfl) ?_
          refine lv_iload_n hx hb dX11_distance_37 rfl (lv_at hl 2 rfl) ?_
          refine lv_iload_n hx hb dX11_distance_38 rfl (lv_at hl 0 rfl) ?_
          refine lv_iconst (v := 0) hx hb dX11_distance_39 rfl ?_
          obtain ⟨hPc, hDc, hFc⟩ := zo_sub (wc := [_, _, _, _, _]) hP hD hS hA [0, 2, 3, 4, 5] (by decide +kernel) rfl
          refine zcall (st1 := []) (va_runV (As := [.int (nI f), .int (nI i), .int 0]) (rest := []) ⟨hx, hb, hml, hown, hts⟩ (k_M_edge l dC dI cI cZ cF H.size k0 a I0 (vp_updL (vp_updL J0 48 (jI u)) 49 (jI d)) f n i 0 mn cx cy S1 (by first | with_reducible assumption | omega) (by first | with_reducible assumption | assumption) (by first | with_reducible assumption | omega) (by first | with_reducible assumption | omega) (by first | with_reducible assumption | omega)) (csV_167 hts rfl rfl ⟨Nat.le_of_ble_eq_true rfl, Nat.le_of_ble_eq_true rfl⟩) (zPV2 (q0 := 0) (ci := 9) hPc hDc hK hXN rfl rfl) rfl rfl hl.1 rfl (lv_room (Nat.le_of_ble_eq_true rfl)) dX11_distance_40 ⟨Nat.le_of_ble_eq_true rfl, Nat.le_of_ble_eq_true rfl⟩) hS hFc hFc rfl (fun t H locs ht hB hk1 hS => ?_)
          obtain ⟨S2, t0, t1, t2, t3, tr, hP1, hD1⟩ := hB
          rw [ht] at hP1
          obtain ⟨hP, hD⟩ := zn (W2 := [_, _, _, _, _, (oa (a 32) cI 8 S2)]) hP hD hk1 hFc hP1 hD1 [0, 2, 3, 4, 5] [false, true] [false, true, false, false, false, false] [0, 2, 3, 4, 5] (by decide +kernel) rfl rfl rfl rfl rfl
          clear hk1 hPc hDc hFc hP1 hD1 ht
          refine lv_iconst (v := 0) hx hb dX11_distance_43 rfl ?_
          refine lv_istore (lv' := [(4, .int 0), (3, .int (nI i)), (0, .ref k0), (1, .int (nI f)), (2, .int (nI g))]) hx hb dX11_distance_44 hl (Nat.le_of_ble_eq_true rfl) rfl (fun ls hl => ?_)
          have hl_46 : ∀ (n9 : Nat) (k : Nat) (S2 : Nat → Int32) (u2 : Int) (d2 : Int) (H : Heap) (locs : List Loc) (ls : Array Slot), eO (kd g).toInt m2 - k < n9 → (k ≤ eO (kd g).toInt m2) → (S2 0 = cx (40 * f + i)) → (S2 1 = cy (40 * f + i)) → (S2 2 = cx (40 * f + nxt n i)) → (S2 3 = cy (40 * f + nxt n i)) → (IM (dcP n (cF40 cx f) (cF40 cy f) m2 (cF40 cx g) (cF40 cy g) (eO (kd g).toInt m2) i k) u2 d2) → ((0 ≤ u2 ∧ u2 ≤ 4000000000000) ∧ (0 ≤ d2 ∧ d2 ≤ 2000000)) → va_P (dC, dI) classes [(om k0 a I0 (vp_updL (vp_updL J0 48 (jI u2)) 49 (jI d2))), (oa (a 1) cI 201 kd), (oa (a 11) cI 201 mn), (oa (a 12) cI 8040 cx), (oa (a 13) cI 8040 cy), (oa (a 32) cI 8 S2)] H → va_D A [(om k0 a I0 (vp_updL (vp_updL J0 48 (jI u2)) 49 (jI d2))), (oa (a 1) cI 201 kd), (oa (a 11) cI 201 mn), (oa (a 12) cI 8040 cx), (oa (a 13) cI 8040 cy), (oa (a 32) cI 8 S2)] → va_S A s.heap H locs → lv_has ls 5 [(4, .int (nI k)), (3, .int (nI i)), (0, .ref k0), (1, .int (nI f)), (2, .int (nI g))] → W p l e ({ frames := 4, cells := 0, slots := 0, locals := 105 } : Room) s m ([.ref k0, .int (nI f), .int (nI g)] : List Value).toArray below meth c H locs 0 0 Q9 (F0 m 46 ls []) := by
            intro n9
            induction n9 with
            | zero => intro k S2 u2 d2 H locs ls hm; exact absurd hm (Nat.not_lt_zero _)
            | succ n9 ih_46 =>
              intro k S2 u2 d2 H locs ls hm hk g0 g1 g2 g3 him2 hud2 hP hD hS hl
              refine lv_iload hx hb dX11_distance_46 (lv_at hl 0 rfl) ?_
              refine lv_aload_n hx hb dX11_distance_48 rfl (lv_at hl 2 rfl) ?_
              refine lv_iload_n hx hb dX11_distance_49 rfl (lv_at hl 4 rfl) ?_
              obtain ⟨hPc, hDc, hFc, hI1⟩ := zi_sub (wc := [_, _, _]) hP hD hS hA [0, 1, 2] rfl rfl
              refine zcall (st1 := [.int (nI (eO (kd g).toInt m2)), .int (nI k)]) (va_runV (As := [.int (nI g)]) (rest := [.int (nI k)]) ⟨hx, hb, hml, hown, hts⟩ (k_M_edgesOf l dC dI cI cZ cF H.size k0 a I0 (vp_updL (vp_updL J0 48 (jI u2)) 49 (jI d2)) g m2 kd mn (by first | with_reducible assumption | omega) (by first | with_reducible assumption | assumption) (by first | with_reducible assumption | omega)) (csV_166 hts rfl rfl ⟨Nat.le_of_ble_eq_true rfl, Nat.le_of_ble_eq_true rfl⟩) (zPV2 (q0 := 0) (ci := 9) hPc hDc hK hXN rfl rfl) rfl rfl hl.1 rfl (lv_room (Nat.le_of_ble_eq_true rfl)) dX11_distance_50 ⟨Nat.le_of_ble_eq_true rfl, Nat.le_of_ble_eq_true rfl⟩) hS hFc hFc rfl (fun t H locs ht hB hk1 hS => ?_)
              obtain ⟨hP1, hD1⟩ := hB
              rw [ht] at hP1
              replace hP := z0 hP hD hk1 hP1 hI1
              clear hk1 hPc hDc hFc hP1 hD1 ht hI1
              have b9_7 : zlt (k) := show k < 2147483648 by omega
              have b9_8 : zlt ((eO (kd g).toInt m2)) := show (eO (kd g).toInt m2) < 2147483648 by omega
              refine lv_icmp_ge (tgt := 156) hx hb dX11_distance_53 rfl (fun c_6 => ?_) (fun c_6 => ?_)
              · have c_6 : ((eO (kd g).toInt m2 : Nat) : Int) ≤ ((k : Nat) : Int) := zc_le (nI_toInt b9_8) (nI_toInt b9_7) c_6
                refine lv_iinc (v := nI (i + 1)) (lv' := [(3, .int (nI (i + 1))), (4, .int (nI k)), (0, .ref k0), (1, .int (nI f)), (2, .int (nI g))]) hx hb dX11_distance_156 hl (k := 1) rfl (nI_add i 1) (Nat.le_of_ble_eq_true rfl) rfl (fun ls hl => ?_)
                refine lv_goto (tgt := 27) hx hb dX11_distance_159 rfl ?_
                exact ih_27 (i + 1) S2 u2 d2 H locs ls (by first | with_reducible assumption | omega) (by first | with_reducible assumption | omega) (dcP_n (by rw [show k = eO (kd g).toInt m2 by omega] at him2; exact him2)) (hud2) hP hD hS (lv_sub hl [0, 2, 3, 4] rfl)
              · have c_6 : ((k : Nat) : Int) < ((eO (kd g).toInt m2 : Nat) : Int) := zc_nle (nI_toInt b9_8) (nI_toInt b9_7) c_6
                have hjm : k < m2 := (by omega)
                have hnj := nxt_lt (n := m2) (i := k) (by omega)
                refine lv_aload_n hx hb dX11_distance_56 rfl (lv_at hl 2 rfl) ?_
                refine lv_iload_n hx hb dX11_distance_57 rfl (lv_at hl 4 rfl) ?_
                refine lv_iload hx hb dX11_distance_58 (lv_at hl 0 rfl) ?_
                refine lv_iconst (v := 4) hx hb dX11_distance_60 rfl ?_
                obtain ⟨hPc, hDc, hFc⟩ := zo_sub (wc := [_, _, _, _, _]) hP hD hS hA [0, 2, 3, 4, 5] (by decide +kernel) rfl
                refine zcall (st1 := []) (va_runV (As := [.int (nI g), .int (nI k), .int 4]) (rest := []) ⟨hx, hb, hml, hown, hts⟩ (k_M_edge l dC dI cI cZ cF H.size k0 a I0 (vp_updL (vp_updL J0 48 (jI u2)) 49 (jI d2)) g m2 k 4 mn cx cy S2 (by first | with_reducible assumption | omega) (by first | with_reducible assumption | assumption) (by first | with_reducible assumption | omega) (by first | with_reducible assumption | omega) (by first | with_reducible assumption | omega)) (csV_167 hts rfl rfl ⟨Nat.le_of_ble_eq_true rfl, Nat.le_of_ble_eq_true rfl⟩) (zPV2 (q0 := 0) (ci := 9) hPc hDc hK hXN rfl rfl) rfl rfl hl.1 rfl (lv_room (Nat.le_of_ble_eq_true rfl)) dX11_distance_61 ⟨Nat.le_of_ble_eq_true rfl, Nat.le_of_ble_eq_true rfl⟩) hS hFc hFc rfl (fun t H locs ht hB hk1 hS => ?_)
                obtain ⟨S3, w0, w1, w2, w3, ur, hP1, hD1⟩ := hB
                rw [ht] at hP1
                obtain ⟨hP, hD⟩ := zn (W2 := [_, _, _, _, _, (oa (a 32) cI 8 S3)]) hP hD hk1 hFc hP1 hD1 [0, 2, 3, 4, 5] [false, true] [false, true, false, false, false, false] [0, 2, 3, 4, 5] (by decide +kernel) rfl rfl rfl rfl rfl
                clear hk1 hPc hDc hFc hP1 hD1 ht
                have v0 : S3 0 = cF40 cx f i := (ur 0 (by omega)).trans g0
                have v1 : S3 1 = cF40 cy f i := (ur 1 (by omega)).trans g1
                have v2 : S3 2 = cF40 cx f (nxt n i) := (ur 2 (by omega)).trans g2
                have v3 : S3 3 = cF40 cy f (nxt n i) := (ur 3 (by omega)).trans g3
                have v4 : S3 4 = cF40 cx g k := w0
                have v5 : S3 5 = cF40 cy g k := w1
                have v6 : S3 6 = cF40 cx g (nxt m2 k) := w2
                have v7 : S3 7 = cF40 cy g (nxt m2 k) := w3
                have hs3 := sPl (S := S3) (by rw [v0]; exact (hp_f i hin9).1) (by rw [v1]; exact (hp_f i hin9).2) (by rw [v2]; exact (hp_f _ hnx).1) (by rw [v3]; exact (hp_f _ hnx).2) (by rw [v4]; exact (hp_g k hjm).1) (by rw [v5]; exact (hp_g k hjm).2) (by rw [v6]; exact (hp_g _ hnj).1) (by rw [v7]; exact (hp_g _ hnj).2)
                refine lv_aload_n hx hb dX11_distance_64 rfl (lv_at hl 2 rfl) ?_
                refine lv_aload_n hx hb dX11_distance_65 rfl (lv_at hl 2 rfl) ?_
                refine va_get (D := (dC, dI)) (ci := 9) (v := .ref (a 32)) (C := RX11) (T := TX11) (N := 55) hx hb hts inX11 hown hK hP 0 rfl rfl 32 (Nat.le_of_ble_eq_true rfl) (hts _ mw_1191) (fun _ h9 => h9) rfl dX11_distance_66 ?_
                refine lv_aload_n hx hb dX11_distance_69 rfl (lv_at hl 2 rfl) ?_
                refine va_get (D := (dC, dI)) (ci := 9) (v := .ref (a 32)) (C := RX11) (T := TX11) (N := 55) hx hb hts inX11 hown hK hP 0 rfl rfl 32 (Nat.le_of_ble_eq_true rfl) (hts _ mw_1191) (fun _ h9 => h9) rfl dX11_distance_70 ?_
                refine lv_iconst (v := 4) hx hb dX11_distance_73 rfl ?_
                refine z_iald hx hb hK hP 5 0 rfl rfl (e := 4) rfl (Nat.le_of_ble_eq_true rfl) (Nat.le_of_ble_eq_true rfl) dX11_distance_74 ?_
                refine zz_i (v := cF40 cx g k) (v4) ?_
                refine lv_aload_n hx hb dX11_distance_75 rfl (lv_at hl 2 rfl) ?_
                refine va_get (D := (dC, dI)) (ci := 9) (v := .ref (a 32)) (C := RX11) (T := TX11) (N := 55) hx hb hts inX11 hown hK hP 0 rfl rfl 32 (Nat.le_of_ble_eq_true rfl) (hts _ mw_1191) (fun _ h9 => h9) rfl dX11_distance_76 ?_
                refine lv_iconst (v := 5) hx hb dX11_distance_79 rfl ?_
                refine z_iald hx hb hK hP 5 0 rfl rfl (e := 5) rfl (Nat.le_of_ble_eq_true rfl) (Nat.le_of_ble_eq_true rfl) dX11_distance_80 ?_
                refine zz_i (v := cF40 cy g k) (v5) ?_
                refine lv_iconst (v := 0) hx hb dX11_distance_81 rfl ?_
                obtain ⟨hPc, hDc, hFc⟩ := zo_sub (wc := [_, _]) hP hD hS hA [0, 5] rfl rfl
                refine zcall (st1 := []) (va_runV (As := [.ref (a 32), .int (cF40 cx g k), .int (cF40 cy g k), .int 0]) (rest := []) ⟨hx, hb, hml, hown, hts⟩ (k_M_nearer l dC dI cI cZ cF H.size k0 a I0 (vp_updL (vp_updL J0 48 (jI u2)) 49 (jI d2)) 0 (cF40 cx g k) (cF40 cy g k) u2 d2 S3 (by first | with_reducible assumption | omega) (hs3) ((hp_g k hjm).1) ((hp_g k hjm).2) (hud2.1) (hud2.2)) (csV_225 hts rfl rfl ⟨Nat.le_of_ble_eq_true rfl, Nat.le_of_ble_eq_true rfl⟩) (zPV2 (q0 := 0) (ci := 9) hPc hDc hK hXN rfl rfl) rfl rfl hl.1 rfl (lv_room (Nat.le_of_ble_eq_true rfl)) dX11_distance_82 ⟨Nat.le_of_ble_eq_true rfl, Nat.le_of_ble_eq_true rfl⟩) hS hFc hFc rfl (fun t H locs ht hB hk1 hS => ?_)
                obtain ⟨zu1, zd1, hnd1, hP1, hD1⟩ := hB
                rw [ht] at hP1
                obtain ⟨hP, hD⟩ := zn (W2 := [(om k0 a I0 (vp_updL (vp_updL J0 48 (jI zu1)) 49 (jI zd1))), _, _, _, _, _]) hP hD hk1 hFc hP1 hD1 [0, 5] [false, true, true, true, true] [false, true, true, true, true, false] [0, 5] (by decide +kernel) rfl rfl rfl rfl rfl
                clear hk1 hPc hDc hFc hP1 hD1 ht
                have hx1 : ndP u2 d2 (nrU (S3 0).toInt (S3 1).toInt (S3 2).toInt (S3 3).toInt (cF40 cx g k).toInt (cF40 cy g k).toInt) (nrD (S3 0).toInt (S3 1).toInt (S3 2).toInt (S3 3).toInt (cF40 cx g k).toInt (cF40 cy g k).toInt) zu1 zd1 := hnd1
                rw [v0, v1, v2, v3] at hx1
                have hb1_9 := ndP_b hud2.1 hud2.2 (nrU_b (hp_f i hin9).1 (hp_f i hin9).2 (hp_f _ hnx).1 (hp_f _ hnx).2 (hp_g k hjm).1 (hp_g k hjm).2) hx1
                refine lv_aload_n hx hb dX11_distance_85 rfl (lv_at hl 2 rfl) ?_
                refine lv_aload_n hx hb dX11_distance_86 rfl (lv_at hl 2 rfl) ?_
                refine va_get (D := (dC, dI)) (ci := 9) (v := .ref (a 32)) (C := RX11) (T := TX11) (N := 55) hx hb hts inX11 hown hK hP 0 rfl rfl 32 (Nat.le_of_ble_eq_true rfl) (hts _ mw_1191) (fun _ h9 => h9) rfl dX11_distance_87 ?_
                refine lv_aload_n hx hb dX11_distance_90 rfl (lv_at hl 2 rfl) ?_
                refine va_get (D := (dC, dI)) (ci := 9) (v := .ref (a 32)) (C := RX11) (T := TX11) (N := 55) hx hb hts inX11 hown hK hP 0 rfl rfl 32 (Nat.le_of_ble_eq_true rfl) (hts _ mw_1191) (fun _ h9 => h9) rfl dX11_distance_91 ?_
                refine lv_bipush (v := 6) hx hb dX11_distance_94 rfl ?_
                refine z_iald hx hb hK hP 5 0 rfl rfl (e := 6) rfl (Nat.le_of_ble_eq_true rfl) (Nat.le_of_ble_eq_true rfl) dX11_distance_96 ?_
                refine zz_i (v := cF40 cx g (nxt m2 k)) (v6) ?_
                refine lv_aload_n hx hb dX11_distance_97 rfl (lv_at hl 2 rfl) ?_
                refine va_get (D := (dC, dI)) (ci := 9) (v := .ref (a 32)) (C := RX11) (T := TX11) (N := 55) hx hb hts inX11 hown hK hP 0 rfl rfl 32 (Nat.le_of_ble_eq_true rfl) (hts _ mw_1191) (fun _ h9 => h9) rfl dX11_distance_98 ?_
                refine lv_bipush (v := 7) hx hb dX11_distance_101 rfl ?_
                refine z_iald hx hb hK hP 5 0 rfl rfl (e := 7) rfl (Nat.le_of_ble_eq_true rfl) (Nat.le_of_ble_eq_true rfl) dX11_distance_103 ?_
                refine zz_i (v := cF40 cy g (nxt m2 k)) (v7) ?_
                refine lv_iconst (v := 0) hx hb dX11_distance_104 rfl ?_
                obtain ⟨hPc, hDc, hFc⟩ := zo_sub (wc := [_, _]) hP hD hS hA [0, 5] rfl rfl
                refine zcall (st1 := []) (va_runV (As := [.ref (a 32), .int (cF40 cx g (nxt m2 k)), .int (cF40 cy g (nxt m2 k)), .int 0]) (rest := []) ⟨hx, hb, hml, hown, hts⟩ (k_M_nearer l dC dI cI cZ cF H.size k0 a I0 (vp_updL (vp_updL J0 48 (jI zu1)) 49 (jI zd1)) 0 (cF40 cx g (nxt m2 k)) (cF40 cy g (nxt m2 k)) zu1 zd1 S3 (by first | with_reducible assumption | omega) (hs3) ((hp_g _ hnj).1) ((hp_g _ hnj).2) (hb1_9.1) (hb1_9.2)) (csV_225 hts rfl rfl ⟨Nat.le_of_ble_eq_true rfl, Nat.le_of_ble_eq_true rfl⟩) (zPV2 (q0 := 0) (ci := 9) hPc hDc hK hXN rfl rfl) rfl rfl hl.1 rfl (lv_room (Nat.le_of_ble_eq_true rfl)) dX11_distance_105 ⟨Nat.le_of_ble_eq_true rfl, Nat.le_of_ble_eq_true rfl⟩) hS hFc hFc rfl (fun t H locs ht hB hk1 hS => ?_)
                obtain ⟨zu2, zd2, hnd2, hP1, hD1⟩ := hB
                rw [ht] at hP1
                obtain ⟨hP, hD⟩ := zn (W2 := [(om k0 a I0 (vp_updL (vp_updL J0 48 (jI zu2)) 49 (jI zd2))), _, _, _, _, _]) hP hD hk1 hFc hP1 hD1 [0, 5] [false, true, true, true, true] [false, true, true, true, true, false] [0, 5] (by decide +kernel) rfl rfl rfl rfl rfl
                clear hk1 hPc hDc hFc hP1 hD1 ht
                have hx2 : ndP zu1 zd1 (nrU (S3 0).toInt (S3 1).toInt (S3 2).toInt (S3 3).toInt (cF40 cx g (nxt m2 k)).toInt (cF40 cy g (nxt m2 k)).toInt) (nrD (S3 0).toInt (S3 1).toInt (S3 2).toInt (S3 3).toInt (cF40 cx g (nxt m2 k)).toInt (cF40 cy g (nxt m2 k)).toInt) zu2 zd2 := hnd2
                rw [v0, v1, v2, v3] at hx2
                have hb2_9 := ndP_b hb1_9.1 hb1_9.2 (nrU_b (hp_f i hin9).1 (hp_f i hin9).2 (hp_f _ hnx).1 (hp_f _ hnx).2 (hp_g _ hnj).1 (hp_g _ hnj).2) hx2
                refine lv_aload_n hx hb dX11_distance_108 rfl (lv_at hl 2 rfl) ?_
                refine lv_aload_n hx hb dX11_distance_109 rfl (lv_at hl 2 rfl) ?_
                refine va_get (D := (dC, dI)) (ci := 9) (v := .ref (a 32)) (C := RX11) (T := TX11) (N := 55) hx hb hts inX11 hown hK hP 0 rfl rfl 32 (Nat.le_of_ble_eq_true rfl) (hts _ mw_1191) (fun _ h9 => h9) rfl dX11_distance_110 ?_
                refine lv_aload_n hx hb dX11_distance_113 rfl (lv_at hl 2 rfl) ?_
                refine va_get (D := (dC, dI)) (ci := 9) (v := .ref (a 32)) (C := RX11) (T := TX11) (N := 55) hx hb hts inX11 hown hK hP 0 rfl rfl 32 (Nat.le_of_ble_eq_true rfl) (hts _ mw_1191) (fun _ h9 => h9) rfl dX11_distance_114 ?_
                refine lv_iconst (v := 0) hx hb dX11_distance_117 rfl ?_
                refine z_iald hx hb hK hP 5 0 rfl rfl (e := 0) rfl (Nat.le_of_ble_eq_true rfl) (Nat.le_of_ble_eq_true rfl) dX11_distance_118 ?_
                refine zz_i (v := cF40 cx f i) (v0) ?_
                refine lv_aload_n hx hb dX11_distance_119 rfl (lv_at hl 2 rfl) ?_
                refine va_get (D := (dC, dI)) (ci := 9) (v := .ref (a 32)) (C := RX11) (T := TX11) (N := 55) hx hb hts inX11 hown hK hP 0 rfl rfl 32 (Nat.le_of_ble_eq_true rfl) (hts _ mw_1191) (fun _ h9 => h9) rfl dX11_distance_120 ?_
                refine lv_iconst (v := 1) hx hb dX11_distance_123 rfl ?_
                refine z_iald hx hb hK hP 5 0 rfl rfl (e := 1) rfl (Nat.le_of_ble_eq_true rfl) (Nat.le_of_ble_eq_true rfl) dX11_distance_124 ?_
                refine zz_i (v := cF40 cy f i) (v1) ?_
                refine lv_iconst (v := 4) hx hb dX11_distance_125 rfl ?_
                obtain ⟨hPc, hDc, hFc⟩ := zo_sub (wc := [_, _]) hP hD hS hA [0, 5] rfl rfl
                refine zcall (st1 := []) (va_runV (As := [.ref (a 32), .int (cF40 cx f i), .int (cF40 cy f i), .int 4]) (rest := []) ⟨hx, hb, hml, hown, hts⟩ (k_M_nearer l dC dI cI cZ cF H.size k0 a I0 (vp_updL (vp_updL J0 48 (jI zu2)) 49 (jI zd2)) 4 (cF40 cx f i) (cF40 cy f i) zu2 zd2 S3 (by first | with_reducible assumption | omega) (hs3) ((hp_f i hin9).1) ((hp_f i hin9).2) (hb2_9.1) (hb2_9.2)) (csV_225 hts rfl rfl ⟨Nat.le_of_ble_eq_true rfl, Nat.le_of_ble_eq_true rfl⟩) (zPV2 (q0 := 0) (ci := 9) hPc hDc hK hXN rfl rfl) rfl rfl hl.1 rfl (lv_room (Nat.le_of_ble_eq_true rfl)) dX11_distance_126 ⟨Nat.le_of_ble_eq_true rfl, Nat.le_of_ble_eq_true rfl⟩) hS hFc hFc rfl (fun t H locs ht hB hk1 hS => ?_)
                obtain ⟨zu3, zd3, hnd3, hP1, hD1⟩ := hB
                rw [ht] at hP1
                obtain ⟨hP, hD⟩ := zn (W2 := [(om k0 a I0 (vp_updL (vp_updL J0 48 (jI zu3)) 49 (jI zd3))), _, _, _, _, _]) hP hD hk1 hFc hP1 hD1 [0, 5] [false, true, true, true, true] [false, true, true, true, true, false] [0, 5] (by decide +kernel) rfl rfl rfl rfl rfl
                clear hk1 hPc hDc hFc hP1 hD1 ht
                have hx3 : ndP zu2 zd2 (nrU (S3 4).toInt (S3 5).toInt (S3 6).toInt (S3 7).toInt (cF40 cx f i).toInt (cF40 cy f i).toInt) (nrD (S3 4).toInt (S3 5).toInt (S3 6).toInt (S3 7).toInt (cF40 cx f i).toInt (cF40 cy f i).toInt) zu3 zd3 := hnd3
                rw [v4, v5, v6, v7] at hx3
                have hb3_9 := ndP_b hb2_9.1 hb2_9.2 (nrU_b (hp_g k hjm).1 (hp_g k hjm).2 (hp_g _ hnj).1 (hp_g _ hnj).2 (hp_f i hin9).1 (hp_f i hin9).2) hx3
                refine lv_aload_n hx hb dX11_distance_129 rfl (lv_at hl 2 rfl) ?_
                refine lv_aload_n hx hb dX11_distance_130 rfl (lv_at hl 2 rfl) ?_
                refine va_get (D := (dC, dI)) (ci := 9) (v := .ref (a 32)) (C := RX11) (T := TX11) (N := 55) hx hb hts inX11 hown hK hP 0 rfl rfl 32 (Nat.le_of_ble_eq_true rfl) (hts _ mw_1191) (fun _ h9 => h9) rfl dX11_distance_131 ?_
                refine lv_aload_n hx hb dX11_distance_134 rfl (lv_at hl 2 rfl) ?_
                refine va_get (D := (dC, dI)) (ci := 9) (v := .ref (a 32)) (C := RX11) (T := TX11) (N := 55) hx hb hts inX11 hown hK hP 0 rfl rfl 32 (Nat.le_of_ble_eq_true rfl) (hts _ mw_1191) (fun _ h9 => h9) rfl dX11_distance_135 ?_
                refine lv_iconst (v := 2) hx hb dX11_distance_138 rfl ?_
                refine z_iald hx hb hK hP 5 0 rfl rfl (e := 2) rfl (Nat.le_of_ble_eq_true rfl) (Nat.le_of_ble_eq_true rfl) dX11_distance_139 ?_
                refine zz_i (v := cF40 cx f (nxt n i)) (v2) ?_
                refine lv_aload_n hx hb dX11_distance_140 rfl (lv_at hl 2 rfl) ?_
                refine va_get (D := (dC, dI)) (ci := 9) (v := .ref (a 32)) (C := RX11) (T := TX11) (N := 55) hx hb hts inX11 hown hK hP 0 rfl rfl 32 (Nat.le_of_ble_eq_true rfl) (hts _ mw_1191) (fun _ h9 => h9) rfl dX11_distance_141 ?_
                refine lv_iconst (v := 3) hx hb dX11_distance_144 rfl ?_
                refine z_iald hx hb hK hP 5 0 rfl rfl (e := 3) rfl (Nat.le_of_ble_eq_true rfl) (Nat.le_of_ble_eq_true rfl) dX11_distance_145 ?_
                refine zz_i (v := cF40 cy f (nxt n i)) (v3) ?_
                refine lv_iconst (v := 4) hx hb dX11_distance_146 rfl ?_
                obtain ⟨hPc, hDc, hFc⟩ := zo_sub (wc := [_, _]) hP hD hS hA [0, 5] rfl rfl
                refine zcall (st1 := []) (va_runV (As := [.ref (a 32), .int (cF40 cx f (nxt n i)), .int (cF40 cy f (nxt n i)), .int 4]) (rest := []) ⟨hx, hb, hml, hown, hts⟩ (k_M_nearer l dC dI cI cZ cF H.size k0 a I0 (vp_updL (vp_updL J0 48 (jI zu3)) 49 (jI zd3)) 4 (cF40 cx f (nxt n i)) (cF40 cy f (nxt n i)) zu3 zd3 S3 (by first | with_reducible assumption | omega) (hs3) ((hp_f _ hnx).1) ((hp_f _ hnx).2) (hb3_9.1) (hb3_9.2)) (csV_225 hts rfl rfl ⟨Nat.le_of_ble_eq_true rfl, Nat.le_of_ble_eq_true rfl⟩) (zPV2 (q0 := 0) (ci := 9) hPc hDc hK hXN rfl rfl) rfl rfl hl.1 rfl (lv_room (Nat.le_of_ble_eq_true rfl)) dX11_distance_147 ⟨Nat.le_of_ble_eq_true rfl, Nat.le_of_ble_eq_true rfl⟩) hS hFc hFc rfl (fun t H locs ht hB hk1 hS => ?_)
                obtain ⟨zu4, zd4, hnd4, hP1, hD1⟩ := hB
                rw [ht] at hP1
                obtain ⟨hP, hD⟩ := zn (W2 := [(om k0 a I0 (vp_updL (vp_updL J0 48 (jI zu4)) 49 (jI zd4))), _, _, _, _, _]) hP hD hk1 hFc hP1 hD1 [0, 5] [false, true, true, true, true] [false, true, true, true, true, false] [0, 5] (by decide +kernel) rfl rfl rfl rfl rfl
                clear hk1 hPc hDc hFc hP1 hD1 ht
                have hx4 : ndP zu3 zd3 (nrU (S3 4).toInt (S3 5).toInt (S3 6).toInt (S3 7).toInt (cF40 cx f (nxt n i)).toInt (cF40 cy f (nxt n i)).toInt) (nrD (S3 4).toInt (S3 5).toInt (S3 6).toInt (S3 7).toInt (cF40 cx f (nxt n i)).toInt (cF40 cy f (nxt n i)).toInt) zu4 zd4 := hnd4
                rw [v4, v5, v6, v7] at hx4
                have hb4_9 := ndP_b hb3_9.1 hb3_9.2 (nrU_b (hp_g k hjm).1 (hp_g k hjm).2 (hp_g _ hnj).1 (hp_g _ hnj).2 (hp_f _ hnx).1 (hp_f _ hnx).2) hx4
                refine lv_iinc (v := nI (k + 1)) (lv' := [(4, .int (nI (k + 1))), (3, .int (nI i)), (0, .ref k0), (1, .int (nI f)), (2, .int (nI g))]) hx hb dX11_distance_150 hl (k := 0) rfl (nI_add k 1) (Nat.le_of_ble_eq_true rfl) rfl (fun ls hl => ?_)
                refine lv_goto (tgt := 46) hx hb dX11_distance_153 rfl ?_
                exact ih_46 (k + 1) S3 zu4 zd4 H locs ls (by first | with_reducible assumption | omega) (by first | with_reducible assumption | omega) (by rw [ur _ (by first | with_reducible assumption | omega)]; exact g0) (by rw [ur _ (by first | with_reducible assumption | omega)]; exact g1) (by rw [ur _ (by first | with_reducible assumption | omega)]; exact g2) (by rw [ur _ (by first | with_reducible assumption | omega)]; exact g3) (dcP_s hp_f hp_g hin9 hjm heg him2 hx1 hx2 hx3 hx4) (hb4_9) hP hD hS (lv_sub hl [0, 1, 2, 3, 4] rfl)
          exact hl_46 _ 0 S2 u d H locs ls (Nat.lt_succ_self _) (by first | with_reducible assumption | omega) (by first | with_reducible assumption | assumption) (by first | with_reducible assumption | assumption) (by first | with_reducible assumption | assumption) (by first | with_reducible assumption | assumption) (him) (hud) hP hD hS (lv_sub hl [0, 1, 2, 3, 4] rfl)
    exact hl_27 _ 0 q_1 0 0 H locs ls (Nat.lt_succ_self _) (by first | with_reducible assumption | omega) (dcP_0 _ _ _ _ _ _ _) (by first | with_reducible assumption | omega) hP hD hS (lv_sub hl [0, 1, 2, 3] rfl)
  · have c_2 : mtF (kd f).toInt n (cF40 cx f) (cF40 cy f) (kd g).toInt m2 (cF40 cx g) (cF40 cy g) := zp_1 c_2
    exfalso; exact absurd (by first | with_reducible assumption | assumption) hmt
end
section
set_option maxHeartbeats 4000000 in
set_option maxRecDepth 100000 in
theorem k_M_weight (l : Launch) (dC : Nat → ClassId) (dI : Nat → Nat → Nat) (cI cZ cF : ClassId) (sz : Nat) (k0 : Nat) (a : Nat → Nat) (I0 : Nat → Int32) (J0 : Nat → Int64) (f : Nat) (n : Nat) (rk : Nat → Int32) (mn : Nat → Int32) (cx : Nat → Int32) (cy : Nat → Int32) (S0 : Nat → Int32) (hf_f : f ≤ 200) (hm_f : mn f = nI n) (hn_f : 1 ≤ n ∧ n ≤ 40) (hp_f : pls n (cF40 cx f) (cF40 cy f)) (hrk : 0 ≤ (rk f).toInt ∧ (rk f).toInt ≤ 9) : zM l yX11_weight cX11_weight 2 (some .long) ({ frames := 2, cells := 0, slots := 0, locals := 49 } : Room) [.ref k0, .int (nI f)] (dC, dI) (zTy cI cZ cF) [(om k0 a I0 J0), (oa (a 2) cI 201 rk), (oa (a 11) cI 201 mn), (oa (a 12) cI 8040 cx), (oa (a 13) cI 8040 cy), (oa (a 32) cI 8 S0)] sz (some (.long (jI (((rk f).toInt + 1) * ((ln2 (cF40 cx f) (cF40 cy f) (n - 1) : Nat) : Int))))) (fun A t => ∃ (S1 : Nat → Int32), zPD (dC, dI) classes A [(om k0 a I0 J0), (oa (a 2) cI 201 rk), (oa (a 11) cI 201 mn), (oa (a 12) cI 8040 cx), (oa (a 13) cI 8040 cy), (oa (a 32) cI 8 S1)] t.heap) 0 0 := by
  refine zIn (own := "ScaleShopModel") (loc := [(0, .ref k0), (1, .int (nI f))]) rfl rfl rfl rfl (fun p e s m below meth c hx hb hr hts hown hlocks hml hnm9 A hA hS hP hD hK hXN Q9 hQ9 ls hl => ?_)
  refine lv_aload_n hx hb dX11_weight_0 rfl (lv_at hl 0 rfl) ?_
  refine va_get (D := (dC, dI)) (ci := 9) (v := .ref (a 2)) (C := RX11) (T := TX11) (N := 55) hx hb hts inX11 hown hK hP 0 rfl rfl 2 (Nat.le_of_ble_eq_true rfl) (hts _ mw_1161) (fun _ h9 => h9) rfl dX11_weight_1 ?_
  refine lv_iload_n hx hb dX11_weight_4 rfl (lv_at hl 1 rfl) ?_
  have b9_1 : f < 201 := by omega
  refine z_iald hx hb hK hP 1 0 rfl rfl (e := f) rfl b9_1 (Nat.le_of_ble_eq_true rfl) dX11_weight_5 ?_
  refine lv_iconst (v := 1) hx hb dX11_weight_6 rfl ?_
  refine lv_iadd hx hb dX11_weight_7 ?_
  refine lv_i2l (v := ((rk f) + 1).toInt64) hx hb dX11_weight_8 (rfl) ?_
  refine lv_aload_n hx hb dX11_weight_9 rfl (lv_at hl 0 rfl) ?_
  refine lv_iload_n hx hb dX11_weight_10 rfl (lv_at hl 1 rfl) ?_
  obtain ⟨hPc, hDc, hFc⟩ := zo_sub (wc := [_, _, _, _, _]) hP hD hS hA [0, 2, 3, 4, 5] (by decide +kernel) rfl
  refine zcall (st1 := [.long (jI ((ln2 (cF40 cx f) (cF40 cy f) (n - 1) : Nat) : Int)), .long (((rk f) + 1).toInt64)]) (va_runV (As := [.int (nI f)]) (rest := [.long (((rk f) + 1).toInt64)]) ⟨hx, hb, hml, hown, hts⟩ (k_M_lengthOf l dC dI cI cZ cF s.heap.size k0 a I0 J0 f n mn cx cy S0 (by first | with_reducible assumption | omega) (by first | with_reducible assumption | assumption) (by first | with_reducible assumption | omega) (by first | with_reducible assumption | assumption)) (csV_223 hts rfl rfl ⟨Nat.le_of_ble_eq_true rfl, Nat.le_of_ble_eq_true rfl⟩) (zPV2 (q0 := 0) (ci := 9) hPc hDc hK hXN rfl rfl) rfl rfl hl.1 rfl (lv_room (Nat.le_of_ble_eq_true rfl)) dX11_weight_11 ⟨Nat.le_of_ble_eq_true rfl, Nat.le_of_ble_eq_true rfl⟩) hS hFc hFc rfl (fun t H locs ht hB hk1 hS => ?_)
  obtain ⟨q_2, hP1, hD1⟩ := hB
  rw [ht] at hP1
  obtain ⟨hP, hD⟩ := zn (W2 := [_, _, _, _, _, (oa (a 32) cI 8 q_2)]) hP hD hk1 hFc hP1 hD1 [0, 2, 3, 4, 5] [false, true] [false, true, false, false, false, false] [0, 2, 3, 4, 5] (by decide +kernel) rfl rfl rfl rfl rfl
  clear hk1 hPc hDc hFc hP1 hD1 ht
  have hlb := ln2B hp_f (n - 1) (by omega)
  refine lv_lmul hx hb dX11_weight_14 ?_
  obtain ⟨hP9, hD9⟩ := zu_sub (wc := [_, _, _, _, _, _]) hP hD [true, true, true, true, true, true] rfl rfl
  rw [hQ9]
  exact W.lret (v := (((rk f) + 1).toInt64) * (jI ((ln2 (cF40 cx f) (cF40 cy f) (n - 1) : Nat) : Int))) hx hb hr (fun t ht hW => ⟨⟨congrArg (fun z => Outcome.returned (some (Value.long z))) (show ((((rk f) + 1).toInt64) * (jI ((ln2 (cF40 cx f) (cF40 cy f) (n - 1) : Nat) : Int)) : Int64) = jI (((rk f).toInt + 1) * ((ln2 (cF40 cx f) (cF40 cy f) (n - 1) : Nat) : Int)) from wtL hrk (by omega)), q_2, by rw [ht]; exact hP9, hD9⟩, hS.F ht⟩) hS.2.2 dX11_weight_15
set_option maxHeartbeats 4000000 in
set_option maxRecDepth 100000 in
theorem k_M_near_x1 (l : Launch) (dC : Nat → ClassId) (dI : Nat → Nat → Nat) (cI cZ cF : ClassId) (sz : Nat) (k0 : Nat) (a : Nat → Nat) (I0 : Nat → Int32) (J0 : Nat → Int64) (ft : Nat) (v : Int32) (v2 : Int32) (w : Int32) (hft : I0 0 = nI ft) (h200 : ft ≤ 200) (hv : ¬ (0 ≤ v.toInt ∧ v.toInt < (ft : Int))) : zM l yX11_near cX11_near 4 (some .long) ({ frames := 2, cells := 0, slots := 0, locals := 42 } : Room) [.ref k0, .int v, .int v2, .int w] (dC, dI) (zTy cI cZ cF) [(om k0 a I0 J0)] sz (some (.long (-1))) (fun A t => zPD (dC, dI) classes A [(om k0 a I0 J0)] t.heap) 0 0 := by
  refine zIn (own := "ScaleShopModel") (loc := [(0, .ref k0), (1, .int v), (2, .int v2), (3, .int w)]) rfl rfl rfl rfl (fun p e s m below meth c hx hb hr hts hown hlocks hml hnm9 A hA hS hP hD hK hXN Q9 hQ9 ls hl => ?_)
  refine lv_aload_n hx hb dX11_near_0 rfl (lv_at hl 0 rfl) ?_
  refine lv_iload_n hx hb dX11_near_1 rfl (lv_at hl 1 rfl) ?_
  obtain ⟨hPc, hDc, hFc, hI1⟩ := zi_sub (wc := [_]) hP hD hS hA [0] rfl rfl
  refine zcall (st1 := [.int 0]) (va_runV (As := [.int v]) (rest := []) ⟨hx, hb, hml, hown, hts⟩ (k_M_is_x l dC dI cI cZ cF s.heap.size k0 a I0 J0 ft v (by first | with_reducible assumption | assumption) (by first | with_reducible assumption | omega) (by first | with_reducible assumption | assumption)) (csV_179 hts rfl rfl ⟨Nat.le_of_ble_eq_true rfl, Nat.le_of_ble_eq_true rfl⟩) (zPV2 (q0 := 0) (ci := 9) hPc hDc hK hXN rfl rfl) rfl rfl hl.1 rfl (lv_room (Nat.le_of_ble_eq_true rfl)) dX11_near_2 ⟨Nat.le_of_ble_eq_true rfl, Nat.le_of_ble_eq_true rfl⟩) hS hFc hFc rfl (fun t H locs ht hB hk1 hS => ?_)
  obtain ⟨hP1, hD1⟩ := hB
  rw [ht] at hP1
  replace hP := z0 hP hD hk1 hP1 hI1
  clear hk1 hPc hDc hFc hP1 hD1 ht hI1
  refine lv_if_eq (tgt := 25) hx hb dX11_near_5 rfl (fun c_1 => ?_) (fun c_1 => ?_)
  · refine lv_ldc2 hx hb hown (hts _ mw_1620) dX11_near_25 ?_
    obtain ⟨hP9, hD9⟩ := zu_sub (wc := [_]) hP hD [true] rfl rfl
    rw [hQ9]
    exact W.lret (v := (-1)) hx hb hr (fun t ht hW => ⟨⟨rfl, by rw [ht]; exact hP9, hD9⟩, hS.F ht⟩) hS.2.2 dX11_near_28
  · exact absurd (by decide) c_1
set_option maxHeartbeats 4000000 in
set_option maxRecDepth 100000 in
theorem k_M_near_x2 (l : Launch) (dC : Nat → ClassId) (dI : Nat → Nat → Nat) (cI cZ cF : ClassId) (sz : Nat) (k0 : Nat) (a : Nat → Nat) (I0 : Nat → Int32) (J0 : Nat → Int64) (f : Nat) (ft : Nat) (v : Int32) (w : Int32) (st : Nat → Int32) (tn : Nat → Int32) (hft : I0 0 = nI ft) (h200 : ft ≤ 200) (hv : ¬ (0 ≤ v.toInt ∧ v.toInt < (ft : Int))) (hf_t : f < ft) : zM l yX11_near cX11_near 4 (some .long) ({ frames := 2, cells := 0, slots := 0, locals := 42 } : Room) [.ref k0, .int (nI f), .int v, .int w] (dC, dI) (zTy cI cZ cF) [(om k0 a I0 J0), (oa (a 5) cI 201 st), (oa (a 6) cZ 201 tn)] sz (some (.long (-1))) (fun A t => zPD (dC, dI) classes A [(om k0 a I0 J0), (oa (a 5) cI 201 st), (oa (a 6) cZ 201 tn)] t.heap) 0 0 := by
  refine zIn (own := "ScaleShopModel") (loc := [(0, .ref k0), (1, .int (nI f)), (2, .int v), (3, .int w)]) rfl rfl rfl rfl (fun p e s m below meth c hx hb hr hts hown hlocks hml hnm9 A hA hS hP hD hK hXN Q9 hQ9 ls hl => ?_)
  refine lv_aload_n hx hb dX11_near_0 rfl (lv_at hl 0 rfl) ?_
  refine lv_iload_n hx hb dX11_near_1 rfl (lv_at hl 1 rfl) ?_
  obtain ⟨hPc, hDc, hFc, hI1⟩ := zi_sub (wc := [_, _, _]) hP hD hS hA [0, 1, 2] rfl rfl
  refine zcall (st1 := [.int (pI (f < ft ∧ (st f).toInt = 1 ∧ (tn f).toInt = 0))]) (va_runV (As := [.int (nI f)]) (rest := []) ⟨hx, hb, hml, hown, hts⟩ (k_M_is_n l dC dI cI cZ cF s.heap.size k0 a I0 J0 f ft st tn (by first | with_reducible assumption | assumption) (by first | with_reducible assumption | omega) (by first | with_reducible assumption | omega)) (csV_179 hts rfl rfl ⟨Nat.le_of_ble_eq_true rfl, Nat.le_of_ble_eq_true rfl⟩) (zPV2 (q0 := 0) (ci := 9) hPc hDc hK hXN rfl rfl) rfl rfl hl.1 rfl (lv_room (Nat.le_of_ble_eq_true rfl)) dX11_near_2 ⟨Nat.le_of_ble_eq_true rfl, Nat.le_of_ble_eq_true rfl⟩) hS hFc hFc rfl (fun t H locs ht hB hk1 hS => ?_)
  obtain ⟨hP1, hD1⟩ := hB
  rw [ht] at hP1
  replace hP := z0 hP hD hk1 hP1 hI1
  clear hk1 hPc hDc hFc hP1 hD1 ht hI1
  refine lv_if_eq (tgt := 25) hx hb dX11_near_5 rfl (fun c_1 => ?_) (fun c_1 => ?_)
  · have c_1 : ¬ (f < ft ∧ (st f).toInt = 1 ∧ (tn f).toInt = 0) := zp_0 c_1
    refine lv_ldc2 hx hb hown (hts _ mw_1620) dX11_near_25 ?_
    obtain ⟨hP9, hD9⟩ := zu_sub (wc := [_, _, _]) hP hD [true, true, true] rfl rfl
    rw [hQ9]
    exact W.lret (v := (-1)) hx hb hr (fun t ht hW => ⟨⟨rfl, by rw [ht]; exact hP9, hD9⟩, hS.F ht⟩) hS.2.2 dX11_near_28
  · have c_1 : f < ft ∧ (st f).toInt = 1 ∧ (tn f).toInt = 0 := zp_1 c_1
    refine lv_aload_n hx hb dX11_near_8 rfl (lv_at hl 0 rfl) ?_
    refine lv_iload_n hx hb dX11_near_9 rfl (lv_at hl 2 rfl) ?_
    obtain ⟨hPc, hDc, hFc, hI1⟩ := zi_sub (wc := [_]) hP hD hS hA [0] rfl rfl
    refine zcall (st1 := [.int 0]) (va_runV (As := [.int v]) (rest := []) ⟨hx, hb, hml, hown, hts⟩ (k_M_is_x l dC dI cI cZ cF H.size k0 a I0 J0 ft v (by first | with_reducible assumption | assumption) (by first | with_reducible assumption | omega) (by first | with_reducible assumption | assumption)) (csV_179 hts rfl rfl ⟨Nat.le_of_ble_eq_true rfl, Nat.le_of_ble_eq_true rfl⟩) (zPV2 (q0 := 0) (ci := 9) hPc hDc hK hXN rfl rfl) rfl rfl hl.1 rfl (lv_room (Nat.le_of_ble_eq_true rfl)) dX11_near_10 ⟨Nat.le_of_ble_eq_true rfl, Nat.le_of_ble_eq_true rfl⟩) hS hFc hFc rfl (fun t H locs ht hB hk1 hS => ?_)
    obtain ⟨hP1, hD1⟩ := hB
    rw [ht] at hP1
    replace hP := z0 hP hD hk1 hP1 hI1
    clear hk1 hPc hDc hFc hP1 hD1 ht hI1
    refine lv_if_eq (tgt := 25) hx hb dX11_near_13 rfl (fun c_2 => ?_) (fun c_2 => ?_)
    · refine lv_ldc2 hx hb hown (hts _ mw_1620) dX11_near_25 ?_
      obtain ⟨hP9, hD9⟩ := zu_sub (wc := [_, _, _]) hP hD [true, true, true] rfl rfl
      rw [hQ9]
      exact W.lret (v := (-1)) hx hb hr (fun t ht hW => ⟨⟨rfl, by rw [ht]; exact hP9, hD9⟩, hS.F ht⟩) hS.2.2 dX11_near_28
    · exact absurd (by decide) c_2
set_option maxHeartbeats 4000000 in
set_option maxRecDepth 100000 in
theorem k_M_near_r (l : Launch) (dC : Nat → ClassId) (dI : Nat → Nat → Nat) (cI cZ cF : ClassId) (sz : Nat) (k0 : Nat) (a : Nat → Nat) (I0 : Nat → Int32) (J0 : Nat → Int64) (f : Nat) (g : Nat) (ft : Nat) (w : Int32) (st : Nat → Int32) (tn : Nat → Int32) (hft : I0 0 = nI ft) (h200 : ft ≤ 200) (hf_t : f < ft) (hg_t : g < ft) (hbad : ¬ (lvF ft st tn f ∧ lvF ft st tn g ∧ 0 ≤ w.toInt ∧ w.toInt ≤ 1)) : zM l yX11_near cX11_near 4 (some .long) ({ frames := 2, cells := 0, slots := 0, locals := 42 } : Room) [.ref k0, .int (nI f), .int (nI g), .int w] (dC, dI) (zTy cI cZ cF) [(om k0 a I0 J0), (oa (a 5) cI 201 st), (oa (a 6) cZ 201 tn)] sz (some (.long (-1))) (fun A t => zPD (dC, dI) classes A [(om k0 a I0 J0), (oa (a 5) cI 201 st), (oa (a 6) cZ 201 tn)] t.heap) 0 0 := by
  refine zIn (own := "ScaleShopModel") (loc := [(0, .ref k0), (1, .int (nI f)), (2, .int (nI g)), (3, .int w)]) rfl rfl rfl rfl (fun p e s m below meth c hx hb hr hts hown hlocks hml hnm9 A hA hS hP hD hK hXN Q9 hQ9 ls hl => ?_)
  refine lv_aload_n hx hb dX11_near_0 rfl (lv_at hl 0 rfl) ?_
  refine lv_iload_n hx hb dX11_near_1 rfl (lv_at hl 1 rfl) ?_
  obtain ⟨hPc, hDc, hFc, hI1⟩ := zi_sub (wc := [_, _, _]) hP hD hS hA [0, 1, 2] rfl rfl
  refine zcall (st1 := [.int (pI (f < ft ∧ (st f).toInt = 1 ∧ (tn f).toInt = 0))]) (va_runV (As := [.int (nI f)]) (rest := []) ⟨hx, hb, hml, hown, hts⟩ (k_M_is_n l dC dI cI cZ cF s.heap.size k0 a I0 J0 f ft st tn (by first | with_reducible assumption | assumption) (by first | with_reducible assumption | omega) (by first | with_reducible assumption | omega)) (csV_179 hts rfl rfl ⟨Nat.le_of_ble_eq_true rfl, Nat.le_of_ble_eq_true rfl⟩) (zPV2 (q0 := 0) (ci := 9) hPc hDc hK hXN rfl rfl) rfl rfl hl.1 rfl (lv_room (Nat.le_of_ble_eq_true rfl)) dX11_near_2 ⟨Nat.le_of_ble_eq_true rfl, Nat.le_of_ble_eq_true rfl⟩) hS hFc hFc rfl (fun t H locs ht hB hk1 hS => ?_)
  obtain ⟨hP1, hD1⟩ := hB
  rw [ht] at hP1
  replace hP := z0 hP hD hk1 hP1 hI1
  clear hk1 hPc hDc hFc hP1 hD1 ht hI1
  refine lv_if_eq (tgt := 25) hx hb dX11_near_5 rfl (fun c_1 => ?_) (fun c_1 => ?_)
  · have c_1 : ¬ (f < ft ∧ (st f).toInt = 1 ∧ (tn f).toInt = 0) := zp_0 c_1
    refine lv_ldc2 hx hb hown (hts _ mw_1620) dX11_near_25 ?_
    obtain ⟨hP9, hD9⟩ := zu_sub (wc := [_, _, _]) hP hD [true, true, true] rfl rfl
    rw [hQ9]
    exact W.lret (v := (-1)) hx hb hr (fun t ht hW => ⟨⟨rfl, by rw [ht]; exact hP9, hD9⟩, hS.F ht⟩) hS.2.2 dX11_near_28
  · have c_1 : f < ft ∧ (st f).toInt = 1 ∧ (tn f).toInt = 0 := zp_1 c_1
    refine lv_aload_n hx hb dX11_near_8 rfl (lv_at hl 0 rfl) ?_
    refine lv_iload_n hx hb dX11_near_9 rfl (lv_at hl 2 rfl) ?_
    obtain ⟨hPc, hDc, hFc, hI1⟩ := zi_sub (wc := [_, _, _]) hP hD hS hA [0, 1, 2] rfl rfl
    refine zcall (st1 := [.int (pI (g < ft ∧ (st g).toInt = 1 ∧ (tn g).toInt = 0))]) (va_runV (As := [.int (nI g)]) (rest := []) ⟨hx, hb, hml, hown, hts⟩ (k_M_is_n l dC dI cI cZ cF H.size k0 a I0 J0 g ft st tn (by first | with_reducible assumption | assumption) (by first | with_reducible assumption | omega) (by first | with_reducible assumption | omega)) (csV_179 hts rfl rfl ⟨Nat.le_of_ble_eq_true rfl, Nat.le_of_ble_eq_true rfl⟩) (zPV2 (q0 := 0) (ci := 9) hPc hDc hK hXN rfl rfl) rfl rfl hl.1 rfl (lv_room (Nat.le_of_ble_eq_true rfl)) dX11_near_10 ⟨Nat.le_of_ble_eq_true rfl, Nat.le_of_ble_eq_true rfl⟩) hS hFc hFc rfl (fun t H locs ht hB hk1 hS => ?_)
    obtain ⟨hP1, hD1⟩ := hB
    rw [ht] at hP1
    replace hP := z0 hP hD hk1 hP1 hI1
    clear hk1 hPc hDc hFc hP1 hD1 ht hI1
    refine lv_if_eq (tgt := 25) hx hb dX11_near_13 rfl (fun c_2 => ?_) (fun c_2 => ?_)
    · have c_2 : ¬ (g < ft ∧ (st g).toInt = 1 ∧ (tn g).toInt = 0) := zp_0 c_2
      refine lv_ldc2 hx hb hown (hts _ mw_1620) dX11_near_25 ?_
      obtain ⟨hP9, hD9⟩ := zu_sub (wc := [_, _, _]) hP hD [true, true, true] rfl rfl
      rw [hQ9]
      exact W.lret (v := (-1)) hx hb hr (fun t ht hW => ⟨⟨rfl, by rw [ht]; exact hP9, hD9⟩, hS.F ht⟩) hS.2.2 dX11_near_28
    · have c_2 : g < ft ∧ (st g).toInt = 1 ∧ (tn g).toInt = 0 := zp_1 c_2
      refine lv_iload_n hx hb dX11_near_16 rfl (lv_at hl 3 rfl) ?_
      refine lv_if_lt (tgt := 25) hx hb dX11_near_17 rfl (fun c_3 => ?_) (fun c_3 => ?_)
      · have c_3 : w.toInt < 0 := zc_lt rfl rfl c_3
        refine lv_ldc2 hx hb hown (hts _ mw_1620) dX11_near_25 ?_
        obtain ⟨hP9, hD9⟩ := zu_sub (wc := [_, _, _]) hP hD [true, true, true] rfl rfl
        rw [hQ9]
        exact W.lret (v := (-1)) hx hb hr (fun t ht hW => ⟨⟨rfl, by rw [ht]; exact hP9, hD9⟩, hS.F ht⟩) hS.2.2 dX11_near_28
      · have c_3 : 0 ≤ w.toInt := zc_nlt rfl rfl c_3
        refine lv_iload_n hx hb dX11_near_20 rfl (lv_at hl 3 rfl) ?_
        refine lv_iconst (v := 1) hx hb dX11_near_21 rfl ?_
        refine lv_icmp_le (tgt := 29) hx hb dX11_near_22 rfl (fun c_4 => ?_) (fun c_4 => ?_)
        · have c_4 : w.toInt ≤ 1 := zc_le rfl rfl c_4
          exact absurd ⟨by assumption, by assumption, by omega, by omega⟩ hbad
        · have c_4 : 1 < w.toInt := zc_nle rfl rfl c_4
          refine lv_ldc2 hx hb hown (hts _ mw_1620) dX11_near_25 ?_
          obtain ⟨hP9, hD9⟩ := zu_sub (wc := [_, _, _]) hP hD [true, true, true] rfl rfl
          rw [hQ9]
          exact W.lret (v := (-1)) hx hb hr (fun t ht hW => ⟨⟨rfl, by rw [ht]; exact hP9, hD9⟩, hS.F ht⟩) hS.2.2 dX11_near_28
end
section
set_option maxHeartbeats 4000000 in
set_option maxRecDepth 100000 in
theorem k_M_join_x1 (l : Launch) (dC : Nat → ClassId) (dI : Nat → Nat → Nat) (cI cZ cF : ClassId) (sz : Nat) (k0 : Nat) (a : Nat → Nat) (I0 : Nat → Int32) (J0 : Nat → Int64) (ft : Nat) (v : Int32) (v2 : Int32) (gp9 : Int32) (hft : I0 0 = nI ft) (h200 : ft ≤ 200) (hv : ¬ (0 ≤ v.toInt ∧ v.toInt < (ft : Int))) : zM l yX11_join cX11_join 9 (some .int) ({ frames := 1, cells := 0, slots := 0, locals := 21 } : Room) [.ref k0, .int v, .int v2, .int gp9] (dC, dI) (zTy cI cZ cF) [(om k0 a I0 J0)] sz (some (.int (-1))) (fun A t => zPD (dC, dI) classes A [(om k0 a (upd (upd I0 14 1) 15 (I0 15)) J0)] t.heap) 0 0 := by
  refine zIn (own := "ScaleShopModel") (loc := [(0, .ref k0), (1, .int v), (2, .int v2), (3, .int gp9)]) rfl rfl rfl rfl (fun p e s m below meth c hx hb hr hts hown hlocks hml hnm9 A hA hS hP hD hK hXN Q9 hQ9 ls hl => ?_)
  refine lv_aload_n hx hb dX11_join_0 rfl (lv_at hl 0 rfl) ?_
  refine lv_iload_n hx hb dX11_join_1 rfl (lv_at hl 1 rfl) ?_
  obtain ⟨hPc, hDc, hFc, hI1⟩ := zi_sub (wc := [_]) hP hD hS hA [0] rfl rfl
  refine zcall (st1 := [.int (pI (0 ≤ v.toInt ∧ v.toInt < (ft : Int)))]) (va_runV (As := [.int v]) (rest := []) ⟨hx, hb, hml, hown, hts⟩ (k_M_isFeature l dC dI cI cZ cF s.heap.size k0 a I0 J0 ft v (by first | with_reducible assumption | assumption) (by first | with_reducible assumption | omega)) (csV_178 hts rfl rfl ⟨Nat.le_of_ble_eq_true rfl, Nat.le_of_ble_eq_true rfl⟩) (zPV2 (q0 := 0) (ci := 9) hPc hDc hK hXN rfl rfl) rfl rfl hl.1 rfl (lv_room (Nat.le_of_ble_eq_true rfl)) dX11_join_2 ⟨Nat.le_of_ble_eq_true rfl, Nat.le_of_ble_eq_true rfl⟩) hS hFc hFc rfl (fun t H locs ht hB hk1 hS => ?_)
  obtain ⟨hP1, hD1⟩ := hB
  rw [ht] at hP1
  replace hP := z0 hP hD hk1 hP1 hI1
  clear hk1 hPc hDc hFc hP1 hD1 ht hI1
  refine lv_if_eq (tgt := 16) hx hb dX11_join_5 rfl (fun c_1 => ?_) (fun c_1 => ?_)
  · have c_1 : ¬ (0 ≤ v.toInt ∧ v.toInt < (ft : Int)) := zp_0 c_1
    refine lv_iconst (v := 1) hx hb dX11_join_16 rfl ?_
    refine lv_goto (tgt := 45) hx hb dX11_join_17 rfl ?_
    refine lv_istore (lv' := [(4, .int 1), (0, .ref k0), (1, .int v), (2, .int v2), (3, .int gp9)]) hx hb dX11_join_45 hl (Nat.le_of_ble_eq_true rfl) rfl (fun ls hl => ?_)
    refine lv_iload hx hb dX11_join_47 (lv_at hl 0 rfl) ?_
    refine lv_if_le (tgt := 57) hx hb dX11_join_49 rfl (fun c_2 => ?_) (fun c_2 => ?_)
    · exact absurd c_2 (by decide)
    · refine lv_iload hx hb dX11_join_52 (lv_at hl 0 rfl) ?_
      refine lv_goto (tgt := 121) hx hb dX11_join_54 rfl ?_
      refine lv_istore (lv' := [(4, .int 1), (0, .ref k0), (1, .int v), (2, .int v2), (3, .int gp9)]) hx hb dX11_join_121 hl (Nat.le_of_ble_eq_true rfl) rfl (fun ls hl => ?_)
      refine lv_iload hx hb dX11_join_123 (lv_at hl 0 rfl) ?_
      refine lv_if_le (tgt := 135) hx hb dX11_join_125 rfl (fun c_3 => ?_) (fun c_3 => ?_)
      · exact absurd c_3 (by decide)
      · refine lv_aload_n hx hb dX11_join_128 rfl (lv_at hl 1 rfl) ?_
        refine lv_iload hx hb dX11_join_129 (lv_at hl 0 rfl) ?_
        obtain ⟨hPc, hDc, hFc⟩ := zo_sub (wc := [_]) hP hD hS hA [0] rfl rfl
        refine zcall (st1 := [.int (-1)]) (va_runV (As := [.int 1]) (rest := []) ⟨hx, hb, hml, hown, hts⟩ (k_M_refuse l dC dI cI cZ cF H.size k0 a I0 J0 1 (by decide)) (csV_185 hts rfl rfl ⟨Nat.le_of_ble_eq_true rfl, Nat.le_of_ble_eq_true rfl⟩) (zPV2 (q0 := 0) (ci := 9) hPc hDc hK hXN rfl rfl) rfl rfl hl.1 rfl (lv_room (Nat.le_of_ble_eq_true rfl)) dX11_join_131 ⟨Nat.le_of_ble_eq_true rfl, Nat.le_of_ble_eq_true rfl⟩) hS hFc hFc rfl (fun t H locs ht hB hk1 hS => ?_)
        obtain ⟨hP1, hD1⟩ := hB
        rw [ht] at hP1
        obtain ⟨hP, hD⟩ := zn (W2 := [(om k0 a (upd (upd I0 14 1) 15 (I0 15)) J0)]) hP hD hk1 hFc hP1 hD1 [0] [] [false] [0] (by decide +kernel) rfl rfl rfl rfl rfl
        clear hk1 hPc hDc hFc hP1 hD1 ht
        obtain ⟨hP9, hD9⟩ := zu_sub (wc := [_]) hP hD [true] rfl rfl
        rw [hQ9]
        exact W.iret (v := (-1)) hx hb hr (fun t ht hW => ⟨⟨rfl, by rw [ht]; exact hP9, hD9⟩, hS.F ht⟩) hS.2.2 dX11_join_134
  · have c_1 : 0 ≤ v.toInt ∧ v.toInt < (ft : Int) := zp_1 c_1
    exfalso; exact absurd (by first | with_reducible assumption | assumption) hv
set_option maxHeartbeats 4000000 in
set_option maxRecDepth 100000 in
theorem k_M_join_x2 (l : Launch) (dC : Nat → ClassId) (dI : Nat → Nat → Nat) (cI cZ cF : ClassId) (sz : Nat) (k0 : Nat) (a : Nat → Nat) (I0 : Nat → Int32) (J0 : Nat → Int64) (f : Nat) (ft : Nat) (v : Int32) (gp9 : Int32) (hft : I0 0 = nI ft) (h200 : ft ≤ 200) (hv : ¬ (0 ≤ v.toInt ∧ v.toInt < (ft : Int))) (hf_t : f < ft) : zM l yX11_join cX11_join 9 (some .int) ({ frames := 1, cells := 0, slots := 0, locals := 21 } : Room) [.ref k0, .int (nI f), .int v, .int gp9] (dC, dI) (zTy cI cZ cF) [(om k0 a I0 J0)] sz (some (.int (-1))) (fun A t => zPD (dC, dI) classes A [(om k0 a (upd (upd I0 14 1) 15 (I0 15)) J0)] t.heap) 0 0 := by
  refine zIn (own := "ScaleShopModel") (loc := [(0, .ref k0), (1, .int (nI f)), (2, .int v), (3, .int gp9)]) rfl rfl rfl rfl (fun p e s m below meth c hx hb hr hts hown hlocks hml hnm9 A hA hS hP hD hK hXN Q9 hQ9 ls hl => ?_)
  refine lv_aload_n hx hb dX11_join_0 rfl (lv_at hl 0 rfl) ?_
  refine lv_iload_n hx hb dX11_join_1 rfl (lv_at hl 1 rfl) ?_
  obtain ⟨hPc, hDc, hFc, hI1⟩ := zi_sub (wc := [_]) hP hD hS hA [0] rfl rfl
  refine zcall (st1 := [.int (pI (f < ft))]) (va_runV (As := [.int (nI f)]) (rest := []) ⟨hx, hb, hml, hown, hts⟩ (k_M_isFeature_n l dC dI cI cZ cF s.heap.size k0 a I0 J0 f ft (by first | with_reducible assumption | assumption) (by first | with_reducible assumption | omega) (by first | with_reducible assumption | omega)) (csV_178 hts rfl rfl ⟨Nat.le_of_ble_eq_true rfl, Nat.le_of_ble_eq_true rfl⟩) (zPV2 (q0 := 0) (ci := 9) hPc hDc hK hXN rfl rfl) rfl rfl hl.1 rfl (lv_room (Nat.le_of_ble_eq_true rfl)) dX11_join_2 ⟨Nat.le_of_ble_eq_true rfl, Nat.le_of_ble_eq_true rfl⟩) hS hFc hFc rfl (fun t H locs ht hB hk1 hS => ?_)
  obtain ⟨hP1, hD1⟩ := hB
  rw [ht] at hP1
  replace hP := z0 hP hD hk1 hP1 hI1
  clear hk1 hPc hDc hFc hP1 hD1 ht hI1
  refine lv_if_eq (tgt := 16) hx hb dX11_join_5 rfl (fun c_1 => ?_) (fun c_1 => ?_)
  · have c_1 : ¬ (f < ft) := zp_0 c_1
    exfalso; omega
  · have c_1 : f < ft := zp_1 c_1
    refine lv_aload_n hx hb dX11_join_8 rfl (lv_at hl 0 rfl) ?_
    refine lv_iload_n hx hb dX11_join_9 rfl (lv_at hl 2 rfl) ?_
    obtain ⟨hPc, hDc, hFc, hI1⟩ := zi_sub (wc := [_]) hP hD hS hA [0] rfl rfl
    refine zcall (st1 := [.int (pI (0 ≤ v.toInt ∧ v.toInt < (ft : Int)))]) (va_runV (As := [.int v]) (rest := []) ⟨hx, hb, hml, hown, hts⟩ (k_M_isFeature l dC dI cI cZ cF H.size k0 a I0 J0 ft v (by first | with_reducible assumption | assumption) (by first | with_reducible assumption | omega)) (csV_178 hts rfl rfl ⟨Nat.le_of_ble_eq_true rfl, Nat.le_of_ble_eq_true rfl⟩) (zPV2 (q0 := 0) (ci := 9) hPc hDc hK hXN rfl rfl) rfl rfl hl.1 rfl (lv_room (Nat.le_of_ble_eq_true rfl)) dX11_join_10 ⟨Nat.le_of_ble_eq_true rfl, Nat.le_of_ble_eq_true rfl⟩) hS hFc hFc rfl (fun t H locs ht hB hk1 hS => ?_)
    obtain ⟨hP1, hD1⟩ := hB
    rw [ht] at hP1
    replace hP := z0 hP hD hk1 hP1 hI1
    clear hk1 hPc hDc hFc hP1 hD1 ht hI1
    refine lv_if_ne (tgt := 20) hx hb dX11_join_13 rfl (fun c_2 => ?_) (fun c_2 => ?_)
    · have c_2 : 0 ≤ v.toInt ∧ v.toInt < (ft : Int) := zp_1 c_2
      exfalso; exact absurd (by first | with_reducible assumption | assumption) hv
    · have c_2 : ¬ (0 ≤ v.toInt ∧ v.toInt < (ft : Int)) := zp_0 c_2
      refine lv_iconst (v := 1) hx hb dX11_join_16 rfl ?_
      refine lv_goto (tgt := 45) hx hb dX11_join_17 rfl ?_
      refine lv_istore (lv' := [(4, .int 1), (0, .ref k0), (1, .int (nI f)), (2, .int v), (3, .int gp9)]) hx hb dX11_join_45 hl (Nat.le_of_ble_eq_true rfl) rfl (fun ls hl => ?_)
      refine lv_iload hx hb dX11_join_47 (lv_at hl 0 rfl) ?_
      refine lv_if_le (tgt := 57) hx hb dX11_join_49 rfl (fun c_3 => ?_) (fun c_3 => ?_)
      · exact absurd c_3 (by decide)
      · refine lv_iload hx hb dX11_join_52 (lv_at hl 0 rfl) ?_
        refine lv_goto (tgt := 121) hx hb dX11_join_54 rfl ?_
        refine lv_istore (lv' := [(4, .int 1), (0, .ref k0), (1, .int (nI f)), (2, .int v), (3, .int gp9)]) hx hb dX11_join_121 hl (Nat.le_of_ble_eq_true rfl) rfl (fun ls hl => ?_)
        refine lv_iload hx hb dX11_join_123 (lv_at hl 0 rfl) ?_
        refine lv_if_le (tgt := 135) hx hb dX11_join_125 rfl (fun c_4 => ?_) (fun c_4 => ?_)
        · exact absurd c_4 (by decide)
        · refine lv_aload_n hx hb dX11_join_128 rfl (lv_at hl 1 rfl) ?_
          refine lv_iload hx hb dX11_join_129 (lv_at hl 0 rfl) ?_
          obtain ⟨hPc, hDc, hFc⟩ := zo_sub (wc := [_]) hP hD hS hA [0] rfl rfl
          refine zcall (st1 := [.int (-1)]) (va_runV (As := [.int 1]) (rest := []) ⟨hx, hb, hml, hown, hts⟩ (k_M_refuse l dC dI cI cZ cF H.size k0 a I0 J0 1 (by decide)) (csV_185 hts rfl rfl ⟨Nat.le_of_ble_eq_true rfl, Nat.le_of_ble_eq_true rfl⟩) (zPV2 (q0 := 0) (ci := 9) hPc hDc hK hXN rfl rfl) rfl rfl hl.1 rfl (lv_room (Nat.le_of_ble_eq_true rfl)) dX11_join_131 ⟨Nat.le_of_ble_eq_true rfl, Nat.le_of_ble_eq_true rfl⟩) hS hFc hFc rfl (fun t H locs ht hB hk1 hS => ?_)
          obtain ⟨hP1, hD1⟩ := hB
          rw [ht] at hP1
          obtain ⟨hP, hD⟩ := zn (W2 := [(om k0 a (upd (upd I0 14 1) 15 (I0 15)) J0)]) hP hD hk1 hFc hP1 hD1 [0] [] [false] [0] (by decide +kernel) rfl rfl rfl rfl rfl
          clear hk1 hPc hDc hFc hP1 hD1 ht
          obtain ⟨hP9, hD9⟩ := zu_sub (wc := [_]) hP hD [true] rfl rfl
          rw [hQ9]
          exact W.iret (v := (-1)) hx hb hr (fun t ht hW => ⟨⟨rfl, by rw [ht]; exact hP9, hD9⟩, hS.F ht⟩) hS.2.2 dX11_join_134
set_option maxHeartbeats 4000000 in
set_option maxRecDepth 100000 in
theorem k_M_join_r (l : Launch) (dC : Nat → ClassId) (dI : Nat → Nat → Nat) (cI cZ cF : ClassId) (sz : Nat) (k0 : Nat) (a : Nat → Nat) (I0 : Nat → Int32) (J0 : Nat → Int64) (f : Nat) (g : Nat) (ft : Nat) (gp9 : Int32) (st : Nat → Int32) (tn : Nat → Int32) (kd : Nat → Int32) (hft : I0 0 = nI ft) (h200 : ft ≤ 200) (hf_t : f < ft) (hg_t : g < ft) (hbad : ¬ (((st f).toInt = 1 ∧ (st g).toInt = 1) ∧ ((kd f).toInt = 6 ∧ (kd g).toInt = 6) ∧ (0 ≤ gp9.toInt ∧ gp9.toInt ≤ 1000) ∧ ((tn f).toInt = 0 ∧ (tn g).toInt = 0))) : zM l yX11_join cX11_join 9 (some .int) ({ frames := 1, cells := 0, slots := 0, locals := 21 } : Room) [.ref k0, .int (nI f), .int (nI g), .int gp9] (dC, dI) (zTy cI cZ cF) [(om k0 a I0 J0), (oa (a 5) cI 201 st), (oa (a 6) cZ 201 tn), (oa (a 1) cI 201 kd)] sz (some (.int (-1))) (fun A t => ∃ (z9 : Int32), zPD (dC, dI) classes A [(om k0 a (upd (upd I0 14 z9) 15 (I0 15)) J0), (oa (a 5) cI 201 st), (oa (a 6) cZ 201 tn), (oa (a 1) cI 201 kd)] t.heap) 0 0 := by
  refine zIn (own := "ScaleShopModel") (loc := [(0, .ref k0), (1, .int (nI f)), (2, .int (nI g)), (3, .int gp9)]) rfl rfl rfl rfl (fun p e s m below meth c hx hb hr hts hown hlocks hml hnm9 A hA hS hP hD hK hXN Q9 hQ9 ls hl => ?_)
  refine lv_aload_n hx hb dX11_join_0 rfl (lv_at hl 0 rfl) ?_
  refine lv_iload_n hx hb dX11_join_1 rfl (lv_at hl 1 rfl) ?_
  obtain ⟨hPc, hDc, hFc, hI1⟩ := zi_sub (wc := [_]) hP hD hS hA [0] rfl rfl
  refine zcall (st1 := [.int (pI (f < ft))]) (va_runV (As := [.int (nI f)]) (rest := []) ⟨hx, hb, hml, hown, hts⟩ (k_M_isFeature_n l dC dI cI cZ cF s.heap.size k0 a I0 J0 f ft (by first | with_reducible assumption | assumption) (by first | with_reducible assumption | omega) (by first | with_reducible assumption | omega)) (csV_178 hts rfl rfl ⟨Nat.le_of_ble_eq_true rfl, Nat.le_of_ble_eq_true rfl⟩) (zPV2 (q0 := 0) (ci := 9) hPc hDc hK hXN rfl rfl) rfl rfl hl.1 rfl (lv_room (Nat.le_of_ble_eq_true rfl)) dX11_join_2 ⟨Nat.le_of_ble_eq_true rfl, Nat.le_of_ble_eq_true rfl⟩) hS hFc hFc rfl (fun t H locs ht hB hk1 hS => ?_)
  obtain ⟨hP1, hD1⟩ := hB
  rw [ht] at hP1
  replace hP := z0 hP hD hk1 hP1 hI1
  clear hk1 hPc hDc hFc hP1 hD1 ht hI1
  refine lv_if_eq (tgt := 16) hx hb dX11_join_5 rfl (fun c_1 => ?_) (fun c_1 => ?_)
  · have c_1 : ¬ (f < ft) := zp_0 c_1
    exfalso; omega
  · have c_1 : f < ft := zp_1 c_1
    refine lv_aload_n hx hb dX11_join_8 rfl (lv_at hl 0 rfl) ?_
    refine lv_iload_n hx hb dX11_join_9 rfl (lv_at hl 2 rfl) ?_
    obtain ⟨hPc, hDc, hFc, hI1⟩ := zi_sub (wc := [_]) hP hD hS hA [0] rfl rfl
    refine zcall (st1 := [.int (pI (g < ft))]) (va_runV (As := [.int (nI g)]) (rest := []) ⟨hx, hb, hml, hown, hts⟩ (k_M_isFeature_n l dC dI cI cZ cF H.size k0 a I0 J0 g ft (by first | with_reducible assumption | assumption) (by first | with_reducible assumption | omega) (by first | with_reducible assumption | omega)) (csV_178 hts rfl rfl ⟨Nat.le_of_ble_eq_true rfl, Nat.le_of_ble_eq_true rfl⟩) (zPV2 (q0 := 0) (ci := 9) hPc hDc hK hXN rfl rfl) rfl rfl hl.1 rfl (lv_room (Nat.le_of_ble_eq_true rfl)) dX11_join_10 ⟨Nat.le_of_ble_eq_true rfl, Nat.le_of_ble_eq_true rfl⟩) hS hFc hFc rfl (fun t H locs ht hB hk1 hS => ?_)
    obtain ⟨hP1, hD1⟩ := hB
    rw [ht] at hP1
    replace hP := z0 hP hD hk1 hP1 hI1
    clear hk1 hPc hDc hFc hP1 hD1 ht hI1
    refine lv_if_ne (tgt := 20) hx hb dX11_join_13 rfl (fun c_2 => ?_) (fun c_2 => ?_)
    · have c_2 : g < ft := zp_1 c_2
      refine lv_aload_n hx hb dX11_join_20 rfl (lv_at hl 0 rfl) ?_
      refine va_get (D := (dC, dI)) (ci := 9) (v := .ref (a 5)) (C := RX11) (T := TX11) (N := 55) hx hb hts inX11 hown hK hP 0 rfl rfl 5 (Nat.le_of_ble_eq_true rfl) (hts _ mw_1164) (fun _ h9 => h9) rfl dX11_join_21 ?_
      refine lv_iload_n hx hb dX11_join_24 rfl (lv_at hl 1 rfl) ?_
      have b9_3 : f < 201 := by omega
      refine z_iald hx hb hK hP 1 0 rfl rfl (e := f) rfl b9_3 (Nat.le_of_ble_eq_true rfl) dX11_join_25 ?_
      refine lv_iconst (v := 1) hx hb dX11_join_26 rfl ?_
      refine lv_icmp_ne (tgt := 40) hx hb dX11_join_27 rfl (fun c_4 => ?_) (fun c_4 => ?_)
      · have c_4 : ¬ (st f).toInt = 1 := zc_ne rfl rfl c_4
        refine lv_iconst (v := 2) hx hb dX11_join_40 rfl ?_
        refine lv_goto (tgt := 45) hx hb dX11_join_41 rfl ?_
        refine lv_istore (lv' := [(4, .int 2), (0, .ref k0), (1, .int (nI f)), (2, .int (nI g)), (3, .int gp9)]) hx hb dX11_join_45 hl (Nat.le_of_ble_eq_true rfl) rfl (fun ls hl => ?_)
        refine lv_iload hx hb dX11_join_47 (lv_at hl 0 rfl) ?_
        refine lv_if_le (tgt := 57) hx hb dX11_join_49 rfl (fun c_5 => ?_) (fun c_5 => ?_)
        · exact absurd c_5 (by decide)
        · refine lv_iload hx hb dX11_join_52 (lv_at hl 0 rfl) ?_
          refine lv_goto (tgt := 121) hx hb dX11_join_54 rfl ?_
          refine lv_istore (lv' := [(4, .int 2), (0, .ref k0), (1, .int (nI f)), (2, .int (nI g)), (3, .int gp9)]) hx hb dX11_join_121 hl (Nat.le_of_ble_eq_true rfl) rfl (fun ls hl => ?_)
          refine lv_iload hx hb dX11_join_123 (lv_at hl 0 rfl) ?_
          refine lv_if_le (tgt := 135) hx hb dX11_join_125 rfl (fun c_6 => ?_) (fun c_6 => ?_)
          · exact absurd c_6 (by decide)
          · refine lv_aload_n hx hb dX11_join_128 rfl (lv_at hl 1 rfl) ?_
            refine lv_iload hx hb dX11_join_129 (lv_at hl 0 rfl) ?_
            obtain ⟨hPc, hDc, hFc⟩ := zo_sub (wc := [_]) hP hD hS hA [0] rfl rfl
            refine zcall (st1 := [.int (-1)]) (va_runV (As := [.int 2]) (rest := []) ⟨hx, hb, hml, hown, hts⟩ (k_M_refuse l dC dI cI cZ cF H.size k0 a I0 J0 2 (by decide)) (csV_185 hts rfl rfl ⟨Nat.le_of_ble_eq_true rfl, Nat.le_of_ble_eq_true rfl⟩) (zPV2 (q0 := 0) (ci := 9) hPc hDc hK hXN rfl rfl) rfl rfl hl.1 rfl (lv_room (Nat.le_of_ble_eq_true rfl)) dX11_join_131 ⟨Nat.le_of_ble_eq_true rfl, Nat.le_of_ble_eq_true rfl⟩) hS hFc hFc rfl (fun t H locs ht hB hk1 hS => ?_)
            obtain ⟨hP1, hD1⟩ := hB
            rw [ht] at hP1
            obtain ⟨hP, hD⟩ := zn (W2 := [(om k0 a (upd (upd I0 14 2) 15 (I0 15)) J0), _, _, _]) hP hD hk1 hFc hP1 hD1 [0] [false, true, true, true] [false, true, true, true] [0] (by decide +kernel) rfl rfl rfl rfl rfl
            clear hk1 hPc hDc hFc hP1 hD1 ht
            obtain ⟨hP9, hD9⟩ := zu_sub (wc := [_, _, _, _]) hP hD [true, true, true, true] rfl rfl
            rw [hQ9]
            exact W.iret (v := (-1)) hx hb hr (fun t ht hW => ⟨⟨rfl, 2, by rw [ht]; exact hP9, hD9⟩, hS.F ht⟩) hS.2.2 dX11_join_134
      · have c_4 : (st f).toInt = 1 := zc_eq rfl rfl c_4
        refine lv_aload_n hx hb dX11_join_30 rfl (lv_at hl 0 rfl) ?_
        refine va_get (D := (dC, dI)) (ci := 9) (v := .ref (a 5)) (C := RX11) (T := TX11) (N := 55) hx hb hts inX11 hown hK hP 0 rfl rfl 5 (Nat.le_of_ble_eq_true rfl) (hts _ mw_1164) (fun _ h9 => h9) rfl dX11_join_31 ?_
        refine lv_iload_n hx hb dX11_join_34 rfl (lv_at hl 2 rfl) ?_
        have b9_7 : g < 201 := by omega
        refine z_iald hx hb hK hP 1 0 rfl rfl (e := g) rfl b9_7 (Nat.le_of_ble_eq_true rfl) dX11_join_35 ?_
        refine lv_iconst (v := 1) hx hb dX11_join_36 rfl ?_
        refine lv_icmp_eq (tgt := 44) hx hb dX11_join_37 rfl (fun c_8 => ?_) (fun c_8 => ?_)
        · have c_8 : (st g).toInt = 1 := zc_eq rfl rfl c_8
          refine lv_iconst (v := 0) hx hb dX11_join_44 rfl ?_
          refine lv_istore (lv' := [(4, .int 0), (0, .ref k0), (1, .int (nI f)), (2, .int (nI g)), (3, .int gp9)]) hx hb dX11_join_45 hl (Nat.le_of_ble_eq_true rfl) rfl (fun ls hl => ?_)
          refine lv_iload hx hb dX11_join_47 (lv_at hl 0 rfl) ?_
          refine lv_if_le (tgt := 57) hx hb dX11_join_49 rfl (fun c_9 => ?_) (fun c_9 => ?_)
          · refine lv_aload_n hx hb dX11_join_57 rfl (lv_at hl 1 rfl) ?_
            refine va_get (D := (dC, dI)) (ci := 9) (v := .ref (a 1)) (C := RX11) (T := TX11) (N := 55) hx hb hts inX11 hown hK hP 0 rfl rfl 1 (Nat.le_of_ble_eq_true rfl) (hts _ mw_1160) (fun _ h9 => h9) rfl dX11_join_58 ?_
            refine lv_iload_n hx hb dX11_join_61 rfl (lv_at hl 2 rfl) ?_
            refine z_iald hx hb hK hP 3 0 rfl rfl (e := f) rfl b9_3 (Nat.le_of_ble_eq_true rfl) dX11_join_62 ?_
            refine lv_bipush (v := 6) hx hb dX11_join_63 rfl ?_
            refine lv_icmp_ne (tgt := 79) hx hb dX11_join_65 rfl (fun c_10 => ?_) (fun c_10 => ?_)
            · have c_10 : ¬ (kd f).toInt = 6 := zc_ne rfl rfl c_10
              refine lv_iconst (v := 3) hx hb dX11_join_79 rfl ?_
              refine lv_goto (tgt := 121) hx hb dX11_join_80 rfl ?_
              refine lv_istore (lv' := [(4, .int 3), (0, .ref k0), (1, .int (nI f)), (2, .int (nI g)), (3, .int gp9)]) hx hb dX11_join_121 hl (Nat.le_of_ble_eq_true rfl) rfl (fun ls hl => ?_)
              refine lv_iload hx hb dX11_join_123 (lv_at hl 0 rfl) ?_
              refine lv_if_le (tgt := 135) hx hb dX11_join_125 rfl (fun c_11 => ?_) (fun c_11 => ?_)
              · exact absurd c_11 (by decide)
              · refine lv_aload_n hx hb dX11_join_128 rfl (lv_at hl 1 rfl) ?_
                refine lv_iload hx hb dX11_join_129 (lv_at hl 0 rfl) ?_
                obtain ⟨hPc, hDc, hFc⟩ := zo_sub (wc := [_]) hP hD hS hA [0] rfl rfl
                refine zcall (st1 := [.int (-1)]) (va_runV (As := [.int 3]) (rest := []) ⟨hx, hb, hml, hown, hts⟩ (k_M_refuse l dC dI cI cZ cF H.size k0 a I0 J0 3 (by decide)) (csV_185 hts rfl rfl ⟨Nat.le_of_ble_eq_true rfl, Nat.le_of_ble_eq_true rfl⟩) (zPV2 (q0 := 0) (ci := 9) hPc hDc hK hXN rfl rfl) rfl rfl hl.1 rfl (lv_room (Nat.le_of_ble_eq_true rfl)) dX11_join_131 ⟨Nat.le_of_ble_eq_true rfl, Nat.le_of_ble_eq_true rfl⟩) hS hFc hFc rfl (fun t H locs ht hB hk1 hS => ?_)
                obtain ⟨hP1, hD1⟩ := hB
                rw [ht] at hP1
                obtain ⟨hP, hD⟩ := zn (W2 := [(om k0 a (upd (upd I0 14 3) 15 (I0 15)) J0), _, _, _]) hP hD hk1 hFc hP1 hD1 [0] [false, true, true, true] [false, true, true, true] [0] (by decide +kernel) rfl rfl rfl rfl rfl
                clear hk1 hPc hDc hFc hP1 hD1 ht
                obtain ⟨hP9, hD9⟩ := zu_sub (wc := [_, _, _, _]) hP hD [true, true, true, true] rfl rfl
                rw [hQ9]
                exact W.iret (v := (-1)) hx hb hr (fun t ht hW => ⟨⟨rfl, 3, by rw [ht]; exact hP9, hD9⟩, hS.F ht⟩) hS.2.2 dX11_join_134
            · have c_10 : (kd f).toInt = 6 := zc_eq rfl rfl c_10
              refine lv_aload_n hx hb dX11_join_68 rfl (lv_at hl 1 rfl) ?_
              refine va_get (D := (dC, dI)) (ci := 9) (v := .ref (a 1)) (C := RX11) (T := TX11) (N := 55) hx hb hts inX11 hown hK hP 0 rfl rfl 1 (Nat.le_of_ble_eq_true rfl) (hts _ mw_1160) (fun _ h9 => h9) rfl dX11_join_69 ?_
              refine lv_iload_n hx hb dX11_join_72 rfl (lv_at hl 3 rfl) ?_
              refine z_iald hx hb hK hP 3 0 rfl rfl (e := g) rfl b9_7 (Nat.le_of_ble_eq_true rfl) dX11_join_73 ?_
              refine lv_bipush (v := 6) hx hb dX11_join_74 rfl ?_
              refine lv_icmp_eq (tgt := 83) hx hb dX11_join_76 rfl (fun c_12 => ?_) (fun c_12 => ?_)
              · have c_12 : (kd g).toInt = 6 := zc_eq rfl rfl c_12
                refine lv_iload_n hx hb dX11_join_83 rfl (lv_at hl 4 rfl) ?_
                refine lv_if_lt (tgt := 94) hx hb dX11_join_84 rfl (fun c_13 => ?_) (fun c_13 => ?_)
                · have c_13 : gp9.toInt < 0 := zc_lt rfl rfl c_13
                  refine lv_iconst (v := 4) hx hb dX11_join_94 rfl ?_
                  refine lv_goto (tgt := 121) hx hb dX11_join_95 rfl ?_
                  refine lv_istore (lv' := [(4, .int 4), (0, .ref k0), (1, .int (nI f)), (2, .int (nI g)), (3, .int gp9)]) hx hb dX11_join_121 hl (Nat.le_of_ble_eq_true rfl) rfl (fun ls hl => ?_)
                  refine lv_iload hx hb dX11_join_123 (lv_at hl 0 rfl) ?_
                  refine lv_if_le (tgt := 135) hx hb dX11_join_125 rfl (fun c_14 => ?_) (fun c_14 => ?_)
                  · exact absurd c_14 (by decide)
                  · refine lv_aload_n hx hb dX11_join_128 rfl (lv_at hl 1 rfl) ?_
                    refine lv_iload hx hb dX11_join_129 (lv_at hl 0 rfl) ?_
                    obtain ⟨hPc, hDc, hFc⟩ := zo_sub (wc := [_]) hP hD hS hA [0] rfl rfl
                    refine zcall (st1 := [.int (-1)]) (va_runV (As := [.int 4]) (rest := []) ⟨hx, hb, hml, hown, hts⟩ (k_M_refuse l dC dI cI cZ cF H.size k0 a I0 J0 4 (by decide)) (csV_185 hts rfl rfl ⟨Nat.le_of_ble_eq_true rfl, Nat.le_of_ble_eq_true rfl⟩) (zPV2 (q0 := 0) (ci := 9) hPc hDc hK hXN rfl rfl) rfl rfl hl.1 rfl (lv_room (Nat.le_of_ble_eq_true rfl)) dX11_join_131 ⟨Nat.le_of_ble_eq_true rfl, Nat.le_of_ble_eq_true rfl⟩) hS hFc hFc rfl (fun t H locs ht hB hk1 hS => ?_)
                    obtain ⟨hP1, hD1⟩ := hB
                    rw [ht] at hP1
                    obtain ⟨hP, hD⟩ := zn (W2 := [(om k0 a (upd (upd I0 14 4) 15 (I0 15)) J0), _, _, _]) hP hD hk1 hFc hP1 hD1 [0] [false, true, true, true] [false, true, true, true] [0] (by decide +kernel) rfl rfl rfl rfl rfl
                    clear hk1 hPc hDc hFc hP1 hD1 ht
                    obtain ⟨hP9, hD9⟩ := zu_sub (wc := [_, _, _, _]) hP hD [true, true, true, true] rfl rfl
                    rw [hQ9]
                    exact W.iret (v := (-1)) hx hb hr (fun t ht hW => ⟨⟨rfl, 4, by rw [ht]; exact hP9, hD9⟩, hS.F ht⟩) hS.2.2 dX11_join_134
                · have c_13 : 0 ≤ gp9.toInt := zc_nlt rfl rfl c_13
                  refine lv_iload_n hx hb dX11_join_87 rfl (lv_at hl 4 rfl) ?_
                  refine lv_sipush (v := 1000) hx hb dX11_join_88 rfl ?_
                  refine lv_icmp_le (tgt := 98) hx hb dX11_join_91 rfl (fun c_15 => ?_) (fun c_15 => ?_)
                  · have c_15 : gp9.toInt ≤ 1000 := zc_le rfl rfl c_15
                    refine lv_aload_n hx hb dX11_join_98 rfl (lv_at hl 1 rfl) ?_
                    refine va_get (D := (dC, dI)) (ci := 9) (v := .ref (a 6)) (C := RX11) (T := TX11) (N := 55) hx hb hts inX11 hown hK hP 0 rfl rfl 6 (Nat.le_of_ble_eq_true rfl) (hts _ mw_1165) (fun _ h9 => h9) rfl dX11_join_99 ?_
                    refine lv_iload_n hx hb dX11_join_102 rfl (lv_at hl 2 rfl) ?_
                    refine z_zald hx hb hK hP 2 1 rfl rfl (e := f) rfl b9_3 (Nat.le_of_ble_eq_true rfl) dX11_join_103 ?_
                    refine lv_if_ne (tgt := 116) hx hb dX11_join_104 rfl (fun c_16 => ?_) (fun c_16 => ?_)
                    · have c_16 : ¬ (tn f).toInt = 0 := zc_ne rfl rfl c_16
                      refine lv_iconst (v := 5) hx hb dX11_join_116 rfl ?_
                      refine lv_goto (tgt := 121) hx hb dX11_join_117 rfl ?_
                      refine lv_istore (lv' := [(4, .int 5), (0, .ref k0), (1, .int (nI f)), (2, .int (nI g)), (3, .int gp9)]) hx hb dX11_join_121 hl (Nat.le_of_ble_eq_true rfl) rfl (fun ls hl => ?_)
                      refine lv_iload hx hb dX11_join_123 (lv_at hl 0 rfl) ?_
                      refine lv_if_le (tgt := 135) hx hb dX11_join_125 rfl (fun c_17 => ?_) (fun c_17 => ?_)
                      · exact absurd c_17 (by decide)
                      · refine lv_aload_n hx hb dX11_join_128 rfl (lv_at hl 1 rfl) ?_
                        refine lv_iload hx hb dX11_join_129 (lv_at hl 0 rfl) ?_
                        obtain ⟨hPc, hDc, hFc⟩ := zo_sub (wc := [_]) hP hD hS hA [0] rfl rfl
                        refine zcall (st1 := [.int (-1)]) (va_runV (As := [.int 5]) (rest := []) ⟨hx, hb, hml, hown, hts⟩ (k_M_refuse l dC dI cI cZ cF H.size k0 a I0 J0 5 (by decide)) (csV_185 hts rfl rfl ⟨Nat.le_of_ble_eq_true rfl, Nat.le_of_ble_eq_true rfl⟩) (zPV2 (q0 := 0) (ci := 9) hPc hDc hK hXN rfl rfl) rfl rfl hl.1 rfl (lv_room (Nat.le_of_ble_eq_true rfl)) dX11_join_131 ⟨Nat.le_of_ble_eq_true rfl, Nat.le_of_ble_eq_true rfl⟩) hS hFc hFc rfl (fun t H locs ht hB hk1 hS => ?_)
                        obtain ⟨hP1, hD1⟩ := hB
                        rw [ht] at hP1
                        obtain ⟨hP, hD⟩ := zn (W2 := [(om k0 a (upd (upd I0 14 5) 15 (I0 15)) J0), _, _, _]) hP hD hk1 hFc hP1 hD1 [0] [false, true, true, true] [false, true, true, true] [0] (by decide +kernel) rfl rfl rfl rfl rfl
                        clear hk1 hPc hDc hFc hP1 hD1 ht
                        obtain ⟨hP9, hD9⟩ := zu_sub (wc := [_, _, _, _]) hP hD [true, true, true, true] rfl rfl
                        rw [hQ9]
                        exact W.iret (v := (-1)) hx hb hr (fun t ht hW => ⟨⟨rfl, 5, by rw [ht]; exact hP9, hD9⟩, hS.F ht⟩) hS.2.2 dX11_join_134
                    · have c_16 : (tn f).toInt = 0 := zc_eq rfl rfl c_16
                      refine lv_aload_n hx hb dX11_join_107 rfl (lv_at hl 1 rfl) ?_
                      refine va_get (D := (dC, dI)) (ci := 9) (v := .ref (a 6)) (C := RX11) (T := TX11) (N := 55) hx hb hts inX11 hown hK hP 0 rfl rfl 6 (Nat.le_of_ble_eq_true rfl) (hts _ mw_1165) (fun _ h9 => h9) rfl dX11_join_108 ?_
                      refine lv_iload_n hx hb dX11_join_111 rfl (lv_at hl 3 rfl) ?_
                      refine z_zald hx hb hK hP 2 1 rfl rfl (e := g) rfl b9_7 (Nat.le_of_ble_eq_true rfl) dX11_join_112 ?_
                      refine lv_if_eq (tgt := 120) hx hb dX11_join_113 rfl (fun c_18 => ?_) (fun c_18 => ?_)
                      · have c_18 : (tn g).toInt = 0 := zc_eq rfl rfl c_18
                        refine lv_iconst (v := 0) hx hb dX11_join_120 rfl ?_
                        refine lv_istore (lv' := [(4, .int 0), (0, .ref k0), (1, .int (nI f)), (2, .int (nI g)), (3, .int gp9)]) hx hb dX11_join_121 hl (Nat.le_of_ble_eq_true rfl) rfl (fun ls hl => ?_)
                        refine lv_iload hx hb dX11_join_123 (lv_at hl 0 rfl) ?_
                        refine lv_if_le (tgt := 135) hx hb dX11_join_125 rfl (fun c_19 => ?_) (fun c_19 => ?_)
                        · exfalso; omega
                        · exact absurd (by decide) c_19
                      · have c_18 : ¬ (tn g).toInt = 0 := zc_ne rfl rfl c_18
                        refine lv_iconst (v := 5) hx hb dX11_join_116 rfl ?_
                        refine lv_goto (tgt := 121) hx hb dX11_join_117 rfl ?_
                        refine lv_istore (lv' := [(4, .int 5), (0, .ref k0), (1, .int (nI f)), (2, .int (nI g)), (3, .int gp9)]) hx hb dX11_join_121 hl (Nat.le_of_ble_eq_true rfl) rfl (fun ls hl => ?_)
                        refine lv_iload hx hb dX11_join_123 (lv_at hl 0 rfl) ?_
                        refine lv_if_le (tgt := 135) hx hb dX11_join_125 rfl (fun c_20 => ?_) (fun c_20 => ?_)
                        · exact absurd c_20 (by decide)
                        · refine lv_aload_n hx hb dX11_join_128 rfl (lv_at hl 1 rfl) ?_
                          refine lv_iload hx hb dX11_join_129 (lv_at hl 0 rfl) ?_
                          obtain ⟨hPc, hDc, hFc⟩ := zo_sub (wc := [_]) hP hD hS hA [0] rfl rfl
                          refine zcall (st1 := [.int (-1)]) (va_runV (As := [.int 5]) (rest := []) ⟨hx, hb, hml, hown, hts⟩ (k_M_refuse l dC dI cI cZ cF H.size k0 a I0 J0 5 (by decide)) (csV_185 hts rfl rfl ⟨Nat.le_of_ble_eq_true rfl, Nat.le_of_ble_eq_true rfl⟩) (zPV2 (q0 := 0) (ci := 9) hPc hDc hK hXN rfl rfl) rfl rfl hl.1 rfl (lv_room (Nat.le_of_ble_eq_true rfl)) dX11_join_131 ⟨Nat.le_of_ble_eq_true rfl, Nat.le_of_ble_eq_true rfl⟩) hS hFc hFc rfl (fun t H locs ht hB hk1 hS => ?_)
                          obtain ⟨hP1, hD1⟩ := hB
                          rw [ht] at hP1
                          obtain ⟨hP, hD⟩ := zn (W2 := [(om k0 a (upd (upd I0 14 5) 15 (I0 15)) J0), _, _, _]) hP hD hk1 hFc hP1 hD1 [0] [false, true, true, true] [false, true, true, true] [0] (by decide +kernel) rfl rfl rfl rfl rfl
                          clear hk1 hPc hDc hFc hP1 hD1 ht
                          obtain ⟨hP9, hD9⟩ := zu_sub (wc := [_, _, _, _]) hP hD [true, true, true, true] rfl rfl
                          rw [hQ9]
                          exact W.iret (v := (-1)) hx hb hr (fun t ht hW => ⟨⟨rfl, 5, by rw [ht]; exact hP9, hD9⟩, hS.F ht⟩) hS.2.2 dX11_join_134
                  · have c_15 : 1000 < gp9.toInt := zc_nle rfl rfl c_15
                    refine lv_iconst (v := 4) hx hb dX11_join_94 rfl ?_
                    refine lv_goto (tgt := 121) hx hb dX11_join_95 rfl ?_
                    refine lv_istore (lv' := [(4, .int 4), (0, .ref k0), (1, .int (nI f)), (2, .int (nI g)), (3, .int gp9)]) hx hb dX11_join_121 hl (Nat.le_of_ble_eq_true rfl) rfl (fun ls hl => ?_)
                    refine lv_iload hx hb dX11_join_123 (lv_at hl 0 rfl) ?_
                    refine lv_if_le (tgt := 135) hx hb dX11_join_125 rfl (fun c_21 => ?_) (fun c_21 => ?_)
                    · exact absurd c_21 (by decide)
                    · refine lv_aload_n hx hb dX11_join_128 rfl (lv_at hl 1 rfl) ?_
                      refine lv_iload hx hb dX11_join_129 (lv_at hl 0 rfl) ?_
                      obtain ⟨hPc, hDc, hFc⟩ := zo_sub (wc := [_]) hP hD hS hA [0] rfl rfl
                      refine zcall (st1 := [.int (-1)]) (va_runV (As := [.int 4]) (rest := []) ⟨hx, hb, hml, hown, hts⟩ (k_M_refuse l dC dI cI cZ cF H.size k0 a I0 J0 4 (by decide)) (csV_185 hts rfl rfl ⟨Nat.le_of_ble_eq_true rfl, Nat.le_of_ble_eq_true rfl⟩) (zPV2 (q0 := 0) (ci := 9) hPc hDc hK hXN rfl rfl) rfl rfl hl.1 rfl (lv_room (Nat.le_of_ble_eq_true rfl)) dX11_join_131 ⟨Nat.le_of_ble_eq_true rfl, Nat.le_of_ble_eq_true rfl⟩) hS hFc hFc rfl (fun t H locs ht hB hk1 hS => ?_)
                      obtain ⟨hP1, hD1⟩ := hB
                      rw [ht] at hP1
                      obtain ⟨hP, hD⟩ := zn (W2 := [(om k0 a (upd (upd I0 14 4) 15 (I0 15)) J0), _, _, _]) hP hD hk1 hFc hP1 hD1 [0] [false, true, true, true] [false, true, true, true] [0] (by decide +kernel) rfl rfl rfl rfl rfl
                      clear hk1 hPc hDc hFc hP1 hD1 ht
                      obtain ⟨hP9, hD9⟩ := zu_sub (wc := [_, _, _, _]) hP hD [true, true, true, true] rfl rfl
                      rw [hQ9]
                      exact W.iret (v := (-1)) hx hb hr (fun t ht hW => ⟨⟨rfl, 4, by rw [ht]; exact hP9, hD9⟩, hS.F ht⟩) hS.2.2 dX11_join_134
              · have c_12 : ¬ (kd g).toInt = 6 := zc_ne rfl rfl c_12
                refine lv_iconst (v := 3) hx hb dX11_join_79 rfl ?_
                refine lv_goto (tgt := 121) hx hb dX11_join_80 rfl ?_
                refine lv_istore (lv' := [(4, .int 3), (0, .ref k0), (1, .int (nI f)), (2, .int (nI g)), (3, .int gp9)]) hx hb dX11_join_121 hl (Nat.le_of_ble_eq_true rfl) rfl (fun ls hl => ?_)
                refine lv_iload hx hb dX11_join_123 (lv_at hl 0 rfl) ?_
                refine lv_if_le (tgt := 135) hx hb dX11_join_125 rfl (fun c_22 => ?_) (fun c_22 => ?_)
                · exact absurd c_22 (by decide)
                · refine lv_aload_n hx hb dX11_join_128 rfl (lv_at hl 1 rfl) ?_
                  refine lv_iload hx hb dX11_join_129 (lv_at hl 0 rfl) ?_
                  obtain ⟨hPc, hDc, hFc⟩ := zo_sub (wc := [_]) hP hD hS hA [0] rfl rfl
                  refine zcall (st1 := [.int (-1)]) (va_runV (As := [.int 3]) (rest := []) ⟨hx, hb, hml, hown, hts⟩ (k_M_refuse l dC dI cI cZ cF H.size k0 a I0 J0 3 (by decide)) (csV_185 hts rfl rfl ⟨Nat.le_of_ble_eq_true rfl, Nat.le_of_ble_eq_true rfl⟩) (zPV2 (q0 := 0) (ci := 9) hPc hDc hK hXN rfl rfl) rfl rfl hl.1 rfl (lv_room (Nat.le_of_ble_eq_true rfl)) dX11_join_131 ⟨Nat.le_of_ble_eq_true rfl, Nat.le_of_ble_eq_true rfl⟩) hS hFc hFc rfl (fun t H locs ht hB hk1 hS => ?_)
                  obtain ⟨hP1, hD1⟩ := hB
                  rw [ht] at hP1
                  obtain ⟨hP, hD⟩ := zn (W2 := [(om k0 a (upd (upd I0 14 3) 15 (I0 15)) J0), _, _, _]) hP hD hk1 hFc hP1 hD1 [0] [false, true, true, true] [false, true, true, true] [0] (by decide +kernel) rfl rfl rfl rfl rfl
                  clear hk1 hPc hDc hFc hP1 hD1 ht
                  obtain ⟨hP9, hD9⟩ := zu_sub (wc := [_, _, _, _]) hP hD [true, true, true, true] rfl rfl
                  rw [hQ9]
                  exact W.iret (v := (-1)) hx hb hr (fun t ht hW => ⟨⟨rfl, 3, by rw [ht]; exact hP9, hD9⟩, hS.F ht⟩) hS.2.2 dX11_join_134
          · exact absurd (by decide) c_9
        · have c_8 : ¬ (st g).toInt = 1 := zc_ne rfl rfl c_8
          refine lv_iconst (v := 2) hx hb dX11_join_40 rfl ?_
          refine lv_goto (tgt := 45) hx hb dX11_join_41 rfl ?_
          refine lv_istore (lv' := [(4, .int 2), (0, .ref k0), (1, .int (nI f)), (2, .int (nI g)), (3, .int gp9)]) hx hb dX11_join_45 hl (Nat.le_of_ble_eq_true rfl) rfl (fun ls hl => ?_)
          refine lv_iload hx hb dX11_join_47 (lv_at hl 0 rfl) ?_
          refine lv_if_le (tgt := 57) hx hb dX11_join_49 rfl (fun c_23 => ?_) (fun c_23 => ?_)
          · exact absurd c_23 (by decide)
          · refine lv_iload hx hb dX11_join_52 (lv_at hl 0 rfl) ?_
            refine lv_goto (tgt := 121) hx hb dX11_join_54 rfl ?_
            refine lv_istore (lv' := [(4, .int 2), (0, .ref k0), (1, .int (nI f)), (2, .int (nI g)), (3, .int gp9)]) hx hb dX11_join_121 hl (Nat.le_of_ble_eq_true rfl) rfl (fun ls hl => ?_)
            refine lv_iload hx hb dX11_join_123 (lv_at hl 0 rfl) ?_
            refine lv_if_le (tgt := 135) hx hb dX11_join_125 rfl (fun c_24 => ?_) (fun c_24 => ?_)
            · exact absurd c_24 (by decide)
            · refine lv_aload_n hx hb dX11_join_128 rfl (lv_at hl 1 rfl) ?_
              refine lv_iload hx hb dX11_join_129 (lv_at hl 0 rfl) ?_
              obtain ⟨hPc, hDc, hFc⟩ := zo_sub (wc := [_]) hP hD hS hA [0] rfl rfl
              refine zcall (st1 := [.int (-1)]) (va_runV (As := [.int 2]) (rest := []) ⟨hx, hb, hml, hown, hts⟩ (k_M_refuse l dC dI cI cZ cF H.size k0 a I0 J0 2 (by decide)) (csV_185 hts rfl rfl ⟨Nat.le_of_ble_eq_true rfl, Nat.le_of_ble_eq_true rfl⟩) (zPV2 (q0 := 0) (ci := 9) hPc hDc hK hXN rfl rfl) rfl rfl hl.1 rfl (lv_room (Nat.le_of_ble_eq_true rfl)) dX11_join_131 ⟨Nat.le_of_ble_eq_true rfl, Nat.le_of_ble_eq_true rfl⟩) hS hFc hFc rfl (fun t H locs ht hB hk1 hS => ?_)
              obtain ⟨hP1, hD1⟩ := hB
              rw [ht] at hP1
              obtain ⟨hP, hD⟩ := zn (W2 := [(om k0 a (upd (upd I0 14 2) 15 (I0 15)) J0), _, _, _]) hP hD hk1 hFc hP1 hD1 [0] [false, true, true, true] [false, true, true, true] [0] (by decide +kernel) rfl rfl rfl rfl rfl
              clear hk1 hPc hDc hFc hP1 hD1 ht
              obtain ⟨hP9, hD9⟩ := zu_sub (wc := [_, _, _, _]) hP hD [true, true, true, true] rfl rfl
              rw [hQ9]
              exact W.iret (v := (-1)) hx hb hr (fun t ht hW => ⟨⟨rfl, 2, by rw [ht]; exact hP9, hD9⟩, hS.F ht⟩) hS.2.2 dX11_join_134
    · have c_2 : ¬ (g < ft) := zp_0 c_2
      exfalso; omega
end
section
set_option maxHeartbeats 4000000 in
set_option maxRecDepth 100000 in
theorem k_M_join_4 (l : Launch) (dC : Nat → ClassId) (dI : Nat → Nat → Nat) (cI cZ cF : ClassId) (sz : Nat) (k0 : Nat) (a : Nat → Nat) (I0 : Nat → Int32) (J0 : Nat → Int64) (f : Nat) (n : Nat) (g : Nat) (m2 : Nat) (ft : Nat) (gp9 : Int32) (st : Nat → Int32) (tn : Nat → Int32) (kd : Nat → Int32) (mn : Nat → Int32) (cx : Nat → Int32) (cy : Nat → Int32) (S0 : Nat → Int32) (hft : I0 0 = nI ft) (h200 : ft ≤ 200) (hf_f : f ≤ 200) (hm_f : mn f = nI n) (hn_f : 1 ≤ n ∧ n ≤ 40) (hp_f : pls n (cF40 cx f) (cF40 cy f)) (hf_g : g ≤ 200) (hm_g : mn g = nI m2) (hn_g : 1 ≤ m2 ∧ m2 ≤ 40) (hp_g : pls m2 (cF40 cx g) (cF40 cy g)) (hf_t : f < ft) (hg_t : g < ft) (hok : ((st f).toInt = 1 ∧ (st g).toInt = 1) ∧ ((kd f).toInt = 6 ∧ (kd g).toInt = 6) ∧ (0 ≤ gp9.toInt ∧ gp9.toInt ≤ 1000) ∧ ((tn f).toInt = 0 ∧ (tn g).toInt = 0)) (hmt : ¬ mtF (kd f).toInt n (cF40 cx f) (cF40 cy f) (kd g).toInt m2 (cF40 cx g) (cF40 cy g)) (he_f : 1 ≤ eO (kd f).toInt n) (he_g : 1 ≤ eO (kd g).toInt m2) (hfar : ∀ u d : Nat, 1 ≤ d → IM (dcP n (cF40 cx f) (cF40 cy f) m2 (cF40 cx g) (cF40 cy g) (eO (kd g).toInt m2) (eO (kd f).toInt n) 0) ((u : Nat) : Int) ((d : Nat) : Int) → gp9.toInt * gp9.toInt * ((d : Nat) : Int) < ((u : Nat) : Int)) : zM l yX11_join cX11_join 9 (some .int) ({ frames := 5, cells := 0, slots := 0, locals := 129 } : Room) [.ref k0, .int (nI f), .int (nI g), .int gp9] (dC, dI) (zTy cI cZ cF) [(om k0 a I0 J0), (oa (a 5) cI 201 st), (oa (a 6) cZ 201 tn), (oa (a 1) cI 201 kd), (oa (a 11) cI 201 mn), (oa (a 12) cI 8040 cx), (oa (a 13) cI 8040 cy), (oa (a 32) cI 8 S0)] sz (some (.int (-1))) (fun A t => ∃ (uq : Nat), ∃ (dq : Nat), ∃ (S1 : Nat → Int32), zPD (dC, dI) classes A [(om k0 a (upd (upd I0 14 4) 15 (I0 15)) (vp_updL (vp_updL J0 48 (jI ((uq : Nat) : Int))) 49 (jI ((dq : Nat) : Int)))), (oa (a 5) cI 201 st), (oa (a 6) cZ 201 tn), (oa (a 1) cI 201 kd), (oa (a 11) cI 201 mn), (oa (a 12) cI 8040 cx), (oa (a 13) cI 8040 cy), (oa (a 32) cI 8 S1)] t.heap) 0 0 := by
  refine zIn (own := "ScaleShopModel") (loc := [(0, .ref k0), (1, .int (nI f)), (2, .int (nI g)), (3, .int gp9)]) rfl rfl rfl rfl (fun p e s m below meth c hx hb hr hts hown hlocks hml hnm9 A hA hS hP hD hK hXN Q9 hQ9 ls hl => ?_)
  refine lv_aload_n hx hb dX11_join_0 rfl (lv_at hl 0 rfl) ?_
  refine lv_iload_n hx hb dX11_join_1 rfl (lv_at hl 1 rfl) ?_
  obtain ⟨hPc, hDc, hFc, hI1⟩ := zi_sub (wc := [_]) hP hD hS hA [0] rfl rfl
  refine zcall (st1 := [.int (pI (f < ft))]) (va_runV (As := [.int (nI f)]) (rest := []) ⟨hx, hb, hml, hown, hts⟩ (k_M_isFeature_n l dC dI cI cZ cF s.heap.size k0 a I0 J0 f ft (by first | with_reducible assumption | assumption) (by first | with_reducible assumption | omega) (by first | with_reducible assumption | omega)) (csV_178 hts rfl rfl ⟨Nat.le_of_ble_eq_true rfl, Nat.le_of_ble_eq_true rfl⟩) (zPV2 (q0 := 0) (ci := 9) hPc hDc hK hXN rfl rfl) rfl rfl hl.1 rfl (lv_room (Nat.le_of_ble_eq_true rfl)) dX11_join_2 ⟨Nat.le_of_ble_eq_true rfl, Nat.le_of_ble_eq_true rfl⟩) hS hFc hFc rfl (fun t H locs ht hB hk1 hS => ?_)
  obtain ⟨hP1, hD1⟩ := hB
  rw [ht] at hP1
  replace hP := z0 hP hD hk1 hP1 hI1
  clear hk1 hPc hDc hFc hP1 hD1 ht hI1
  refine lv_if_eq (tgt := 16) hx hb dX11_join_5 rfl (fun c_1 => ?_) (fun c_1 => ?_)
  · have c_1 : ¬ (f < ft) := zp_0 c_1
    exfalso; omega
  · have c_1 : f < ft := zp_1 c_1
    refine lv_aload_n hx hb dX11_join_8 rfl (lv_at hl 0 rfl) ?_
    refine lv_iload_n hx hb dX11_join_9 rfl (lv_at hl 2 rfl) ?_
    obtain ⟨hPc, hDc, hFc, hI1⟩ := zi_sub (wc := [_]) hP hD hS hA [0] rfl rfl
    refine zcall (st1 := [.int (pI (g < ft))]) (va_runV (As := [.int (nI g)]) (rest := []) ⟨hx, hb, hml, hown, hts⟩ (k_M_isFeature_n l dC dI cI cZ cF H.size k0 a I0 J0 g ft (by first | with_reducible assumption | assumption) (by first | with_reducible assumption | omega) (by first | with_reducible assumption | omega)) (csV_178 hts rfl rfl ⟨Nat.le_of_ble_eq_true rfl, Nat.le_of_ble_eq_true rfl⟩) (zPV2 (q0 := 0) (ci := 9) hPc hDc hK hXN rfl rfl) rfl rfl hl.1 rfl (lv_room (Nat.le_of_ble_eq_true rfl)) dX11_join_10 ⟨Nat.le_of_ble_eq_true rfl, Nat.le_of_ble_eq_true rfl⟩) hS hFc hFc rfl (fun t H locs ht hB hk1 hS => ?_)
    obtain ⟨hP1, hD1⟩ := hB
    rw [ht] at hP1
    replace hP := z0 hP hD hk1 hP1 hI1
    clear hk1 hPc hDc hFc hP1 hD1 ht hI1
    refine lv_if_ne (tgt := 20) hx hb dX11_join_13 rfl (fun c_2 => ?_) (fun c_2 => ?_)
    · have c_2 : g < ft := zp_1 c_2
      refine lv_aload_n hx hb dX11_join_20 rfl (lv_at hl 0 rfl) ?_
      refine va_get (D := (dC, dI)) (ci := 9) (v := .ref (a 5)) (C := RX11) (T := TX11) (N := 55) hx hb hts inX11 hown hK hP 0 rfl rfl 5 (Nat.le_of_ble_eq_true rfl) (hts _ mw_1164) (fun _ h9 => h9) rfl dX11_join_21 ?_
      refine lv_iload_n hx hb dX11_join_24 rfl (lv_at hl 1 rfl) ?_
      have b9_3 : f < 201 := by omega
      refine z_iald hx hb hK hP 1 0 rfl rfl (e := f) rfl b9_3 (Nat.le_of_ble_eq_true rfl) dX11_join_25 ?_
      refine lv_iconst (v := 1) hx hb dX11_join_26 rfl ?_
      refine lv_icmp_ne (tgt := 40) hx hb dX11_join_27 rfl (fun c_4 => ?_) (fun c_4 => ?_)
      · have c_4 : ¬ (st f).toInt = 1 := zc_ne rfl rfl c_4
        exfalso; omega
      · have c_4 : (st f).toInt = 1 := zc_eq rfl rfl c_4
        refine lv_aload_n hx hb dX11_join_30 rfl (lv_at hl 0 rfl) ?_
        refine va_get (D := (dC, dI)) (ci := 9) (v := .ref (a 5)) (C := RX11) (T := TX11) (N := 55) hx hb hts inX11 hown hK hP 0 rfl rfl 5 (Nat.le_of_ble_eq_true rfl) (hts _ mw_1164) (fun _ h9 => h9) rfl dX11_join_31 ?_
        refine lv_iload_n hx hb dX11_join_34 rfl (lv_at hl 2 rfl) ?_
        have b9_5 : g < 201 := by omega
        refine z_iald hx hb hK hP 1 0 rfl rfl (e := g) rfl b9_5 (Nat.le_of_ble_eq_true rfl) dX11_join_35 ?_
        refine lv_iconst (v := 1) hx hb dX11_join_36 rfl ?_
        refine lv_icmp_eq (tgt := 44) hx hb dX11_join_37 rfl (fun c_6 => ?_) (fun c_6 => ?_)
        · have c_6 : (st g).toInt = 1 := zc_eq rfl rfl c_6
          refine lv_iconst (v := 0) hx hb dX11_join_44 rfl ?_
          refine lv_istore (lv' := [(4, .int 0), (0, .ref k0), (1, .int (nI f)), (2, .int (nI g)), (3, .int gp9)]) hx hb dX11_join_45 hl (Nat.le_of_ble_eq_true rfl) rfl (fun ls hl => ?_)
          refine lv_iload hx hb dX11_join_47 (lv_at hl 0 rfl) ?_
          refine lv_if_le (tgt := 57) hx hb dX11_join_49 rfl (fun c_7 => ?_) (fun c_7 => ?_)
          · refine lv_aload_n hx hb dX11_join_57 rfl (lv_at hl 1 rfl) ?_
            refine va_get (D := (dC, dI)) (ci := 9) (v := .ref (a 1)) (C := RX11) (T := TX11) (N := 55) hx hb hts inX11 hown hK hP 0 rfl rfl 1 (Nat.le_of_ble_eq_true rfl) (hts _ mw_1160) (fun _ h9 => h9) rfl dX11_join_58 ?_
            refine lv_iload_n hx hb dX11_join_61 rfl (lv_at hl 2 rfl) ?_
            refine z_iald hx hb hK hP 3 0 rfl rfl (e := f) rfl b9_3 (Nat.le_of_ble_eq_true rfl) dX11_join_62 ?_
            refine lv_bipush (v := 6) hx hb dX11_join_63 rfl ?_
            refine lv_icmp_ne (tgt := 79) hx hb dX11_join_65 rfl (fun c_8 => ?_) (fun c_8 => ?_)
            · have c_8 : ¬ (kd f).toInt = 6 := zc_ne rfl rfl c_8
              exfalso; omega
            · have c_8 : (kd f).toInt = 6 := zc_eq rfl rfl c_8
              refine lv_aload_n hx hb dX11_join_68 rfl (lv_at hl 1 rfl) ?_
              refine va_get (D := (dC, dI)) (ci := 9) (v := .ref (a 1)) (C := RX11) (T := TX11) (N := 55) hx hb hts inX11 hown hK hP 0 rfl rfl 1 (Nat.le_of_ble_eq_true rfl) (hts _ mw_1160) (fun _ h9 => h9) rfl dX11_join_69 ?_
              refine lv_iload_n hx hb dX11_join_72 rfl (lv_at hl 3 rfl) ?_
              refine z_iald hx hb hK hP 3 0 rfl rfl (e := g) rfl b9_5 (Nat.le_of_ble_eq_true rfl) dX11_join_73 ?_
              refine lv_bipush (v := 6) hx hb dX11_join_74 rfl ?_
              refine lv_icmp_eq (tgt := 83) hx hb dX11_join_76 rfl (fun c_9 => ?_) (fun c_9 => ?_)
              · have c_9 : (kd g).toInt = 6 := zc_eq rfl rfl c_9
                refine lv_iload_n hx hb dX11_join_83 rfl (lv_at hl 4 rfl) ?_
                refine lv_if_lt (tgt := 94) hx hb dX11_join_84 rfl (fun c_10 => ?_) (fun c_10 => ?_)
                · have c_10 : gp9.toInt < 0 := zc_lt rfl rfl c_10
                  exfalso; omega
                · have c_10 : 0 ≤ gp9.toInt := zc_nlt rfl rfl c_10
                  refine lv_iload_n hx hb dX11_join_87 rfl (lv_at hl 4 rfl) ?_
                  refine lv_sipush (v := 1000) hx hb dX11_join_88 rfl ?_
                  refine lv_icmp_le (tgt := 98) hx hb dX11_join_91 rfl (fun c_11 => ?_) (fun c_11 => ?_)
                  · have c_11 : gp9.toInt ≤ 1000 := zc_le rfl rfl c_11
                    refine lv_aload_n hx hb dX11_join_98 rfl (lv_at hl 1 rfl) ?_
                    refine va_get (D := (dC, dI)) (ci := 9) (v := .ref (a 6)) (C := RX11) (T := TX11) (N := 55) hx hb hts inX11 hown hK hP 0 rfl rfl 6 (Nat.le_of_ble_eq_true rfl) (hts _ mw_1165) (fun _ h9 => h9) rfl dX11_join_99 ?_
                    refine lv_iload_n hx hb dX11_join_102 rfl (lv_at hl 2 rfl) ?_
                    refine z_zald hx hb hK hP 2 1 rfl rfl (e := f) rfl b9_3 (Nat.le_of_ble_eq_true rfl) dX11_join_103 ?_
                    refine lv_if_ne (tgt := 116) hx hb dX11_join_104 rfl (fun c_12 => ?_) (fun c_12 => ?_)
                    · have c_12 : ¬ (tn f).toInt = 0 := zc_ne rfl rfl c_12
                      exfalso; omega
                    · have c_12 : (tn f).toInt = 0 := zc_eq rfl rfl c_12
                      refine lv_aload_n hx hb dX11_join_107 rfl (lv_at hl 1 rfl) ?_
                      refine va_get (D := (dC, dI)) (ci := 9) (v := .ref (a 6)) (C := RX11) (T := TX11) (N := 55) hx hb hts inX11 hown hK hP 0 rfl rfl 6 (Nat.le_of_ble_eq_true rfl) (hts _ mw_1165) (fun _ h9 => h9) rfl dX11_join_108 ?_
                      refine lv_iload_n hx hb dX11_join_111 rfl (lv_at hl 3 rfl) ?_
                      refine z_zald hx hb hK hP 2 1 rfl rfl (e := g) rfl b9_5 (Nat.le_of_ble_eq_true rfl) dX11_join_112 ?_
                      refine lv_if_eq (tgt := 120) hx hb dX11_join_113 rfl (fun c_13 => ?_) (fun c_13 => ?_)
                      · have c_13 : (tn g).toInt = 0 := zc_eq rfl rfl c_13
                        refine lv_iconst (v := 0) hx hb dX11_join_120 rfl ?_
                        refine lv_istore (lv' := [(4, .int 0), (0, .ref k0), (1, .int (nI f)), (2, .int (nI g)), (3, .int gp9)]) hx hb dX11_join_121 hl (Nat.le_of_ble_eq_true rfl) rfl (fun ls hl => ?_)
                        refine lv_iload hx hb dX11_join_123 (lv_at hl 0 rfl) ?_
                        refine lv_if_le (tgt := 135) hx hb dX11_join_125 rfl (fun c_14 => ?_) (fun c_14 => ?_)
                        · refine lv_aload_n hx hb dX11_join_135 rfl (lv_at hl 1 rfl) ?_
                          refine lv_iload_n hx hb dX11_join_136 rfl (lv_at hl 2 rfl) ?_
                          refine lv_iload_n hx hb dX11_join_137 rfl (lv_at hl 3 rfl) ?_
                          obtain ⟨hPc, hDc, hFc⟩ := zo_sub (wc := [_, _, _, _, _, _]) hP hD hS hA [0, 3, 4, 5, 6, 7] (by decide +kernel) rfl
                          refine zcall (st1 := []) (va_runV (As := [.int (nI f), .int (nI g)]) (rest := []) ⟨hx, hb, hml, hown, hts⟩ (k_M_distance_n l dC dI cI cZ cF H.size k0 a I0 J0 f n g m2 kd mn cx cy S0 (by first | with_reducible assumption | omega) (by first | with_reducible assumption | assumption) (by first | with_reducible assumption | omega) (by first | with_reducible assumption | assumption) (by first | with_reducible assumption | omega) (by first | with_reducible assumption | assumption) (by first | with_reducible assumption | omega) (by first | with_reducible assumption | assumption) (hmt) (he_f) (he_g)) (csV_226 hts rfl rfl ⟨Nat.le_of_ble_eq_true rfl, Nat.le_of_ble_eq_true rfl⟩) (zPV2 (q0 := 0) (ci := 9) hPc hDc hK hXN rfl rfl) rfl rfl hl.1 rfl (lv_room (Nat.le_of_ble_eq_true rfl)) dX11_join_138 ⟨Nat.le_of_ble_eq_true rfl, Nat.le_of_ble_eq_true rfl⟩) hS hFc hFc rfl (fun t H locs ht hB hk1 hS => ?_)
                          obtain ⟨un, dd, S1, hmin, hub, hP1, hD1⟩ := hB
                          rw [ht] at hP1
                          obtain ⟨hP, hD⟩ := zn (W2 := [(om k0 a I0 (vp_updL (vp_updL J0 48 (jI ((un / Nat.gcd un dd : Nat) : Int))) 49 (jI ((dd / Nat.gcd un dd : Nat) : Int)))), _, _, _, _, _, _, (oa (a 32) cI 8 S1)]) hP hD hk1 hFc hP1 hD1 [0, 3, 4, 5, 6, 7] [false, true, true] zl_146 [0, 3, 4, 5, 6, 7] (by decide +kernel) rfl rfl rfl rfl rfl
                          clear hk1 hPc hDc hFc hP1 hD1 ht
                          have hge := Nat.gcd_pos_of_pos_right un (show 0 < dd by omega)
                          have hq1 : un / Nat.gcd un dd ≤ un := Nat.div_le_self _ _
                          have hq2 : dd / Nat.gcd un dd ≤ dd := Nat.div_le_self _ _
                          have hcm := rd_lt (c := gp9.toInt * gp9.toInt) (u := un) (d := dd) hub.2.1
                          obtain ⟨uq, huq⟩ : ∃ uq, uq = un / Nat.gcd un dd := ⟨_, rfl⟩
                          obtain ⟨dq, hdq⟩ : ∃ dq, dq = dd / Nat.gcd un dd := ⟨_, rfl⟩
                          rw [← huq, ← hdq] at hP hD hcm
                          rw [← huq] at hq1
                          rw [← hdq] at hq2
                          have hgb := gpB9 (g := gp9) (D := dq) hok.2.2.1 (by omega)
                          refine lv_aload_n hx hb dX11_join_141 rfl (lv_at hl 1 rfl) ?_
                          refine va_get (D := (dC, dI)) (ci := 9) (v := .long (jI ((uq : Nat) : Int))) (C := RX11) (T := TX11) (N := 55) hx hb hts inX11 hown hK hP 0 rfl rfl 48 (Nat.le_of_ble_eq_true rfl) (hts _ mw_1207) (fun _ h9 => h9) rfl dX11_join_142 ?_
                          refine lv_iload_n hx hb dX11_join_145 rfl (lv_at hl 4 rfl) ?_
                          refine lv_i2l (v := gp9.toInt64) hx hb dX11_join_146 (rfl) ?_
                          refine lv_iload_n hx hb dX11_join_147 rfl (lv_at hl 4 rfl) ?_
                          refine lv_i2l (v := gp9.toInt64) hx hb dX11_join_148 (rfl) ?_
                          refine lv_lmul hx hb dX11_join_149 ?_
                          refine lv_aload_n hx hb dX11_join_150 rfl (lv_at hl 1 rfl) ?_
                          refine va_get (D := (dC, dI)) (ci := 9) (v := .long (jI ((dq : Nat) : Int))) (C := RX11) (T := TX11) (N := 55) hx hb hts inX11 hown hK hP 0 rfl rfl 49 (Nat.le_of_ble_eq_true rfl) (hts _ mw_1208) (fun _ h9 => h9) rfl dX11_join_151 ?_
                          refine lv_lmul hx hb dX11_join_154 ?_
                          refine zz_l (v := jI (gp9.toInt * gp9.toInt * ((dq : Nat) : Int))) (gpL hok.2.2.1 (by omega)) ?_
                          refine W.lcmp hx hb dX11_join_155 ?_
                          refine lv_if_le (tgt := 165) hx hb dX11_join_156 rfl (fun c_15 => ?_) (fun c_15 => ?_)
                          · have c_15 : ((uq : Nat) : Int) ≤ (gp9.toInt * gp9.toInt * ((dq : Nat) : Int)) := zl_le (jI_toInt (by omega)) (jI_toInt (by omega)) c_15
                            exfalso; have h9 := hcm.mpr (hfar un dd hub.2.1 hmin); omega
                          · have c_15 : (gp9.toInt * gp9.toInt * ((dq : Nat) : Int)) < ((uq : Nat) : Int) := zl_nle (jI_toInt (by omega)) (jI_toInt (by omega)) c_15
                            refine lv_aload_n hx hb dX11_join_159 rfl (lv_at hl 1 rfl) ?_
                            refine lv_iconst (v := 4) hx hb dX11_join_160 rfl ?_
                            obtain ⟨hPc, hDc, hFc⟩ := zo_sub (wc := [_]) hP hD hS hA [0] rfl rfl
                            refine zcall (st1 := [.int (-1)]) (va_runV (As := [.int 4]) (rest := []) ⟨hx, hb, hml, hown, hts⟩ (k_M_refuse l dC dI cI cZ cF H.size k0 a I0 (vp_updL (vp_updL J0 48 (jI ((uq : Nat) : Int))) 49 (jI ((dq : Nat) : Int))) 4 (by decide)) (csV_185 hts rfl rfl ⟨Nat.le_of_ble_eq_true rfl, Nat.le_of_ble_eq_true rfl⟩) (zPV2 (q0 := 0) (ci := 9) hPc hDc hK hXN rfl rfl) rfl rfl hl.1 rfl (lv_room (Nat.le_of_ble_eq_true rfl)) dX11_join_161 ⟨Nat.le_of_ble_eq_true rfl, Nat.le_of_ble_eq_true rfl⟩) hS hFc hFc rfl (fun t H locs ht hB hk1 hS => ?_)
                            obtain ⟨hP1, hD1⟩ := hB
                            rw [ht] at hP1
                            obtain ⟨hP, hD⟩ := zn (W2 := [(om k0 a (upd (upd I0 14 4) 15 (I0 15)) (vp_updL (vp_updL J0 48 (jI ((uq : Nat) : Int))) 49 (jI ((dq : Nat) : Int)))), _, _, _, _, _, _, _]) hP hD hk1 hFc hP1 hD1 [0] zl_54 zl_54 [0] (by decide +kernel) rfl rfl rfl rfl rfl
                            clear hk1 hPc hDc hFc hP1 hD1 ht
                            obtain ⟨hP9, hD9⟩ := zu_sub (wc := [_, _, _, _, _, _, _, _]) hP hD [true, true, true, true, true, true, true, true] rfl rfl
                            rw [hQ9]
                            exact W.iret (v := (-1)) hx hb hr (fun t ht hW => ⟨⟨rfl, uq, dq, S1, by rw [ht]; exact hP9, hD9⟩, hS.F ht⟩) hS.2.2 dX11_join_164
                        · exact absurd (by decide) c_14
                      · have c_13 : ¬ (tn g).toInt = 0 := zc_ne rfl rfl c_13
                        exfalso; omega
                  · have c_11 : 1000 < gp9.toInt := zc_nle rfl rfl c_11
                    exfalso; omega
              · have c_9 : ¬ (kd g).toInt = 6 := zc_ne rfl rfl c_9
                exfalso; omega
          · exact absurd (by decide) c_7
        · have c_6 : ¬ (st g).toInt = 1 := zc_ne rfl rfl c_6
          exfalso; omega
    · have c_2 : ¬ (g < ft) := zp_0 c_2
      exfalso; omega
end
section
set_option maxHeartbeats 4000000 in
set_option maxRecDepth 100000 in
theorem k_M_box_w (l : Launch) (dC : Nat → ClassId) (dI : Nat → Nat → Nat) (cI cZ cF : ClassId) (sz : Nat) (k0 : Nat) (a : Nat → Nat) (I0 : Nat → Int32) (J0 : Nat → Int64) (f : Nat) (n : Nat) (y1 : Int32) (y2 : Int32) (y3 : Int32) (y4 : Int32) (mn : Nat → Int32) (cx : Nat → Int32) (cy : Nat → Int32) (hf_f : f ≤ 200) (hm_f : mn f = nI n) (hn_f : 1 ≤ n ∧ n ≤ 40) (hp_f : pls n (cF40 cx f) (cF40 cy f)) : zM l yX11_box cX11_box 7 none ({ frames := 1, cells := 0, slots := 0, locals := 14 } : Room) [.ref k0, .int (nI f), .int 0] (dC, dI) (zTy cI cZ cF) [(om k0 a (upd (upd (upd (upd I0 44 y1) 45 y2) 46 y3) 47 y4) J0), (oa (a 11) cI 201 mn), (oa (a 12) cI 8040 cx), (oa (a 13) cI 8040 cy)] sz none (fun A t => ∃ (x1 : Int32), ∃ (x2 : Int32), ∃ (x3 : Int32), ∃ (x4 : Int32), (x1.toInt = mnI y1.toInt (cF40 cx f) n) ∧ (x2.toInt = mnI y2.toInt (cF40 cy f) n) ∧ (x3.toInt = mxI y3.toInt (cF40 cx f) n) ∧ (x4.toInt = mxI y4.toInt (cF40 cy f) n) ∧ zPD (dC, dI) classes A [(om k0 a (upd (upd (upd (upd I0 44 x1) 45 x2) 46 x3) 47 x4) J0), (oa (a 11) cI 201 mn), (oa (a 12) cI 8040 cx), (oa (a 13) cI 8040 cy)] t.heap) 0 0 := by
  refine zIn (own := "ScaleShopModel") (loc := [(0, .ref k0), (1, .int (nI f)), (2, .int 0)]) rfl rfl rfl rfl (fun p e s m below meth c hx hb hr hts hown hlocks hml hnm9 A hA hS hP hD hK hXN Q9 hQ9 ls hl => ?_)
  refine lv_iconst (v := 0) hx hb dX11_box_0 rfl ?_
  refine lv_istore_n (lv' := [(3, .int 0), (0, .ref k0), (1, .int (nI f)), (2, .int 0)]) hx hb dX11_box_1 rfl hl (Nat.le_of_ble_eq_true rfl) rfl (fun ls hl => ?_)
  have hl_2 : ∀ (n9 : Nat) (k : Nat) (x1 : Int32) (x2 : Int32) (x3 : Int32) (x4 : Int32) (H : Heap) (locs : List Loc) (ls : Array Slot), n - k < n9 → (k ≤ n) → (x1.toInt = mnI y1.toInt (cF40 cx f) k ∧ x2.toInt = mnI y2.toInt (cF40 cy f) k ∧ x3.toInt = mxI y3.toInt (cF40 cx f) k ∧ x4.toInt = mxI y4.toInt (cF40 cy f) k) → va_P (dC, dI) classes [(om k0 a (upd (upd (upd (upd I0 44 x1) 45 x2) 46 x3) 47 x4) J0), (oa (a 11) cI 201 mn), (oa (a 12) cI 8040 cx), (oa (a 13) cI 8040 cy)] H → va_D A [(om k0 a (upd (upd (upd (upd I0 44 x1) 45 x2) 46 x3) 47 x4) J0), (oa (a 11) cI 201 mn), (oa (a 12) cI 8040 cx), (oa (a 13) cI 8040 cy)] → va_S A s.heap H locs → lv_has ls 7 [(3, .int (nI k)), (0, .ref k0), (1, .int (nI f)), (2, .int 0)] → W p l e ({ frames := 1, cells := 0, slots := 0, locals := 14 } : Room) s m ([.ref k0, .int (nI f), .int 0] : List Value).toArray below meth c H locs 0 0 Q9 (F0 m 2 ls []) := by
    intro n9
    induction n9 with
    | zero => intro k x1 x2 x3 x4 H locs ls hm; exact absurd hm (Nat.not_lt_zero _)
    | succ n9 ih_2 =>
      intro k x1 x2 x3 x4 H locs ls hm hk hz hP hD hS hl
      refine lv_iload_n hx hb dX11_box_2 rfl (lv_at hl 0 rfl) ?_
      refine lv_aload_n hx hb dX11_box_3 rfl (lv_at hl 1 rfl) ?_
      refine va_get (D := (dC, dI)) (ci := 9) (v := .ref (a 11)) (C := RX11) (T := TX11) (N := 55) hx hb hts inX11 hown hK hP 0 rfl rfl 11 (Nat.le_of_ble_eq_true rfl) (hts _ mw_1170) (fun _ h9 => h9) rfl dX11_box_4 ?_
      refine lv_iload_n hx hb dX11_box_7 rfl (lv_at hl 2 rfl) ?_
      have b9_1 : f < 201 := by omega
      refine z_iald hx hb hK hP 1 0 rfl rfl (e := f) rfl b9_1 (Nat.le_of_ble_eq_true rfl) dX11_box_8 ?_
      refine zz_i (v := nI n) (hm_f) ?_
      have b9_3 : zlt (k) := show k < 2147483648 by omega
      have b9_4 : zlt (n) := show n < 2147483648 by omega
      refine lv_icmp_ge (tgt := 151) hx hb dX11_box_9 rfl (fun c_2 => ?_) (fun c_2 => ?_)
      · have c_2 : ((n : Nat) : Int) ≤ ((k : Nat) : Int) := zc_le (nI_toInt b9_4) (nI_toInt b9_3) c_2
        have hkn : k = n := (by omega)
        rw [hkn] at hz
        obtain ⟨hP9, hD9⟩ := zu_sub (wc := [_, _, _, _]) hP hD [true, true, true, true] rfl rfl
        rw [hQ9]
        exact W.vret hx hb hr (fun t ht hW => ⟨⟨rfl, x1, x2, x3, x4, (hz.1), (hz.2.1), (hz.2.2.1), (hz.2.2.2), by rw [ht]; exact hP9, hD9⟩, hS.F ht⟩) hS.2.2 dX11_box_151
      · have c_2 : ((k : Nat) : Int) < ((n : Nat) : Int) := zc_nle (nI_toInt b9_4) (nI_toInt b9_3) c_2
        have hk9 : k < n := (by omega)
        refine lv_aload_n hx hb dX11_box_12 rfl (lv_at hl 1 rfl) ?_
        refine va_get (D := (dC, dI)) (ci := 9) (v := .ref (a 12)) (C := RX11) (T := TX11) (N := 55) hx hb hts inX11 hown hK hP 0 rfl rfl 12 (Nat.le_of_ble_eq_true rfl) (hts _ mw_1171) (fun _ h9 => h9) rfl dX11_box_13 ?_
        refine lv_bipush (v := 40) hx hb dX11_box_16 rfl ?_
        refine lv_iload_n hx hb dX11_box_18 rfl (lv_at hl 2 rfl) ?_
        refine lv_imul hx hb dX11_box_19 ?_
        refine zz_i (v := nI (40 * f)) (pk_mul 40 f) ?_
        refine lv_iload_n hx hb dX11_box_20 rfl (lv_at hl 0 rfl) ?_
        refine lv_iadd hx hb dX11_box_21 ?_
        refine zz_i (v := nI (40 * f + k)) (nI_add (40 * f) k) ?_
        have b9_5 : 40 * f + k < 8040 := by omega
        refine z_iald hx hb hK hP 2 0 rfl rfl (e := 40 * f + k) rfl b9_5 (Nat.le_of_ble_eq_true rfl) dX11_box_22 ?_
        refine zz_i (v := cF40 cx f k) (rfl) ?_
        refine lv_istore (lv' := [(4, .int (cF40 cx f k)), (3, .int (nI k)), (0, .ref k0), (1, .int (nI f)), (2, .int 0)]) hx hb dX11_box_23 hl (Nat.le_of_ble_eq_true rfl) rfl (fun ls hl => ?_)
        refine lv_aload_n hx hb dX11_box_25 rfl (lv_at hl 2 rfl) ?_
        refine va_get (D := (dC, dI)) (ci := 9) (v := .ref (a 13)) (C := RX11) (T := TX11) (N := 55) hx hb hts inX11 hown hK hP 0 rfl rfl 13 (Nat.le_of_ble_eq_true rfl) (hts _ mw_1172) (fun _ h9 => h9) rfl dX11_box_26 ?_
        refine lv_bipush (v := 40) hx hb dX11_box_29 rfl ?_
        refine lv_iload_n hx hb dX11_box_31 rfl (lv_at hl 3 rfl) ?_
        refine lv_imul hx hb dX11_box_32 ?_
        refine zz_i (v := nI (40 * f)) (pk_mul 40 f) ?_
        refine lv_iload_n hx hb dX11_box_33 rfl (lv_at hl 1 rfl) ?_
        refine lv_iadd hx hb dX11_box_34 ?_
        refine zz_i (v := nI (40 * f + k)) (nI_add (40 * f) k) ?_
        refine z_iald hx hb hK hP 3 0 rfl rfl (e := 40 * f + k) rfl b9_5 (Nat.le_of_ble_eq_true rfl) dX11_box_35 ?_
        refine zz_i (v := cF40 cy f k) (rfl) ?_
        refine lv_istore (lv' := [(5, .int (cF40 cy f k)), (4, .int (cF40 cx f k)), (3, .int (nI k)), (0, .ref k0), (1, .int (nI f)), (2, .int 0)]) hx hb dX11_box_36 hl (Nat.le_of_ble_eq_true rfl) rfl (fun ls hl => ?_)
        refine lv_iload_n hx hb dX11_box_38 rfl (lv_at hl 5 rfl) ?_
        refine lv_if_eq (tgt := 50) hx hb dX11_box_39 rfl (fun c_6 => ?_) (fun c_6 => ?_)
        · refine lv_iconst (v := 0) hx hb dX11_box_50 rfl ?_
          refine lv_istore (lv' := [(6, .int 0), (5, .int (cF40 cy f k)), (4, .int (cF40 cx f k)), (3, .int (nI k)), (0, .ref k0), (1, .int (nI f)), (2, .int 0)]) hx hb dX11_box_51 hl (Nat.le_of_ble_eq_true rfl) rfl (fun ls hl => ?_)
          refine lv_aload_n hx hb dX11_box_53 rfl (lv_at hl 4 rfl) ?_
          refine lv_iload hx hb dX11_box_54 (lv_at hl 0 rfl) ?_
          refine lv_if_eq (tgt := 64) hx hb dX11_box_56 rfl (fun c_7 => ?_) (fun c_7 => ?_)
          · refine lv_aload_n hx hb dX11_box_64 rfl (lv_at hl 4 rfl) ?_
            refine va_get (D := (dC, dI)) (ci := 9) (v := .int x1) (C := RX11) (T := TX11) (N := 55) hx hb hts inX11 hown hK hP 0 rfl rfl 44 (Nat.le_of_ble_eq_true rfl) (hts _ mw_1203) (fun _ h9 => h9) rfl dX11_box_65 ?_
            refine lv_iload hx hb dX11_box_68 (lv_at hl 2 rfl) ?_
            refine va_mmin hx hb (by rw [hml]; exact hl.1.symm) hown (hts _ mw_1397) (hts _ mw_858) (hts _ mw_103) (hts _ mw_mincode) (Nat.le_of_ble_eq_true rfl) (Nat.le_of_ble_eq_true rfl) (Nat.le_of_ble_eq_true rfl) (Nat.le_of_ble_eq_true rfl) dX11_box_70 ?_
            refine lv_topi (fun v_8 ev_8 => ?_)
            have hv_8 : v_8.toInt = min x1.toInt (cF40 cx f k).toInt := zmin rfl rfl ev_8
            refine va_put (D := (dC, dI)) (ci := 9) (v := .int v_8) (ty := .int) (C := RX11) (T := TX11) (N := 55) hx hb hts inX11 tyX11 tyX11_ok nmX11 hown hK hP hD hS 0 rfl rfl 44 (by decide) (hts _ mw_1203) (fun _ h9 => h9) rfl (by decide +kernel) rfl rfl (Nat.le_of_ble_eq_true rfl) dX11_box_73 (fun H locs hP hD hS => ?_)
            obtain ⟨hP, hD⟩ := zre (W2 := [(om k0 a (upd (upd (upd (upd I0 44 v_8) 45 x2) 46 x3) 47 x4) J0), _, _, _]) hP hD rfl
            refine lv_aload_n hx hb dX11_box_76 rfl (lv_at hl 4 rfl) ?_
            refine lv_iload hx hb dX11_box_77 (lv_at hl 0 rfl) ?_
            refine lv_if_eq (tgt := 87) hx hb dX11_box_79 rfl (fun c_9 => ?_) (fun c_9 => ?_)
            · refine lv_aload_n hx hb dX11_box_87 rfl (lv_at hl 4 rfl) ?_
              refine va_get (D := (dC, dI)) (ci := 9) (v := .int x2) (C := RX11) (T := TX11) (N := 55) hx hb hts inX11 hown hK hP 0 rfl rfl 45 (Nat.le_of_ble_eq_true rfl) (hts _ mw_1204) (fun _ h9 => h9) rfl dX11_box_88 ?_
              refine lv_iload hx hb dX11_box_91 (lv_at hl 1 rfl) ?_
              refine va_mmin hx hb (by rw [hml]; exact hl.1.symm) hown (hts _ mw_1397) (hts _ mw_858) (hts _ mw_103) (hts _ mw_mincode) (Nat.le_of_ble_eq_true rfl) (Nat.le_of_ble_eq_true rfl) (Nat.le_of_ble_eq_true rfl) (Nat.le_of_ble_eq_true rfl) dX11_box_93 ?_
              refine lv_topi (fun v_10 ev_10 => ?_)
              have hv_10 : v_10.toInt = min x2.toInt (cF40 cy f k).toInt := zmin rfl rfl ev_10
              refine va_put (D := (dC, dI)) (ci := 9) (v := .int v_10) (ty := .int) (C := RX11) (T := TX11) (N := 55) hx hb hts inX11 tyX11 tyX11_ok nmX11 hown hK hP hD hS 0 rfl rfl 45 (by decide) (hts _ mw_1204) (fun _ h9 => h9) rfl (by decide +kernel) rfl rfl (Nat.le_of_ble_eq_true rfl) dX11_box_96 (fun H locs hP hD hS => ?_)
              obtain ⟨hP, hD⟩ := zre (W2 := [(om k0 a (upd (upd (upd (upd I0 44 v_8) 45 v_10) 46 x3) 47 x4) J0), _, _, _]) hP hD rfl
              refine lv_aload_n hx hb dX11_box_99 rfl (lv_at hl 4 rfl) ?_
              refine lv_iload hx hb dX11_box_100 (lv_at hl 0 rfl) ?_
              refine lv_if_eq (tgt := 110) hx hb dX11_box_102 rfl (fun c_11 => ?_) (fun c_11 => ?_)
              · refine lv_aload_n hx hb dX11_box_110 rfl (lv_at hl 4 rfl) ?_
                refine va_get (D := (dC, dI)) (ci := 9) (v := .int x3) (C := RX11) (T := TX11) (N := 55) hx hb hts inX11 hown hK hP 0 rfl rfl 46 (Nat.le_of_ble_eq_true rfl) (hts _ mw_1205) (fun _ h9 => h9) rfl dX11_box_111 ?_
                refine lv_iload hx hb dX11_box_114 (lv_at hl 2 rfl) ?_
                refine va_mmax hx hb (by rw [hml]; exact hl.1.symm) hown (hts _ mw_1398) (hts _ mw_159) (hts _ mw_103) (hts _ mw_maxcode) (Nat.le_of_ble_eq_true rfl) (Nat.le_of_ble_eq_true rfl) (Nat.le_of_ble_eq_true rfl) (Nat.le_of_ble_eq_true rfl) dX11_box_116 ?_
                refine lv_topi (fun v_12 ev_12 => ?_)
                have hv_12 : v_12.toInt = max x3.toInt (cF40 cx f k).toInt := zmax rfl rfl ev_12
                refine va_put (D := (dC, dI)) (ci := 9) (v := .int v_12) (ty := .int) (C := RX11) (T := TX11) (N := 55) hx hb hts inX11 tyX11 tyX11_ok nmX11 hown hK hP hD hS 0 rfl rfl 46 (by decide) (hts _ mw_1205) (fun _ h9 => h9) rfl (by decide +kernel) rfl rfl (Nat.le_of_ble_eq_true rfl) dX11_box_119 (fun H locs hP hD hS => ?_)
                obtain ⟨hP, hD⟩ := zre (W2 := [(om k0 a (upd (upd (upd (upd I0 44 v_8) 45 v_10) 46 v_12) 47 x4) J0), _, _, _]) hP hD rfl
                refine lv_aload_n hx hb dX11_box_122 rfl (lv_at hl 4 rfl) ?_
                refine lv_iload hx hb dX11_box_123 (lv_at hl 0 rfl) ?_
                refine lv_if_eq (tgt := 133) hx hb dX11_box_125 rfl (fun c_13 => ?_) (fun c_13 => ?_)
                · refine lv_aload_n hx hb dX11_box_133 rfl (lv_at hl 4 rfl) ?_
                  refine va_get (D := (dC, dI)) (ci := 9) (v := .int x4) (C := RX11) (T := TX11) (N := 55) hx hb hts inX11 hown hK hP 0 rfl rfl 47 (Nat.le_of_ble_eq_true rfl) (hts _ mw_1206) (fun _ h9 => h9) rfl dX11_box_134 ?_
                  refine lv_iload hx hb dX11_box_137 (lv_at hl 1 rfl) ?_
                  refine va_mmax hx hb (by rw [hml]; exact hl.1.symm) hown (hts _ mw_1398) (hts _ mw_159) (hts _ mw_103) (hts _ mw_maxcode) (Nat.le_of_ble_eq_true rfl) (Nat.le_of_ble_eq_true rfl) (Nat.le_of_ble_eq_true rfl) (Nat.le_of_ble_eq_true rfl) dX11_box_139 ?_
                  refine lv_topi (fun v_14 ev_14 => ?_)
                  have hv_14 : v_14.toInt = max x4.toInt (cF40 cy f k).toInt := zmax rfl rfl ev_14
                  refine va_put (D := (dC, dI)) (ci := 9) (v := .int v_14) (ty := .int) (C := RX11) (T := TX11) (N := 55) hx hb hts inX11 tyX11 tyX11_ok nmX11 hown hK hP hD hS 0 rfl rfl 47 (by decide) (hts _ mw_1206) (fun _ h9 => h9) rfl (by decide +kernel) rfl rfl (Nat.le_of_ble_eq_true rfl) dX11_box_142 (fun H locs hP hD hS => ?_)
                  obtain ⟨hP, hD⟩ := zre (W2 := [(om k0 a (upd (upd (upd (upd I0 44 v_8) 45 v_10) 46 v_12) 47 v_14) J0), _, _, _]) hP hD rfl
                  refine lv_iinc (v := nI (k + 1)) (lv' := [(3, .int (nI (k + 1))), (6, .int 0), (5, .int (cF40 cy f k)), (4, .int (cF40 cx f k)), (0, .ref k0), (1, .int (nI f)), (2, .int 0)]) hx hb dX11_box_145 hl (k := 3) rfl (nI_add k 1) (Nat.le_of_ble_eq_true rfl) rfl (fun ls hl => ?_)
                  refine lv_goto (tgt := 2) hx hb dX11_box_148 rfl ?_
                  exact ih_2 (k + 1) v_8 v_10 v_12 v_14 H locs ls (by first | with_reducible assumption | omega) (by first | with_reducible assumption | omega) (by rw [mnI_s, mnI_s, mxI_s, mxI_s]; omega) hP hD hS (lv_sub hl [0, 4, 5, 6] rfl)
                · exact absurd (by decide) c_13
              · exact absurd (by decide) c_11
            · exact absurd (by decide) c_9
          · exact absurd (by decide) c_7
        · exact absurd (by decide) c_6
  exact hl_2 _ 0 y1 y2 y3 y4 s.heap [] ls (Nat.lt_succ_self _) (by first | with_reducible assumption | omega) (⟨rfl, rfl, rfl, rfl⟩) hP hD hS (lv_sub hl [0, 1, 2, 3] rfl)
end
section
set_option maxHeartbeats 4000000 in
set_option maxRecDepth 100000 in
theorem k_M_distance_a (l : Launch) (dC : Nat → ClassId) (dI : Nat → Nat → Nat) (cI cZ cF : ClassId) (sz : Nat) (k0 : Nat) (a : Nat → Nat) (I0 : Nat → Int32) (J0 : Nat → Int64) (f : Nat) (n : Nat) (g : Nat) (m2 : Nat) (kd : Nat → Int32) (mn : Nat → Int32) (cx : Nat → Int32) (cy : Nat → Int32) (S0 : Nat → Int32) (hf_f : f ≤ 200) (hm_f : mn f = nI n) (hn_f : 1 ≤ n ∧ n ≤ 40) (hp_f : pls n (cF40 cx f) (cF40 cy f)) (hf_g : g ≤ 200) (hm_g : mn g = nI m2) (hn_g : 1 ≤ m2 ∧ m2 ≤ 40) (hp_g : pls m2 (cF40 cx g) (cF40 cy g)) (he_f : 1 ≤ eO (kd f).toInt n) (he_g : 1 ≤ eO (kd g).toInt m2) : zM l yX11_distance cX11_distance 5 none ({ frames := 4, cells := 0, slots := 0, locals := 105 } : Room) [.ref k0, .int (nI f), .int (nI g)] (dC, dI) (zTy cI cZ cF) [(om k0 a I0 J0), (oa (a 1) cI 201 kd), (oa (a 11) cI 201 mn), (oa (a 12) cI 8040 cx), (oa (a 13) cI 8040 cy), (oa (a 32) cI 8 S0)] sz none (fun A t => ∃ (uq : Nat), ∃ (dq : Nat), ∃ (S1 : Nat → Int32), (∀ c9 : Int, (0 ≤ c9 → (c9 * ((dq : Nat) : Int) < ((uq : Nat) : Int) ↔ (¬ mtF (kd f).toInt n (cF40 cx f) (cF40 cy f) (kd g).toInt m2 (cF40 cx g) (cF40 cy g) ∧ ∀ u d : Nat, 1 ≤ d → IM (dcP n (cF40 cx f) (cF40 cy f) m2 (cF40 cx g) (cF40 cy g) (eO (kd g).toInt m2) (eO (kd f).toInt n) 0) ((u : Nat) : Int) ((d : Nat) : Int) → c9 * ((d : Nat) : Int) < ((u : Nat) : Int))))) ∧ (uq ≤ 4000000000000 ∧ 1 ≤ dq ∧ dq ≤ 2000000) ∧ zPD (dC, dI) classes A [(om k0 a I0 (vp_updL (vp_updL J0 48 (jI ((uq : Nat) : Int))) 49 (jI ((dq : Nat) : Int)))), (oa (a 1) cI 201 kd), (oa (a 11) cI 201 mn), (oa (a 12) cI 8040 cx), (oa (a 13) cI 8040 cy), (oa (a 32) cI 8 S1)] t.heap) 0 0 := by
  refine zIn (own := "ScaleShopModel") (loc := [(0, .ref k0), (1, .int (nI f)), (2, .int (nI g))]) rfl rfl rfl rfl (fun p e s m below meth c hx hb hr hts hown hlocks hml hnm9 A hA hS hP hD hK hXN Q9 hQ9 ls hl => ?_)
  have hef := eO_le (k := (kd f).toInt) hn_f.1
  have heg := eO_le (k := (kd g).toInt) hn_g.1
  refine lv_aload_n hx hb dX11_distance_0 rfl (lv_at hl 0 rfl) ?_
  refine lv_lconst (v := 0) hx hb dX11_distance_1 rfl ?_
  refine zz_l (v := jI ((0 : Nat) : Int)) (jI_0) ?_
  refine va_put (D := (dC, dI)) (ci := 9) (v := .long (jI ((0 : Nat) : Int))) (ty := .long) (C := RX11) (T := TX11) (N := 55) hx hb hts inX11 tyX11 tyX11_ok nmX11 hown hK hP hD hS 0 rfl rfl 48 (by decide) (hts _ mw_1207) (fun _ h9 => h9) rfl (by decide +kernel) rfl rfl (Nat.le_of_ble_eq_true rfl) dX11_distance_2 (fun H locs hP hD hS => ?_)
  obtain ⟨hP, hD⟩ := zre (W2 := [(om k0 a I0 (vp_updL J0 48 (jI ((0 : Nat) : Int)))), _, _, _, _, _]) hP hD rfl
  refine lv_aload_n hx hb dX11_distance_5 rfl (lv_at hl 0 rfl) ?_
  refine lv_lconst (v := 0) hx hb dX11_distance_6 rfl ?_
  refine zz_l (v := jI ((0 : Nat) : Int)) (jI_0) ?_
  refine va_put (D := (dC, dI)) (ci := 9) (v := .long (jI ((0 : Nat) : Int))) (ty := .long) (C := RX11) (T := TX11) (N := 55) hx hb hts inX11 tyX11 tyX11_ok nmX11 hown hK hP hD hS 0 rfl rfl 49 (by decide) (hts _ mw_1208) (fun _ h9 => h9) rfl (by decide +kernel) rfl rfl (Nat.le_of_ble_eq_true rfl) dX11_distance_7 (fun H locs hP hD hS => ?_)
  obtain ⟨hP, hD⟩ := zre (W2 := [(om k0 a I0 (vp_updL (vp_updL J0 48 (jI ((0 : Nat) : Int))) 49 (jI ((0 : Nat) : Int)))), _, _, _, _, _]) hP hD rfl
  refine lv_aload_n hx hb dX11_distance_10 rfl (lv_at hl 0 rfl) ?_
  refine lv_iload_n hx hb dX11_distance_11 rfl (lv_at hl 1 rfl) ?_
  refine lv_iload_n hx hb dX11_distance_12 rfl (lv_at hl 2 rfl) ?_
  obtain ⟨hPc, hDc, hFc⟩ := zo_sub (wc := [_, _, _, _, _, _]) hP hD hS hA [0, 1, 2, 3, 4, 5] (by decide +kernel) rfl
  refine zcall (st1 := [.int (pI (∃ i, i < eO (kd f).toInt n ∧ ∃ j, j < eO (kd g).toInt m2 ∧ eMt n (cF40 cx f) (cF40 cy f) i m2 (cF40 cx g) (cF40 cy g) j))]) (va_runV (As := [.int (nI f), .int (nI g)]) (rest := []) ⟨hx, hb, hml, hown, hts⟩ (k_M_isMet l dC dI cI cZ cF H.size k0 a I0 (vp_updL (vp_updL J0 48 (jI ((0 : Nat) : Int))) 49 (jI ((0 : Nat) : Int))) f n g m2 kd mn cx cy S0 (by first | with_reducible assumption | omega) (by first | with_reducible assumption | assumption) (by first | with_reducible assumption | omega) (by first | with_reducible assumption | assumption) (by first | with_reducible assumption | omega) (by first | with_reducible assumption | assumption) (by first | with_reducible assumption | omega) (by first | with_reducible assumption | assumption)) (csV_180 hts rfl rfl ⟨Nat.le_of_ble_eq_true rfl, Nat.le_of_ble_eq_true rfl⟩) (zPV2 (q0 := 0) (ci := 9) hPc hDc hK hXN rfl rfl) rfl rfl hl.1 rfl (lv_room (Nat.le_of_ble_eq_true rfl)) dX11_distance_13 ⟨Nat.le_of_ble_eq_true rfl, Nat.le_of_ble_eq_true rfl⟩) hS hFc hFc rfl (fun t H locs ht hB hk1 hS => ?_)
  obtain ⟨q_1, hP1, hD1⟩ := hB
  rw [ht] at hP1
  obtain ⟨hP, hD⟩ := zn (W2 := [_, _, _, _, _, (oa (a 32) cI 8 q_1)]) hP hD hk1 hFc hP1 hD1 [0, 1, 2, 3, 4, 5] [] [false, false, false, false, false, false] [0, 1, 2, 3, 4, 5] (by decide +kernel) rfl rfl rfl rfl rfl
  clear hk1 hPc hDc hFc hP1 hD1 ht
  refine zz_i (v := pI (mtF (kd f).toInt n (cF40 cx f) (cF40 cy f) (kd g).toInt m2 (cF40 cx g) (cF40 cy g))) (rfl) ?_
  refine lv_if_eq (tgt := 25) hx hb dX11_distance_16 rfl (fun c_2 => ?_) (fun c_2 => ?_)
  · have c_2 : ¬ (mtF (kd f).toInt n (cF40 cx f) (cF40 cy f) (kd g).toInt m2 (cF40 cx g) (cF40 cy g)) := zp_0 c_2
    refine lv_iconst (v := 0) hx hb dX11_distance_25 rfl ?_
    refine lv_istore_n (lv' := [(3, .int 0), (0, .ref k0), (1, .int (nI f)), (2, .int (nI g))]) hx hb dX11_distance_26 rfl hl (Nat.le_of_ble_eq_true rfl) rfl (fun ls hl => ?_)
    have hl_27 : ∀ (n9 : Nat) (i : Nat) (S1 : Nat → Int32) (u : Int) (d : Int) (H : Heap) (locs : List Loc) (ls : Array Slot), eO (kd f).toInt n - i < n9 → (i ≤ eO (kd f).toInt n) → (IM (dcP n (cF40 cx f) (cF40 cy f) m2 (cF40 cx g) (cF40 cy g) (eO (kd g).toInt m2) i 0) u d) → ((0 ≤ u ∧ u ≤ 4000000000000) ∧ (0 ≤ d ∧ d ≤ 2000000)) → va_P (dC, dI) classes [(om k0 a I0 (vp_updL (vp_updL J0 48 (jI u)) 49 (jI d))), (oa (a 1) cI 201 kd), (oa (a 11) cI 201 mn), (oa (a 12) cI 8040 cx), (oa (a 13) cI 8040 cy), (oa (a 32) cI 8 S1)] H → va_D A [(om k0 a I0 (vp_updL (vp_updL J0 48 (jI u)) 49 (jI d))), (oa (a 1) cI 201 kd), (oa (a 11) cI 201 mn), (oa (a 12) cI 8040 cx), (oa (a 13) cI 8040 cy), (oa (a 32) cI 8 S1)] → va_S A s.heap H locs → lv_has ls 5 [(3, .int (nI i)), (0, .ref k0), (1, .int (nI f)), (2, .int (nI g))] → W p l e ({ frames := 4, cells := 0, slots := 0, locals := 105 } : Room) s m ([.ref k0, .int (nI f), .int (nI g)] : List Value).toArray below meth c H locs 0 0 Q9 (F0 m 27 ls []) := by
      intro n9
      induction n9 with
      | zero => intro i S1 u d H locs ls hm; exact absurd hm (Nat.not_lt_zero _)
      | succ n9 ih_27 =>
        intro i S1 u d H locs ls hm hi him hud hP hD hS hl
        refine lv_iload_n hx hb dX11_distance_27 rfl (lv_at hl 0 rfl) ?_
        refine lv_aload_n hx hb dX11_distance_28 rfl (lv_at hl 1 rfl) ?_
        refine lv_iload_n hx hb dX11_distance_29 rfl (lv_at hl 2 rfl) ?_
        obtain ⟨hPc, hDc, hFc, hI1⟩ := zi_sub (wc := [_, _, _]) hP hD hS hA [0, 1, 2] rfl rfl
        refine zcall (st1 := [.int (nI (eO (kd f).toInt n)), .int (nI i)]) (va_runV (As := [.int (nI f)]) (rest := [.int (nI i)]) ⟨hx, hb, hml, hown, hts⟩ (k_M_edgesOf l dC dI cI cZ cF H.size k0 a I0 (vp_updL (vp_updL J0 48 (jI u)) 49 (jI d)) f n kd mn (by first | with_reducible assumption | omega) (by first | with_reducible assumption | assumption) (by first | with_reducible assumption | omega)) (csV_166 hts rfl rfl ⟨Nat.le_of_ble_eq_true rfl, Nat.le_of_ble_eq_true rfl⟩) (zPV2 (q0 := 0) (ci := 9) hPc hDc hK hXN rfl rfl) rfl rfl hl.1 rfl (lv_room (Nat.le_of_ble_eq_true rfl)) dX11_distance_30 ⟨Nat.le_of_ble_eq_true rfl, Nat.le_of_ble_eq_true rfl⟩) hS hFc hFc rfl (fun t H locs ht hB hk1 hS => ?_)
        obtain ⟨hP1, hD1⟩ := hB
        rw [ht] at hP1
        replace hP := z0 hP hD hk1 hP1 hI1
        clear hk1 hPc hDc hFc hP1 hD1 ht hI1
        have b9_4 : zlt (i) := show i < 2147483648 by omega
        have b9_5 : zlt ((eO (kd f).toInt n)) := show (eO (kd f).toInt n) < 2147483648 by omega
        refine lv_icmp_ge (tgt := 162) hx hb dX11_distance_33 rfl (fun c_3 => ?_) (fun c_3 => ?_)
        · have c_3 : ((eO (kd f).toInt n : Nat) : Int) ≤ ((i : Nat) : Int) := zc_le (nI_toInt b9_5) (nI_toInt b9_4) c_3
          have hie : i = eO (kd f).toInt n := (by omega)
          rw [hie] at him
          have hd1 := dcP_e him he_f he_g
          obtain ⟨un, hun⟩ : ∃ un : Nat, u = ((un : Nat) : Int) := ⟨u.toNat, by omega⟩
          obtain ⟨dd, hdd⟩ : ∃ dd : Nat, d = ((dd : Nat) : Int) := ⟨d.toNat, by omega⟩
          rw [hun, hdd] at hP hD
          refine lv_aload_n hx hb dX11_distance_162 rfl (lv_at hl 1 rfl) ?_
          obtain ⟨hPc, hDc, hFc⟩ := zo_sub (wc := [_]) hP hD hS hA [0] rfl rfl
          refine zcall (st1 := []) (va_runV (As := []) (rest := []) ⟨hx, hb, hml, hown, hts⟩ (k_M_plainFraction l dC dI cI cZ cF H.size k0 a I0 (vp_updL (vp_updL J0 48 (jI ((un : Nat) : Int))) 49 (jI ((dd : Nat) : Int))) un dd (by first | with_reducible assumption | omega) (by first | with_reducible assumption | omega)) (csV_224 hts rfl rfl ⟨Nat.le_of_ble_eq_true rfl, Nat.le_of_ble_eq_true rfl⟩) (zPV2 (q0 := 0) (ci := 9) hPc hDc hK hXN rfl rfl) rfl rfl hl.1 rfl (lv_room (Nat.le_of_ble_eq_true rfl)) dX11_distance_163 ⟨Nat.le_of_ble_eq_true rfl, Nat.le_of_ble_eq_true rfl⟩) hS hFc hFc rfl (fun t H locs ht hB hk1 hS => ?_)
          obtain ⟨hP1, hD1⟩ := hB
          rw [ht] at hP1
          obtain ⟨hP, hD⟩ := zn (W2 := [(om k0 a I0 (vp_updL (vp_updL J0 48 (jI ((un / Nat.gcd un dd : Nat) : Int))) 49 (jI ((dd / Nat.gcd un dd : Nat) : Int)))), _, _, _, _, _]) hP hD hk1 hFc hP1 hD1 [0] [false, true, true, true, true, true] [false, true, true, true, true, true] [0] (by decide +kernel) rfl rfl rfl rfl rfl
          clear hk1 hPc hDc hFc hP1 hD1 ht
          obtain ⟨hP9, hD9⟩ := zu_sub (wc := [_, _, _, _, _, _]) hP hD [true, true, true, true, true, true] rfl rfl
          rw [hQ9]
          exact W.vret hx hb hr (fun t ht hW => ⟨⟨rfl, (un / Nat.gcd un dd), (dd / Nat.gcd un dd), S1, (fun c9 hc9 => (rd_lt (u := un) (d := dd) (by omega)).trans ⟨fun h9 => ⟨by assumption, fun u9 d9 hd9 hI9 => im_lt (by rw [← hun, ← hdd]; exact him) hI9 (by omega) (by omega) h9⟩, fun h9 => h9.2 un dd (by omega) (by rw [← hun, ← hdd]; exact him)⟩), (dq_b (by omega)), by rw [ht]; exact hP9, hD9⟩, hS.F ht⟩) hS.2.2 dX11_distance_166
        · have c_3 : ((i : Nat) : Int) < ((eO (kd f).toInt n : Nat) : Int) := zc_nle (nI_toInt b9_5) (nI_toInt b9_4) c_3
          have hin9 : i < n := (by omega)
          have hnx := nxt_lt (n := n) (i := i) (by omega)
          refine lv_aload_n hx hb dX11_distance_36 rfl (lv_at hl 1 rfl) ?_
          refine lv_iload_n hx hb dX11_distance_37 rfl (lv_at hl 2 rfl) ?_
          refine lv_iload_n hx hb dX11_distance_38 rfl (lv_at hl 0 rfl) ?_
          refine lv_iconst (v := 0) hx hb dX11_distance_39 rfl ?_
          obtain ⟨hPc, hDc, hFc⟩ := zo_sub (wc := [_, _, _, _, _]) hP hD hS hA [0, 2, 3, 4, 5] (by decide +kernel) rfl
          refine zcall (st1 := []) (va_runV (As := [.int (nI f), .int (nI i), .int 0]) (rest := []) ⟨hx, hb, hml, hown, hts⟩ (k_M_edge l dC dI cI cZ cF H.size k0 a I0 (vp_updL (vp_updL J0 48 (jI u)) 49 (jI d)) f n i 0 mn cx cy S1 (by first | with_reducible assumption | omega) (by first | with_reducible assumption | assumption) (by first | with_reducible assumption | omega) (by first | with_reducible assumption | omega) (by first | with_reducible assumption | omega)) (csV_167 hts rfl rfl ⟨Nat.le_of_ble_eq_true rfl, Nat.le_of_ble_eq_true rfl⟩) (zPV2 (q0 := 0) (ci := 9) hPc hDc hK hXN rfl rfl) rfl rfl hl.1 rfl (lv_room (Nat.le_of_ble_eq_true rfl)) dX11_distance_40 ⟨Nat.le_of_ble_eq_true rfl, Nat.le_of_ble_eq_true rfl⟩) hS hFc hFc rfl (fun t H locs ht hB hk1 hS => ?_)
          obtain ⟨S2, t0, t1, t2, t3, tr, hP1, hD1⟩ := hB
          rw [ht] at hP1
          obtain ⟨hP, hD⟩ := zn (W2 := [_, _, _, _, _, (oa (a 32) cI 8 S2)]) hP hD hk1 hFc hP1 hD1 [0, 2, 3, 4, 5] [false, true] [false, true, false, false, false, false] [0, 2, 3, 4, 5] (by decide +kernel) rfl rfl rfl rfl rfl
          clear hk1 hPc hDc hFc hP1 hD1 ht
          refine lv_iconst (v := 0) hx hb dX11_distance_43 rfl ?_
          refine lv_istore (lv' := [(4, .int 0), (3, .int (nI i)), (0, .ref k0), (1, .int (nI f)), (2, .int (nI g))]) hx hb dX11_distance_44 hl (Nat.le_of_ble_eq_true rfl) rfl (fun ls hl => ?_)
          have hl_46 : ∀ (n9 : Nat) (k : Nat) (S2 : Nat → Int32) (u2 : Int) (d2 : Int) (H : Heap) (locs : List Loc) (ls : Array Slot), eO (kd g).toInt m2 - k < n9 → (k ≤ eO (kd g).toInt m2) → (S2 0 = cx (40 * f + i)) → (S2 1 = cy (40 * f + i)) → (S2 2 = cx (40 * f + nxt n i)) → (S2 3 = cy (40 * f + nxt n i)) → (IM (dcP n (cF40 cx f) (cF40 cy f) m2 (cF40 cx g) (cF40 cy g) (eO (kd g).toInt m2) i k) u2 d2) → ((0 ≤ u2 ∧ u2 ≤ 4000000000000) ∧ (0 ≤ d2 ∧ d2 ≤ 2000000)) → va_P (dC, dI) classes [(om k0 a I0 (vp_updL (vp_updL J0 48 (jI u2)) 49 (jI d2))), (oa (a 1) cI 201 kd), (oa (a 11) cI 201 mn), (oa (a 12) cI 8040 cx), (oa (a 13) cI 8040 cy), (oa (a 32) cI 8 S2)] H → va_D A [(om k0 a I0 (vp_updL (vp_updL J0 48 (jI u2)) 49 (jI d2))), (oa (a 1) cI 201 kd), (oa (a 11) cI 201 mn), (oa (a 12) cI 8040 cx), (oa (a 13) cI 8040 cy), (oa (a 32) cI 8 S2)] → va_S A s.heap H locs → lv_has ls 5 [(4, .int (nI k)), (3, .int (nI i)), (0, .ref k0), (1, .int (nI f)), (2, .int (nI g))] → W p l e ({ frames := 4, cells := 0, slots := 0, locals := 105 } : Room) s m ([.ref k0, .int (nI f), .int (nI g)] : List Value).toArray below meth c H locs 0 0 Q9 (F0 m 46 ls []) := by
            intro n9
            induction n9 with
            | zero => intro k S2 u2 d2 H locs ls hm; exact absurd hm (Nat.not_lt_zero _)
            | succ n9 ih_46 =>
              intro k S2 u2 d2 H locs ls hm hk g0 g1 g2 g3 him2 hud2 hP hD hS hl
              refine lv_iload hx hb dX11_distance_46 (lv_at hl 0 rfl) ?_
              refine lv_aload_n hx hb dX11_distance_48 rfl (lv_at hl 2 rfl) ?_
              refine lv_iload_n hx hb dX11_distance_49 rfl (lv_at hl 4 rfl) ?_
              obtain ⟨hPc, hDc, hFc, hI1⟩ := zi_sub (wc := [_, _, _]) hP hD hS hA [0, 1, 2] rfl rfl
              refine zcall (st1 := [.int (nI (eO (kd g).toInt m2)), .int (nI k)]) (va_runV (As := [.int (nI g)]) (rest := [.int (nI k)]) ⟨hx, hb, hml, hown, hts⟩ (k_M_edgesOf l dC dI cI cZ cF H.size k0 a I0 (vp_updL (vp_updL J0 48 (jI u2)) 49 (jI d2)) g m2 kd mn (by first | with_reducible assumption | omega) (by first | with_reducible assumption | assumption) (by first | with_reducible assumption | omega)) (csV_166 hts rfl rfl ⟨Nat.le_of_ble_eq_true rfl, Nat.le_of_ble_eq_true rfl⟩) (zPV2 (q0 := 0) (ci := 9) hPc hDc hK hXN rfl rfl) rfl rfl hl.1 rfl (lv_room (Nat.le_of_ble_eq_true rfl)) dX11_distance_50 ⟨Nat.le_of_ble_eq_true rfl, Nat.le_of_ble_eq_true rfl⟩) hS hFc hFc rfl (fun t H locs ht hB hk1 hS => ?_)
              obtain ⟨hP1, hD1⟩ := hB
              rw [ht] at hP1
              replace hP := z0 hP hD hk1 hP1 hI1
              clear hk1 hPc hDc hFc hP1 hD1 ht hI1
              have b9_7 : zlt (k) := show k < 2147483648 by omega
              have b9_8 : zlt ((eO (kd g).toInt m2)) := show (eO (kd g).toInt m2) < 2147483648 by omega
              refine lv_icmp_ge (tgt := 156) hx hb dX11_distance_53 rfl (fun c_6 => ?_) (fun c_6 => ?_)
              · have c_6 : ((eO (kd g).toInt m2 : Nat) : Int) ≤ ((k : Nat) : Int) := zc_le (nI_toInt b9_8) (nI_toInt b9_7) c_6
                refine lv_iinc (v := nI (i + 1)) (lv' := [(3, .int (nI (i + 1))), (4, .int (nI k)), (0, .ref k0), (1, .int (nI f)), (2, .int (nI g))]) hx hb dX11_distance_156 hl (k := 1) rfl (nI_add i 1) (Nat.le_of_ble_eq_true rfl) rfl (fun ls hl => ?_)
                refine lv_goto (tgt := 27) hx hb dX11_distance_159 rfl ?_
                exact ih_27 (i + 1) S2 u2 d2 H locs ls (by first | with_reducible assumption | omega) (by first | with_reducible assumption | omega) (dcP_n (by rw [show k = eO (kd g).toInt m2 by omega] at him2; exact him2)) (hud2) hP hD hS (lv_sub hl [0, 2, 3, 4] rfl)
              · have c_6 : ((k : Nat) : Int) < ((eO (kd g).toInt m2 : Nat) : Int) := zc_nle (nI_toInt b9_8) (nI_toInt b9_7) c_6
                have hjm : k < m2 := (by omega)
                have hnj := nxt_lt (n := m2) (i := k) (by omega)
                refine lv_aload_n hx hb dX11_distance_56 rfl (lv_at hl 2 rfl) ?_
                refine lv_iload_n hx hb dX11_distance_57 rfl (lv_at hl 4 rfl) ?_
                refine lv_iload hx hb dX11_distance_58 (lv_at hl 0 rfl) ?_
                refine lv_iconst (v := 4) hx hb dX11_distance_60 rfl ?_
                obtain ⟨hPc, hDc, hFc⟩ := zo_sub (wc := [_, _, _, _, _]) hP hD hS hA [0, 2, 3, 4, 5] (by decide +kernel) rfl
                refine zcall (st1 := []) (va_runV (As := [.int (nI g), .int (nI k), .int 4]) (rest := []) ⟨hx, hb, hml, hown, hts⟩ (k_M_edge l dC dI cI cZ cF H.size k0 a I0 (vp_updL (vp_updL J0 48 (jI u2)) 49 (jI d2)) g m2 k 4 mn cx cy S2 (by first | with_reducible assumption | omega) (by first | with_reducible assumption | assumption) (by first | with_reducible assumption | omega) (by first | with_reducible assumption | omega) (by first | with_reducible assumption | omega)) (csV_167 hts rfl rfl ⟨Nat.le_of_ble_eq_true rfl, Nat.le_of_ble_eq_true rfl⟩) (zPV2 (q0 := 0) (ci := 9) hPc hDc hK hXN rfl rfl) rfl rfl hl.1 rfl (lv_room (Nat.le_of_ble_eq_true rfl)) dX11_distance_61 ⟨Nat.le_of_ble_eq_true rfl, Nat.le_of_ble_eq_true rfl⟩) hS hFc hFc rfl (fun t H locs ht hB hk1 hS => ?_)
                obtain ⟨S3, w0, w1, w2, w3, ur, hP1, hD1⟩ := hB
                rw [ht] at hP1
                obtain ⟨hP, hD⟩ := zn (W2 := [_, _, _, _, _, (oa (a 32) cI 8 S3)]) hP hD hk1 hFc hP1 hD1 [0, 2, 3, 4, 5] [false, true] [false, true, false, false, false, false] [0, 2, 3, 4, 5] (by decide +kernel) rfl rfl rfl rfl rfl
                clear hk1 hPc hDc hFc hP1 hD1 ht
                have v0 : S3 0 = cF40 cx f i := (ur 0 (by omega)).trans g0
                have v1 : S3 1 = cF40 cy f i := (ur 1 (by omega)).trans g1
                have v2 : S3 2 = cF40 cx f (nxt n i) := (ur 2 (by omega)).trans g2
                have v3 : S3 3 = cF40 cy f (nxt n i) := (ur 3 (by omega)).trans g3
                have v4 : S3 4 = cF40 cx g k := w0
                have v5 : S3 5 = cF40 cy g k := w1
                have v6 : S3 6 = cF40 cx g (nxt m2 k) := w2
                have v7 : S3 7 = cF40 cy g (nxt m2 k) := w3
                have hs3 := sPl (S := S3) (by rw [v0]; exact (hp_f i hin9).1) (by rw [v1]; exact (hp_f i hin9).2) (by rw [v2]; exact (hp_f _ hnx).1) (by rw [v3]; exact (hp_f _ hnx).2) (by rw [v4]; exact (hp_g k hjm).1) (by rw [v5]; exact (hp_g k hjm).2) (by rw [v6]; exact (hp_g _ hnj).1) (by rw [v7]; exact (hp_g _ hnj).2)
                refine lv_aload_n hx hb dX11_distance_64 rfl (lv_at hl 2 rfl) ?_
                refine lv_aload_n hx hb dX11_distance_65 rfl (lv_at hl 2 rfl) ?_
                refine va_get (D := (dC, dI)) (ci := 9) (v := .ref (a 32)) (C := RX11) (T := TX11) (N := 55) hx hb hts inX11 hown hK hP 0 rfl rfl 32 (Nat.le_of_ble_eq_true rfl) (hts _ mw_1191) (fun _ h9 => h9) rfl dX11_distance_66 ?_
                refine lv_aload_n hx hb dX11_distance_69 rfl (lv_at hl 2 rfl) ?_
                refine va_get (D := (dC, dI)) (ci := 9) (v := .ref (a 32)) (C := RX11) (T := TX11) (N := 55) hx hb hts inX11 hown hK hP 0 rfl rfl 32 (Nat.le_of_ble_eq_true rfl) (hts _ mw_1191) (fun _ h9 => h9) rfl dX11_distance_70 ?_
                refine lv_iconst (v := 4) hx hb dX11_distance_73 rfl ?_
                refine z_iald hx hb hK hP 5 0 rfl rfl (e := 4) rfl (Nat.le_of_ble_eq_true rfl) (Nat.le_of_ble_eq_true rfl) dX11_distance_74 ?_
                refine zz_i (v := cF40 cx g k) (v4) ?_
                refine lv_aload_n hx hb dX11_distance_75 rfl (lv_at hl 2 rfl) ?_
                refine va_get (D := (dC, dI)) (ci := 9) (v := .ref (a 32)) (C := RX11) (T := TX11) (N := 55) hx hb hts inX11 hown hK hP 0 rfl rfl 32 (Nat.le_of_ble_eq_true rfl) (hts _ mw_1191) (fun _ h9 => h9) rfl dX11_distance_76 ?_
                refine lv_iconst (v := 5) hx hb dX11_distance_79 rfl ?_
                refine z_iald hx hb hK hP 5 0 rfl rfl (e := 5) rfl (Nat.le_of_ble_eq_true rfl) (Nat.le_of_ble_eq_true rfl) dX11_distance_80 ?_
                refine zz_i (v := cF40 cy g k) (v5) ?_
                refine lv_iconst (v := 0) hx hb dX11_distance_81 rfl ?_
                obtain ⟨hPc, hDc, hFc⟩ := zo_sub (wc := [_, _]) hP hD hS hA [0, 5] rfl rfl
                refine zcall (st1 := []) (va_runV (As := [.ref (a 32), .int (cF40 cx g k), .int (cF40 cy g k), .int 0]) (rest := []) ⟨hx, hb, hml, hown, hts⟩ (k_M_nearer l dC dI cI cZ cF H.size k0 a I0 (vp_updL (vp_updL J0 48 (jI u2)) 49 (jI d2)) 0 (cF40 cx g k) (cF40 cy g k) u2 d2 S3 (by first | with_reducible assumption | omega) (hs3) ((hp_g k hjm).1) ((hp_g k hjm).2) (hud2.1) (hud2.2)) (csV_225 hts rfl rfl ⟨Nat.le_of_ble_eq_true rfl, Nat.le_of_ble_eq_true rfl⟩) (zPV2 (q0 := 0) (ci := 9) hPc hDc hK hXN rfl rfl) rfl rfl hl.1 rfl (lv_room (Nat.le_of_ble_eq_true rfl)) dX11_distance_82 ⟨Nat.le_of_ble_eq_true rfl, Nat.le_of_ble_eq_true rfl⟩) hS hFc hFc rfl (fun t H locs ht hB hk1 hS => ?_)
                obtain ⟨zu1, zd1, hnd1, hP1, hD1⟩ := hB
                rw [ht] at hP1
                obtain ⟨hP, hD⟩ := zn (W2 := [(om k0 a I0 (vp_updL (vp_updL J0 48 (jI zu1)) 49 (jI zd1))), _, _, _, _, _]) hP hD hk1 hFc hP1 hD1 [0, 5] [false, true, true, true, true] [false, true, true, true, true, false] [0, 5] (by decide +kernel) rfl rfl rfl rfl rfl
                clear hk1 hPc hDc hFc hP1 hD1 ht
                have hx1 : ndP u2 d2 (nrU (S3 0).toInt (S3 1).toInt (S3 2).toInt (S3 3).toInt (cF40 cx g k).toInt (cF40 cy g k).toInt) (nrD (S3 0).toInt (S3 1).toInt (S3 2).toInt (S3 3).toInt (cF40 cx g k).toInt (cF40 cy g k).toInt) zu1 zd1 := hnd1
                rw [v0, v1, v2, v3] at hx1
                have hb1_9 := ndP_b hud2.1 hud2.2 (nrU_b (hp_f i hin9).1 (hp_f i hin9).2 (hp_f _ hnx).1 (hp_f _ hnx).2 (hp_g k hjm).1 (hp_g k hjm).2) hx1
                refine lv_aload_n hx hb dX11_distance_85 rfl (lv_at hl 2 rfl) ?_
                refine lv_aload_n hx hb dX11_distance_86 rfl (lv_at hl 2 rfl) ?_
                refine va_get (D := (dC, dI)) (ci := 9) (v := .ref (a 32)) (C := RX11) (T := TX11) (N := 55) hx hb hts inX11 hown hK hP 0 rfl rfl 32 (Nat.le_of_ble_eq_true rfl) (hts _ mw_1191) (fun _ h9 => h9) rfl dX11_distance_87 ?_
                refine lv_aload_n hx hb dX11_distance_90 rfl (lv_at hl 2 rfl) ?_
                refine va_get (D := (dC, dI)) (ci := 9) (v := .ref (a 32)) (C := RX11) (T := TX11) (N := 55) hx hb hts inX11 hown hK hP 0 rfl rfl 32 (Nat.le_of_ble_eq_true rfl) (hts _ mw_1191) (fun _ h9 => h9) rfl dX11_distance_91 ?_
                refine lv_bipush (v := 6) hx hb dX11_distance_94 rfl ?_
                refine z_iald hx hb hK hP 5 0 rfl rfl (e := 6) rfl (Nat.le_of_ble_eq_true rfl) (Nat.le_of_ble_eq_true rfl) dX11_distance_96 ?_
                refine zz_i (v := cF40 cx g (nxt m2 k)) (v6) ?_
                refine lv_aload_n hx hb dX11_distance_97 rfl (lv_at hl 2 rfl) ?_
                refine va_get (D := (dC, dI)) (ci := 9) (v := .ref (a 32)) (C := RX11) (T := TX11) (N := 55) hx hb hts inX11 hown hK hP 0 rfl rfl 32 (Nat.le_of_ble_eq_true rfl) (hts _ mw_1191) (fun _ h9 => h9) rfl dX11_distance_98 ?_
                refine lv_bipush (v := 7) hx hb dX11_distance_101 rfl ?_
                refine z_iald hx hb hK hP 5 0 rfl rfl (e := 7) rfl (Nat.le_of_ble_eq_true rfl) (Nat.le_of_ble_eq_true rfl) dX11_distance_103 ?_
                refine zz_i (v := cF40 cy g (nxt m2 k)) (v7) ?_
                refine lv_iconst (v := 0) hx hb dX11_distance_104 rfl ?_
                obtain ⟨hPc, hDc, hFc⟩ := zo_sub (wc := [_, _]) hP hD hS hA [0, 5] rfl rfl
                refine zcall (st1 := []) (va_runV (As := [.ref (a 32), .int (cF40 cx g (nxt m2 k)), .int (cF40 cy g (nxt m2 k)), .int 0]) (rest := []) ⟨hx, hb, hml, hown, hts⟩ (k_M_nearer l dC dI cI cZ cF H.size k0 a I0 (vp_updL (vp_updL J0 48 (jI zu1)) 49 (jI zd1)) 0 (cF40 cx g (nxt m2 k)) (cF40 cy g (nxt m2 k)) zu1 zd1 S3 (by first | with_reducible assumption | omega) (hs3) ((hp_g _ hnj).1) ((hp_g _ hnj).2) (hb1_9.1) (hb1_9.2)) (csV_225 hts rfl rfl ⟨Nat.le_of_ble_eq_true rfl, Nat.le_of_ble_eq_true rfl⟩) (zPV2 (q0 := 0) (ci := 9) hPc hDc hK hXN rfl rfl) rfl rfl hl.1 rfl (lv_room (Nat.le_of_ble_eq_true rfl)) dX11_distance_105 ⟨Nat.le_of_ble_eq_true rfl, Nat.le_of_ble_eq_true rfl⟩) hS hFc hFc rfl (fun t H locs ht hB hk1 hS => ?_)
                obtain ⟨zu2, zd2, hnd2, hP1, hD1⟩ := hB
                rw [ht] at hP1
                obtain ⟨hP, hD⟩ := zn (W2 := [(om k0 a I0 (vp_updL (vp_updL J0 48 (jI zu2)) 49 (jI zd2))), _, _, _, _, _]) hP hD hk1 hFc hP1 hD1 [0, 5] [false, true, true, true, true] [false, true, true, true, true, false] [0, 5] (by decide +kernel) rfl rfl rfl rfl rfl
                clear hk1 hPc hDc hFc hP1 hD1 ht
                have hx2 : ndP zu1 zd1 (nrU (S3 0).toInt (S3 1).toInt (S3 2).toInt (S3 3).toInt (cF40 cx g (nxt m2 k)).toInt (cF40 cy g (nxt m2 k)).toInt) (nrD (S3 0).toInt (S3 1).toInt (S3 2).toInt (S3 3).toInt (cF40 cx g (nxt m2 k)).toInt (cF40 cy g (nxt m2 k)).toInt) zu2 zd2 := hnd2
                rw [v0, v1, v2, v3] at hx2
                have hb2_9 := ndP_b hb1_9.1 hb1_9.2 (nrU_b (hp_f i hin9).1 (hp_f i hin9).2 (hp_f _ hnx).1 (hp_f _ hnx).2 (hp_g _ hnj).1 (hp_g _ hnj).2) hx2
                refine lv_aload_n hx hb dX11_distance_108 rfl (lv_at hl 2 rfl) ?_
                refine lv_aload_n hx hb dX11_distance_109 rfl (lv_at hl 2 rfl) ?_
                refine va_get (D := (dC, dI)) (ci := 9) (v := .ref (a 32)) (C := RX11) (T := TX11) (N := 55) hx hb hts inX11 hown hK hP 0 rfl rfl 32 (Nat.le_of_ble_eq_true rfl) (hts _ mw_1191) (fun _ h9 => h9) rfl dX11_distance_110 ?_
                refine lv_aload_n hx hb dX11_distance_113 rfl (lv_at hl 2 rfl) ?_
                refine va_get (D := (dC, dI)) (ci := 9) (v := .ref (a 32)) (C := RX11) (T := TX11) (N := 55) hx hb hts inX11 hown hK hP 0 rfl rfl 32 (Nat.le_of_ble_eq_true rfl) (hts _ mw_1191) (fun _ h9 => h9) rfl dX11_distance_114 ?_
                refine lv_iconst (v := 0) hx hb dX11_distance_117 rfl ?_
                refine z_iald hx hb hK hP 5 0 rfl rfl (e := 0) rfl (Nat.le_of_ble_eq_true rfl) (Nat.le_of_ble_eq_true rfl) dX11_distance_118 ?_
                refine zz_i (v := cF40 cx f i) (v0) ?_
                refine lv_aload_n hx hb dX11_distance_119 rfl (lv_at hl 2 rfl) ?_
                refine va_get (D := (dC, dI)) (ci := 9) (v := .ref (a 32)) (C := RX11) (T := TX11) (N := 55) hx hb hts inX11 hown hK hP 0 rfl rfl 32 (Nat.le_of_ble_eq_true rfl) (hts _ mw_1191) (fun _ h9 => h9) rfl dX11_distance_120 ?_
                refine lv_iconst (v := 1) hx hb dX11_distance_123 rfl ?_
                refine z_iald hx hb hK hP 5 0 rfl rfl (e := 1) rfl (Nat.le_of_ble_eq_true rfl) (Nat.le_of_ble_eq_true rfl) dX11_distance_124 ?_
                refine zz_i (v := cF40 cy f i) (v1) ?_
                refine lv_iconst (v := 4) hx hb dX11_distance_125 rfl ?_
                obtain ⟨hPc, hDc, hFc⟩ := zo_sub (wc := [_, _]) hP hD hS hA [0, 5] rfl rfl
                refine zcall (st1 := []) (va_runV (As := [.ref (a 32), .int (cF40 cx f i), .int (cF40 cy f i), .int 4]) (rest := []) ⟨hx, hb, hml, hown, hts⟩ (k_M_nearer l dC dI cI cZ cF H.size k0 a I0 (vp_updL (vp_updL J0 48 (jI zu2)) 49 (jI zd2)) 4 (cF40 cx f i) (cF40 cy f i) zu2 zd2 S3 (by first | with_reducible assumption | omega) (hs3) ((hp_f i hin9).1) ((hp_f i hin9).2) (hb2_9.1) (hb2_9.2)) (csV_225 hts rfl rfl ⟨Nat.le_of_ble_eq_true rfl, Nat.le_of_ble_eq_true rfl⟩) (zPV2 (q0 := 0) (ci := 9) hPc hDc hK hXN rfl rfl) rfl rfl hl.1 rfl (lv_room (Nat.le_of_ble_eq_true rfl)) dX11_distance_126 ⟨Nat.le_of_ble_eq_true rfl, Nat.le_of_ble_eq_true rfl⟩) hS hFc hFc rfl (fun t H locs ht hB hk1 hS => ?_)
                obtain ⟨zu3, zd3, hnd3, hP1, hD1⟩ := hB
                rw [ht] at hP1
                obtain ⟨hP, hD⟩ := zn (W2 := [(om k0 a I0 (vp_updL (vp_updL J0 48 (jI zu3)) 49 (jI zd3))), _, _, _, _, _]) hP hD hk1 hFc hP1 hD1 [0, 5] [false, true, true, true, true] [false, true, true, true, true, false] [0, 5] (by decide +kernel) rfl rfl rfl rfl rfl
                clear hk1 hPc hDc hFc hP1 hD1 ht
                have hx3 : ndP zu2 zd2 (nrU (S3 4).toInt (S3 5).toInt (S3 6).toInt (S3 7).toInt (cF40 cx f i).toInt (cF40 cy f i).toInt) (nrD (S3 4).toInt (S3 5).toInt (S3 6).toInt (S3 7).toInt (cF40 cx f i).toInt (cF40 cy f i).toInt) zu3 zd3 := hnd3
                rw [v4, v5, v6, v7] at hx3
                have hb3_9 := ndP_b hb2_9.1 hb2_9.2 (nrU_b (hp_g k hjm).1 (hp_g k hjm).2 (hp_g _ hnj).1 (hp_g _ hnj).2 (hp_f i hin9).1 (hp_f i hin9).2) hx3
                refine lv_aload_n hx hb dX11_distance_129 rfl (lv_at hl 2 rfl) ?_
                refine lv_aload_n hx hb dX11_distance_130 rfl (lv_at hl 2 rfl) ?_
                refine va_get (D := (dC, dI)) (ci := 9) (v := .ref (a 32)) (C := RX11) (T := TX11) (N := 55) hx hb hts inX11 hown hK hP 0 rfl rfl 32 (Nat.le_of_ble_eq_true rfl) (hts _ mw_1191) (fun _ h9 => h9) rfl dX11_distance_131 ?_
                refine lv_aload_n hx hb dX11_distance_134 rfl (lv_at hl 2 rfl) ?_
                refine va_get (D := (dC, dI)) (ci := 9) (v := .ref (a 32)) (C := RX11) (T := TX11) (N := 55) hx hb hts inX11 hown hK hP 0 rfl rfl 32 (Nat.le_of_ble_eq_true rfl) (hts _ mw_1191) (fun _ h9 => h9) rfl dX11_distance_135 ?_
                refine lv_iconst (v := 2) hx hb dX11_distance_138 rfl ?_
                refine z_iald hx hb hK hP 5 0 rfl rfl (e := 2) rfl (Nat.le_of_ble_eq_true rfl) (Nat.le_of_ble_eq_true rfl) dX11_distance_139 ?_
                refine zz_i (v := cF40 cx f (nxt n i)) (v2) ?_
                refine lv_aload_n hx hb dX11_distance_140 rfl (lv_at hl 2 rfl) ?_
                refine va_get (D := (dC, dI)) (ci := 9) (v := .ref (a 32)) (C := RX11) (T := TX11) (N := 55) hx hb hts inX11 hown hK hP 0 rfl rfl 32 (Nat.le_of_ble_eq_true rfl) (hts _ mw_1191) (fun _ h9 => h9) rfl dX11_distance_141 ?_
                refine lv_iconst (v := 3) hx hb dX11_distance_144 rfl ?_
                refine z_iald hx hb hK hP 5 0 rfl rfl (e := 3) rfl (Nat.le_of_ble_eq_true rfl) (Nat.le_of_ble_eq_true rfl) dX11_distance_145 ?_
                refine zz_i (v := cF40 cy f (nxt n i)) (v3) ?_
                refine lv_iconst (v := 4) hx hb dX11_distance_146 rfl ?_
                obtain ⟨hPc, hDc, hFc⟩ := zo_sub (wc := [_, _]) hP hD hS hA [0, 5] rfl rfl
                refine zcall (st1 := []) (va_runV (As := [.ref (a 32), .int (cF40 cx f (nxt n i)), .int (cF40 cy f (nxt n i)), .int 4]) (rest := []) ⟨hx, hb, hml, hown, hts⟩ (k_M_nearer l dC dI cI cZ cF H.size k0 a I0 (vp_updL (vp_updL J0 48 (jI zu3)) 49 (jI zd3)) 4 (cF40 cx f (nxt n i)) (cF40 cy f (nxt n i)) zu3 zd3 S3 (by first | with_reducible assumption | omega) (hs3) ((hp_f _ hnx).1) ((hp_f _ hnx).2) (hb3_9.1) (hb3_9.2)) (csV_225 hts rfl rfl ⟨Nat.le_of_ble_eq_true rfl, Nat.le_of_ble_eq_true rfl⟩) (zPV2 (q0 := 0) (ci := 9) hPc hDc hK hXN rfl rfl) rfl rfl hl.1 rfl (lv_room (Nat.le_of_ble_eq_true rfl)) dX11_distance_147 ⟨Nat.le_of_ble_eq_true rfl, Nat.le_of_ble_eq_true rfl⟩) hS hFc hFc rfl (fun t H locs ht hB hk1 hS => ?_)
                obtain ⟨zu4, zd4, hnd4, hP1, hD1⟩ := hB
                rw [ht] at hP1
                obtain ⟨hP, hD⟩ := zn (W2 := [(om k0 a I0 (vp_updL (vp_updL J0 48 (jI zu4)) 49 (jI zd4))), _, _, _, _, _]) hP hD hk1 hFc hP1 hD1 [0, 5] [false, true, true, true, true] [false, true, true, true, true, false] [0, 5] (by decide +kernel) rfl rfl rfl rfl rfl
                clear hk1 hPc hDc hFc hP1 hD1 ht
                have hx4 : ndP zu3 zd3 (nrU (S3 4).toInt (S3 5).toInt (S3 6).toInt (S3 7).toInt (cF40 cx f (nxt n i)).toInt (cF40 cy f (nxt n i)).toInt) (nrD (S3 4).toInt (S3 5).toInt (S3 6).toInt (S3 7).toInt (cF40 cx f (nxt n i)).toInt (cF40 cy f (nxt n i)).toInt) zu4 zd4 := hnd4
                rw [v4, v5, v6, v7] at hx4
                have hb4_9 := ndP_b hb3_9.1 hb3_9.2 (nrU_b (hp_g k hjm).1 (hp_g k hjm).2 (hp_g _ hnj).1 (hp_g _ hnj).2 (hp_f _ hnx).1 (hp_f _ hnx).2) hx4
                refine lv_iinc (v := nI (k + 1)) (lv' := [(4, .int (nI (k + 1))), (3, .int (nI i)), (0, .ref k0), (1, .int (nI f)), (2, .int (nI g))]) hx hb dX11_distance_150 hl (k := 0) rfl (nI_add k 1) (Nat.le_of_ble_eq_true rfl) rfl (fun ls hl => ?_)
                refine lv_goto (tgt := 46) hx hb dX11_distance_153 rfl ?_
                exact ih_46 (k + 1) S3 zu4 zd4 H locs ls (by first | with_reducible assumption | omega) (by first | with_reducible assumption | omega) (by rw [ur _ (by first | with_reducible assumption | omega)]; exact g0) (by rw [ur _ (by first | with_reducible assumption | omega)]; exact g1) (by rw [ur _ (by first | with_reducible assumption | omega)]; exact g2) (by rw [ur _ (by first | with_reducible assumption | omega)]; exact g3) (dcP_s hp_f hp_g hin9 hjm heg him2 hx1 hx2 hx3 hx4) (hb4_9) hP hD hS (lv_sub hl [0, 1, 2, 3, 4] rfl)
          exact hl_46 _ 0 S2 u d H locs ls (Nat.lt_succ_self _) (by first | with_reducible assumption | omega) (by first | with_reducible assumption | assumption) (by first | with_reducible assumption | assumption) (by first | with_reducible assumption | assumption) (by first | with_reducible assumption | assumption) (him) (hud) hP hD hS (lv_sub hl [0, 1, 2, 3, 4] rfl)
    exact hl_27 _ 0 q_1 ((0 : Nat) : Int) ((0 : Nat) : Int) H locs ls (Nat.lt_succ_self _) (by first | with_reducible assumption | omega) (dcP_0 _ _ _ _ _ _ _) (by first | with_reducible assumption | omega) hP hD hS (lv_sub hl [0, 1, 2, 3] rfl)
  · have c_2 : mtF (kd f).toInt n (cF40 cx f) (cF40 cy f) (kd g).toInt m2 (cF40 cx g) (cF40 cy g) := zp_1 c_2
    refine lv_aload_n hx hb dX11_distance_19 rfl (lv_at hl 0 rfl) ?_
    refine lv_lconst (v := 1) hx hb dX11_distance_20 rfl ?_
    refine zz_l (v := jI ((1 : Nat) : Int)) (jI_1) ?_
    refine va_put (D := (dC, dI)) (ci := 9) (v := .long (jI ((1 : Nat) : Int))) (ty := .long) (C := RX11) (T := TX11) (N := 55) hx hb hts inX11 tyX11 tyX11_ok nmX11 hown hK hP hD hS 0 rfl rfl 49 (by decide) (hts _ mw_1208) (fun _ h9 => h9) rfl (by decide +kernel) rfl rfl (Nat.le_of_ble_eq_true rfl) dX11_distance_21 (fun H locs hP hD hS => ?_)
    obtain ⟨hP, hD⟩ := zre (W2 := [(om k0 a I0 (vp_updL (vp_updL J0 48 (jI ((0 : Nat) : Int))) 49 (jI ((1 : Nat) : Int)))), _, _, _, _, _]) hP hD rfl
    obtain ⟨hP9, hD9⟩ := zu_sub (wc := [_, _, _, _, _, _]) hP hD [true, true, true, true, true, true] rfl rfl
    rw [hQ9]
    exact W.vret hx hb hr (fun t ht hW => ⟨⟨rfl, 0, 1, q_1, (fun c9 hc9 => ⟨fun h9 => (by exfalso; have e9 : c9 * ((1 : Nat) : Int) = c9 := Int.mul_one c9; omega), fun h9 => absurd (by first | with_reducible assumption | assumption) h9.1⟩), (by omega), by rw [ht]; exact hP9, hD9⟩, hS.F ht⟩) hS.2.2 dX11_distance_24
end
