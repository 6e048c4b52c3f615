section
set_option maxHeartbeats 4000000 in
set_option maxRecDepth 100000 in
theorem k_M_is_x (l : Launch) (dC : Nat → ClassId) (dI : Nat → Nat → Nat) (cI cZ cF : ClassId) (sz : Nat) (k0 : Nat) (a : Nat → Nat) (I0 : Nat → Int32) (J0 : Nat → Int64) (ft : Nat) (v : Int32) (hft : I0 0 = nI ft) (h200 : ft ≤ 200) (hv : ¬ (0 ≤ v.toInt ∧ v.toInt < (ft : Int))) : zM l yX11_is cX11_is 2 (some .boolean) ({ frames := 1, cells := 0, slots := 0, locals := 21 } : Room) [.ref k0, .int v] (dC, dI) (zTy cI cZ cF) [(om k0 a I0 J0)] sz (some (.int 0)) (fun A t => zPD (dC, dI) classes A [(om k0 a I0 J0)] t.heap) 0 0 := by
  refine zIn (own := "ScaleShopModel") (loc := [(0, .ref k0), (1, .int v)]) rfl rfl rfl rfl (fun p e s m below meth c hx hb hr hts hown hlocks hml hnm9 A hA hS hP hD hK hXN Q9 hQ9 ls hl => ?_)
  refine lv_aload_n hx hb dX11_is_0 rfl (lv_at hl 0 rfl) ?_
  refine lv_iload_n hx hb dX11_is_1 rfl (lv_at hl 1 rfl) ?_
  obtain ⟨hPc, hDc, hFc, hI1⟩ := zi_sub (wc := [_]) hP hD hS hA [0] rfl rfl
  refine zcall (st1 := [.int (pI (0 ≤ v.toInt ∧ v.toInt < (ft : Int)))]) (va_runV (As := [.int v]) (rest := []) ⟨hx, hb, hml, hown, hts⟩ (k_M_isFeature l dC dI cI cZ cF s.heap.size k0 a I0 J0 ft v (by first | with_reducible assumption | assumption) (by first | with_reducible assumption | omega)) (csV_178 hts rfl rfl ⟨Nat.le_of_ble_eq_true rfl, Nat.le_of_ble_eq_true rfl⟩) (zPV2 (q0 := 0) (ci := 9) hPc hDc hK hXN rfl rfl) rfl rfl hl.1 rfl (lv_room (Nat.le_of_ble_eq_true rfl)) dX11_is_2 ⟨Nat.le_of_ble_eq_true rfl, Nat.le_of_ble_eq_true rfl⟩) hS hFc hFc rfl (fun t H locs ht hB hk1 hS => ?_)
  obtain ⟨hP1, hD1⟩ := hB
  rw [ht] at hP1
  replace hP := z0 hP hD hk1 hP1 hI1
  clear hk1 hPc hDc hFc hP1 hD1 ht hI1
  refine lv_if_eq (tgt := 31) hx hb dX11_is_5 rfl (fun c_1 => ?_) (fun c_1 => ?_)
  · have c_1 : ¬ (0 ≤ v.toInt ∧ v.toInt < (ft : Int)) := zp_0 c_1
    refine lv_iconst (v := 0) hx hb dX11_is_31 rfl ?_
    obtain ⟨hP9, hD9⟩ := zu_sub (wc := [_]) hP hD [true] rfl rfl
    rw [hQ9]
    exact W.zret (ty := .boolean) (v := 0) hx hb hr (rfl) (fun t ht hW => ⟨⟨rfl, by rw [ht]; exact hP9, hD9⟩, hS.F ht⟩) hS.2.2 dX11_is_32
  · have c_1 : 0 ≤ v.toInt ∧ v.toInt < (ft : Int) := zp_1 c_1
    exfalso; exact absurd (by first | with_reducible assumption | assumption) hv
set_option maxHeartbeats 4000000 in
set_option maxRecDepth 100000 in
theorem k_M_meets_x1 (l : Launch) (dC : Nat → ClassId) (dI : Nat → Nat → Nat) (cI cZ cF : ClassId) (sz : Nat) (k0 : Nat) (a : Nat → Nat) (I0 : Nat → Int32) (J0 : Nat → Int64) (ft : Nat) (v : Int32) (w : Int32) (hft : I0 0 = nI ft) (h200 : ft ≤ 200) (hv : ¬ (0 ≤ v.toInt ∧ v.toInt < (ft : Int))) : zM l yX11_meets cX11_meets 3 (some .boolean) ({ frames := 2, cells := 0, slots := 0, locals := 42 } : Room) [.ref k0, .int v, .int w] (dC, dI) (zTy cI cZ cF) [(om k0 a I0 J0)] sz (some (.int 0)) (fun A t => zPD (dC, dI) classes A [(om k0 a I0 J0)] t.heap) 0 0 := by
  refine zIn (own := "ScaleShopModel") (loc := [(0, .ref k0), (1, .int v), (2, .int w)]) rfl rfl rfl rfl (fun p e s m below meth c hx hb hr hts hown hlocks hml hnm9 A hA hS hP hD hK hXN Q9 hQ9 ls hl => ?_)
  refine lv_aload_n hx hb dX11_meets_0 rfl (lv_at hl 0 rfl) ?_
  refine lv_iload_n hx hb dX11_meets_1 rfl (lv_at hl 1 rfl) ?_
  obtain ⟨hPc, hDc, hFc, hI1⟩ := zi_sub (wc := [_]) hP hD hS hA [0] rfl rfl
  refine zcall (st1 := [.int 0]) (va_runV (As := [.int v]) (rest := []) ⟨hx, hb, hml, hown, hts⟩ (k_M_is_x l dC dI cI cZ cF s.heap.size k0 a I0 J0 ft v (by first | with_reducible assumption | assumption) (by first | with_reducible assumption | omega) (by first | with_reducible assumption | assumption)) (csV_179 hts rfl rfl ⟨Nat.le_of_ble_eq_true rfl, Nat.le_of_ble_eq_true rfl⟩) (zPV2 (q0 := 0) (ci := 9) hPc hDc hK hXN rfl rfl) rfl rfl hl.1 rfl (lv_room (Nat.le_of_ble_eq_true rfl)) dX11_meets_2 ⟨Nat.le_of_ble_eq_true rfl, Nat.le_of_ble_eq_true rfl⟩) hS hFc hFc rfl (fun t H locs ht hB hk1 hS => ?_)
  obtain ⟨hP1, hD1⟩ := hB
  rw [ht] at hP1
  replace hP := z0 hP hD hk1 hP1 hI1
  clear hk1 hPc hDc hFc hP1 hD1 ht hI1
  refine lv_if_eq (tgt := 29) hx hb dX11_meets_5 rfl (fun c_1 => ?_) (fun c_1 => ?_)
  · refine lv_iconst (v := 0) hx hb dX11_meets_29 rfl ?_
    obtain ⟨hP9, hD9⟩ := zu_sub (wc := [_]) hP hD [true] rfl rfl
    rw [hQ9]
    exact W.zret (ty := .boolean) (v := 0) hx hb hr (rfl) (fun t ht hW => ⟨⟨rfl, by rw [ht]; exact hP9, hD9⟩, hS.F ht⟩) hS.2.2 dX11_meets_30
  · exact absurd (by decide) c_1
set_option maxHeartbeats 4000000 in
set_option maxRecDepth 100000 in
theorem k_M_meets_x2 (l : Launch) (dC : Nat → ClassId) (dI : Nat → Nat → Nat) (cI cZ cF : ClassId) (sz : Nat) (k0 : Nat) (a : Nat → Nat) (I0 : Nat → Int32) (J0 : Nat → Int64) (f : Nat) (ft : Nat) (v : Int32) (st : Nat → Int32) (tn : Nat → Int32) (hft : I0 0 = nI ft) (h200 : ft ≤ 200) (hv : ¬ (0 ≤ v.toInt ∧ v.toInt < (ft : Int))) (hf_t : f < ft) : zM l yX11_meets cX11_meets 3 (some .boolean) ({ frames := 2, cells := 0, slots := 0, locals := 42 } : Room) [.ref k0, .int (nI f), .int v] (dC, dI) (zTy cI cZ cF) [(om k0 a I0 J0), (oa (a 5) cI 201 st), (oa (a 6) cZ 201 tn)] sz (some (.int 0)) (fun A t => zPD (dC, dI) classes A [(om k0 a I0 J0), (oa (a 5) cI 201 st), (oa (a 6) cZ 201 tn)] t.heap) 0 0 := by
  refine zIn (own := "ScaleShopModel") (loc := [(0, .ref k0), (1, .int (nI f)), (2, .int v)]) rfl rfl rfl rfl (fun p e s m below meth c hx hb hr hts hown hlocks hml hnm9 A hA hS hP hD hK hXN Q9 hQ9 ls hl => ?_)
  refine lv_aload_n hx hb dX11_meets_0 rfl (lv_at hl 0 rfl) ?_
  refine lv_iload_n hx hb dX11_meets_1 rfl (lv_at hl 1 rfl) ?_
  obtain ⟨hPc, hDc, hFc, hI1⟩ := zi_sub (wc := [_, _, _]) hP hD hS hA [0, 1, 2] rfl rfl
  refine zcall (st1 := [.int (pI (f < ft ∧ (st f).toInt = 1 ∧ (tn f).toInt = 0))]) (va_runV (As := [.int (nI f)]) (rest := []) ⟨hx, hb, hml, hown, hts⟩ (k_M_is_n l dC dI cI cZ cF s.heap.size k0 a I0 J0 f ft st tn (by first | with_reducible assumption | assumption) (by first | with_reducible assumption | omega) (by first | with_reducible assumption | omega)) (csV_179 hts rfl rfl ⟨Nat.le_of_ble_eq_true rfl, Nat.le_of_ble_eq_true rfl⟩) (zPV2 (q0 := 0) (ci := 9) hPc hDc hK hXN rfl rfl) rfl rfl hl.1 rfl (lv_room (Nat.le_of_ble_eq_true rfl)) dX11_meets_2 ⟨Nat.le_of_ble_eq_true rfl, Nat.le_of_ble_eq_true rfl⟩) hS hFc hFc rfl (fun t H locs ht hB hk1 hS => ?_)
  obtain ⟨hP1, hD1⟩ := hB
  rw [ht] at hP1
  replace hP := z0 hP hD hk1 hP1 hI1
  clear hk1 hPc hDc hFc hP1 hD1 ht hI1
  refine lv_if_eq (tgt := 29) hx hb dX11_meets_5 rfl (fun c_1 => ?_) (fun c_1 => ?_)
  · have c_1 : ¬ (f < ft ∧ (st f).toInt = 1 ∧ (tn f).toInt = 0) := zp_0 c_1
    refine lv_iconst (v := 0) hx hb dX11_meets_29 rfl ?_
    obtain ⟨hP9, hD9⟩ := zu_sub (wc := [_, _, _]) hP hD [true, true, true] rfl rfl
    rw [hQ9]
    exact W.zret (ty := .boolean) (v := 0) hx hb hr (rfl) (fun t ht hW => ⟨⟨rfl, by rw [ht]; exact hP9, hD9⟩, hS.F ht⟩) hS.2.2 dX11_meets_30
  · have c_1 : f < ft ∧ (st f).toInt = 1 ∧ (tn f).toInt = 0 := zp_1 c_1
    refine lv_aload_n hx hb dX11_meets_8 rfl (lv_at hl 0 rfl) ?_
    refine lv_iload_n hx hb dX11_meets_9 rfl (lv_at hl 2 rfl) ?_
    obtain ⟨hPc, hDc, hFc, hI1⟩ := zi_sub (wc := [_]) hP hD hS hA [0] rfl rfl
    refine zcall (st1 := [.int 0]) (va_runV (As := [.int v]) (rest := []) ⟨hx, hb, hml, hown, hts⟩ (k_M_is_x l dC dI cI cZ cF H.size k0 a I0 J0 ft v (by first | with_reducible assumption | assumption) (by first | with_reducible assumption | omega) (by first | with_reducible assumption | assumption)) (csV_179 hts rfl rfl ⟨Nat.le_of_ble_eq_true rfl, Nat.le_of_ble_eq_true rfl⟩) (zPV2 (q0 := 0) (ci := 9) hPc hDc hK hXN rfl rfl) rfl rfl hl.1 rfl (lv_room (Nat.le_of_ble_eq_true rfl)) dX11_meets_10 ⟨Nat.le_of_ble_eq_true rfl, Nat.le_of_ble_eq_true rfl⟩) hS hFc hFc rfl (fun t H locs ht hB hk1 hS => ?_)
    obtain ⟨hP1, hD1⟩ := hB
    rw [ht] at hP1
    replace hP := z0 hP hD hk1 hP1 hI1
    clear hk1 hPc hDc hFc hP1 hD1 ht hI1
    refine lv_if_eq (tgt := 29) hx hb dX11_meets_13 rfl (fun c_2 => ?_) (fun c_2 => ?_)
    · refine lv_iconst (v := 0) hx hb dX11_meets_29 rfl ?_
      obtain ⟨hP9, hD9⟩ := zu_sub (wc := [_, _, _]) hP hD [true, true, true] rfl rfl
      rw [hQ9]
      exact W.zret (ty := .boolean) (v := 0) hx hb hr (rfl) (fun t ht hW => ⟨⟨rfl, by rw [ht]; exact hP9, hD9⟩, hS.F ht⟩) hS.2.2 dX11_meets_30
    · exact absurd (by decide) c_2
set_option maxHeartbeats 4000000 in
set_option maxRecDepth 100000 in
theorem k_M_meets (l : Launch) (dC : Nat → ClassId) (dI : Nat → Nat → Nat) (cI cZ cF : ClassId) (sz : Nat) (k0 : Nat) (a : Nat → Nat) (I0 : Nat → Int32) (J0 : Nat → Int64) (f : Nat) (g : Nat) (ft : Nat) (st : Nat → Int32) (tn : Nat → Int32) (kd : Nat → Int32) (mn : Nat → Int32) (cx : Nat → Int32) (cy : Nat → Int32) (S0 : Nat → Int32) (hft : I0 0 = nI ft) (h200 : ft ≤ 200) (hwf : ∀ q, lvF ft st tn q → wfM mn cx cy q) (hf_t : f < ft) (hg_t : g < ft) : zM l yX11_meets cX11_meets 3 (some .boolean) ({ frames := 4, cells := 0, slots := 0, locals := 105 } : Room) [.ref k0, .int (nI f), .int (nI g)] (dC, dI) (zTy cI cZ cF) [(om k0 a I0 J0), (oa (a 5) cI 201 st), (oa (a 6) cZ 201 tn), (oa (a 1) cI 201 kd), (oa (a 11) cI 201 mn), (oa (a 12) cI 8040 cx), (oa (a 13) cI 8040 cy), (oa (a 32) cI 8 S0)] sz (some (.int (pI (lvF ft st tn f ∧ lvF ft st tn g ∧ mtF (kd f).toInt (nN (mn f)) (cF40 cx f) (cF40 cy f) (kd g).toInt (nN (mn g)) (cF40 cx g) (cF40 cy g))))) (fun A t => ∃ (S1 : Nat → Int32), zPD (dC, dI) classes A [(om k0 a I0 J0), (oa (a 5) cI 201 st), (oa (a 6) cZ 201 tn), (oa (a 1) cI 201 kd), (oa (a 11) cI 201 mn), (oa (a 12) cI 8040 cx), (oa (a 13) cI 8040 cy), (oa (a 32) cI 8 S1)] t.heap) 0 0 := by
  refine zIn (own := "ScaleShopModel") (loc := [(0, .ref k0), (1, .int (nI f)), (2, .int (nI g))]) rfl rfl rfl rfl (fun p e s m below meth c hx hb hr hts hown hlocks hml hnm9 A hA hS hP hD hK hXN Q9 hQ9 ls hl => ?_)
  refine lv_aload_n hx hb dX11_meets_0 rfl (lv_at hl 0 rfl) ?_
  refine lv_iload_n hx hb dX11_meets_1 rfl (lv_at hl 1 rfl) ?_
  obtain ⟨hPc, hDc, hFc, hI1⟩ := zi_sub (wc := [_, _, _]) hP hD hS hA [0, 1, 2] rfl rfl
  refine zcall (st1 := [.int (pI (f < ft ∧ (st f).toInt = 1 ∧ (tn f).toInt = 0))]) (va_runV (As := [.int (nI f)]) (rest := []) ⟨hx, hb, hml, hown, hts⟩ (k_M_is_n l dC dI cI cZ cF s.heap.size k0 a I0 J0 f ft st tn (by first | with_reducible assumption | assumption) (by first | with_reducible assumption | omega) (by first | with_reducible assumption | omega)) (csV_179 hts rfl rfl ⟨Nat.le_of_ble_eq_true rfl, Nat.le_of_ble_eq_true rfl⟩) (zPV2 (q0 := 0) (ci := 9) hPc hDc hK hXN rfl rfl) rfl rfl hl.1 rfl (lv_room (Nat.le_of_ble_eq_true rfl)) dX11_meets_2 ⟨Nat.le_of_ble_eq_true rfl, Nat.le_of_ble_eq_true rfl⟩) hS hFc hFc rfl (fun t H locs ht hB hk1 hS => ?_)
  obtain ⟨hP1, hD1⟩ := hB
  rw [ht] at hP1
  replace hP := z0 hP hD hk1 hP1 hI1
  clear hk1 hPc hDc hFc hP1 hD1 ht hI1
  refine lv_if_eq (tgt := 29) hx hb dX11_meets_5 rfl (fun c_1 => ?_) (fun c_1 => ?_)
  · have c_1 : ¬ (f < ft ∧ (st f).toInt = 1 ∧ (tn f).toInt = 0) := zp_0 c_1
    refine lv_iconst (v := 0) hx hb dX11_meets_29 rfl ?_
    obtain ⟨hP9, hD9⟩ := zu_sub (wc := [_, _, _, _, _, _, _, _]) hP hD [true, true, true, true, true, true, true, true] rfl rfl
    rw [hQ9]
    exact W.zret (ty := .boolean) (v := 0) hx hb hr (rfl) (fun t ht hW => ⟨⟨congrArg (fun z => Outcome.returned (some (Value.int z))) (show (0 : Int32) = pI (lvF ft st tn f ∧ lvF ft st tn g ∧ mtF (kd f).toInt (nN (mn f)) (cF40 cx f) (cF40 cy f) (kd g).toInt (nN (mn g)) (cF40 cx g) (cF40 cy g)) from (zp_f (by first | exact ⟨by assumption, by assumption, by assumption⟩ | exact fun h => absurd h.1 (by first | with_reducible assumption | assumption) | exact fun h => absurd h.2.1 (by first | with_reducible assumption | assumption) | exact fun h => absurd h.2.2 (by first | with_reducible assumption | assumption))).symm), S0, by rw [ht]; exact hP9, hD9⟩, hS.F ht⟩) hS.2.2 dX11_meets_30
  · have c_1 : f < ft ∧ (st f).toInt = 1 ∧ (tn f).toInt = 0 := zp_1 c_1
    have hw_ff := hwf f (by first | with_reducible assumption | assumption)
    have hm_ff := hw_ff.1
    have hn_ff := hw_ff.2.1
    have hp_ff := hw_ff.2.2
    refine lv_aload_n hx hb dX11_meets_8 rfl (lv_at hl 0 rfl) ?_
    refine lv_iload_n hx hb dX11_meets_9 rfl (lv_at hl 2 rfl) ?_
    obtain ⟨hPc, hDc, hFc, hI1⟩ := zi_sub (wc := [_, _, _]) hP hD hS hA [0, 1, 2] rfl rfl
    refine zcall (st1 := [.int (pI (g < ft ∧ (st g).toInt = 1 ∧ (tn g).toInt = 0))]) (va_runV (As := [.int (nI g)]) (rest := []) ⟨hx, hb, hml, hown, hts⟩ (k_M_is_n l dC dI cI cZ cF H.size k0 a I0 J0 g ft st tn (by first | with_reducible assumption | assumption) (by first | with_reducible assumption | omega) (by first | with_reducible assumption | omega)) (csV_179 hts rfl rfl ⟨Nat.le_of_ble_eq_true rfl, Nat.le_of_ble_eq_true rfl⟩) (zPV2 (q0 := 0) (ci := 9) hPc hDc hK hXN rfl rfl) rfl rfl hl.1 rfl (lv_room (Nat.le_of_ble_eq_true rfl)) dX11_meets_10 ⟨Nat.le_of_ble_eq_true rfl, Nat.le_of_ble_eq_true rfl⟩) hS hFc hFc rfl (fun t H locs ht hB hk1 hS => ?_)
    obtain ⟨hP1, hD1⟩ := hB
    rw [ht] at hP1
    replace hP := z0 hP hD hk1 hP1 hI1
    clear hk1 hPc hDc hFc hP1 hD1 ht hI1
    refine lv_if_eq (tgt := 29) hx hb dX11_meets_13 rfl (fun c_2 => ?_) (fun c_2 => ?_)
    · have c_2 : ¬ (g < ft ∧ (st g).toInt = 1 ∧ (tn g).toInt = 0) := zp_0 c_2
      refine lv_iconst (v := 0) hx hb dX11_meets_29 rfl ?_
      obtain ⟨hP9, hD9⟩ := zu_sub (wc := [_, _, _, _, _, _, _, _]) hP hD [true, true, true, true, true, true, true, true] rfl rfl
      rw [hQ9]
      exact W.zret (ty := .boolean) (v := 0) hx hb hr (rfl) (fun t ht hW => ⟨⟨congrArg (fun z => Outcome.returned (some (Value.int z))) (show (0 : Int32) = pI (lvF ft st tn f ∧ lvF ft st tn g ∧ mtF (kd f).toInt (nN (mn f)) (cF40 cx f) (cF40 cy f) (kd g).toInt (nN (mn g)) (cF40 cx g) (cF40 cy g)) from (zp_f (by first | exact ⟨by assumption, by assumption, by assumption⟩ | exact fun h => absurd h.1 (by first | with_reducible assumption | assumption) | exact fun h => absurd h.2.1 (by first | with_reducible assumption | assumption) | exact fun h => absurd h.2.2 (by first | with_reducible assumption | assumption))).symm), S0, by rw [ht]; exact hP9, hD9⟩, hS.F ht⟩) hS.2.2 dX11_meets_30
    · have c_2 : g < ft ∧ (st g).toInt = 1 ∧ (tn g).toInt = 0 := zp_1 c_2
      have hw_gg := hwf g (by first | with_reducible assumption | assumption)
      have hm_gg := hw_gg.1
      have hn_gg := hw_gg.2.1
      have hp_gg := hw_gg.2.2
      refine lv_aload_n hx hb dX11_meets_16 rfl (lv_at hl 0 rfl) ?_
      refine lv_iload_n hx hb dX11_meets_17 rfl (lv_at hl 1 rfl) ?_
      refine lv_iload_n hx hb dX11_meets_18 rfl (lv_at hl 2 rfl) ?_
      obtain ⟨hPc, hDc, hFc⟩ := zo_sub (wc := [_, _, _, _, _, _]) hP hD hS hA [0, 3, 4, 5, 6, 7] (by decide +kernel) rfl
      refine zcall (st1 := [.int (pI (∃ i, i < eO (kd f).toInt (nN (mn f)) ∧ ∃ j, j < eO (kd g).toInt (nN (mn g)) ∧ eMt (nN (mn f)) (cF40 cx f) (cF40 cy f) i (nN (mn g)) (cF40 cx g) (cF40 cy g) j))]) (va_runV (As := [.int (nI f), .int (nI g)]) (rest := []) ⟨hx, hb, hml, hown, hts⟩ (k_M_isMet l dC dI cI cZ cF H.size k0 a I0 J0 f (nN (mn f)) g (nN (mn g)) kd mn cx cy S0 (by first | with_reducible assumption | omega) (by first | with_reducible assumption | assumption) (by first | with_reducible assumption | omega) (by first | with_reducible assumption | assumption) (by first | with_reducible assumption | omega) (by first | with_reducible assumption | assumption) (by first | with_reducible assumption | omega) (by first | with_reducible assumption | assumption)) (csV_180 hts rfl rfl ⟨Nat.le_of_ble_eq_true rfl, Nat.le_of_ble_eq_true rfl⟩) (zPV2 (q0 := 0) (ci := 9) hPc hDc hK hXN rfl rfl) rfl rfl hl.1 rfl (lv_room (Nat.le_of_ble_eq_true rfl)) dX11_meets_19 ⟨Nat.le_of_ble_eq_true rfl, Nat.le_of_ble_eq_true rfl⟩) hS hFc hFc rfl (fun t H locs ht hB hk1 hS => ?_)
      obtain ⟨q_3, hP1, hD1⟩ := hB
      rw [ht] at hP1
      obtain ⟨hP, hD⟩ := zn (W2 := [_, _, _, _, _, _, _, (oa (a 32) cI 8 q_3)]) hP hD hk1 hFc hP1 hD1 [0, 3, 4, 5, 6, 7] [false, true, true] zl_146 [0, 3, 4, 5, 6, 7] (by decide +kernel) rfl rfl rfl rfl rfl
      clear hk1 hPc hDc hFc hP1 hD1 ht
      refine zz_i (v := pI (mtF (kd f).toInt (nN (mn f)) (cF40 cx f) (cF40 cy f) (kd g).toInt (nN (mn g)) (cF40 cx g) (cF40 cy g))) (rfl) ?_
      refine lv_if_eq (tgt := 29) hx hb dX11_meets_22 rfl (fun c_4 => ?_) (fun c_4 => ?_)
      · have c_4 : ¬ (mtF (kd f).toInt (nN (mn f)) (cF40 cx f) (cF40 cy f) (kd g).toInt (nN (mn g)) (cF40 cx g) (cF40 cy g)) := zp_0 c_4
        refine lv_iconst (v := 0) hx hb dX11_meets_29 rfl ?_
        obtain ⟨hP9, hD9⟩ := zu_sub (wc := [_, _, _, _, _, _, _, _]) hP hD [true, true, true, true, true, true, true, true] rfl rfl
        rw [hQ9]
        exact W.zret (ty := .boolean) (v := 0) hx hb hr (rfl) (fun t ht hW => ⟨⟨congrArg (fun z => Outcome.returned (some (Value.int z))) (show (0 : Int32) = pI (lvF ft st tn f ∧ lvF ft st tn g ∧ mtF (kd f).toInt (nN (mn f)) (cF40 cx f) (cF40 cy f) (kd g).toInt (nN (mn g)) (cF40 cx g) (cF40 cy g)) from (zp_f (by first | exact ⟨by assumption, by assumption, by assumption⟩ | exact fun h => absurd h.1 (by first | with_reducible assumption | assumption) | exact fun h => absurd h.2.1 (by first | with_reducible assumption | assumption) | exact fun h => absurd h.2.2 (by first | with_reducible assumption | assumption))).symm), q_3, by rw [ht]; exact hP9, hD9⟩, hS.F ht⟩) hS.2.2 dX11_meets_30
      · have c_4 : mtF (kd f).toInt (nN (mn f)) (cF40 cx f) (cF40 cy f) (kd g).toInt (nN (mn g)) (cF40 cx g) (cF40 cy g) := zp_1 c_4
        refine lv_iconst (v := 1) hx hb dX11_meets_25 rfl ?_
        refine lv_goto (tgt := 30) hx hb dX11_meets_26 rfl ?_
        obtain ⟨hP9, hD9⟩ := zu_sub (wc := [_, _, _, _, _, _, _, _]) hP hD [true, true, true, true, true, true, true, true] rfl rfl
        rw [hQ9]
        exact W.zret (ty := .boolean) (v := 1) hx hb hr (rfl) (fun t ht hW => ⟨⟨congrArg (fun z => Outcome.returned (some (Value.int z))) (show (1 : Int32) = pI (lvF ft st tn f ∧ lvF ft st tn g ∧ mtF (kd f).toInt (nN (mn f)) (cF40 cx f) (cF40 cy f) (kd g).toInt (nN (mn g)) (cF40 cx g) (cF40 cy g)) from (zp_t (by first | exact ⟨by assumption, by assumption, by assumption⟩ | exact fun h => absurd h.1 (by first | with_reducible assumption | assumption) | exact fun h => absurd h.2.1 (by first | with_reducible assumption | assumption) | exact fun h => absurd h.2.2 (by first | with_reducible assumption | assumption))).symm), q_3, by rw [ht]; exact hP9, hD9⟩, hS.F ht⟩) hS.2.2 dX11_meets_30
set_option maxHeartbeats 4000000 in
set_option maxRecDepth 100000 in
theorem k_M_inside_x (l : Launch) (dC : Nat → ClassId) (dI : Nat → Nat → Nat) (cI cZ cF : ClassId) (sz : Nat) (k0 : Nat) (a : Nat → Nat) (I0 : Nat → Int32) (J0 : Nat → Int64) (ft : Nat) (px : Int32) (py : Int32) (v : Int32) (hft : I0 0 = nI ft) (h200 : ft ≤ 200) (hv : ¬ (0 ≤ v.toInt ∧ v.toInt < (ft : Int))) : zM l yX11_inside cX11_inside 4 (some .int) ({ frames := 2, cells := 0, slots := 0, locals := 42 } : Room) [.ref k0, .int px, .int py, .int v] (dC, dI) (zTy cI cZ cF) [(om k0 a I0 J0)] sz (some (.int (-1))) (fun A t => zPD (dC, dI) classes A [(om k0 a I0 J0)] t.heap) 0 0 := by
  refine zIn (own := "ScaleShopModel") (loc := [(0, .ref k0), (1, .int px), (2, .int py), (3, .int v)]) rfl rfl rfl rfl (fun p e s m below meth c hx hb hr hts hown hlocks hml hnm9 A hA hS hP hD hK hXN Q9 hQ9 ls hl => ?_)
  refine lv_aload_n hx hb dX11_inside_0 rfl (lv_at hl 0 rfl) ?_
  refine lv_iload_n hx hb dX11_inside_1 rfl (lv_at hl 3 rfl) ?_
  obtain ⟨hPc, hDc, hFc, hI1⟩ := zi_sub (wc := [_]) hP hD hS hA [0] rfl rfl
  refine zcall (st1 := [.int 0]) (va_runV (As := [.int v]) (rest := []) ⟨hx, hb, hml, hown, hts⟩ (k_M_is_x l dC dI cI cZ cF s.heap.size k0 a I0 J0 ft v (by first | with_reducible assumption | assumption) (by first | with_reducible assumption | omega) (by first | with_reducible assumption | assumption)) (csV_179 hts rfl rfl ⟨Nat.le_of_ble_eq_true rfl, Nat.le_of_ble_eq_true rfl⟩) (zPV2 (q0 := 0) (ci := 9) hPc hDc hK hXN rfl rfl) rfl rfl hl.1 rfl (lv_room (Nat.le_of_ble_eq_true rfl)) dX11_inside_2 ⟨Nat.le_of_ble_eq_true rfl, Nat.le_of_ble_eq_true rfl⟩) hS hFc hFc rfl (fun t H locs ht hB hk1 hS => ?_)
  obtain ⟨hP1, hD1⟩ := hB
  rw [ht] at hP1
  replace hP := z0 hP hD hk1 hP1 hI1
  clear hk1 hPc hDc hFc hP1 hD1 ht hI1
  refine lv_if_eq (tgt := 38) hx hb dX11_inside_5 rfl (fun c_1 => ?_) (fun c_1 => ?_)
  · refine lv_iconst (v := (-1)) hx hb dX11_inside_38 rfl ?_
    obtain ⟨hP9, hD9⟩ := zu_sub (wc := [_]) hP hD [true] rfl rfl
    rw [hQ9]
    exact W.iret (v := (-1)) hx hb hr (fun t ht hW => ⟨⟨rfl, by rw [ht]; exact hP9, hD9⟩, hS.F ht⟩) hS.2.2 dX11_inside_39
  · exact absurd (by decide) c_1
set_option maxHeartbeats 4000000 in
set_option maxRecDepth 100000 in
theorem k_M_inside_r (l : Launch) (dC : Nat → ClassId) (dI : Nat → Nat → Nat) (cI cZ cF : ClassId) (sz : Nat) (k0 : Nat) (a : Nat → Nat) (I0 : Nat → Int32) (J0 : Nat → Int64) (f : Nat) (ft : Nat) (px : Int32) (py : Int32) (st : Nat → Int32) (tn : Nat → Int32) (kd : Nat → Int32) (hft : I0 0 = nI ft) (h200 : ft ≤ 200) (hf_t : f < ft) (hbad : ¬ (lvF ft st tn f ∧ 5 ≤ (kd f).toInt ∧ 0 ≤ px.toInt ∧ px.toInt ≤ 1000 ∧ 0 ≤ py.toInt ∧ py.toInt ≤ 1000)) : zM l yX11_inside cX11_inside 4 (some .int) ({ frames := 2, cells := 0, slots := 0, locals := 42 } : Room) [.ref k0, .int px, .int py, .int (nI f)] (dC, dI) (zTy cI cZ cF) [(om k0 a I0 J0), (oa (a 5) cI 201 st), (oa (a 6) cZ 201 tn), (oa (a 1) cI 201 kd)] sz (some (.int (-1))) (fun A t => zPD (dC, dI) classes A [(om k0 a I0 J0), (oa (a 5) cI 201 st), (oa (a 6) cZ 201 tn), (oa (a 1) cI 201 kd)] t.heap) 0 0 := by
  refine zIn (own := "ScaleShopModel") (loc := [(0, .ref k0), (1, .int px), (2, .int py), (3, .int (nI f))]) rfl rfl rfl rfl (fun p e s m below meth c hx hb hr hts hown hlocks hml hnm9 A hA hS hP hD hK hXN Q9 hQ9 ls hl => ?_)
  refine lv_aload_n hx hb dX11_inside_0 rfl (lv_at hl 0 rfl) ?_
  refine lv_iload_n hx hb dX11_inside_1 rfl (lv_at hl 3 rfl) ?_
  obtain ⟨hPc, hDc, hFc, hI1⟩ := zi_sub (wc := [_, _, _]) hP hD hS hA [0, 1, 2] rfl rfl
  refine zcall (st1 := [.int (pI (f < ft ∧ (st f).toInt = 1 ∧ (tn f).toInt = 0))]) (va_runV (As := [.int (nI f)]) (rest := []) ⟨hx, hb, hml, hown, hts⟩ (k_M_is_n l dC dI cI cZ cF s.heap.size k0 a I0 J0 f ft st tn (by first | with_reducible assumption | assumption) (by first | with_reducible assumption | omega) (by first | with_reducible assumption | omega)) (csV_179 hts rfl rfl ⟨Nat.le_of_ble_eq_true rfl, Nat.le_of_ble_eq_true rfl⟩) (zPV2 (q0 := 0) (ci := 9) hPc hDc hK hXN rfl rfl) rfl rfl hl.1 rfl (lv_room (Nat.le_of_ble_eq_true rfl)) dX11_inside_2 ⟨Nat.le_of_ble_eq_true rfl, Nat.le_of_ble_eq_true rfl⟩) hS hFc hFc rfl (fun t H locs ht hB hk1 hS => ?_)
  obtain ⟨hP1, hD1⟩ := hB
  rw [ht] at hP1
  replace hP := z0 hP hD hk1 hP1 hI1
  clear hk1 hPc hDc hFc hP1 hD1 ht hI1
  refine lv_if_eq (tgt := 38) hx hb dX11_inside_5 rfl (fun c_1 => ?_) (fun c_1 => ?_)
  · have c_1 : ¬ (f < ft ∧ (st f).toInt = 1 ∧ (tn f).toInt = 0) := zp_0 c_1
    refine lv_iconst (v := (-1)) hx hb dX11_inside_38 rfl ?_
    obtain ⟨hP9, hD9⟩ := zu_sub (wc := [_, _, _, _]) hP hD [true, true, true, true] rfl rfl
    rw [hQ9]
    exact W.iret (v := (-1)) hx hb hr (fun t ht hW => ⟨⟨rfl, by rw [ht]; exact hP9, hD9⟩, hS.F ht⟩) hS.2.2 dX11_inside_39
  · have c_1 : f < ft ∧ (st f).toInt = 1 ∧ (tn f).toInt = 0 := zp_1 c_1
    refine lv_aload_n hx hb dX11_inside_8 rfl (lv_at hl 0 rfl) ?_
    refine lv_iload_n hx hb dX11_inside_9 rfl (lv_at hl 3 rfl) ?_
    obtain ⟨hPc, hDc, hFc, hI1⟩ := zi_sub (wc := [_, _]) hP hD hS hA [0, 3] rfl rfl
    refine zcall (st1 := [.int (pI (5 ≤ (kd f).toInt))]) (va_runV (As := [.int (nI f)]) (rest := []) ⟨hx, hb, hml, hown, hts⟩ (k_M_isRing l dC dI cI cZ cF H.size k0 a I0 J0 f kd (by first | with_reducible assumption | omega)) (csV_165 hts rfl rfl ⟨Nat.le_of_ble_eq_true rfl, Nat.le_of_ble_eq_true rfl⟩) (zPV2 (q0 := 0) (ci := 9) hPc hDc hK hXN rfl rfl) rfl rfl hl.1 rfl (lv_room (Nat.le_of_ble_eq_true rfl)) dX11_inside_10 ⟨Nat.le_of_ble_eq_true rfl, Nat.le_of_ble_eq_true rfl⟩) hS hFc hFc rfl (fun t H locs ht hB hk1 hS => ?_)
    obtain ⟨hP1, hD1⟩ := hB
    rw [ht] at hP1
    replace hP := z0 hP hD hk1 hP1 hI1
    clear hk1 hPc hDc hFc hP1 hD1 ht hI1
    refine lv_if_eq (tgt := 38) hx hb dX11_inside_13 rfl (fun c_2 => ?_) (fun c_2 => ?_)
    · have c_2 : ¬ (5 ≤ (kd f).toInt) := zp_0 c_2
      refine lv_iconst (v := (-1)) hx hb dX11_inside_38 rfl ?_
      obtain ⟨hP9, hD9⟩ := zu_sub (wc := [_, _, _, _]) hP hD [true, true, true, true] rfl rfl
      rw [hQ9]
      exact W.iret (v := (-1)) hx hb hr (fun t ht hW => ⟨⟨rfl, by rw [ht]; exact hP9, hD9⟩, hS.F ht⟩) hS.2.2 dX11_inside_39
    · have c_2 : 5 ≤ (kd f).toInt := zp_1 c_2
      refine lv_iload_n hx hb dX11_inside_16 rfl (lv_at hl 1 rfl) ?_
      refine lv_if_lt (tgt := 38) hx hb dX11_inside_17 rfl (fun c_3 => ?_) (fun c_3 => ?_)
      · have c_3 : px.toInt < 0 := zc_lt rfl rfl c_3
        refine lv_iconst (v := (-1)) hx hb dX11_inside_38 rfl ?_
        obtain ⟨hP9, hD9⟩ := zu_sub (wc := [_, _, _, _]) hP hD [true, true, true, true] rfl rfl
        rw [hQ9]
        exact W.iret (v := (-1)) hx hb hr (fun t ht hW => ⟨⟨rfl, by rw [ht]; exact hP9, hD9⟩, hS.F ht⟩) hS.2.2 dX11_inside_39
      · have c_3 : 0 ≤ px.toInt := zc_nlt rfl rfl c_3
        refine lv_iload_n hx hb dX11_inside_20 rfl (lv_at hl 1 rfl) ?_
        refine lv_sipush (v := 1000) hx hb dX11_inside_21 rfl ?_
        refine lv_icmp_gt (tgt := 38) hx hb dX11_inside_24 rfl (fun c_4 => ?_) (fun c_4 => ?_)
        · have c_4 : 1000 < px.toInt := zc_lt rfl rfl c_4
          refine lv_iconst (v := (-1)) hx hb dX11_inside_38 rfl ?_
          obtain ⟨hP9, hD9⟩ := zu_sub (wc := [_, _, _, _]) hP hD [true, true, true, true] rfl rfl
          rw [hQ9]
          exact W.iret (v := (-1)) hx hb hr (fun t ht hW => ⟨⟨rfl, by rw [ht]; exact hP9, hD9⟩, hS.F ht⟩) hS.2.2 dX11_inside_39
        · have c_4 : px.toInt ≤ 1000 := zc_nlt rfl rfl c_4
          refine lv_iload_n hx hb dX11_inside_27 rfl (lv_at hl 2 rfl) ?_
          refine lv_if_lt (tgt := 38) hx hb dX11_inside_28 rfl (fun c_5 => ?_) (fun c_5 => ?_)
          · have c_5 : py.toInt < 0 := zc_lt rfl rfl c_5
            refine lv_iconst (v := (-1)) hx hb dX11_inside_38 rfl ?_
            obtain ⟨hP9, hD9⟩ := zu_sub (wc := [_, _, _, _]) hP hD [true, true, true, true] rfl rfl
            rw [hQ9]
            exact W.iret (v := (-1)) hx hb hr (fun t ht hW => ⟨⟨rfl, by rw [ht]; exact hP9, hD9⟩, hS.F ht⟩) hS.2.2 dX11_inside_39
          · have c_5 : 0 ≤ py.toInt := zc_nlt rfl rfl c_5
            refine lv_iload_n hx hb dX11_inside_31 rfl (lv_at hl 2 rfl) ?_
            refine lv_sipush (v := 1000) hx hb dX11_inside_32 rfl ?_
            refine lv_icmp_le (tgt := 40) hx hb dX11_inside_35 rfl (fun c_6 => ?_) (fun c_6 => ?_)
            · have c_6 : py.toInt ≤ 1000 := zc_le rfl rfl c_6
              exact absurd ⟨by assumption, by assumption, by omega⟩ hbad
            · have c_6 : 1000 < py.toInt := zc_nle rfl rfl c_6
              refine lv_iconst (v := (-1)) hx hb dX11_inside_38 rfl ?_
              obtain ⟨hP9, hD9⟩ := zu_sub (wc := [_, _, _, _]) hP hD [true, true, true, true] rfl rfl
              rw [hQ9]
              exact W.iret (v := (-1)) hx hb hr (fun t ht hW => ⟨⟨rfl, by rw [ht]; exact hP9, hD9⟩, hS.F ht⟩) hS.2.2 dX11_inside_39
set_option maxHeartbeats 4000000 in
set_option maxRecDepth 100000 in
theorem k_M_inside_y (l : Launch) (dC : Nat → ClassId) (dI : Nat → Nat → Nat) (cI cZ cF : ClassId) (sz : Nat) (k0 : Nat) (a : Nat → Nat) (I0 : Nat → Int32) (J0 : Nat → Int64) (f : Nat) (ft : Nat) (px : Int32) (py : Int32) (st : Nat → Int32) (tn : Nat → Int32) (kd : Nat → Int32) (mn : Nat → Int32) (cx : Nat → Int32) (cy : Nat → Int32) (S0 : Nat → Int32) (hft : I0 0 = nI ft) (h200 : ft ≤ 200) (hwf : ∀ q, lvF ft st tn q → wfM mn cx cy q) (hf_t : f < ft) (hlv : lvF ft st tn f) (hrg : 5 ≤ (kd f).toInt) (hpl : 0 ≤ px.toInt ∧ px.toInt ≤ 1000 ∧ 0 ≤ py.toInt ∧ py.toInt ≤ 1000) : zM l yX11_inside cX11_inside 4 (some .int) ({ frames := 4, cells := 0, slots := 0, locals := 107 } : Room) [.ref k0, .int px, .int py, .int (nI f)] (dC, dI) (zTy cI cZ cF) [(om k0 a I0 J0), (oa (a 5) cI 201 st), (oa (a 6) cZ 201 tn), (oa (a 1) cI 201 kd), (oa (a 11) cI 201 mn), (oa (a 12) cI 8040 cx), (oa (a 13) cI 8040 cy), (oa (a 32) cI 8 S0)] sz (some (.int (inV (∃ i, i < eO (kd f).toInt (nN (mn f)) ∧ eOn (nN (mn f)) (cF40 cx f) (cF40 cy f) i px.toInt py.toInt) (inF (kd f).toInt (nN (mn f)) (cF40 cx f) (cF40 cy f) px.toInt py.toInt)))) (fun A t => ∃ (S1 : Nat → Int32), zPD (dC, dI) classes A [(om k0 a I0 J0), (oa (a 5) cI 201 st), (oa (a 6) cZ 201 tn), (oa (a 1) cI 201 kd), (oa (a 11) cI 201 mn), (oa (a 12) cI 8040 cx), (oa (a 13) cI 8040 cy), (oa (a 32) cI 8 S1)] t.heap) 0 0 := by
  refine zIn (own := "ScaleShopModel") (loc := [(0, .ref k0), (1, .int px), (2, .int py), (3, .int (nI f))]) rfl rfl rfl rfl (fun p e s m below meth c hx hb hr hts hown hlocks hml hnm9 A hA hS hP hD hK hXN Q9 hQ9 ls hl => ?_)
  refine lv_aload_n hx hb dX11_inside_0 rfl (lv_at hl 0 rfl) ?_
  refine lv_iload_n hx hb dX11_inside_1 rfl (lv_at hl 3 rfl) ?_
  obtain ⟨hPc, hDc, hFc, hI1⟩ := zi_sub (wc := [_, _, _]) hP hD hS hA [0, 1, 2] rfl rfl
  refine zcall (st1 := [.int (pI (f < ft ∧ (st f).toInt = 1 ∧ (tn f).toInt = 0))]) (va_runV (As := [.int (nI f)]) (rest := []) ⟨hx, hb, hml, hown, hts⟩ (k_M_is_n l dC dI cI cZ cF s.heap.size k0 a I0 J0 f ft st tn (by first | with_reducible assumption | assumption) (by first | with_reducible assumption | omega) (by first | with_reducible assumption | omega)) (csV_179 hts rfl rfl ⟨Nat.le_of_ble_eq_true rfl, Nat.le_of_ble_eq_true rfl⟩) (zPV2 (q0 := 0) (ci := 9) hPc hDc hK hXN rfl rfl) rfl rfl hl.1 rfl (lv_room (Nat.le_of_ble_eq_true rfl)) dX11_inside_2 ⟨Nat.le_of_ble_eq_true rfl, Nat.le_of_ble_eq_true rfl⟩) hS hFc hFc rfl (fun t H locs ht hB hk1 hS => ?_)
  obtain ⟨hP1, hD1⟩ := hB
  rw [ht] at hP1
  replace hP := z0 hP hD hk1 hP1 hI1
  clear hk1 hPc hDc hFc hP1 hD1 ht hI1
  refine lv_if_eq (tgt := 38) hx hb dX11_inside_5 rfl (fun c_1 => ?_) (fun c_1 => ?_)
  · have c_1 : ¬ (f < ft ∧ (st f).toInt = 1 ∧ (tn f).toInt = 0) := zp_0 c_1
    exfalso; exact absurd hlv (by first | with_reducible assumption | assumption)
  · have c_1 : f < ft ∧ (st f).toInt = 1 ∧ (tn f).toInt = 0 := zp_1 c_1
    have hw_ff := hwf f (by first | with_reducible assumption | assumption)
    have hm_ff := hw_ff.1
    have hn_ff := hw_ff.2.1
    have hp_ff := hw_ff.2.2
    refine lv_aload_n hx hb dX11_inside_8 rfl (lv_at hl 0 rfl) ?_
    refine lv_iload_n hx hb dX11_inside_9 rfl (lv_at hl 3 rfl) ?_
    obtain ⟨hPc, hDc, hFc, hI1⟩ := zi_sub (wc := [_, _]) hP hD hS hA [0, 3] rfl rfl
    refine zcall (st1 := [.int (pI (5 ≤ (kd f).toInt))]) (va_runV (As := [.int (nI f)]) (rest := []) ⟨hx, hb, hml, hown, hts⟩ (k_M_isRing l dC dI cI cZ cF H.size k0 a I0 J0 f kd (by first | with_reducible assumption | omega)) (csV_165 hts rfl rfl ⟨Nat.le_of_ble_eq_true rfl, Nat.le_of_ble_eq_true rfl⟩) (zPV2 (q0 := 0) (ci := 9) hPc hDc hK hXN rfl rfl) rfl rfl hl.1 rfl (lv_room (Nat.le_of_ble_eq_true rfl)) dX11_inside_10 ⟨Nat.le_of_ble_eq_true rfl, Nat.le_of_ble_eq_true rfl⟩) hS hFc hFc rfl (fun t H locs ht hB hk1 hS => ?_)
    obtain ⟨hP1, hD1⟩ := hB
    rw [ht] at hP1
    replace hP := z0 hP hD hk1 hP1 hI1
    clear hk1 hPc hDc hFc hP1 hD1 ht hI1
    refine lv_if_eq (tgt := 38) hx hb dX11_inside_13 rfl (fun c_2 => ?_) (fun c_2 => ?_)
    · have c_2 : ¬ (5 ≤ (kd f).toInt) := zp_0 c_2
      exfalso; exact absurd hrg (by first | with_reducible assumption | assumption)
    · have c_2 : 5 ≤ (kd f).toInt := zp_1 c_2
      refine lv_iload_n hx hb dX11_inside_16 rfl (lv_at hl 1 rfl) ?_
      refine lv_if_lt (tgt := 38) hx hb dX11_inside_17 rfl (fun c_3 => ?_) (fun c_3 => ?_)
      · have c_3 : px.toInt < 0 := zc_lt rfl rfl c_3
        exfalso; omega
      · have c_3 : 0 ≤ px.toInt := zc_nlt rfl rfl c_3
        refine lv_iload_n hx hb dX11_inside_20 rfl (lv_at hl 1 rfl) ?_
        refine lv_sipush (v := 1000) hx hb dX11_inside_21 rfl ?_
        refine lv_icmp_gt (tgt := 38) hx hb dX11_inside_24 rfl (fun c_4 => ?_) (fun c_4 => ?_)
        · have c_4 : 1000 < px.toInt := zc_lt rfl rfl c_4
          exfalso; omega
        · have c_4 : px.toInt ≤ 1000 := zc_nlt rfl rfl c_4
          refine lv_iload_n hx hb dX11_inside_27 rfl (lv_at hl 2 rfl) ?_
          refine lv_if_lt (tgt := 38) hx hb dX11_inside_28 rfl (fun c_5 => ?_) (fun c_5 => ?_)
          · have c_5 : py.toInt < 0 := zc_lt rfl rfl c_5
            exfalso; omega
          · have c_5 : 0 ≤ py.toInt := zc_nlt rfl rfl c_5
            refine lv_iload_n hx hb dX11_inside_31 rfl (lv_at hl 2 rfl) ?_
            refine lv_sipush (v := 1000) hx hb dX11_inside_32 rfl ?_
            refine lv_icmp_le (tgt := 40) hx hb dX11_inside_35 rfl (fun c_6 => ?_) (fun c_6 => ?_)
            · have c_6 : py.toInt ≤ 1000 := zc_le rfl rfl c_6
              have hpx9 : pl px := ⟨by omega, by omega⟩
              have hpy9 : pl py := ⟨by omega, by omega⟩
              refine lv_aload_n hx hb dX11_inside_40 rfl (lv_at hl 0 rfl) ?_
              refine lv_iload_n hx hb dX11_inside_41 rfl (lv_at hl 3 rfl) ?_
              refine lv_iload_n hx hb dX11_inside_42 rfl (lv_at hl 1 rfl) ?_
              refine lv_iload_n hx hb dX11_inside_43 rfl (lv_at hl 2 rfl) ?_
              obtain ⟨hPc, hDc, hFc⟩ := zo_sub (wc := [_, _, _, _, _, _]) hP hD hS hA [0, 3, 4, 5, 6, 7] (by decide +kernel) rfl
              refine zcall (st1 := [.int (pI (∃ i, i < eO (kd f).toInt (nN (mn f)) ∧ eOn (nN (mn f)) (cF40 cx f) (cF40 cy f) i px.toInt py.toInt))]) (va_runV (As := [.int (nI f), .int px, .int py]) (rest := []) ⟨hx, hb, hml, hown, hts⟩ (k_M_isOnSet l dC dI cI cZ cF H.size k0 a I0 J0 f (nN (mn f)) kd mn cx cy S0 px py (by first | with_reducible assumption | omega) (by first | with_reducible assumption | assumption) (by first | with_reducible assumption | omega) (by first | with_reducible assumption | assumption) (hpx9) (hpy9)) (csV_169 hts rfl rfl ⟨Nat.le_of_ble_eq_true rfl, Nat.le_of_ble_eq_true rfl⟩) (zPV2 (q0 := 0) (ci := 9) hPc hDc hK hXN rfl rfl) rfl rfl hl.1 rfl (lv_room (Nat.le_of_ble_eq_true rfl)) dX11_inside_44 ⟨Nat.le_of_ble_eq_true rfl, Nat.le_of_ble_eq_true rfl⟩) hS hFc hFc rfl (fun t H locs ht hB hk1 hS => ?_)
              obtain ⟨q_7, hP1, hD1⟩ := hB
              rw [ht] at hP1
              obtain ⟨hP, hD⟩ := zn (W2 := [_, _, _, _, _, _, _, (oa (a 32) cI 8 q_7)]) hP hD hk1 hFc hP1 hD1 [0, 3, 4, 5, 6, 7] [false, true, true] zl_146 [0, 3, 4, 5, 6, 7] (by decide +kernel) rfl rfl rfl rfl rfl
              clear hk1 hPc hDc hFc hP1 hD1 ht
              refine lv_if_eq (tgt := 54) hx hb dX11_inside_47 rfl (fun c_8 => ?_) (fun c_8 => ?_)
              · have c_8 : ¬ (∃ i, i < eO (kd f).toInt (nN (mn f)) ∧ eOn (nN (mn f)) (cF40 cx f) (cF40 cy f) i px.toInt py.toInt) := zp_0 c_8
                refine lv_aload_n hx hb dX11_inside_54 rfl (lv_at hl 0 rfl) ?_
                refine lv_iload_n hx hb dX11_inside_55 rfl (lv_at hl 3 rfl) ?_
                refine lv_iload_n hx hb dX11_inside_56 rfl (lv_at hl 1 rfl) ?_
                refine lv_iload_n hx hb dX11_inside_57 rfl (lv_at hl 2 rfl) ?_
                obtain ⟨hPc, hDc, hFc⟩ := zo_sub (wc := [_, _, _, _, _, _]) hP hD hS hA [0, 3, 4, 5, 6, 7] (by decide +kernel) rfl
                refine zcall (st1 := [.int (pI (¬ (∃ i, i < eO (kd f).toInt (nN (mn f)) ∧ eOn (nN (mn f)) (cF40 cx f) (cF40 cy f) i px.toInt py.toInt) ∧ par2 (eTg (nN (mn f)) (cF40 cx f) (cF40 cy f) px.toInt py.toInt) (eO (kd f).toInt (nN (mn f)))))]) (va_runV (As := [.int (nI f), .int px, .int py]) (rest := []) ⟨hx, hb, hml, hown, hts⟩ (k_M_isInside l dC dI cI cZ cF H.size k0 a I0 J0 f (nN (mn f)) kd mn cx cy q_7 px py (by first | with_reducible assumption | omega) (by first | with_reducible assumption | assumption) (by first | with_reducible assumption | omega) (by first | with_reducible assumption | assumption) (hpx9) (hpy9)) (csV_183 hts rfl rfl ⟨Nat.le_of_ble_eq_true rfl, Nat.le_of_ble_eq_true rfl⟩) (zPV2 (q0 := 0) (ci := 9) hPc hDc hK hXN rfl rfl) rfl rfl hl.1 rfl (lv_room (Nat.le_of_ble_eq_true rfl)) dX11_inside_58 ⟨Nat.le_of_ble_eq_true rfl, Nat.le_of_ble_eq_true rfl⟩) hS hFc hFc rfl (fun t H locs ht hB hk1 hS => ?_)
                obtain ⟨q_9, hP1, hD1⟩ := hB
                rw [ht] at hP1
                obtain ⟨hP, hD⟩ := zn (W2 := [_, _, _, _, _, _, _, (oa (a 32) cI 8 q_9)]) hP hD hk1 hFc hP1 hD1 [0, 3, 4, 5, 6, 7] [false, true, true] zl_146 [0, 3, 4, 5, 6, 7] (by decide +kernel) rfl rfl rfl rfl rfl
                clear hk1 hPc hDc hFc hP1 hD1 ht
                refine zz_i (v := pI (inF (kd f).toInt (nN (mn f)) (cF40 cx f) (cF40 cy f) px.toInt py.toInt)) (rfl) ?_
                refine lv_if_eq (tgt := 68) hx hb dX11_inside_61 rfl (fun c_10 => ?_) (fun c_10 => ?_)
                · have c_10 : ¬ (inF (kd f).toInt (nN (mn f)) (cF40 cx f) (cF40 cy f) px.toInt py.toInt) := zp_0 c_10
                  refine lv_iconst (v := 0) hx hb dX11_inside_68 rfl ?_
                  obtain ⟨hP9, hD9⟩ := zu_sub (wc := [_, _, _, _, _, _, _, _]) hP hD [true, true, true, true, true, true, true, true] rfl rfl
                  rw [hQ9]
                  exact W.iret (v := 0) hx hb hr (fun t ht hW => ⟨⟨congrArg (fun z => Outcome.returned (some (Value.int z))) (show (0 : Int32) = inV (∃ i, i < eO (kd f).toInt (nN (mn f)) ∧ eOn (nN (mn f)) (cF40 cx f) (cF40 cy f) i px.toInt py.toInt) (inF (kd f).toInt (nN (mn f)) (cF40 cx f) (cF40 cy f) px.toInt py.toInt) from by first | exact inV_2 (by first | with_reducible assumption | assumption) | exact inV_1 (by first | with_reducible assumption | assumption) (by first | with_reducible assumption | assumption) | exact inV_0 (by first | with_reducible assumption | assumption) (by first | with_reducible assumption | assumption)), q_9, by rw [ht]; exact hP9, hD9⟩, hS.F ht⟩) hS.2.2 dX11_inside_69
                · have c_10 : inF (kd f).toInt (nN (mn f)) (cF40 cx f) (cF40 cy f) px.toInt py.toInt := zp_1 c_10
                  refine lv_iconst (v := 1) hx hb dX11_inside_64 rfl ?_
                  refine lv_goto (tgt := 69) hx hb dX11_inside_65 rfl ?_
                  obtain ⟨hP9, hD9⟩ := zu_sub (wc := [_, _, _, _, _, _, _, _]) hP hD [true, true, true, true, true, true, true, true] rfl rfl
                  rw [hQ9]
                  exact W.iret (v := 1) hx hb hr (fun t ht hW => ⟨⟨congrArg (fun z => Outcome.returned (some (Value.int z))) (show (1 : Int32) = inV (∃ i, i < eO (kd f).toInt (nN (mn f)) ∧ eOn (nN (mn f)) (cF40 cx f) (cF40 cy f) i px.toInt py.toInt) (inF (kd f).toInt (nN (mn f)) (cF40 cx f) (cF40 cy f) px.toInt py.toInt) from by first | exact inV_2 (by first | with_reducible assumption | assumption) | exact inV_1 (by first | with_reducible assumption | assumption) (by first | with_reducible assumption | assumption) | exact inV_0 (by first | with_reducible assumption | assumption) (by first | with_reducible assumption | assumption)), q_9, by rw [ht]; exact hP9, hD9⟩, hS.F ht⟩) hS.2.2 dX11_inside_69
              · have c_8 : ∃ i, i < eO (kd f).toInt (nN (mn f)) ∧ eOn (nN (mn f)) (cF40 cx f) (cF40 cy f) i px.toInt py.toInt := zp_1 c_8
                refine lv_iconst (v := 2) hx hb dX11_inside_50 rfl ?_
                refine lv_goto (tgt := 69) hx hb dX11_inside_51 rfl ?_
                obtain ⟨hP9, hD9⟩ := zu_sub (wc := [_, _, _, _, _, _, _, _]) hP hD [true, true, true, true, true, true, true, true] rfl rfl
                rw [hQ9]
                exact W.iret (v := 2) hx hb hr (fun t ht hW => ⟨⟨congrArg (fun z => Outcome.returned (some (Value.int z))) (show (2 : Int32) = inV (∃ i, i < eO (kd f).toInt (nN (mn f)) ∧ eOn (nN (mn f)) (cF40 cx f) (cF40 cy f) i px.toInt py.toInt) (inF (kd f).toInt (nN (mn f)) (cF40 cx f) (cF40 cy f) px.toInt py.toInt) from by first | exact inV_2 (by first | with_reducible assumption | assumption) | exact inV_1 (by first | with_reducible assumption | assumption) (by first | with_reducible assumption | assumption) | exact inV_0 (by first | with_reducible assumption | assumption) (by first | with_reducible assumption | assumption)), q_7, by rw [ht]; exact hP9, hD9⟩, hS.F ht⟩) hS.2.2 dX11_inside_69
            · have c_6 : 1000 < py.toInt := zc_nle rfl rfl c_6
              exfalso; omega
set_option maxHeartbeats 4000000 in
set_option maxRecDepth 100000 in
theorem k_M_told_x (l : Launch) (dC : Nat → ClassId) (dI : Nat → Nat → Nat) (cI cZ cF : ClassId) (sz : Nat) (k0 : Nat) (a : Nat → Nat) (I0 : Nat → Int32) (J0 : Nat → Int64) (ft : Nat) (v : Int32) (w : Int32) (hft : I0 0 = nI ft) (h200 : ft ≤ 200) (hv : ¬ (0 ≤ v.toInt ∧ v.toInt < (ft : Int))) : zM l yX11_told cX11_told 3 (some .int) ({ frames := 1, cells := 0, slots := 0, locals := 21 } : Room) [.ref k0, .int v, .int w] (dC, dI) (zTy cI cZ cF) [(om k0 a I0 J0)] sz (some (.int (-1))) (fun A t => zPD (dC, dI) classes A [(om k0 a I0 J0)] t.heap) 0 0 := by
  refine zIn (own := "ScaleShopModel") (loc := [(0, .ref k0), (1, .int v), (2, .int w)]) rfl rfl rfl rfl (fun p e s m below meth c hx hb hr hts hown hlocks hml hnm9 A hA hS hP hD hK hXN Q9 hQ9 ls hl => ?_)
  refine lv_aload_n hx hb dX11_told_0 rfl (lv_at hl 0 rfl) ?_
  refine lv_iload_n hx hb dX11_told_1 rfl (lv_at hl 1 rfl) ?_
  obtain ⟨hPc, hDc, hFc, hI1⟩ := zi_sub (wc := [_]) hP hD hS hA [0] rfl rfl
  refine zcall (st1 := [.int (pI (0 ≤ v.toInt ∧ v.toInt < (ft : Int)))]) (va_runV (As := [.int v]) (rest := []) ⟨hx, hb, hml, hown, hts⟩ (k_M_isFeature l dC dI cI cZ cF s.heap.size k0 a I0 J0 ft v (by first | with_reducible assumption | assumption) (by first | with_reducible assumption | omega)) (csV_178 hts rfl rfl ⟨Nat.le_of_ble_eq_true rfl, Nat.le_of_ble_eq_true rfl⟩) (zPV2 (q0 := 0) (ci := 9) hPc hDc hK hXN rfl rfl) rfl rfl hl.1 rfl (lv_room (Nat.le_of_ble_eq_true rfl)) dX11_told_2 ⟨Nat.le_of_ble_eq_true rfl, Nat.le_of_ble_eq_true rfl⟩) hS hFc hFc rfl (fun t H locs ht hB hk1 hS => ?_)
  obtain ⟨hP1, hD1⟩ := hB
  rw [ht] at hP1
  replace hP := z0 hP hD hk1 hP1 hI1
  clear hk1 hPc hDc hFc hP1 hD1 ht hI1
  refine lv_if_ne (tgt := 10) hx hb dX11_told_5 rfl (fun c_1 => ?_) (fun c_1 => ?_)
  · have c_1 : 0 ≤ v.toInt ∧ v.toInt < (ft : Int) := zp_1 c_1
    exfalso; exact absurd (by first | with_reducible assumption | assumption) hv
  · have c_1 : ¬ (0 ≤ v.toInt ∧ v.toInt < (ft : Int)) := zp_0 c_1
    refine lv_iconst (v := (-1)) hx hb dX11_told_8 rfl ?_
    obtain ⟨hP9, hD9⟩ := zu_sub (wc := [_]) hP hD [true] rfl rfl
    rw [hQ9]
    exact W.iret (v := (-1)) hx hb hr (fun t ht hW => ⟨⟨rfl, by rw [ht]; exact hP9, hD9⟩, hS.F ht⟩) hS.2.2 dX11_told_9
set_option maxHeartbeats 4000000 in
set_option maxRecDepth 100000 in
theorem k_M_step_x (l : Launch) (dC : Nat → ClassId) (dI : Nat → Nat → Nat) (cI cZ cF : ClassId) (sz : Nat) (k0 : Nat) (a : Nat → Nat) (I0 : Nat → Int32) (J0 : Nat → Int64) (dn : Nat) (rd : Nat) (v : Int32) (w : Int32) (hdn : I0 19 = nI dn) (hrd : I0 20 = nI rd) (hsum : dn + rd ≤ 512) (hv : ¬ (1 ≤ v.toInt ∧ v.toInt ≤ ((dn + rd : Nat) : Int))) : zM l yX11_step cX11_step 3 (some .int) ({ frames := 0, cells := 0, slots := 0, locals := 0 } : Room) [.ref k0, .int v, .int w] (dC, dI) (zTy cI cZ cF) [(om k0 a I0 J0)] sz (some (.int (-1))) (fun A t => zPD (dC, dI) classes A [(om k0 a I0 J0)] t.heap) 0 0 := by
  refine zIn (own := "ScaleShopModel") (loc := [(0, .ref k0), (1, .int v), (2, .int w)]) rfl rfl rfl rfl (fun p e s m below meth c hx hb hr hts hown hlocks hml hnm9 A hA hS hP hD hK hXN Q9 hQ9 ls hl => ?_)
  refine lv_iload_n hx hb dX11_step_0 rfl (lv_at hl 1 rfl) ?_
  refine lv_iconst (v := 1) hx hb dX11_step_1 rfl ?_
  refine lv_icmp_lt (tgt := 18) hx hb dX11_step_2 rfl (fun c_1 => ?_) (fun c_1 => ?_)
  · have c_1 : v.toInt < 1 := zc_lt rfl rfl c_1
    refine lv_iconst (v := (-1)) hx hb dX11_step_18 rfl ?_
    obtain ⟨hP9, hD9⟩ := zu_sub (wc := [_]) hP hD [true] rfl rfl
    rw [hQ9]
    exact W.iret (v := (-1)) hx hb hr (fun t ht hW => ⟨⟨rfl, by rw [ht]; exact hP9, hD9⟩, hS.F ht⟩) hS.2.2 dX11_step_19
  · have c_1 : 1 ≤ v.toInt := zc_nlt rfl rfl c_1
    refine lv_iload_n hx hb dX11_step_5 rfl (lv_at hl 1 rfl) ?_
    refine lv_aload_n hx hb dX11_step_6 rfl (lv_at hl 0 rfl) ?_
    refine va_get (D := (dC, dI)) (ci := 9) (v := .int (I0 19)) (C := RX11) (T := TX11) (N := 55) hx hb hts inX11 hown hK hP 0 rfl rfl 19 (Nat.le_of_ble_eq_true rfl) (hts _ mw_1178) (fun _ h9 => h9) rfl dX11_step_7 ?_
    refine zz_i (v := nI dn) (hdn) ?_
    refine lv_aload_n hx hb dX11_step_10 rfl (lv_at hl 0 rfl) ?_
    refine va_get (D := (dC, dI)) (ci := 9) (v := .int (I0 20)) (C := RX11) (T := TX11) (N := 55) hx hb hts inX11 hown hK hP 0 rfl rfl 20 (Nat.le_of_ble_eq_true rfl) (hts _ mw_1179) (fun _ h9 => h9) rfl dX11_step_11 ?_
    refine zz_i (v := nI rd) (hrd) ?_
    refine lv_iadd hx hb dX11_step_14 ?_
    refine zz_i (v := nI (dn + rd)) (nI_add dn rd) ?_
    have b9_3 : zlt ((dn + rd)) := show (dn + rd) < 2147483648 by omega
    refine lv_icmp_le (tgt := 20) hx hb dX11_step_15 rfl (fun c_2 => ?_) (fun c_2 => ?_)
    · have c_2 : v.toInt ≤ ((dn + rd : Nat) : Int) := zc_le rfl (nI_toInt b9_3) c_2
      exfalso; omega
    · have c_2 : ((dn + rd : Nat) : Int) < v.toInt := zc_nle rfl (nI_toInt b9_3) c_2
      refine lv_iconst (v := (-1)) hx hb dX11_step_18 rfl ?_
      obtain ⟨hP9, hD9⟩ := zu_sub (wc := [_]) hP hD [true] rfl rfl
      rw [hQ9]
      exact W.iret (v := (-1)) hx hb hr (fun t ht hW => ⟨⟨rfl, by rw [ht]; exact hP9, hD9⟩, hS.F ht⟩) hS.2.2 dX11_step_19
set_option maxHeartbeats 4000000 in
set_option maxRecDepth 100000 in
theorem k_M_at_x (l : Launch) (dC : Nat → ClassId) (dI : Nat → Nat → Nat) (cI cZ cF : ClassId) (sz : Nat) (k0 : Nat) (a : Nat → Nat) (I0 : Nat → Int32) (J0 : Nat → Int64) (ft : Nat) (v : Int32) (kv : Int32) (w : Int32) (hft : I0 0 = nI ft) (h200 : ft ≤ 200) (hv : ¬ (0 ≤ v.toInt ∧ v.toInt < (ft : Int))) : zM l yX11_at cX11_at 4 (some .int) ({ frames := 1, cells := 0, slots := 0, locals := 21 } : Room) [.ref k0, .int v, .int kv, .int w] (dC, dI) (zTy cI cZ cF) [(om k0 a I0 J0)] sz (some (.int (-1))) (fun A t => zPD (dC, dI) classes A [(om k0 a I0 J0)] t.heap) 0 0 := by
  refine zIn (own := "ScaleShopModel") (loc := [(0, .ref k0), (1, .int v), (2, .int kv), (3, .int w)]) rfl rfl rfl rfl (fun p e s m below meth c hx hb hr hts hown hlocks hml hnm9 A hA hS hP hD hK hXN Q9 hQ9 ls hl => ?_)
  refine lv_aload_n hx hb dX11_at_0 rfl (lv_at hl 0 rfl) ?_
  refine lv_iload_n hx hb dX11_at_1 rfl (lv_at hl 1 rfl) ?_
  obtain ⟨hPc, hDc, hFc, hI1⟩ := zi_sub (wc := [_]) hP hD hS hA [0] rfl rfl
  refine zcall (st1 := [.int (pI (0 ≤ v.toInt ∧ v.toInt < (ft : Int)))]) (va_runV (As := [.int v]) (rest := []) ⟨hx, hb, hml, hown, hts⟩ (k_M_isFeature l dC dI cI cZ cF s.heap.size k0 a I0 J0 ft v (by first | with_reducible assumption | assumption) (by first | with_reducible assumption | omega)) (csV_178 hts rfl rfl ⟨Nat.le_of_ble_eq_true rfl, Nat.le_of_ble_eq_true rfl⟩) (zPV2 (q0 := 0) (ci := 9) hPc hDc hK hXN rfl rfl) rfl rfl hl.1 rfl (lv_room (Nat.le_of_ble_eq_true rfl)) dX11_at_2 ⟨Nat.le_of_ble_eq_true rfl, Nat.le_of_ble_eq_true rfl⟩) hS hFc hFc rfl (fun t H locs ht hB hk1 hS => ?_)
  obtain ⟨hP1, hD1⟩ := hB
  rw [ht] at hP1
  replace hP := z0 hP hD hk1 hP1 hI1
  clear hk1 hPc hDc hFc hP1 hD1 ht hI1
  refine lv_if_eq (tgt := 31) hx hb dX11_at_5 rfl (fun c_1 => ?_) (fun c_1 => ?_)
  · have c_1 : ¬ (0 ≤ v.toInt ∧ v.toInt < (ft : Int)) := zp_0 c_1
    refine lv_iconst (v := (-1)) hx hb dX11_at_31 rfl ?_
    obtain ⟨hP9, hD9⟩ := zu_sub (wc := [_]) hP hD [true] rfl rfl
    rw [hQ9]
    exact W.iret (v := (-1)) hx hb hr (fun t ht hW => ⟨⟨rfl, by rw [ht]; exact hP9, hD9⟩, hS.F ht⟩) hS.2.2 dX11_at_32
  · have c_1 : 0 ≤ v.toInt ∧ v.toInt < (ft : Int) := zp_1 c_1
    exfalso; exact absurd (by first | with_reducible assumption | assumption) hv
set_option maxHeartbeats 4000000 in
set_option maxRecDepth 100000 in
theorem k_M_at_r (l : Launch) (dC : Nat → ClassId) (dI : Nat → Nat → Nat) (cI cZ cF : ClassId) (sz : Nat) (k0 : Nat) (a : Nat → Nat) (I0 : Nat → Int32) (J0 : Nat → Int64) (f : Nat) (n : Nat) (ft : Nat) (kv : Int32) (w : Int32) (tn : Nat → Int32) (mn : Nat → Int32) (hft : I0 0 = nI ft) (h200 : ft ≤ 200) (hf_t : f < ft) (hm_f : mn f = nI n) (hn_f : n ≤ 40) (hbad : ¬ ((tn f).toInt = 0 ∧ 0 ≤ kv.toInt ∧ kv.toInt < ((n : Nat) : Int))) : zM l yX11_at cX11_at 4 (some .int) ({ frames := 1, cells := 0, slots := 0, locals := 21 } : Room) [.ref k0, .int (nI f), .int kv, .int w] (dC, dI) (zTy cI cZ cF) [(om k0 a I0 J0), (oa (a 6) cZ 201 tn), (oa (a 11) cI 201 mn)] sz (some (.int (-1))) (fun A t => zPD (dC, dI) classes A [(om k0 a I0 J0), (oa (a 6) cZ 201 tn), (oa (a 11) cI 201 mn)] t.heap) 0 0 := by
  refine zIn (own := "ScaleShopModel") (loc := [(0, .ref k0), (1, .int (nI f)), (2, .int kv), (3, .int w)]) rfl rfl rfl rfl (fun p e s m below meth c hx hb hr hts hown hlocks hml hnm9 A hA hS hP hD hK hXN Q9 hQ9 ls hl => ?_)
  refine lv_aload_n hx hb dX11_at_0 rfl (lv_at hl 0 rfl) ?_
  refine lv_iload_n hx hb dX11_at_1 rfl (lv_at hl 1 rfl) ?_
  obtain ⟨hPc, hDc, hFc, hI1⟩ := zi_sub (wc := [_]) hP hD hS hA [0] rfl rfl
  refine zcall (st1 := [.int (pI (f < ft))]) (va_runV (As := [.int (nI f)]) (rest := []) ⟨hx, hb, hml, hown, hts⟩ (k_M_isFeature_n l dC dI cI cZ cF s.heap.size k0 a I0 J0 f ft (by first | with_reducible assumption | assumption) (by first | with_reducible assumption | omega) (by first | with_reducible assumption | omega)) (csV_178 hts rfl rfl ⟨Nat.le_of_ble_eq_true rfl, Nat.le_of_ble_eq_true rfl⟩) (zPV2 (q0 := 0) (ci := 9) hPc hDc hK hXN rfl rfl) rfl rfl hl.1 rfl (lv_room (Nat.le_of_ble_eq_true rfl)) dX11_at_2 ⟨Nat.le_of_ble_eq_true rfl, Nat.le_of_ble_eq_true rfl⟩) hS hFc hFc rfl (fun t H locs ht hB hk1 hS => ?_)
  obtain ⟨hP1, hD1⟩ := hB
  rw [ht] at hP1
  replace hP := z0 hP hD hk1 hP1 hI1
  clear hk1 hPc hDc hFc hP1 hD1 ht hI1
  refine lv_if_eq (tgt := 31) hx hb dX11_at_5 rfl (fun c_1 => ?_) (fun c_1 => ?_)
  · have c_1 : ¬ (f < ft) := zp_0 c_1
    exfalso; omega
  · have c_1 : f < ft := zp_1 c_1
    refine lv_aload_n hx hb dX11_at_8 rfl (lv_at hl 0 rfl) ?_
    refine va_get (D := (dC, dI)) (ci := 9) (v := .ref (a 6)) (C := RX11) (T := TX11) (N := 55) hx hb hts inX11 hown hK hP 0 rfl rfl 6 (Nat.le_of_ble_eq_true rfl) (hts _ mw_1165) (fun _ h9 => h9) rfl dX11_at_9 ?_
    refine lv_iload_n hx hb dX11_at_12 rfl (lv_at hl 1 rfl) ?_
    have b9_2 : f < 201 := by omega
    refine z_zald hx hb hK hP 1 1 rfl rfl (e := f) rfl b9_2 (Nat.le_of_ble_eq_true rfl) dX11_at_13 ?_
    refine lv_if_ne (tgt := 31) hx hb dX11_at_14 rfl (fun c_3 => ?_) (fun c_3 => ?_)
    · have c_3 : ¬ (tn f).toInt = 0 := zc_ne rfl rfl c_3
      refine lv_iconst (v := (-1)) hx hb dX11_at_31 rfl ?_
      obtain ⟨hP9, hD9⟩ := zu_sub (wc := [_, _, _]) hP hD [true, true, true] rfl rfl
      rw [hQ9]
      exact W.iret (v := (-1)) hx hb hr (fun t ht hW => ⟨⟨rfl, by rw [ht]; exact hP9, hD9⟩, hS.F ht⟩) hS.2.2 dX11_at_32
    · have c_3 : (tn f).toInt = 0 := zc_eq rfl rfl c_3
      refine lv_iload_n hx hb dX11_at_17 rfl (lv_at hl 2 rfl) ?_
      refine lv_if_lt (tgt := 31) hx hb dX11_at_18 rfl (fun c_4 => ?_) (fun c_4 => ?_)
      · have c_4 : kv.toInt < 0 := zc_lt rfl rfl c_4
        refine lv_iconst (v := (-1)) hx hb dX11_at_31 rfl ?_
        obtain ⟨hP9, hD9⟩ := zu_sub (wc := [_, _, _]) hP hD [true, true, true] rfl rfl
        rw [hQ9]
        exact W.iret (v := (-1)) hx hb hr (fun t ht hW => ⟨⟨rfl, by rw [ht]; exact hP9, hD9⟩, hS.F ht⟩) hS.2.2 dX11_at_32
      · have c_4 : 0 ≤ kv.toInt := zc_nlt rfl rfl c_4
        refine lv_iload_n hx hb dX11_at_21 rfl (lv_at hl 2 rfl) ?_
        refine lv_aload_n hx hb dX11_at_22 rfl (lv_at hl 0 rfl) ?_
        refine va_get (D := (dC, dI)) (ci := 9) (v := .ref (a 11)) (C := RX11) (T := TX11) (N := 55) hx hb hts inX11 hown hK hP 0 rfl rfl 11 (Nat.le_of_ble_eq_true rfl) (hts _ mw_1170) (fun _ h9 => h9) rfl dX11_at_23 ?_
        refine lv_iload_n hx hb dX11_at_26 rfl (lv_at hl 1 rfl) ?_
        refine z_iald hx hb hK hP 2 0 rfl rfl (e := f) rfl b9_2 (Nat.le_of_ble_eq_true rfl) dX11_at_27 ?_
        refine zz_i (v := nI n) (hm_f) ?_
        have b9_6 : zlt (n) := show n < 2147483648 by omega
        refine lv_icmp_lt (tgt := 33) hx hb dX11_at_28 rfl (fun c_5 => ?_) (fun c_5 => ?_)
        · have c_5 : kv.toInt < ((n : Nat) : Int) := zc_lt rfl (nI_toInt b9_6) c_5
          exfalso; omega
        · have c_5 : ((n : Nat) : Int) ≤ kv.toInt := zc_nlt rfl (nI_toInt b9_6) c_5
          refine lv_iconst (v := (-1)) hx hb dX11_at_31 rfl ?_
          obtain ⟨hP9, hD9⟩ := zu_sub (wc := [_, _, _]) hP hD [true, true, true] rfl rfl
          rw [hQ9]
          exact W.iret (v := (-1)) hx hb hr (fun t ht hW => ⟨⟨rfl, by rw [ht]; exact hP9, hD9⟩, hS.F ht⟩) hS.2.2 dX11_at_32
set_option maxHeartbeats 4000000 in
set_option maxRecDepth 100000 in
theorem k_M_at_0 (l : Launch) (dC : Nat → ClassId) (dI : Nat → Nat → Nat) (cI cZ cF : ClassId) (sz : Nat) (k0 : Nat) (a : Nat → Nat) (I0 : Nat → Int32) (J0 : Nat → Int64) (f : Nat) (n : Nat) (k : Nat) (ft : Nat) (tn : Nat → Int32) (mn : Nat → Int32) (cx : Nat → Int32) (hft : I0 0 = nI ft) (h200 : ft ≤ 200) (hf_t : f < ft) (hm_f : mn f = nI n) (hn_f : n ≤ 40) (htn0 : (tn f).toInt = 0) (hk9 : k < n) : zM l yX11_at cX11_at 4 (some .int) ({ frames := 1, cells := 0, slots := 0, locals := 21 } : Room) [.ref k0, .int (nI f), .int (nI k), .int 0] (dC, dI) (zTy cI cZ cF) [(om k0 a I0 J0), (oa (a 6) cZ 201 tn), (oa (a 11) cI 201 mn), (oa (a 12) cI 8040 cx)] sz (some (.int (cF40 cx f k))) (fun A t => zPD (dC, dI) classes A [(om k0 a I0 J0), (oa (a 6) cZ 201 tn), (oa (a 11) cI 201 mn), (oa (a 12) cI 8040 cx)] t.heap) 0 0 := by
  refine zIn (own := "ScaleShopModel") (loc := [(0, .ref k0), (1, .int (nI f)), (2, .int (nI k)), (3, .int 0)]) rfl rfl rfl rfl (fun p e s m below meth c hx hb hr hts hown hlocks hml hnm9 A hA hS hP hD hK hXN Q9 hQ9 ls hl => ?_)
  refine lv_aload_n hx hb dX11_at_0 rfl (lv_at hl 0 rfl) ?_
  refine lv_iload_n hx hb dX11_at_1 rfl (lv_at hl 1 rfl) ?_
  obtain ⟨hPc, hDc, hFc, hI1⟩ := zi_sub (wc := [_]) hP hD hS hA [0] rfl rfl
  refine zcall (st1 := [.int (pI (f < ft))]) (va_runV (As := [.int (nI f)]) (rest := []) ⟨hx, hb, hml, hown, hts⟩ (k_M_isFeature_n l dC dI cI cZ cF s.heap.size k0 a I0 J0 f ft (by first | with_reducible assumption | assumption) (by first | with_reducible assumption | omega) (by first | with_reducible assumption | omega)) (csV_178 hts rfl rfl ⟨Nat.le_of_ble_eq_true rfl, Nat.le_of_ble_eq_true rfl⟩) (zPV2 (q0 := 0) (ci := 9) hPc hDc hK hXN rfl rfl) rfl rfl hl.1 rfl (lv_room (Nat.le_of_ble_eq_true rfl)) dX11_at_2 ⟨Nat.le_of_ble_eq_true rfl, Nat.le_of_ble_eq_true rfl⟩) hS hFc hFc rfl (fun t H locs ht hB hk1 hS => ?_)
  obtain ⟨hP1, hD1⟩ := hB
  rw [ht] at hP1
  replace hP := z0 hP hD hk1 hP1 hI1
  clear hk1 hPc hDc hFc hP1 hD1 ht hI1
  refine lv_if_eq (tgt := 31) hx hb dX11_at_5 rfl (fun c_1 => ?_) (fun c_1 => ?_)
  · have c_1 : ¬ (f < ft) := zp_0 c_1
    exfalso; omega
  · have c_1 : f < ft := zp_1 c_1
    refine lv_aload_n hx hb dX11_at_8 rfl (lv_at hl 0 rfl) ?_
    refine va_get (D := (dC, dI)) (ci := 9) (v := .ref (a 6)) (C := RX11) (T := TX11) (N := 55) hx hb hts inX11 hown hK hP 0 rfl rfl 6 (Nat.le_of_ble_eq_true rfl) (hts _ mw_1165) (fun _ h9 => h9) rfl dX11_at_9 ?_
    refine lv_iload_n hx hb dX11_at_12 rfl (lv_at hl 1 rfl) ?_
    have b9_2 : f < 201 := by omega
    refine z_zald hx hb hK hP 1 1 rfl rfl (e := f) rfl b9_2 (Nat.le_of_ble_eq_true rfl) dX11_at_13 ?_
    refine lv_if_ne (tgt := 31) hx hb dX11_at_14 rfl (fun c_3 => ?_) (fun c_3 => ?_)
    · have c_3 : ¬ (tn f).toInt = 0 := zc_ne rfl rfl c_3
      exfalso; omega
    · have c_3 : (tn f).toInt = 0 := zc_eq rfl rfl c_3
      refine lv_iload_n hx hb dX11_at_17 rfl (lv_at hl 2 rfl) ?_
      have b9_5 : zlt (k) := show k < 2147483648 by omega
      refine lv_if_lt (tgt := 31) hx hb dX11_at_18 rfl (fun c_4 => ?_) (fun c_4 => ?_)
      · have c_4 : ((k : Nat) : Int) < 0 := zc_lt (nI_toInt b9_5) rfl c_4
        exfalso; omega
      · have c_4 : 0 ≤ ((k : Nat) : Int) := zc_nlt (nI_toInt b9_5) rfl c_4
        refine lv_iload_n hx hb dX11_at_21 rfl (lv_at hl 2 rfl) ?_
        refine lv_aload_n hx hb dX11_at_22 rfl (lv_at hl 0 rfl) ?_
        refine va_get (D := (dC, dI)) (ci := 9) (v := .ref (a 11)) (C := RX11) (T := TX11) (N := 55) hx hb hts inX11 hown hK hP 0 rfl rfl 11 (Nat.le_of_ble_eq_true rfl) (hts _ mw_1170) (fun _ h9 => h9) rfl dX11_at_23 ?_
        refine lv_iload_n hx hb dX11_at_26 rfl (lv_at hl 1 rfl) ?_
        refine z_iald hx hb hK hP 2 0 rfl rfl (e := f) rfl b9_2 (Nat.le_of_ble_eq_true rfl) dX11_at_27 ?_
        refine zz_i (v := nI n) (hm_f) ?_
        have b9_7 : zlt (n) := show n < 2147483648 by omega
        refine lv_icmp_lt (tgt := 33) hx hb dX11_at_28 rfl (fun c_6 => ?_) (fun c_6 => ?_)
        · have c_6 : ((k : Nat) : Int) < ((n : Nat) : Int) := zc_lt (nI_toInt b9_5) (nI_toInt b9_7) c_6
          refine lv_iload_n hx hb dX11_at_33 rfl (lv_at hl 3 rfl) ?_
          refine lv_if_ne (tgt := 51) hx hb dX11_at_34 rfl (fun c_8 => ?_) (fun c_8 => ?_)
          · exact absurd (by decide) c_8
          · refine lv_aload_n hx hb dX11_at_37 rfl (lv_at hl 0 rfl) ?_
            refine va_get (D := (dC, dI)) (ci := 9) (v := .ref (a 12)) (C := RX11) (T := TX11) (N := 55) hx hb hts inX11 hown hK hP 0 rfl rfl 12 (Nat.le_of_ble_eq_true rfl) (hts _ mw_1171) (fun _ h9 => h9) rfl dX11_at_38 ?_
            refine lv_bipush (v := 40) hx hb dX11_at_41 rfl ?_
            refine lv_iload_n hx hb dX11_at_43 rfl (lv_at hl 1 rfl) ?_
            refine lv_imul hx hb dX11_at_44 ?_
            refine zz_i (v := nI (40 * f)) (pk_mul 40 f) ?_
            refine lv_iload_n hx hb dX11_at_45 rfl (lv_at hl 2 rfl) ?_
            refine lv_iadd hx hb dX11_at_46 ?_
            refine zz_i (v := nI (40 * f + k)) (nI_add (40 * f) k) ?_
            have b9_9 : 40 * f + k < 8040 := by omega
            refine z_iald hx hb hK hP 3 0 rfl rfl (e := 40 * f + k) rfl b9_9 (Nat.le_of_ble_eq_true rfl) dX11_at_47 ?_
            refine lv_goto (tgt := 71) hx hb dX11_at_48 rfl ?_
            obtain ⟨hP9, hD9⟩ := zu_sub (wc := [_, _, _, _]) hP hD [true, true, true, true] rfl rfl
            rw [hQ9]
            exact W.iret (v := cx (40 * f + k)) hx hb hr (fun t ht hW => ⟨⟨congrArg (fun z => Outcome.returned (some (Value.int z))) (show (cx (40 * f + k) : Int32) = cF40 cx f k from rfl), by rw [ht]; exact hP9, hD9⟩, hS.F ht⟩) hS.2.2 dX11_at_71
        · have c_6 : ((n : Nat) : Int) ≤ ((k : Nat) : Int) := zc_nlt (nI_toInt b9_5) (nI_toInt b9_7) c_6
          exfalso; omega
set_option maxHeartbeats 4000000 in
set_option maxRecDepth 100000 in
theorem k_M_at_1 (l : Launch) (dC : Nat → ClassId) (dI : Nat → Nat → Nat) (cI cZ cF : ClassId) (sz : Nat) (k0 : Nat) (a : Nat → Nat) (I0 : Nat → Int32) (J0 : Nat → Int64) (f : Nat) (n : Nat) (k : Nat) (ft : Nat) (tn : Nat → Int32) (mn : Nat → Int32) (cy : Nat → Int32) (hft : I0 0 = nI ft) (h200 : ft ≤ 200) (hf_t : f < ft) (hm_f : mn f = nI n) (hn_f : n ≤ 40) (htn0 : (tn f).toInt = 0) (hk9 : k < n) : zM l yX11_at cX11_at 4 (some .int) ({ frames := 1, cells := 0, slots := 0, locals := 21 } : Room) [.ref k0, .int (nI f), .int (nI k), .int 1] (dC, dI) (zTy cI cZ cF) [(om k0 a I0 J0), (oa (a 6) cZ 201 tn), (oa (a 11) cI 201 mn), (oa (a 13) cI 8040 cy)] sz (some (.int (cF40 cy f k))) (fun A t => zPD (dC, dI) classes A [(om k0 a I0 J0), (oa (a 6) cZ 201 tn), (oa (a 11) cI 201 mn), (oa (a 13) cI 8040 cy)] t.heap) 0 0 := by
  refine zIn (own := "ScaleShopModel") (loc := [(0, .ref k0), (1, .int (nI f)), (2, .int (nI k)), (3, .int 1)]) rfl rfl rfl rfl (fun p e s m below meth c hx hb hr hts hown hlocks hml hnm9 A hA hS hP hD hK hXN Q9 hQ9 ls hl => ?_)
  refine lv_aload_n hx hb dX11_at_0 rfl (lv_at hl 0 rfl) ?_
  refine lv_iload_n hx hb dX11_at_1 rfl (lv_at hl 1 rfl) ?_
  obtain ⟨hPc, hDc, hFc, hI1⟩ := zi_sub (wc := [_]) hP hD hS hA [0] rfl rfl
  refine zcall (st1 := [.int (pI (f < ft))]) (va_runV (As := [.int (nI f)]) (rest := []) ⟨hx, hb, hml, hown, hts⟩ (k_M_isFeature_n l dC dI cI cZ cF s.heap.size k0 a I0 J0 f ft (by first | with_reducible assumption | assumption) (by first | with_reducible assumption | omega) (by first | with_reducible assumption | omega)) (csV_178 hts rfl rfl ⟨Nat.le_of_ble_eq_true rfl, Nat.le_of_ble_eq_true rfl⟩) (zPV2 (q0 := 0) (ci := 9) hPc hDc hK hXN rfl rfl) rfl rfl hl.1 rfl (lv_room (Nat.le_of_ble_eq_true rfl)) dX11_at_2 ⟨Nat.le_of_ble_eq_true rfl, Nat.le_of_ble_eq_true rfl⟩) hS hFc hFc rfl (fun t H locs ht hB hk1 hS => ?_)
  obtain ⟨hP1, hD1⟩ := hB
  rw [ht] at hP1
  replace hP := z0 hP hD hk1 hP1 hI1
  clear hk1 hPc hDc hFc hP1 hD1 ht hI1
  refine lv_if_eq (tgt := 31) hx hb dX11_at_5 rfl (fun c_1 => ?_) (fun c_1 => ?_)
  · have c_1 : ¬ (f < ft) := zp_0 c_1
    exfalso; omega
  · have c_1 : f < ft := zp_1 c_1
    refine lv_aload_n hx hb dX11_at_8 rfl (lv_at hl 0 rfl) ?_
    refine va_get (D := (dC, dI)) (ci := 9) (v := .ref (a 6)) (C := RX11) (T := TX11) (N := 55) hx hb hts inX11 hown hK hP 0 rfl rfl 6 (Nat.le_of_ble_eq_true rfl) (hts _ mw_1165) (fun _ h9 => h9) rfl dX11_at_9 ?_
    refine lv_iload_n hx hb dX11_at_12 rfl (lv_at hl 1 rfl) ?_
    have b9_2 : f < 201 := by omega
    refine z_zald hx hb hK hP 1 1 rfl rfl (e := f) rfl b9_2 (Nat.le_of_ble_eq_true rfl) dX11_at_13 ?_
    refine lv_if_ne (tgt := 31) hx hb dX11_at_14 rfl (fun c_3 => ?_) (fun c_3 => ?_)
    · have c_3 : ¬ (tn f).toInt = 0 := zc_ne rfl rfl c_3
      exfalso; omega
    · have c_3 : (tn f).toInt = 0 := zc_eq rfl rfl c_3
      refine lv_iload_n hx hb dX11_at_17 rfl (lv_at hl 2 rfl) ?_
      have b9_5 : zlt (k) := show k < 2147483648 by omega
      refine lv_if_lt (tgt := 31) hx hb dX11_at_18 rfl (fun c_4 => ?_) (fun c_4 => ?_)
      · have c_4 : ((k : Nat) : Int) < 0 := zc_lt (nI_toInt b9_5) rfl c_4
        exfalso; omega
      · have c_4 : 0 ≤ ((k : Nat) : Int) := zc_nlt (nI_toInt b9_5) rfl c_4
        refine lv_iload_n hx hb dX11_at_21 rfl (lv_at hl 2 rfl) ?_
        refine lv_aload_n hx hb dX11_at_22 rfl (lv_at hl 0 rfl) ?_
        refine va_get (D := (dC, dI)) (ci := 9) (v := .ref (a 11)) (C := RX11) (T := TX11) (N := 55) hx hb hts inX11 hown hK hP 0 rfl rfl 11 (Nat.le_of_ble_eq_true rfl) (hts _ mw_1170) (fun _ h9 => h9) rfl dX11_at_23 ?_
        refine lv_iload_n hx hb dX11_at_26 rfl (lv_at hl 1 rfl) ?_
        refine z_iald hx hb hK hP 2 0 rfl rfl (e := f) rfl b9_2 (Nat.le_of_ble_eq_true rfl) dX11_at_27 ?_
        refine zz_i (v := nI n) (hm_f) ?_
        have b9_7 : zlt (n) := show n < 2147483648 by omega
        refine lv_icmp_lt (tgt := 33) hx hb dX11_at_28 rfl (fun c_6 => ?_) (fun c_6 => ?_)
        · have c_6 : ((k : Nat) : Int) < ((n : Nat) : Int) := zc_lt (nI_toInt b9_5) (nI_toInt b9_7) c_6
          refine lv_iload_n hx hb dX11_at_33 rfl (lv_at hl 3 rfl) ?_
          refine lv_if_ne (tgt := 51) hx hb dX11_at_34 rfl (fun c_8 => ?_) (fun c_8 => ?_)
          · refine lv_iload_n hx hb dX11_at_51 rfl (lv_at hl 3 rfl) ?_
            refine lv_iconst (v := 1) hx hb dX11_at_52 rfl ?_
            refine lv_icmp_ne (tgt := 70) hx hb dX11_at_53 rfl (fun c_9 => ?_) (fun c_9 => ?_)
            · exact absurd (by decide) c_9
            · refine lv_aload_n hx hb dX11_at_56 rfl (lv_at hl 0 rfl) ?_
              refine va_get (D := (dC, dI)) (ci := 9) (v := .ref (a 13)) (C := RX11) (T := TX11) (N := 55) hx hb hts inX11 hown hK hP 0 rfl rfl 13 (Nat.le_of_ble_eq_true rfl) (hts _ mw_1172) (fun _ h9 => h9) rfl dX11_at_57 ?_
              refine lv_bipush (v := 40) hx hb dX11_at_60 rfl ?_
              refine lv_iload_n hx hb dX11_at_62 rfl (lv_at hl 1 rfl) ?_
              refine lv_imul hx hb dX11_at_63 ?_
              refine zz_i (v := nI (40 * f)) (pk_mul 40 f) ?_
              refine lv_iload_n hx hb dX11_at_64 rfl (lv_at hl 2 rfl) ?_
              refine lv_iadd hx hb dX11_at_65 ?_
              refine zz_i (v := nI (40 * f + k)) (nI_add (40 * f) k) ?_
              have b9_10 : 40 * f + k < 8040 := by omega
              refine z_iald hx hb hK hP 3 0 rfl rfl (e := 40 * f + k) rfl b9_10 (Nat.le_of_ble_eq_true rfl) dX11_at_66 ?_
              refine lv_goto (tgt := 71) hx hb dX11_at_67 rfl ?_
              obtain ⟨hP9, hD9⟩ := zu_sub (wc := [_, _, _, _]) hP hD [true, true, true, true] rfl rfl
              rw [hQ9]
              exact W.iret (v := cy (40 * f + k)) hx hb hr (fun t ht hW => ⟨⟨congrArg (fun z => Outcome.returned (some (Value.int z))) (show (cy (40 * f + k) : Int32) = cF40 cy f k from rfl), by rw [ht]; exact hP9, hD9⟩, hS.F ht⟩) hS.2.2 dX11_at_71
          · exact absurd c_8 (by decide)
        · have c_6 : ((n : Nat) : Int) ≤ ((k : Nat) : Int) := zc_nlt (nI_toInt b9_5) (nI_toInt b9_7) c_6
          exfalso; omega
set_option maxHeartbeats 4000000 in
set_option maxRecDepth 100000 in
theorem k_M_at_d (l : Launch) (dC : Nat → ClassId) (dI : Nat → Nat → Nat) (cI cZ cF : ClassId) (sz : Nat) (k0 : Nat) (a : Nat → Nat) (I0 : Nat → Int32) (J0 : Nat → Int64) (f : Nat) (n : Nat) (k : Nat) (ft : Nat) (w : Int32) (tn : Nat → Int32) (mn : Nat → Int32) (hft : I0 0 = nI ft) (h200 : ft ≤ 200) (hf_t : f < ft) (hm_f : mn f = nI n) (hn_f : n ≤ 40) (htn0 : (tn f).toInt = 0) (hk9 : k < n) (hw9 : ¬ w.toInt = 0 ∧ ¬ w.toInt = 1) : zM l yX11_at cX11_at 4 (some .int) ({ frames := 1, cells := 0, slots := 0, locals := 21 } : Room) [.ref k0, .int (nI f), .int (nI k), .int w] (dC, dI) (zTy cI cZ cF) [(om k0 a I0 J0), (oa (a 6) cZ 201 tn), (oa (a 11) cI 201 mn)] sz (some (.int (-1))) (fun A t => zPD (dC, dI) classes A [(om k0 a I0 J0), (oa (a 6) cZ 201 tn), (oa (a 11) cI 201 mn)] t.heap) 0 0 := by
  refine zIn (own := "ScaleShopModel") (loc := [(0, .ref k0), (1, .int (nI f)), (2, .int (nI k)), (3, .int w)]) rfl rfl rfl rfl (fun p e s m below meth c hx hb hr hts hown hlocks hml hnm9 A hA hS hP hD hK hXN Q9 hQ9 ls hl => ?_)
  refine lv_aload_n hx hb dX11_at_0 rfl (lv_at hl 0 rfl) ?_
  refine lv_iload_n hx hb dX11_at_1 rfl (lv_at hl 1 rfl) ?_
  obtain ⟨hPc, hDc, hFc, hI1⟩ := zi_sub (wc := [_]) hP hD hS hA [0] rfl rfl
  refine zcall (st1 := [.int (pI (f < ft))]) (va_runV (As := [.int (nI f)]) (rest := []) ⟨hx, hb, hml, hown, hts⟩ (k_M_isFeature_n l dC dI cI cZ cF s.heap.size k0 a I0 J0 f ft (by first | with_reducible assumption | assumption) (by first | with_reducible assumption | omega) (by first | with_reducible assumption | omega)) (csV_178 hts rfl rfl ⟨Nat.le_of_ble_eq_true rfl, Nat.le_of_ble_eq_true rfl⟩) (zPV2 (q0 := 0) (ci := 9) hPc hDc hK hXN rfl rfl) rfl rfl hl.1 rfl (lv_room (Nat.le_of_ble_eq_true rfl)) dX11_at_2 ⟨Nat.le_of_ble_eq_true rfl, Nat.le_of_ble_eq_true rfl⟩) hS hFc hFc rfl (fun t H locs ht hB hk1 hS => ?_)
  obtain ⟨hP1, hD1⟩ := hB
  rw [ht] at hP1
  replace hP := z0 hP hD hk1 hP1 hI1
  clear hk1 hPc hDc hFc hP1 hD1 ht hI1
  refine lv_if_eq (tgt := 31) hx hb dX11_at_5 rfl (fun c_1 => ?_) (fun c_1 => ?_)
  · have c_1 : ¬ (f < ft) := zp_0 c_1
    exfalso; omega
  · have c_1 : f < ft := zp_1 c_1
    refine lv_aload_n hx hb dX11_at_8 rfl (lv_at hl 0 rfl) ?_
    refine va_get (D := (dC, dI)) (ci := 9) (v := .ref (a 6)) (C := RX11) (T := TX11) (N := 55) hx hb hts inX11 hown hK hP 0 rfl rfl 6 (Nat.le_of_ble_eq_true rfl) (hts _ mw_1165) (fun _ h9 => h9) rfl dX11_at_9 ?_
    refine lv_iload_n hx hb dX11_at_12 rfl (lv_at hl 1 rfl) ?_
    have b9_2 : f < 201 := by omega
    refine z_zald hx hb hK hP 1 1 rfl rfl (e := f) rfl b9_2 (Nat.le_of_ble_eq_true rfl) dX11_at_13 ?_
    refine lv_if_ne (tgt := 31) hx hb dX11_at_14 rfl (fun c_3 => ?_) (fun c_3 => ?_)
    · have c_3 : ¬ (tn f).toInt = 0 := zc_ne rfl rfl c_3
      exfalso; omega
    · have c_3 : (tn f).toInt = 0 := zc_eq rfl rfl c_3
      refine lv_iload_n hx hb dX11_at_17 rfl (lv_at hl 2 rfl) ?_
      have b9_5 : zlt (k) := show k < 2147483648 by omega
      refine lv_if_lt (tgt := 31) hx hb dX11_at_18 rfl (fun c_4 => ?_) (fun c_4 => ?_)
      · have c_4 : ((k : Nat) : Int) < 0 := zc_lt (nI_toInt b9_5) rfl c_4
        exfalso; omega
      · have c_4 : 0 ≤ ((k : Nat) : Int) := zc_nlt (nI_toInt b9_5) rfl c_4
        refine lv_iload_n hx hb dX11_at_21 rfl (lv_at hl 2 rfl) ?_
        refine lv_aload_n hx hb dX11_at_22 rfl (lv_at hl 0 rfl) ?_
        refine va_get (D := (dC, dI)) (ci := 9) (v := .ref (a 11)) (C := RX11) (T := TX11) (N := 55) hx hb hts inX11 hown hK hP 0 rfl rfl 11 (Nat.le_of_ble_eq_true rfl) (hts _ mw_1170) (fun _ h9 => h9) rfl dX11_at_23 ?_
        refine lv_iload_n hx hb dX11_at_26 rfl (lv_at hl 1 rfl) ?_
        refine z_iald hx hb hK hP 2 0 rfl rfl (e := f) rfl b9_2 (Nat.le_of_ble_eq_true rfl) dX11_at_27 ?_
        refine zz_i (v := nI n) (hm_f) ?_
        have b9_7 : zlt (n) := show n < 2147483648 by omega
        refine lv_icmp_lt (tgt := 33) hx hb dX11_at_28 rfl (fun c_6 => ?_) (fun c_6 => ?_)
        · have c_6 : ((k : Nat) : Int) < ((n : Nat) : Int) := zc_lt (nI_toInt b9_5) (nI_toInt b9_7) c_6
          refine lv_iload_n hx hb dX11_at_33 rfl (lv_at hl 3 rfl) ?_
          refine lv_if_ne (tgt := 51) hx hb dX11_at_34 rfl (fun c_8 => ?_) (fun c_8 => ?_)
          · have c_8 : ¬ w.toInt = 0 := zc_ne rfl rfl c_8
            refine lv_iload_n hx hb dX11_at_51 rfl (lv_at hl 3 rfl) ?_
            refine lv_iconst (v := 1) hx hb dX11_at_52 rfl ?_
            refine lv_icmp_ne (tgt := 70) hx hb dX11_at_53 rfl (fun c_9 => ?_) (fun c_9 => ?_)
            · have c_9 : ¬ w.toInt = 1 := zc_ne rfl rfl c_9
              refine lv_iconst (v := (-1)) hx hb dX11_at_70 rfl ?_
              obtain ⟨hP9, hD9⟩ := zu_sub (wc := [_, _, _]) hP hD [true, true, true] rfl rfl
              rw [hQ9]
              exact W.iret (v := (-1)) hx hb hr (fun t ht hW => ⟨⟨rfl, by rw [ht]; exact hP9, hD9⟩, hS.F ht⟩) hS.2.2 dX11_at_71
            · have c_9 : w.toInt = 1 := zc_eq rfl rfl c_9
              exfalso; omega
          · have c_8 : w.toInt = 0 := zc_eq rfl rfl c_8
            exfalso; omega
        · have c_6 : ((n : Nat) : Int) ≤ ((k : Nat) : Int) := zc_nlt (nI_toInt b9_5) (nI_toInt b9_7) c_6
          exfalso; omega
set_option maxHeartbeats 4000000 in
set_option maxRecDepth 100000 in
theorem k_M_status (l : Launch) (dC : Nat → ClassId) (dI : Nat → Nat → Nat) (cI cZ cF : ClassId) (sz : Nat) (k0 : Nat) (a : Nat → Nat) (I0 : Nat → Int32) (J0 : Nat → Int64) : zM l yX11_status cX11_status 1 (some .int) ({ frames := 0, cells := 0, slots := 0, locals := 0 } : Room) [.ref k0] (dC, dI) (zTy cI cZ cF) [(om k0 a I0 J0)] sz (some (.int (I0 14))) (fun A t => zPD (dC, dI) classes A [(om k0 a I0 J0)] t.heap) 0 0 := by
  refine zIn (own := "ScaleShopModel") (loc := [(0, .ref k0)]) rfl rfl rfl rfl (fun p e s m below meth c hx hb hr hts hown hlocks hml hnm9 A hA hS hP hD hK hXN Q9 hQ9 ls hl => ?_)
  refine lv_aload_n hx hb dX11_status_0 rfl (lv_at hl 0 rfl) ?_
  refine va_get (D := (dC, dI)) (ci := 9) (v := .int (I0 14)) (C := RX11) (T := TX11) (N := 55) hx hb hts inX11 hown hK hP 0 rfl rfl 14 (Nat.le_of_ble_eq_true rfl) (hts _ mw_1173) (fun _ h9 => h9) rfl dX11_status_1 ?_
  obtain ⟨hP9, hD9⟩ := zu_sub (wc := [_]) hP hD [true] rfl rfl
  rw [hQ9]
  exact W.iret (v := I0 14) hx hb hr (fun t ht hW => ⟨⟨rfl, by rw [ht]; exact hP9, hD9⟩, hS.F ht⟩) hS.2.2 dX11_status_4
end
