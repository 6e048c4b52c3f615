section
set_option maxHeartbeats 4000000 in
set_option maxRecDepth 100000 in
theorem k_meets_z (l : Launch) (dC : Nat → ClassId) (dI : Nat → Nat → Nat) (cI cZ cF : ClassId) (sz : Nat) (x : Nat) (sh : Nat) (lw : Nat) (ro : Nat) (bq : Nat) (bp : Nat) (dq : Nat) (dp : Nat) (lv : Nat) (sl : Nat) (sd : Int32) (ul : Int32) (su : Int32) (ds : Int32) (fa : Nat) (ft : Nat) (FA : Nat → Option Nat) (L : List Nat) (f : Nat → va_E) (kd : Nat → Int32) (st : Nat → Int32) (tn : Nat → Int32) (mn : Nat → Int32) (cx : Nat → Int32) (cy : Nat → Int32) (rk : Nat → Int32) (wd : Nat → Int32) (tw : Nat → Int32) (pa : Nat → Int32) (pb : Nat → Int32) (gb : Nat → Int32) (it : Nat → Int32) (v : Int32) (w : Int32) (h200 : ft ≤ 200) (hva : ∀ q, q < ft → vwA cI L f FA rk wd tw pa pb kd st gb it tn mn cx cy q) (hbad : ¬ ((∃ f, v = nI f ∧ lvF ft st tn f) ∧ ∃ g, w = nI g ∧ lvF ft st tn g)) : zM l yX10_meets cX10_meets 5 (some .boolean) ({ frames := 2, cells := 0, slots := 0, locals := 43 } : Room) [.ref x, .int v, .int w] (dC, dI) (zTy cI cZ cF) ([(oc8 x (.ref sh) (.ref lw) (.ref ro) (.ref bq) (.ref bp) (.ref dq) (.ref dp) (.ref lv) (.ref sl) ds sd ul su), (oc7 sh (.ref fa) (nI ft)), (oq fa cF 200 FA)] ++ va_pl L f) sz (some (.int 0)) (fun A t => zPD (dC, dI) classes A ([(oc8 x (.ref sh) (.ref lw) (.ref ro) (.ref bq) (.ref bp) (.ref dq) (.ref dp) (.ref lv) (.ref sl) ds sd ul su), (oc7 sh (.ref fa) (nI ft)), (oq fa cF 200 FA)] ++ va_pl L f) t.heap) 0 0 := by
  refine zIn (own := "ScaleShop") (loc := [(0, .ref x), (1, .int v), (2, .int w)]) rfl rfl rfl rfl (fun p e s m below meth c hx hb hr hts hown hlocks hml hnm9 A hA hS hP hD hK hXN Q9 hQ9 ls hl => ?_)
  rcases v_c (v := v) (ft := ft) h200 with hb2 | ⟨f0, hq2, rfl⟩
  · skip
    refine lv_aload_n hx hb dX10_meets_0 rfl (lv_at hl 0 rfl) ?_
    refine va_get (D := (dC, dI)) (ci := 8) (v := .ref sh) (C := RX10) (T := TX10) (N := 13) hx hb hts inX10 hown hK hP 0 rfl rfl 0 (Nat.le_of_ble_eq_true rfl) (hts _ mw_309) (fun _ h9 => h9) rfl dX10_meets_1 ?_
    refine lv_iload_n hx hb dX10_meets_4 rfl (lv_at hl 1 rfl) ?_
    obtain ⟨hPc, hDc, hFc, hI1⟩ := zi_sub (wc := [_, _]) hP hD hS hA [1, 2] rfl rfl
    refine zcall (st1 := [.null]) (va_runV (As := [.int v]) (rest := []) ⟨hx, hb, hml, hown, hts⟩ (k_Sheet_rowThere_x l dC dI cI cZ cF s.heap.size sh fa ft FA v (h200) (hb2)) (csV_144 hts rfl rfl ⟨Nat.le_of_ble_eq_true rfl, Nat.le_of_ble_eq_true rfl⟩) (zPV2 (q0 := 0) (ci := 7) hPc hDc hK hXN rfl rfl) rfl rfl hl.1 rfl (lv_room (Nat.le_of_ble_eq_true rfl)) dX10_meets_5 ⟨Nat.le_of_ble_eq_true rfl, Nat.le_of_ble_eq_true rfl⟩) hS hFc hFc rfl (fun t H locs ht hB hk1 hS => ?_)
    obtain ⟨hP1, hD1⟩ := hB
    rw [ht] at hP1
    replace hP := z0 hP hD hk1 hP1 hI1
    clear hk1 hPc hDc hFc hP1 hD1 ht hI1
    refine lv_astore_nN (lv' := [(3, .null), (0, .ref x), (1, .int v), (2, .int w)]) hx hb dX10_meets_8 rfl hl (Nat.le_of_ble_eq_true rfl) rfl (fun ls hl => ?_)
    rcases v_c (v := w) (ft := ft) h200 with hb3 | ⟨g0, hq3, rfl⟩
    · skip
      refine lv_aload_n hx hb dX10_meets_9 rfl (lv_at hl 1 rfl) ?_
      refine va_get (D := (dC, dI)) (ci := 8) (v := .ref sh) (C := RX10) (T := TX10) (N := 13) hx hb hts inX10 hown hK hP 0 rfl rfl 0 (Nat.le_of_ble_eq_true rfl) (hts _ mw_309) (fun _ h9 => h9) rfl dX10_meets_10 ?_
      refine lv_iload_n hx hb dX10_meets_13 rfl (lv_at hl 3 rfl) ?_
      obtain ⟨hPc, hDc, hFc, hI1⟩ := zi_sub (wc := [_, _]) hP hD hS hA [1, 2] rfl rfl
      refine zcall (st1 := [.null]) (va_runV (As := [.int w]) (rest := []) ⟨hx, hb, hml, hown, hts⟩ (k_Sheet_rowThere_x l dC dI cI cZ cF H.size sh fa ft FA w (h200) (hb3)) (csV_144 hts rfl rfl ⟨Nat.le_of_ble_eq_true rfl, Nat.le_of_ble_eq_true rfl⟩) (zPV2 (q0 := 0) (ci := 7) hPc hDc hK hXN rfl rfl) rfl rfl hl.1 rfl (lv_room (Nat.le_of_ble_eq_true rfl)) dX10_meets_14 ⟨Nat.le_of_ble_eq_true rfl, Nat.le_of_ble_eq_true rfl⟩) hS hFc hFc rfl (fun t H locs ht hB hk1 hS => ?_)
      obtain ⟨hP1, hD1⟩ := hB
      rw [ht] at hP1
      replace hP := z0 hP hD hk1 hP1 hI1
      clear hk1 hPc hDc hFc hP1 hD1 ht hI1
      refine lv_astoreN (lv' := [(4, .null), (3, .null), (0, .ref x), (1, .int v), (2, .int w)]) hx hb dX10_meets_17 hl (Nat.le_of_ble_eq_true rfl) rfl (fun ls hl => ?_)
      refine lv_aload_nN hx hb dX10_meets_19 rfl (lv_at hl 1 rfl) ?_
      refine lv_ifnullN (tgt := 41) hx hb dX10_meets_20 rfl ?_
      refine lv_iconst (v := 0) hx hb dX10_meets_41 rfl ?_
      obtain ⟨hP9, hD9⟩ := zu_part (cx := [_, _, _]) hP hD [true, true, true] rfl rfl
      rw [hQ9]
      exact W.zret (ty := .boolean) (v := 0) hx hb hr (rfl) (fun t ht hW => ⟨⟨rfl, by rw [ht]; exact hP9, hD9⟩, hS.F ht⟩) hS.2.2 dX10_meets_42
    · skip
      refine lv_aload_n hx hb dX10_meets_9 rfl (lv_at hl 1 rfl) ?_
      rcases vwA_3 (P9 := ((st g0).toInt = 1)) (hva g0 (by omega)) with ⟨ht3, fe3, lk3, lo3, we3, fm3, hFA3, hfe3, hlk3⟩ | ⟨ht3, hA3, fe3, lk3, lo3, we3, fm3, r3, rx3, ry3, cap3, U3, V3, rg3, hFA3, hfe3, hlk3, ⟨hr3, hrx3, hry3, hne3⟩, hrr3⟩ | ⟨ht3, hA3, fe3, lk3, lo3, we3, fm3, r3, rx3, ry3, cap3, U3, V3, rg3, hFA3, hfe3, hlk3, ⟨hr3, hrx3, hry3, hne3⟩, hrr3⟩
      · skip
        refine va_get (D := (dC, dI)) (ci := 8) (v := .ref sh) (C := RX10) (T := TX10) (N := 13) hx hb hts inX10 hown hK hP 0 rfl rfl 0 (Nat.le_of_ble_eq_true rfl) (hts _ mw_309) (fun _ h9 => h9) rfl dX10_meets_10 ?_
        have hc9_1 : inPl L f [(oc1 fe3 (rk g0) (wd g0) (tw g0) (pa g0) (pb g0) (.ref lo3) (.ref lk3) fm3), (oc4 lk3 (kd g0) (st g0) .null (gb g0) (it g0) we3)] := ⟨hfe3, hlk3, trivial⟩
        have hD0_1 := hD
        obtain ⟨T_1, hT_1, hP, hD⟩ := pl_oT hP hD hc9_1 (pwF hfe3.2 hlk3.2)
        obtain ⟨hP, hD⟩ := zre (W2 := ([_, _, _, _, _] ++ va_pl T_1 f)) hP hD rfl
        refine lv_iload_n hx hb dX10_meets_13 rfl (lv_at hl 3 rfl) ?_
        obtain ⟨hPc, hDc, hFc, hI1⟩ := zi_sub (wc := [_, _, _, _]) hP hD hS hA [1, 2, 3, 4] (by decide +kernel) rfl
        refine zcall (st1 := [.null]) (va_runV (As := [.int (nI g0)]) (rest := []) ⟨hx, hb, hml, hown, hts⟩ (k_Sheet_rowThere_tv l dC dI cI cZ cF H.size sh fa ft FA g0 fe3 lo3 (rk g0) (wd g0) (tw g0) (pa g0) (pb g0) lk3 (kd g0) (st g0) (gb g0) (it g0) we3 fm3 (h200) (by first | with_reducible assumption | omega) (hFA3)) (csV_144 hts rfl rfl ⟨Nat.le_of_ble_eq_true rfl, Nat.le_of_ble_eq_true rfl⟩) (zPV2 (q0 := 0) (ci := 7) hPc hDc hK hXN rfl rfl) rfl rfl hl.1 rfl (lv_room (Nat.le_of_ble_eq_true rfl)) dX10_meets_14 ⟨Nat.le_of_ble_eq_true rfl, Nat.le_of_ble_eq_true rfl⟩) hS hFc hFc rfl (fun t H locs ht hB hk1 hS => ?_)
        obtain ⟨hP1, hD1⟩ := hB
        rw [ht] at hP1
        replace hP := z0 hP hD hk1 hP1 hI1
        clear hk1 hPc hDc hFc hP1 hD1 ht hI1
        obtain ⟨hP, hD⟩ := pl_bk (X := [_, _, _]) hT_1 hP rfl hc9_1 hD0_1 rfl
        refine lv_astoreN (lv' := [(4, .null), (3, .null), (0, .ref x), (1, .int v), (2, .int (nI g0))]) hx hb dX10_meets_17 hl (Nat.le_of_ble_eq_true rfl) rfl (fun ls hl => ?_)
        refine lv_aload_nN hx hb dX10_meets_19 rfl (lv_at hl 1 rfl) ?_
        refine lv_ifnullN (tgt := 41) hx hb dX10_meets_20 rfl ?_
        refine lv_iconst (v := 0) hx hb dX10_meets_41 rfl ?_
        obtain ⟨hP9, hD9⟩ := zu_part (cx := [_, _, _]) hP hD [true, true, true] rfl rfl
        rw [hQ9]
        exact W.zret (ty := .boolean) (v := 0) hx hb hr (rfl) (fun t ht hW => ⟨⟨rfl, by rw [ht]; exact hP9, hD9⟩, hS.F ht⟩) hS.2.2 dX10_meets_42
      · skip
        refine va_get (D := (dC, dI)) (ci := 8) (v := .ref sh) (C := RX10) (T := TX10) (N := 13) hx hb hts inX10 hown hK hP 0 rfl rfl 0 (Nat.le_of_ble_eq_true rfl) (hts _ mw_309) (fun _ h9 => h9) rfl dX10_meets_10 ?_
        have hc9_1 : inPl L f [(oc1 fe3 (rk g0) (wd g0) (tw g0) (pa g0) (pb g0) (.ref lo3) (.ref lk3) fm3), (oc4 lk3 (kd g0) (st g0) (.ref r3) (gb g0) (it g0) we3)] := ⟨hfe3, hlk3, trivial⟩
        have hD0_1 := hD
        obtain ⟨T_1, hT_1, hP, hD⟩ := pl_oT hP hD hc9_1 (pwF hfe3.2 hlk3.2)
        obtain ⟨hP, hD⟩ := zre (W2 := ([_, _, _, _, _] ++ va_pl T_1 f)) hP hD rfl
        refine lv_iload_n hx hb dX10_meets_13 rfl (lv_at hl 3 rfl) ?_
        obtain ⟨hPc, hDc, hFc, hI1⟩ := zi_sub (wc := [_, _, _, _]) hP hD hS hA [1, 2, 3, 4] (by decide +kernel) rfl
        refine zcall (st1 := [.ref r3]) (va_runV (As := [.int (nI g0)]) (rest := []) ⟨hx, hb, hml, hown, hts⟩ (k_Sheet_rowThere_yv l dC dI cI cZ cF H.size sh fa ft FA g0 fe3 lo3 (rk g0) (wd g0) (tw g0) (pa g0) (pb g0) lk3 (kd g0) (st g0) (gb g0) (it g0) we3 r3 fm3 (h200) (by first | with_reducible assumption | omega) (hFA3) (by first | exact hA3 | omega)) (csV_144 hts rfl rfl ⟨Nat.le_of_ble_eq_true rfl, Nat.le_of_ble_eq_true rfl⟩) (zPV2 (q0 := 0) (ci := 7) hPc hDc hK hXN rfl rfl) rfl rfl hl.1 rfl (lv_room (Nat.le_of_ble_eq_true rfl)) dX10_meets_14 ⟨Nat.le_of_ble_eq_true rfl, Nat.le_of_ble_eq_true rfl⟩) hS hFc hFc rfl (fun t H locs ht hB hk1 hS => ?_)
        obtain ⟨hP1, hD1⟩ := hB
        rw [ht] at hP1
        replace hP := z0 hP hD hk1 hP1 hI1
        clear hk1 hPc hDc hFc hP1 hD1 ht hI1
        obtain ⟨hP, hD⟩ := pl_bk (X := [_, _, _]) hT_1 hP rfl hc9_1 hD0_1 rfl
        refine lv_astore (lv' := [(4, .ref r3), (3, .null), (0, .ref x), (1, .int v), (2, .int (nI g0))]) hx hb dX10_meets_17 hl (Nat.le_of_ble_eq_true rfl) rfl (fun ls hl => ?_)
        refine lv_aload_nN hx hb dX10_meets_19 rfl (lv_at hl 1 rfl) ?_
        refine lv_ifnullN (tgt := 41) hx hb dX10_meets_20 rfl ?_
        refine lv_iconst (v := 0) hx hb dX10_meets_41 rfl ?_
        obtain ⟨hP9, hD9⟩ := zu_part (cx := [_, _, _]) hP hD [true, true, true] rfl rfl
        rw [hQ9]
        exact W.zret (ty := .boolean) (v := 0) hx hb hr (rfl) (fun t ht hW => ⟨⟨rfl, by rw [ht]; exact hP9, hD9⟩, hS.F ht⟩) hS.2.2 dX10_meets_42
      · skip
        refine va_get (D := (dC, dI)) (ci := 8) (v := .ref sh) (C := RX10) (T := TX10) (N := 13) hx hb hts inX10 hown hK hP 0 rfl rfl 0 (Nat.le_of_ble_eq_true rfl) (hts _ mw_309) (fun _ h9 => h9) rfl dX10_meets_10 ?_
        have hc9_1 : inPl L f [(oc1 fe3 (rk g0) (wd g0) (tw g0) (pa g0) (pb g0) (.ref lo3) (.ref lk3) fm3), (oc4 lk3 (kd g0) (st g0) (.ref r3) (gb g0) (it g0) we3)] := ⟨hfe3, hlk3, trivial⟩
        have hD0_1 := hD
        obtain ⟨T_1, hT_1, hP, hD⟩ := pl_oT hP hD hc9_1 (pwF hfe3.2 hlk3.2)
        obtain ⟨hP, hD⟩ := zre (W2 := ([_, _, _, _, _] ++ va_pl T_1 f)) hP hD rfl
        refine lv_iload_n hx hb dX10_meets_13 rfl (lv_at hl 3 rfl) ?_
        obtain ⟨hPc, hDc, hFc, hI1⟩ := zi_sub (wc := [_, _, _, _]) hP hD hS hA [1, 2, 3, 4] (by decide +kernel) rfl
        refine zcall (st1 := [.null]) (va_runV (As := [.int (nI g0)]) (rest := []) ⟨hx, hb, hml, hown, hts⟩ (k_Sheet_rowThere_sv l dC dI cI cZ cF H.size sh fa ft FA g0 fe3 lo3 (rk g0) (wd g0) (tw g0) (pa g0) (pb g0) lk3 (kd g0) (st g0) (gb g0) (it g0) we3 fm3 (.ref r3) (h200) (by first | with_reducible assumption | omega) (hFA3) (by first | exact hA3 | omega)) (csV_144 hts rfl rfl ⟨Nat.le_of_ble_eq_true rfl, Nat.le_of_ble_eq_true rfl⟩) (zPV2 (q0 := 0) (ci := 7) hPc hDc hK hXN rfl rfl) rfl rfl hl.1 rfl (lv_room (Nat.le_of_ble_eq_true rfl)) dX10_meets_14 ⟨Nat.le_of_ble_eq_true rfl, Nat.le_of_ble_eq_true rfl⟩) hS hFc hFc rfl (fun t H locs ht hB hk1 hS => ?_)
        obtain ⟨hP1, hD1⟩ := hB
        rw [ht] at hP1
        replace hP := z0 hP hD hk1 hP1 hI1
        clear hk1 hPc hDc hFc hP1 hD1 ht hI1
        obtain ⟨hP, hD⟩ := pl_bk (X := [_, _, _]) hT_1 hP rfl hc9_1 hD0_1 rfl
        refine lv_astoreN (lv' := [(4, .null), (3, .null), (0, .ref x), (1, .int v), (2, .int (nI g0))]) hx hb dX10_meets_17 hl (Nat.le_of_ble_eq_true rfl) rfl (fun ls hl => ?_)
        refine lv_aload_nN hx hb dX10_meets_19 rfl (lv_at hl 1 rfl) ?_
        refine lv_ifnullN (tgt := 41) hx hb dX10_meets_20 rfl ?_
        refine lv_iconst (v := 0) hx hb dX10_meets_41 rfl ?_
        obtain ⟨hP9, hD9⟩ := zu_part (cx := [_, _, _]) hP hD [true, true, true] rfl rfl
        rw [hQ9]
        exact W.zret (ty := .boolean) (v := 0) hx hb hr (rfl) (fun t ht hW => ⟨⟨rfl, by rw [ht]; exact hP9, hD9⟩, hS.F ht⟩) hS.2.2 dX10_meets_42
  · skip
    refine lv_aload_n hx hb dX10_meets_0 rfl (lv_at hl 0 rfl) ?_
    rcases vwA_3 (P9 := ((st f0).toInt = 1)) (hva f0 (by omega)) with ⟨ht2, fe2, lk2, lo2, we2, fm2, hFA2, hfe2, hlk2⟩ | ⟨ht2, hA2, fe2, lk2, lo2, we2, fm2, r2, rx2, ry2, cap2, U2, V2, rg2, hFA2, hfe2, hlk2, ⟨hr2, hrx2, hry2, hne2⟩, hrr2⟩ | ⟨ht2, hA2, fe2, lk2, lo2, we2, fm2, r2, rx2, ry2, cap2, U2, V2, rg2, hFA2, hfe2, hlk2, ⟨hr2, hrx2, hry2, hne2⟩, hrr2⟩
    · skip
      refine va_get (D := (dC, dI)) (ci := 8) (v := .ref sh) (C := RX10) (T := TX10) (N := 13) hx hb hts inX10 hown hK hP 0 rfl rfl 0 (Nat.le_of_ble_eq_true rfl) (hts _ mw_309) (fun _ h9 => h9) rfl dX10_meets_1 ?_
      have hc9_1 : inPl L f [(oc1 fe2 (rk f0) (wd f0) (tw f0) (pa f0) (pb f0) (.ref lo2) (.ref lk2) fm2), (oc4 lk2 (kd f0) (st f0) .null (gb f0) (it f0) we2)] := ⟨hfe2, hlk2, trivial⟩
      have hD0_1 := hD
      obtain ⟨T_1, hT_1, hP, hD⟩ := pl_oT hP hD hc9_1 (pwF hfe2.2 hlk2.2)
      obtain ⟨hP, hD⟩ := zre (W2 := ([_, _, _, _, _] ++ va_pl T_1 f)) hP hD rfl
      refine lv_iload_n hx hb dX10_meets_4 rfl (lv_at hl 1 rfl) ?_
      obtain ⟨hPc, hDc, hFc, hI1⟩ := zi_sub (wc := [_, _, _, _]) hP hD hS hA [1, 2, 3, 4] (by decide +kernel) rfl
      refine zcall (st1 := [.null]) (va_runV (As := [.int (nI f0)]) (rest := []) ⟨hx, hb, hml, hown, hts⟩ (k_Sheet_rowThere_tv l dC dI cI cZ cF s.heap.size sh fa ft FA f0 fe2 lo2 (rk f0) (wd f0) (tw f0) (pa f0) (pb f0) lk2 (kd f0) (st f0) (gb f0) (it f0) we2 fm2 (h200) (by first | with_reducible assumption | omega) (hFA2)) (csV_144 hts rfl rfl ⟨Nat.le_of_ble_eq_true rfl, Nat.le_of_ble_eq_true rfl⟩) (zPV2 (q0 := 0) (ci := 7) hPc hDc hK hXN rfl rfl) rfl rfl hl.1 rfl (lv_room (Nat.le_of_ble_eq_true rfl)) dX10_meets_5 ⟨Nat.le_of_ble_eq_true rfl, Nat.le_of_ble_eq_true rfl⟩) hS hFc hFc rfl (fun t H locs ht hB hk1 hS => ?_)
      obtain ⟨hP1, hD1⟩ := hB
      rw [ht] at hP1
      replace hP := z0 hP hD hk1 hP1 hI1
      clear hk1 hPc hDc hFc hP1 hD1 ht hI1
      obtain ⟨hP, hD⟩ := pl_bk (X := [_, _, _]) hT_1 hP rfl hc9_1 hD0_1 rfl
      refine lv_astore_nN (lv' := [(3, .null), (0, .ref x), (1, .int (nI f0)), (2, .int w)]) hx hb dX10_meets_8 rfl hl (Nat.le_of_ble_eq_true rfl) rfl (fun ls hl => ?_)
      rcases v_c (v := w) (ft := ft) h200 with hb3 | ⟨g0, hq3, rfl⟩
      · skip
        refine lv_aload_n hx hb dX10_meets_9 rfl (lv_at hl 1 rfl) ?_
        refine va_get (D := (dC, dI)) (ci := 8) (v := .ref sh) (C := RX10) (T := TX10) (N := 13) hx hb hts inX10 hown hK hP 0 rfl rfl 0 (Nat.le_of_ble_eq_true rfl) (hts _ mw_309) (fun _ h9 => h9) rfl dX10_meets_10 ?_
        refine lv_iload_n hx hb dX10_meets_13 rfl (lv_at hl 3 rfl) ?_
        obtain ⟨hPc, hDc, hFc, hI1⟩ := zi_sub (wc := [_, _]) hP hD hS hA [1, 2] rfl rfl
        refine zcall (st1 := [.null]) (va_runV (As := [.int w]) (rest := []) ⟨hx, hb, hml, hown, hts⟩ (k_Sheet_rowThere_x l dC dI cI cZ cF H.size sh fa ft FA w (h200) (hb3)) (csV_144 hts rfl rfl ⟨Nat.le_of_ble_eq_true rfl, Nat.le_of_ble_eq_true rfl⟩) (zPV2 (q0 := 0) (ci := 7) hPc hDc hK hXN rfl rfl) rfl rfl hl.1 rfl (lv_room (Nat.le_of_ble_eq_true rfl)) dX10_meets_14 ⟨Nat.le_of_ble_eq_true rfl, Nat.le_of_ble_eq_true rfl⟩) hS hFc hFc rfl (fun t H locs ht hB hk1 hS => ?_)
        obtain ⟨hP1, hD1⟩ := hB
        rw [ht] at hP1
        replace hP := z0 hP hD hk1 hP1 hI1
        clear hk1 hPc hDc hFc hP1 hD1 ht hI1
        refine lv_astoreN (lv' := [(4, .null), (3, .null), (0, .ref x), (1, .int (nI f0)), (2, .int w)]) hx hb dX10_meets_17 hl (Nat.le_of_ble_eq_true rfl) rfl (fun ls hl => ?_)
        refine lv_aload_nN hx hb dX10_meets_19 rfl (lv_at hl 1 rfl) ?_
        refine lv_ifnullN (tgt := 41) hx hb dX10_meets_20 rfl ?_
        refine lv_iconst (v := 0) hx hb dX10_meets_41 rfl ?_
        obtain ⟨hP9, hD9⟩ := zu_part (cx := [_, _, _]) hP hD [true, true, true] rfl rfl
        rw [hQ9]
        exact W.zret (ty := .boolean) (v := 0) hx hb hr (rfl) (fun t ht hW => ⟨⟨rfl, by rw [ht]; exact hP9, hD9⟩, hS.F ht⟩) hS.2.2 dX10_meets_42
      · skip
        refine lv_aload_n hx hb dX10_meets_9 rfl (lv_at hl 1 rfl) ?_
        rcases vwA_3 (P9 := ((st g0).toInt = 1)) (hva g0 (by omega)) with ⟨ht3, fe3, lk3, lo3, we3, fm3, hFA3, hfe3, hlk3⟩ | ⟨ht3, hA3, fe3, lk3, lo3, we3, fm3, r3, rx3, ry3, cap3, U3, V3, rg3, hFA3, hfe3, hlk3, ⟨hr3, hrx3, hry3, hne3⟩, hrr3⟩ | ⟨ht3, hA3, fe3, lk3, lo3, we3, fm3, r3, rx3, ry3, cap3, U3, V3, rg3, hFA3, hfe3, hlk3, ⟨hr3, hrx3, hry3, hne3⟩, hrr3⟩
        · skip
          refine va_get (D := (dC, dI)) (ci := 8) (v := .ref sh) (C := RX10) (T := TX10) (N := 13) hx hb hts inX10 hown hK hP 0 rfl rfl 0 (Nat.le_of_ble_eq_true rfl) (hts _ mw_309) (fun _ h9 => h9) rfl dX10_meets_10 ?_
          have hc9_2 : inPl L f [(oc1 fe3 (rk g0) (wd g0) (tw g0) (pa g0) (pb g0) (.ref lo3) (.ref lk3) fm3), (oc4 lk3 (kd g0) (st g0) .null (gb g0) (it g0) we3)] := ⟨hfe3, hlk3, trivial⟩
          have hD0_2 := hD
          obtain ⟨T_2, hT_2, hP, hD⟩ := pl_oT hP hD hc9_2 (pwF hfe3.2 hlk3.2)
          obtain ⟨hP, hD⟩ := zre (W2 := ([_, _, _, _, _] ++ va_pl T_2 f)) hP hD rfl
          refine lv_iload_n hx hb dX10_meets_13 rfl (lv_at hl 3 rfl) ?_
          obtain ⟨hPc, hDc, hFc, hI1⟩ := zi_sub (wc := [_, _, _, _]) hP hD hS hA [1, 2, 3, 4] (by decide +kernel) rfl
          refine zcall (st1 := [.null]) (va_runV (As := [.int (nI g0)]) (rest := []) ⟨hx, hb, hml, hown, hts⟩ (k_Sheet_rowThere_tv l dC dI cI cZ cF H.size sh fa ft FA g0 fe3 lo3 (rk g0) (wd g0) (tw g0) (pa g0) (pb g0) lk3 (kd g0) (st g0) (gb g0) (it g0) we3 fm3 (h200) (by first | with_reducible assumption | omega) (hFA3)) (csV_144 hts rfl rfl ⟨Nat.le_of_ble_eq_true rfl, Nat.le_of_ble_eq_true rfl⟩) (zPV2 (q0 := 0) (ci := 7) hPc hDc hK hXN rfl rfl) rfl rfl hl.1 rfl (lv_room (Nat.le_of_ble_eq_true rfl)) dX10_meets_14 ⟨Nat.le_of_ble_eq_true rfl, Nat.le_of_ble_eq_true rfl⟩) hS hFc hFc rfl (fun t H locs ht hB hk1 hS => ?_)
          obtain ⟨hP1, hD1⟩ := hB
          rw [ht] at hP1
          replace hP := z0 hP hD hk1 hP1 hI1
          clear hk1 hPc hDc hFc hP1 hD1 ht hI1
          obtain ⟨hP, hD⟩ := pl_bk (X := [_, _, _]) hT_2 hP rfl hc9_2 hD0_2 rfl
          refine lv_astoreN (lv' := [(4, .null), (3, .null), (0, .ref x), (1, .int (nI f0)), (2, .int (nI g0))]) hx hb dX10_meets_17 hl (Nat.le_of_ble_eq_true rfl) rfl (fun ls hl => ?_)
          refine lv_aload_nN hx hb dX10_meets_19 rfl (lv_at hl 1 rfl) ?_
          refine lv_ifnullN (tgt := 41) hx hb dX10_meets_20 rfl ?_
          refine lv_iconst (v := 0) hx hb dX10_meets_41 rfl ?_
          obtain ⟨hP9, hD9⟩ := zu_part (cx := [_, _, _]) hP hD [true, true, true] rfl rfl
          rw [hQ9]
          exact W.zret (ty := .boolean) (v := 0) hx hb hr (rfl) (fun t ht hW => ⟨⟨rfl, by rw [ht]; exact hP9, hD9⟩, hS.F ht⟩) hS.2.2 dX10_meets_42
        · skip
          refine va_get (D := (dC, dI)) (ci := 8) (v := .ref sh) (C := RX10) (T := TX10) (N := 13) hx hb hts inX10 hown hK hP 0 rfl rfl 0 (Nat.le_of_ble_eq_true rfl) (hts _ mw_309) (fun _ h9 => h9) rfl dX10_meets_10 ?_
          have hc9_2 : inPl L f [(oc1 fe3 (rk g0) (wd g0) (tw g0) (pa g0) (pb g0) (.ref lo3) (.ref lk3) fm3), (oc4 lk3 (kd g0) (st g0) (.ref r3) (gb g0) (it g0) we3)] := ⟨hfe3, hlk3, trivial⟩
          have hD0_2 := hD
          obtain ⟨T_2, hT_2, hP, hD⟩ := pl_oT hP hD hc9_2 (pwF hfe3.2 hlk3.2)
          obtain ⟨hP, hD⟩ := zre (W2 := ([_, _, _, _, _] ++ va_pl T_2 f)) hP hD rfl
          refine lv_iload_n hx hb dX10_meets_13 rfl (lv_at hl 3 rfl) ?_
          obtain ⟨hPc, hDc, hFc, hI1⟩ := zi_sub (wc := [_, _, _, _]) hP hD hS hA [1, 2, 3, 4] (by decide +kernel) rfl
          refine zcall (st1 := [.ref r3]) (va_runV (As := [.int (nI g0)]) (rest := []) ⟨hx, hb, hml, hown, hts⟩ (k_Sheet_rowThere_yv l dC dI cI cZ cF H.size sh fa ft FA g0 fe3 lo3 (rk g0) (wd g0) (tw g0) (pa g0) (pb g0) lk3 (kd g0) (st g0) (gb g0) (it g0) we3 r3 fm3 (h200) (by first | with_reducible assumption | omega) (hFA3) (by first | exact hA3 | omega)) (csV_144 hts rfl rfl ⟨Nat.le_of_ble_eq_true rfl, Nat.le_of_ble_eq_true rfl⟩) (zPV2 (q0 := 0) (ci := 7) hPc hDc hK hXN rfl rfl) rfl rfl hl.1 rfl (lv_room (Nat.le_of_ble_eq_true rfl)) dX10_meets_14 ⟨Nat.le_of_ble_eq_true rfl, Nat.le_of_ble_eq_true rfl⟩) hS hFc hFc rfl (fun t H locs ht hB hk1 hS => ?_)
          obtain ⟨hP1, hD1⟩ := hB
          rw [ht] at hP1
          replace hP := z0 hP hD hk1 hP1 hI1
          clear hk1 hPc hDc hFc hP1 hD1 ht hI1
          obtain ⟨hP, hD⟩ := pl_bk (X := [_, _, _]) hT_2 hP rfl hc9_2 hD0_2 rfl
          refine lv_astore (lv' := [(4, .ref r3), (3, .null), (0, .ref x), (1, .int (nI f0)), (2, .int (nI g0))]) hx hb dX10_meets_17 hl (Nat.le_of_ble_eq_true rfl) rfl (fun ls hl => ?_)
          refine lv_aload_nN hx hb dX10_meets_19 rfl (lv_at hl 1 rfl) ?_
          refine lv_ifnullN (tgt := 41) hx hb dX10_meets_20 rfl ?_
          refine lv_iconst (v := 0) hx hb dX10_meets_41 rfl ?_
          obtain ⟨hP9, hD9⟩ := zu_part (cx := [_, _, _]) hP hD [true, true, true] rfl rfl
          rw [hQ9]
          exact W.zret (ty := .boolean) (v := 0) hx hb hr (rfl) (fun t ht hW => ⟨⟨rfl, by rw [ht]; exact hP9, hD9⟩, hS.F ht⟩) hS.2.2 dX10_meets_42
        · skip
          refine va_get (D := (dC, dI)) (ci := 8) (v := .ref sh) (C := RX10) (T := TX10) (N := 13) hx hb hts inX10 hown hK hP 0 rfl rfl 0 (Nat.le_of_ble_eq_true rfl) (hts _ mw_309) (fun _ h9 => h9) rfl dX10_meets_10 ?_
          have hc9_2 : inPl L f [(oc1 fe3 (rk g0) (wd g0) (tw g0) (pa g0) (pb g0) (.ref lo3) (.ref lk3) fm3), (oc4 lk3 (kd g0) (st g0) (.ref r3) (gb g0) (it g0) we3)] := ⟨hfe3, hlk3, trivial⟩
          have hD0_2 := hD
          obtain ⟨T_2, hT_2, hP, hD⟩ := pl_oT hP hD hc9_2 (pwF hfe3.2 hlk3.2)
          obtain ⟨hP, hD⟩ := zre (W2 := ([_, _, _, _, _] ++ va_pl T_2 f)) hP hD rfl
          refine lv_iload_n hx hb dX10_meets_13 rfl (lv_at hl 3 rfl) ?_
          obtain ⟨hPc, hDc, hFc, hI1⟩ := zi_sub (wc := [_, _, _, _]) hP hD hS hA [1, 2, 3, 4] (by decide +kernel) rfl
          refine zcall (st1 := [.null]) (va_runV (As := [.int (nI g0)]) (rest := []) ⟨hx, hb, hml, hown, hts⟩ (k_Sheet_rowThere_sv l dC dI cI cZ cF H.size sh fa ft FA g0 fe3 lo3 (rk g0) (wd g0) (tw g0) (pa g0) (pb g0) lk3 (kd g0) (st g0) (gb g0) (it g0) we3 fm3 (.ref r3) (h200) (by first | with_reducible assumption | omega) (hFA3) (by first | exact hA3 | omega)) (csV_144 hts rfl rfl ⟨Nat.le_of_ble_eq_true rfl, Nat.le_of_ble_eq_true rfl⟩) (zPV2 (q0 := 0) (ci := 7) hPc hDc hK hXN rfl rfl) rfl rfl hl.1 rfl (lv_room (Nat.le_of_ble_eq_true rfl)) dX10_meets_14 ⟨Nat.le_of_ble_eq_true rfl, Nat.le_of_ble_eq_true rfl⟩) hS hFc hFc rfl (fun t H locs ht hB hk1 hS => ?_)
          obtain ⟨hP1, hD1⟩ := hB
          rw [ht] at hP1
          replace hP := z0 hP hD hk1 hP1 hI1
          clear hk1 hPc hDc hFc hP1 hD1 ht hI1
          obtain ⟨hP, hD⟩ := pl_bk (X := [_, _, _]) hT_2 hP rfl hc9_2 hD0_2 rfl
          refine lv_astoreN (lv' := [(4, .null), (3, .null), (0, .ref x), (1, .int (nI f0)), (2, .int (nI g0))]) hx hb dX10_meets_17 hl (Nat.le_of_ble_eq_true rfl) rfl (fun ls hl => ?_)
          refine lv_aload_nN hx hb dX10_meets_19 rfl (lv_at hl 1 rfl) ?_
          refine lv_ifnullN (tgt := 41) hx hb dX10_meets_20 rfl ?_
          refine lv_iconst (v := 0) hx hb dX10_meets_41 rfl ?_
          obtain ⟨hP9, hD9⟩ := zu_part (cx := [_, _, _]) hP hD [true, true, true] rfl rfl
          rw [hQ9]
          exact W.zret (ty := .boolean) (v := 0) hx hb hr (rfl) (fun t ht hW => ⟨⟨rfl, by rw [ht]; exact hP9, hD9⟩, hS.F ht⟩) hS.2.2 dX10_meets_42
    · skip
      refine va_get (D := (dC, dI)) (ci := 8) (v := .ref sh) (C := RX10) (T := TX10) (N := 13) hx hb hts inX10 hown hK hP 0 rfl rfl 0 (Nat.le_of_ble_eq_true rfl) (hts _ mw_309) (fun _ h9 => h9) rfl dX10_meets_1 ?_
      have hc9_1 : inPl L f [(oc1 fe2 (rk f0) (wd f0) (tw f0) (pa f0) (pb f0) (.ref lo2) (.ref lk2) fm2), (oc4 lk2 (kd f0) (st f0) (.ref r2) (gb f0) (it f0) we2)] := ⟨hfe2, hlk2, trivial⟩
      have hD0_1 := hD
      obtain ⟨T_1, hT_1, hP, hD⟩ := pl_oT hP hD hc9_1 (pwF hfe2.2 hlk2.2)
      obtain ⟨hP, hD⟩ := zre (W2 := ([_, _, _, _, _] ++ va_pl T_1 f)) hP hD rfl
      refine lv_iload_n hx hb dX10_meets_4 rfl (lv_at hl 1 rfl) ?_
      obtain ⟨hPc, hDc, hFc, hI1⟩ := zi_sub (wc := [_, _, _, _]) hP hD hS hA [1, 2, 3, 4] (by decide +kernel) rfl
      refine zcall (st1 := [.ref r2]) (va_runV (As := [.int (nI f0)]) (rest := []) ⟨hx, hb, hml, hown, hts⟩ (k_Sheet_rowThere_yv l dC dI cI cZ cF s.heap.size sh fa ft FA f0 fe2 lo2 (rk f0) (wd f0) (tw f0) (pa f0) (pb f0) lk2 (kd f0) (st f0) (gb f0) (it f0) we2 r2 fm2 (h200) (by first | with_reducible assumption | omega) (hFA2) (by first | exact hA2 | omega)) (csV_144 hts rfl rfl ⟨Nat.le_of_ble_eq_true rfl, Nat.le_of_ble_eq_true rfl⟩) (zPV2 (q0 := 0) (ci := 7) hPc hDc hK hXN rfl rfl) rfl rfl hl.1 rfl (lv_room (Nat.le_of_ble_eq_true rfl)) dX10_meets_5 ⟨Nat.le_of_ble_eq_true rfl, Nat.le_of_ble_eq_true rfl⟩) hS hFc hFc rfl (fun t H locs ht hB hk1 hS => ?_)
      obtain ⟨hP1, hD1⟩ := hB
      rw [ht] at hP1
      replace hP := z0 hP hD hk1 hP1 hI1
      clear hk1 hPc hDc hFc hP1 hD1 ht hI1
      obtain ⟨hP, hD⟩ := pl_bk (X := [_, _, _]) hT_1 hP rfl hc9_1 hD0_1 rfl
      refine lv_astore_n (lv' := [(3, .ref r2), (0, .ref x), (1, .int (nI f0)), (2, .int w)]) hx hb dX10_meets_8 rfl hl (Nat.le_of_ble_eq_true rfl) rfl (fun ls hl => ?_)
      rcases v_c (v := w) (ft := ft) h200 with hb3 | ⟨g0, hq3, rfl⟩
      · skip
        refine lv_aload_n hx hb dX10_meets_9 rfl (lv_at hl 1 rfl) ?_
        refine va_get (D := (dC, dI)) (ci := 8) (v := .ref sh) (C := RX10) (T := TX10) (N := 13) hx hb hts inX10 hown hK hP 0 rfl rfl 0 (Nat.le_of_ble_eq_true rfl) (hts _ mw_309) (fun _ h9 => h9) rfl dX10_meets_10 ?_
        refine lv_iload_n hx hb dX10_meets_13 rfl (lv_at hl 3 rfl) ?_
        obtain ⟨hPc, hDc, hFc, hI1⟩ := zi_sub (wc := [_, _]) hP hD hS hA [1, 2] rfl rfl
        refine zcall (st1 := [.null]) (va_runV (As := [.int w]) (rest := []) ⟨hx, hb, hml, hown, hts⟩ (k_Sheet_rowThere_x l dC dI cI cZ cF H.size sh fa ft FA w (h200) (hb3)) (csV_144 hts rfl rfl ⟨Nat.le_of_ble_eq_true rfl, Nat.le_of_ble_eq_true rfl⟩) (zPV2 (q0 := 0) (ci := 7) hPc hDc hK hXN rfl rfl) rfl rfl hl.1 rfl (lv_room (Nat.le_of_ble_eq_true rfl)) dX10_meets_14 ⟨Nat.le_of_ble_eq_true rfl, Nat.le_of_ble_eq_true rfl⟩) hS hFc hFc rfl (fun t H locs ht hB hk1 hS => ?_)
        obtain ⟨hP1, hD1⟩ := hB
        rw [ht] at hP1
        replace hP := z0 hP hD hk1 hP1 hI1
        clear hk1 hPc hDc hFc hP1 hD1 ht hI1
        refine lv_astoreN (lv' := [(4, .null), (3, .ref r2), (0, .ref x), (1, .int (nI f0)), (2, .int w)]) hx hb dX10_meets_17 hl (Nat.le_of_ble_eq_true rfl) rfl (fun ls hl => ?_)
        refine lv_aload_n hx hb dX10_meets_19 rfl (lv_at hl 1 rfl) ?_
        refine lv_ifnull hx hb dX10_meets_20 ?_
        refine lv_aloadN hx hb dX10_meets_23 (lv_at hl 0 rfl) ?_
        refine lv_ifnullN (tgt := 41) hx hb dX10_meets_25 rfl ?_
        refine lv_iconst (v := 0) hx hb dX10_meets_41 rfl ?_
        obtain ⟨hP9, hD9⟩ := zu_part (cx := [_, _, _]) hP hD [true, true, true] rfl rfl
        rw [hQ9]
        exact W.zret (ty := .boolean) (v := 0) hx hb hr (rfl) (fun t ht hW => ⟨⟨rfl, by rw [ht]; exact hP9, hD9⟩, hS.F ht⟩) hS.2.2 dX10_meets_42
      · skip
        refine lv_aload_n hx hb dX10_meets_9 rfl (lv_at hl 1 rfl) ?_
        rcases vwA_3 (P9 := ((st g0).toInt = 1)) (hva g0 (by omega)) with ⟨ht3, fe3, lk3, lo3, we3, fm3, hFA3, hfe3, hlk3⟩ | ⟨ht3, hA3, fe3, lk3, lo3, we3, fm3, r3, rx3, ry3, cap3, U3, V3, rg3, hFA3, hfe3, hlk3, ⟨hr3, hrx3, hry3, hne3⟩, hrr3⟩ | ⟨ht3, hA3, fe3, lk3, lo3, we3, fm3, r3, rx3, ry3, cap3, U3, V3, rg3, hFA3, hfe3, hlk3, ⟨hr3, hrx3, hry3, hne3⟩, hrr3⟩
        · skip
          refine va_get (D := (dC, dI)) (ci := 8) (v := .ref sh) (C := RX10) (T := TX10) (N := 13) hx hb hts inX10 hown hK hP 0 rfl rfl 0 (Nat.le_of_ble_eq_true rfl) (hts _ mw_309) (fun _ h9 => h9) rfl dX10_meets_10 ?_
          have hc9_2 : inPl L f [(oc1 fe3 (rk g0) (wd g0) (tw g0) (pa g0) (pb g0) (.ref lo3) (.ref lk3) fm3), (oc4 lk3 (kd g0) (st g0) .null (gb g0) (it g0) we3)] := ⟨hfe3, hlk3, trivial⟩
          have hD0_2 := hD
          obtain ⟨T_2, hT_2, hP, hD⟩ := pl_oT hP hD hc9_2 (pwF hfe3.2 hlk3.2)
          obtain ⟨hP, hD⟩ := zre (W2 := ([_, _, _, _, _] ++ va_pl T_2 f)) hP hD rfl
          refine lv_iload_n hx hb dX10_meets_13 rfl (lv_at hl 3 rfl) ?_
          obtain ⟨hPc, hDc, hFc, hI1⟩ := zi_sub (wc := [_, _, _, _]) hP hD hS hA [1, 2, 3, 4] (by decide +kernel) rfl
          refine zcall (st1 := [.null]) (va_runV (As := [.int (nI g0)]) (rest := []) ⟨hx, hb, hml, hown, hts⟩ (k_Sheet_rowThere_tv l dC dI cI cZ cF H.size sh fa ft FA g0 fe3 lo3 (rk g0) (wd g0) (tw g0) (pa g0) (pb g0) lk3 (kd g0) (st g0) (gb g0) (it g0) we3 fm3 (h200) (by first | with_reducible assumption | omega) (hFA3)) (csV_144 hts rfl rfl ⟨Nat.le_of_ble_eq_true rfl, Nat.le_of_ble_eq_true rfl⟩) (zPV2 (q0 := 0) (ci := 7) hPc hDc hK hXN rfl rfl) rfl rfl hl.1 rfl (lv_room (Nat.le_of_ble_eq_true rfl)) dX10_meets_14 ⟨Nat.le_of_ble_eq_true rfl, Nat.le_of_ble_eq_true rfl⟩) hS hFc hFc rfl (fun t H locs ht hB hk1 hS => ?_)
          obtain ⟨hP1, hD1⟩ := hB
          rw [ht] at hP1
          replace hP := z0 hP hD hk1 hP1 hI1
          clear hk1 hPc hDc hFc hP1 hD1 ht hI1
          obtain ⟨hP, hD⟩ := pl_bk (X := [_, _, _]) hT_2 hP rfl hc9_2 hD0_2 rfl
          refine lv_astoreN (lv' := [(4, .null), (3, .ref r2), (0, .ref x), (1, .int (nI f0)), (2, .int (nI g0))]) hx hb dX10_meets_17 hl (Nat.le_of_ble_eq_true rfl) rfl (fun ls hl => ?_)
          refine lv_aload_n hx hb dX10_meets_19 rfl (lv_at hl 1 rfl) ?_
          refine lv_ifnull hx hb dX10_meets_20 ?_
          refine lv_aloadN hx hb dX10_meets_23 (lv_at hl 0 rfl) ?_
          refine lv_ifnullN (tgt := 41) hx hb dX10_meets_25 rfl ?_
          refine lv_iconst (v := 0) hx hb dX10_meets_41 rfl ?_
          obtain ⟨hP9, hD9⟩ := zu_part (cx := [_, _, _]) hP hD [true, true, true] rfl rfl
          rw [hQ9]
          exact W.zret (ty := .boolean) (v := 0) hx hb hr (rfl) (fun t ht hW => ⟨⟨rfl, by rw [ht]; exact hP9, hD9⟩, hS.F ht⟩) hS.2.2 dX10_meets_42
        · skip
          refine va_get (D := (dC, dI)) (ci := 8) (v := .ref sh) (C := RX10) (T := TX10) (N := 13) hx hb hts inX10 hown hK hP 0 rfl rfl 0 (Nat.le_of_ble_eq_true rfl) (hts _ mw_309) (fun _ h9 => h9) rfl dX10_meets_10 ?_
          have hc9_2 : inPl L f [(oc1 fe3 (rk g0) (wd g0) (tw g0) (pa g0) (pb g0) (.ref lo3) (.ref lk3) fm3), (oc4 lk3 (kd g0) (st g0) (.ref r3) (gb g0) (it g0) we3)] := ⟨hfe3, hlk3, trivial⟩
          have hD0_2 := hD
          obtain ⟨T_2, hT_2, hP, hD⟩ := pl_oT hP hD hc9_2 (pwF hfe3.2 hlk3.2)
          obtain ⟨hP, hD⟩ := zre (W2 := ([_, _, _, _, _] ++ va_pl T_2 f)) hP hD rfl
          refine lv_iload_n hx hb dX10_meets_13 rfl (lv_at hl 3 rfl) ?_
          obtain ⟨hPc, hDc, hFc, hI1⟩ := zi_sub (wc := [_, _, _, _]) hP hD hS hA [1, 2, 3, 4] (by decide +kernel) rfl
          refine zcall (st1 := [.ref r3]) (va_runV (As := [.int (nI g0)]) (rest := []) ⟨hx, hb, hml, hown, hts⟩ (k_Sheet_rowThere_yv l dC dI cI cZ cF H.size sh fa ft FA g0 fe3 lo3 (rk g0) (wd g0) (tw g0) (pa g0) (pb g0) lk3 (kd g0) (st g0) (gb g0) (it g0) we3 r3 fm3 (h200) (by first | with_reducible assumption | omega) (hFA3) (by first | exact hA3 | omega)) (csV_144 hts rfl rfl ⟨Nat.le_of_ble_eq_true rfl, Nat.le_of_ble_eq_true rfl⟩) (zPV2 (q0 := 0) (ci := 7) hPc hDc hK hXN rfl rfl) rfl rfl hl.1 rfl (lv_room (Nat.le_of_ble_eq_true rfl)) dX10_meets_14 ⟨Nat.le_of_ble_eq_true rfl, Nat.le_of_ble_eq_true rfl⟩) hS hFc hFc rfl (fun t H locs ht hB hk1 hS => ?_)
          obtain ⟨hP1, hD1⟩ := hB
          rw [ht] at hP1
          replace hP := z0 hP hD hk1 hP1 hI1
          clear hk1 hPc hDc hFc hP1 hD1 ht hI1
          obtain ⟨hP, hD⟩ := pl_bk (X := [_, _, _]) hT_2 hP rfl hc9_2 hD0_2 rfl
          refine lv_astore (lv' := [(4, .ref r3), (3, .ref r2), (0, .ref x), (1, .int (nI f0)), (2, .int (nI g0))]) hx hb dX10_meets_17 hl (Nat.le_of_ble_eq_true rfl) rfl (fun ls hl => ?_)
          refine lv_aload_n hx hb dX10_meets_19 rfl (lv_at hl 1 rfl) ?_
          refine lv_ifnull hx hb dX10_meets_20 ?_
          refine lv_aload hx hb dX10_meets_23 (lv_at hl 0 rfl) ?_
          refine lv_ifnull hx hb dX10_meets_25 ?_
          exact absurd ⟨⟨f0, rfl, hq2, hA2, ht2⟩, g0, rfl, hq3, hA3, ht3⟩ hbad
        · skip
          refine va_get (D := (dC, dI)) (ci := 8) (v := .ref sh) (C := RX10) (T := TX10) (N := 13) hx hb hts inX10 hown hK hP 0 rfl rfl 0 (Nat.le_of_ble_eq_true rfl) (hts _ mw_309) (fun _ h9 => h9) rfl dX10_meets_10 ?_
          have hc9_2 : inPl L f [(oc1 fe3 (rk g0) (wd g0) (tw g0) (pa g0) (pb g0) (.ref lo3) (.ref lk3) fm3), (oc4 lk3 (kd g0) (st g0) (.ref r3) (gb g0) (it g0) we3)] := ⟨hfe3, hlk3, trivial⟩
          have hD0_2 := hD
          obtain ⟨T_2, hT_2, hP, hD⟩ := pl_oT hP hD hc9_2 (pwF hfe3.2 hlk3.2)
          obtain ⟨hP, hD⟩ := zre (W2 := ([_, _, _, _, _] ++ va_pl T_2 f)) hP hD rfl
          refine lv_iload_n hx hb dX10_meets_13 rfl (lv_at hl 3 rfl) ?_
          obtain ⟨hPc, hDc, hFc, hI1⟩ := zi_sub (wc := [_, _, _, _]) hP hD hS hA [1, 2, 3, 4] (by decide +kernel) rfl
          refine zcall (st1 := [.null]) (va_runV (As := [.int (nI g0)]) (rest := []) ⟨hx, hb, hml, hown, hts⟩ (k_Sheet_rowThere_sv l dC dI cI cZ cF H.size sh fa ft FA g0 fe3 lo3 (rk g0) (wd g0) (tw g0) (pa g0) (pb g0) lk3 (kd g0) (st g0) (gb g0) (it g0) we3 fm3 (.ref r3) (h200) (by first | with_reducible assumption | omega) (hFA3) (by first | exact hA3 | omega)) (csV_144 hts rfl rfl ⟨Nat.le_of_ble_eq_true rfl, Nat.le_of_ble_eq_true rfl⟩) (zPV2 (q0 := 0) (ci := 7) hPc hDc hK hXN rfl rfl) rfl rfl hl.1 rfl (lv_room (Nat.le_of_ble_eq_true rfl)) dX10_meets_14 ⟨Nat.le_of_ble_eq_true rfl, Nat.le_of_ble_eq_true rfl⟩) hS hFc hFc rfl (fun t H locs ht hB hk1 hS => ?_)
          obtain ⟨hP1, hD1⟩ := hB
          rw [ht] at hP1
          replace hP := z0 hP hD hk1 hP1 hI1
          clear hk1 hPc hDc hFc hP1 hD1 ht hI1
          obtain ⟨hP, hD⟩ := pl_bk (X := [_, _, _]) hT_2 hP rfl hc9_2 hD0_2 rfl
          refine lv_astoreN (lv' := [(4, .null), (3, .ref r2), (0, .ref x), (1, .int (nI f0)), (2, .int (nI g0))]) hx hb dX10_meets_17 hl (Nat.le_of_ble_eq_true rfl) rfl (fun ls hl => ?_)
          refine lv_aload_n hx hb dX10_meets_19 rfl (lv_at hl 1 rfl) ?_
          refine lv_ifnull hx hb dX10_meets_20 ?_
          refine lv_aloadN hx hb dX10_meets_23 (lv_at hl 0 rfl) ?_
          refine lv_ifnullN (tgt := 41) hx hb dX10_meets_25 rfl ?_
          refine lv_iconst (v := 0) hx hb dX10_meets_41 rfl ?_
          obtain ⟨hP9, hD9⟩ := zu_part (cx := [_, _, _]) hP hD [true, true, true] rfl rfl
          rw [hQ9]
          exact W.zret (ty := .boolean) (v := 0) hx hb hr (rfl) (fun t ht hW => ⟨⟨rfl, by rw [ht]; exact hP9, hD9⟩, hS.F ht⟩) hS.2.2 dX10_meets_42
    · skip
      refine va_get (D := (dC, dI)) (ci := 8) (v := .ref sh) (C := RX10) (T := TX10) (N := 13) hx hb hts inX10 hown hK hP 0 rfl rfl 0 (Nat.le_of_ble_eq_true rfl) (hts _ mw_309) (fun _ h9 => h9) rfl dX10_meets_1 ?_
      have hc9_1 : inPl L f [(oc1 fe2 (rk f0) (wd f0) (tw f0) (pa f0) (pb f0) (.ref lo2) (.ref lk2) fm2), (oc4 lk2 (kd f0) (st f0) (.ref r2) (gb f0) (it f0) we2)] := ⟨hfe2, hlk2, trivial⟩
      have hD0_1 := hD
      obtain ⟨T_1, hT_1, hP, hD⟩ := pl_oT hP hD hc9_1 (pwF hfe2.2 hlk2.2)
      obtain ⟨hP, hD⟩ := zre (W2 := ([_, _, _, _, _] ++ va_pl T_1 f)) hP hD rfl
      refine lv_iload_n hx hb dX10_meets_4 rfl (lv_at hl 1 rfl) ?_
      obtain ⟨hPc, hDc, hFc, hI1⟩ := zi_sub (wc := [_, _, _, _]) hP hD hS hA [1, 2, 3, 4] (by decide +kernel) rfl
      refine zcall (st1 := [.null]) (va_runV (As := [.int (nI f0)]) (rest := []) ⟨hx, hb, hml, hown, hts⟩ (k_Sheet_rowThere_sv l dC dI cI cZ cF s.heap.size sh fa ft FA f0 fe2 lo2 (rk f0) (wd f0) (tw f0) (pa f0) (pb f0) lk2 (kd f0) (st f0) (gb f0) (it f0) we2 fm2 (.ref r2) (h200) (by first | with_reducible assumption | omega) (hFA2) (by first | exact hA2 | omega)) (csV_144 hts rfl rfl ⟨Nat.le_of_ble_eq_true rfl, Nat.le_of_ble_eq_true rfl⟩) (zPV2 (q0 := 0) (ci := 7) hPc hDc hK hXN rfl rfl) rfl rfl hl.1 rfl (lv_room (Nat.le_of_ble_eq_true rfl)) dX10_meets_5 ⟨Nat.le_of_ble_eq_true rfl, Nat.le_of_ble_eq_true rfl⟩) hS hFc hFc rfl (fun t H locs ht hB hk1 hS => ?_)
      obtain ⟨hP1, hD1⟩ := hB
      rw [ht] at hP1
      replace hP := z0 hP hD hk1 hP1 hI1
      clear hk1 hPc hDc hFc hP1 hD1 ht hI1
      obtain ⟨hP, hD⟩ := pl_bk (X := [_, _, _]) hT_1 hP rfl hc9_1 hD0_1 rfl
      refine lv_astore_nN (lv' := [(3, .null), (0, .ref x), (1, .int (nI f0)), (2, .int w)]) hx hb dX10_meets_8 rfl hl (Nat.le_of_ble_eq_true rfl) rfl (fun ls hl => ?_)
      rcases v_c (v := w) (ft := ft) h200 with hb3 | ⟨g0, hq3, rfl⟩
      · skip
        refine lv_aload_n hx hb dX10_meets_9 rfl (lv_at hl 1 rfl) ?_
        refine va_get (D := (dC, dI)) (ci := 8) (v := .ref sh) (C := RX10) (T := TX10) (N := 13) hx hb hts inX10 hown hK hP 0 rfl rfl 0 (Nat.le_of_ble_eq_true rfl) (hts _ mw_309) (fun _ h9 => h9) rfl dX10_meets_10 ?_
        refine lv_iload_n hx hb dX10_meets_13 rfl (lv_at hl 3 rfl) ?_
        obtain ⟨hPc, hDc, hFc, hI1⟩ := zi_sub (wc := [_, _]) hP hD hS hA [1, 2] rfl rfl
        refine zcall (st1 := [.null]) (va_runV (As := [.int w]) (rest := []) ⟨hx, hb, hml, hown, hts⟩ (k_Sheet_rowThere_x l dC dI cI cZ cF H.size sh fa ft FA w (h200) (hb3)) (csV_144 hts rfl rfl ⟨Nat.le_of_ble_eq_true rfl, Nat.le_of_ble_eq_true rfl⟩) (zPV2 (q0 := 0) (ci := 7) hPc hDc hK hXN rfl rfl) rfl rfl hl.1 rfl (lv_room (Nat.le_of_ble_eq_true rfl)) dX10_meets_14 ⟨Nat.le_of_ble_eq_true rfl, Nat.le_of_ble_eq_true rfl⟩) hS hFc hFc rfl (fun t H locs ht hB hk1 hS => ?_)
        obtain ⟨hP1, hD1⟩ := hB
        rw [ht] at hP1
        replace hP := z0 hP hD hk1 hP1 hI1
        clear hk1 hPc hDc hFc hP1 hD1 ht hI1
        refine lv_astoreN (lv' := [(4, .null), (3, .null), (0, .ref x), (1, .int (nI f0)), (2, .int w)]) hx hb dX10_meets_17 hl (Nat.le_of_ble_eq_true rfl) rfl (fun ls hl => ?_)
        refine lv_aload_nN hx hb dX10_meets_19 rfl (lv_at hl 1 rfl) ?_
        refine lv_ifnullN (tgt := 41) hx hb dX10_meets_20 rfl ?_
        refine lv_iconst (v := 0) hx hb dX10_meets_41 rfl ?_
        obtain ⟨hP9, hD9⟩ := zu_part (cx := [_, _, _]) hP hD [true, true, true] rfl rfl
        rw [hQ9]
        exact W.zret (ty := .boolean) (v := 0) hx hb hr (rfl) (fun t ht hW => ⟨⟨rfl, by rw [ht]; exact hP9, hD9⟩, hS.F ht⟩) hS.2.2 dX10_meets_42
      · skip
        refine lv_aload_n hx hb dX10_meets_9 rfl (lv_at hl 1 rfl) ?_
        rcases vwA_3 (P9 := ((st g0).toInt = 1)) (hva g0 (by omega)) with ⟨ht3, fe3, lk3, lo3, we3, fm3, hFA3, hfe3, hlk3⟩ | ⟨ht3, hA3, fe3, lk3, lo3, we3, fm3, r3, rx3, ry3, cap3, U3, V3, rg3, hFA3, hfe3, hlk3, ⟨hr3, hrx3, hry3, hne3⟩, hrr3⟩ | ⟨ht3, hA3, fe3, lk3, lo3, we3, fm3, r3, rx3, ry3, cap3, U3, V3, rg3, hFA3, hfe3, hlk3, ⟨hr3, hrx3, hry3, hne3⟩, hrr3⟩
        · skip
          refine va_get (D := (dC, dI)) (ci := 8) (v := .ref sh) (C := RX10) (T := TX10) (N := 13) hx hb hts inX10 hown hK hP 0 rfl rfl 0 (Nat.le_of_ble_eq_true rfl) (hts _ mw_309) (fun _ h9 => h9) rfl dX10_meets_10 ?_
          have hc9_2 : inPl L f [(oc1 fe3 (rk g0) (wd g0) (tw g0) (pa g0) (pb g0) (.ref lo3) (.ref lk3) fm3), (oc4 lk3 (kd g0) (st g0) .null (gb g0) (it g0) we3)] := ⟨hfe3, hlk3, trivial⟩
          have hD0_2 := hD
          obtain ⟨T_2, hT_2, hP, hD⟩ := pl_oT hP hD hc9_2 (pwF hfe3.2 hlk3.2)
          obtain ⟨hP, hD⟩ := zre (W2 := ([_, _, _, _, _] ++ va_pl T_2 f)) hP hD rfl
          refine lv_iload_n hx hb dX10_meets_13 rfl (lv_at hl 3 rfl) ?_
          obtain ⟨hPc, hDc, hFc, hI1⟩ := zi_sub (wc := [_, _, _, _]) hP hD hS hA [1, 2, 3, 4] (by decide +kernel) rfl
          refine zcall (st1 := [.null]) (va_runV (As := [.int (nI g0)]) (rest := []) ⟨hx, hb, hml, hown, hts⟩ (k_Sheet_rowThere_tv l dC dI cI cZ cF H.size sh fa ft FA g0 fe3 lo3 (rk g0) (wd g0) (tw g0) (pa g0) (pb g0) lk3 (kd g0) (st g0) (gb g0) (it g0) we3 fm3 (h200) (by first | with_reducible assumption | omega) (hFA3)) (csV_144 hts rfl rfl ⟨Nat.le_of_ble_eq_true rfl, Nat.le_of_ble_eq_true rfl⟩) (zPV2 (q0 := 0) (ci := 7) hPc hDc hK hXN rfl rfl) rfl rfl hl.1 rfl (lv_room (Nat.le_of_ble_eq_true rfl)) dX10_meets_14 ⟨Nat.le_of_ble_eq_true rfl, Nat.le_of_ble_eq_true rfl⟩) hS hFc hFc rfl (fun t H locs ht hB hk1 hS => ?_)
          obtain ⟨hP1, hD1⟩ := hB
          rw [ht] at hP1
          replace hP := z0 hP hD hk1 hP1 hI1
          clear hk1 hPc hDc hFc hP1 hD1 ht hI1
          obtain ⟨hP, hD⟩ := pl_bk (X := [_, _, _]) hT_2 hP rfl hc9_2 hD0_2 rfl
          refine lv_astoreN (lv' := [(4, .null), (3, .null), (0, .ref x), (1, .int (nI f0)), (2, .int (nI g0))]) hx hb dX10_meets_17 hl (Nat.le_of_ble_eq_true rfl) rfl (fun ls hl => ?_)
          refine lv_aload_nN hx hb dX10_meets_19 rfl (lv_at hl 1 rfl) ?_
          refine lv_ifnullN (tgt := 41) hx hb dX10_meets_20 rfl ?_
          refine lv_iconst (v := 0) hx hb dX10_meets_41 rfl ?_
          obtain ⟨hP9, hD9⟩ := zu_part (cx := [_, _, _]) hP hD [true, true, true] rfl rfl
          rw [hQ9]
          exact W.zret (ty := .boolean) (v := 0) hx hb hr (rfl) (fun t ht hW => ⟨⟨rfl, by rw [ht]; exact hP9, hD9⟩, hS.F ht⟩) hS.2.2 dX10_meets_42
        · skip
          refine va_get (D := (dC, dI)) (ci := 8) (v := .ref sh) (C := RX10) (T := TX10) (N := 13) hx hb hts inX10 hown hK hP 0 rfl rfl 0 (Nat.le_of_ble_eq_true rfl) (hts _ mw_309) (fun _ h9 => h9) rfl dX10_meets_10 ?_
          have hc9_2 : inPl L f [(oc1 fe3 (rk g0) (wd g0) (tw g0) (pa g0) (pb g0) (.ref lo3) (.ref lk3) fm3), (oc4 lk3 (kd g0) (st g0) (.ref r3) (gb g0) (it g0) we3)] := ⟨hfe3, hlk3, trivial⟩
          have hD0_2 := hD
          obtain ⟨T_2, hT_2, hP, hD⟩ := pl_oT hP hD hc9_2 (pwF hfe3.2 hlk3.2)
          obtain ⟨hP, hD⟩ := zre (W2 := ([_, _, _, _, _] ++ va_pl T_2 f)) hP hD rfl
          refine lv_iload_n hx hb dX10_meets_13 rfl (lv_at hl 3 rfl) ?_
          obtain ⟨hPc, hDc, hFc, hI1⟩ := zi_sub (wc := [_, _, _, _]) hP hD hS hA [1, 2, 3, 4] (by decide +kernel) rfl
          refine zcall (st1 := [.ref r3]) (va_runV (As := [.int (nI g0)]) (rest := []) ⟨hx, hb, hml, hown, hts⟩ (k_Sheet_rowThere_yv l dC dI cI cZ cF H.size sh fa ft FA g0 fe3 lo3 (rk g0) (wd g0) (tw g0) (pa g0) (pb g0) lk3 (kd g0) (st g0) (gb g0) (it g0) we3 r3 fm3 (h200) (by first | with_reducible assumption | omega) (hFA3) (by first | exact hA3 | omega)) (csV_144 hts rfl rfl ⟨Nat.le_of_ble_eq_true rfl, Nat.le_of_ble_eq_true rfl⟩) (zPV2 (q0 := 0) (ci := 7) hPc hDc hK hXN rfl rfl) rfl rfl hl.1 rfl (lv_room (Nat.le_of_ble_eq_true rfl)) dX10_meets_14 ⟨Nat.le_of_ble_eq_true rfl, Nat.le_of_ble_eq_true rfl⟩) hS hFc hFc rfl (fun t H locs ht hB hk1 hS => ?_)
          obtain ⟨hP1, hD1⟩ := hB
          rw [ht] at hP1
          replace hP := z0 hP hD hk1 hP1 hI1
          clear hk1 hPc hDc hFc hP1 hD1 ht hI1
          obtain ⟨hP, hD⟩ := pl_bk (X := [_, _, _]) hT_2 hP rfl hc9_2 hD0_2 rfl
          refine lv_astore (lv' := [(4, .ref r3), (3, .null), (0, .ref x), (1, .int (nI f0)), (2, .int (nI g0))]) hx hb dX10_meets_17 hl (Nat.le_of_ble_eq_true rfl) rfl (fun ls hl => ?_)
          refine lv_aload_nN hx hb dX10_meets_19 rfl (lv_at hl 1 rfl) ?_
          refine lv_ifnullN (tgt := 41) hx hb dX10_meets_20 rfl ?_
          refine lv_iconst (v := 0) hx hb dX10_meets_41 rfl ?_
          obtain ⟨hP9, hD9⟩ := zu_part (cx := [_, _, _]) hP hD [true, true, true] rfl rfl
          rw [hQ9]
          exact W.zret (ty := .boolean) (v := 0) hx hb hr (rfl) (fun t ht hW => ⟨⟨rfl, by rw [ht]; exact hP9, hD9⟩, hS.F ht⟩) hS.2.2 dX10_meets_42
        · skip
          refine va_get (D := (dC, dI)) (ci := 8) (v := .ref sh) (C := RX10) (T := TX10) (N := 13) hx hb hts inX10 hown hK hP 0 rfl rfl 0 (Nat.le_of_ble_eq_true rfl) (hts _ mw_309) (fun _ h9 => h9) rfl dX10_meets_10 ?_
          have hc9_2 : inPl L f [(oc1 fe3 (rk g0) (wd g0) (tw g0) (pa g0) (pb g0) (.ref lo3) (.ref lk3) fm3), (oc4 lk3 (kd g0) (st g0) (.ref r3) (gb g0) (it g0) we3)] := ⟨hfe3, hlk3, trivial⟩
          have hD0_2 := hD
          obtain ⟨T_2, hT_2, hP, hD⟩ := pl_oT hP hD hc9_2 (pwF hfe3.2 hlk3.2)
          obtain ⟨hP, hD⟩ := zre (W2 := ([_, _, _, _, _] ++ va_pl T_2 f)) hP hD rfl
          refine lv_iload_n hx hb dX10_meets_13 rfl (lv_at hl 3 rfl) ?_
          obtain ⟨hPc, hDc, hFc, hI1⟩ := zi_sub (wc := [_, _, _, _]) hP hD hS hA [1, 2, 3, 4] (by decide +kernel) rfl
          refine zcall (st1 := [.null]) (va_runV (As := [.int (nI g0)]) (rest := []) ⟨hx, hb, hml, hown, hts⟩ (k_Sheet_rowThere_sv l dC dI cI cZ cF H.size sh fa ft FA g0 fe3 lo3 (rk g0) (wd g0) (tw g0) (pa g0) (pb g0) lk3 (kd g0) (st g0) (gb g0) (it g0) we3 fm3 (.ref r3) (h200) (by first | with_reducible assumption | omega) (hFA3) (by first | exact hA3 | omega)) (csV_144 hts rfl rfl ⟨Nat.le_of_ble_eq_true rfl, Nat.le_of_ble_eq_true rfl⟩) (zPV2 (q0 := 0) (ci := 7) hPc hDc hK hXN rfl rfl) rfl rfl hl.1 rfl (lv_room (Nat.le_of_ble_eq_true rfl)) dX10_meets_14 ⟨Nat.le_of_ble_eq_true rfl, Nat.le_of_ble_eq_true rfl⟩) hS hFc hFc rfl (fun t H locs ht hB hk1 hS => ?_)
          obtain ⟨hP1, hD1⟩ := hB
          rw [ht] at hP1
          replace hP := z0 hP hD hk1 hP1 hI1
          clear hk1 hPc hDc hFc hP1 hD1 ht hI1
          obtain ⟨hP, hD⟩ := pl_bk (X := [_, _, _]) hT_2 hP rfl hc9_2 hD0_2 rfl
          refine lv_astoreN (lv' := [(4, .null), (3, .null), (0, .ref x), (1, .int (nI f0)), (2, .int (nI g0))]) hx hb dX10_meets_17 hl (Nat.le_of_ble_eq_true rfl) rfl (fun ls hl => ?_)
          refine lv_aload_nN hx hb dX10_meets_19 rfl (lv_at hl 1 rfl) ?_
          refine lv_ifnullN (tgt := 41) hx hb dX10_meets_20 rfl ?_
          refine lv_iconst (v := 0) hx hb dX10_meets_41 rfl ?_
          obtain ⟨hP9, hD9⟩ := zu_part (cx := [_, _, _]) hP hD [true, true, true] rfl rfl
          rw [hQ9]
          exact W.zret (ty := .boolean) (v := 0) hx hb hr (rfl) (fun t ht hW => ⟨⟨rfl, by rw [ht]; exact hP9, hD9⟩, hS.F ht⟩) hS.2.2 dX10_meets_42
set_option maxHeartbeats 4000000 in
set_option maxRecDepth 100000 in
theorem k_meets_s (l : Launch) (dC : Nat → ClassId) (dI : Nat → Nat → Nat) (cI cZ cF : ClassId) (sz : Nat) (cO : ClassId) (e0 : Nat) (mi : Nat) (x : Nat) (sh : Nat) (lw : Nat) (ro : Nat) (bq : Nat) (bp : Nat) (dq : Nat) (dp : Nat) (lv : Nat) (sl : Nat) (sd : Int32) (ul : Int32) (su : Int32) (ea : Nat) (mc9 : Int32) (fa : Nat) (FA : Nat → Option Nat) (bs : Nat) (dn : Nat) (T : Nat) (ft : Nat) (FT : Nat → Nat) (V : Nat → Nat → Nat → Int32) (VX : Nat → Nat → Int32) (VY : Nat → Nat → Int32) (tn : Nat → Int32) (rk : Nat → Int32) (wd : Nat → Int32) (tw : Nat → Int32) (pa : Nat → Int32) (pb : Nat → Int32) (wh : Nat → Int32) (of9 : Nat → Int32) (we : Nat → Int32) (kd : Nat → Int32) (st : Nat → Int32) (gb : Nat → Int32) (it : Nat → Int32) (mn : Nat → Int32) (cx : Nat → Int32) (cy : Nat → Int32) (L : List Nat) (f : Nat → va_E) (f0 : Nat) (hB : shB cI cO L f e0 FA ea bs dn T ft FT V VX VY tn rk wd tw pa pb wh of9 we kd st gb it mn cx cy) (hf0 : f0 < ft) (htn : (tn f0).toInt = 0) (hst : (st f0).toInt = 1) (hwf : ∀ q, lvF ft st tn q → wfM mn cx cy q) (hkn : okN ft st tn kd mn) : zML l yX10_meets cX10_meets 5 (some .boolean) ({ frames := 3, cells := 0, slots := 0, locals := 65 } : Room) [.ref x, .int (nI f0), .int (nI f0)] (dC, dI) (zTyO cI cZ cF cO) e0 mi ([(oc8 x (.ref sh) (.ref lw) (.ref ro) (.ref bq) (.ref bp) (.ref dq) (.ref dp) (.ref lv) (.ref sl) (nI dn) sd ul su), (oc10 sl mc9 (.ref ea) (nI T)), (oc7 sh (.ref fa) (nI ft)), (oq fa cF 200 FA)] ++ va_pl L f) sz (some (.int 1)) (fun A t => zPD (dC, dI) classes A ([(oc8 x (.ref sh) (.ref lw) (.ref ro) (.ref bq) (.ref bp) (.ref dq) (.ref dp) (.ref lv) (.ref sl) (nI dn) sd ul su), (oc10 sl mc9 (.ref ea) (nI T)), (oc7 sh (.ref fa) (nI ft)), (oq fa cF 200 FA)] ++ va_pl L f) t.heap) 0 0 := by
  refine zInL (own := "ScaleShop") (loc := [(0, .ref x), (1, .int (nI f0)), (2, .int (nI f0))]) rfl rfl rfl rfl (fun p e s m below meth c hx hb hr hts hown hlocks hml hnm9 A hA hS hP hD hK hXL hXN hK3 Q9 hQ9 ls hl => ?_)
  obtain ⟨own, fe, cl, la, sp, SA, hG9, hH9, hft9, hO9⟩ := hB
  obtain ⟨hG, hM, hdT, hT5, hO⟩ := M_0 hG9 hH9 hft9 hO9
  have h200 : ft ≤ 200 := hG.2.2.2.2.2.1.2.2.2.2.2
  have hFA9 := hG.2.2.2.2.2.2
  refine ex13 (sh_fc hG.1 hG.2.1 (Nat.le_refl _) hf0 htn) (fun lo5 lx5 ly5 ln5 LX5 LY5 we5 r5 rx5 ry5 cap5 X5 Y5 hc5 => ?_)
  have hc5 := fc_0 hc5
  have hb5 := hc5.2.2.1
  have hb6 := hc5.2.1
  have hat9 := lo_at hO (Nat.le_refl _) hf0 hc5.1.1 hc5.1.2.2.2 (by omega) hc5.1.2.1 hb5.2.2
  have hlv : lvF ft st tn f0 := ⟨hf0, hst, htn⟩
  have hwf0 := hwf f0 hlv
  have hw1 := hwf0.2.1
  have hkn0 := hkn f0 hlv
  have hX5 := hc5.2.2.2.2.1
  have hp5 := (pls_cg hX5).mpr hwf0.2.2
  have hc9_1 : inPl L f [(oc1 (fe f0) (rk f0) (wd f0) (tw f0) (pa f0) (pb f0) (.ref lo5) (.ref (la dn f0)) .null), (oc4 (la dn f0) (kd f0) (st f0) (.ref r5) (gb f0) (it f0) (nI we5)), (oc6 r5 (.ref rx5) (.ref ry5) (nI (nN (mn f0))) (rgK (kd f0).toInt)), (oa rx5 cI cap5 X5), (oa ry5 cI cap5 Y5), (oc6 lo5 (.ref lx5) (.ref ly5) (nI ln5) 0), (oa lx5 cI (cl f0) LX5), (oa ly5 cI (cl f0) LY5)] := ⟨ce_pl hc5.1.1, ce_pl hc5.1.2.1, ce_pl hc5.1.2.2.1.1, ce_pl hc5.1.2.2.1.2.1, ce_pl hc5.1.2.2.1.2.2.1, ce_pl hc5.1.2.2.2.1, ce_pl hc5.1.2.2.2.2.1, ce_pl hc5.1.2.2.2.2.2.1, trivial⟩
  have hD0_1 := hD
  obtain ⟨T_1, hT_1, hP, hD⟩ := pl_oT hP hD hc9_1 (pw8 hc5 (by omega))
  obtain ⟨hP, hD⟩ := zre (W2 := ([_, _, _, _, _, _, _, _, _, _, _, _] ++ va_pl T_1 f)) hP hD rfl
  refine lv_aload_n hx hb dX10_meets_0 rfl (lv_at hl 0 rfl) ?_
  refine va_get (D := (dC, dI)) (ci := 8) (v := .ref sh) (C := RX10) (T := TX10) (N := 13) hx hb hts inX10 hown hK hP 0 rfl rfl 0 (Nat.le_of_ble_eq_true rfl) (hts _ mw_309) (fun _ h9 => h9) rfl dX10_meets_1 ?_
  refine lv_iload_n hx hb dX10_meets_4 rfl (lv_at hl 1 rfl) ?_
  obtain ⟨hPc, hDc, hFc, hI1⟩ := zi_sub (wc := [_, _, _, _]) hP hD hS hA [2, 3, 4, 5] (by decide +kernel) rfl
  refine zcall (st1 := [.ref r5]) (va_runV (As := [.int (nI f0)]) (rest := []) ⟨hx, hb, hml, hown, hts⟩ (k_Sheet_rowThere_yv l dC dI cI cZ cF s.heap.size sh fa ft FA f0 (fe f0) lo5 (rk f0) (wd f0) (tw f0) (pa f0) (pb f0) (la dn f0) (kd f0) (st f0) (gb f0) (it f0) (nI we5) r5 (.null) (by first | with_reducible assumption | omega) (by first | with_reducible assumption | omega) (hFA9 f0 (by first | with_reducible assumption | omega)) (hst)) (csV_144 hts rfl rfl ⟨Nat.le_of_ble_eq_true rfl, Nat.le_of_ble_eq_true rfl⟩) (zPV2 (q0 := 0) (ci := 7) hPc hDc hK3 hXN rfl rfl) rfl rfl hl.1 rfl (lv_room (Nat.le_of_ble_eq_true rfl)) dX10_meets_5 ⟨Nat.le_of_ble_eq_true rfl, Nat.le_of_ble_eq_true rfl⟩) hS hFc hFc rfl (fun t H locs ht hB hk1 hS => ?_)
  obtain ⟨hP1, hD1⟩ := hB
  rw [ht] at hP1
  replace hP := z0 hP hD hk1 hP1 hI1
  clear hk1 hPc hDc hFc hP1 hD1 ht hI1
  refine lv_astore_n (lv' := [(3, .ref r5), (0, .ref x), (1, .int (nI f0)), (2, .int (nI f0))]) hx hb dX10_meets_8 rfl hl (Nat.le_of_ble_eq_true rfl) rfl (fun ls hl => ?_)
  refine lv_aload_n hx hb dX10_meets_9 rfl (lv_at hl 1 rfl) ?_
  refine va_get (D := (dC, dI)) (ci := 8) (v := .ref sh) (C := RX10) (T := TX10) (N := 13) hx hb hts inX10 hown hK hP 0 rfl rfl 0 (Nat.le_of_ble_eq_true rfl) (hts _ mw_309) (fun _ h9 => h9) rfl dX10_meets_10 ?_
  refine lv_iload_n hx hb dX10_meets_13 rfl (lv_at hl 3 rfl) ?_
  obtain ⟨hPc, hDc, hFc, hI1⟩ := zi_sub (wc := [_, _, _, _]) hP hD hS hA [2, 3, 4, 5] (by decide +kernel) rfl
  refine zcall (st1 := [.ref r5]) (va_runV (As := [.int (nI f0)]) (rest := []) ⟨hx, hb, hml, hown, hts⟩ (k_Sheet_rowThere_yv l dC dI cI cZ cF H.size sh fa ft FA f0 (fe f0) lo5 (rk f0) (wd f0) (tw f0) (pa f0) (pb f0) (la dn f0) (kd f0) (st f0) (gb f0) (it f0) (nI we5) r5 (.null) (by first | with_reducible assumption | omega) (by first | with_reducible assumption | omega) (hFA9 f0 (by first | with_reducible assumption | omega)) (hst)) (csV_144 hts rfl rfl ⟨Nat.le_of_ble_eq_true rfl, Nat.le_of_ble_eq_true rfl⟩) (zPV2 (q0 := 0) (ci := 7) hPc hDc hK3 hXN rfl rfl) rfl rfl hl.1 rfl (lv_room (Nat.le_of_ble_eq_true rfl)) dX10_meets_14 ⟨Nat.le_of_ble_eq_true rfl, Nat.le_of_ble_eq_true rfl⟩) hS hFc hFc rfl (fun t H locs ht hB hk1 hS => ?_)
  obtain ⟨hP1, hD1⟩ := hB
  rw [ht] at hP1
  replace hP := z0 hP hD hk1 hP1 hI1
  clear hk1 hPc hDc hFc hP1 hD1 ht hI1
  refine lv_astore (lv' := [(4, .ref r5), (3, .ref r5), (0, .ref x), (1, .int (nI f0)), (2, .int (nI f0))]) hx hb dX10_meets_17 hl (Nat.le_of_ble_eq_true rfl) rfl (fun ls hl => ?_)
  refine lv_aload_n hx hb dX10_meets_19 rfl (lv_at hl 1 rfl) ?_
  refine lv_ifnull hx hb dX10_meets_20 ?_
  refine lv_aload hx hb dX10_meets_23 (lv_at hl 0 rfl) ?_
  refine lv_ifnull hx hb dX10_meets_25 ?_
  refine lv_aload_n hx hb dX10_meets_28 rfl (lv_at hl 1 rfl) ?_
  refine lv_aload hx hb dX10_meets_29 (lv_at hl 0 rfl) ?_
  obtain ⟨hPc, hDc, hFc, hI1⟩ := zi_sub (wc := [_, _, _]) hP hD hS hA [6, 7, 8] rfl rfl
  refine zcall (st1 := [.int 1]) (va_runV (As := [.ref r5]) (rest := []) ⟨hx, hb, hml, hown, hts⟩ (k_Row_touches_self l dC dI cI cZ cF H.size r5 rx5 ry5 (nN (mn f0)) cap5 X5 Y5 (rgK (kd f0).toInt) (by first | with_reducible assumption | omega) (by first | with_reducible assumption | omega) (hp5) (by rw [prt_eO (rgK_t _) hkn0]; unfold eO; split; omega; split <;> omega)) (csV_161 hts rfl rfl ⟨Nat.le_of_ble_eq_true rfl, Nat.le_of_ble_eq_true rfl⟩) (zPV2 (q0 := 0) (ci := 6) hPc hDc hK3 hXN rfl rfl) rfl rfl hl.1 rfl (lv_room (Nat.le_of_ble_eq_true rfl)) dX10_meets_31 ⟨Nat.le_of_ble_eq_true rfl, Nat.le_of_ble_eq_true rfl⟩) hS hFc hFc rfl (fun t H locs ht hB hk1 hS => ?_)
  obtain ⟨hP1, hD1⟩ := hB
  rw [ht] at hP1
  replace hP := z0 hP hD hk1 hP1 hI1
  clear hk1 hPc hDc hFc hP1 hD1 ht hI1
  refine lv_if_eq (tgt := 41) hx hb dX10_meets_34 rfl (fun c_1 => ?_) (fun c_1 => ?_)
  · exact absurd c_1 (by decide)
  · refine lv_iconst (v := 1) hx hb dX10_meets_37 rfl ?_
    refine lv_goto (tgt := 42) hx hb dX10_meets_38 rfl ?_
    obtain ⟨hP, hD⟩ := pl_bk (X := [_, _, _, _]) hT_1 hP rfl hc9_1 hD0_1 rfl
    obtain ⟨hP9, hD9⟩ := zu_part (cx := [_, _, _, _]) hP hD [true, true, true, true] rfl rfl
    rw [hQ9]
    exact W.zret (ty := .boolean) (v := 1) hx hb hr (rfl) (fun t ht hW => ⟨⟨rfl, by rw [ht]; exact hP9, hD9⟩, hS.F ht⟩) hS.2.2 dX10_meets_42
set_option maxHeartbeats 4000000 in
set_option maxRecDepth 100000 in
theorem k_meets_y (l : Launch) (dC : Nat → ClassId) (dI : Nat → Nat → Nat) (cI cZ cF : ClassId) (sz : Nat) (cO : ClassId) (e0 : Nat) (mi : Nat) (x : Nat) (sh : Nat) (lw : Nat) (ro : Nat) (bq : Nat) (bp : Nat) (dq : Nat) (dp : Nat) (lv : Nat) (sl : Nat) (sd : Int32) (ul : Int32) (su : Int32) (ea : Nat) (mc9 : Int32) (fa : Nat) (FA : Nat → Option Nat) (bs : Nat) (dn : Nat) (T : Nat) (ft : Nat) (FT : Nat → Nat) (V : Nat → Nat → Nat → Int32) (VX : Nat → Nat → Int32) (VY : Nat → Nat → Int32) (tn : Nat → Int32) (rk : Nat → Int32) (wd : Nat → Int32) (tw : Nat → Int32) (pa : Nat → Int32) (pb : Nat → Int32) (wh : Nat → Int32) (of9 : Nat → Int32) (we : Nat → Int32) (kd : Nat → Int32) (st : Nat → Int32) (gb : Nat → Int32) (it : Nat → Int32) (mn : Nat → Int32) (cx : Nat → Int32) (cy : Nat → Int32) (L : List Nat) (f : Nat → va_E) (f0 : Nat) (g0 : Nat) (hB : shB cI cO L f e0 FA ea bs dn T ft FT V VX VY tn rk wd tw pa pb wh of9 we kd st gb it mn cx cy) (hf0 : f0 < ft) (htn : (tn f0).toInt = 0) (hg0 : g0 < ft) (htg : (tn g0).toInt = 0) (hgf : g0 ≠ f0) (hst : (st f0).toInt = 1) (hsg : (st g0).toInt = 1) (hwf : ∀ q, lvF ft st tn q → wfM mn cx cy q) (hkn : okN ft st tn kd mn) : zML l yX10_meets cX10_meets 5 (some .boolean) ({ frames := 3, cells := 0, slots := 0, locals := 65 } : Room) [.ref x, .int (nI f0), .int (nI g0)] (dC, dI) (zTyO cI cZ cF cO) e0 mi ([(oc8 x (.ref sh) (.ref lw) (.ref ro) (.ref bq) (.ref bp) (.ref dq) (.ref dp) (.ref lv) (.ref sl) (nI dn) sd ul su), (oc10 sl mc9 (.ref ea) (nI T)), (oc7 sh (.ref fa) (nI ft)), (oq fa cF 200 FA)] ++ va_pl L f) sz (some (.int (pI (mtF (kd f0).toInt (nN (mn f0)) (cF40 cx f0) (cF40 cy f0) (kd g0).toInt (nN (mn g0)) (cF40 cx g0) (cF40 cy g0))))) (fun A t => zPD (dC, dI) classes A ([(oc8 x (.ref sh) (.ref lw) (.ref ro) (.ref bq) (.ref bp) (.ref dq) (.ref dp) (.ref lv) (.ref sl) (nI dn) sd ul su), (oc10 sl mc9 (.ref ea) (nI T)), (oc7 sh (.ref fa) (nI ft)), (oq fa cF 200 FA)] ++ va_pl L f) t.heap) 0 0 := by
  refine zInL (own := "ScaleShop") (loc := [(0, .ref x), (1, .int (nI f0)), (2, .int (nI g0))]) rfl rfl rfl rfl (fun p e s m below meth c hx hb hr hts hown hlocks hml hnm9 A hA hS hP hD hK hXL hXN hK3 Q9 hQ9 ls hl => ?_)
  obtain ⟨own, fe, cl, la, sp, SA, hG9, hH9, hft9, hO9⟩ := hB
  obtain ⟨hG, hM, hdT, hT5, hO⟩ := M_0 hG9 hH9 hft9 hO9
  have h200 : ft ≤ 200 := hG.2.2.2.2.2.1.2.2.2.2.2
  have hFA9 := hG.2.2.2.2.2.2
  refine ex13 (sh_fc hG.1 hG.2.1 (Nat.le_refl _) hf0 htn) (fun lo5 lx5 ly5 ln5 LX5 LY5 we5 r5 rx5 ry5 cap5 X5 Y5 hc5 => ?_)
  have hc5 := fc_0 hc5
  have hb5 := hc5.2.2.1
  have hb6 := hc5.2.1
  have hat9 := lo_at hO (Nat.le_refl _) hf0 hc5.1.1 hc5.1.2.2.2 (by omega) hc5.1.2.1 hb5.2.2
  refine ex13 (sh_fc hG.1 hG.2.1 (Nat.le_refl _) hg0 htg) (fun lo6 lx6 ly6 ln6 LX6 LY6 we6 r6 rx6 ry6 cap6 X6 Y6 hc6 => ?_)
  have hc6 := fc_0 hc6
  have hb7 := hc6.2.2.1
  have hb8 := hc6.2.1
  have hlv : lvF ft st tn f0 := ⟨hf0, hst, htn⟩
  have hlg : lvF ft st tn g0 := ⟨hg0, hsg, htg⟩
  have hwf0 := hwf f0 hlv
  have hwfg := hwf g0 hlg
  have hw1 := hwf0.2.1
  have hw2 := hwfg.2.1
  have hkn0 := hkn f0 hlv
  have hkng := hkn g0 hlg
  have hX5 := hc5.2.2.2.2.1
  have hX6 := hc6.2.2.2.2.1
  have hp5 := (pls_cg hX5).mpr hwf0.2.2
  have hp6 := (pls_cg hX6).mpr hwfg.2.2
  have hti := jtch_iff hw1.1 hw2.1 hX5 hX6 hkn0 hkng
  have hc9_1 : inPl L f [(oc1 (fe f0) (rk f0) (wd f0) (tw f0) (pa f0) (pb f0) (.ref lo5) (.ref (la dn f0)) .null), (oc4 (la dn f0) (kd f0) (st f0) (.ref r5) (gb f0) (it f0) (nI we5)), (oc6 r5 (.ref rx5) (.ref ry5) (nI (nN (mn f0))) (rgK (kd f0).toInt)), (oa rx5 cI cap5 X5), (oa ry5 cI cap5 Y5), (oc6 lo5 (.ref lx5) (.ref ly5) (nI ln5) 0), (oa lx5 cI (cl f0) LX5), (oa ly5 cI (cl f0) LY5), (oc1 (fe g0) (rk g0) (wd g0) (tw g0) (pa g0) (pb g0) (.ref lo6) (.ref (la dn g0)) .null), (oc4 (la dn g0) (kd g0) (st g0) (.ref r6) (gb g0) (it g0) (nI we6)), (oc6 r6 (.ref rx6) (.ref ry6) (nI (nN (mn g0))) (rgK (kd g0).toInt)), (oa rx6 cI cap6 X6), (oa ry6 cI cap6 Y6), (oc6 lo6 (.ref lx6) (.ref ly6) (nI ln6) 0), (oa lx6 cI (cl g0) LX6), (oa ly6 cI (cl g0) LY6)] := ⟨ce_pl hc5.1.1, ce_pl hc5.1.2.1, ce_pl hc5.1.2.2.1.1, ce_pl hc5.1.2.2.1.2.1, ce_pl hc5.1.2.2.1.2.2.1, ce_pl hc5.1.2.2.2.1, ce_pl hc5.1.2.2.2.2.1, ce_pl hc5.1.2.2.2.2.2.1, ce_pl hc6.1.1, ce_pl hc6.1.2.1, ce_pl hc6.1.2.2.1.1, ce_pl hc6.1.2.2.1.2.1, ce_pl hc6.1.2.2.1.2.2.1, ce_pl hc6.1.2.2.2.1, ce_pl hc6.1.2.2.2.2.1, ce_pl hc6.1.2.2.2.2.2.1, trivial⟩
  have hD0_1 := hD
  obtain ⟨T_1, hT_1, hP, hD⟩ := pl_oT hP hD hc9_1 (pw_ap (own := own) (p := g0) (A := [(oc1 (fe f0) (rk f0) (wd f0) (tw f0) (pa f0) (pb f0) (.ref lo5) (.ref (la dn f0)) .null), (oc4 (la dn f0) (kd f0) (st f0) (.ref r5) (gb f0) (it f0) (nI we5)), (oc6 r5 (.ref rx5) (.ref ry5) (nI (nN (mn f0))) (rgK (kd f0).toInt)), (oa rx5 cI cap5 X5), (oa ry5 cI cap5 Y5), (oc6 lo5 (.ref lx5) (.ref ly5) (nI ln5) 0), (oa lx5 cI (cl f0) LX5), (oa ly5 cI (cl f0) LY5)]) (B := [(oc1 (fe g0) (rk g0) (wd g0) (tw g0) (pa g0) (pb g0) (.ref lo6) (.ref (la dn g0)) .null), (oc4 (la dn g0) (kd g0) (st g0) (.ref r6) (gb g0) (it g0) (nI we6)), (oc6 r6 (.ref rx6) (.ref ry6) (nI (nN (mn g0))) (rgK (kd g0).toInt)), (oa rx6 cI cap6 X6), (oa ry6 cI cap6 Y6), (oc6 lo6 (.ref lx6) (.ref ly6) (nI ln6) 0), (oa lx6 cI (cl g0) LX6), (oa ly6 cI (cl g0) LY6)]) (pw8 hc5 (by omega)) (pw8 hc6 (by omega)) (fc_ne hc5 (by omega) (by omega) hgf) (fun r hr => fc_ne hc6 (by omega) (by omega) hr))
  obtain ⟨hP, hD⟩ := zre (W2 := ([_, _, _, _, _, _, _, _, _, _, _, _, _, _, _, _, _, _, _, _] ++ va_pl T_1 f)) hP hD rfl
  refine lv_aload_n hx hb dX10_meets_0 rfl (lv_at hl 0 rfl) ?_
  refine va_get (D := (dC, dI)) (ci := 8) (v := .ref sh) (C := RX10) (T := TX10) (N := 13) hx hb hts inX10 hown hK hP 0 rfl rfl 0 (Nat.le_of_ble_eq_true rfl) (hts _ mw_309) (fun _ h9 => h9) rfl dX10_meets_1 ?_
  refine lv_iload_n hx hb dX10_meets_4 rfl (lv_at hl 1 rfl) ?_
  obtain ⟨hPc, hDc, hFc, hI1⟩ := zi_sub (wc := [_, _, _, _]) hP hD hS hA [2, 3, 4, 5] (by decide +kernel) rfl
  refine zcall (st1 := [.ref r5]) (va_runV (As := [.int (nI f0)]) (rest := []) ⟨hx, hb, hml, hown, hts⟩ (k_Sheet_rowThere_yv l dC dI cI cZ cF s.heap.size sh fa ft FA f0 (fe f0) lo5 (rk f0) (wd f0) (tw f0) (pa f0) (pb f0) (la dn f0) (kd f0) (st f0) (gb f0) (it f0) (nI we5) r5 (.null) (by first | with_reducible assumption | omega) (by first | with_reducible assumption | omega) (hFA9 f0 (by first | with_reducible assumption | omega)) (hst)) (csV_144 hts rfl rfl ⟨Nat.le_of_ble_eq_true rfl, Nat.le_of_ble_eq_true rfl⟩) (zPV2 (q0 := 0) (ci := 7) hPc hDc hK3 hXN rfl rfl) rfl rfl hl.1 rfl (lv_room (Nat.le_of_ble_eq_true rfl)) dX10_meets_5 ⟨Nat.le_of_ble_eq_true rfl, Nat.le_of_ble_eq_true rfl⟩) hS hFc hFc rfl (fun t H locs ht hB hk1 hS => ?_)
  obtain ⟨hP1, hD1⟩ := hB
  rw [ht] at hP1
  replace hP := z0 hP hD hk1 hP1 hI1
  clear hk1 hPc hDc hFc hP1 hD1 ht hI1
  refine lv_astore_n (lv' := [(3, .ref r5), (0, .ref x), (1, .int (nI f0)), (2, .int (nI g0))]) hx hb dX10_meets_8 rfl hl (Nat.le_of_ble_eq_true rfl) rfl (fun ls hl => ?_)
  refine lv_aload_n hx hb dX10_meets_9 rfl (lv_at hl 1 rfl) ?_
  refine va_get (D := (dC, dI)) (ci := 8) (v := .ref sh) (C := RX10) (T := TX10) (N := 13) hx hb hts inX10 hown hK hP 0 rfl rfl 0 (Nat.le_of_ble_eq_true rfl) (hts _ mw_309) (fun _ h9 => h9) rfl dX10_meets_10 ?_
  refine lv_iload_n hx hb dX10_meets_13 rfl (lv_at hl 3 rfl) ?_
  obtain ⟨hPc, hDc, hFc, hI1⟩ := zi_sub (wc := [_, _, _, _]) hP hD hS hA [2, 3, 12, 13] (by decide +kernel) rfl
  refine zcall (st1 := [.ref r6]) (va_runV (As := [.int (nI g0)]) (rest := []) ⟨hx, hb, hml, hown, hts⟩ (k_Sheet_rowThere_yv l dC dI cI cZ cF H.size sh fa ft FA g0 (fe g0) lo6 (rk g0) (wd g0) (tw g0) (pa g0) (pb g0) (la dn g0) (kd g0) (st g0) (gb g0) (it g0) (nI we6) r6 (.null) (by first | with_reducible assumption | omega) (by first | with_reducible assumption | omega) (hFA9 g0 (by first | with_reducible assumption | omega)) (hsg)) (csV_144 hts rfl rfl ⟨Nat.le_of_ble_eq_true rfl, Nat.le_of_ble_eq_true rfl⟩) (zPV2 (q0 := 0) (ci := 7) hPc hDc hK3 hXN rfl rfl) rfl rfl hl.1 rfl (lv_room (Nat.le_of_ble_eq_true rfl)) dX10_meets_14 ⟨Nat.le_of_ble_eq_true rfl, Nat.le_of_ble_eq_true rfl⟩) hS hFc hFc rfl (fun t H locs ht hB hk1 hS => ?_)
  obtain ⟨hP1, hD1⟩ := hB
  rw [ht] at hP1
  replace hP := z0 hP hD hk1 hP1 hI1
  clear hk1 hPc hDc hFc hP1 hD1 ht hI1
  refine lv_astore (lv' := [(4, .ref r6), (3, .ref r5), (0, .ref x), (1, .int (nI f0)), (2, .int (nI g0))]) hx hb dX10_meets_17 hl (Nat.le_of_ble_eq_true rfl) rfl (fun ls hl => ?_)
  refine lv_aload_n hx hb dX10_meets_19 rfl (lv_at hl 1 rfl) ?_
  refine lv_ifnull hx hb dX10_meets_20 ?_
  refine lv_aload hx hb dX10_meets_23 (lv_at hl 0 rfl) ?_
  refine lv_ifnull hx hb dX10_meets_25 ?_
  refine lv_aload_n hx hb dX10_meets_28 rfl (lv_at hl 1 rfl) ?_
  refine lv_aload hx hb dX10_meets_29 (lv_at hl 0 rfl) ?_
  obtain ⟨hPc, hDc, hFc, hI1⟩ := zi_sub (wc := [_, _, _, _, _, _]) hP hD hS hA [6, 7, 8, 14, 15, 16] (by decide +kernel) rfl
  refine zcall (st1 := [.int (pI (∃ i, i < prt (nN (mn f0)) (rgK (kd f0).toInt) ∧ ∃ j, j < prt (nN (mn g0)) (rgK (kd g0).toInt) ∧ eMt (nN (mn f0)) X5 Y5 i (nN (mn g0)) X6 Y6 j))]) (va_runV (As := [.ref r6]) (rest := []) ⟨hx, hb, hml, hown, hts⟩ (k_Row_touches l dC dI cI cZ cF H.size r5 rx5 ry5 (nN (mn f0)) cap5 X5 Y5 (rgK (kd f0).toInt) r6 rx6 ry6 (nN (mn g0)) cap6 X6 Y6 (rgK (kd g0).toInt) (by first | with_reducible assumption | omega) (by first | with_reducible assumption | omega) (hp5) (by first | with_reducible assumption | omega) (by first | with_reducible assumption | omega) (hp6)) (csV_161 hts rfl rfl ⟨Nat.le_of_ble_eq_true rfl, Nat.le_of_ble_eq_true rfl⟩) (zPV2 (q0 := 0) (ci := 6) hPc hDc hK3 hXN rfl rfl) rfl rfl hl.1 rfl (lv_room (Nat.le_of_ble_eq_true rfl)) dX10_meets_31 ⟨Nat.le_of_ble_eq_true rfl, Nat.le_of_ble_eq_true rfl⟩) hS hFc hFc rfl (fun t H locs ht hB hk1 hS => ?_)
  obtain ⟨hP1, hD1⟩ := hB
  rw [ht] at hP1
  replace hP := z0 hP hD hk1 hP1 hI1
  clear hk1 hPc hDc hFc hP1 hD1 ht hI1
  refine lv_if_eq (tgt := 41) hx hb dX10_meets_34 rfl (fun c_1 => ?_) (fun c_1 => ?_)
  · have c_1 : ¬ (∃ i, i < prt (nN (mn f0)) (rgK (kd f0).toInt) ∧ ∃ j, j < prt (nN (mn g0)) (rgK (kd g0).toInt) ∧ eMt (nN (mn f0)) X5 Y5 i (nN (mn g0)) X6 Y6 j) := zp_0 c_1
    refine lv_iconst (v := 0) hx hb dX10_meets_41 rfl ?_
    obtain ⟨hP, hD⟩ := pl_bk (X := [_, _, _, _]) hT_1 hP rfl hc9_1 hD0_1 rfl
    obtain ⟨hP9, hD9⟩ := zu_part (cx := [_, _, _, _]) hP hD [true, true, true, true] rfl rfl
    rw [hQ9]
    exact W.zret (ty := .boolean) (v := 0) hx hb hr (rfl) (fun t ht hW => ⟨⟨congrArg (fun z => Outcome.returned (some (Value.int z))) (show (0 : Int32) = pI (mtF (kd f0).toInt (nN (mn f0)) (cF40 cx f0) (cF40 cy f0) (kd g0).toInt (nN (mn g0)) (cF40 cx g0) (cF40 cy g0)) from (zp_f (by first | exact hti.mp (by first | with_reducible assumption | assumption) | exact fun h => absurd (hti.mpr h) (by first | with_reducible assumption | assumption))).symm), by rw [ht]; exact hP9, hD9⟩, hS.F ht⟩) hS.2.2 dX10_meets_42
  · have c_1 : ∃ i, i < prt (nN (mn f0)) (rgK (kd f0).toInt) ∧ ∃ j, j < prt (nN (mn g0)) (rgK (kd g0).toInt) ∧ eMt (nN (mn f0)) X5 Y5 i (nN (mn g0)) X6 Y6 j := zp_1 c_1
    refine lv_iconst (v := 1) hx hb dX10_meets_37 rfl ?_
    refine lv_goto (tgt := 42) hx hb dX10_meets_38 rfl ?_
    obtain ⟨hP, hD⟩ := pl_bk (X := [_, _, _, _]) hT_1 hP rfl hc9_1 hD0_1 rfl
    obtain ⟨hP9, hD9⟩ := zu_part (cx := [_, _, _, _]) hP hD [true, true, true, true] rfl rfl
    rw [hQ9]
    exact W.zret (ty := .boolean) (v := 1) hx hb hr (rfl) (fun t ht hW => ⟨⟨congrArg (fun z => Outcome.returned (some (Value.int z))) (show (1 : Int32) = pI (mtF (kd f0).toInt (nN (mn f0)) (cF40 cx f0) (cF40 cy f0) (kd g0).toInt (nN (mn g0)) (cF40 cx g0) (cF40 cy g0)) from (zp_t (by first | exact hti.mp (by first | with_reducible assumption | assumption) | exact fun h => absurd (hti.mpr h) (by first | with_reducible assumption | assumption))).symm), by rw [ht]; exact hP9, hD9⟩, hS.F ht⟩) hS.2.2 dX10_meets_42
end
section
/-! a row has an edge, or is a point -/
theorem prt_1 {k : Int} {n : Nat} (h : (k = 0 ∧ n = 1) ∨ (¬ k = 0 ∧ 2 ≤ n)) : 1 ≤ prt n (rgK k) := by
  rw [prt_eO (rgK_t _) h]
  unfold eO
  by_cases e : k = 0
  · rw [if_pos e]; exact Nat.le_refl _
  · rw [if_neg e]; split <;> omega
end
section
set_option maxHeartbeats 4000000 in
set_option maxRecDepth 100000 in
theorem k_near_z (l : Launch) (dC : Nat → ClassId) (dI : Nat → Nat → Nat) (cI cZ cF : ClassId) (sz : Nat) (x : Nat) (sh : Nat) (lw : Nat) (ro : Nat) (bq : Nat) (bp : Nat) (dq : Nat) (dp : Nat) (lv : Nat) (sl : Nat) (sd : Int32) (ul : Int32) (su : Int32) (ds : Int32) (fa : Nat) (ft : Nat) (FA : Nat → Option Nat) (L : List Nat) (f : Nat → va_E) (kd : Nat → Int32) (st : Nat → Int32) (tn : Nat → Int32) (mn : Nat → Int32) (cx : Nat → Int32) (cy : Nat → Int32) (rk : Nat → Int32) (wd : Nat → Int32) (tw : Nat → Int32) (pa : Nat → Int32) (pb : Nat → Int32) (gb : Nat → Int32) (it : Nat → Int32) (v : Int32) (w : Int32) (wv : Int32) (h200 : ft ≤ 200) (hva : ∀ q, q < ft → vwA cI L f FA rk wd tw pa pb kd st gb it tn mn cx cy q) (hbad : ¬ ((∃ f, v = nI f ∧ lvF ft st tn f) ∧ ∃ g, w = nI g ∧ lvF ft st tn g)) : zM l yX10_near cX10_near 6 (some .long) ({ frames := 2, cells := 0, slots := 0, locals := 43 } : Room) [.ref x, .int v, .int w, .int wv] (dC, dI) (zTy cI cZ cF) ([(oc8 x (.ref sh) (.ref lw) (.ref ro) (.ref bq) (.ref bp) (.ref dq) (.ref dp) (.ref lv) (.ref sl) ds sd ul su), (oc7 sh (.ref fa) (nI ft)), (oq fa cF 200 FA)] ++ va_pl L f) sz (some (.long (-1))) (fun A t => zPD (dC, dI) classes A ([(oc8 x (.ref sh) (.ref lw) (.ref ro) (.ref bq) (.ref bp) (.ref dq) (.ref dp) (.ref lv) (.ref sl) ds sd ul su), (oc7 sh (.ref fa) (nI ft)), (oq fa cF 200 FA)] ++ va_pl L f) t.heap) 0 0 := by
  refine zIn (own := "ScaleShop") (loc := [(0, .ref x), (1, .int v), (2, .int w), (3, .int wv)]) rfl rfl rfl rfl (fun p e s m below meth c hx hb hr hts hown hlocks hml hnm9 A hA hS hP hD hK hXN Q9 hQ9 ls hl => ?_)
  rcases v_c (v := v) (ft := ft) h200 with hb2 | ⟨f0, hq2, rfl⟩
  · skip
    refine lv_aload_n hx hb dX10_near_0 rfl (lv_at hl 0 rfl) ?_
    refine va_get (D := (dC, dI)) (ci := 8) (v := .ref sh) (C := RX10) (T := TX10) (N := 13) hx hb hts inX10 hown hK hP 0 rfl rfl 0 (Nat.le_of_ble_eq_true rfl) (hts _ mw_309) (fun _ h9 => h9) rfl dX10_near_1 ?_
    refine lv_iload_n hx hb dX10_near_4 rfl (lv_at hl 1 rfl) ?_
    obtain ⟨hPc, hDc, hFc, hI1⟩ := zi_sub (wc := [_, _]) hP hD hS hA [1, 2] rfl rfl
    refine zcall (st1 := [.null]) (va_runV (As := [.int v]) (rest := []) ⟨hx, hb, hml, hown, hts⟩ (k_Sheet_rowThere_x l dC dI cI cZ cF s.heap.size sh fa ft FA v (h200) (hb2)) (csV_144 hts rfl rfl ⟨Nat.le_of_ble_eq_true rfl, Nat.le_of_ble_eq_true rfl⟩) (zPV2 (q0 := 0) (ci := 7) hPc hDc hK hXN rfl rfl) rfl rfl hl.1 rfl (lv_room (Nat.le_of_ble_eq_true rfl)) dX10_near_5 ⟨Nat.le_of_ble_eq_true rfl, Nat.le_of_ble_eq_true rfl⟩) hS hFc hFc rfl (fun t H locs ht hB hk1 hS => ?_)
    obtain ⟨hP1, hD1⟩ := hB
    rw [ht] at hP1
    replace hP := z0 hP hD hk1 hP1 hI1
    clear hk1 hPc hDc hFc hP1 hD1 ht hI1
    refine lv_astoreN (lv' := [(4, .null), (0, .ref x), (1, .int v), (2, .int w), (3, .int wv)]) hx hb dX10_near_8 hl (Nat.le_of_ble_eq_true rfl) rfl (fun ls hl => ?_)
    rcases v_c (v := w) (ft := ft) h200 with hb3 | ⟨g0, hq3, rfl⟩
    · skip
      refine lv_aload_n hx hb dX10_near_10 rfl (lv_at hl 1 rfl) ?_
      refine va_get (D := (dC, dI)) (ci := 8) (v := .ref sh) (C := RX10) (T := TX10) (N := 13) hx hb hts inX10 hown hK hP 0 rfl rfl 0 (Nat.le_of_ble_eq_true rfl) (hts _ mw_309) (fun _ h9 => h9) rfl dX10_near_11 ?_
      refine lv_iload_n hx hb dX10_near_14 rfl (lv_at hl 3 rfl) ?_
      obtain ⟨hPc, hDc, hFc, hI1⟩ := zi_sub (wc := [_, _]) hP hD hS hA [1, 2] rfl rfl
      refine zcall (st1 := [.null]) (va_runV (As := [.int w]) (rest := []) ⟨hx, hb, hml, hown, hts⟩ (k_Sheet_rowThere_x l dC dI cI cZ cF H.size sh fa ft FA w (h200) (hb3)) (csV_144 hts rfl rfl ⟨Nat.le_of_ble_eq_true rfl, Nat.le_of_ble_eq_true rfl⟩) (zPV2 (q0 := 0) (ci := 7) hPc hDc hK hXN rfl rfl) rfl rfl hl.1 rfl (lv_room (Nat.le_of_ble_eq_true rfl)) dX10_near_15 ⟨Nat.le_of_ble_eq_true rfl, Nat.le_of_ble_eq_true rfl⟩) hS hFc hFc rfl (fun t H locs ht hB hk1 hS => ?_)
      obtain ⟨hP1, hD1⟩ := hB
      rw [ht] at hP1
      replace hP := z0 hP hD hk1 hP1 hI1
      clear hk1 hPc hDc hFc hP1 hD1 ht hI1
      refine lv_astoreN (lv' := [(5, .null), (4, .null), (0, .ref x), (1, .int v), (2, .int w), (3, .int wv)]) hx hb dX10_near_18 hl (Nat.le_of_ble_eq_true rfl) rfl (fun ls hl => ?_)
      refine lv_aloadN hx hb dX10_near_20 (lv_at hl 1 rfl) ?_
      refine lv_ifnullN (tgt := 39) hx hb dX10_near_22 rfl ?_
      refine lv_ldc2 hx hb hown (hts _ mw_1077) dX10_near_39 ?_
      obtain ⟨hP9, hD9⟩ := zu_part (cx := [_, _, _]) hP hD [true, true, true] rfl rfl
      rw [hQ9]
      exact W.lret (v := (-1)) hx hb hr (fun t ht hW => ⟨⟨rfl, by rw [ht]; exact hP9, hD9⟩, hS.F ht⟩) hS.2.2 dX10_near_42
    · skip
      refine lv_aload_n hx hb dX10_near_10 rfl (lv_at hl 1 rfl) ?_
      rcases vwA_3 (P9 := ((st g0).toInt = 1)) (hva g0 (by omega)) with ⟨ht3, fe3, lk3, lo3, we3, fm3, hFA3, hfe3, hlk3⟩ | ⟨ht3, hA3, fe3, lk3, lo3, we3, fm3, r3, rx3, ry3, cap3, U3, V3, rg3, hFA3, hfe3, hlk3, ⟨hr3, hrx3, hry3, hne3⟩, hrr3⟩ | ⟨ht3, hA3, fe3, lk3, lo3, we3, fm3, r3, rx3, ry3, cap3, U3, V3, rg3, hFA3, hfe3, hlk3, ⟨hr3, hrx3, hry3, hne3⟩, hrr3⟩
      · skip
        refine va_get (D := (dC, dI)) (ci := 8) (v := .ref sh) (C := RX10) (T := TX10) (N := 13) hx hb hts inX10 hown hK hP 0 rfl rfl 0 (Nat.le_of_ble_eq_true rfl) (hts _ mw_309) (fun _ h9 => h9) rfl dX10_near_11 ?_
        have hc9_1 : inPl L f [(oc1 fe3 (rk g0) (wd g0) (tw g0) (pa g0) (pb g0) (.ref lo3) (.ref lk3) fm3), (oc4 lk3 (kd g0) (st g0) .null (gb g0) (it g0) we3)] := ⟨hfe3, hlk3, trivial⟩
        have hD0_1 := hD
        obtain ⟨T_1, hT_1, hP, hD⟩ := pl_oT hP hD hc9_1 (pwF hfe3.2 hlk3.2)
        obtain ⟨hP, hD⟩ := zre (W2 := ([_, _, _, _, _] ++ va_pl T_1 f)) hP hD rfl
        refine lv_iload_n hx hb dX10_near_14 rfl (lv_at hl 3 rfl) ?_
        obtain ⟨hPc, hDc, hFc, hI1⟩ := zi_sub (wc := [_, _, _, _]) hP hD hS hA [1, 2, 3, 4] (by decide +kernel) rfl
        refine zcall (st1 := [.null]) (va_runV (As := [.int (nI g0)]) (rest := []) ⟨hx, hb, hml, hown, hts⟩ (k_Sheet_rowThere_tv l dC dI cI cZ cF H.size sh fa ft FA g0 fe3 lo3 (rk g0) (wd g0) (tw g0) (pa g0) (pb g0) lk3 (kd g0) (st g0) (gb g0) (it g0) we3 fm3 (h200) (by first | with_reducible assumption | omega) (hFA3)) (csV_144 hts rfl rfl ⟨Nat.le_of_ble_eq_true rfl, Nat.le_of_ble_eq_true rfl⟩) (zPV2 (q0 := 0) (ci := 7) hPc hDc hK hXN rfl rfl) rfl rfl hl.1 rfl (lv_room (Nat.le_of_ble_eq_true rfl)) dX10_near_15 ⟨Nat.le_of_ble_eq_true rfl, Nat.le_of_ble_eq_true rfl⟩) hS hFc hFc rfl (fun t H locs ht hB hk1 hS => ?_)
        obtain ⟨hP1, hD1⟩ := hB
        rw [ht] at hP1
        replace hP := z0 hP hD hk1 hP1 hI1
        clear hk1 hPc hDc hFc hP1 hD1 ht hI1
        obtain ⟨hP, hD⟩ := pl_bk (X := [_, _, _]) hT_1 hP rfl hc9_1 hD0_1 rfl
        refine lv_astoreN (lv' := [(5, .null), (4, .null), (0, .ref x), (1, .int v), (2, .int (nI g0)), (3, .int wv)]) hx hb dX10_near_18 hl (Nat.le_of_ble_eq_true rfl) rfl (fun ls hl => ?_)
        refine lv_aloadN hx hb dX10_near_20 (lv_at hl 1 rfl) ?_
        refine lv_ifnullN (tgt := 39) hx hb dX10_near_22 rfl ?_
        refine lv_ldc2 hx hb hown (hts _ mw_1077) dX10_near_39 ?_
        obtain ⟨hP9, hD9⟩ := zu_part (cx := [_, _, _]) hP hD [true, true, true] rfl rfl
        rw [hQ9]
        exact W.lret (v := (-1)) hx hb hr (fun t ht hW => ⟨⟨rfl, by rw [ht]; exact hP9, hD9⟩, hS.F ht⟩) hS.2.2 dX10_near_42
      · skip
        refine va_get (D := (dC, dI)) (ci := 8) (v := .ref sh) (C := RX10) (T := TX10) (N := 13) hx hb hts inX10 hown hK hP 0 rfl rfl 0 (Nat.le_of_ble_eq_true rfl) (hts _ mw_309) (fun _ h9 => h9) rfl dX10_near_11 ?_
        have hc9_1 : inPl L f [(oc1 fe3 (rk g0) (wd g0) (tw g0) (pa g0) (pb g0) (.ref lo3) (.ref lk3) fm3), (oc4 lk3 (kd g0) (st g0) (.ref r3) (gb g0) (it g0) we3)] := ⟨hfe3, hlk3, trivial⟩
        have hD0_1 := hD
        obtain ⟨T_1, hT_1, hP, hD⟩ := pl_oT hP hD hc9_1 (pwF hfe3.2 hlk3.2)
        obtain ⟨hP, hD⟩ := zre (W2 := ([_, _, _, _, _] ++ va_pl T_1 f)) hP hD rfl
        refine lv_iload_n hx hb dX10_near_14 rfl (lv_at hl 3 rfl) ?_
        obtain ⟨hPc, hDc, hFc, hI1⟩ := zi_sub (wc := [_, _, _, _]) hP hD hS hA [1, 2, 3, 4] (by decide +kernel) rfl
        refine zcall (st1 := [.ref r3]) (va_runV (As := [.int (nI g0)]) (rest := []) ⟨hx, hb, hml, hown, hts⟩ (k_Sheet_rowThere_yv l dC dI cI cZ cF H.size sh fa ft FA g0 fe3 lo3 (rk g0) (wd g0) (tw g0) (pa g0) (pb g0) lk3 (kd g0) (st g0) (gb g0) (it g0) we3 r3 fm3 (h200) (by first | with_reducible assumption | omega) (hFA3) (by first | exact hA3 | omega)) (csV_144 hts rfl rfl ⟨Nat.le_of_ble_eq_true rfl, Nat.le_of_ble_eq_true rfl⟩) (zPV2 (q0 := 0) (ci := 7) hPc hDc hK hXN rfl rfl) rfl rfl hl.1 rfl (lv_room (Nat.le_of_ble_eq_true rfl)) dX10_near_15 ⟨Nat.le_of_ble_eq_true rfl, Nat.le_of_ble_eq_true rfl⟩) hS hFc hFc rfl (fun t H locs ht hB hk1 hS => ?_)
        obtain ⟨hP1, hD1⟩ := hB
        rw [ht] at hP1
        replace hP := z0 hP hD hk1 hP1 hI1
        clear hk1 hPc hDc hFc hP1 hD1 ht hI1
        obtain ⟨hP, hD⟩ := pl_bk (X := [_, _, _]) hT_1 hP rfl hc9_1 hD0_1 rfl
        refine lv_astore (lv' := [(5, .ref r3), (4, .null), (0, .ref x), (1, .int v), (2, .int (nI g0)), (3, .int wv)]) hx hb dX10_near_18 hl (Nat.le_of_ble_eq_true rfl) rfl (fun ls hl => ?_)
        refine lv_aloadN hx hb dX10_near_20 (lv_at hl 1 rfl) ?_
        refine lv_ifnullN (tgt := 39) hx hb dX10_near_22 rfl ?_
        refine lv_ldc2 hx hb hown (hts _ mw_1077) dX10_near_39 ?_
        obtain ⟨hP9, hD9⟩ := zu_part (cx := [_, _, _]) hP hD [true, true, true] rfl rfl
        rw [hQ9]
        exact W.lret (v := (-1)) hx hb hr (fun t ht hW => ⟨⟨rfl, by rw [ht]; exact hP9, hD9⟩, hS.F ht⟩) hS.2.2 dX10_near_42
      · skip
        refine va_get (D := (dC, dI)) (ci := 8) (v := .ref sh) (C := RX10) (T := TX10) (N := 13) hx hb hts inX10 hown hK hP 0 rfl rfl 0 (Nat.le_of_ble_eq_true rfl) (hts _ mw_309) (fun _ h9 => h9) rfl dX10_near_11 ?_
        have hc9_1 : inPl L f [(oc1 fe3 (rk g0) (wd g0) (tw g0) (pa g0) (pb g0) (.ref lo3) (.ref lk3) fm3), (oc4 lk3 (kd g0) (st g0) (.ref r3) (gb g0) (it g0) we3)] := ⟨hfe3, hlk3, trivial⟩
        have hD0_1 := hD
        obtain ⟨T_1, hT_1, hP, hD⟩ := pl_oT hP hD hc9_1 (pwF hfe3.2 hlk3.2)
        obtain ⟨hP, hD⟩ := zre (W2 := ([_, _, _, _, _] ++ va_pl T_1 f)) hP hD rfl
        refine lv_iload_n hx hb dX10_near_14 rfl (lv_at hl 3 rfl) ?_
        obtain ⟨hPc, hDc, hFc, hI1⟩ := zi_sub (wc := [_, _, _, _]) hP hD hS hA [1, 2, 3, 4] (by decide +kernel) rfl
        refine zcall (st1 := [.null]) (va_runV (As := [.int (nI g0)]) (rest := []) ⟨hx, hb, hml, hown, hts⟩ (k_Sheet_rowThere_sv l dC dI cI cZ cF H.size sh fa ft FA g0 fe3 lo3 (rk g0) (wd g0) (tw g0) (pa g0) (pb g0) lk3 (kd g0) (st g0) (gb g0) (it g0) we3 fm3 (.ref r3) (h200) (by first | with_reducible assumption | omega) (hFA3) (by first | exact hA3 | omega)) (csV_144 hts rfl rfl ⟨Nat.le_of_ble_eq_true rfl, Nat.le_of_ble_eq_true rfl⟩) (zPV2 (q0 := 0) (ci := 7) hPc hDc hK hXN rfl rfl) rfl rfl hl.1 rfl (lv_room (Nat.le_of_ble_eq_true rfl)) dX10_near_15 ⟨Nat.le_of_ble_eq_true rfl, Nat.le_of_ble_eq_true rfl⟩) hS hFc hFc rfl (fun t H locs ht hB hk1 hS => ?_)
        obtain ⟨hP1, hD1⟩ := hB
        rw [ht] at hP1
        replace hP := z0 hP hD hk1 hP1 hI1
        clear hk1 hPc hDc hFc hP1 hD1 ht hI1
        obtain ⟨hP, hD⟩ := pl_bk (X := [_, _, _]) hT_1 hP rfl hc9_1 hD0_1 rfl
        refine lv_astoreN (lv' := [(5, .null), (4, .null), (0, .ref x), (1, .int v), (2, .int (nI g0)), (3, .int wv)]) hx hb dX10_near_18 hl (Nat.le_of_ble_eq_true rfl) rfl (fun ls hl => ?_)
        refine lv_aloadN hx hb dX10_near_20 (lv_at hl 1 rfl) ?_
        refine lv_ifnullN (tgt := 39) hx hb dX10_near_22 rfl ?_
        refine lv_ldc2 hx hb hown (hts _ mw_1077) dX10_near_39 ?_
        obtain ⟨hP9, hD9⟩ := zu_part (cx := [_, _, _]) hP hD [true, true, true] rfl rfl
        rw [hQ9]
        exact W.lret (v := (-1)) hx hb hr (fun t ht hW => ⟨⟨rfl, by rw [ht]; exact hP9, hD9⟩, hS.F ht⟩) hS.2.2 dX10_near_42
  · skip
    refine lv_aload_n hx hb dX10_near_0 rfl (lv_at hl 0 rfl) ?_
    rcases vwA_3 (P9 := ((st f0).toInt = 1)) (hva f0 (by omega)) with ⟨ht2, fe2, lk2, lo2, we2, fm2, hFA2, hfe2, hlk2⟩ | ⟨ht2, hA2, fe2, lk2, lo2, we2, fm2, r2, rx2, ry2, cap2, U2, V2, rg2, hFA2, hfe2, hlk2, ⟨hr2, hrx2, hry2, hne2⟩, hrr2⟩ | ⟨ht2, hA2, fe2, lk2, lo2, we2, fm2, r2, rx2, ry2, cap2, U2, V2, rg2, hFA2, hfe2, hlk2, ⟨hr2, hrx2, hry2, hne2⟩, hrr2⟩
    · skip
      refine va_get (D := (dC, dI)) (ci := 8) (v := .ref sh) (C := RX10) (T := TX10) (N := 13) hx hb hts inX10 hown hK hP 0 rfl rfl 0 (Nat.le_of_ble_eq_true rfl) (hts _ mw_309) (fun _ h9 => h9) rfl dX10_near_1 ?_
      have hc9_1 : inPl L f [(oc1 fe2 (rk f0) (wd f0) (tw f0) (pa f0) (pb f0) (.ref lo2) (.ref lk2) fm2), (oc4 lk2 (kd f0) (st f0) .null (gb f0) (it f0) we2)] := ⟨hfe2, hlk2, trivial⟩
      have hD0_1 := hD
      obtain ⟨T_1, hT_1, hP, hD⟩ := pl_oT hP hD hc9_1 (pwF hfe2.2 hlk2.2)
      obtain ⟨hP, hD⟩ := zre (W2 := ([_, _, _, _, _] ++ va_pl T_1 f)) hP hD rfl
      refine lv_iload_n hx hb dX10_near_4 rfl (lv_at hl 1 rfl) ?_
      obtain ⟨hPc, hDc, hFc, hI1⟩ := zi_sub (wc := [_, _, _, _]) hP hD hS hA [1, 2, 3, 4] (by decide +kernel) rfl
      refine zcall (st1 := [.null]) (va_runV (As := [.int (nI f0)]) (rest := []) ⟨hx, hb, hml, hown, hts⟩ (k_Sheet_rowThere_tv l dC dI cI cZ cF s.heap.size sh fa ft FA f0 fe2 lo2 (rk f0) (wd f0) (tw f0) (pa f0) (pb f0) lk2 (kd f0) (st f0) (gb f0) (it f0) we2 fm2 (h200) (by first | with_reducible assumption | omega) (hFA2)) (csV_144 hts rfl rfl ⟨Nat.le_of_ble_eq_true rfl, Nat.le_of_ble_eq_true rfl⟩) (zPV2 (q0 := 0) (ci := 7) hPc hDc hK hXN rfl rfl) rfl rfl hl.1 rfl (lv_room (Nat.le_of_ble_eq_true rfl)) dX10_near_5 ⟨Nat.le_of_ble_eq_true rfl, Nat.le_of_ble_eq_true rfl⟩) hS hFc hFc rfl (fun t H locs ht hB hk1 hS => ?_)
      obtain ⟨hP1, hD1⟩ := hB
      rw [ht] at hP1
      replace hP := z0 hP hD hk1 hP1 hI1
      clear hk1 hPc hDc hFc hP1 hD1 ht hI1
      obtain ⟨hP, hD⟩ := pl_bk (X := [_, _, _]) hT_1 hP rfl hc9_1 hD0_1 rfl
      refine lv_astoreN (lv' := [(4, .null), (0, .ref x), (1, .int (nI f0)), (2, .int w), (3, .int wv)]) hx hb dX10_near_8 hl (Nat.le_of_ble_eq_true rfl) rfl (fun ls hl => ?_)
      rcases v_c (v := w) (ft := ft) h200 with hb3 | ⟨g0, hq3, rfl⟩
      · skip
        refine lv_aload_n hx hb dX10_near_10 rfl (lv_at hl 1 rfl) ?_
        refine va_get (D := (dC, dI)) (ci := 8) (v := .ref sh) (C := RX10) (T := TX10) (N := 13) hx hb hts inX10 hown hK hP 0 rfl rfl 0 (Nat.le_of_ble_eq_true rfl) (hts _ mw_309) (fun _ h9 => h9) rfl dX10_near_11 ?_
        refine lv_iload_n hx hb dX10_near_14 rfl (lv_at hl 3 rfl) ?_
        obtain ⟨hPc, hDc, hFc, hI1⟩ := zi_sub (wc := [_, _]) hP hD hS hA [1, 2] rfl rfl
        refine zcall (st1 := [.null]) (va_runV (As := [.int w]) (rest := []) ⟨hx, hb, hml, hown, hts⟩ (k_Sheet_rowThere_x l dC dI cI cZ cF H.size sh fa ft FA w (h200) (hb3)) (csV_144 hts rfl rfl ⟨Nat.le_of_ble_eq_true rfl, Nat.le_of_ble_eq_true rfl⟩) (zPV2 (q0 := 0) (ci := 7) hPc hDc hK hXN rfl rfl) rfl rfl hl.1 rfl (lv_room (Nat.le_of_ble_eq_true rfl)) dX10_near_15 ⟨Nat.le_of_ble_eq_true rfl, Nat.le_of_ble_eq_true rfl⟩) hS hFc hFc rfl (fun t H locs ht hB hk1 hS => ?_)
        obtain ⟨hP1, hD1⟩ := hB
        rw [ht] at hP1
        replace hP := z0 hP hD hk1 hP1 hI1
        clear hk1 hPc hDc hFc hP1 hD1 ht hI1
        refine lv_astoreN (lv' := [(5, .null), (4, .null), (0, .ref x), (1, .int (nI f0)), (2, .int w), (3, .int wv)]) hx hb dX10_near_18 hl (Nat.le_of_ble_eq_true rfl) rfl (fun ls hl => ?_)
        refine lv_aloadN hx hb dX10_near_20 (lv_at hl 1 rfl) ?_
        refine lv_ifnullN (tgt := 39) hx hb dX10_near_22 rfl ?_
        refine lv_ldc2 hx hb hown (hts _ mw_1077) dX10_near_39 ?_
        obtain ⟨hP9, hD9⟩ := zu_part (cx := [_, _, _]) hP hD [true, true, true] rfl rfl
        rw [hQ9]
        exact W.lret (v := (-1)) hx hb hr (fun t ht hW => ⟨⟨rfl, by rw [ht]; exact hP9, hD9⟩, hS.F ht⟩) hS.2.2 dX10_near_42
      · skip
        refine lv_aload_n hx hb dX10_near_10 rfl (lv_at hl 1 rfl) ?_
        rcases vwA_3 (P9 := ((st g0).toInt = 1)) (hva g0 (by omega)) with ⟨ht3, fe3, lk3, lo3, we3, fm3, hFA3, hfe3, hlk3⟩ | ⟨ht3, hA3, fe3, lk3, lo3, we3, fm3, r3, rx3, ry3, cap3, U3, V3, rg3, hFA3, hfe3, hlk3, ⟨hr3, hrx3, hry3, hne3⟩, hrr3⟩ | ⟨ht3, hA3, fe3, lk3, lo3, we3, fm3, r3, rx3, ry3, cap3, U3, V3, rg3, hFA3, hfe3, hlk3, ⟨hr3, hrx3, hry3, hne3⟩, hrr3⟩
        · skip
          refine va_get (D := (dC, dI)) (ci := 8) (v := .ref sh) (C := RX10) (T := TX10) (N := 13) hx hb hts inX10 hown hK hP 0 rfl rfl 0 (Nat.le_of_ble_eq_true rfl) (hts _ mw_309) (fun _ h9 => h9) rfl dX10_near_11 ?_
          have hc9_2 : inPl L f [(oc1 fe3 (rk g0) (wd g0) (tw g0) (pa g0) (pb g0) (.ref lo3) (.ref lk3) fm3), (oc4 lk3 (kd g0) (st g0) .null (gb g0) (it g0) we3)] := ⟨hfe3, hlk3, trivial⟩
          have hD0_2 := hD
          obtain ⟨T_2, hT_2, hP, hD⟩ := pl_oT hP hD hc9_2 (pwF hfe3.2 hlk3.2)
          obtain ⟨hP, hD⟩ := zre (W2 := ([_, _, _, _, _] ++ va_pl T_2 f)) hP hD rfl
          refine lv_iload_n hx hb dX10_near_14 rfl (lv_at hl 3 rfl) ?_
          obtain ⟨hPc, hDc, hFc, hI1⟩ := zi_sub (wc := [_, _, _, _]) hP hD hS hA [1, 2, 3, 4] (by decide +kernel) rfl
          refine zcall (st1 := [.null]) (va_runV (As := [.int (nI g0)]) (rest := []) ⟨hx, hb, hml, hown, hts⟩ (k_Sheet_rowThere_tv l dC dI cI cZ cF H.size sh fa ft FA g0 fe3 lo3 (rk g0) (wd g0) (tw g0) (pa g0) (pb g0) lk3 (kd g0) (st g0) (gb g0) (it g0) we3 fm3 (h200) (by first | with_reducible assumption | omega) (hFA3)) (csV_144 hts rfl rfl ⟨Nat.le_of_ble_eq_true rfl, Nat.le_of_ble_eq_true rfl⟩) (zPV2 (q0 := 0) (ci := 7) hPc hDc hK hXN rfl rfl) rfl rfl hl.1 rfl (lv_room (Nat.le_of_ble_eq_true rfl)) dX10_near_15 ⟨Nat.le_of_ble_eq_true rfl, Nat.le_of_ble_eq_true rfl⟩) hS hFc hFc rfl (fun t H locs ht hB hk1 hS => ?_)
          obtain ⟨hP1, hD1⟩ := hB
          rw [ht] at hP1
          replace hP := z0 hP hD hk1 hP1 hI1
          clear hk1 hPc hDc hFc hP1 hD1 ht hI1
          obtain ⟨hP, hD⟩ := pl_bk (X := [_, _, _]) hT_2 hP rfl hc9_2 hD0_2 rfl
          refine lv_astoreN (lv' := [(5, .null), (4, .null), (0, .ref x), (1, .int (nI f0)), (2, .int (nI g0)), (3, .int wv)]) hx hb dX10_near_18 hl (Nat.le_of_ble_eq_true rfl) rfl (fun ls hl => ?_)
          refine lv_aloadN hx hb dX10_near_20 (lv_at hl 1 rfl) ?_
          refine lv_ifnullN (tgt := 39) hx hb dX10_near_22 rfl ?_
          refine lv_ldc2 hx hb hown (hts _ mw_1077) dX10_near_39 ?_
          obtain ⟨hP9, hD9⟩ := zu_part (cx := [_, _, _]) hP hD [true, true, true] rfl rfl
          rw [hQ9]
          exact W.lret (v := (-1)) hx hb hr (fun t ht hW => ⟨⟨rfl, by rw [ht]; exact hP9, hD9⟩, hS.F ht⟩) hS.2.2 dX10_near_42
        · skip
          refine va_get (D := (dC, dI)) (ci := 8) (v := .ref sh) (C := RX10) (T := TX10) (N := 13) hx hb hts inX10 hown hK hP 0 rfl rfl 0 (Nat.le_of_ble_eq_true rfl) (hts _ mw_309) (fun _ h9 => h9) rfl dX10_near_11 ?_
          have hc9_2 : inPl L f [(oc1 fe3 (rk g0) (wd g0) (tw g0) (pa g0) (pb g0) (.ref lo3) (.ref lk3) fm3), (oc4 lk3 (kd g0) (st g0) (.ref r3) (gb g0) (it g0) we3)] := ⟨hfe3, hlk3, trivial⟩
          have hD0_2 := hD
          obtain ⟨T_2, hT_2, hP, hD⟩ := pl_oT hP hD hc9_2 (pwF hfe3.2 hlk3.2)
          obtain ⟨hP, hD⟩ := zre (W2 := ([_, _, _, _, _] ++ va_pl T_2 f)) hP hD rfl
          refine lv_iload_n hx hb dX10_near_14 rfl (lv_at hl 3 rfl) ?_
          obtain ⟨hPc, hDc, hFc, hI1⟩ := zi_sub (wc := [_, _, _, _]) hP hD hS hA [1, 2, 3, 4] (by decide +kernel) rfl
          refine zcall (st1 := [.ref r3]) (va_runV (As := [.int (nI g0)]) (rest := []) ⟨hx, hb, hml, hown, hts⟩ (k_Sheet_rowThere_yv l dC dI cI cZ cF H.size sh fa ft FA g0 fe3 lo3 (rk g0) (wd g0) (tw g0) (pa g0) (pb g0) lk3 (kd g0) (st g0) (gb g0) (it g0) we3 r3 fm3 (h200) (by first | with_reducible assumption | omega) (hFA3) (by first | exact hA3 | omega)) (csV_144 hts rfl rfl ⟨Nat.le_of_ble_eq_true rfl, Nat.le_of_ble_eq_true rfl⟩) (zPV2 (q0 := 0) (ci := 7) hPc hDc hK hXN rfl rfl) rfl rfl hl.1 rfl (lv_room (Nat.le_of_ble_eq_true rfl)) dX10_near_15 ⟨Nat.le_of_ble_eq_true rfl, Nat.le_of_ble_eq_true rfl⟩) hS hFc hFc rfl (fun t H locs ht hB hk1 hS => ?_)
          obtain ⟨hP1, hD1⟩ := hB
          rw [ht] at hP1
          replace hP := z0 hP hD hk1 hP1 hI1
          clear hk1 hPc hDc hFc hP1 hD1 ht hI1
          obtain ⟨hP, hD⟩ := pl_bk (X := [_, _, _]) hT_2 hP rfl hc9_2 hD0_2 rfl
          refine lv_astore (lv' := [(5, .ref r3), (4, .null), (0, .ref x), (1, .int (nI f0)), (2, .int (nI g0)), (3, .int wv)]) hx hb dX10_near_18 hl (Nat.le_of_ble_eq_true rfl) rfl (fun ls hl => ?_)
          refine lv_aloadN hx hb dX10_near_20 (lv_at hl 1 rfl) ?_
          refine lv_ifnullN (tgt := 39) hx hb dX10_near_22 rfl ?_
          refine lv_ldc2 hx hb hown (hts _ mw_1077) dX10_near_39 ?_
          obtain ⟨hP9, hD9⟩ := zu_part (cx := [_, _, _]) hP hD [true, true, true] rfl rfl
          rw [hQ9]
          exact W.lret (v := (-1)) hx hb hr (fun t ht hW => ⟨⟨rfl, by rw [ht]; exact hP9, hD9⟩, hS.F ht⟩) hS.2.2 dX10_near_42
        · skip
          refine va_get (D := (dC, dI)) (ci := 8) (v := .ref sh) (C := RX10) (T := TX10) (N := 13) hx hb hts inX10 hown hK hP 0 rfl rfl 0 (Nat.le_of_ble_eq_true rfl) (hts _ mw_309) (fun _ h9 => h9) rfl dX10_near_11 ?_
          have hc9_2 : inPl L f [(oc1 fe3 (rk g0) (wd g0) (tw g0) (pa g0) (pb g0) (.ref lo3) (.ref lk3) fm3), (oc4 lk3 (kd g0) (st g0) (.ref r3) (gb g0) (it g0) we3)] := ⟨hfe3, hlk3, trivial⟩
          have hD0_2 := hD
          obtain ⟨T_2, hT_2, hP, hD⟩ := pl_oT hP hD hc9_2 (pwF hfe3.2 hlk3.2)
          obtain ⟨hP, hD⟩ := zre (W2 := ([_, _, _, _, _] ++ va_pl T_2 f)) hP hD rfl
          refine lv_iload_n hx hb dX10_near_14 rfl (lv_at hl 3 rfl) ?_
          obtain ⟨hPc, hDc, hFc, hI1⟩ := zi_sub (wc := [_, _, _, _]) hP hD hS hA [1, 2, 3, 4] (by decide +kernel) rfl
          refine zcall (st1 := [.null]) (va_runV (As := [.int (nI g0)]) (rest := []) ⟨hx, hb, hml, hown, hts⟩ (k_Sheet_rowThere_sv l dC dI cI cZ cF H.size sh fa ft FA g0 fe3 lo3 (rk g0) (wd g0) (tw g0) (pa g0) (pb g0) lk3 (kd g0) (st g0) (gb g0) (it g0) we3 fm3 (.ref r3) (h200) (by first | with_reducible assumption | omega) (hFA3) (by first | exact hA3 | omega)) (csV_144 hts rfl rfl ⟨Nat.le_of_ble_eq_true rfl, Nat.le_of_ble_eq_true rfl⟩) (zPV2 (q0 := 0) (ci := 7) hPc hDc hK hXN rfl rfl) rfl rfl hl.1 rfl (lv_room (Nat.le_of_ble_eq_true rfl)) dX10_near_15 ⟨Nat.le_of_ble_eq_true rfl, Nat.le_of_ble_eq_true rfl⟩) hS hFc hFc rfl (fun t H locs ht hB hk1 hS => ?_)
          obtain ⟨hP1, hD1⟩ := hB
          rw [ht] at hP1
          replace hP := z0 hP hD hk1 hP1 hI1
          clear hk1 hPc hDc hFc hP1 hD1 ht hI1
          obtain ⟨hP, hD⟩ := pl_bk (X := [_, _, _]) hT_2 hP rfl hc9_2 hD0_2 rfl
          refine lv_astoreN (lv' := [(5, .null), (4, .null), (0, .ref x), (1, .int (nI f0)), (2, .int (nI g0)), (3, .int wv)]) hx hb dX10_near_18 hl (Nat.le_of_ble_eq_true rfl) rfl (fun ls hl => ?_)
          refine lv_aloadN hx hb dX10_near_20 (lv_at hl 1 rfl) ?_
          refine lv_ifnullN (tgt := 39) hx hb dX10_near_22 rfl ?_
          refine lv_ldc2 hx hb hown (hts _ mw_1077) dX10_near_39 ?_
          obtain ⟨hP9, hD9⟩ := zu_part (cx := [_, _, _]) hP hD [true, true, true] rfl rfl
          rw [hQ9]
          exact W.lret (v := (-1)) hx hb hr (fun t ht hW => ⟨⟨rfl, by rw [ht]; exact hP9, hD9⟩, hS.F ht⟩) hS.2.2 dX10_near_42
    · skip
      refine va_get (D := (dC, dI)) (ci := 8) (v := .ref sh) (C := RX10) (T := TX10) (N := 13) hx hb hts inX10 hown hK hP 0 rfl rfl 0 (Nat.le_of_ble_eq_true rfl) (hts _ mw_309) (fun _ h9 => h9) rfl dX10_near_1 ?_
      have hc9_1 : inPl L f [(oc1 fe2 (rk f0) (wd f0) (tw f0) (pa f0) (pb f0) (.ref lo2) (.ref lk2) fm2), (oc4 lk2 (kd f0) (st f0) (.ref r2) (gb f0) (it f0) we2)] := ⟨hfe2, hlk2, trivial⟩
      have hD0_1 := hD
      obtain ⟨T_1, hT_1, hP, hD⟩ := pl_oT hP hD hc9_1 (pwF hfe2.2 hlk2.2)
      obtain ⟨hP, hD⟩ := zre (W2 := ([_, _, _, _, _] ++ va_pl T_1 f)) hP hD rfl
      refine lv_iload_n hx hb dX10_near_4 rfl (lv_at hl 1 rfl) ?_
      obtain ⟨hPc, hDc, hFc, hI1⟩ := zi_sub (wc := [_, _, _, _]) hP hD hS hA [1, 2, 3, 4] (by decide +kernel) rfl
      refine zcall (st1 := [.ref r2]) (va_runV (As := [.int (nI f0)]) (rest := []) ⟨hx, hb, hml, hown, hts⟩ (k_Sheet_rowThere_yv l dC dI cI cZ cF s.heap.size sh fa ft FA f0 fe2 lo2 (rk f0) (wd f0) (tw f0) (pa f0) (pb f0) lk2 (kd f0) (st f0) (gb f0) (it f0) we2 r2 fm2 (h200) (by first | with_reducible assumption | omega) (hFA2) (by first | exact hA2 | omega)) (csV_144 hts rfl rfl ⟨Nat.le_of_ble_eq_true rfl, Nat.le_of_ble_eq_true rfl⟩) (zPV2 (q0 := 0) (ci := 7) hPc hDc hK hXN rfl rfl) rfl rfl hl.1 rfl (lv_room (Nat.le_of_ble_eq_true rfl)) dX10_near_5 ⟨Nat.le_of_ble_eq_true rfl, Nat.le_of_ble_eq_true rfl⟩) hS hFc hFc rfl (fun t H locs ht hB hk1 hS => ?_)
      obtain ⟨hP1, hD1⟩ := hB
      rw [ht] at hP1
      replace hP := z0 hP hD hk1 hP1 hI1
      clear hk1 hPc hDc hFc hP1 hD1 ht hI1
      obtain ⟨hP, hD⟩ := pl_bk (X := [_, _, _]) hT_1 hP rfl hc9_1 hD0_1 rfl
      refine lv_astore (lv' := [(4, .ref r2), (0, .ref x), (1, .int (nI f0)), (2, .int w), (3, .int wv)]) hx hb dX10_near_8 hl (Nat.le_of_ble_eq_true rfl) rfl (fun ls hl => ?_)
      rcases v_c (v := w) (ft := ft) h200 with hb3 | ⟨g0, hq3, rfl⟩
      · skip
        refine lv_aload_n hx hb dX10_near_10 rfl (lv_at hl 1 rfl) ?_
        refine va_get (D := (dC, dI)) (ci := 8) (v := .ref sh) (C := RX10) (T := TX10) (N := 13) hx hb hts inX10 hown hK hP 0 rfl rfl 0 (Nat.le_of_ble_eq_true rfl) (hts _ mw_309) (fun _ h9 => h9) rfl dX10_near_11 ?_
        refine lv_iload_n hx hb dX10_near_14 rfl (lv_at hl 3 rfl) ?_
        obtain ⟨hPc, hDc, hFc, hI1⟩ := zi_sub (wc := [_, _]) hP hD hS hA [1, 2] rfl rfl
        refine zcall (st1 := [.null]) (va_runV (As := [.int w]) (rest := []) ⟨hx, hb, hml, hown, hts⟩ (k_Sheet_rowThere_x l dC dI cI cZ cF H.size sh fa ft FA w (h200) (hb3)) (csV_144 hts rfl rfl ⟨Nat.le_of_ble_eq_true rfl, Nat.le_of_ble_eq_true rfl⟩) (zPV2 (q0 := 0) (ci := 7) hPc hDc hK hXN rfl rfl) rfl rfl hl.1 rfl (lv_room (Nat.le_of_ble_eq_true rfl)) dX10_near_15 ⟨Nat.le_of_ble_eq_true rfl, Nat.le_of_ble_eq_true rfl⟩) hS hFc hFc rfl (fun t H locs ht hB hk1 hS => ?_)
        obtain ⟨hP1, hD1⟩ := hB
        rw [ht] at hP1
        replace hP := z0 hP hD hk1 hP1 hI1
        clear hk1 hPc hDc hFc hP1 hD1 ht hI1
        refine lv_astoreN (lv' := [(5, .null), (4, .ref r2), (0, .ref x), (1, .int (nI f0)), (2, .int w), (3, .int wv)]) hx hb dX10_near_18 hl (Nat.le_of_ble_eq_true rfl) rfl (fun ls hl => ?_)
        refine lv_aload hx hb dX10_near_20 (lv_at hl 1 rfl) ?_
        refine lv_ifnull hx hb dX10_near_22 ?_
        refine lv_aloadN hx hb dX10_near_25 (lv_at hl 0 rfl) ?_
        refine lv_ifnullN (tgt := 39) hx hb dX10_near_27 rfl ?_
        refine lv_ldc2 hx hb hown (hts _ mw_1077) dX10_near_39 ?_
        obtain ⟨hP9, hD9⟩ := zu_part (cx := [_, _, _]) hP hD [true, true, true] rfl rfl
        rw [hQ9]
        exact W.lret (v := (-1)) hx hb hr (fun t ht hW => ⟨⟨rfl, by rw [ht]; exact hP9, hD9⟩, hS.F ht⟩) hS.2.2 dX10_near_42
      · skip
        refine lv_aload_n hx hb dX10_near_10 rfl (lv_at hl 1 rfl) ?_
        rcases vwA_3 (P9 := ((st g0).toInt = 1)) (hva g0 (by omega)) with ⟨ht3, fe3, lk3, lo3, we3, fm3, hFA3, hfe3, hlk3⟩ | ⟨ht3, hA3, fe3, lk3, lo3, we3, fm3, r3, rx3, ry3, cap3, U3, V3, rg3, hFA3, hfe3, hlk3, ⟨hr3, hrx3, hry3, hne3⟩, hrr3⟩ | ⟨ht3, hA3, fe3, lk3, lo3, we3, fm3, r3, rx3, ry3, cap3, U3, V3, rg3, hFA3, hfe3, hlk3, ⟨hr3, hrx3, hry3, hne3⟩, hrr3⟩
        · skip
          refine va_get (D := (dC, dI)) (ci := 8) (v := .ref sh) (C := RX10) (T := TX10) (N := 13) hx hb hts inX10 hown hK hP 0 rfl rfl 0 (Nat.le_of_ble_eq_true rfl) (hts _ mw_309) (fun _ h9 => h9) rfl dX10_near_11 ?_
          have hc9_2 : inPl L f [(oc1 fe3 (rk g0) (wd g0) (tw g0) (pa g0) (pb g0) (.ref lo3) (.ref lk3) fm3), (oc4 lk3 (kd g0) (st g0) .null (gb g0) (it g0) we3)] := ⟨hfe3, hlk3, trivial⟩
          have hD0_2 := hD
          obtain ⟨T_2, hT_2, hP, hD⟩ := pl_oT hP hD hc9_2 (pwF hfe3.2 hlk3.2)
          obtain ⟨hP, hD⟩ := zre (W2 := ([_, _, _, _, _] ++ va_pl T_2 f)) hP hD rfl
          refine lv_iload_n hx hb dX10_near_14 rfl (lv_at hl 3 rfl) ?_
          obtain ⟨hPc, hDc, hFc, hI1⟩ := zi_sub (wc := [_, _, _, _]) hP hD hS hA [1, 2, 3, 4] (by decide +kernel) rfl
          refine zcall (st1 := [.null]) (va_runV (As := [.int (nI g0)]) (rest := []) ⟨hx, hb, hml, hown, hts⟩ (k_Sheet_rowThere_tv l dC dI cI cZ cF H.size sh fa ft FA g0 fe3 lo3 (rk g0) (wd g0) (tw g0) (pa g0) (pb g0) lk3 (kd g0) (st g0) (gb g0) (it g0) we3 fm3 (h200) (by first | with_reducible assumption | omega) (hFA3)) (csV_144 hts rfl rfl ⟨Nat.le_of_ble_eq_true rfl, Nat.le_of_ble_eq_true rfl⟩) (zPV2 (q0 := 0) (ci := 7) hPc hDc hK hXN rfl rfl) rfl rfl hl.1 rfl (lv_room (Nat.le_of_ble_eq_true rfl)) dX10_near_15 ⟨Nat.le_of_ble_eq_true rfl, Nat.le_of_ble_eq_true rfl⟩) hS hFc hFc rfl (fun t H locs ht hB hk1 hS => ?_)
          obtain ⟨hP1, hD1⟩ := hB
          rw [ht] at hP1
          replace hP := z0 hP hD hk1 hP1 hI1
          clear hk1 hPc hDc hFc hP1 hD1 ht hI1
          obtain ⟨hP, hD⟩ := pl_bk (X := [_, _, _]) hT_2 hP rfl hc9_2 hD0_2 rfl
          refine lv_astoreN (lv' := [(5, .null), (4, .ref r2), (0, .ref x), (1, .int (nI f0)), (2, .int (nI g0)), (3, .int wv)]) hx hb dX10_near_18 hl (Nat.le_of_ble_eq_true rfl) rfl (fun ls hl => ?_)
          refine lv_aload hx hb dX10_near_20 (lv_at hl 1 rfl) ?_
          refine lv_ifnull hx hb dX10_near_22 ?_
          refine lv_aloadN hx hb dX10_near_25 (lv_at hl 0 rfl) ?_
          refine lv_ifnullN (tgt := 39) hx hb dX10_near_27 rfl ?_
          refine lv_ldc2 hx hb hown (hts _ mw_1077) dX10_near_39 ?_
          obtain ⟨hP9, hD9⟩ := zu_part (cx := [_, _, _]) hP hD [true, true, true] rfl rfl
          rw [hQ9]
          exact W.lret (v := (-1)) hx hb hr (fun t ht hW => ⟨⟨rfl, by rw [ht]; exact hP9, hD9⟩, hS.F ht⟩) hS.2.2 dX10_near_42
        · skip
          refine va_get (D := (dC, dI)) (ci := 8) (v := .ref sh) (C := RX10) (T := TX10) (N := 13) hx hb hts inX10 hown hK hP 0 rfl rfl 0 (Nat.le_of_ble_eq_true rfl) (hts _ mw_309) (fun _ h9 => h9) rfl dX10_near_11 ?_
          have hc9_2 : inPl L f [(oc1 fe3 (rk g0) (wd g0) (tw g0) (pa g0) (pb g0) (.ref lo3) (.ref lk3) fm3), (oc4 lk3 (kd g0) (st g0) (.ref r3) (gb g0) (it g0) we3)] := ⟨hfe3, hlk3, trivial⟩
          have hD0_2 := hD
          obtain ⟨T_2, hT_2, hP, hD⟩ := pl_oT hP hD hc9_2 (pwF hfe3.2 hlk3.2)
          obtain ⟨hP, hD⟩ := zre (W2 := ([_, _, _, _, _] ++ va_pl T_2 f)) hP hD rfl
          refine lv_iload_n hx hb dX10_near_14 rfl (lv_at hl 3 rfl) ?_
          obtain ⟨hPc, hDc, hFc, hI1⟩ := zi_sub (wc := [_, _, _, _]) hP hD hS hA [1, 2, 3, 4] (by decide +kernel) rfl
          refine zcall (st1 := [.ref r3]) (va_runV (As := [.int (nI g0)]) (rest := []) ⟨hx, hb, hml, hown, hts⟩ (k_Sheet_rowThere_yv l dC dI cI cZ cF H.size sh fa ft FA g0 fe3 lo3 (rk g0) (wd g0) (tw g0) (pa g0) (pb g0) lk3 (kd g0) (st g0) (gb g0) (it g0) we3 r3 fm3 (h200) (by first | with_reducible assumption | omega) (hFA3) (by first | exact hA3 | omega)) (csV_144 hts rfl rfl ⟨Nat.le_of_ble_eq_true rfl, Nat.le_of_ble_eq_true rfl⟩) (zPV2 (q0 := 0) (ci := 7) hPc hDc hK hXN rfl rfl) rfl rfl hl.1 rfl (lv_room (Nat.le_of_ble_eq_true rfl)) dX10_near_15 ⟨Nat.le_of_ble_eq_true rfl, Nat.le_of_ble_eq_true rfl⟩) hS hFc hFc rfl (fun t H locs ht hB hk1 hS => ?_)
          obtain ⟨hP1, hD1⟩ := hB
          rw [ht] at hP1
          replace hP := z0 hP hD hk1 hP1 hI1
          clear hk1 hPc hDc hFc hP1 hD1 ht hI1
          obtain ⟨hP, hD⟩ := pl_bk (X := [_, _, _]) hT_2 hP rfl hc9_2 hD0_2 rfl
          refine lv_astore (lv' := [(5, .ref r3), (4, .ref r2), (0, .ref x), (1, .int (nI f0)), (2, .int (nI g0)), (3, .int wv)]) hx hb dX10_near_18 hl (Nat.le_of_ble_eq_true rfl) rfl (fun ls hl => ?_)
          refine lv_aload hx hb dX10_near_20 (lv_at hl 1 rfl) ?_
          refine lv_ifnull hx hb dX10_near_22 ?_
          refine lv_aload hx hb dX10_near_25 (lv_at hl 0 rfl) ?_
          refine lv_ifnull hx hb dX10_near_27 ?_
          exact absurd ⟨⟨f0, rfl, hq2, hA2, ht2⟩, g0, rfl, hq3, hA3, ht3⟩ hbad
        · skip
          refine va_get (D := (dC, dI)) (ci := 8) (v := .ref sh) (C := RX10) (T := TX10) (N := 13) hx hb hts inX10 hown hK hP 0 rfl rfl 0 (Nat.le_of_ble_eq_true rfl) (hts _ mw_309) (fun _ h9 => h9) rfl dX10_near_11 ?_
          have hc9_2 : inPl L f [(oc1 fe3 (rk g0) (wd g0) (tw g0) (pa g0) (pb g0) (.ref lo3) (.ref lk3) fm3), (oc4 lk3 (kd g0) (st g0) (.ref r3) (gb g0) (it g0) we3)] := ⟨hfe3, hlk3, trivial⟩
          have hD0_2 := hD
          obtain ⟨T_2, hT_2, hP, hD⟩ := pl_oT hP hD hc9_2 (pwF hfe3.2 hlk3.2)
          obtain ⟨hP, hD⟩ := zre (W2 := ([_, _, _, _, _] ++ va_pl T_2 f)) hP hD rfl
          refine lv_iload_n hx hb dX10_near_14 rfl (lv_at hl 3 rfl) ?_
          obtain ⟨hPc, hDc, hFc, hI1⟩ := zi_sub (wc := [_, _, _, _]) hP hD hS hA [1, 2, 3, 4] (by decide +kernel) rfl
          refine zcall (st1 := [.null]) (va_runV (As := [.int (nI g0)]) (rest := []) ⟨hx, hb, hml, hown, hts⟩ (k_Sheet_rowThere_sv l dC dI cI cZ cF H.size sh fa ft FA g0 fe3 lo3 (rk g0) (wd g0) (tw g0) (pa g0) (pb g0) lk3 (kd g0) (st g0) (gb g0) (it g0) we3 fm3 (.ref r3) (h200) (by first | with_reducible assumption | omega) (hFA3) (by first | exact hA3 | omega)) (csV_144 hts rfl rfl ⟨Nat.le_of_ble_eq_true rfl, Nat.le_of_ble_eq_true rfl⟩) (zPV2 (q0 := 0) (ci := 7) hPc hDc hK hXN rfl rfl) rfl rfl hl.1 rfl (lv_room (Nat.le_of_ble_eq_true rfl)) dX10_near_15 ⟨Nat.le_of_ble_eq_true rfl, Nat.le_of_ble_eq_true rfl⟩) hS hFc hFc rfl (fun t H locs ht hB hk1 hS => ?_)
          obtain ⟨hP1, hD1⟩ := hB
          rw [ht] at hP1
          replace hP := z0 hP hD hk1 hP1 hI1
          clear hk1 hPc hDc hFc hP1 hD1 ht hI1
          obtain ⟨hP, hD⟩ := pl_bk (X := [_, _, _]) hT_2 hP rfl hc9_2 hD0_2 rfl
          refine lv_astoreN (lv' := [(5, .null), (4, .ref r2), (0, .ref x), (1, .int (nI f0)), (2, .int (nI g0)), (3, .int wv)]) hx hb dX10_near_18 hl (Nat.le_of_ble_eq_true rfl) rfl (fun ls hl => ?_)
          refine lv_aload hx hb dX10_near_20 (lv_at hl 1 rfl) ?_
          refine lv_ifnull hx hb dX10_near_22 ?_
          refine lv_aloadN hx hb dX10_near_25 (lv_at hl 0 rfl) ?_
          refine lv_ifnullN (tgt := 39) hx hb dX10_near_27 rfl ?_
          refine lv_ldc2 hx hb hown (hts _ mw_1077) dX10_near_39 ?_
          obtain ⟨hP9, hD9⟩ := zu_part (cx := [_, _, _]) hP hD [true, true, true] rfl rfl
          rw [hQ9]
          exact W.lret (v := (-1)) hx hb hr (fun t ht hW => ⟨⟨rfl, by rw [ht]; exact hP9, hD9⟩, hS.F ht⟩) hS.2.2 dX10_near_42
    · skip
      refine va_get (D := (dC, dI)) (ci := 8) (v := .ref sh) (C := RX10) (T := TX10) (N := 13) hx hb hts inX10 hown hK hP 0 rfl rfl 0 (Nat.le_of_ble_eq_true rfl) (hts _ mw_309) (fun _ h9 => h9) rfl dX10_near_1 ?_
      have hc9_1 : inPl L f [(oc1 fe2 (rk f0) (wd f0) (tw f0) (pa f0) (pb f0) (.ref lo2) (.ref lk2) fm2), (oc4 lk2 (kd f0) (st f0) (.ref r2) (gb f0) (it f0) we2)] := ⟨hfe2, hlk2, trivial⟩
      have hD0_1 := hD
      obtain ⟨T_1, hT_1, hP, hD⟩ := pl_oT hP hD hc9_1 (pwF hfe2.2 hlk2.2)
      obtain ⟨hP, hD⟩ := zre (W2 := ([_, _, _, _, _] ++ va_pl T_1 f)) hP hD rfl
      refine lv_iload_n hx hb dX10_near_4 rfl (lv_at hl 1 rfl) ?_
      obtain ⟨hPc, hDc, hFc, hI1⟩ := zi_sub (wc := [_, _, _, _]) hP hD hS hA [1, 2, 3, 4] (by decide +kernel) rfl
      refine zcall (st1 := [.null]) (va_runV (As := [.int (nI f0)]) (rest := []) ⟨hx, hb, hml, hown, hts⟩ (k_Sheet_rowThere_sv l dC dI cI cZ cF s.heap.size sh fa ft FA f0 fe2 lo2 (rk f0) (wd f0) (tw f0) (pa f0) (pb f0) lk2 (kd f0) (st f0) (gb f0) (it f0) we2 fm2 (.ref r2) (h200) (by first | with_reducible assumption | omega) (hFA2) (by first | exact hA2 | omega)) (csV_144 hts rfl rfl ⟨Nat.le_of_ble_eq_true rfl, Nat.le_of_ble_eq_true rfl⟩) (zPV2 (q0 := 0) (ci := 7) hPc hDc hK hXN rfl rfl) rfl rfl hl.1 rfl (lv_room (Nat.le_of_ble_eq_true rfl)) dX10_near_5 ⟨Nat.le_of_ble_eq_true rfl, Nat.le_of_ble_eq_true rfl⟩) hS hFc hFc rfl (fun t H locs ht hB hk1 hS => ?_)
      obtain ⟨hP1, hD1⟩ := hB
      rw [ht] at hP1
      replace hP := z0 hP hD hk1 hP1 hI1
      clear hk1 hPc hDc hFc hP1 hD1 ht hI1
      obtain ⟨hP, hD⟩ := pl_bk (X := [_, _, _]) hT_1 hP rfl hc9_1 hD0_1 rfl
      refine lv_astoreN (lv' := [(4, .null), (0, .ref x), (1, .int (nI f0)), (2, .int w), (3, .int wv)]) hx hb dX10_near_8 hl (Nat.le_of_ble_eq_true rfl) rfl (fun ls hl => ?_)
      rcases v_c (v := w) (ft := ft) h200 with hb3 | ⟨g0, hq3, rfl⟩
      · skip
        refine lv_aload_n hx hb dX10_near_10 rfl (lv_at hl 1 rfl) ?_
        refine va_get (D := (dC, dI)) (ci := 8) (v := .ref sh) (C := RX10) (T := TX10) (N := 13) hx hb hts inX10 hown hK hP 0 rfl rfl 0 (Nat.le_of_ble_eq_true rfl) (hts _ mw_309) (fun _ h9 => h9) rfl dX10_near_11 ?_
        refine lv_iload_n hx hb dX10_near_14 rfl (lv_at hl 3 rfl) ?_
        obtain ⟨hPc, hDc, hFc, hI1⟩ := zi_sub (wc := [_, _]) hP hD hS hA [1, 2] rfl rfl
        refine zcall (st1 := [.null]) (va_runV (As := [.int w]) (rest := []) ⟨hx, hb, hml, hown, hts⟩ (k_Sheet_rowThere_x l dC dI cI cZ cF H.size sh fa ft FA w (h200) (hb3)) (csV_144 hts rfl rfl ⟨Nat.le_of_ble_eq_true rfl, Nat.le_of_ble_eq_true rfl⟩) (zPV2 (q0 := 0) (ci := 7) hPc hDc hK hXN rfl rfl) rfl rfl hl.1 rfl (lv_room (Nat.le_of_ble_eq_true rfl)) dX10_near_15 ⟨Nat.le_of_ble_eq_true rfl, Nat.le_of_ble_eq_true rfl⟩) hS hFc hFc rfl (fun t H locs ht hB hk1 hS => ?_)
        obtain ⟨hP1, hD1⟩ := hB
        rw [ht] at hP1
        replace hP := z0 hP hD hk1 hP1 hI1
        clear hk1 hPc hDc hFc hP1 hD1 ht hI1
        refine lv_astoreN (lv' := [(5, .null), (4, .null), (0, .ref x), (1, .int (nI f0)), (2, .int w), (3, .int wv)]) hx hb dX10_near_18 hl (Nat.le_of_ble_eq_true rfl) rfl (fun ls hl => ?_)
        refine lv_aloadN hx hb dX10_near_20 (lv_at hl 1 rfl) ?_
        refine lv_ifnullN (tgt := 39) hx hb dX10_near_22 rfl ?_
        refine lv_ldc2 hx hb hown (hts _ mw_1077) dX10_near_39 ?_
        obtain ⟨hP9, hD9⟩ := zu_part (cx := [_, _, _]) hP hD [true, true, true] rfl rfl
        rw [hQ9]
        exact W.lret (v := (-1)) hx hb hr (fun t ht hW => ⟨⟨rfl, by rw [ht]; exact hP9, hD9⟩, hS.F ht⟩) hS.2.2 dX10_near_42
      · skip
        refine lv_aload_n hx hb dX10_near_10 rfl (lv_at hl 1 rfl) ?_
        rcases vwA_3 (P9 := ((st g0).toInt = 1)) (hva g0 (by omega)) with ⟨ht3, fe3, lk3, lo3, we3, fm3, hFA3, hfe3, hlk3⟩ | ⟨ht3, hA3, fe3, lk3, lo3, we3, fm3, r3, rx3, ry3, cap3, U3, V3, rg3, hFA3, hfe3, hlk3, ⟨hr3, hrx3, hry3, hne3⟩, hrr3⟩ | ⟨ht3, hA3, fe3, lk3, lo3, we3, fm3, r3, rx3, ry3, cap3, U3, V3, rg3, hFA3, hfe3, hlk3, ⟨hr3, hrx3, hry3, hne3⟩, hrr3⟩
        · skip
          refine va_get (D := (dC, dI)) (ci := 8) (v := .ref sh) (C := RX10) (T := TX10) (N := 13) hx hb hts inX10 hown hK hP 0 rfl rfl 0 (Nat.le_of_ble_eq_true rfl) (hts _ mw_309) (fun _ h9 => h9) rfl dX10_near_11 ?_
          have hc9_2 : inPl L f [(oc1 fe3 (rk g0) (wd g0) (tw g0) (pa g0) (pb g0) (.ref lo3) (.ref lk3) fm3), (oc4 lk3 (kd g0) (st g0) .null (gb g0) (it g0) we3)] := ⟨hfe3, hlk3, trivial⟩
          have hD0_2 := hD
          obtain ⟨T_2, hT_2, hP, hD⟩ := pl_oT hP hD hc9_2 (pwF hfe3.2 hlk3.2)
          obtain ⟨hP, hD⟩ := zre (W2 := ([_, _, _, _, _] ++ va_pl T_2 f)) hP hD rfl
          refine lv_iload_n hx hb dX10_near_14 rfl (lv_at hl 3 rfl) ?_
          obtain ⟨hPc, hDc, hFc, hI1⟩ := zi_sub (wc := [_, _, _, _]) hP hD hS hA [1, 2, 3, 4] (by decide +kernel) rfl
          refine zcall (st1 := [.null]) (va_runV (As := [.int (nI g0)]) (rest := []) ⟨hx, hb, hml, hown, hts⟩ (k_Sheet_rowThere_tv l dC dI cI cZ cF H.size sh fa ft FA g0 fe3 lo3 (rk g0) (wd g0) (tw g0) (pa g0) (pb g0) lk3 (kd g0) (st g0) (gb g0) (it g0) we3 fm3 (h200) (by first | with_reducible assumption | omega) (hFA3)) (csV_144 hts rfl rfl ⟨Nat.le_of_ble_eq_true rfl, Nat.le_of_ble_eq_true rfl⟩) (zPV2 (q0 := 0) (ci := 7) hPc hDc hK hXN rfl rfl) rfl rfl hl.1 rfl (lv_room (Nat.le_of_ble_eq_true rfl)) dX10_near_15 ⟨Nat.le_of_ble_eq_true rfl, Nat.le_of_ble_eq_true rfl⟩) hS hFc hFc rfl (fun t H locs ht hB hk1 hS => ?_)
          obtain ⟨hP1, hD1⟩ := hB
          rw [ht] at hP1
          replace hP := z0 hP hD hk1 hP1 hI1
          clear hk1 hPc hDc hFc hP1 hD1 ht hI1
          obtain ⟨hP, hD⟩ := pl_bk (X := [_, _, _]) hT_2 hP rfl hc9_2 hD0_2 rfl
          refine lv_astoreN (lv' := [(5, .null), (4, .null), (0, .ref x), (1, .int (nI f0)), (2, .int (nI g0)), (3, .int wv)]) hx hb dX10_near_18 hl (Nat.le_of_ble_eq_true rfl) rfl (fun ls hl => ?_)
          refine lv_aloadN hx hb dX10_near_20 (lv_at hl 1 rfl) ?_
          refine lv_ifnullN (tgt := 39) hx hb dX10_near_22 rfl ?_
          refine lv_ldc2 hx hb hown (hts _ mw_1077) dX10_near_39 ?_
          obtain ⟨hP9, hD9⟩ := zu_part (cx := [_, _, _]) hP hD [true, true, true] rfl rfl
          rw [hQ9]
          exact W.lret (v := (-1)) hx hb hr (fun t ht hW => ⟨⟨rfl, by rw [ht]; exact hP9, hD9⟩, hS.F ht⟩) hS.2.2 dX10_near_42
        · skip
          refine va_get (D := (dC, dI)) (ci := 8) (v := .ref sh) (C := RX10) (T := TX10) (N := 13) hx hb hts inX10 hown hK hP 0 rfl rfl 0 (Nat.le_of_ble_eq_true rfl) (hts _ mw_309) (fun _ h9 => h9) rfl dX10_near_11 ?_
          have hc9_2 : inPl L f [(oc1 fe3 (rk g0) (wd g0) (tw g0) (pa g0) (pb g0) (.ref lo3) (.ref lk3) fm3), (oc4 lk3 (kd g0) (st g0) (.ref r3) (gb g0) (it g0) we3)] := ⟨hfe3, hlk3, trivial⟩
          have hD0_2 := hD
          obtain ⟨T_2, hT_2, hP, hD⟩ := pl_oT hP hD hc9_2 (pwF hfe3.2 hlk3.2)
          obtain ⟨hP, hD⟩ := zre (W2 := ([_, _, _, _, _] ++ va_pl T_2 f)) hP hD rfl
          refine lv_iload_n hx hb dX10_near_14 rfl (lv_at hl 3 rfl) ?_
          obtain ⟨hPc, hDc, hFc, hI1⟩ := zi_sub (wc := [_, _, _, _]) hP hD hS hA [1, 2, 3, 4] (by decide +kernel) rfl
          refine zcall (st1 := [.ref r3]) (va_runV (As := [.int (nI g0)]) (rest := []) ⟨hx, hb, hml, hown, hts⟩ (k_Sheet_rowThere_yv l dC dI cI cZ cF H.size sh fa ft FA g0 fe3 lo3 (rk g0) (wd g0) (tw g0) (pa g0) (pb g0) lk3 (kd g0) (st g0) (gb g0) (it g0) we3 r3 fm3 (h200) (by first | with_reducible assumption | omega) (hFA3) (by first | exact hA3 | omega)) (csV_144 hts rfl rfl ⟨Nat.le_of_ble_eq_true rfl, Nat.le_of_ble_eq_true rfl⟩) (zPV2 (q0 := 0) (ci := 7) hPc hDc hK hXN rfl rfl) rfl rfl hl.1 rfl (lv_room (Nat.le_of_ble_eq_true rfl)) dX10_near_15 ⟨Nat.le_of_ble_eq_true rfl, Nat.le_of_ble_eq_true rfl⟩) hS hFc hFc rfl (fun t H locs ht hB hk1 hS => ?_)
          obtain ⟨hP1, hD1⟩ := hB
          rw [ht] at hP1
          replace hP := z0 hP hD hk1 hP1 hI1
          clear hk1 hPc hDc hFc hP1 hD1 ht hI1
          obtain ⟨hP, hD⟩ := pl_bk (X := [_, _, _]) hT_2 hP rfl hc9_2 hD0_2 rfl
          refine lv_astore (lv' := [(5, .ref r3), (4, .null), (0, .ref x), (1, .int (nI f0)), (2, .int (nI g0)), (3, .int wv)]) hx hb dX10_near_18 hl (Nat.le_of_ble_eq_true rfl) rfl (fun ls hl => ?_)
          refine lv_aloadN hx hb dX10_near_20 (lv_at hl 1 rfl) ?_
          refine lv_ifnullN (tgt := 39) hx hb dX10_near_22 rfl ?_
          refine lv_ldc2 hx hb hown (hts _ mw_1077) dX10_near_39 ?_
          obtain ⟨hP9, hD9⟩ := zu_part (cx := [_, _, _]) hP hD [true, true, true] rfl rfl
          rw [hQ9]
          exact W.lret (v := (-1)) hx hb hr (fun t ht hW => ⟨⟨rfl, by rw [ht]; exact hP9, hD9⟩, hS.F ht⟩) hS.2.2 dX10_near_42
        · skip
          refine va_get (D := (dC, dI)) (ci := 8) (v := .ref sh) (C := RX10) (T := TX10) (N := 13) hx hb hts inX10 hown hK hP 0 rfl rfl 0 (Nat.le_of_ble_eq_true rfl) (hts _ mw_309) (fun _ h9 => h9) rfl dX10_near_11 ?_
          have hc9_2 : inPl L f [(oc1 fe3 (rk g0) (wd g0) (tw g0) (pa g0) (pb g0) (.ref lo3) (.ref lk3) fm3), (oc4 lk3 (kd g0) (st g0) (.ref r3) (gb g0) (it g0) we3)] := ⟨hfe3, hlk3, trivial⟩
          have hD0_2 := hD
          obtain ⟨T_2, hT_2, hP, hD⟩ := pl_oT hP hD hc9_2 (pwF hfe3.2 hlk3.2)
          obtain ⟨hP, hD⟩ := zre (W2 := ([_, _, _, _, _] ++ va_pl T_2 f)) hP hD rfl
          refine lv_iload_n hx hb dX10_near_14 rfl (lv_at hl 3 rfl) ?_
          obtain ⟨hPc, hDc, hFc, hI1⟩ := zi_sub (wc := [_, _, _, _]) hP hD hS hA [1, 2, 3, 4] (by decide +kernel) rfl
          refine zcall (st1 := [.null]) (va_runV (As := [.int (nI g0)]) (rest := []) ⟨hx, hb, hml, hown, hts⟩ (k_Sheet_rowThere_sv l dC dI cI cZ cF H.size sh fa ft FA g0 fe3 lo3 (rk g0) (wd g0) (tw g0) (pa g0) (pb g0) lk3 (kd g0) (st g0) (gb g0) (it g0) we3 fm3 (.ref r3) (h200) (by first | with_reducible assumption | omega) (hFA3) (by first | exact hA3 | omega)) (csV_144 hts rfl rfl ⟨Nat.le_of_ble_eq_true rfl, Nat.le_of_ble_eq_true rfl⟩) (zPV2 (q0 := 0) (ci := 7) hPc hDc hK hXN rfl rfl) rfl rfl hl.1 rfl (lv_room (Nat.le_of_ble_eq_true rfl)) dX10_near_15 ⟨Nat.le_of_ble_eq_true rfl, Nat.le_of_ble_eq_true rfl⟩) hS hFc hFc rfl (fun t H locs ht hB hk1 hS => ?_)
          obtain ⟨hP1, hD1⟩ := hB
          rw [ht] at hP1
          replace hP := z0 hP hD hk1 hP1 hI1
          clear hk1 hPc hDc hFc hP1 hD1 ht hI1
          obtain ⟨hP, hD⟩ := pl_bk (X := [_, _, _]) hT_2 hP rfl hc9_2 hD0_2 rfl
          refine lv_astoreN (lv' := [(5, .null), (4, .null), (0, .ref x), (1, .int (nI f0)), (2, .int (nI g0)), (3, .int wv)]) hx hb dX10_near_18 hl (Nat.le_of_ble_eq_true rfl) rfl (fun ls hl => ?_)
          refine lv_aloadN hx hb dX10_near_20 (lv_at hl 1 rfl) ?_
          refine lv_ifnullN (tgt := 39) hx hb dX10_near_22 rfl ?_
          refine lv_ldc2 hx hb hown (hts _ mw_1077) dX10_near_39 ?_
          obtain ⟨hP9, hD9⟩ := zu_part (cx := [_, _, _]) hP hD [true, true, true] rfl rfl
          rw [hQ9]
          exact W.lret (v := (-1)) hx hb hr (fun t ht hW => ⟨⟨rfl, by rw [ht]; exact hP9, hD9⟩, hS.F ht⟩) hS.2.2 dX10_near_42
set_option maxHeartbeats 4000000 in
set_option maxRecDepth 100000 in
theorem k_near_w (l : Launch) (dC : Nat → ClassId) (dI : Nat → Nat → Nat) (cI cZ cF : ClassId) (sz : Nat) (x : Nat) (sh : Nat) (lw : Nat) (ro : Nat) (bq : Nat) (bp : Nat) (dq : Nat) (dp : Nat) (lv : Nat) (sl : Nat) (sd : Int32) (ul : Int32) (su : Int32) (ds : Int32) (fa : Nat) (ft : Nat) (FA : Nat → Option Nat) (L : List Nat) (f : Nat → va_E) (kd : Nat → Int32) (st : Nat → Int32) (tn : Nat → Int32) (mn : Nat → Int32) (cx : Nat → Int32) (cy : Nat → Int32) (rk : Nat → Int32) (wd : Nat → Int32) (tw : Nat → Int32) (pa : Nat → Int32) (pb : Nat → Int32) (gb : Nat → Int32) (it : Nat → Int32) (v : Int32) (w : Int32) (wv : Int32) (h200 : ft ≤ 200) (hva : ∀ q, q < ft → vwA cI L f FA rk wd tw pa pb kd st gb it tn mn cx cy q) (hbad : ¬ (0 ≤ wv.toInt ∧ wv.toInt ≤ 1)) : zM l yX10_near cX10_near 6 (some .long) ({ frames := 2, cells := 0, slots := 0, locals := 43 } : Room) [.ref x, .int v, .int w, .int wv] (dC, dI) (zTy cI cZ cF) ([(oc8 x (.ref sh) (.ref lw) (.ref ro) (.ref bq) (.ref bp) (.ref dq) (.ref dp) (.ref lv) (.ref sl) ds sd ul su), (oc7 sh (.ref fa) (nI ft)), (oq fa cF 200 FA)] ++ va_pl L f) sz (some (.long (-1))) (fun A t => zPD (dC, dI) classes A ([(oc8 x (.ref sh) (.ref lw) (.ref ro) (.ref bq) (.ref bp) (.ref dq) (.ref dp) (.ref lv) (.ref sl) ds sd ul su), (oc7 sh (.ref fa) (nI ft)), (oq fa cF 200 FA)] ++ va_pl L f) t.heap) 0 0 := by
  refine zIn (own := "ScaleShop") (loc := [(0, .ref x), (1, .int v), (2, .int w), (3, .int wv)]) rfl rfl rfl rfl (fun p e s m below meth c hx hb hr hts hown hlocks hml hnm9 A hA hS hP hD hK hXN Q9 hQ9 ls hl => ?_)
  have e_0 : (0 : Int32).toInt = 0 := (by decide)
  have e_1 : (1 : Int32).toInt = 1 := (by decide)
  rcases v_c (v := v) (ft := ft) h200 with hb2 | ⟨f0, hq2, rfl⟩
  · skip
    refine lv_aload_n hx hb dX10_near_0 rfl (lv_at hl 0 rfl) ?_
    refine va_get (D := (dC, dI)) (ci := 8) (v := .ref sh) (C := RX10) (T := TX10) (N := 13) hx hb hts inX10 hown hK hP 0 rfl rfl 0 (Nat.le_of_ble_eq_true rfl) (hts _ mw_309) (fun _ h9 => h9) rfl dX10_near_1 ?_
    refine lv_iload_n hx hb dX10_near_4 rfl (lv_at hl 1 rfl) ?_
    obtain ⟨hPc, hDc, hFc, hI1⟩ := zi_sub (wc := [_, _]) hP hD hS hA [1, 2] rfl rfl
    refine zcall (st1 := [.null]) (va_runV (As := [.int v]) (rest := []) ⟨hx, hb, hml, hown, hts⟩ (k_Sheet_rowThere_x l dC dI cI cZ cF s.heap.size sh fa ft FA v (h200) (hb2)) (csV_144 hts rfl rfl ⟨Nat.le_of_ble_eq_true rfl, Nat.le_of_ble_eq_true rfl⟩) (zPV2 (q0 := 0) (ci := 7) hPc hDc hK hXN rfl rfl) rfl rfl hl.1 rfl (lv_room (Nat.le_of_ble_eq_true rfl)) dX10_near_5 ⟨Nat.le_of_ble_eq_true rfl, Nat.le_of_ble_eq_true rfl⟩) hS hFc hFc rfl (fun t H locs ht hB hk1 hS => ?_)
    obtain ⟨hP1, hD1⟩ := hB
    rw [ht] at hP1
    replace hP := z0 hP hD hk1 hP1 hI1
    clear hk1 hPc hDc hFc hP1 hD1 ht hI1
    refine lv_astoreN (lv' := [(4, .null), (0, .ref x), (1, .int v), (2, .int w), (3, .int wv)]) hx hb dX10_near_8 hl (Nat.le_of_ble_eq_true rfl) rfl (fun ls hl => ?_)
    rcases v_c (v := w) (ft := ft) h200 with hb3 | ⟨g0, hq3, rfl⟩
    · skip
      refine lv_aload_n hx hb dX10_near_10 rfl (lv_at hl 1 rfl) ?_
      refine va_get (D := (dC, dI)) (ci := 8) (v := .ref sh) (C := RX10) (T := TX10) (N := 13) hx hb hts inX10 hown hK hP 0 rfl rfl 0 (Nat.le_of_ble_eq_true rfl) (hts _ mw_309) (fun _ h9 => h9) rfl dX10_near_11 ?_
      refine lv_iload_n hx hb dX10_near_14 rfl (lv_at hl 3 rfl) ?_
      obtain ⟨hPc, hDc, hFc, hI1⟩ := zi_sub (wc := [_, _]) hP hD hS hA [1, 2] rfl rfl
      refine zcall (st1 := [.null]) (va_runV (As := [.int w]) (rest := []) ⟨hx, hb, hml, hown, hts⟩ (k_Sheet_rowThere_x l dC dI cI cZ cF H.size sh fa ft FA w (h200) (hb3)) (csV_144 hts rfl rfl ⟨Nat.le_of_ble_eq_true rfl, Nat.le_of_ble_eq_true rfl⟩) (zPV2 (q0 := 0) (ci := 7) hPc hDc hK hXN rfl rfl) rfl rfl hl.1 rfl (lv_room (Nat.le_of_ble_eq_true rfl)) dX10_near_15 ⟨Nat.le_of_ble_eq_true rfl, Nat.le_of_ble_eq_true rfl⟩) hS hFc hFc rfl (fun t H locs ht hB hk1 hS => ?_)
      obtain ⟨hP1, hD1⟩ := hB
      rw [ht] at hP1
      replace hP := z0 hP hD hk1 hP1 hI1
      clear hk1 hPc hDc hFc hP1 hD1 ht hI1
      refine lv_astoreN (lv' := [(5, .null), (4, .null), (0, .ref x), (1, .int v), (2, .int w), (3, .int wv)]) hx hb dX10_near_18 hl (Nat.le_of_ble_eq_true rfl) rfl (fun ls hl => ?_)
      refine lv_aloadN hx hb dX10_near_20 (lv_at hl 1 rfl) ?_
      refine lv_ifnullN (tgt := 39) hx hb dX10_near_22 rfl ?_
      refine lv_ldc2 hx hb hown (hts _ mw_1077) dX10_near_39 ?_
      obtain ⟨hP9, hD9⟩ := zu_part (cx := [_, _, _]) hP hD [true, true, true] rfl rfl
      rw [hQ9]
      exact W.lret (v := (-1)) hx hb hr (fun t ht hW => ⟨⟨rfl, by rw [ht]; exact hP9, hD9⟩, hS.F ht⟩) hS.2.2 dX10_near_42
    · skip
      refine lv_aload_n hx hb dX10_near_10 rfl (lv_at hl 1 rfl) ?_
      rcases vwA_3 (P9 := ((st g0).toInt = 1)) (hva g0 (by omega)) with ⟨ht3, fe3, lk3, lo3, we3, fm3, hFA3, hfe3, hlk3⟩ | ⟨ht3, hA3, fe3, lk3, lo3, we3, fm3, r3, rx3, ry3, cap3, U3, V3, rg3, hFA3, hfe3, hlk3, ⟨hr3, hrx3, hry3, hne3⟩, hrr3⟩ | ⟨ht3, hA3, fe3, lk3, lo3, we3, fm3, r3, rx3, ry3, cap3, U3, V3, rg3, hFA3, hfe3, hlk3, ⟨hr3, hrx3, hry3, hne3⟩, hrr3⟩
      · skip
        refine va_get (D := (dC, dI)) (ci := 8) (v := .ref sh) (C := RX10) (T := TX10) (N := 13) hx hb hts inX10 hown hK hP 0 rfl rfl 0 (Nat.le_of_ble_eq_true rfl) (hts _ mw_309) (fun _ h9 => h9) rfl dX10_near_11 ?_
        have hc9_1 : inPl L f [(oc1 fe3 (rk g0) (wd g0) (tw g0) (pa g0) (pb g0) (.ref lo3) (.ref lk3) fm3), (oc4 lk3 (kd g0) (st g0) .null (gb g0) (it g0) we3)] := ⟨hfe3, hlk3, trivial⟩
        have hD0_1 := hD
        obtain ⟨T_1, hT_1, hP, hD⟩ := pl_oT hP hD hc9_1 (pwF hfe3.2 hlk3.2)
        obtain ⟨hP, hD⟩ := zre (W2 := ([_, _, _, _, _] ++ va_pl T_1 f)) hP hD rfl
        refine lv_iload_n hx hb dX10_near_14 rfl (lv_at hl 3 rfl) ?_
        obtain ⟨hPc, hDc, hFc, hI1⟩ := zi_sub (wc := [_, _, _, _]) hP hD hS hA [1, 2, 3, 4] (by decide +kernel) rfl
        refine zcall (st1 := [.null]) (va_runV (As := [.int (nI g0)]) (rest := []) ⟨hx, hb, hml, hown, hts⟩ (k_Sheet_rowThere_tv l dC dI cI cZ cF H.size sh fa ft FA g0 fe3 lo3 (rk g0) (wd g0) (tw g0) (pa g0) (pb g0) lk3 (kd g0) (st g0) (gb g0) (it g0) we3 fm3 (h200) (by first | with_reducible assumption | omega) (hFA3)) (csV_144 hts rfl rfl ⟨Nat.le_of_ble_eq_true rfl, Nat.le_of_ble_eq_true rfl⟩) (zPV2 (q0 := 0) (ci := 7) hPc hDc hK hXN rfl rfl) rfl rfl hl.1 rfl (lv_room (Nat.le_of_ble_eq_true rfl)) dX10_near_15 ⟨Nat.le_of_ble_eq_true rfl, Nat.le_of_ble_eq_true rfl⟩) hS hFc hFc rfl (fun t H locs ht hB hk1 hS => ?_)
        obtain ⟨hP1, hD1⟩ := hB
        rw [ht] at hP1
        replace hP := z0 hP hD hk1 hP1 hI1
        clear hk1 hPc hDc hFc hP1 hD1 ht hI1
        obtain ⟨hP, hD⟩ := pl_bk (X := [_, _, _]) hT_1 hP rfl hc9_1 hD0_1 rfl
        refine lv_astoreN (lv' := [(5, .null), (4, .null), (0, .ref x), (1, .int v), (2, .int (nI g0)), (3, .int wv)]) hx hb dX10_near_18 hl (Nat.le_of_ble_eq_true rfl) rfl (fun ls hl => ?_)
        refine lv_aloadN hx hb dX10_near_20 (lv_at hl 1 rfl) ?_
        refine lv_ifnullN (tgt := 39) hx hb dX10_near_22 rfl ?_
        refine lv_ldc2 hx hb hown (hts _ mw_1077) dX10_near_39 ?_
        obtain ⟨hP9, hD9⟩ := zu_part (cx := [_, _, _]) hP hD [true, true, true] rfl rfl
        rw [hQ9]
        exact W.lret (v := (-1)) hx hb hr (fun t ht hW => ⟨⟨rfl, by rw [ht]; exact hP9, hD9⟩, hS.F ht⟩) hS.2.2 dX10_near_42
      · skip
        refine va_get (D := (dC, dI)) (ci := 8) (v := .ref sh) (C := RX10) (T := TX10) (N := 13) hx hb hts inX10 hown hK hP 0 rfl rfl 0 (Nat.le_of_ble_eq_true rfl) (hts _ mw_309) (fun _ h9 => h9) rfl dX10_near_11 ?_
        have hc9_1 : inPl L f [(oc1 fe3 (rk g0) (wd g0) (tw g0) (pa g0) (pb g0) (.ref lo3) (.ref lk3) fm3), (oc4 lk3 (kd g0) (st g0) (.ref r3) (gb g0) (it g0) we3)] := ⟨hfe3, hlk3, trivial⟩
        have hD0_1 := hD
        obtain ⟨T_1, hT_1, hP, hD⟩ := pl_oT hP hD hc9_1 (pwF hfe3.2 hlk3.2)
        obtain ⟨hP, hD⟩ := zre (W2 := ([_, _, _, _, _] ++ va_pl T_1 f)) hP hD rfl
        refine lv_iload_n hx hb dX10_near_14 rfl (lv_at hl 3 rfl) ?_
        obtain ⟨hPc, hDc, hFc, hI1⟩ := zi_sub (wc := [_, _, _, _]) hP hD hS hA [1, 2, 3, 4] (by decide +kernel) rfl
        refine zcall (st1 := [.ref r3]) (va_runV (As := [.int (nI g0)]) (rest := []) ⟨hx, hb, hml, hown, hts⟩ (k_Sheet_rowThere_yv l dC dI cI cZ cF H.size sh fa ft FA g0 fe3 lo3 (rk g0) (wd g0) (tw g0) (pa g0) (pb g0) lk3 (kd g0) (st g0) (gb g0) (it g0) we3 r3 fm3 (h200) (by first | with_reducible assumption | omega) (hFA3) (by first | exact hA3 | omega)) (csV_144 hts rfl rfl ⟨Nat.le_of_ble_eq_true rfl, Nat.le_of_ble_eq_true rfl⟩) (zPV2 (q0 := 0) (ci := 7) hPc hDc hK hXN rfl rfl) rfl rfl hl.1 rfl (lv_room (Nat.le_of_ble_eq_true rfl)) dX10_near_15 ⟨Nat.le_of_ble_eq_true rfl, Nat.le_of_ble_eq_true rfl⟩) hS hFc hFc rfl (fun t H locs ht hB hk1 hS => ?_)
        obtain ⟨hP1, hD1⟩ := hB
        rw [ht] at hP1
        replace hP := z0 hP hD hk1 hP1 hI1
        clear hk1 hPc hDc hFc hP1 hD1 ht hI1
        obtain ⟨hP, hD⟩ := pl_bk (X := [_, _, _]) hT_1 hP rfl hc9_1 hD0_1 rfl
        refine lv_astore (lv' := [(5, .ref r3), (4, .null), (0, .ref x), (1, .int v), (2, .int (nI g0)), (3, .int wv)]) hx hb dX10_near_18 hl (Nat.le_of_ble_eq_true rfl) rfl (fun ls hl => ?_)
        refine lv_aloadN hx hb dX10_near_20 (lv_at hl 1 rfl) ?_
        refine lv_ifnullN (tgt := 39) hx hb dX10_near_22 rfl ?_
        refine lv_ldc2 hx hb hown (hts _ mw_1077) dX10_near_39 ?_
        obtain ⟨hP9, hD9⟩ := zu_part (cx := [_, _, _]) hP hD [true, true, true] rfl rfl
        rw [hQ9]
        exact W.lret (v := (-1)) hx hb hr (fun t ht hW => ⟨⟨rfl, by rw [ht]; exact hP9, hD9⟩, hS.F ht⟩) hS.2.2 dX10_near_42
      · skip
        refine va_get (D := (dC, dI)) (ci := 8) (v := .ref sh) (C := RX10) (T := TX10) (N := 13) hx hb hts inX10 hown hK hP 0 rfl rfl 0 (Nat.le_of_ble_eq_true rfl) (hts _ mw_309) (fun _ h9 => h9) rfl dX10_near_11 ?_
        have hc9_1 : inPl L f [(oc1 fe3 (rk g0) (wd g0) (tw g0) (pa g0) (pb g0) (.ref lo3) (.ref lk3) fm3), (oc4 lk3 (kd g0) (st g0) (.ref r3) (gb g0) (it g0) we3)] := ⟨hfe3, hlk3, trivial⟩
        have hD0_1 := hD
        obtain ⟨T_1, hT_1, hP, hD⟩ := pl_oT hP hD hc9_1 (pwF hfe3.2 hlk3.2)
        obtain ⟨hP, hD⟩ := zre (W2 := ([_, _, _, _, _] ++ va_pl T_1 f)) hP hD rfl
        refine lv_iload_n hx hb dX10_near_14 rfl (lv_at hl 3 rfl) ?_
        obtain ⟨hPc, hDc, hFc, hI1⟩ := zi_sub (wc := [_, _, _, _]) hP hD hS hA [1, 2, 3, 4] (by decide +kernel) rfl
        refine zcall (st1 := [.null]) (va_runV (As := [.int (nI g0)]) (rest := []) ⟨hx, hb, hml, hown, hts⟩ (k_Sheet_rowThere_sv l dC dI cI cZ cF H.size sh fa ft FA g0 fe3 lo3 (rk g0) (wd g0) (tw g0) (pa g0) (pb g0) lk3 (kd g0) (st g0) (gb g0) (it g0) we3 fm3 (.ref r3) (h200) (by first | with_reducible assumption | omega) (hFA3) (by first | exact hA3 | omega)) (csV_144 hts rfl rfl ⟨Nat.le_of_ble_eq_true rfl, Nat.le_of_ble_eq_true rfl⟩) (zPV2 (q0 := 0) (ci := 7) hPc hDc hK hXN rfl rfl) rfl rfl hl.1 rfl (lv_room (Nat.le_of_ble_eq_true rfl)) dX10_near_15 ⟨Nat.le_of_ble_eq_true rfl, Nat.le_of_ble_eq_true rfl⟩) hS hFc hFc rfl (fun t H locs ht hB hk1 hS => ?_)
        obtain ⟨hP1, hD1⟩ := hB
        rw [ht] at hP1
        replace hP := z0 hP hD hk1 hP1 hI1
        clear hk1 hPc hDc hFc hP1 hD1 ht hI1
        obtain ⟨hP, hD⟩ := pl_bk (X := [_, _, _]) hT_1 hP rfl hc9_1 hD0_1 rfl
        refine lv_astoreN (lv' := [(5, .null), (4, .null), (0, .ref x), (1, .int v), (2, .int (nI g0)), (3, .int wv)]) hx hb dX10_near_18 hl (Nat.le_of_ble_eq_true rfl) rfl (fun ls hl => ?_)
        refine lv_aloadN hx hb dX10_near_20 (lv_at hl 1 rfl) ?_
        refine lv_ifnullN (tgt := 39) hx hb dX10_near_22 rfl ?_
        refine lv_ldc2 hx hb hown (hts _ mw_1077) dX10_near_39 ?_
        obtain ⟨hP9, hD9⟩ := zu_part (cx := [_, _, _]) hP hD [true, true, true] rfl rfl
        rw [hQ9]
        exact W.lret (v := (-1)) hx hb hr (fun t ht hW => ⟨⟨rfl, by rw [ht]; exact hP9, hD9⟩, hS.F ht⟩) hS.2.2 dX10_near_42
  · skip
    refine lv_aload_n hx hb dX10_near_0 rfl (lv_at hl 0 rfl) ?_
    rcases vwA_3 (P9 := ((st f0).toInt = 1)) (hva f0 (by omega)) with ⟨ht2, fe2, lk2, lo2, we2, fm2, hFA2, hfe2, hlk2⟩ | ⟨ht2, hA2, fe2, lk2, lo2, we2, fm2, r2, rx2, ry2, cap2, U2, V2, rg2, hFA2, hfe2, hlk2, ⟨hr2, hrx2, hry2, hne2⟩, hrr2⟩ | ⟨ht2, hA2, fe2, lk2, lo2, we2, fm2, r2, rx2, ry2, cap2, U2, V2, rg2, hFA2, hfe2, hlk2, ⟨hr2, hrx2, hry2, hne2⟩, hrr2⟩
    · skip
      refine va_get (D := (dC, dI)) (ci := 8) (v := .ref sh) (C := RX10) (T := TX10) (N := 13) hx hb hts inX10 hown hK hP 0 rfl rfl 0 (Nat.le_of_ble_eq_true rfl) (hts _ mw_309) (fun _ h9 => h9) rfl dX10_near_1 ?_
      have hc9_1 : inPl L f [(oc1 fe2 (rk f0) (wd f0) (tw f0) (pa f0) (pb f0) (.ref lo2) (.ref lk2) fm2), (oc4 lk2 (kd f0) (st f0) .null (gb f0) (it f0) we2)] := ⟨hfe2, hlk2, trivial⟩
      have hD0_1 := hD
      obtain ⟨T_1, hT_1, hP, hD⟩ := pl_oT hP hD hc9_1 (pwF hfe2.2 hlk2.2)
      obtain ⟨hP, hD⟩ := zre (W2 := ([_, _, _, _, _] ++ va_pl T_1 f)) hP hD rfl
      refine lv_iload_n hx hb dX10_near_4 rfl (lv_at hl 1 rfl) ?_
      obtain ⟨hPc, hDc, hFc, hI1⟩ := zi_sub (wc := [_, _, _, _]) hP hD hS hA [1, 2, 3, 4] (by decide +kernel) rfl
      refine zcall (st1 := [.null]) (va_runV (As := [.int (nI f0)]) (rest := []) ⟨hx, hb, hml, hown, hts⟩ (k_Sheet_rowThere_tv l dC dI cI cZ cF s.heap.size sh fa ft FA f0 fe2 lo2 (rk f0) (wd f0) (tw f0) (pa f0) (pb f0) lk2 (kd f0) (st f0) (gb f0) (it f0) we2 fm2 (h200) (by first | with_reducible assumption | omega) (hFA2)) (csV_144 hts rfl rfl ⟨Nat.le_of_ble_eq_true rfl, Nat.le_of_ble_eq_true rfl⟩) (zPV2 (q0 := 0) (ci := 7) hPc hDc hK hXN rfl rfl) rfl rfl hl.1 rfl (lv_room (Nat.le_of_ble_eq_true rfl)) dX10_near_5 ⟨Nat.le_of_ble_eq_true rfl, Nat.le_of_ble_eq_true rfl⟩) hS hFc hFc rfl (fun t H locs ht hB hk1 hS => ?_)
      obtain ⟨hP1, hD1⟩ := hB
      rw [ht] at hP1
      replace hP := z0 hP hD hk1 hP1 hI1
      clear hk1 hPc hDc hFc hP1 hD1 ht hI1
      obtain ⟨hP, hD⟩ := pl_bk (X := [_, _, _]) hT_1 hP rfl hc9_1 hD0_1 rfl
      refine lv_astoreN (lv' := [(4, .null), (0, .ref x), (1, .int (nI f0)), (2, .int w), (3, .int wv)]) hx hb dX10_near_8 hl (Nat.le_of_ble_eq_true rfl) rfl (fun ls hl => ?_)
      rcases v_c (v := w) (ft := ft) h200 with hb3 | ⟨g0, hq3, rfl⟩
      · skip
        refine lv_aload_n hx hb dX10_near_10 rfl (lv_at hl 1 rfl) ?_
        refine va_get (D := (dC, dI)) (ci := 8) (v := .ref sh) (C := RX10) (T := TX10) (N := 13) hx hb hts inX10 hown hK hP 0 rfl rfl 0 (Nat.le_of_ble_eq_true rfl) (hts _ mw_309) (fun _ h9 => h9) rfl dX10_near_11 ?_
        refine lv_iload_n hx hb dX10_near_14 rfl (lv_at hl 3 rfl) ?_
        obtain ⟨hPc, hDc, hFc, hI1⟩ := zi_sub (wc := [_, _]) hP hD hS hA [1, 2] rfl rfl
        refine zcall (st1 := [.null]) (va_runV (As := [.int w]) (rest := []) ⟨hx, hb, hml, hown, hts⟩ (k_Sheet_rowThere_x l dC dI cI cZ cF H.size sh fa ft FA w (h200) (hb3)) (csV_144 hts rfl rfl ⟨Nat.le_of_ble_eq_true rfl, Nat.le_of_ble_eq_true rfl⟩) (zPV2 (q0 := 0) (ci := 7) hPc hDc hK hXN rfl rfl) rfl rfl hl.1 rfl (lv_room (Nat.le_of_ble_eq_true rfl)) dX10_near_15 ⟨Nat.le_of_ble_eq_true rfl, Nat.le_of_ble_eq_true rfl⟩) hS hFc hFc rfl (fun t H locs ht hB hk1 hS => ?_)
        obtain ⟨hP1, hD1⟩ := hB
        rw [ht] at hP1
        replace hP := z0 hP hD hk1 hP1 hI1
        clear hk1 hPc hDc hFc hP1 hD1 ht hI1
        refine lv_astoreN (lv' := [(5, .null), (4, .null), (0, .ref x), (1, .int (nI f0)), (2, .int w), (3, .int wv)]) hx hb dX10_near_18 hl (Nat.le_of_ble_eq_true rfl) rfl (fun ls hl => ?_)
        refine lv_aloadN hx hb dX10_near_20 (lv_at hl 1 rfl) ?_
        refine lv_ifnullN (tgt := 39) hx hb dX10_near_22 rfl ?_
        refine lv_ldc2 hx hb hown (hts _ mw_1077) dX10_near_39 ?_
        obtain ⟨hP9, hD9⟩ := zu_part (cx := [_, _, _]) hP hD [true, true, true] rfl rfl
        rw [hQ9]
        exact W.lret (v := (-1)) hx hb hr (fun t ht hW => ⟨⟨rfl, by rw [ht]; exact hP9, hD9⟩, hS.F ht⟩) hS.2.2 dX10_near_42
      · skip
        refine lv_aload_n hx hb dX10_near_10 rfl (lv_at hl 1 rfl) ?_
        rcases vwA_3 (P9 := ((st g0).toInt = 1)) (hva g0 (by omega)) with ⟨ht3, fe3, lk3, lo3, we3, fm3, hFA3, hfe3, hlk3⟩ | ⟨ht3, hA3, fe3, lk3, lo3, we3, fm3, r3, rx3, ry3, cap3, U3, V3, rg3, hFA3, hfe3, hlk3, ⟨hr3, hrx3, hry3, hne3⟩, hrr3⟩ | ⟨ht3, hA3, fe3, lk3, lo3, we3, fm3, r3, rx3, ry3, cap3, U3, V3, rg3, hFA3, hfe3, hlk3, ⟨hr3, hrx3, hry3, hne3⟩, hrr3⟩
        · skip
          refine va_get (D := (dC, dI)) (ci := 8) (v := .ref sh) (C := RX10) (T := TX10) (N := 13) hx hb hts inX10 hown hK hP 0 rfl rfl 0 (Nat.le_of_ble_eq_true rfl) (hts _ mw_309) (fun _ h9 => h9) rfl dX10_near_11 ?_
          have hc9_2 : inPl L f [(oc1 fe3 (rk g0) (wd g0) (tw g0) (pa g0) (pb g0) (.ref lo3) (.ref lk3) fm3), (oc4 lk3 (kd g0) (st g0) .null (gb g0) (it g0) we3)] := ⟨hfe3, hlk3, trivial⟩
          have hD0_2 := hD
          obtain ⟨T_2, hT_2, hP, hD⟩ := pl_oT hP hD hc9_2 (pwF hfe3.2 hlk3.2)
          obtain ⟨hP, hD⟩ := zre (W2 := ([_, _, _, _, _] ++ va_pl T_2 f)) hP hD rfl
          refine lv_iload_n hx hb dX10_near_14 rfl (lv_at hl 3 rfl) ?_
          obtain ⟨hPc, hDc, hFc, hI1⟩ := zi_sub (wc := [_, _, _, _]) hP hD hS hA [1, 2, 3, 4] (by decide +kernel) rfl
          refine zcall (st1 := [.null]) (va_runV (As := [.int (nI g0)]) (rest := []) ⟨hx, hb, hml, hown, hts⟩ (k_Sheet_rowThere_tv l dC dI cI cZ cF H.size sh fa ft FA g0 fe3 lo3 (rk g0) (wd g0) (tw g0) (pa g0) (pb g0) lk3 (kd g0) (st g0) (gb g0) (it g0) we3 fm3 (h200) (by first | with_reducible assumption | omega) (hFA3)) (csV_144 hts rfl rfl ⟨Nat.le_of_ble_eq_true rfl, Nat.le_of_ble_eq_true rfl⟩) (zPV2 (q0 := 0) (ci := 7) hPc hDc hK hXN rfl rfl) rfl rfl hl.1 rfl (lv_room (Nat.le_of_ble_eq_true rfl)) dX10_near_15 ⟨Nat.le_of_ble_eq_true rfl, Nat.le_of_ble_eq_true rfl⟩) hS hFc hFc rfl (fun t H locs ht hB hk1 hS => ?_)
          obtain ⟨hP1, hD1⟩ := hB
          rw [ht] at hP1
          replace hP := z0 hP hD hk1 hP1 hI1
          clear hk1 hPc hDc hFc hP1 hD1 ht hI1
          obtain ⟨hP, hD⟩ := pl_bk (X := [_, _, _]) hT_2 hP rfl hc9_2 hD0_2 rfl
          refine lv_astoreN (lv' := [(5, .null), (4, .null), (0, .ref x), (1, .int (nI f0)), (2, .int (nI g0)), (3, .int wv)]) hx hb dX10_near_18 hl (Nat.le_of_ble_eq_true rfl) rfl (fun ls hl => ?_)
          refine lv_aloadN hx hb dX10_near_20 (lv_at hl 1 rfl) ?_
          refine lv_ifnullN (tgt := 39) hx hb dX10_near_22 rfl ?_
          refine lv_ldc2 hx hb hown (hts _ mw_1077) dX10_near_39 ?_
          obtain ⟨hP9, hD9⟩ := zu_part (cx := [_, _, _]) hP hD [true, true, true] rfl rfl
          rw [hQ9]
          exact W.lret (v := (-1)) hx hb hr (fun t ht hW => ⟨⟨rfl, by rw [ht]; exact hP9, hD9⟩, hS.F ht⟩) hS.2.2 dX10_near_42
        · skip
          refine va_get (D := (dC, dI)) (ci := 8) (v := .ref sh) (C := RX10) (T := TX10) (N := 13) hx hb hts inX10 hown hK hP 0 rfl rfl 0 (Nat.le_of_ble_eq_true rfl) (hts _ mw_309) (fun _ h9 => h9) rfl dX10_near_11 ?_
          have hc9_2 : inPl L f [(oc1 fe3 (rk g0) (wd g0) (tw g0) (pa g0) (pb g0) (.ref lo3) (.ref lk3) fm3), (oc4 lk3 (kd g0) (st g0) (.ref r3) (gb g0) (it g0) we3)] := ⟨hfe3, hlk3, trivial⟩
          have hD0_2 := hD
          obtain ⟨T_2, hT_2, hP, hD⟩ := pl_oT hP hD hc9_2 (pwF hfe3.2 hlk3.2)
          obtain ⟨hP, hD⟩ := zre (W2 := ([_, _, _, _, _] ++ va_pl T_2 f)) hP hD rfl
          refine lv_iload_n hx hb dX10_near_14 rfl (lv_at hl 3 rfl) ?_
          obtain ⟨hPc, hDc, hFc, hI1⟩ := zi_sub (wc := [_, _, _, _]) hP hD hS hA [1, 2, 3, 4] (by decide +kernel) rfl
          refine zcall (st1 := [.ref r3]) (va_runV (As := [.int (nI g0)]) (rest := []) ⟨hx, hb, hml, hown, hts⟩ (k_Sheet_rowThere_yv l dC dI cI cZ cF H.size sh fa ft FA g0 fe3 lo3 (rk g0) (wd g0) (tw g0) (pa g0) (pb g0) lk3 (kd g0) (st g0) (gb g0) (it g0) we3 r3 fm3 (h200) (by first | with_reducible assumption | omega) (hFA3) (by first | exact hA3 | omega)) (csV_144 hts rfl rfl ⟨Nat.le_of_ble_eq_true rfl, Nat.le_of_ble_eq_true rfl⟩) (zPV2 (q0 := 0) (ci := 7) hPc hDc hK hXN rfl rfl) rfl rfl hl.1 rfl (lv_room (Nat.le_of_ble_eq_true rfl)) dX10_near_15 ⟨Nat.le_of_ble_eq_true rfl, Nat.le_of_ble_eq_true rfl⟩) hS hFc hFc rfl (fun t H locs ht hB hk1 hS => ?_)
          obtain ⟨hP1, hD1⟩ := hB
          rw [ht] at hP1
          replace hP := z0 hP hD hk1 hP1 hI1
          clear hk1 hPc hDc hFc hP1 hD1 ht hI1
          obtain ⟨hP, hD⟩ := pl_bk (X := [_, _, _]) hT_2 hP rfl hc9_2 hD0_2 rfl
          refine lv_astore (lv' := [(5, .ref r3), (4, .null), (0, .ref x), (1, .int (nI f0)), (2, .int (nI g0)), (3, .int wv)]) hx hb dX10_near_18 hl (Nat.le_of_ble_eq_true rfl) rfl (fun ls hl => ?_)
          refine lv_aloadN hx hb dX10_near_20 (lv_at hl 1 rfl) ?_
          refine lv_ifnullN (tgt := 39) hx hb dX10_near_22 rfl ?_
          refine lv_ldc2 hx hb hown (hts _ mw_1077) dX10_near_39 ?_
          obtain ⟨hP9, hD9⟩ := zu_part (cx := [_, _, _]) hP hD [true, true, true] rfl rfl
          rw [hQ9]
          exact W.lret (v := (-1)) hx hb hr (fun t ht hW => ⟨⟨rfl, by rw [ht]; exact hP9, hD9⟩, hS.F ht⟩) hS.2.2 dX10_near_42
        · skip
          refine va_get (D := (dC, dI)) (ci := 8) (v := .ref sh) (C := RX10) (T := TX10) (N := 13) hx hb hts inX10 hown hK hP 0 rfl rfl 0 (Nat.le_of_ble_eq_true rfl) (hts _ mw_309) (fun _ h9 => h9) rfl dX10_near_11 ?_
          have hc9_2 : inPl L f [(oc1 fe3 (rk g0) (wd g0) (tw g0) (pa g0) (pb g0) (.ref lo3) (.ref lk3) fm3), (oc4 lk3 (kd g0) (st g0) (.ref r3) (gb g0) (it g0) we3)] := ⟨hfe3, hlk3, trivial⟩
          have hD0_2 := hD
          obtain ⟨T_2, hT_2, hP, hD⟩ := pl_oT hP hD hc9_2 (pwF hfe3.2 hlk3.2)
          obtain ⟨hP, hD⟩ := zre (W2 := ([_, _, _, _, _] ++ va_pl T_2 f)) hP hD rfl
          refine lv_iload_n hx hb dX10_near_14 rfl (lv_at hl 3 rfl) ?_
          obtain ⟨hPc, hDc, hFc, hI1⟩ := zi_sub (wc := [_, _, _, _]) hP hD hS hA [1, 2, 3, 4] (by decide +kernel) rfl
          refine zcall (st1 := [.null]) (va_runV (As := [.int (nI g0)]) (rest := []) ⟨hx, hb, hml, hown, hts⟩ (k_Sheet_rowThere_sv l dC dI cI cZ cF H.size sh fa ft FA g0 fe3 lo3 (rk g0) (wd g0) (tw g0) (pa g0) (pb g0) lk3 (kd g0) (st g0) (gb g0) (it g0) we3 fm3 (.ref r3) (h200) (by first | with_reducible assumption | omega) (hFA3) (by first | exact hA3 | omega)) (csV_144 hts rfl rfl ⟨Nat.le_of_ble_eq_true rfl, Nat.le_of_ble_eq_true rfl⟩) (zPV2 (q0 := 0) (ci := 7) hPc hDc hK hXN rfl rfl) rfl rfl hl.1 rfl (lv_room (Nat.le_of_ble_eq_true rfl)) dX10_near_15 ⟨Nat.le_of_ble_eq_true rfl, Nat.le_of_ble_eq_true rfl⟩) hS hFc hFc rfl (fun t H locs ht hB hk1 hS => ?_)
          obtain ⟨hP1, hD1⟩ := hB
          rw [ht] at hP1
          replace hP := z0 hP hD hk1 hP1 hI1
          clear hk1 hPc hDc hFc hP1 hD1 ht hI1
          obtain ⟨hP, hD⟩ := pl_bk (X := [_, _, _]) hT_2 hP rfl hc9_2 hD0_2 rfl
          refine lv_astoreN (lv' := [(5, .null), (4, .null), (0, .ref x), (1, .int (nI f0)), (2, .int (nI g0)), (3, .int wv)]) hx hb dX10_near_18 hl (Nat.le_of_ble_eq_true rfl) rfl (fun ls hl => ?_)
          refine lv_aloadN hx hb dX10_near_20 (lv_at hl 1 rfl) ?_
          refine lv_ifnullN (tgt := 39) hx hb dX10_near_22 rfl ?_
          refine lv_ldc2 hx hb hown (hts _ mw_1077) dX10_near_39 ?_
          obtain ⟨hP9, hD9⟩ := zu_part (cx := [_, _, _]) hP hD [true, true, true] rfl rfl
          rw [hQ9]
          exact W.lret (v := (-1)) hx hb hr (fun t ht hW => ⟨⟨rfl, by rw [ht]; exact hP9, hD9⟩, hS.F ht⟩) hS.2.2 dX10_near_42
    · skip
      refine va_get (D := (dC, dI)) (ci := 8) (v := .ref sh) (C := RX10) (T := TX10) (N := 13) hx hb hts inX10 hown hK hP 0 rfl rfl 0 (Nat.le_of_ble_eq_true rfl) (hts _ mw_309) (fun _ h9 => h9) rfl dX10_near_1 ?_
      have hc9_1 : inPl L f [(oc1 fe2 (rk f0) (wd f0) (tw f0) (pa f0) (pb f0) (.ref lo2) (.ref lk2) fm2), (oc4 lk2 (kd f0) (st f0) (.ref r2) (gb f0) (it f0) we2)] := ⟨hfe2, hlk2, trivial⟩
      have hD0_1 := hD
      obtain ⟨T_1, hT_1, hP, hD⟩ := pl_oT hP hD hc9_1 (pwF hfe2.2 hlk2.2)
      obtain ⟨hP, hD⟩ := zre (W2 := ([_, _, _, _, _] ++ va_pl T_1 f)) hP hD rfl
      refine lv_iload_n hx hb dX10_near_4 rfl (lv_at hl 1 rfl) ?_
      obtain ⟨hPc, hDc, hFc, hI1⟩ := zi_sub (wc := [_, _, _, _]) hP hD hS hA [1, 2, 3, 4] (by decide +kernel) rfl
      refine zcall (st1 := [.ref r2]) (va_runV (As := [.int (nI f0)]) (rest := []) ⟨hx, hb, hml, hown, hts⟩ (k_Sheet_rowThere_yv l dC dI cI cZ cF s.heap.size sh fa ft FA f0 fe2 lo2 (rk f0) (wd f0) (tw f0) (pa f0) (pb f0) lk2 (kd f0) (st f0) (gb f0) (it f0) we2 r2 fm2 (h200) (by first | with_reducible assumption | omega) (hFA2) (by first | exact hA2 | omega)) (csV_144 hts rfl rfl ⟨Nat.le_of_ble_eq_true rfl, Nat.le_of_ble_eq_true rfl⟩) (zPV2 (q0 := 0) (ci := 7) hPc hDc hK hXN rfl rfl) rfl rfl hl.1 rfl (lv_room (Nat.le_of_ble_eq_true rfl)) dX10_near_5 ⟨Nat.le_of_ble_eq_true rfl, Nat.le_of_ble_eq_true rfl⟩) hS hFc hFc rfl (fun t H locs ht hB hk1 hS => ?_)
      obtain ⟨hP1, hD1⟩ := hB
      rw [ht] at hP1
      replace hP := z0 hP hD hk1 hP1 hI1
      clear hk1 hPc hDc hFc hP1 hD1 ht hI1
      obtain ⟨hP, hD⟩ := pl_bk (X := [_, _, _]) hT_1 hP rfl hc9_1 hD0_1 rfl
      refine lv_astore (lv' := [(4, .ref r2), (0, .ref x), (1, .int (nI f0)), (2, .int w), (3, .int wv)]) hx hb dX10_near_8 hl (Nat.le_of_ble_eq_true rfl) rfl (fun ls hl => ?_)
      rcases v_c (v := w) (ft := ft) h200 with hb3 | ⟨g0, hq3, rfl⟩
      · skip
        refine lv_aload_n hx hb dX10_near_10 rfl (lv_at hl 1 rfl) ?_
        refine va_get (D := (dC, dI)) (ci := 8) (v := .ref sh) (C := RX10) (T := TX10) (N := 13) hx hb hts inX10 hown hK hP 0 rfl rfl 0 (Nat.le_of_ble_eq_true rfl) (hts _ mw_309) (fun _ h9 => h9) rfl dX10_near_11 ?_
        refine lv_iload_n hx hb dX10_near_14 rfl (lv_at hl 3 rfl) ?_
        obtain ⟨hPc, hDc, hFc, hI1⟩ := zi_sub (wc := [_, _]) hP hD hS hA [1, 2] rfl rfl
        refine zcall (st1 := [.null]) (va_runV (As := [.int w]) (rest := []) ⟨hx, hb, hml, hown, hts⟩ (k_Sheet_rowThere_x l dC dI cI cZ cF H.size sh fa ft FA w (h200) (hb3)) (csV_144 hts rfl rfl ⟨Nat.le_of_ble_eq_true rfl, Nat.le_of_ble_eq_true rfl⟩) (zPV2 (q0 := 0) (ci := 7) hPc hDc hK hXN rfl rfl) rfl rfl hl.1 rfl (lv_room (Nat.le_of_ble_eq_true rfl)) dX10_near_15 ⟨Nat.le_of_ble_eq_true rfl, Nat.le_of_ble_eq_true rfl⟩) hS hFc hFc rfl (fun t H locs ht hB hk1 hS => ?_)
        obtain ⟨hP1, hD1⟩ := hB
        rw [ht] at hP1
        replace hP := z0 hP hD hk1 hP1 hI1
        clear hk1 hPc hDc hFc hP1 hD1 ht hI1
        refine lv_astoreN (lv' := [(5, .null), (4, .ref r2), (0, .ref x), (1, .int (nI f0)), (2, .int w), (3, .int wv)]) hx hb dX10_near_18 hl (Nat.le_of_ble_eq_true rfl) rfl (fun ls hl => ?_)
        refine lv_aload hx hb dX10_near_20 (lv_at hl 1 rfl) ?_
        refine lv_ifnull hx hb dX10_near_22 ?_
        refine lv_aloadN hx hb dX10_near_25 (lv_at hl 0 rfl) ?_
        refine lv_ifnullN (tgt := 39) hx hb dX10_near_27 rfl ?_
        refine lv_ldc2 hx hb hown (hts _ mw_1077) dX10_near_39 ?_
        obtain ⟨hP9, hD9⟩ := zu_part (cx := [_, _, _]) hP hD [true, true, true] rfl rfl
        rw [hQ9]
        exact W.lret (v := (-1)) hx hb hr (fun t ht hW => ⟨⟨rfl, by rw [ht]; exact hP9, hD9⟩, hS.F ht⟩) hS.2.2 dX10_near_42
      · skip
        refine lv_aload_n hx hb dX10_near_10 rfl (lv_at hl 1 rfl) ?_
        rcases vwA_3 (P9 := ((st g0).toInt = 1)) (hva g0 (by omega)) with ⟨ht3, fe3, lk3, lo3, we3, fm3, hFA3, hfe3, hlk3⟩ | ⟨ht3, hA3, fe3, lk3, lo3, we3, fm3, r3, rx3, ry3, cap3, U3, V3, rg3, hFA3, hfe3, hlk3, ⟨hr3, hrx3, hry3, hne3⟩, hrr3⟩ | ⟨ht3, hA3, fe3, lk3, lo3, we3, fm3, r3, rx3, ry3, cap3, U3, V3, rg3, hFA3, hfe3, hlk3, ⟨hr3, hrx3, hry3, hne3⟩, hrr3⟩
        · skip
          refine va_get (D := (dC, dI)) (ci := 8) (v := .ref sh) (C := RX10) (T := TX10) (N := 13) hx hb hts inX10 hown hK hP 0 rfl rfl 0 (Nat.le_of_ble_eq_true rfl) (hts _ mw_309) (fun _ h9 => h9) rfl dX10_near_11 ?_
          have hc9_2 : inPl L f [(oc1 fe3 (rk g0) (wd g0) (tw g0) (pa g0) (pb g0) (.ref lo3) (.ref lk3) fm3), (oc4 lk3 (kd g0) (st g0) .null (gb g0) (it g0) we3)] := ⟨hfe3, hlk3, trivial⟩
          have hD0_2 := hD
          obtain ⟨T_2, hT_2, hP, hD⟩ := pl_oT hP hD hc9_2 (pwF hfe3.2 hlk3.2)
          obtain ⟨hP, hD⟩ := zre (W2 := ([_, _, _, _, _] ++ va_pl T_2 f)) hP hD rfl
          refine lv_iload_n hx hb dX10_near_14 rfl (lv_at hl 3 rfl) ?_
          obtain ⟨hPc, hDc, hFc, hI1⟩ := zi_sub (wc := [_, _, _, _]) hP hD hS hA [1, 2, 3, 4] (by decide +kernel) rfl
          refine zcall (st1 := [.null]) (va_runV (As := [.int (nI g0)]) (rest := []) ⟨hx, hb, hml, hown, hts⟩ (k_Sheet_rowThere_tv l dC dI cI cZ cF H.size sh fa ft FA g0 fe3 lo3 (rk g0) (wd g0) (tw g0) (pa g0) (pb g0) lk3 (kd g0) (st g0) (gb g0) (it g0) we3 fm3 (h200) (by first | with_reducible assumption | omega) (hFA3)) (csV_144 hts rfl rfl ⟨Nat.le_of_ble_eq_true rfl, Nat.le_of_ble_eq_true rfl⟩) (zPV2 (q0 := 0) (ci := 7) hPc hDc hK hXN rfl rfl) rfl rfl hl.1 rfl (lv_room (Nat.le_of_ble_eq_true rfl)) dX10_near_15 ⟨Nat.le_of_ble_eq_true rfl, Nat.le_of_ble_eq_true rfl⟩) hS hFc hFc rfl (fun t H locs ht hB hk1 hS => ?_)
          obtain ⟨hP1, hD1⟩ := hB
          rw [ht] at hP1
          replace hP := z0 hP hD hk1 hP1 hI1
          clear hk1 hPc hDc hFc hP1 hD1 ht hI1
          obtain ⟨hP, hD⟩ := pl_bk (X := [_, _, _]) hT_2 hP rfl hc9_2 hD0_2 rfl
          refine lv_astoreN (lv' := [(5, .null), (4, .ref r2), (0, .ref x), (1, .int (nI f0)), (2, .int (nI g0)), (3, .int wv)]) hx hb dX10_near_18 hl (Nat.le_of_ble_eq_true rfl) rfl (fun ls hl => ?_)
          refine lv_aload hx hb dX10_near_20 (lv_at hl 1 rfl) ?_
          refine lv_ifnull hx hb dX10_near_22 ?_
          refine lv_aloadN hx hb dX10_near_25 (lv_at hl 0 rfl) ?_
          refine lv_ifnullN (tgt := 39) hx hb dX10_near_27 rfl ?_
          refine lv_ldc2 hx hb hown (hts _ mw_1077) dX10_near_39 ?_
          obtain ⟨hP9, hD9⟩ := zu_part (cx := [_, _, _]) hP hD [true, true, true] rfl rfl
          rw [hQ9]
          exact W.lret (v := (-1)) hx hb hr (fun t ht hW => ⟨⟨rfl, by rw [ht]; exact hP9, hD9⟩, hS.F ht⟩) hS.2.2 dX10_near_42
        · skip
          refine va_get (D := (dC, dI)) (ci := 8) (v := .ref sh) (C := RX10) (T := TX10) (N := 13) hx hb hts inX10 hown hK hP 0 rfl rfl 0 (Nat.le_of_ble_eq_true rfl) (hts _ mw_309) (fun _ h9 => h9) rfl dX10_near_11 ?_
          have hc9_2 : inPl L f [(oc1 fe3 (rk g0) (wd g0) (tw g0) (pa g0) (pb g0) (.ref lo3) (.ref lk3) fm3), (oc4 lk3 (kd g0) (st g0) (.ref r3) (gb g0) (it g0) we3)] := ⟨hfe3, hlk3, trivial⟩
          have hD0_2 := hD
          obtain ⟨T_2, hT_2, hP, hD⟩ := pl_oT hP hD hc9_2 (pwF hfe3.2 hlk3.2)
          obtain ⟨hP, hD⟩ := zre (W2 := ([_, _, _, _, _] ++ va_pl T_2 f)) hP hD rfl
          refine lv_iload_n hx hb dX10_near_14 rfl (lv_at hl 3 rfl) ?_
          obtain ⟨hPc, hDc, hFc, hI1⟩ := zi_sub (wc := [_, _, _, _]) hP hD hS hA [1, 2, 3, 4] (by decide +kernel) rfl
          refine zcall (st1 := [.ref r3]) (va_runV (As := [.int (nI g0)]) (rest := []) ⟨hx, hb, hml, hown, hts⟩ (k_Sheet_rowThere_yv l dC dI cI cZ cF H.size sh fa ft FA g0 fe3 lo3 (rk g0) (wd g0) (tw g0) (pa g0) (pb g0) lk3 (kd g0) (st g0) (gb g0) (it g0) we3 r3 fm3 (h200) (by first | with_reducible assumption | omega) (hFA3) (by first | exact hA3 | omega)) (csV_144 hts rfl rfl ⟨Nat.le_of_ble_eq_true rfl, Nat.le_of_ble_eq_true rfl⟩) (zPV2 (q0 := 0) (ci := 7) hPc hDc hK hXN rfl rfl) rfl rfl hl.1 rfl (lv_room (Nat.le_of_ble_eq_true rfl)) dX10_near_15 ⟨Nat.le_of_ble_eq_true rfl, Nat.le_of_ble_eq_true rfl⟩) hS hFc hFc rfl (fun t H locs ht hB hk1 hS => ?_)
          obtain ⟨hP1, hD1⟩ := hB
          rw [ht] at hP1
          replace hP := z0 hP hD hk1 hP1 hI1
          clear hk1 hPc hDc hFc hP1 hD1 ht hI1
          obtain ⟨hP, hD⟩ := pl_bk (X := [_, _, _]) hT_2 hP rfl hc9_2 hD0_2 rfl
          refine lv_astore (lv' := [(5, .ref r3), (4, .ref r2), (0, .ref x), (1, .int (nI f0)), (2, .int (nI g0)), (3, .int wv)]) hx hb dX10_near_18 hl (Nat.le_of_ble_eq_true rfl) rfl (fun ls hl => ?_)
          refine lv_aload hx hb dX10_near_20 (lv_at hl 1 rfl) ?_
          refine lv_ifnull hx hb dX10_near_22 ?_
          refine lv_aload hx hb dX10_near_25 (lv_at hl 0 rfl) ?_
          refine lv_ifnull hx hb dX10_near_27 ?_
          refine lv_iload_n hx hb dX10_near_30 rfl (lv_at hl 5 rfl) ?_
          refine lv_iconst (v := 0) hx hb dX10_near_31 rfl ?_
          refine lv_iconst (v := 1) hx hb dX10_near_32 rfl ?_
          obtain ⟨hPc, hDc, hFc, hI1⟩ := zi_sub (wc := []) hP hD hS hA [] rfl rfl
          refine zcall (st1 := [.int (pI ((0 : Int32).toInt ≤ wv.toInt ∧ wv.toInt ≤ (1 : Int32).toInt))]) (va_runS (As := [.int wv, .int 0, .int 1]) (rest := []) ⟨hx, hb, hml, hown, hts⟩ (k_isWithin l dC dI cI cZ cF H.size wv 0 1 ) (csS_14 hts rfl rfl ⟨Nat.le_of_ble_eq_true rfl, Nat.le_of_ble_eq_true rfl⟩) (zPS2 hPc hDc hK hXN) rfl rfl hl.1 rfl (lv_room (Nat.le_of_ble_eq_true rfl)) dX10_near_33 ⟨Nat.le_of_ble_eq_true rfl, Nat.le_of_ble_eq_true rfl⟩) hS hFc hFc rfl (fun t H locs ht hB hk1 hS => ?_)
          obtain ⟨hP1, hD1⟩ := hB
          rw [ht] at hP1
          replace hP := z0 hP hD hk1 hP1 hI1
          clear hk1 hPc hDc hFc hP1 hD1 ht hI1
          refine lv_if_ne (tgt := 43) hx hb dX10_near_36 rfl (fun c_1 => ?_) (fun c_1 => ?_)
          · have c_1 : (0 : Int32).toInt ≤ wv.toInt ∧ wv.toInt ≤ (1 : Int32).toInt := zp_1 c_1
            exfalso; omega
          · have c_1 : ¬ ((0 : Int32).toInt ≤ wv.toInt ∧ wv.toInt ≤ (1 : Int32).toInt) := zp_0 c_1
            refine lv_ldc2 hx hb hown (hts _ mw_1077) dX10_near_39 ?_
            obtain ⟨hP9, hD9⟩ := zu_part (cx := [_, _, _]) hP hD [true, true, true] rfl rfl
            rw [hQ9]
            exact W.lret (v := (-1)) hx hb hr (fun t ht hW => ⟨⟨rfl, by rw [ht]; exact hP9, hD9⟩, hS.F ht⟩) hS.2.2 dX10_near_42
        · skip
          refine va_get (D := (dC, dI)) (ci := 8) (v := .ref sh) (C := RX10) (T := TX10) (N := 13) hx hb hts inX10 hown hK hP 0 rfl rfl 0 (Nat.le_of_ble_eq_true rfl) (hts _ mw_309) (fun _ h9 => h9) rfl dX10_near_11 ?_
          have hc9_2 : inPl L f [(oc1 fe3 (rk g0) (wd g0) (tw g0) (pa g0) (pb g0) (.ref lo3) (.ref lk3) fm3), (oc4 lk3 (kd g0) (st g0) (.ref r3) (gb g0) (it g0) we3)] := ⟨hfe3, hlk3, trivial⟩
          have hD0_2 := hD
          obtain ⟨T_2, hT_2, hP, hD⟩ := pl_oT hP hD hc9_2 (pwF hfe3.2 hlk3.2)
          obtain ⟨hP, hD⟩ := zre (W2 := ([_, _, _, _, _] ++ va_pl T_2 f)) hP hD rfl
          refine lv_iload_n hx hb dX10_near_14 rfl (lv_at hl 3 rfl) ?_
          obtain ⟨hPc, hDc, hFc, hI1⟩ := zi_sub (wc := [_, _, _, _]) hP hD hS hA [1, 2, 3, 4] (by decide +kernel) rfl
          refine zcall (st1 := [.null]) (va_runV (As := [.int (nI g0)]) (rest := []) ⟨hx, hb, hml, hown, hts⟩ (k_Sheet_rowThere_sv l dC dI cI cZ cF H.size sh fa ft FA g0 fe3 lo3 (rk g0) (wd g0) (tw g0) (pa g0) (pb g0) lk3 (kd g0) (st g0) (gb g0) (it g0) we3 fm3 (.ref r3) (h200) (by first | with_reducible assumption | omega) (hFA3) (by first | exact hA3 | omega)) (csV_144 hts rfl rfl ⟨Nat.le_of_ble_eq_true rfl, Nat.le_of_ble_eq_true rfl⟩) (zPV2 (q0 := 0) (ci := 7) hPc hDc hK hXN rfl rfl) rfl rfl hl.1 rfl (lv_room (Nat.le_of_ble_eq_true rfl)) dX10_near_15 ⟨Nat.le_of_ble_eq_true rfl, Nat.le_of_ble_eq_true rfl⟩) hS hFc hFc rfl (fun t H locs ht hB hk1 hS => ?_)
          obtain ⟨hP1, hD1⟩ := hB
          rw [ht] at hP1
          replace hP := z0 hP hD hk1 hP1 hI1
          clear hk1 hPc hDc hFc hP1 hD1 ht hI1
          obtain ⟨hP, hD⟩ := pl_bk (X := [_, _, _]) hT_2 hP rfl hc9_2 hD0_2 rfl
          refine lv_astoreN (lv' := [(5, .null), (4, .ref r2), (0, .ref x), (1, .int (nI f0)), (2, .int (nI g0)), (3, .int wv)]) hx hb dX10_near_18 hl (Nat.le_of_ble_eq_true rfl) rfl (fun ls hl => ?_)
          refine lv_aload hx hb dX10_near_20 (lv_at hl 1 rfl) ?_
          refine lv_ifnull hx hb dX10_near_22 ?_
          refine lv_aloadN hx hb dX10_near_25 (lv_at hl 0 rfl) ?_
          refine lv_ifnullN (tgt := 39) hx hb dX10_near_27 rfl ?_
          refine lv_ldc2 hx hb hown (hts _ mw_1077) dX10_near_39 ?_
          obtain ⟨hP9, hD9⟩ := zu_part (cx := [_, _, _]) hP hD [true, true, true] rfl rfl
          rw [hQ9]
          exact W.lret (v := (-1)) hx hb hr (fun t ht hW => ⟨⟨rfl, by rw [ht]; exact hP9, hD9⟩, hS.F ht⟩) hS.2.2 dX10_near_42
    · skip
      refine va_get (D := (dC, dI)) (ci := 8) (v := .ref sh) (C := RX10) (T := TX10) (N := 13) hx hb hts inX10 hown hK hP 0 rfl rfl 0 (Nat.le_of_ble_eq_true rfl) (hts _ mw_309) (fun _ h9 => h9) rfl dX10_near_1 ?_
      have hc9_1 : inPl L f [(oc1 fe2 (rk f0) (wd f0) (tw f0) (pa f0) (pb f0) (.ref lo2) (.ref lk2) fm2), (oc4 lk2 (kd f0) (st f0) (.ref r2) (gb f0) (it f0) we2)] := ⟨hfe2, hlk2, trivial⟩
      have hD0_1 := hD
      obtain ⟨T_1, hT_1, hP, hD⟩ := pl_oT hP hD hc9_1 (pwF hfe2.2 hlk2.2)
      obtain ⟨hP, hD⟩ := zre (W2 := ([_, _, _, _, _] ++ va_pl T_1 f)) hP hD rfl
      refine lv_iload_n hx hb dX10_near_4 rfl (lv_at hl 1 rfl) ?_
      obtain ⟨hPc, hDc, hFc, hI1⟩ := zi_sub (wc := [_, _, _, _]) hP hD hS hA [1, 2, 3, 4] (by decide +kernel) rfl
      refine zcall (st1 := [.null]) (va_runV (As := [.int (nI f0)]) (rest := []) ⟨hx, hb, hml, hown, hts⟩ (k_Sheet_rowThere_sv l dC dI cI cZ cF s.heap.size sh fa ft FA f0 fe2 lo2 (rk f0) (wd f0) (tw f0) (pa f0) (pb f0) lk2 (kd f0) (st f0) (gb f0) (it f0) we2 fm2 (.ref r2) (h200) (by first | with_reducible assumption | omega) (hFA2) (by first | exact hA2 | omega)) (csV_144 hts rfl rfl ⟨Nat.le_of_ble_eq_true rfl, Nat.le_of_ble_eq_true rfl⟩) (zPV2 (q0 := 0) (ci := 7) hPc hDc hK hXN rfl rfl) rfl rfl hl.1 rfl (lv_room (Nat.le_of_ble_eq_true rfl)) dX10_near_5 ⟨Nat.le_of_ble_eq_true rfl, Nat.le_of_ble_eq_true rfl⟩) hS hFc hFc rfl (fun t H locs ht hB hk1 hS => ?_)
      obtain ⟨hP1, hD1⟩ := hB
      rw [ht] at hP1
      replace hP := z0 hP hD hk1 hP1 hI1
      clear hk1 hPc hDc hFc hP1 hD1 ht hI1
      obtain ⟨hP, hD⟩ := pl_bk (X := [_, _, _]) hT_1 hP rfl hc9_1 hD0_1 rfl
      refine lv_astoreN (lv' := [(4, .null), (0, .ref x), (1, .int (nI f0)), (2, .int w), (3, .int wv)]) hx hb dX10_near_8 hl (Nat.le_of_ble_eq_true rfl) rfl (fun ls hl => ?_)
      rcases v_c (v := w) (ft := ft) h200 with hb3 | ⟨g0, hq3, rfl⟩
      · skip
        refine lv_aload_n hx hb dX10_near_10 rfl (lv_at hl 1 rfl) ?_
        refine va_get (D := (dC, dI)) (ci := 8) (v := .ref sh) (C := RX10) (T := TX10) (N := 13) hx hb hts inX10 hown hK hP 0 rfl rfl 0 (Nat.le_of_ble_eq_true rfl) (hts _ mw_309) (fun _ h9 => h9) rfl dX10_near_11 ?_
        refine lv_iload_n hx hb dX10_near_14 rfl (lv_at hl 3 rfl) ?_
        obtain ⟨hPc, hDc, hFc, hI1⟩ := zi_sub (wc := [_, _]) hP hD hS hA [1, 2] rfl rfl
        refine zcall (st1 := [.null]) (va_runV (As := [.int w]) (rest := []) ⟨hx, hb, hml, hown, hts⟩ (k_Sheet_rowThere_x l dC dI cI cZ cF H.size sh fa ft FA w (h200) (hb3)) (csV_144 hts rfl rfl ⟨Nat.le_of_ble_eq_true rfl, Nat.le_of_ble_eq_true rfl⟩) (zPV2 (q0 := 0) (ci := 7) hPc hDc hK hXN rfl rfl) rfl rfl hl.1 rfl (lv_room (Nat.le_of_ble_eq_true rfl)) dX10_near_15 ⟨Nat.le_of_ble_eq_true rfl, Nat.le_of_ble_eq_true rfl⟩) hS hFc hFc rfl (fun t H locs ht hB hk1 hS => ?_)
        obtain ⟨hP1, hD1⟩ := hB
        rw [ht] at hP1
        replace hP := z0 hP hD hk1 hP1 hI1
        clear hk1 hPc hDc hFc hP1 hD1 ht hI1
        refine lv_astoreN (lv' := [(5, .null), (4, .null), (0, .ref x), (1, .int (nI f0)), (2, .int w), (3, .int wv)]) hx hb dX10_near_18 hl (Nat.le_of_ble_eq_true rfl) rfl (fun ls hl => ?_)
        refine lv_aloadN hx hb dX10_near_20 (lv_at hl 1 rfl) ?_
        refine lv_ifnullN (tgt := 39) hx hb dX10_near_22 rfl ?_
        refine lv_ldc2 hx hb hown (hts _ mw_1077) dX10_near_39 ?_
        obtain ⟨hP9, hD9⟩ := zu_part (cx := [_, _, _]) hP hD [true, true, true] rfl rfl
        rw [hQ9]
        exact W.lret (v := (-1)) hx hb hr (fun t ht hW => ⟨⟨rfl, by rw [ht]; exact hP9, hD9⟩, hS.F ht⟩) hS.2.2 dX10_near_42
      · skip
        refine lv_aload_n hx hb dX10_near_10 rfl (lv_at hl 1 rfl) ?_
        rcases vwA_3 (P9 := ((st g0).toInt = 1)) (hva g0 (by omega)) with ⟨ht3, fe3, lk3, lo3, we3, fm3, hFA3, hfe3, hlk3⟩ | ⟨ht3, hA3, fe3, lk3, lo3, we3, fm3, r3, rx3, ry3, cap3, U3, V3, rg3, hFA3, hfe3, hlk3, ⟨hr3, hrx3, hry3, hne3⟩, hrr3⟩ | ⟨ht3, hA3, fe3, lk3, lo3, we3, fm3, r3, rx3, ry3, cap3, U3, V3, rg3, hFA3, hfe3, hlk3, ⟨hr3, hrx3, hry3, hne3⟩, hrr3⟩
        · skip
          refine va_get (D := (dC, dI)) (ci := 8) (v := .ref sh) (C := RX10) (T := TX10) (N := 13) hx hb hts inX10 hown hK hP 0 rfl rfl 0 (Nat.le_of_ble_eq_true rfl) (hts _ mw_309) (fun _ h9 => h9) rfl dX10_near_11 ?_
          have hc9_2 : inPl L f [(oc1 fe3 (rk g0) (wd g0) (tw g0) (pa g0) (pb g0) (.ref lo3) (.ref lk3) fm3), (oc4 lk3 (kd g0) (st g0) .null (gb g0) (it g0) we3)] := ⟨hfe3, hlk3, trivial⟩
          have hD0_2 := hD
          obtain ⟨T_2, hT_2, hP, hD⟩ := pl_oT hP hD hc9_2 (pwF hfe3.2 hlk3.2)
          obtain ⟨hP, hD⟩ := zre (W2 := ([_, _, _, _, _] ++ va_pl T_2 f)) hP hD rfl
          refine lv_iload_n hx hb dX10_near_14 rfl (lv_at hl 3 rfl) ?_
          obtain ⟨hPc, hDc, hFc, hI1⟩ := zi_sub (wc := [_, _, _, _]) hP hD hS hA [1, 2, 3, 4] (by decide +kernel) rfl
          refine zcall (st1 := [.null]) (va_runV (As := [.int (nI g0)]) (rest := []) ⟨hx, hb, hml, hown, hts⟩ (k_Sheet_rowThere_tv l dC dI cI cZ cF H.size sh fa ft FA g0 fe3 lo3 (rk g0) (wd g0) (tw g0) (pa g0) (pb g0) lk3 (kd g0) (st g0) (gb g0) (it g0) we3 fm3 (h200) (by first | with_reducible assumption | omega) (hFA3)) (csV_144 hts rfl rfl ⟨Nat.le_of_ble_eq_true rfl, Nat.le_of_ble_eq_true rfl⟩) (zPV2 (q0 := 0) (ci := 7) hPc hDc hK hXN rfl rfl) rfl rfl hl.1 rfl (lv_room (Nat.le_of_ble_eq_true rfl)) dX10_near_15 ⟨Nat.le_of_ble_eq_true rfl, Nat.le_of_ble_eq_true rfl⟩) hS hFc hFc rfl (fun t H locs ht hB hk1 hS => ?_)
          obtain ⟨hP1, hD1⟩ := hB
          rw [ht] at hP1
          replace hP := z0 hP hD hk1 hP1 hI1
          clear hk1 hPc hDc hFc hP1 hD1 ht hI1
          obtain ⟨hP, hD⟩ := pl_bk (X := [_, _, _]) hT_2 hP rfl hc9_2 hD0_2 rfl
          refine lv_astoreN (lv' := [(5, .null), (4, .null), (0, .ref x), (1, .int (nI f0)), (2, .int (nI g0)), (3, .int wv)]) hx hb dX10_near_18 hl (Nat.le_of_ble_eq_true rfl) rfl (fun ls hl => ?_)
          refine lv_aloadN hx hb dX10_near_20 (lv_at hl 1 rfl) ?_
          refine lv_ifnullN (tgt := 39) hx hb dX10_near_22 rfl ?_
          refine lv_ldc2 hx hb hown (hts _ mw_1077) dX10_near_39 ?_
          obtain ⟨hP9, hD9⟩ := zu_part (cx := [_, _, _]) hP hD [true, true, true] rfl rfl
          rw [hQ9]
          exact W.lret (v := (-1)) hx hb hr (fun t ht hW => ⟨⟨rfl, by rw [ht]; exact hP9, hD9⟩, hS.F ht⟩) hS.2.2 dX10_near_42
        · skip
          refine va_get (D := (dC, dI)) (ci := 8) (v := .ref sh) (C := RX10) (T := TX10) (N := 13) hx hb hts inX10 hown hK hP 0 rfl rfl 0 (Nat.le_of_ble_eq_true rfl) (hts _ mw_309) (fun _ h9 => h9) rfl dX10_near_11 ?_
          have hc9_2 : inPl L f [(oc1 fe3 (rk g0) (wd g0) (tw g0) (pa g0) (pb g0) (.ref lo3) (.ref lk3) fm3), (oc4 lk3 (kd g0) (st g0) (.ref r3) (gb g0) (it g0) we3)] := ⟨hfe3, hlk3, trivial⟩
          have hD0_2 := hD
          obtain ⟨T_2, hT_2, hP, hD⟩ := pl_oT hP hD hc9_2 (pwF hfe3.2 hlk3.2)
          obtain ⟨hP, hD⟩ := zre (W2 := ([_, _, _, _, _] ++ va_pl T_2 f)) hP hD rfl
          refine lv_iload_n hx hb dX10_near_14 rfl (lv_at hl 3 rfl) ?_
          obtain ⟨hPc, hDc, hFc, hI1⟩ := zi_sub (wc := [_, _, _, _]) hP hD hS hA [1, 2, 3, 4] (by decide +kernel) rfl
          refine zcall (st1 := [.ref r3]) (va_runV (As := [.int (nI g0)]) (rest := []) ⟨hx, hb, hml, hown, hts⟩ (k_Sheet_rowThere_yv l dC dI cI cZ cF H.size sh fa ft FA g0 fe3 lo3 (rk g0) (wd g0) (tw g0) (pa g0) (pb g0) lk3 (kd g0) (st g0) (gb g0) (it g0) we3 r3 fm3 (h200) (by first | with_reducible assumption | omega) (hFA3) (by first | exact hA3 | omega)) (csV_144 hts rfl rfl ⟨Nat.le_of_ble_eq_true rfl, Nat.le_of_ble_eq_true rfl⟩) (zPV2 (q0 := 0) (ci := 7) hPc hDc hK hXN rfl rfl) rfl rfl hl.1 rfl (lv_room (Nat.le_of_ble_eq_true rfl)) dX10_near_15 ⟨Nat.le_of_ble_eq_true rfl, Nat.le_of_ble_eq_true rfl⟩) hS hFc hFc rfl (fun t H locs ht hB hk1 hS => ?_)
          obtain ⟨hP1, hD1⟩ := hB
          rw [ht] at hP1
          replace hP := z0 hP hD hk1 hP1 hI1
          clear hk1 hPc hDc hFc hP1 hD1 ht hI1
          obtain ⟨hP, hD⟩ := pl_bk (X := [_, _, _]) hT_2 hP rfl hc9_2 hD0_2 rfl
          refine lv_astore (lv' := [(5, .ref r3), (4, .null), (0, .ref x), (1, .int (nI f0)), (2, .int (nI g0)), (3, .int wv)]) hx hb dX10_near_18 hl (Nat.le_of_ble_eq_true rfl) rfl (fun ls hl => ?_)
          refine lv_aloadN hx hb dX10_near_20 (lv_at hl 1 rfl) ?_
          refine lv_ifnullN (tgt := 39) hx hb dX10_near_22 rfl ?_
          refine lv_ldc2 hx hb hown (hts _ mw_1077) dX10_near_39 ?_
          obtain ⟨hP9, hD9⟩ := zu_part (cx := [_, _, _]) hP hD [true, true, true] rfl rfl
          rw [hQ9]
          exact W.lret (v := (-1)) hx hb hr (fun t ht hW => ⟨⟨rfl, by rw [ht]; exact hP9, hD9⟩, hS.F ht⟩) hS.2.2 dX10_near_42
        · skip
          refine va_get (D := (dC, dI)) (ci := 8) (v := .ref sh) (C := RX10) (T := TX10) (N := 13) hx hb hts inX10 hown hK hP 0 rfl rfl 0 (Nat.le_of_ble_eq_true rfl) (hts _ mw_309) (fun _ h9 => h9) rfl dX10_near_11 ?_
          have hc9_2 : inPl L f [(oc1 fe3 (rk g0) (wd g0) (tw g0) (pa g0) (pb g0) (.ref lo3) (.ref lk3) fm3), (oc4 lk3 (kd g0) (st g0) (.ref r3) (gb g0) (it g0) we3)] := ⟨hfe3, hlk3, trivial⟩
          have hD0_2 := hD
          obtain ⟨T_2, hT_2, hP, hD⟩ := pl_oT hP hD hc9_2 (pwF hfe3.2 hlk3.2)
          obtain ⟨hP, hD⟩ := zre (W2 := ([_, _, _, _, _] ++ va_pl T_2 f)) hP hD rfl
          refine lv_iload_n hx hb dX10_near_14 rfl (lv_at hl 3 rfl) ?_
          obtain ⟨hPc, hDc, hFc, hI1⟩ := zi_sub (wc := [_, _, _, _]) hP hD hS hA [1, 2, 3, 4] (by decide +kernel) rfl
          refine zcall (st1 := [.null]) (va_runV (As := [.int (nI g0)]) (rest := []) ⟨hx, hb, hml, hown, hts⟩ (k_Sheet_rowThere_sv l dC dI cI cZ cF H.size sh fa ft FA g0 fe3 lo3 (rk g0) (wd g0) (tw g0) (pa g0) (pb g0) lk3 (kd g0) (st g0) (gb g0) (it g0) we3 fm3 (.ref r3) (h200) (by first | with_reducible assumption | omega) (hFA3) (by first | exact hA3 | omega)) (csV_144 hts rfl rfl ⟨Nat.le_of_ble_eq_true rfl, Nat.le_of_ble_eq_true rfl⟩) (zPV2 (q0 := 0) (ci := 7) hPc hDc hK hXN rfl rfl) rfl rfl hl.1 rfl (lv_room (Nat.le_of_ble_eq_true rfl)) dX10_near_15 ⟨Nat.le_of_ble_eq_true rfl, Nat.le_of_ble_eq_true rfl⟩) hS hFc hFc rfl (fun t H locs ht hB hk1 hS => ?_)
          obtain ⟨hP1, hD1⟩ := hB
          rw [ht] at hP1
          replace hP := z0 hP hD hk1 hP1 hI1
          clear hk1 hPc hDc hFc hP1 hD1 ht hI1
          obtain ⟨hP, hD⟩ := pl_bk (X := [_, _, _]) hT_2 hP rfl hc9_2 hD0_2 rfl
          refine lv_astoreN (lv' := [(5, .null), (4, .null), (0, .ref x), (1, .int (nI f0)), (2, .int (nI g0)), (3, .int wv)]) hx hb dX10_near_18 hl (Nat.le_of_ble_eq_true rfl) rfl (fun ls hl => ?_)
          refine lv_aloadN hx hb dX10_near_20 (lv_at hl 1 rfl) ?_
          refine lv_ifnullN (tgt := 39) hx hb dX10_near_22 rfl ?_
          refine lv_ldc2 hx hb hown (hts _ mw_1077) dX10_near_39 ?_
          obtain ⟨hP9, hD9⟩ := zu_part (cx := [_, _, _]) hP hD [true, true, true] rfl rfl
          rw [hQ9]
          exact W.lret (v := (-1)) hx hb hr (fun t ht hW => ⟨⟨rfl, by rw [ht]; exact hP9, hD9⟩, hS.F ht⟩) hS.2.2 dX10_near_42
end
section
set_option maxHeartbeats 4000000 in
set_option maxRecDepth 100000 in
theorem k_told_a (l : Launch) (dC : Nat → ClassId) (dI : Nat → Nat → Nat) (cI cZ cF : ClassId) (sz : Nat) (x : Nat) (sh : Nat) (lw : Nat) (ro : Nat) (bq : Nat) (bp : Nat) (dq : Nat) (dp : Nat) (lv : Nat) (sl : Nat) (sd : Int32) (ul : Int32) (su : Int32) (ds : Int32) (fa : Nat) (ft : Nat) (FA : Nat → Option Nat) (f0 : Nat) (L : List Nat) (f : Nat → va_E) (kd : Nat → Int32) (st : Nat → Int32) (tn : Nat → Int32) (mn : Nat → Int32) (cx : Nat → Int32) (cy : Nat → Int32) (rk : Nat → Int32) (wd : Nat → Int32) (tw : Nat → Int32) (pa : Nat → Int32) (pb : Nat → Int32) (gb : Nat → Int32) (it : Nat → Int32) (w : Int32) (h200 : ft ≤ 200) (hf0 : f0 < ft) (hva : ∀ q, q < ft → vwA cI L f FA rk wd tw pa pb kd st gb it tn mn cx cy q) : Met l yX10_told (.code yX10_told cX10_told 4 (some .int) :: ws0) ({ frames := 1, cells := 0, slots := 0, locals := 21 } : Room) (va_Pc [.ref x, .int (nI f0), .int w] (zPre (dC, dI) classes (zTy cI cZ cF) ([(oc8 x (.ref sh) (.ref lw) (.ref ro) (.ref bq) (.ref bp) (.ref dq) (.ref dp) (.ref lv) (.ref sl) ds sd ul su), (oc7 sh (.ref fa) (nI ft)), (oq fa cF 200 FA)] ++ va_pl L f) sz zXN)) (zQe (fun v9 t => ∃ (b9 : Int32), v9 = (some (.int b9)) ∧ va_P (dC, dI) classes ([(oc8 x (.ref sh) (.ref lw) (.ref ro) (.ref bq) (.ref bp) (.ref dq) (.ref dp) (.ref lv) (.ref sl) ds sd ul su), (oc7 sh (.ref fa) (nI ft)), (oq fa cF 200 FA)] ++ va_pl L f) t.heap ∧ va_D (va_A ([(oc8 x (.ref sh) (.ref lw) (.ref ro) (.ref bq) (.ref bp) (.ref dq) (.ref dp) (.ref lv) (.ref sl) ds sd ul su), (oc7 sh (.ref fa) (nI ft)), (oq fa cF 200 FA)] ++ va_pl L f) sz) ([(oc8 x (.ref sh) (.ref lw) (.ref ro) (.ref bq) (.ref bp) (.ref dq) (.ref dp) (.ref lv) (.ref sl) ds sd ul su), (oc7 sh (.ref fa) (nI ft)), (oq fa cF 200 FA)] ++ va_pl L f)) (va_A ([(oc8 x (.ref sh) (.ref lw) (.ref ro) (.ref bq) (.ref bp) (.ref dq) (.ref dp) (.ref lv) (.ref sl) ds sd ul su), (oc7 sh (.ref fa) (nI ft)), (oq fa cF 200 FA)] ++ va_pl L f) sz)) 0 0 (va_A ([(oc8 x (.ref sh) (.ref lw) (.ref ro) (.ref bq) (.ref bp) (.ref dq) (.ref dp) (.ref lv) (.ref sl) ds sd ul su), (oc7 sh (.ref fa) (nI ft)), (oq fa cF 200 FA)] ++ va_pl L f) sz) := by
  refine Met.ofW (cc := cX10_told) (maxL := 4) (ret := (some .int)) rfl rfl ?_
  intro p e s m args below meth c s₁ B hml hv
  obtain ⟨rfl, hsz, hP, hK, hD0, hXN⟩ := hv
  have hx := B.exec
  have hb := B.bytes
  have hr := B.returns
  have hts0 := atoms_spec (ws := .code yX10_told cX10_told 4 (some .int) :: ws0) B.pre
  have hts : ∀ w9 ∈ ws0, w9.before ([.ref x, .int (nI f0), .int w] : List Value).toArray s = true := fun w9 h => hts0 w9 (List.mem_cons_of_mem _ h)
  have hown : s.vm.findClass "ScaleShop" = some m.cls := findClass_of_methodNamed B.named
  have hlocks := B.notSynchronized
  subst hsz
  have hD := hD0.self (sz := s.heap.size)
  clear hD0
  generalize hAe : va_A ([(oc8 x (.ref sh) (.ref lw) (.ref ro) (.ref bq) (.ref bp) (.ref dq) (.ref dp) (.ref lv) (.ref sl) ds sd ul su), (oc7 sh (.ref fa) (nI ft)), (oq fa cF 200 FA)] ++ va_pl L f) s.heap.size = A at hD ⊢
  have hA : ∀ q : Nat, s.heap.size ≤ q → A q := fun q h => by rw [← hAe]; exact Or.inr h
  clear hAe
  have hS : va_S A s.heap s.heap [] := va_S.rf
  have hP : va_P (dC, dI) classes ([(oc8 x (.ref sh) (.ref lw) (.ref ro) (.ref bq) (.ref bp) (.ref dq) (.ref dp) (.ref lv) (.ref sl) ds sd ul su), (oc7 sh (.ref fa) (nI ft)), (oq fa cF 200 FA)] ++ va_pl L f) s.heap := hP
  obtain ⟨Q9, hQ9⟩ : ∃ Q9 : State → Prop, Q9 = MQ below (zQe (fun v9 t => ∃ (b9 : Int32), v9 = (some (.int b9)) ∧ va_P (dC, dI) classes ([(oc8 x (.ref sh) (.ref lw) (.ref ro) (.ref bq) (.ref bp) (.ref dq) (.ref dp) (.ref lv) (.ref sl) ds sd ul su), (oc7 sh (.ref fa) (nI ft)), (oq fa cF 200 FA)] ++ va_pl L f) t.heap ∧ va_D A ([(oc8 x (.ref sh) (.ref lw) (.ref ro) (.ref bq) (.ref bp) (.ref dq) (.ref dp) (.ref lv) (.ref sl) ds sd ul su), (oc7 sh (.ref fa) (nI ft)), (oq fa cF 200 FA)] ++ va_pl L f)) A) ([.ref x, .int (nI f0), .int w] : List Value).toArray s 0 0 A := ⟨_, rfl⟩
  rw [← hQ9]
  have hl := lv_entry ([.ref x, .int (nI f0), .int w]) (n := 4) (Nat.le_of_ble_eq_true rfl)
  rw [lg_entry_eq]
  generalize (lg_sl ([.ref x, .int (nI f0), .int w]) ++ List.replicate (4 - (lg_sl ([.ref x, .int (nI f0), .int w])).length) Slot.unset).toArray = ls at hl ⊢
  have hl : lv_has ls 4 [(0, .ref x), (1, .int (nI f0)), (2, .int w)] := hl
  rcases vwA_2 (hva f0 (by omega)) with ⟨ht2, fe2, lk2, lo2, we2, fm2, hFA2, hfe2, hlk2⟩ | ⟨ht2, fe2, lk2, lo2, we2, fm2, r2, rx2, ry2, cap2, U2, V2, rg2, hFA2, hfe2, hlk2, ⟨hr2, hrx2, hry2, hne2⟩, hrr2⟩
  · skip
    have hc9_1 : inPl L f [(oc1 fe2 (rk f0) (wd f0) (tw f0) (pa f0) (pb f0) (.ref lo2) (.ref lk2) fm2), (oc4 lk2 (kd f0) (st f0) .null (gb f0) (it f0) we2)] := ⟨hfe2, hlk2, trivial⟩
    have hD0_1 := hD
    obtain ⟨T_1, hT_1, hP, hD⟩ := pl_oT hP hD hc9_1 (pwF hfe2.2 hlk2.2)
    obtain ⟨hP, hD⟩ := zre (W2 := ([_, _, _, _, _] ++ va_pl T_1 f)) hP hD rfl
    refine lv_aload_n hx hb dX10_told_0 rfl (lv_at hl 0 rfl) ?_
    refine va_get (D := (dC, dI)) (ci := 8) (v := .ref sh) (C := RX10) (T := TX10) (N := 13) hx hb hts inX10 hown hK hP 0 rfl rfl 0 (Nat.le_of_ble_eq_true rfl) (hts _ mw_309) (fun _ h9 => h9) rfl dX10_told_1 ?_
    refine lv_iload_n hx hb dX10_told_4 rfl (lv_at hl 1 rfl) ?_
    obtain ⟨hPc, hDc, hFc, hI1⟩ := zi_sub (wc := [_, _]) hP hD hS hA [1, 2] rfl rfl
    refine zcall (st1 := [.ref fe2]) (va_runV (As := [.int (nI f0)]) (rest := []) ⟨hx, hb, hml, hown, hts⟩ (k_Sheet_find l dC dI cI cZ cF s.heap.size sh fa ft FA f0 fe2 (by first | with_reducible assumption | omega) (by first | with_reducible assumption | omega) (hFA2)) (csV_94 hts rfl rfl ⟨Nat.le_of_ble_eq_true rfl, Nat.le_of_ble_eq_true rfl⟩) (zPV2 (q0 := 0) (ci := 7) hPc hDc hK hXN rfl rfl) rfl rfl hl.1 rfl (lv_room (Nat.le_of_ble_eq_true rfl)) dX10_told_5 ⟨Nat.le_of_ble_eq_true rfl, Nat.le_of_ble_eq_true rfl⟩) hS hFc hFc rfl (fun t H locs ht hB hk1 hS => ?_)
    obtain ⟨hP1, hD1⟩ := hB
    rw [ht] at hP1
    replace hP := z0 hP hD hk1 hP1 hI1
    clear hk1 hPc hDc hFc hP1 hD1 ht hI1
    refine lv_astore_n (lv' := [(3, .ref fe2), (0, .ref x), (1, .int (nI f0)), (2, .int w)]) hx hb dX10_told_8 rfl hl (Nat.le_of_ble_eq_true rfl) rfl (fun ls hl => ?_)
    refine lv_aload_n hx hb dX10_told_9 rfl (lv_at hl 0 rfl) ?_
    refine lv_ifnonnull (tgt := 15) hx hb dX10_told_10 rfl ?_
    refine lv_iload_n hx hb dX10_told_15 rfl (lv_at hl 3 rfl) ?_
    rcases zz_sw (lo := 0) (hi := 10) rfl with c_1 | c_1
    · refine lv_tableOut (tgt := 174) hx hb dX10_told_16 c_1.1 (by decide) ?_
      refine lv_iconst (v := (-1)) hx hb dX10_told_174 rfl ?_
      obtain ⟨hP, hD⟩ := pl_bk (X := [_, _, _]) hT_1 hP rfl hc9_1 hD0_1 rfl
      obtain ⟨hP9, hD9⟩ := zu_part (cx := [_, _, _]) hP hD [true, true, true] rfl rfl
      rw [hQ9]
      exact W.iret (v := (-1)) hx hb hr (fun t ht hW => ⟨⟨_, rfl, (-1), rfl, by rw [ht]; exact hP9, hD9⟩, hS.F ht⟩) hS.2.2 dX10_told_175
    · by_cases c_2 : w.toInt = 0
      · refine lv_tableIn (tgt := 76) (off := 60) hx hb dX10_told_16 c_1.2.1 c_1.2.2 (by rw [show (w).toInt = 0 from (rfl).trans c_2]; rfl) (by decide) ?_
        refine lv_aload_n hx hb dX10_told_76 rfl (lv_at hl 0 rfl) ?_
        refine va_get (D := (dC, dI)) (ci := 1) (v := .ref lk2) (C := RX2) (T := TX2) (N := 8) hx hb hts inX2 hown hK hP 3 rfl rfl 6 (Nat.le_of_ble_eq_true rfl) (hts _ mw_433) (fun _ h9 => h9) rfl dX10_told_77 ?_
        refine va_get (D := (dC, dI)) (ci := 4) (v := .int (kd f0)) (C := RX5) (T := TX5) (N := 6) hx hb hts inX5 hown hK hP 4 rfl rfl 0 (Nat.le_of_ble_eq_true rfl) (hts _ mw_381) (fun _ h9 => h9) rfl dX10_told_80 ?_
        obtain ⟨hP, hD⟩ := pl_bk (X := [_, _, _]) hT_1 hP rfl hc9_1 hD0_1 rfl
        obtain ⟨hP9, hD9⟩ := zu_part (cx := [_, _, _]) hP hD [true, true, true] rfl rfl
        rw [hQ9]
        exact W.iret (v := kd f0) hx hb hr (fun t ht hW => ⟨⟨_, rfl, (kd f0), rfl, by rw [ht]; exact hP9, hD9⟩, hS.F ht⟩) hS.2.2 dX10_told_83
      by_cases c_3 : w.toInt = 1
      · refine lv_tableIn (tgt := 84) (off := 68) hx hb dX10_told_16 c_1.2.1 c_1.2.2 (by rw [show (w).toInt = 1 from (rfl).trans c_3]; rfl) (by decide) ?_
        refine lv_aload_n hx hb dX10_told_84 rfl (lv_at hl 0 rfl) ?_
        refine va_get (D := (dC, dI)) (ci := 1) (v := .int (rk f0)) (C := RX2) (T := TX2) (N := 8) hx hb hts inX2 hown hK hP 3 rfl rfl 0 (Nat.le_of_ble_eq_true rfl) (hts _ mw_417) (fun _ h9 => h9) rfl dX10_told_85 ?_
        obtain ⟨hP, hD⟩ := pl_bk (X := [_, _, _]) hT_1 hP rfl hc9_1 hD0_1 rfl
        obtain ⟨hP9, hD9⟩ := zu_part (cx := [_, _, _]) hP hD [true, true, true] rfl rfl
        rw [hQ9]
        exact W.iret (v := rk f0) hx hb hr (fun t ht hW => ⟨⟨_, rfl, (rk f0), rfl, by rw [ht]; exact hP9, hD9⟩, hS.F ht⟩) hS.2.2 dX10_told_88
      by_cases c_4 : w.toInt = 2
      · refine lv_tableIn (tgt := 89) (off := 73) hx hb dX10_told_16 c_1.2.1 c_1.2.2 (by rw [show (w).toInt = 2 from (rfl).trans c_4]; rfl) (by decide) ?_
        refine lv_aload_n hx hb dX10_told_89 rfl (lv_at hl 0 rfl) ?_
        refine va_get (D := (dC, dI)) (ci := 1) (v := .int (wd f0)) (C := RX2) (T := TX2) (N := 8) hx hb hts inX2 hown hK hP 3 rfl rfl 1 (Nat.le_of_ble_eq_true rfl) (hts _ mw_419) (fun _ h9 => h9) rfl dX10_told_90 ?_
        obtain ⟨hP, hD⟩ := pl_bk (X := [_, _, _]) hT_1 hP rfl hc9_1 hD0_1 rfl
        obtain ⟨hP9, hD9⟩ := zu_part (cx := [_, _, _]) hP hD [true, true, true] rfl rfl
        rw [hQ9]
        exact W.iret (v := wd f0) hx hb hr (fun t ht hW => ⟨⟨_, rfl, (wd f0), rfl, by rw [ht]; exact hP9, hD9⟩, hS.F ht⟩) hS.2.2 dX10_told_93
      by_cases c_5 : w.toInt = 3
      · refine lv_tableIn (tgt := 94) (off := 78) hx hb dX10_told_16 c_1.2.1 c_1.2.2 (by rw [show (w).toInt = 3 from (rfl).trans c_5]; rfl) (by decide) ?_
        refine lv_aload_n hx hb dX10_told_94 rfl (lv_at hl 0 rfl) ?_
        refine va_get (D := (dC, dI)) (ci := 1) (v := .int (tw f0)) (C := RX2) (T := TX2) (N := 8) hx hb hts inX2 hown hK hP 3 rfl rfl 2 (Nat.le_of_ble_eq_true rfl) (hts _ mw_421) (fun _ h9 => h9) rfl dX10_told_95 ?_
        obtain ⟨hP, hD⟩ := pl_bk (X := [_, _, _]) hT_1 hP rfl hc9_1 hD0_1 rfl
        obtain ⟨hP9, hD9⟩ := zu_part (cx := [_, _, _]) hP hD [true, true, true] rfl rfl
        rw [hQ9]
        exact W.iret (v := tw f0) hx hb hr (fun t ht hW => ⟨⟨_, rfl, (tw f0), rfl, by rw [ht]; exact hP9, hD9⟩, hS.F ht⟩) hS.2.2 dX10_told_98
      by_cases c_6 : w.toInt = 4
      · refine lv_tableIn (tgt := 99) (off := 83) hx hb dX10_told_16 c_1.2.1 c_1.2.2 (by rw [show (w).toInt = 4 from (rfl).trans c_6]; rfl) (by decide) ?_
        refine lv_aload_n hx hb dX10_told_99 rfl (lv_at hl 0 rfl) ?_
        refine va_get (D := (dC, dI)) (ci := 1) (v := .ref lk2) (C := RX2) (T := TX2) (N := 8) hx hb hts inX2 hown hK hP 3 rfl rfl 6 (Nat.le_of_ble_eq_true rfl) (hts _ mw_433) (fun _ h9 => h9) rfl dX10_told_100 ?_
        refine va_get (D := (dC, dI)) (ci := 4) (v := .null) (C := RX5) (T := TX5) (N := 6) hx hb hts inX5 hown hK hP 4 rfl rfl 2 (Nat.le_of_ble_eq_true rfl) (hts _ mw_391) (fun _ h9 => h9) rfl dX10_told_103 ?_
        refine lv_ifnonnullN hx hb dX10_told_106 ?_
        refine lv_iconst (v := 0) hx hb dX10_told_109 rfl ?_
        refine lv_goto (tgt := 123) hx hb dX10_told_110 rfl ?_
        obtain ⟨hP, hD⟩ := pl_bk (X := [_, _, _]) hT_1 hP rfl hc9_1 hD0_1 rfl
        obtain ⟨hP9, hD9⟩ := zu_part (cx := [_, _, _]) hP hD [true, true, true] rfl rfl
        rw [hQ9]
        exact W.iret (v := 0) hx hb hr (fun t ht hW => ⟨⟨_, rfl, 0, rfl, by rw [ht]; exact hP9, hD9⟩, hS.F ht⟩) hS.2.2 dX10_told_123
      by_cases c_7 : w.toInt = 5
      · refine lv_tableIn (tgt := 124) (off := 108) hx hb dX10_told_16 c_1.2.1 c_1.2.2 (by rw [show (w).toInt = 5 from (rfl).trans c_7]; rfl) (by decide) ?_
        refine lv_aload_n hx hb dX10_told_124 rfl (lv_at hl 0 rfl) ?_
        refine va_get (D := (dC, dI)) (ci := 1) (v := .ref lk2) (C := RX2) (T := TX2) (N := 8) hx hb hts inX2 hown hK hP 3 rfl rfl 6 (Nat.le_of_ble_eq_true rfl) (hts _ mw_433) (fun _ h9 => h9) rfl dX10_told_125 ?_
        refine va_get (D := (dC, dI)) (ci := 4) (v := .int (st f0)) (C := RX5) (T := TX5) (N := 6) hx hb hts inX5 hown hK hP 4 rfl rfl 1 (Nat.le_of_ble_eq_true rfl) (hts _ mw_385) (fun _ h9 => h9) rfl dX10_told_128 ?_
        obtain ⟨hP, hD⟩ := pl_bk (X := [_, _, _]) hT_1 hP rfl hc9_1 hD0_1 rfl
        obtain ⟨hP9, hD9⟩ := zu_part (cx := [_, _, _]) hP hD [true, true, true] rfl rfl
        rw [hQ9]
        exact W.iret (v := st f0) hx hb hr (fun t ht hW => ⟨⟨_, rfl, (st f0), rfl, by rw [ht]; exact hP9, hD9⟩, hS.F ht⟩) hS.2.2 dX10_told_131
      by_cases c_8 : w.toInt = 6
      · refine lv_tableIn (tgt := 132) (off := 116) hx hb dX10_told_16 c_1.2.1 c_1.2.2 (by rw [show (w).toInt = 6 from (rfl).trans c_8]; rfl) (by decide) ?_
        refine lv_aload_n hx hb dX10_told_132 rfl (lv_at hl 0 rfl) ?_
        refine va_get (D := (dC, dI)) (ci := 1) (v := .ref lk2) (C := RX2) (T := TX2) (N := 8) hx hb hts inX2 hown hK hP 3 rfl rfl 6 (Nat.le_of_ble_eq_true rfl) (hts _ mw_433) (fun _ h9 => h9) rfl dX10_told_133 ?_
        refine va_get (D := (dC, dI)) (ci := 4) (v := .null) (C := RX5) (T := TX5) (N := 6) hx hb hts inX5 hown hK hP 4 rfl rfl 2 (Nat.le_of_ble_eq_true rfl) (hts _ mw_391) (fun _ h9 => h9) rfl dX10_told_136 ?_
        refine lv_ifnonnullN hx hb dX10_told_139 ?_
        refine lv_iconst (v := 1) hx hb dX10_told_142 rfl ?_
        refine lv_goto (tgt := 147) hx hb dX10_told_143 rfl ?_
        obtain ⟨hP, hD⟩ := pl_bk (X := [_, _, _]) hT_1 hP rfl hc9_1 hD0_1 rfl
        obtain ⟨hP9, hD9⟩ := zu_part (cx := [_, _, _]) hP hD [true, true, true] rfl rfl
        rw [hQ9]
        exact W.iret (v := 1) hx hb hr (fun t ht hW => ⟨⟨_, rfl, 1, rfl, by rw [ht]; exact hP9, hD9⟩, hS.F ht⟩) hS.2.2 dX10_told_147
      by_cases c_9 : w.toInt = 7
      · refine lv_tableIn (tgt := 148) (off := 132) hx hb dX10_told_16 c_1.2.1 c_1.2.2 (by rw [show (w).toInt = 7 from (rfl).trans c_9]; rfl) (by decide) ?_
        refine lv_aload_n hx hb dX10_told_148 rfl (lv_at hl 0 rfl) ?_
        refine va_get (D := (dC, dI)) (ci := 1) (v := .ref lk2) (C := RX2) (T := TX2) (N := 8) hx hb hts inX2 hown hK hP 3 rfl rfl 6 (Nat.le_of_ble_eq_true rfl) (hts _ mw_433) (fun _ h9 => h9) rfl dX10_told_149 ?_
        refine va_get (D := (dC, dI)) (ci := 4) (v := .int (gb f0)) (C := RX5) (T := TX5) (N := 6) hx hb hts inX5 hown hK hP 4 rfl rfl 3 (Nat.le_of_ble_eq_true rfl) (hts _ mw_396) (fun _ h9 => h9) rfl dX10_told_152 ?_
        obtain ⟨hP, hD⟩ := pl_bk (X := [_, _, _]) hT_1 hP rfl hc9_1 hD0_1 rfl
        obtain ⟨hP9, hD9⟩ := zu_part (cx := [_, _, _]) hP hD [true, true, true] rfl rfl
        rw [hQ9]
        exact W.iret (v := gb f0) hx hb hr (fun t ht hW => ⟨⟨_, rfl, (gb f0), rfl, by rw [ht]; exact hP9, hD9⟩, hS.F ht⟩) hS.2.2 dX10_told_155
      by_cases c_10 : w.toInt = 8
      · refine lv_tableIn (tgt := 156) (off := 140) hx hb dX10_told_16 c_1.2.1 c_1.2.2 (by rw [show (w).toInt = 8 from (rfl).trans c_10]; rfl) (by decide) ?_
        refine lv_aload_n hx hb dX10_told_156 rfl (lv_at hl 0 rfl) ?_
        refine va_get (D := (dC, dI)) (ci := 1) (v := .int (pa f0)) (C := RX2) (T := TX2) (N := 8) hx hb hts inX2 hown hK hP 3 rfl rfl 3 (Nat.le_of_ble_eq_true rfl) (hts _ mw_423) (fun _ h9 => h9) rfl dX10_told_157 ?_
        obtain ⟨hP, hD⟩ := pl_bk (X := [_, _, _]) hT_1 hP rfl hc9_1 hD0_1 rfl
        obtain ⟨hP9, hD9⟩ := zu_part (cx := [_, _, _]) hP hD [true, true, true] rfl rfl
        rw [hQ9]
        exact W.iret (v := pa f0) hx hb hr (fun t ht hW => ⟨⟨_, rfl, (pa f0), rfl, by rw [ht]; exact hP9, hD9⟩, hS.F ht⟩) hS.2.2 dX10_told_160
      by_cases c_11 : w.toInt = 9
      · refine lv_tableIn (tgt := 161) (off := 145) hx hb dX10_told_16 c_1.2.1 c_1.2.2 (by rw [show (w).toInt = 9 from (rfl).trans c_11]; rfl) (by decide) ?_
        refine lv_aload_n hx hb dX10_told_161 rfl (lv_at hl 0 rfl) ?_
        refine va_get (D := (dC, dI)) (ci := 1) (v := .int (pb f0)) (C := RX2) (T := TX2) (N := 8) hx hb hts inX2 hown hK hP 3 rfl rfl 4 (Nat.le_of_ble_eq_true rfl) (hts _ mw_425) (fun _ h9 => h9) rfl dX10_told_162 ?_
        obtain ⟨hP, hD⟩ := pl_bk (X := [_, _, _]) hT_1 hP rfl hc9_1 hD0_1 rfl
        obtain ⟨hP9, hD9⟩ := zu_part (cx := [_, _, _]) hP hD [true, true, true] rfl rfl
        rw [hQ9]
        exact W.iret (v := pb f0) hx hb hr (fun t ht hW => ⟨⟨_, rfl, (pb f0), rfl, by rw [ht]; exact hP9, hD9⟩, hS.F ht⟩) hS.2.2 dX10_told_165
      by_cases c_12 : w.toInt = 10
      · refine lv_tableIn (tgt := 166) (off := 150) hx hb dX10_told_16 c_1.2.1 c_1.2.2 (by rw [show (w).toInt = 10 from (rfl).trans c_12]; rfl) (by decide) ?_
        refine lv_aload_n hx hb dX10_told_166 rfl (lv_at hl 0 rfl) ?_
        refine va_get (D := (dC, dI)) (ci := 1) (v := .ref lk2) (C := RX2) (T := TX2) (N := 8) hx hb hts inX2 hown hK hP 3 rfl rfl 6 (Nat.le_of_ble_eq_true rfl) (hts _ mw_433) (fun _ h9 => h9) rfl dX10_told_167 ?_
        refine va_get (D := (dC, dI)) (ci := 4) (v := .int (it f0)) (C := RX5) (T := TX5) (N := 6) hx hb hts inX5 hown hK hP 4 rfl rfl 4 (Nat.le_of_ble_eq_true rfl) (hts _ mw_398) (fun _ h9 => h9) rfl dX10_told_170 ?_
        obtain ⟨hP, hD⟩ := pl_bk (X := [_, _, _]) hT_1 hP rfl hc9_1 hD0_1 rfl
        obtain ⟨hP9, hD9⟩ := zu_part (cx := [_, _, _]) hP hD [true, true, true] rfl rfl
        rw [hQ9]
        exact W.iret (v := it f0) hx hb hr (fun t ht hW => ⟨⟨_, rfl, (it f0), rfl, by rw [ht]; exact hP9, hD9⟩, hS.F ht⟩) hS.2.2 dX10_told_173
      exfalso; omega
  · skip
    have hcap2 := hrr2.1
    have hcap3 := hrr2.2.1
    have hc9_1 : inPl L f [(oc1 fe2 (rk f0) (wd f0) (tw f0) (pa f0) (pb f0) (.ref lo2) (.ref lk2) fm2), (oc4 lk2 (kd f0) (st f0) (.ref r2) (gb f0) (it f0) we2), (oc6 r2 (.ref rx2) (.ref ry2) (nI (nN (mn f0))) rg2), (oa rx2 cI cap2 U2), (oa ry2 cI cap2 V2)] := ⟨hfe2, hlk2, hr2, hrx2, hry2, trivial⟩
    have hD0_1 := hD
    obtain ⟨T_1, hT_1, hP, hD⟩ := pl_oT hP hD hc9_1 (pwR hfe2.2 hlk2.2 hr2.2 hrx2.2 hry2.2 hne2)
    obtain ⟨hP, hD⟩ := zre (W2 := ([_, _, _, _, _, _, _, _] ++ va_pl T_1 f)) hP hD rfl
    refine lv_aload_n hx hb dX10_told_0 rfl (lv_at hl 0 rfl) ?_
    refine va_get (D := (dC, dI)) (ci := 8) (v := .ref sh) (C := RX10) (T := TX10) (N := 13) hx hb hts inX10 hown hK hP 0 rfl rfl 0 (Nat.le_of_ble_eq_true rfl) (hts _ mw_309) (fun _ h9 => h9) rfl dX10_told_1 ?_
    refine lv_iload_n hx hb dX10_told_4 rfl (lv_at hl 1 rfl) ?_
    obtain ⟨hPc, hDc, hFc, hI1⟩ := zi_sub (wc := [_, _]) hP hD hS hA [1, 2] rfl rfl
    refine zcall (st1 := [.ref fe2]) (va_runV (As := [.int (nI f0)]) (rest := []) ⟨hx, hb, hml, hown, hts⟩ (k_Sheet_find l dC dI cI cZ cF s.heap.size sh fa ft FA f0 fe2 (by first | with_reducible assumption | omega) (by first | with_reducible assumption | omega) (hFA2)) (csV_94 hts rfl rfl ⟨Nat.le_of_ble_eq_true rfl, Nat.le_of_ble_eq_true rfl⟩) (zPV2 (q0 := 0) (ci := 7) hPc hDc hK hXN rfl rfl) rfl rfl hl.1 rfl (lv_room (Nat.le_of_ble_eq_true rfl)) dX10_told_5 ⟨Nat.le_of_ble_eq_true rfl, Nat.le_of_ble_eq_true rfl⟩) hS hFc hFc rfl (fun t H locs ht hB hk1 hS => ?_)
    obtain ⟨hP1, hD1⟩ := hB
    rw [ht] at hP1
    replace hP := z0 hP hD hk1 hP1 hI1
    clear hk1 hPc hDc hFc hP1 hD1 ht hI1
    refine lv_astore_n (lv' := [(3, .ref fe2), (0, .ref x), (1, .int (nI f0)), (2, .int w)]) hx hb dX10_told_8 rfl hl (Nat.le_of_ble_eq_true rfl) rfl (fun ls hl => ?_)
    refine lv_aload_n hx hb dX10_told_9 rfl (lv_at hl 0 rfl) ?_
    refine lv_ifnonnull (tgt := 15) hx hb dX10_told_10 rfl ?_
    refine lv_iload_n hx hb dX10_told_15 rfl (lv_at hl 3 rfl) ?_
    rcases zz_sw (lo := 0) (hi := 10) rfl with c_13 | c_13
    · refine lv_tableOut (tgt := 174) hx hb dX10_told_16 c_13.1 (by decide) ?_
      refine lv_iconst (v := (-1)) hx hb dX10_told_174 rfl ?_
      obtain ⟨hP, hD⟩ := pl_bk (X := [_, _, _]) hT_1 hP rfl hc9_1 hD0_1 rfl
      obtain ⟨hP9, hD9⟩ := zu_part (cx := [_, _, _]) hP hD [true, true, true] rfl rfl
      rw [hQ9]
      exact W.iret (v := (-1)) hx hb hr (fun t ht hW => ⟨⟨_, rfl, (-1), rfl, by rw [ht]; exact hP9, hD9⟩, hS.F ht⟩) hS.2.2 dX10_told_175
    · by_cases c_14 : w.toInt = 0
      · refine lv_tableIn (tgt := 76) (off := 60) hx hb dX10_told_16 c_13.2.1 c_13.2.2 (by rw [show (w).toInt = 0 from (rfl).trans c_14]; rfl) (by decide) ?_
        refine lv_aload_n hx hb dX10_told_76 rfl (lv_at hl 0 rfl) ?_
        refine va_get (D := (dC, dI)) (ci := 1) (v := .ref lk2) (C := RX2) (T := TX2) (N := 8) hx hb hts inX2 hown hK hP 3 rfl rfl 6 (Nat.le_of_ble_eq_true rfl) (hts _ mw_433) (fun _ h9 => h9) rfl dX10_told_77 ?_
        refine va_get (D := (dC, dI)) (ci := 4) (v := .int (kd f0)) (C := RX5) (T := TX5) (N := 6) hx hb hts inX5 hown hK hP 4 rfl rfl 0 (Nat.le_of_ble_eq_true rfl) (hts _ mw_381) (fun _ h9 => h9) rfl dX10_told_80 ?_
        obtain ⟨hP, hD⟩ := pl_bk (X := [_, _, _]) hT_1 hP rfl hc9_1 hD0_1 rfl
        obtain ⟨hP9, hD9⟩ := zu_part (cx := [_, _, _]) hP hD [true, true, true] rfl rfl
        rw [hQ9]
        exact W.iret (v := kd f0) hx hb hr (fun t ht hW => ⟨⟨_, rfl, (kd f0), rfl, by rw [ht]; exact hP9, hD9⟩, hS.F ht⟩) hS.2.2 dX10_told_83
      by_cases c_15 : w.toInt = 1
      · refine lv_tableIn (tgt := 84) (off := 68) hx hb dX10_told_16 c_13.2.1 c_13.2.2 (by rw [show (w).toInt = 1 from (rfl).trans c_15]; rfl) (by decide) ?_
        refine lv_aload_n hx hb dX10_told_84 rfl (lv_at hl 0 rfl) ?_
        refine va_get (D := (dC, dI)) (ci := 1) (v := .int (rk f0)) (C := RX2) (T := TX2) (N := 8) hx hb hts inX2 hown hK hP 3 rfl rfl 0 (Nat.le_of_ble_eq_true rfl) (hts _ mw_417) (fun _ h9 => h9) rfl dX10_told_85 ?_
        obtain ⟨hP, hD⟩ := pl_bk (X := [_, _, _]) hT_1 hP rfl hc9_1 hD0_1 rfl
        obtain ⟨hP9, hD9⟩ := zu_part (cx := [_, _, _]) hP hD [true, true, true] rfl rfl
        rw [hQ9]
        exact W.iret (v := rk f0) hx hb hr (fun t ht hW => ⟨⟨_, rfl, (rk f0), rfl, by rw [ht]; exact hP9, hD9⟩, hS.F ht⟩) hS.2.2 dX10_told_88
      by_cases c_16 : w.toInt = 2
      · refine lv_tableIn (tgt := 89) (off := 73) hx hb dX10_told_16 c_13.2.1 c_13.2.2 (by rw [show (w).toInt = 2 from (rfl).trans c_16]; rfl) (by decide) ?_
        refine lv_aload_n hx hb dX10_told_89 rfl (lv_at hl 0 rfl) ?_
        refine va_get (D := (dC, dI)) (ci := 1) (v := .int (wd f0)) (C := RX2) (T := TX2) (N := 8) hx hb hts inX2 hown hK hP 3 rfl rfl 1 (Nat.le_of_ble_eq_true rfl) (hts _ mw_419) (fun _ h9 => h9) rfl dX10_told_90 ?_
        obtain ⟨hP, hD⟩ := pl_bk (X := [_, _, _]) hT_1 hP rfl hc9_1 hD0_1 rfl
        obtain ⟨hP9, hD9⟩ := zu_part (cx := [_, _, _]) hP hD [true, true, true] rfl rfl
        rw [hQ9]
        exact W.iret (v := wd f0) hx hb hr (fun t ht hW => ⟨⟨_, rfl, (wd f0), rfl, by rw [ht]; exact hP9, hD9⟩, hS.F ht⟩) hS.2.2 dX10_told_93
      by_cases c_17 : w.toInt = 3
      · refine lv_tableIn (tgt := 94) (off := 78) hx hb dX10_told_16 c_13.2.1 c_13.2.2 (by rw [show (w).toInt = 3 from (rfl).trans c_17]; rfl) (by decide) ?_
        refine lv_aload_n hx hb dX10_told_94 rfl (lv_at hl 0 rfl) ?_
        refine va_get (D := (dC, dI)) (ci := 1) (v := .int (tw f0)) (C := RX2) (T := TX2) (N := 8) hx hb hts inX2 hown hK hP 3 rfl rfl 2 (Nat.le_of_ble_eq_true rfl) (hts _ mw_421) (fun _ h9 => h9) rfl dX10_told_95 ?_
        obtain ⟨hP, hD⟩ := pl_bk (X := [_, _, _]) hT_1 hP rfl hc9_1 hD0_1 rfl
        obtain ⟨hP9, hD9⟩ := zu_part (cx := [_, _, _]) hP hD [true, true, true] rfl rfl
        rw [hQ9]
        exact W.iret (v := tw f0) hx hb hr (fun t ht hW => ⟨⟨_, rfl, (tw f0), rfl, by rw [ht]; exact hP9, hD9⟩, hS.F ht⟩) hS.2.2 dX10_told_98
      by_cases c_18 : w.toInt = 4
      · refine lv_tableIn (tgt := 99) (off := 83) hx hb dX10_told_16 c_13.2.1 c_13.2.2 (by rw [show (w).toInt = 4 from (rfl).trans c_18]; rfl) (by decide) ?_
        refine lv_aload_n hx hb dX10_told_99 rfl (lv_at hl 0 rfl) ?_
        refine va_get (D := (dC, dI)) (ci := 1) (v := .ref lk2) (C := RX2) (T := TX2) (N := 8) hx hb hts inX2 hown hK hP 3 rfl rfl 6 (Nat.le_of_ble_eq_true rfl) (hts _ mw_433) (fun _ h9 => h9) rfl dX10_told_100 ?_
        refine va_get (D := (dC, dI)) (ci := 4) (v := .ref r2) (C := RX5) (T := TX5) (N := 6) hx hb hts inX5 hown hK hP 4 rfl rfl 2 (Nat.le_of_ble_eq_true rfl) (hts _ mw_391) (fun _ h9 => h9) rfl dX10_told_103 ?_
        refine lv_ifnonnull (tgt := 113) hx hb dX10_told_106 rfl ?_
        refine lv_aload_n hx hb dX10_told_113 rfl (lv_at hl 0 rfl) ?_
        refine va_get (D := (dC, dI)) (ci := 1) (v := .ref lk2) (C := RX2) (T := TX2) (N := 8) hx hb hts inX2 hown hK hP 3 rfl rfl 6 (Nat.le_of_ble_eq_true rfl) (hts _ mw_433) (fun _ h9 => h9) rfl dX10_told_114 ?_
        refine va_get (D := (dC, dI)) (ci := 4) (v := .ref r2) (C := RX5) (T := TX5) (N := 6) hx hb hts inX5 hown hK hP 4 rfl rfl 2 (Nat.le_of_ble_eq_true rfl) (hts _ mw_391) (fun _ h9 => h9) rfl dX10_told_117 ?_
        refine va_get (D := (dC, dI)) (ci := 6) (v := .int (nI (nN (mn f0)))) (C := RX7) (T := TX7) (N := 4) hx hb hts inX7 hown hK hP 5 rfl rfl 2 (Nat.le_of_ble_eq_true rfl) (hts _ mw_179) (fun _ h9 => h9) rfl dX10_told_120 ?_
        obtain ⟨hP, hD⟩ := pl_bk (X := [_, _, _]) hT_1 hP rfl hc9_1 hD0_1 rfl
        obtain ⟨hP9, hD9⟩ := zu_part (cx := [_, _, _]) hP hD [true, true, true] rfl rfl
        rw [hQ9]
        exact W.iret (v := nI (nN (mn f0))) hx hb hr (fun t ht hW => ⟨⟨_, rfl, (nI (nN (mn f0))), rfl, by rw [ht]; exact hP9, hD9⟩, hS.F ht⟩) hS.2.2 dX10_told_123
      by_cases c_19 : w.toInt = 5
      · refine lv_tableIn (tgt := 124) (off := 108) hx hb dX10_told_16 c_13.2.1 c_13.2.2 (by rw [show (w).toInt = 5 from (rfl).trans c_19]; rfl) (by decide) ?_
        refine lv_aload_n hx hb dX10_told_124 rfl (lv_at hl 0 rfl) ?_
        refine va_get (D := (dC, dI)) (ci := 1) (v := .ref lk2) (C := RX2) (T := TX2) (N := 8) hx hb hts inX2 hown hK hP 3 rfl rfl 6 (Nat.le_of_ble_eq_true rfl) (hts _ mw_433) (fun _ h9 => h9) rfl dX10_told_125 ?_
        refine va_get (D := (dC, dI)) (ci := 4) (v := .int (st f0)) (C := RX5) (T := TX5) (N := 6) hx hb hts inX5 hown hK hP 4 rfl rfl 1 (Nat.le_of_ble_eq_true rfl) (hts _ mw_385) (fun _ h9 => h9) rfl dX10_told_128 ?_
        obtain ⟨hP, hD⟩ := pl_bk (X := [_, _, _]) hT_1 hP rfl hc9_1 hD0_1 rfl
        obtain ⟨hP9, hD9⟩ := zu_part (cx := [_, _, _]) hP hD [true, true, true] rfl rfl
        rw [hQ9]
        exact W.iret (v := st f0) hx hb hr (fun t ht hW => ⟨⟨_, rfl, (st f0), rfl, by rw [ht]; exact hP9, hD9⟩, hS.F ht⟩) hS.2.2 dX10_told_131
      by_cases c_20 : w.toInt = 6
      · refine lv_tableIn (tgt := 132) (off := 116) hx hb dX10_told_16 c_13.2.1 c_13.2.2 (by rw [show (w).toInt = 6 from (rfl).trans c_20]; rfl) (by decide) ?_
        refine lv_aload_n hx hb dX10_told_132 rfl (lv_at hl 0 rfl) ?_
        refine va_get (D := (dC, dI)) (ci := 1) (v := .ref lk2) (C := RX2) (T := TX2) (N := 8) hx hb hts inX2 hown hK hP 3 rfl rfl 6 (Nat.le_of_ble_eq_true rfl) (hts _ mw_433) (fun _ h9 => h9) rfl dX10_told_133 ?_
        refine va_get (D := (dC, dI)) (ci := 4) (v := .ref r2) (C := RX5) (T := TX5) (N := 6) hx hb hts inX5 hown hK hP 4 rfl rfl 2 (Nat.le_of_ble_eq_true rfl) (hts _ mw_391) (fun _ h9 => h9) rfl dX10_told_136 ?_
        refine lv_ifnonnull (tgt := 146) hx hb dX10_told_139 rfl ?_
        refine lv_iconst (v := 0) hx hb dX10_told_146 rfl ?_
        obtain ⟨hP, hD⟩ := pl_bk (X := [_, _, _]) hT_1 hP rfl hc9_1 hD0_1 rfl
        obtain ⟨hP9, hD9⟩ := zu_part (cx := [_, _, _]) hP hD [true, true, true] rfl rfl
        rw [hQ9]
        exact W.iret (v := 0) hx hb hr (fun t ht hW => ⟨⟨_, rfl, 0, rfl, by rw [ht]; exact hP9, hD9⟩, hS.F ht⟩) hS.2.2 dX10_told_147
      by_cases c_21 : w.toInt = 7
      · refine lv_tableIn (tgt := 148) (off := 132) hx hb dX10_told_16 c_13.2.1 c_13.2.2 (by rw [show (w).toInt = 7 from (rfl).trans c_21]; rfl) (by decide) ?_
        refine lv_aload_n hx hb dX10_told_148 rfl (lv_at hl 0 rfl) ?_
        refine va_get (D := (dC, dI)) (ci := 1) (v := .ref lk2) (C := RX2) (T := TX2) (N := 8) hx hb hts inX2 hown hK hP 3 rfl rfl 6 (Nat.le_of_ble_eq_true rfl) (hts _ mw_433) (fun _ h9 => h9) rfl dX10_told_149 ?_
        refine va_get (D := (dC, dI)) (ci := 4) (v := .int (gb f0)) (C := RX5) (T := TX5) (N := 6) hx hb hts inX5 hown hK hP 4 rfl rfl 3 (Nat.le_of_ble_eq_true rfl) (hts _ mw_396) (fun _ h9 => h9) rfl dX10_told_152 ?_
        obtain ⟨hP, hD⟩ := pl_bk (X := [_, _, _]) hT_1 hP rfl hc9_1 hD0_1 rfl
        obtain ⟨hP9, hD9⟩ := zu_part (cx := [_, _, _]) hP hD [true, true, true] rfl rfl
        rw [hQ9]
        exact W.iret (v := gb f0) hx hb hr (fun t ht hW => ⟨⟨_, rfl, (gb f0), rfl, by rw [ht]; exact hP9, hD9⟩, hS.F ht⟩) hS.2.2 dX10_told_155
      by_cases c_22 : w.toInt = 8
      · refine lv_tableIn (tgt := 156) (off := 140) hx hb dX10_told_16 c_13.2.1 c_13.2.2 (by rw [show (w).toInt = 8 from (rfl).trans c_22]; rfl) (by decide) ?_
        refine lv_aload_n hx hb dX10_told_156 rfl (lv_at hl 0 rfl) ?_
        refine va_get (D := (dC, dI)) (ci := 1) (v := .int (pa f0)) (C := RX2) (T := TX2) (N := 8) hx hb hts inX2 hown hK hP 3 rfl rfl 3 (Nat.le_of_ble_eq_true rfl) (hts _ mw_423) (fun _ h9 => h9) rfl dX10_told_157 ?_
        obtain ⟨hP, hD⟩ := pl_bk (X := [_, _, _]) hT_1 hP rfl hc9_1 hD0_1 rfl
        obtain ⟨hP9, hD9⟩ := zu_part (cx := [_, _, _]) hP hD [true, true, true] rfl rfl
        rw [hQ9]
        exact W.iret (v := pa f0) hx hb hr (fun t ht hW => ⟨⟨_, rfl, (pa f0), rfl, by rw [ht]; exact hP9, hD9⟩, hS.F ht⟩) hS.2.2 dX10_told_160
      by_cases c_23 : w.toInt = 9
      · refine lv_tableIn (tgt := 161) (off := 145) hx hb dX10_told_16 c_13.2.1 c_13.2.2 (by rw [show (w).toInt = 9 from (rfl).trans c_23]; rfl) (by decide) ?_
        refine lv_aload_n hx hb dX10_told_161 rfl (lv_at hl 0 rfl) ?_
        refine va_get (D := (dC, dI)) (ci := 1) (v := .int (pb f0)) (C := RX2) (T := TX2) (N := 8) hx hb hts inX2 hown hK hP 3 rfl rfl 4 (Nat.le_of_ble_eq_true rfl) (hts _ mw_425) (fun _ h9 => h9) rfl dX10_told_162 ?_
        obtain ⟨hP, hD⟩ := pl_bk (X := [_, _, _]) hT_1 hP rfl hc9_1 hD0_1 rfl
        obtain ⟨hP9, hD9⟩ := zu_part (cx := [_, _, _]) hP hD [true, true, true] rfl rfl
        rw [hQ9]
        exact W.iret (v := pb f0) hx hb hr (fun t ht hW => ⟨⟨_, rfl, (pb f0), rfl, by rw [ht]; exact hP9, hD9⟩, hS.F ht⟩) hS.2.2 dX10_told_165
      by_cases c_24 : w.toInt = 10
      · refine lv_tableIn (tgt := 166) (off := 150) hx hb dX10_told_16 c_13.2.1 c_13.2.2 (by rw [show (w).toInt = 10 from (rfl).trans c_24]; rfl) (by decide) ?_
        refine lv_aload_n hx hb dX10_told_166 rfl (lv_at hl 0 rfl) ?_
        refine va_get (D := (dC, dI)) (ci := 1) (v := .ref lk2) (C := RX2) (T := TX2) (N := 8) hx hb hts inX2 hown hK hP 3 rfl rfl 6 (Nat.le_of_ble_eq_true rfl) (hts _ mw_433) (fun _ h9 => h9) rfl dX10_told_167 ?_
        refine va_get (D := (dC, dI)) (ci := 4) (v := .int (it f0)) (C := RX5) (T := TX5) (N := 6) hx hb hts inX5 hown hK hP 4 rfl rfl 4 (Nat.le_of_ble_eq_true rfl) (hts _ mw_398) (fun _ h9 => h9) rfl dX10_told_170 ?_
        obtain ⟨hP, hD⟩ := pl_bk (X := [_, _, _]) hT_1 hP rfl hc9_1 hD0_1 rfl
        obtain ⟨hP9, hD9⟩ := zu_part (cx := [_, _, _]) hP hD [true, true, true] rfl rfl
        rw [hQ9]
        exact W.iret (v := it f0) hx hb hr (fun t ht hW => ⟨⟨_, rfl, (it f0), rfl, by rw [ht]; exact hP9, hD9⟩, hS.F ht⟩) hS.2.2 dX10_told_173
      exfalso; omega
set_option maxHeartbeats 4000000 in
set_option maxRecDepth 100000 in
theorem k_at_a (l : Launch) (dC : Nat → ClassId) (dI : Nat → Nat → Nat) (cI cZ cF : ClassId) (sz : Nat) (x : Nat) (sh : Nat) (lw : Nat) (ro : Nat) (bq : Nat) (bp : Nat) (dq : Nat) (dp : Nat) (lv : Nat) (sl : Nat) (sd : Int32) (ul : Int32) (su : Int32) (ds : Int32) (fa : Nat) (ft : Nat) (FA : Nat → Option Nat) (f0 : Nat) (L : List Nat) (f : Nat → va_E) (kd : Nat → Int32) (st : Nat → Int32) (tn : Nat → Int32) (mn : Nat → Int32) (cx : Nat → Int32) (cy : Nat → Int32) (rk : Nat → Int32) (wd : Nat → Int32) (tw : Nat → Int32) (pa : Nat → Int32) (pb : Nat → Int32) (gb : Nat → Int32) (it : Nat → Int32) (kv : Int32) (w : Int32) (h200 : ft ≤ 200) (hf0 : f0 < ft) (hva : ∀ q, q < ft → vwA cI L f FA rk wd tw pa pb kd st gb it tn mn cx cy q) : Met l yX10_at (.code yX10_at cX10_at 6 (some .int) :: ws0) ({ frames := 1, cells := 0, slots := 0, locals := 22 } : Room) (va_Pc [.ref x, .int (nI f0), .int kv, .int w] (zPre (dC, dI) classes (zTy cI cZ cF) ([(oc8 x (.ref sh) (.ref lw) (.ref ro) (.ref bq) (.ref bp) (.ref dq) (.ref dp) (.ref lv) (.ref sl) ds sd ul su), (oc7 sh (.ref fa) (nI ft)), (oq fa cF 200 FA)] ++ va_pl L f) sz zXN)) (zQe (fun v9 t => ∃ (b9 : Int32), v9 = (some (.int b9)) ∧ va_P (dC, dI) classes ([(oc8 x (.ref sh) (.ref lw) (.ref ro) (.ref bq) (.ref bp) (.ref dq) (.ref dp) (.ref lv) (.ref sl) ds sd ul su), (oc7 sh (.ref fa) (nI ft)), (oq fa cF 200 FA)] ++ va_pl L f) t.heap ∧ va_D (va_A ([(oc8 x (.ref sh) (.ref lw) (.ref ro) (.ref bq) (.ref bp) (.ref dq) (.ref dp) (.ref lv) (.ref sl) ds sd ul su), (oc7 sh (.ref fa) (nI ft)), (oq fa cF 200 FA)] ++ va_pl L f) sz) ([(oc8 x (.ref sh) (.ref lw) (.ref ro) (.ref bq) (.ref bp) (.ref dq) (.ref dp) (.ref lv) (.ref sl) ds sd ul su), (oc7 sh (.ref fa) (nI ft)), (oq fa cF 200 FA)] ++ va_pl L f)) (va_A ([(oc8 x (.ref sh) (.ref lw) (.ref ro) (.ref bq) (.ref bp) (.ref dq) (.ref dp) (.ref lv) (.ref sl) ds sd ul su), (oc7 sh (.ref fa) (nI ft)), (oq fa cF 200 FA)] ++ va_pl L f) sz)) 0 0 (va_A ([(oc8 x (.ref sh) (.ref lw) (.ref ro) (.ref bq) (.ref bp) (.ref dq) (.ref dp) (.ref lv) (.ref sl) ds sd ul su), (oc7 sh (.ref fa) (nI ft)), (oq fa cF 200 FA)] ++ va_pl L f) sz) := by
  refine Met.ofW (cc := cX10_at) (maxL := 6) (ret := (some .int)) rfl rfl ?_
  intro p e s m args below meth c s₁ B hml hv
  obtain ⟨rfl, hsz, hP, hK, hD0, hXN⟩ := hv
  have hx := B.exec
  have hb := B.bytes
  have hr := B.returns
  have hts0 := atoms_spec (ws := .code yX10_at cX10_at 6 (some .int) :: ws0) B.pre
  have hts : ∀ w9 ∈ ws0, w9.before ([.ref x, .int (nI f0), .int kv, .int w] : List Value).toArray s = true := fun w9 h => hts0 w9 (List.mem_cons_of_mem _ h)
  have hown : s.vm.findClass "ScaleShop" = some m.cls := findClass_of_methodNamed B.named
  have hlocks := B.notSynchronized
  subst hsz
  have hD := hD0.self (sz := s.heap.size)
  clear hD0
  generalize hAe : va_A ([(oc8 x (.ref sh) (.ref lw) (.ref ro) (.ref bq) (.ref bp) (.ref dq) (.ref dp) (.ref lv) (.ref sl) ds sd ul su), (oc7 sh (.ref fa) (nI ft)), (oq fa cF 200 FA)] ++ va_pl L f) s.heap.size = A at hD ⊢
  have hA : ∀ q : Nat, s.heap.size ≤ q → A q := fun q h => by rw [← hAe]; exact Or.inr h
  clear hAe
  have hS : va_S A s.heap s.heap [] := va_S.rf
  have hP : va_P (dC, dI) classes ([(oc8 x (.ref sh) (.ref lw) (.ref ro) (.ref bq) (.ref bp) (.ref dq) (.ref dp) (.ref lv) (.ref sl) ds sd ul su), (oc7 sh (.ref fa) (nI ft)), (oq fa cF 200 FA)] ++ va_pl L f) s.heap := hP
  obtain ⟨Q9, hQ9⟩ : ∃ Q9 : State → Prop, Q9 = MQ below (zQe (fun v9 t => ∃ (b9 : Int32), v9 = (some (.int b9)) ∧ va_P (dC, dI) classes ([(oc8 x (.ref sh) (.ref lw) (.ref ro) (.ref bq) (.ref bp) (.ref dq) (.ref dp) (.ref lv) (.ref sl) ds sd ul su), (oc7 sh (.ref fa) (nI ft)), (oq fa cF 200 FA)] ++ va_pl L f) t.heap ∧ va_D A ([(oc8 x (.ref sh) (.ref lw) (.ref ro) (.ref bq) (.ref bp) (.ref dq) (.ref dp) (.ref lv) (.ref sl) ds sd ul su), (oc7 sh (.ref fa) (nI ft)), (oq fa cF 200 FA)] ++ va_pl L f)) A) ([.ref x, .int (nI f0), .int kv, .int w] : List Value).toArray s 0 0 A := ⟨_, rfl⟩
  rw [← hQ9]
  have hl := lv_entry ([.ref x, .int (nI f0), .int kv, .int w]) (n := 6) (Nat.le_of_ble_eq_true rfl)
  rw [lg_entry_eq]
  generalize (lg_sl ([.ref x, .int (nI f0), .int kv, .int w]) ++ List.replicate (6 - (lg_sl ([.ref x, .int (nI f0), .int kv, .int w])).length) Slot.unset).toArray = ls at hl ⊢
  have hl : lv_has ls 6 [(0, .ref x), (1, .int (nI f0)), (2, .int kv), (3, .int w)] := hl
  have e_0 : (0 : Int32).toInt = 0 := (by decide)
  have e_1 : (1 : Int32).toInt = 1 := (by decide)
  rcases vwA_2 (hva f0 (by omega)) with ⟨ht2, fe2, lk2, lo2, we2, fm2, hFA2, hfe2, hlk2⟩ | ⟨ht2, fe2, lk2, lo2, we2, fm2, r2, rx2, ry2, cap2, U2, V2, rg2, hFA2, hfe2, hlk2, ⟨hr2, hrx2, hry2, hne2⟩, hrr2⟩
  · skip
    have hc9_1 : inPl L f [(oc1 fe2 (rk f0) (wd f0) (tw f0) (pa f0) (pb f0) (.ref lo2) (.ref lk2) fm2), (oc4 lk2 (kd f0) (st f0) .null (gb f0) (it f0) we2)] := ⟨hfe2, hlk2, trivial⟩
    have hD0_1 := hD
    obtain ⟨T_1, hT_1, hP, hD⟩ := pl_oT hP hD hc9_1 (pwF hfe2.2 hlk2.2)
    obtain ⟨hP, hD⟩ := zre (W2 := ([_, _, _, _, _] ++ va_pl T_1 f)) hP hD rfl
    refine lv_aload_n hx hb dX10_at_0 rfl (lv_at hl 0 rfl) ?_
    refine va_get (D := (dC, dI)) (ci := 8) (v := .ref sh) (C := RX10) (T := TX10) (N := 13) hx hb hts inX10 hown hK hP 0 rfl rfl 0 (Nat.le_of_ble_eq_true rfl) (hts _ mw_309) (fun _ h9 => h9) rfl dX10_at_1 ?_
    refine lv_iload_n hx hb dX10_at_4 rfl (lv_at hl 1 rfl) ?_
    obtain ⟨hPc, hDc, hFc, hI1⟩ := zi_sub (wc := [_, _]) hP hD hS hA [1, 2] rfl rfl
    refine zcall (st1 := [.ref fe2]) (va_runV (As := [.int (nI f0)]) (rest := []) ⟨hx, hb, hml, hown, hts⟩ (k_Sheet_find l dC dI cI cZ cF s.heap.size sh fa ft FA f0 fe2 (by first | with_reducible assumption | omega) (by first | with_reducible assumption | omega) (hFA2)) (csV_94 hts rfl rfl ⟨Nat.le_of_ble_eq_true rfl, Nat.le_of_ble_eq_true rfl⟩) (zPV2 (q0 := 0) (ci := 7) hPc hDc hK hXN rfl rfl) rfl rfl hl.1 rfl (lv_room (Nat.le_of_ble_eq_true rfl)) dX10_at_5 ⟨Nat.le_of_ble_eq_true rfl, Nat.le_of_ble_eq_true rfl⟩) hS hFc hFc rfl (fun t H locs ht hB hk1 hS => ?_)
    obtain ⟨hP1, hD1⟩ := hB
    rw [ht] at hP1
    replace hP := z0 hP hD hk1 hP1 hI1
    clear hk1 hPc hDc hFc hP1 hD1 ht hI1
    refine lv_astore (lv' := [(4, .ref fe2), (0, .ref x), (1, .int (nI f0)), (2, .int kv), (3, .int w)]) hx hb dX10_at_8 hl (Nat.le_of_ble_eq_true rfl) rfl (fun ls hl => ?_)
    refine lv_aload hx hb dX10_at_10 (lv_at hl 0 rfl) ?_
    refine lv_ifnull hx hb dX10_at_12 ?_
    refine lv_iload_n hx hb dX10_at_15 rfl (lv_at hl 4 rfl) ?_
    refine lv_iconst (v := 0) hx hb dX10_at_16 rfl ?_
    refine lv_iconst (v := 1) hx hb dX10_at_17 rfl ?_
    obtain ⟨hPc, hDc, hFc, hI1⟩ := zi_sub (wc := []) hP hD hS hA [] rfl rfl
    refine zcall (st1 := [.int (pI ((0 : Int32).toInt ≤ w.toInt ∧ w.toInt ≤ (1 : Int32).toInt))]) (va_runS (As := [.int w, .int 0, .int 1]) (rest := []) ⟨hx, hb, hml, hown, hts⟩ (k_isWithin l dC dI cI cZ cF H.size w 0 1 ) (csS_14 hts rfl rfl ⟨Nat.le_of_ble_eq_true rfl, Nat.le_of_ble_eq_true rfl⟩) (zPS2 hPc hDc hK hXN) rfl rfl hl.1 rfl (lv_room (Nat.le_of_ble_eq_true rfl)) dX10_at_18 ⟨Nat.le_of_ble_eq_true rfl, Nat.le_of_ble_eq_true rfl⟩) hS hFc hFc rfl (fun t H locs ht hB hk1 hS => ?_)
    obtain ⟨hP1, hD1⟩ := hB
    rw [ht] at hP1
    replace hP := z0 hP hD hk1 hP1 hI1
    clear hk1 hPc hDc hFc hP1 hD1 ht hI1
    refine lv_if_ne (tgt := 26) hx hb dX10_at_21 rfl (fun c_1 => ?_) (fun c_1 => ?_)
    · have c_1 : (0 : Int32).toInt ≤ w.toInt ∧ w.toInt ≤ (1 : Int32).toInt := zp_1 c_1
      refine lv_aload hx hb dX10_at_26 (lv_at hl 0 rfl) ?_
      refine va_get (D := (dC, dI)) (ci := 1) (v := .ref lk2) (C := RX2) (T := TX2) (N := 8) hx hb hts inX2 hown hK hP 3 rfl rfl 6 (Nat.le_of_ble_eq_true rfl) (hts _ mw_433) (fun _ h9 => h9) rfl dX10_at_28 ?_
      refine va_get (D := (dC, dI)) (ci := 4) (v := .null) (C := RX5) (T := TX5) (N := 6) hx hb hts inX5 hown hK hP 4 rfl rfl 2 (Nat.le_of_ble_eq_true rfl) (hts _ mw_391) (fun _ h9 => h9) rfl dX10_at_31 ?_
      refine lv_astoreN (lv' := [(5, .null), (4, .ref fe2), (0, .ref x), (1, .int (nI f0)), (2, .int kv), (3, .int w)]) hx hb dX10_at_34 hl (Nat.le_of_ble_eq_true rfl) rfl (fun ls hl => ?_)
      refine lv_aloadN hx hb dX10_at_36 (lv_at hl 0 rfl) ?_
      refine lv_ifnullN (tgt := 54) hx hb dX10_at_38 rfl ?_
      refine lv_iconst (v := (-1)) hx hb dX10_at_54 rfl ?_
      obtain ⟨hP, hD⟩ := pl_bk (X := [_, _, _]) hT_1 hP rfl hc9_1 hD0_1 rfl
      obtain ⟨hP9, hD9⟩ := zu_part (cx := [_, _, _]) hP hD [true, true, true] rfl rfl
      rw [hQ9]
      exact W.iret (v := (-1)) hx hb hr (fun t ht hW => ⟨⟨_, rfl, (-1), rfl, by rw [ht]; exact hP9, hD9⟩, hS.F ht⟩) hS.2.2 dX10_at_55
    · have c_1 : ¬ ((0 : Int32).toInt ≤ w.toInt ∧ w.toInt ≤ (1 : Int32).toInt) := zp_0 c_1
      refine lv_iconst (v := (-1)) hx hb dX10_at_24 rfl ?_
      obtain ⟨hP, hD⟩ := pl_bk (X := [_, _, _]) hT_1 hP rfl hc9_1 hD0_1 rfl
      obtain ⟨hP9, hD9⟩ := zu_part (cx := [_, _, _]) hP hD [true, true, true] rfl rfl
      rw [hQ9]
      exact W.iret (v := (-1)) hx hb hr (fun t ht hW => ⟨⟨_, rfl, (-1), rfl, by rw [ht]; exact hP9, hD9⟩, hS.F ht⟩) hS.2.2 dX10_at_25
  · skip
    have hcap2 := hrr2.1
    have hcap3 := hrr2.2.1
    have hc9_1 : inPl L f [(oc1 fe2 (rk f0) (wd f0) (tw f0) (pa f0) (pb f0) (.ref lo2) (.ref lk2) fm2), (oc4 lk2 (kd f0) (st f0) (.ref r2) (gb f0) (it f0) we2), (oc6 r2 (.ref rx2) (.ref ry2) (nI (nN (mn f0))) rg2), (oa rx2 cI cap2 U2), (oa ry2 cI cap2 V2)] := ⟨hfe2, hlk2, hr2, hrx2, hry2, trivial⟩
    have hD0_1 := hD
    obtain ⟨T_1, hT_1, hP, hD⟩ := pl_oT hP hD hc9_1 (pwR hfe2.2 hlk2.2 hr2.2 hrx2.2 hry2.2 hne2)
    obtain ⟨hP, hD⟩ := zre (W2 := ([_, _, _, _, _, _, _, _] ++ va_pl T_1 f)) hP hD rfl
    refine lv_aload_n hx hb dX10_at_0 rfl (lv_at hl 0 rfl) ?_
    refine va_get (D := (dC, dI)) (ci := 8) (v := .ref sh) (C := RX10) (T := TX10) (N := 13) hx hb hts inX10 hown hK hP 0 rfl rfl 0 (Nat.le_of_ble_eq_true rfl) (hts _ mw_309) (fun _ h9 => h9) rfl dX10_at_1 ?_
    refine lv_iload_n hx hb dX10_at_4 rfl (lv_at hl 1 rfl) ?_
    obtain ⟨hPc, hDc, hFc, hI1⟩ := zi_sub (wc := [_, _]) hP hD hS hA [1, 2] rfl rfl
    refine zcall (st1 := [.ref fe2]) (va_runV (As := [.int (nI f0)]) (rest := []) ⟨hx, hb, hml, hown, hts⟩ (k_Sheet_find l dC dI cI cZ cF s.heap.size sh fa ft FA f0 fe2 (by first | with_reducible assumption | omega) (by first | with_reducible assumption | omega) (hFA2)) (csV_94 hts rfl rfl ⟨Nat.le_of_ble_eq_true rfl, Nat.le_of_ble_eq_true rfl⟩) (zPV2 (q0 := 0) (ci := 7) hPc hDc hK hXN rfl rfl) rfl rfl hl.1 rfl (lv_room (Nat.le_of_ble_eq_true rfl)) dX10_at_5 ⟨Nat.le_of_ble_eq_true rfl, Nat.le_of_ble_eq_true rfl⟩) hS hFc hFc rfl (fun t H locs ht hB hk1 hS => ?_)
    obtain ⟨hP1, hD1⟩ := hB
    rw [ht] at hP1
    replace hP := z0 hP hD hk1 hP1 hI1
    clear hk1 hPc hDc hFc hP1 hD1 ht hI1
    refine lv_astore (lv' := [(4, .ref fe2), (0, .ref x), (1, .int (nI f0)), (2, .int kv), (3, .int w)]) hx hb dX10_at_8 hl (Nat.le_of_ble_eq_true rfl) rfl (fun ls hl => ?_)
    refine lv_aload hx hb dX10_at_10 (lv_at hl 0 rfl) ?_
    refine lv_ifnull hx hb dX10_at_12 ?_
    refine lv_iload_n hx hb dX10_at_15 rfl (lv_at hl 4 rfl) ?_
    refine lv_iconst (v := 0) hx hb dX10_at_16 rfl ?_
    refine lv_iconst (v := 1) hx hb dX10_at_17 rfl ?_
    obtain ⟨hPc, hDc, hFc, hI1⟩ := zi_sub (wc := []) hP hD hS hA [] rfl rfl
    refine zcall (st1 := [.int (pI ((0 : Int32).toInt ≤ w.toInt ∧ w.toInt ≤ (1 : Int32).toInt))]) (va_runS (As := [.int w, .int 0, .int 1]) (rest := []) ⟨hx, hb, hml, hown, hts⟩ (k_isWithin l dC dI cI cZ cF H.size w 0 1 ) (csS_14 hts rfl rfl ⟨Nat.le_of_ble_eq_true rfl, Nat.le_of_ble_eq_true rfl⟩) (zPS2 hPc hDc hK hXN) rfl rfl hl.1 rfl (lv_room (Nat.le_of_ble_eq_true rfl)) dX10_at_18 ⟨Nat.le_of_ble_eq_true rfl, Nat.le_of_ble_eq_true rfl⟩) hS hFc hFc rfl (fun t H locs ht hB hk1 hS => ?_)
    obtain ⟨hP1, hD1⟩ := hB
    rw [ht] at hP1
    replace hP := z0 hP hD hk1 hP1 hI1
    clear hk1 hPc hDc hFc hP1 hD1 ht hI1
    refine lv_if_ne (tgt := 26) hx hb dX10_at_21 rfl (fun c_2 => ?_) (fun c_2 => ?_)
    · have c_2 : (0 : Int32).toInt ≤ w.toInt ∧ w.toInt ≤ (1 : Int32).toInt := zp_1 c_2
      refine lv_aload hx hb dX10_at_26 (lv_at hl 0 rfl) ?_
      refine va_get (D := (dC, dI)) (ci := 1) (v := .ref lk2) (C := RX2) (T := TX2) (N := 8) hx hb hts inX2 hown hK hP 3 rfl rfl 6 (Nat.le_of_ble_eq_true rfl) (hts _ mw_433) (fun _ h9 => h9) rfl dX10_at_28 ?_
      refine va_get (D := (dC, dI)) (ci := 4) (v := .ref r2) (C := RX5) (T := TX5) (N := 6) hx hb hts inX5 hown hK hP 4 rfl rfl 2 (Nat.le_of_ble_eq_true rfl) (hts _ mw_391) (fun _ h9 => h9) rfl dX10_at_31 ?_
      refine lv_astore (lv' := [(5, .ref r2), (4, .ref fe2), (0, .ref x), (1, .int (nI f0)), (2, .int kv), (3, .int w)]) hx hb dX10_at_34 hl (Nat.le_of_ble_eq_true rfl) rfl (fun ls hl => ?_)
      refine lv_aload hx hb dX10_at_36 (lv_at hl 0 rfl) ?_
      refine lv_ifnull hx hb dX10_at_38 ?_
      refine lv_iload_n hx hb dX10_at_41 rfl (lv_at hl 4 rfl) ?_
      refine lv_if_lt (tgt := 54) hx hb dX10_at_42 rfl (fun c_3 => ?_) (fun c_3 => ?_)
      · have c_3 : kv.toInt < 0 := zc_lt rfl rfl c_3
        refine lv_iconst (v := (-1)) hx hb dX10_at_54 rfl ?_
        obtain ⟨hP, hD⟩ := pl_bk (X := [_, _, _]) hT_1 hP rfl hc9_1 hD0_1 rfl
        obtain ⟨hP9, hD9⟩ := zu_part (cx := [_, _, _]) hP hD [true, true, true] rfl rfl
        rw [hQ9]
        exact W.iret (v := (-1)) hx hb hr (fun t ht hW => ⟨⟨_, rfl, (-1), rfl, by rw [ht]; exact hP9, hD9⟩, hS.F ht⟩) hS.2.2 dX10_at_55
      · have c_3 : 0 ≤ kv.toInt := zc_nlt rfl rfl c_3
        refine lv_iload_n hx hb dX10_at_45 rfl (lv_at hl 4 rfl) ?_
        refine lv_aload hx hb dX10_at_46 (lv_at hl 0 rfl) ?_
        refine va_get (D := (dC, dI)) (ci := 6) (v := .int (nI (nN (mn f0)))) (C := RX7) (T := TX7) (N := 4) hx hb hts inX7 hown hK hP 5 rfl rfl 2 (Nat.le_of_ble_eq_true rfl) (hts _ mw_179) (fun _ h9 => h9) rfl dX10_at_48 ?_
        have b9_5 : zlt ((nN (mn f0))) := show (nN (mn f0)) < 2147483648 by omega
        refine lv_icmp_lt (tgt := 56) hx hb dX10_at_51 rfl (fun c_4 => ?_) (fun c_4 => ?_)
        · have c_4 : kv.toInt < ((nN (mn f0) : Nat) : Int) := zc_lt rfl (nI_toInt b9_5) c_4
          refine lv_iload_n hx hb dX10_at_56 rfl (lv_at hl 5 rfl) ?_
          refine lv_if_ne (tgt := 70) hx hb dX10_at_57 rfl (fun c_6 => ?_) (fun c_6 => ?_)
          · have c_6 : ¬ w.toInt = 0 := zc_ne rfl rfl c_6
            refine lv_aload hx hb dX10_at_70 (lv_at hl 0 rfl) ?_
            refine va_get (D := (dC, dI)) (ci := 6) (v := .ref ry2) (C := RX7) (T := TX7) (N := 4) hx hb hts inX7 hown hK hP 5 rfl rfl 1 (Nat.le_of_ble_eq_true rfl) (hts _ mw_174) (fun _ h9 => h9) rfl dX10_at_72 ?_
            refine lv_iload_n hx hb dX10_at_75 rfl (lv_at hl 4 rfl) ?_
            refine zz_i (v := nI kv.toInt.toNat) (Int32.toInt_inj.mp (by rw [nI_toInt (by omega)]; omega)) ?_
            have b9_7 : kv.toInt.toNat < cap2 := by omega
            have b9_8 : zlt (cap2) := show cap2 < 2147483648 by omega
            refine z_iald hx hb hK hP 7 0 rfl rfl (e := kv.toInt.toNat) rfl b9_7 b9_8 dX10_at_76 ?_
            obtain ⟨hP, hD⟩ := pl_bk (X := [_, _, _]) hT_1 hP rfl hc9_1 hD0_1 rfl
            obtain ⟨hP9, hD9⟩ := zu_part (cx := [_, _, _]) hP hD [true, true, true] rfl rfl
            rw [hQ9]
            exact W.iret (v := V2 kv.toInt.toNat) hx hb hr (fun t ht hW => ⟨⟨_, rfl, (V2 kv.toInt.toNat), rfl, by rw [ht]; exact hP9, hD9⟩, hS.F ht⟩) hS.2.2 dX10_at_77
          · have c_6 : w.toInt = 0 := zc_eq rfl rfl c_6
            refine lv_aload hx hb dX10_at_60 (lv_at hl 0 rfl) ?_
            refine va_get (D := (dC, dI)) (ci := 6) (v := .ref rx2) (C := RX7) (T := TX7) (N := 4) hx hb hts inX7 hown hK hP 5 rfl rfl 0 (Nat.le_of_ble_eq_true rfl) (hts _ mw_167) (fun _ h9 => h9) rfl dX10_at_62 ?_
            refine lv_iload_n hx hb dX10_at_65 rfl (lv_at hl 4 rfl) ?_
            refine zz_i (v := nI kv.toInt.toNat) (Int32.toInt_inj.mp (by rw [nI_toInt (by omega)]; omega)) ?_
            have b9_9 : kv.toInt.toNat < cap2 := by omega
            have b9_10 : zlt (cap2) := show cap2 < 2147483648 by omega
            refine z_iald hx hb hK hP 6 0 rfl rfl (e := kv.toInt.toNat) rfl b9_9 b9_10 dX10_at_66 ?_
            refine lv_goto (tgt := 77) hx hb dX10_at_67 rfl ?_
            obtain ⟨hP, hD⟩ := pl_bk (X := [_, _, _]) hT_1 hP rfl hc9_1 hD0_1 rfl
            obtain ⟨hP9, hD9⟩ := zu_part (cx := [_, _, _]) hP hD [true, true, true] rfl rfl
            rw [hQ9]
            exact W.iret (v := U2 kv.toInt.toNat) hx hb hr (fun t ht hW => ⟨⟨_, rfl, (U2 kv.toInt.toNat), rfl, by rw [ht]; exact hP9, hD9⟩, hS.F ht⟩) hS.2.2 dX10_at_77
        · have c_4 : ((nN (mn f0) : Nat) : Int) ≤ kv.toInt := zc_nlt rfl (nI_toInt b9_5) c_4
          refine lv_iconst (v := (-1)) hx hb dX10_at_54 rfl ?_
          obtain ⟨hP, hD⟩ := pl_bk (X := [_, _, _]) hT_1 hP rfl hc9_1 hD0_1 rfl
          obtain ⟨hP9, hD9⟩ := zu_part (cx := [_, _, _]) hP hD [true, true, true] rfl rfl
          rw [hQ9]
          exact W.iret (v := (-1)) hx hb hr (fun t ht hW => ⟨⟨_, rfl, (-1), rfl, by rw [ht]; exact hP9, hD9⟩, hS.F ht⟩) hS.2.2 dX10_at_55
    · have c_2 : ¬ ((0 : Int32).toInt ≤ w.toInt ∧ w.toInt ≤ (1 : Int32).toInt) := zp_0 c_2
      refine lv_iconst (v := (-1)) hx hb dX10_at_24 rfl ?_
      obtain ⟨hP, hD⟩ := pl_bk (X := [_, _, _]) hT_1 hP rfl hc9_1 hD0_1 rfl
      obtain ⟨hP9, hD9⟩ := zu_part (cx := [_, _, _]) hP hD [true, true, true] rfl rfl
      rw [hQ9]
      exact W.iret (v := (-1)) hx hb hr (fun t ht hW => ⟨⟨_, rfl, (-1), rfl, by rw [ht]; exact hP9, hD9⟩, hS.F ht⟩) hS.2.2 dX10_at_25
set_option maxHeartbeats 4000000 in
set_option maxRecDepth 100000 in
theorem k_size_z (l : Launch) (dC : Nat → ClassId) (dI : Nat → Nat → Nat) (cI cZ cF : ClassId) (sz : Nat) (x : Nat) (sh : Nat) (lw : Nat) (ro : Nat) (bq : Nat) (bp : Nat) (dq : Nat) (dp : Nat) (lv : Nat) (sl : Nat) (sd : Int32) (ul : Int32) (su : Int32) (ds : Int32) (fa : Nat) (ft : Nat) (FA : Nat → Option Nat) (L : List Nat) (f : Nat → va_E) (kd : Nat → Int32) (st : Nat → Int32) (tn : Nat → Int32) (mn : Nat → Int32) (cx : Nat → Int32) (cy : Nat → Int32) (rk : Nat → Int32) (wd : Nat → Int32) (tw : Nat → Int32) (pa : Nat → Int32) (pb : Nat → Int32) (gb : Nat → Int32) (it : Nat → Int32) (v : Int32) (h200 : ft ≤ 200) (hva : ∀ q, q < ft → vwA cI L f FA rk wd tw pa pb kd st gb it tn mn cx cy q) (hbad : ¬ ∃ f, v = nI f ∧ lvF ft st tn f) : zM l yX10_size cX10_size 3 (some .long) ({ frames := 2, cells := 0, slots := 0, locals := 43 } : Room) [.ref x, .int v] (dC, dI) (zTy cI cZ cF) ([(oc8 x (.ref sh) (.ref lw) (.ref ro) (.ref bq) (.ref bp) (.ref dq) (.ref dp) (.ref lv) (.ref sl) ds sd ul su), (oc7 sh (.ref fa) (nI ft)), (oq fa cF 200 FA)] ++ va_pl L f) sz (some (.long (-1))) (fun A t => zPD (dC, dI) classes A ([(oc8 x (.ref sh) (.ref lw) (.ref ro) (.ref bq) (.ref bp) (.ref dq) (.ref dp) (.ref lv) (.ref sl) ds sd ul su), (oc7 sh (.ref fa) (nI ft)), (oq fa cF 200 FA)] ++ va_pl L f) t.heap) 0 0 := by
  refine zIn (own := "ScaleShop") (loc := [(0, .ref x), (1, .int v)]) rfl rfl rfl rfl (fun p e s m below meth c hx hb hr hts hown hlocks hml hnm9 A hA hS hP hD hK hXN Q9 hQ9 ls hl => ?_)
  rcases v_c (v := v) (ft := ft) h200 with hb2 | ⟨f0, hq2, rfl⟩
  · skip
    refine lv_aload_n hx hb dX10_size_0 rfl (lv_at hl 0 rfl) ?_
    refine va_get (D := (dC, dI)) (ci := 8) (v := .ref sh) (C := RX10) (T := TX10) (N := 13) hx hb hts inX10 hown hK hP 0 rfl rfl 0 (Nat.le_of_ble_eq_true rfl) (hts _ mw_309) (fun _ h9 => h9) rfl dX10_size_1 ?_
    refine lv_iload_n hx hb dX10_size_4 rfl (lv_at hl 1 rfl) ?_
    obtain ⟨hPc, hDc, hFc, hI1⟩ := zi_sub (wc := [_, _]) hP hD hS hA [1, 2] rfl rfl
    refine zcall (st1 := [.null]) (va_runV (As := [.int v]) (rest := []) ⟨hx, hb, hml, hown, hts⟩ (k_Sheet_rowThere_x l dC dI cI cZ cF s.heap.size sh fa ft FA v (h200) (hb2)) (csV_144 hts rfl rfl ⟨Nat.le_of_ble_eq_true rfl, Nat.le_of_ble_eq_true rfl⟩) (zPV2 (q0 := 0) (ci := 7) hPc hDc hK hXN rfl rfl) rfl rfl hl.1 rfl (lv_room (Nat.le_of_ble_eq_true rfl)) dX10_size_5 ⟨Nat.le_of_ble_eq_true rfl, Nat.le_of_ble_eq_true rfl⟩) hS hFc hFc rfl (fun t H locs ht hB hk1 hS => ?_)
    obtain ⟨hP1, hD1⟩ := hB
    rw [ht] at hP1
    replace hP := z0 hP hD hk1 hP1 hI1
    clear hk1 hPc hDc hFc hP1 hD1 ht hI1
    refine lv_astore_nN (lv' := [(2, .null), (0, .ref x), (1, .int v)]) hx hb dX10_size_8 rfl hl (Nat.le_of_ble_eq_true rfl) rfl (fun ls hl => ?_)
    refine lv_aload_nN hx hb dX10_size_9 rfl (lv_at hl 0 rfl) ?_
    refine lv_ifnonnullN hx hb dX10_size_10 ?_
    refine lv_ldc2 hx hb hown (hts _ mw_1077) dX10_size_13 ?_
    obtain ⟨hP9, hD9⟩ := zu_part (cx := [_, _, _]) hP hD [true, true, true] rfl rfl
    rw [hQ9]
    exact W.lret (v := (-1)) hx hb hr (fun t ht hW => ⟨⟨rfl, by rw [ht]; exact hP9, hD9⟩, hS.F ht⟩) hS.2.2 dX10_size_16
  · skip
    refine lv_aload_n hx hb dX10_size_0 rfl (lv_at hl 0 rfl) ?_
    rcases vwA_3 (P9 := ((st f0).toInt = 1)) (hva f0 (by omega)) with ⟨ht2, fe2, lk2, lo2, we2, fm2, hFA2, hfe2, hlk2⟩ | ⟨ht2, hA2, fe2, lk2, lo2, we2, fm2, r2, rx2, ry2, cap2, U2, V2, rg2, hFA2, hfe2, hlk2, ⟨hr2, hrx2, hry2, hne2⟩, hrr2⟩ | ⟨ht2, hA2, fe2, lk2, lo2, we2, fm2, r2, rx2, ry2, cap2, U2, V2, rg2, hFA2, hfe2, hlk2, ⟨hr2, hrx2, hry2, hne2⟩, hrr2⟩
    · skip
      refine va_get (D := (dC, dI)) (ci := 8) (v := .ref sh) (C := RX10) (T := TX10) (N := 13) hx hb hts inX10 hown hK hP 0 rfl rfl 0 (Nat.le_of_ble_eq_true rfl) (hts _ mw_309) (fun _ h9 => h9) rfl dX10_size_1 ?_
      have hc9_1 : inPl L f [(oc1 fe2 (rk f0) (wd f0) (tw f0) (pa f0) (pb f0) (.ref lo2) (.ref lk2) fm2), (oc4 lk2 (kd f0) (st f0) .null (gb f0) (it f0) we2)] := ⟨hfe2, hlk2, trivial⟩
      have hD0_1 := hD
      obtain ⟨T_1, hT_1, hP, hD⟩ := pl_oT hP hD hc9_1 (pwF hfe2.2 hlk2.2)
      obtain ⟨hP, hD⟩ := zre (W2 := ([_, _, _, _, _] ++ va_pl T_1 f)) hP hD rfl
      refine lv_iload_n hx hb dX10_size_4 rfl (lv_at hl 1 rfl) ?_
      obtain ⟨hPc, hDc, hFc, hI1⟩ := zi_sub (wc := [_, _, _, _]) hP hD hS hA [1, 2, 3, 4] (by decide +kernel) rfl
      refine zcall (st1 := [.null]) (va_runV (As := [.int (nI f0)]) (rest := []) ⟨hx, hb, hml, hown, hts⟩ (k_Sheet_rowThere_tv l dC dI cI cZ cF s.heap.size sh fa ft FA f0 fe2 lo2 (rk f0) (wd f0) (tw f0) (pa f0) (pb f0) lk2 (kd f0) (st f0) (gb f0) (it f0) we2 fm2 (h200) (by first | with_reducible assumption | omega) (hFA2)) (csV_144 hts rfl rfl ⟨Nat.le_of_ble_eq_true rfl, Nat.le_of_ble_eq_true rfl⟩) (zPV2 (q0 := 0) (ci := 7) hPc hDc hK hXN rfl rfl) rfl rfl hl.1 rfl (lv_room (Nat.le_of_ble_eq_true rfl)) dX10_size_5 ⟨Nat.le_of_ble_eq_true rfl, Nat.le_of_ble_eq_true rfl⟩) hS hFc hFc rfl (fun t H locs ht hB hk1 hS => ?_)
      obtain ⟨hP1, hD1⟩ := hB
      rw [ht] at hP1
      replace hP := z0 hP hD hk1 hP1 hI1
      clear hk1 hPc hDc hFc hP1 hD1 ht hI1
      obtain ⟨hP, hD⟩ := pl_bk (X := [_, _, _]) hT_1 hP rfl hc9_1 hD0_1 rfl
      refine lv_astore_nN (lv' := [(2, .null), (0, .ref x), (1, .int (nI f0))]) hx hb dX10_size_8 rfl hl (Nat.le_of_ble_eq_true rfl) rfl (fun ls hl => ?_)
      refine lv_aload_nN hx hb dX10_size_9 rfl (lv_at hl 0 rfl) ?_
      refine lv_ifnonnullN hx hb dX10_size_10 ?_
      refine lv_ldc2 hx hb hown (hts _ mw_1077) dX10_size_13 ?_
      obtain ⟨hP9, hD9⟩ := zu_part (cx := [_, _, _]) hP hD [true, true, true] rfl rfl
      rw [hQ9]
      exact W.lret (v := (-1)) hx hb hr (fun t ht hW => ⟨⟨rfl, by rw [ht]; exact hP9, hD9⟩, hS.F ht⟩) hS.2.2 dX10_size_16
    · skip
      refine va_get (D := (dC, dI)) (ci := 8) (v := .ref sh) (C := RX10) (T := TX10) (N := 13) hx hb hts inX10 hown hK hP 0 rfl rfl 0 (Nat.le_of_ble_eq_true rfl) (hts _ mw_309) (fun _ h9 => h9) rfl dX10_size_1 ?_
      have hc9_1 : inPl L f [(oc1 fe2 (rk f0) (wd f0) (tw f0) (pa f0) (pb f0) (.ref lo2) (.ref lk2) fm2), (oc4 lk2 (kd f0) (st f0) (.ref r2) (gb f0) (it f0) we2)] := ⟨hfe2, hlk2, trivial⟩
      have hD0_1 := hD
      obtain ⟨T_1, hT_1, hP, hD⟩ := pl_oT hP hD hc9_1 (pwF hfe2.2 hlk2.2)
      obtain ⟨hP, hD⟩ := zre (W2 := ([_, _, _, _, _] ++ va_pl T_1 f)) hP hD rfl
      refine lv_iload_n hx hb dX10_size_4 rfl (lv_at hl 1 rfl) ?_
      obtain ⟨hPc, hDc, hFc, hI1⟩ := zi_sub (wc := [_, _, _, _]) hP hD hS hA [1, 2, 3, 4] (by decide +kernel) rfl
      refine zcall (st1 := [.ref r2]) (va_runV (As := [.int (nI f0)]) (rest := []) ⟨hx, hb, hml, hown, hts⟩ (k_Sheet_rowThere_yv l dC dI cI cZ cF s.heap.size sh fa ft FA f0 fe2 lo2 (rk f0) (wd f0) (tw f0) (pa f0) (pb f0) lk2 (kd f0) (st f0) (gb f0) (it f0) we2 r2 fm2 (h200) (by first | with_reducible assumption | omega) (hFA2) (by first | exact hA2 | omega)) (csV_144 hts rfl rfl ⟨Nat.le_of_ble_eq_true rfl, Nat.le_of_ble_eq_true rfl⟩) (zPV2 (q0 := 0) (ci := 7) hPc hDc hK hXN rfl rfl) rfl rfl hl.1 rfl (lv_room (Nat.le_of_ble_eq_true rfl)) dX10_size_5 ⟨Nat.le_of_ble_eq_true rfl, Nat.le_of_ble_eq_true rfl⟩) hS hFc hFc rfl (fun t H locs ht hB hk1 hS => ?_)
      obtain ⟨hP1, hD1⟩ := hB
      rw [ht] at hP1
      replace hP := z0 hP hD hk1 hP1 hI1
      clear hk1 hPc hDc hFc hP1 hD1 ht hI1
      obtain ⟨hP, hD⟩ := pl_bk (X := [_, _, _]) hT_1 hP rfl hc9_1 hD0_1 rfl
      refine lv_astore_n (lv' := [(2, .ref r2), (0, .ref x), (1, .int (nI f0))]) hx hb dX10_size_8 rfl hl (Nat.le_of_ble_eq_true rfl) rfl (fun ls hl => ?_)
      refine lv_aload_n hx hb dX10_size_9 rfl (lv_at hl 0 rfl) ?_
      refine lv_ifnonnull (tgt := 17) hx hb dX10_size_10 rfl ?_
      exact absurd ⟨f0, rfl, hq2, hA2, ht2⟩ hbad
    · skip
      refine va_get (D := (dC, dI)) (ci := 8) (v := .ref sh) (C := RX10) (T := TX10) (N := 13) hx hb hts inX10 hown hK hP 0 rfl rfl 0 (Nat.le_of_ble_eq_true rfl) (hts _ mw_309) (fun _ h9 => h9) rfl dX10_size_1 ?_
      have hc9_1 : inPl L f [(oc1 fe2 (rk f0) (wd f0) (tw f0) (pa f0) (pb f0) (.ref lo2) (.ref lk2) fm2), (oc4 lk2 (kd f0) (st f0) (.ref r2) (gb f0) (it f0) we2)] := ⟨hfe2, hlk2, trivial⟩
      have hD0_1 := hD
      obtain ⟨T_1, hT_1, hP, hD⟩ := pl_oT hP hD hc9_1 (pwF hfe2.2 hlk2.2)
      obtain ⟨hP, hD⟩ := zre (W2 := ([_, _, _, _, _] ++ va_pl T_1 f)) hP hD rfl
      refine lv_iload_n hx hb dX10_size_4 rfl (lv_at hl 1 rfl) ?_
      obtain ⟨hPc, hDc, hFc, hI1⟩ := zi_sub (wc := [_, _, _, _]) hP hD hS hA [1, 2, 3, 4] (by decide +kernel) rfl
      refine zcall (st1 := [.null]) (va_runV (As := [.int (nI f0)]) (rest := []) ⟨hx, hb, hml, hown, hts⟩ (k_Sheet_rowThere_sv l dC dI cI cZ cF s.heap.size sh fa ft FA f0 fe2 lo2 (rk f0) (wd f0) (tw f0) (pa f0) (pb f0) lk2 (kd f0) (st f0) (gb f0) (it f0) we2 fm2 (.ref r2) (h200) (by first | with_reducible assumption | omega) (hFA2) (by first | exact hA2 | omega)) (csV_144 hts rfl rfl ⟨Nat.le_of_ble_eq_true rfl, Nat.le_of_ble_eq_true rfl⟩) (zPV2 (q0 := 0) (ci := 7) hPc hDc hK hXN rfl rfl) rfl rfl hl.1 rfl (lv_room (Nat.le_of_ble_eq_true rfl)) dX10_size_5 ⟨Nat.le_of_ble_eq_true rfl, Nat.le_of_ble_eq_true rfl⟩) hS hFc hFc rfl (fun t H locs ht hB hk1 hS => ?_)
      obtain ⟨hP1, hD1⟩ := hB
      rw [ht] at hP1
      replace hP := z0 hP hD hk1 hP1 hI1
      clear hk1 hPc hDc hFc hP1 hD1 ht hI1
      obtain ⟨hP, hD⟩ := pl_bk (X := [_, _, _]) hT_1 hP rfl hc9_1 hD0_1 rfl
      refine lv_astore_nN (lv' := [(2, .null), (0, .ref x), (1, .int (nI f0))]) hx hb dX10_size_8 rfl hl (Nat.le_of_ble_eq_true rfl) rfl (fun ls hl => ?_)
      refine lv_aload_nN hx hb dX10_size_9 rfl (lv_at hl 0 rfl) ?_
      refine lv_ifnonnullN hx hb dX10_size_10 ?_
      refine lv_ldc2 hx hb hown (hts _ mw_1077) dX10_size_13 ?_
      obtain ⟨hP9, hD9⟩ := zu_part (cx := [_, _, _]) hP hD [true, true, true] rfl rfl
      rw [hQ9]
      exact W.lret (v := (-1)) hx hb hr (fun t ht hW => ⟨⟨rfl, by rw [ht]; exact hP9, hD9⟩, hS.F ht⟩) hS.2.2 dX10_size_16
set_option maxHeartbeats 4000000 in
set_option maxRecDepth 100000 in
theorem k_size_w (l : Launch) (dC : Nat → ClassId) (dI : Nat → Nat → Nat) (cI cZ cF : ClassId) (sz : Nat) (x : Nat) (sh : Nat) (lw : Nat) (ro : Nat) (bq : Nat) (bp : Nat) (dq : Nat) (dp : Nat) (lv : Nat) (sl : Nat) (sd : Int32) (ul : Int32) (su : Int32) (ds : Int32) (fa : Nat) (ft : Nat) (FA : Nat → Option Nat) (f0 : Nat) (L : List Nat) (f : Nat → va_E) (kd : Nat → Int32) (st : Nat → Int32) (tn : Nat → Int32) (mn : Nat → Int32) (cx : Nat → Int32) (cy : Nat → Int32) (rk : Nat → Int32) (wd : Nat → Int32) (tw : Nat → Int32) (pa : Nat → Int32) (pb : Nat → Int32) (gb : Nat → Int32) (it : Nat → Int32) (h200 : ft ≤ 200) (hf0 : f0 < ft) (hva : ∀ q, q < ft → vwA cI L f FA rk wd tw pa pb kd st gb it tn mn cx cy q) (hok : okA ft st tn kd mn cx cy) (hlv : lvF ft st tn f0) : Met l yX10_size (.code yX10_size cX10_size 3 (some .long) :: ws0) ({ frames := 2, cells := 0, slots := 0, locals := 44 } : Room) (va_Pc [.ref x, .int (nI f0)] (zPre (dC, dI) classes (zTy cI cZ cF) ([(oc8 x (.ref sh) (.ref lw) (.ref ro) (.ref bq) (.ref bp) (.ref dq) (.ref dp) (.ref lv) (.ref sl) ds sd ul su), (oc7 sh (.ref fa) (nI ft)), (oq fa cF 200 FA)] ++ va_pl L f) sz zXN)) (zQe (fun v9 t => ∃ (b9 : Int64), v9 = (some (.long b9)) ∧ va_P (dC, dI) classes ([(oc8 x (.ref sh) (.ref lw) (.ref ro) (.ref bq) (.ref bp) (.ref dq) (.ref dp) (.ref lv) (.ref sl) ds sd ul su), (oc7 sh (.ref fa) (nI ft)), (oq fa cF 200 FA)] ++ va_pl L f) t.heap ∧ va_D (va_A ([(oc8 x (.ref sh) (.ref lw) (.ref ro) (.ref bq) (.ref bp) (.ref dq) (.ref dp) (.ref lv) (.ref sl) ds sd ul su), (oc7 sh (.ref fa) (nI ft)), (oq fa cF 200 FA)] ++ va_pl L f) sz) ([(oc8 x (.ref sh) (.ref lw) (.ref ro) (.ref bq) (.ref bp) (.ref dq) (.ref dp) (.ref lv) (.ref sl) ds sd ul su), (oc7 sh (.ref fa) (nI ft)), (oq fa cF 200 FA)] ++ va_pl L f)) (va_A ([(oc8 x (.ref sh) (.ref lw) (.ref ro) (.ref bq) (.ref bp) (.ref dq) (.ref dp) (.ref lv) (.ref sl) ds sd ul su), (oc7 sh (.ref fa) (nI ft)), (oq fa cF 200 FA)] ++ va_pl L f) sz)) 0 0 (va_A ([(oc8 x (.ref sh) (.ref lw) (.ref ro) (.ref bq) (.ref bp) (.ref dq) (.ref dp) (.ref lv) (.ref sl) ds sd ul su), (oc7 sh (.ref fa) (nI ft)), (oq fa cF 200 FA)] ++ va_pl L f) sz) := by
  refine Met.ofW (cc := cX10_size) (maxL := 3) (ret := (some .long)) rfl rfl ?_
  intro p e s m args below meth c s₁ B hml hv
  obtain ⟨rfl, hsz, hP, hK, hD0, hXN⟩ := hv
  have hx := B.exec
  have hb := B.bytes
  have hr := B.returns
  have hts0 := atoms_spec (ws := .code yX10_size cX10_size 3 (some .long) :: ws0) B.pre
  have hts : ∀ w9 ∈ ws0, w9.before ([.ref x, .int (nI f0)] : List Value).toArray s = true := fun w9 h => hts0 w9 (List.mem_cons_of_mem _ h)
  have hown : s.vm.findClass "ScaleShop" = some m.cls := findClass_of_methodNamed B.named
  have hlocks := B.notSynchronized
  subst hsz
  have hD := hD0.self (sz := s.heap.size)
  clear hD0
  generalize hAe : va_A ([(oc8 x (.ref sh) (.ref lw) (.ref ro) (.ref bq) (.ref bp) (.ref dq) (.ref dp) (.ref lv) (.ref sl) ds sd ul su), (oc7 sh (.ref fa) (nI ft)), (oq fa cF 200 FA)] ++ va_pl L f) s.heap.size = A at hD ⊢
  have hA : ∀ q : Nat, s.heap.size ≤ q → A q := fun q h => by rw [← hAe]; exact Or.inr h
  clear hAe
  have hS : va_S A s.heap s.heap [] := va_S.rf
  have hP : va_P (dC, dI) classes ([(oc8 x (.ref sh) (.ref lw) (.ref ro) (.ref bq) (.ref bp) (.ref dq) (.ref dp) (.ref lv) (.ref sl) ds sd ul su), (oc7 sh (.ref fa) (nI ft)), (oq fa cF 200 FA)] ++ va_pl L f) s.heap := hP
  obtain ⟨Q9, hQ9⟩ : ∃ Q9 : State → Prop, Q9 = MQ below (zQe (fun v9 t => ∃ (b9 : Int64), v9 = (some (.long b9)) ∧ va_P (dC, dI) classes ([(oc8 x (.ref sh) (.ref lw) (.ref ro) (.ref bq) (.ref bp) (.ref dq) (.ref dp) (.ref lv) (.ref sl) ds sd ul su), (oc7 sh (.ref fa) (nI ft)), (oq fa cF 200 FA)] ++ va_pl L f) t.heap ∧ va_D A ([(oc8 x (.ref sh) (.ref lw) (.ref ro) (.ref bq) (.ref bp) (.ref dq) (.ref dp) (.ref lv) (.ref sl) ds sd ul su), (oc7 sh (.ref fa) (nI ft)), (oq fa cF 200 FA)] ++ va_pl L f)) A) ([.ref x, .int (nI f0)] : List Value).toArray s 0 0 A := ⟨_, rfl⟩
  rw [← hQ9]
  have hl := lv_entry ([.ref x, .int (nI f0)]) (n := 3) (Nat.le_of_ble_eq_true rfl)
  rw [lg_entry_eq]
  generalize (lg_sl ([.ref x, .int (nI f0)]) ++ List.replicate (3 - (lg_sl ([.ref x, .int (nI f0)])).length) Slot.unset).toArray = ls at hl ⊢
  have hl : lv_has ls 3 [(0, .ref x), (1, .int (nI f0))] := hl
  obtain ⟨fe2, lk2, lo2, we2, fm2, r2, rx2, ry2, cap2, U2, V2, rg2, hFA2, hfe2, hlk2, ⟨hr2, hrx2, hry2, hne2⟩, hrr2⟩ := vwA_l (hva f0 (by omega)) hlv.2.2
  · skip
    have hcap2 := hrr2.1
    have hcap3 := hrr2.2.1
    have hA2 := hlv.2.1
    have ht2 := hlv.2.2
    have hw2 := (hok f0 hlv).1
    have hq2 := rw_pls hrr2 hw2
    have hn2 := hw2.2.1
    have hrg2 := hrr2.2.2.2.1
    have hab2 := ar2B hq2 _ (Nat.le_refl _)
    have hlb2 := ln2B hq2 (nN (mn f0) - 1) (by omega)
    have hc9_1 : inPl L f [(oc1 fe2 (rk f0) (wd f0) (tw f0) (pa f0) (pb f0) (.ref lo2) (.ref lk2) fm2), (oc4 lk2 (kd f0) (st f0) (.ref r2) (gb f0) (it f0) we2), (oc6 r2 (.ref rx2) (.ref ry2) (nI (nN (mn f0))) rg2), (oa rx2 cI cap2 U2), (oa ry2 cI cap2 V2)] := ⟨hfe2, hlk2, hr2, hrx2, hry2, trivial⟩
    have hD0_1 := hD
    obtain ⟨T_1, hT_1, hP, hD⟩ := pl_oT hP hD hc9_1 (pwR hfe2.2 hlk2.2 hr2.2 hrx2.2 hry2.2 hne2)
    obtain ⟨hP, hD⟩ := zre (W2 := ([_, _, _, _, _, _, _, _] ++ va_pl T_1 f)) hP hD rfl
    refine lv_aload_n hx hb dX10_size_0 rfl (lv_at hl 0 rfl) ?_
    refine va_get (D := (dC, dI)) (ci := 8) (v := .ref sh) (C := RX10) (T := TX10) (N := 13) hx hb hts inX10 hown hK hP 0 rfl rfl 0 (Nat.le_of_ble_eq_true rfl) (hts _ mw_309) (fun _ h9 => h9) rfl dX10_size_1 ?_
    refine lv_iload_n hx hb dX10_size_4 rfl (lv_at hl 1 rfl) ?_
    obtain ⟨hPc, hDc, hFc, hI1⟩ := zi_sub (wc := [_, _, _, _]) hP hD hS hA [1, 2, 3, 4] (by decide +kernel) rfl
    refine zcall (st1 := [.ref r2]) (va_runV (As := [.int (nI f0)]) (rest := []) ⟨hx, hb, hml, hown, hts⟩ (k_Sheet_rowThere_yv l dC dI cI cZ cF s.heap.size sh fa ft FA f0 fe2 lo2 (rk f0) (wd f0) (tw f0) (pa f0) (pb f0) lk2 (kd f0) (st f0) (gb f0) (it f0) we2 r2 fm2 (by first | with_reducible assumption | omega) (by first | with_reducible assumption | omega) (hFA2) (by first | exact hA2 | omega)) (csV_144 hts rfl rfl ⟨Nat.le_of_ble_eq_true rfl, Nat.le_of_ble_eq_true rfl⟩) (zPV2 (q0 := 0) (ci := 7) hPc hDc hK hXN rfl rfl) rfl rfl hl.1 rfl (lv_room (Nat.le_of_ble_eq_true rfl)) dX10_size_5 ⟨Nat.le_of_ble_eq_true rfl, Nat.le_of_ble_eq_true rfl⟩) hS hFc hFc rfl (fun t H locs ht hB hk1 hS => ?_)
    obtain ⟨hP1, hD1⟩ := hB
    rw [ht] at hP1
    replace hP := z0 hP hD hk1 hP1 hI1
    clear hk1 hPc hDc hFc hP1 hD1 ht hI1
    refine lv_astore_n (lv' := [(2, .ref r2), (0, .ref x), (1, .int (nI f0))]) hx hb dX10_size_8 rfl hl (Nat.le_of_ble_eq_true rfl) rfl (fun ls hl => ?_)
    refine lv_aload_n hx hb dX10_size_9 rfl (lv_at hl 0 rfl) ?_
    refine lv_ifnonnull (tgt := 17) hx hb dX10_size_10 rfl ?_
    refine lv_aload_n hx hb dX10_size_17 rfl (lv_at hl 0 rfl) ?_
    refine va_get (D := (dC, dI)) (ci := 6) (v := .int rg2) (C := RX7) (T := TX7) (N := 4) hx hb hts inX7 hown hK hP 5 rfl rfl 3 (Nat.le_of_ble_eq_true rfl) (hts _ mw_185) (fun _ h9 => h9) rfl dX10_size_18 ?_
    refine lv_if_eq (tgt := 32) hx hb dX10_size_21 rfl (fun c_1 => ?_) (fun c_1 => ?_)
    · have c_1 : rg2.toInt = 0 := zc_eq rfl rfl c_1
      refine lv_aload_n hx hb dX10_size_32 rfl (lv_at hl 0 rfl) ?_
      obtain ⟨hPc, hDc, hFc, hI1⟩ := zi_sub (wc := [_, _, _]) hP hD hS hA [5, 6, 7] rfl rfl
      refine zcall (st1 := [.int (nI (ln2 U2 V2 ((nN (mn f0)) - 1)))]) (va_runV (As := []) (rest := []) ⟨hx, hb, hml, hown, hts⟩ (k_Row_length l dC dI cI cZ cF H.size r2 rx2 ry2 (nN (mn f0)) cap2 U2 V2 rg2 (by first | with_reducible assumption | omega) (by first | with_reducible assumption | omega) (hq2) (by first | with_reducible assumption | omega)) (csV_146 hts rfl rfl ⟨Nat.le_of_ble_eq_true rfl, Nat.le_of_ble_eq_true rfl⟩) (zPV2 (q0 := 0) (ci := 6) hPc hDc hK hXN rfl rfl) rfl rfl hl.1 rfl (lv_room (Nat.le_of_ble_eq_true rfl)) dX10_size_33 ⟨Nat.le_of_ble_eq_true rfl, Nat.le_of_ble_eq_true rfl⟩) hS hFc hFc rfl (fun t H locs ht hB hk1 hS => ?_)
      obtain ⟨hP1, hD1⟩ := hB
      rw [ht] at hP1
      replace hP := z0 hP hD hk1 hP1 hI1
      clear hk1 hPc hDc hFc hP1 hD1 ht hI1
      refine lv_i2l (v := (nI (ln2 U2 V2 ((nN (mn f0)) - 1))).toInt64) hx hb dX10_size_36 (rfl) ?_
      obtain ⟨hP, hD⟩ := pl_bk (X := [_, _, _]) hT_1 hP rfl hc9_1 hD0_1 rfl
      obtain ⟨hP9, hD9⟩ := zu_part (cx := [_, _, _]) hP hD [true, true, true] rfl rfl
      rw [hQ9]
      exact W.lret (v := (nI (ln2 U2 V2 ((nN (mn f0)) - 1))).toInt64) hx hb hr (fun t ht hW => ⟨⟨_, rfl, ((nI (ln2 U2 V2 ((nN (mn f0)) - 1))).toInt64), rfl, by rw [ht]; exact hP9, hD9⟩, hS.F ht⟩) hS.2.2 dX10_size_37
    · have c_1 : ¬ rg2.toInt = 0 := zc_ne rfl rfl c_1
      refine lv_aload_n hx hb dX10_size_24 rfl (lv_at hl 0 rfl) ?_
      obtain ⟨hPc, hDc, hFc, hI1⟩ := zi_sub (wc := [_, _, _]) hP hD hS hA [5, 6, 7] rfl rfl
      refine zcall (st1 := [.int (nI (Int.natAbs (ar2 (nN (mn f0)) U2 V2 (nN (mn f0)))))]) (va_runV (As := []) (rest := []) ⟨hx, hb, hml, hown, hts⟩ (k_Row_doubleArea l dC dI cI cZ cF H.size r2 rx2 ry2 (nN (mn f0)) cap2 U2 V2 rg2 (by first | with_reducible assumption | omega) (by first | with_reducible assumption | omega) (hq2)) (csV_123 hts rfl rfl ⟨Nat.le_of_ble_eq_true rfl, Nat.le_of_ble_eq_true rfl⟩) (zPV2 (q0 := 0) (ci := 6) hPc hDc hK hXN rfl rfl) rfl rfl hl.1 rfl (lv_room (Nat.le_of_ble_eq_true rfl)) dX10_size_25 ⟨Nat.le_of_ble_eq_true rfl, Nat.le_of_ble_eq_true rfl⟩) hS hFc hFc rfl (fun t H locs ht hB hk1 hS => ?_)
      obtain ⟨hP1, hD1⟩ := hB
      rw [ht] at hP1
      replace hP := z0 hP hD hk1 hP1 hI1
      clear hk1 hPc hDc hFc hP1 hD1 ht hI1
      refine lv_i2l (v := (nI (Int.natAbs (ar2 (nN (mn f0)) U2 V2 (nN (mn f0))))).toInt64) hx hb dX10_size_28 (rfl) ?_
      refine lv_goto (tgt := 37) hx hb dX10_size_29 rfl ?_
      obtain ⟨hP, hD⟩ := pl_bk (X := [_, _, _]) hT_1 hP rfl hc9_1 hD0_1 rfl
      obtain ⟨hP9, hD9⟩ := zu_part (cx := [_, _, _]) hP hD [true, true, true] rfl rfl
      rw [hQ9]
      exact W.lret (v := (nI (Int.natAbs (ar2 (nN (mn f0)) U2 V2 (nN (mn f0))))).toInt64) hx hb hr (fun t ht hW => ⟨⟨_, rfl, ((nI (Int.natAbs (ar2 (nN (mn f0)) U2 V2 (nN (mn f0))))).toInt64), rfl, by rw [ht]; exact hP9, hD9⟩, hS.F ht⟩) hS.2.2 dX10_size_37
set_option maxHeartbeats 4000000 in
set_option maxRecDepth 100000 in
theorem k_inside_z (l : Launch) (dC : Nat → ClassId) (dI : Nat → Nat → Nat) (cI cZ cF : ClassId) (sz : Nat) (x : Nat) (sh : Nat) (lw : Nat) (ro : Nat) (bq : Nat) (bp : Nat) (dq : Nat) (dp : Nat) (lv : Nat) (sl : Nat) (sd : Int32) (ul : Int32) (su : Int32) (ds : Int32) (fa : Nat) (ft : Nat) (FA : Nat → Option Nat) (L : List Nat) (f : Nat → va_E) (kd : Nat → Int32) (st : Nat → Int32) (tn : Nat → Int32) (mn : Nat → Int32) (cx : Nat → Int32) (cy : Nat → Int32) (rk : Nat → Int32) (wd : Nat → Int32) (tw : Nat → Int32) (pa : Nat → Int32) (pb : Nat → Int32) (gb : Nat → Int32) (it : Nat → Int32) (v : Int32) (px : Int32) (py : Int32) (h200 : ft ≤ 200) (hva : ∀ q, q < ft → vwA cI L f FA rk wd tw pa pb kd st gb it tn mn cx cy q) (hbad : ¬ ∃ f, v = nI f ∧ lvF ft st tn f) : zM l yX10_inside cX10_inside 5 (some .int) ({ frames := 2, cells := 0, slots := 0, locals := 43 } : Room) [.ref x, .int px, .int py, .int v] (dC, dI) (zTy cI cZ cF) ([(oc8 x (.ref sh) (.ref lw) (.ref ro) (.ref bq) (.ref bp) (.ref dq) (.ref dp) (.ref lv) (.ref sl) ds sd ul su), (oc7 sh (.ref fa) (nI ft)), (oq fa cF 200 FA)] ++ va_pl L f) sz (some (.int (-1))) (fun A t => zPD (dC, dI) classes A ([(oc8 x (.ref sh) (.ref lw) (.ref ro) (.ref bq) (.ref bp) (.ref dq) (.ref dp) (.ref lv) (.ref sl) ds sd ul su), (oc7 sh (.ref fa) (nI ft)), (oq fa cF 200 FA)] ++ va_pl L f) t.heap) 0 0 := by
  refine zIn (own := "ScaleShop") (loc := [(0, .ref x), (1, .int px), (2, .int py), (3, .int v)]) rfl rfl rfl rfl (fun p e s m below meth c hx hb hr hts hown hlocks hml hnm9 A hA hS hP hD hK hXN Q9 hQ9 ls hl => ?_)
  rcases v_c (v := v) (ft := ft) h200 with hb2 | ⟨f0, hq2, rfl⟩
  · skip
    refine lv_aload_n hx hb dX10_inside_0 rfl (lv_at hl 0 rfl) ?_
    refine va_get (D := (dC, dI)) (ci := 8) (v := .ref sh) (C := RX10) (T := TX10) (N := 13) hx hb hts inX10 hown hK hP 0 rfl rfl 0 (Nat.le_of_ble_eq_true rfl) (hts _ mw_309) (fun _ h9 => h9) rfl dX10_inside_1 ?_
    refine lv_iload_n hx hb dX10_inside_4 rfl (lv_at hl 3 rfl) ?_
    obtain ⟨hPc, hDc, hFc, hI1⟩ := zi_sub (wc := [_, _]) hP hD hS hA [1, 2] rfl rfl
    refine zcall (st1 := [.null]) (va_runV (As := [.int v]) (rest := []) ⟨hx, hb, hml, hown, hts⟩ (k_Sheet_rowThere_x l dC dI cI cZ cF s.heap.size sh fa ft FA v (h200) (hb2)) (csV_144 hts rfl rfl ⟨Nat.le_of_ble_eq_true rfl, Nat.le_of_ble_eq_true rfl⟩) (zPV2 (q0 := 0) (ci := 7) hPc hDc hK hXN rfl rfl) rfl rfl hl.1 rfl (lv_room (Nat.le_of_ble_eq_true rfl)) dX10_inside_5 ⟨Nat.le_of_ble_eq_true rfl, Nat.le_of_ble_eq_true rfl⟩) hS hFc hFc rfl (fun t H locs ht hB hk1 hS => ?_)
    obtain ⟨hP1, hD1⟩ := hB
    rw [ht] at hP1
    replace hP := z0 hP hD hk1 hP1 hI1
    clear hk1 hPc hDc hFc hP1 hD1 ht hI1
    refine lv_astoreN (lv' := [(4, .null), (0, .ref x), (1, .int px), (2, .int py), (3, .int v)]) hx hb dX10_inside_8 hl (Nat.le_of_ble_eq_true rfl) rfl (fun ls hl => ?_)
    refine lv_aloadN hx hb dX10_inside_10 (lv_at hl 0 rfl) ?_
    refine lv_ifnullN (tgt := 31) hx hb dX10_inside_12 rfl ?_
    refine lv_iconst (v := (-1)) hx hb dX10_inside_31 rfl ?_
    obtain ⟨hP9, hD9⟩ := zu_part (cx := [_, _, _]) hP hD [true, true, true] rfl rfl
    rw [hQ9]
    exact W.iret (v := (-1)) hx hb hr (fun t ht hW => ⟨⟨rfl, by rw [ht]; exact hP9, hD9⟩, hS.F ht⟩) hS.2.2 dX10_inside_32
  · skip
    refine lv_aload_n hx hb dX10_inside_0 rfl (lv_at hl 0 rfl) ?_
    rcases vwA_3 (P9 := ((st f0).toInt = 1)) (hva f0 (by omega)) with ⟨ht2, fe2, lk2, lo2, we2, fm2, hFA2, hfe2, hlk2⟩ | ⟨ht2, hA2, fe2, lk2, lo2, we2, fm2, r2, rx2, ry2, cap2, U2, V2, rg2, hFA2, hfe2, hlk2, ⟨hr2, hrx2, hry2, hne2⟩, hrr2⟩ | ⟨ht2, hA2, fe2, lk2, lo2, we2, fm2, r2, rx2, ry2, cap2, U2, V2, rg2, hFA2, hfe2, hlk2, ⟨hr2, hrx2, hry2, hne2⟩, hrr2⟩
    · skip
      refine va_get (D := (dC, dI)) (ci := 8) (v := .ref sh) (C := RX10) (T := TX10) (N := 13) hx hb hts inX10 hown hK hP 0 rfl rfl 0 (Nat.le_of_ble_eq_true rfl) (hts _ mw_309) (fun _ h9 => h9) rfl dX10_inside_1 ?_
      have hc9_1 : inPl L f [(oc1 fe2 (rk f0) (wd f0) (tw f0) (pa f0) (pb f0) (.ref lo2) (.ref lk2) fm2), (oc4 lk2 (kd f0) (st f0) .null (gb f0) (it f0) we2)] := ⟨hfe2, hlk2, trivial⟩
      have hD0_1 := hD
      obtain ⟨T_1, hT_1, hP, hD⟩ := pl_oT hP hD hc9_1 (pwF hfe2.2 hlk2.2)
      obtain ⟨hP, hD⟩ := zre (W2 := ([_, _, _, _, _] ++ va_pl T_1 f)) hP hD rfl
      refine lv_iload_n hx hb dX10_inside_4 rfl (lv_at hl 3 rfl) ?_
      obtain ⟨hPc, hDc, hFc, hI1⟩ := zi_sub (wc := [_, _, _, _]) hP hD hS hA [1, 2, 3, 4] (by decide +kernel) rfl
      refine zcall (st1 := [.null]) (va_runV (As := [.int (nI f0)]) (rest := []) ⟨hx, hb, hml, hown, hts⟩ (k_Sheet_rowThere_tv l dC dI cI cZ cF s.heap.size sh fa ft FA f0 fe2 lo2 (rk f0) (wd f0) (tw f0) (pa f0) (pb f0) lk2 (kd f0) (st f0) (gb f0) (it f0) we2 fm2 (h200) (by first | with_reducible assumption | omega) (hFA2)) (csV_144 hts rfl rfl ⟨Nat.le_of_ble_eq_true rfl, Nat.le_of_ble_eq_true rfl⟩) (zPV2 (q0 := 0) (ci := 7) hPc hDc hK hXN rfl rfl) rfl rfl hl.1 rfl (lv_room (Nat.le_of_ble_eq_true rfl)) dX10_inside_5 ⟨Nat.le_of_ble_eq_true rfl, Nat.le_of_ble_eq_true rfl⟩) hS hFc hFc rfl (fun t H locs ht hB hk1 hS => ?_)
      obtain ⟨hP1, hD1⟩ := hB
      rw [ht] at hP1
      replace hP := z0 hP hD hk1 hP1 hI1
      clear hk1 hPc hDc hFc hP1 hD1 ht hI1
      obtain ⟨hP, hD⟩ := pl_bk (X := [_, _, _]) hT_1 hP rfl hc9_1 hD0_1 rfl
      refine lv_astoreN (lv' := [(4, .null), (0, .ref x), (1, .int px), (2, .int py), (3, .int (nI f0))]) hx hb dX10_inside_8 hl (Nat.le_of_ble_eq_true rfl) rfl (fun ls hl => ?_)
      refine lv_aloadN hx hb dX10_inside_10 (lv_at hl 0 rfl) ?_
      refine lv_ifnullN (tgt := 31) hx hb dX10_inside_12 rfl ?_
      refine lv_iconst (v := (-1)) hx hb dX10_inside_31 rfl ?_
      obtain ⟨hP9, hD9⟩ := zu_part (cx := [_, _, _]) hP hD [true, true, true] rfl rfl
      rw [hQ9]
      exact W.iret (v := (-1)) hx hb hr (fun t ht hW => ⟨⟨rfl, by rw [ht]; exact hP9, hD9⟩, hS.F ht⟩) hS.2.2 dX10_inside_32
    · skip
      refine va_get (D := (dC, dI)) (ci := 8) (v := .ref sh) (C := RX10) (T := TX10) (N := 13) hx hb hts inX10 hown hK hP 0 rfl rfl 0 (Nat.le_of_ble_eq_true rfl) (hts _ mw_309) (fun _ h9 => h9) rfl dX10_inside_1 ?_
      have hc9_1 : inPl L f [(oc1 fe2 (rk f0) (wd f0) (tw f0) (pa f0) (pb f0) (.ref lo2) (.ref lk2) fm2), (oc4 lk2 (kd f0) (st f0) (.ref r2) (gb f0) (it f0) we2)] := ⟨hfe2, hlk2, trivial⟩
      have hD0_1 := hD
      obtain ⟨T_1, hT_1, hP, hD⟩ := pl_oT hP hD hc9_1 (pwF hfe2.2 hlk2.2)
      obtain ⟨hP, hD⟩ := zre (W2 := ([_, _, _, _, _] ++ va_pl T_1 f)) hP hD rfl
      refine lv_iload_n hx hb dX10_inside_4 rfl (lv_at hl 3 rfl) ?_
      obtain ⟨hPc, hDc, hFc, hI1⟩ := zi_sub (wc := [_, _, _, _]) hP hD hS hA [1, 2, 3, 4] (by decide +kernel) rfl
      refine zcall (st1 := [.ref r2]) (va_runV (As := [.int (nI f0)]) (rest := []) ⟨hx, hb, hml, hown, hts⟩ (k_Sheet_rowThere_yv l dC dI cI cZ cF s.heap.size sh fa ft FA f0 fe2 lo2 (rk f0) (wd f0) (tw f0) (pa f0) (pb f0) lk2 (kd f0) (st f0) (gb f0) (it f0) we2 r2 fm2 (h200) (by first | with_reducible assumption | omega) (hFA2) (by first | exact hA2 | omega)) (csV_144 hts rfl rfl ⟨Nat.le_of_ble_eq_true rfl, Nat.le_of_ble_eq_true rfl⟩) (zPV2 (q0 := 0) (ci := 7) hPc hDc hK hXN rfl rfl) rfl rfl hl.1 rfl (lv_room (Nat.le_of_ble_eq_true rfl)) dX10_inside_5 ⟨Nat.le_of_ble_eq_true rfl, Nat.le_of_ble_eq_true rfl⟩) hS hFc hFc rfl (fun t H locs ht hB hk1 hS => ?_)
      obtain ⟨hP1, hD1⟩ := hB
      rw [ht] at hP1
      replace hP := z0 hP hD hk1 hP1 hI1
      clear hk1 hPc hDc hFc hP1 hD1 ht hI1
      obtain ⟨hP, hD⟩ := pl_bk (X := [_, _, _]) hT_1 hP rfl hc9_1 hD0_1 rfl
      refine lv_astore (lv' := [(4, .ref r2), (0, .ref x), (1, .int px), (2, .int py), (3, .int (nI f0))]) hx hb dX10_inside_8 hl (Nat.le_of_ble_eq_true rfl) rfl (fun ls hl => ?_)
      refine lv_aload hx hb dX10_inside_10 (lv_at hl 0 rfl) ?_
      refine lv_ifnull hx hb dX10_inside_12 ?_
      exact absurd ⟨f0, rfl, hq2, hA2, ht2⟩ hbad
    · skip
      refine va_get (D := (dC, dI)) (ci := 8) (v := .ref sh) (C := RX10) (T := TX10) (N := 13) hx hb hts inX10 hown hK hP 0 rfl rfl 0 (Nat.le_of_ble_eq_true rfl) (hts _ mw_309) (fun _ h9 => h9) rfl dX10_inside_1 ?_
      have hc9_1 : inPl L f [(oc1 fe2 (rk f0) (wd f0) (tw f0) (pa f0) (pb f0) (.ref lo2) (.ref lk2) fm2), (oc4 lk2 (kd f0) (st f0) (.ref r2) (gb f0) (it f0) we2)] := ⟨hfe2, hlk2, trivial⟩
      have hD0_1 := hD
      obtain ⟨T_1, hT_1, hP, hD⟩ := pl_oT hP hD hc9_1 (pwF hfe2.2 hlk2.2)
      obtain ⟨hP, hD⟩ := zre (W2 := ([_, _, _, _, _] ++ va_pl T_1 f)) hP hD rfl
      refine lv_iload_n hx hb dX10_inside_4 rfl (lv_at hl 3 rfl) ?_
      obtain ⟨hPc, hDc, hFc, hI1⟩ := zi_sub (wc := [_, _, _, _]) hP hD hS hA [1, 2, 3, 4] (by decide +kernel) rfl
      refine zcall (st1 := [.null]) (va_runV (As := [.int (nI f0)]) (rest := []) ⟨hx, hb, hml, hown, hts⟩ (k_Sheet_rowThere_sv l dC dI cI cZ cF s.heap.size sh fa ft FA f0 fe2 lo2 (rk f0) (wd f0) (tw f0) (pa f0) (pb f0) lk2 (kd f0) (st f0) (gb f0) (it f0) we2 fm2 (.ref r2) (h200) (by first | with_reducible assumption | omega) (hFA2) (by first | exact hA2 | omega)) (csV_144 hts rfl rfl ⟨Nat.le_of_ble_eq_true rfl, Nat.le_of_ble_eq_true rfl⟩) (zPV2 (q0 := 0) (ci := 7) hPc hDc hK hXN rfl rfl) rfl rfl hl.1 rfl (lv_room (Nat.le_of_ble_eq_true rfl)) dX10_inside_5 ⟨Nat.le_of_ble_eq_true rfl, Nat.le_of_ble_eq_true rfl⟩) hS hFc hFc rfl (fun t H locs ht hB hk1 hS => ?_)
      obtain ⟨hP1, hD1⟩ := hB
      rw [ht] at hP1
      replace hP := z0 hP hD hk1 hP1 hI1
      clear hk1 hPc hDc hFc hP1 hD1 ht hI1
      obtain ⟨hP, hD⟩ := pl_bk (X := [_, _, _]) hT_1 hP rfl hc9_1 hD0_1 rfl
      refine lv_astoreN (lv' := [(4, .null), (0, .ref x), (1, .int px), (2, .int py), (3, .int (nI f0))]) hx hb dX10_inside_8 hl (Nat.le_of_ble_eq_true rfl) rfl (fun ls hl => ?_)
      refine lv_aloadN hx hb dX10_inside_10 (lv_at hl 0 rfl) ?_
      refine lv_ifnullN (tgt := 31) hx hb dX10_inside_12 rfl ?_
      refine lv_iconst (v := (-1)) hx hb dX10_inside_31 rfl ?_
      obtain ⟨hP9, hD9⟩ := zu_part (cx := [_, _, _]) hP hD [true, true, true] rfl rfl
      rw [hQ9]
      exact W.iret (v := (-1)) hx hb hr (fun t ht hW => ⟨⟨rfl, by rw [ht]; exact hP9, hD9⟩, hS.F ht⟩) hS.2.2 dX10_inside_32
set_option maxHeartbeats 4000000 in
set_option maxRecDepth 100000 in
theorem k_inside_w (l : Launch) (dC : Nat → ClassId) (dI : Nat → Nat → Nat) (cI cZ cF : ClassId) (sz : Nat) (x : Nat) (sh : Nat) (lw : Nat) (ro : Nat) (bq : Nat) (bp : Nat) (dq : Nat) (dp : Nat) (lv : Nat) (sl : Nat) (sd : Int32) (ul : Int32) (su : Int32) (ds : Int32) (fa : Nat) (ft : Nat) (FA : Nat → Option Nat) (f0 : Nat) (L : List Nat) (f : Nat → va_E) (kd : Nat → Int32) (st : Nat → Int32) (tn : Nat → Int32) (mn : Nat → Int32) (cx : Nat → Int32) (cy : Nat → Int32) (rk : Nat → Int32) (wd : Nat → Int32) (tw : Nat → Int32) (pa : Nat → Int32) (pb : Nat → Int32) (gb : Nat → Int32) (it : Nat → Int32) (px : Int32) (py : Int32) (h200 : ft ≤ 200) (hf0 : f0 < ft) (hva : ∀ q, q < ft → vwA cI L f FA rk wd tw pa pb kd st gb it tn mn cx cy q) (hok : okA ft st tn kd mn cx cy) (hlv : lvF ft st tn f0) : Met l yX10_inside (.code yX10_inside cX10_inside 5 (some .int) :: ws0) ({ frames := 2, cells := 0, slots := 0, locals := 43 } : Room) (va_Pc [.ref x, .int px, .int py, .int (nI f0)] (zPre (dC, dI) classes (zTy cI cZ cF) ([(oc8 x (.ref sh) (.ref lw) (.ref ro) (.ref bq) (.ref bp) (.ref dq) (.ref dp) (.ref lv) (.ref sl) ds sd ul su), (oc7 sh (.ref fa) (nI ft)), (oq fa cF 200 FA)] ++ va_pl L f) sz zXN)) (zQe (fun v9 t => ∃ (b9 : Int32), v9 = (some (.int b9)) ∧ va_P (dC, dI) classes ([(oc8 x (.ref sh) (.ref lw) (.ref ro) (.ref bq) (.ref bp) (.ref dq) (.ref dp) (.ref lv) (.ref sl) ds sd ul su), (oc7 sh (.ref fa) (nI ft)), (oq fa cF 200 FA)] ++ va_pl L f) t.heap ∧ va_D (va_A ([(oc8 x (.ref sh) (.ref lw) (.ref ro) (.ref bq) (.ref bp) (.ref dq) (.ref dp) (.ref lv) (.ref sl) ds sd ul su), (oc7 sh (.ref fa) (nI ft)), (oq fa cF 200 FA)] ++ va_pl L f) sz) ([(oc8 x (.ref sh) (.ref lw) (.ref ro) (.ref bq) (.ref bp) (.ref dq) (.ref dp) (.ref lv) (.ref sl) ds sd ul su), (oc7 sh (.ref fa) (nI ft)), (oq fa cF 200 FA)] ++ va_pl L f)) (va_A ([(oc8 x (.ref sh) (.ref lw) (.ref ro) (.ref bq) (.ref bp) (.ref dq) (.ref dp) (.ref lv) (.ref sl) ds sd ul su), (oc7 sh (.ref fa) (nI ft)), (oq fa cF 200 FA)] ++ va_pl L f) sz)) 0 0 (va_A ([(oc8 x (.ref sh) (.ref lw) (.ref ro) (.ref bq) (.ref bp) (.ref dq) (.ref dp) (.ref lv) (.ref sl) ds sd ul su), (oc7 sh (.ref fa) (nI ft)), (oq fa cF 200 FA)] ++ va_pl L f) sz) := by
  refine Met.ofW (cc := cX10_inside) (maxL := 5) (ret := (some .int)) rfl rfl ?_
  intro p e s m args below meth c s₁ B hml hv
  obtain ⟨rfl, hsz, hP, hK, hD0, hXN⟩ := hv
  have hx := B.exec
  have hb := B.bytes
  have hr := B.returns
  have hts0 := atoms_spec (ws := .code yX10_inside cX10_inside 5 (some .int) :: ws0) B.pre
  have hts : ∀ w9 ∈ ws0, w9.before ([.ref x, .int px, .int py, .int (nI f0)] : List Value).toArray s = true := fun w9 h => hts0 w9 (List.mem_cons_of_mem _ h)
  have hown : s.vm.findClass "ScaleShop" = some m.cls := findClass_of_methodNamed B.named
  have hlocks := B.notSynchronized
  subst hsz
  have hD := hD0.self (sz := s.heap.size)
  clear hD0
  generalize hAe : va_A ([(oc8 x (.ref sh) (.ref lw) (.ref ro) (.ref bq) (.ref bp) (.ref dq) (.ref dp) (.ref lv) (.ref sl) ds sd ul su), (oc7 sh (.ref fa) (nI ft)), (oq fa cF 200 FA)] ++ va_pl L f) s.heap.size = A at hD ⊢
  have hA : ∀ q : Nat, s.heap.size ≤ q → A q := fun q h => by rw [← hAe]; exact Or.inr h
  clear hAe
  have hS : va_S A s.heap s.heap [] := va_S.rf
  have hP : va_P (dC, dI) classes ([(oc8 x (.ref sh) (.ref lw) (.ref ro) (.ref bq) (.ref bp) (.ref dq) (.ref dp) (.ref lv) (.ref sl) ds sd ul su), (oc7 sh (.ref fa) (nI ft)), (oq fa cF 200 FA)] ++ va_pl L f) s.heap := hP
  obtain ⟨Q9, hQ9⟩ : ∃ Q9 : State → Prop, Q9 = MQ below (zQe (fun v9 t => ∃ (b9 : Int32), v9 = (some (.int b9)) ∧ va_P (dC, dI) classes ([(oc8 x (.ref sh) (.ref lw) (.ref ro) (.ref bq) (.ref bp) (.ref dq) (.ref dp) (.ref lv) (.ref sl) ds sd ul su), (oc7 sh (.ref fa) (nI ft)), (oq fa cF 200 FA)] ++ va_pl L f) t.heap ∧ va_D A ([(oc8 x (.ref sh) (.ref lw) (.ref ro) (.ref bq) (.ref bp) (.ref dq) (.ref dp) (.ref lv) (.ref sl) ds sd ul su), (oc7 sh (.ref fa) (nI ft)), (oq fa cF 200 FA)] ++ va_pl L f)) A) ([.ref x, .int px, .int py, .int (nI f0)] : List Value).toArray s 0 0 A := ⟨_, rfl⟩
  rw [← hQ9]
  have hl := lv_entry ([.ref x, .int px, .int py, .int (nI f0)]) (n := 5) (Nat.le_of_ble_eq_true rfl)
  rw [lg_entry_eq]
  generalize (lg_sl ([.ref x, .int px, .int py, .int (nI f0)]) ++ List.replicate (5 - (lg_sl ([.ref x, .int px, .int py, .int (nI f0)])).length) Slot.unset).toArray = ls at hl ⊢
  have hl : lv_has ls 5 [(0, .ref x), (1, .int px), (2, .int py), (3, .int (nI f0))] := hl
  obtain ⟨fe2, lk2, lo2, we2, fm2, r2, rx2, ry2, cap2, U2, V2, rg2, hFA2, hfe2, hlk2, ⟨hr2, hrx2, hry2, hne2⟩, hrr2⟩ := vwA_l (hva f0 (by omega)) hlv.2.2
  · skip
    have hcap2 := hrr2.1
    have hcap3 := hrr2.2.1
    have hA2 := hlv.2.1
    have ht2 := hlv.2.2
    have hw2 := (hok f0 hlv).1
    have hq2 := rw_pls hrr2 hw2
    have hn2 := hw2.2.1
    have hrg2 := hrr2.2.2.2.1
    have hab2 := ar2B hq2 _ (Nat.le_refl _)
    have hlb2 := ln2B hq2 (nN (mn f0) - 1) (by omega)
    have hc9_1 : inPl L f [(oc1 fe2 (rk f0) (wd f0) (tw f0) (pa f0) (pb f0) (.ref lo2) (.ref lk2) fm2), (oc4 lk2 (kd f0) (st f0) (.ref r2) (gb f0) (it f0) we2), (oc6 r2 (.ref rx2) (.ref ry2) (nI (nN (mn f0))) rg2), (oa rx2 cI cap2 U2), (oa ry2 cI cap2 V2)] := ⟨hfe2, hlk2, hr2, hrx2, hry2, trivial⟩
    have hD0_1 := hD
    obtain ⟨T_1, hT_1, hP, hD⟩ := pl_oT hP hD hc9_1 (pwR hfe2.2 hlk2.2 hr2.2 hrx2.2 hry2.2 hne2)
    obtain ⟨hP, hD⟩ := zre (W2 := ([_, _, _, _, _, _, _, _] ++ va_pl T_1 f)) hP hD rfl
    refine lv_aload_n hx hb dX10_inside_0 rfl (lv_at hl 0 rfl) ?_
    refine va_get (D := (dC, dI)) (ci := 8) (v := .ref sh) (C := RX10) (T := TX10) (N := 13) hx hb hts inX10 hown hK hP 0 rfl rfl 0 (Nat.le_of_ble_eq_true rfl) (hts _ mw_309) (fun _ h9 => h9) rfl dX10_inside_1 ?_
    refine lv_iload_n hx hb dX10_inside_4 rfl (lv_at hl 3 rfl) ?_
    obtain ⟨hPc, hDc, hFc, hI1⟩ := zi_sub (wc := [_, _, _, _]) hP hD hS hA [1, 2, 3, 4] (by decide +kernel) rfl
    refine zcall (st1 := [.ref r2]) (va_runV (As := [.int (nI f0)]) (rest := []) ⟨hx, hb, hml, hown, hts⟩ (k_Sheet_rowThere_yv l dC dI cI cZ cF s.heap.size sh fa ft FA f0 fe2 lo2 (rk f0) (wd f0) (tw f0) (pa f0) (pb f0) lk2 (kd f0) (st f0) (gb f0) (it f0) we2 r2 fm2 (by first | with_reducible assumption | omega) (by first | with_reducible assumption | omega) (hFA2) (by first | exact hA2 | omega)) (csV_144 hts rfl rfl ⟨Nat.le_of_ble_eq_true rfl, Nat.le_of_ble_eq_true rfl⟩) (zPV2 (q0 := 0) (ci := 7) hPc hDc hK hXN rfl rfl) rfl rfl hl.1 rfl (lv_room (Nat.le_of_ble_eq_true rfl)) dX10_inside_5 ⟨Nat.le_of_ble_eq_true rfl, Nat.le_of_ble_eq_true rfl⟩) hS hFc hFc rfl (fun t H locs ht hB hk1 hS => ?_)
    obtain ⟨hP1, hD1⟩ := hB
    rw [ht] at hP1
    replace hP := z0 hP hD hk1 hP1 hI1
    clear hk1 hPc hDc hFc hP1 hD1 ht hI1
    refine lv_astore (lv' := [(4, .ref r2), (0, .ref x), (1, .int px), (2, .int py), (3, .int (nI f0))]) hx hb dX10_inside_8 hl (Nat.le_of_ble_eq_true rfl) rfl (fun ls hl => ?_)
    refine lv_aload hx hb dX10_inside_10 (lv_at hl 0 rfl) ?_
    refine lv_ifnull hx hb dX10_inside_12 ?_
    refine lv_aload hx hb dX10_inside_15 (lv_at hl 0 rfl) ?_
    refine va_get (D := (dC, dI)) (ci := 6) (v := .int rg2) (C := RX7) (T := TX7) (N := 4) hx hb hts inX7 hown hK hP 5 rfl rfl 3 (Nat.le_of_ble_eq_true rfl) (hts _ mw_185) (fun _ h9 => h9) rfl dX10_inside_17 ?_
    refine lv_if_eq (tgt := 31) hx hb dX10_inside_20 rfl (fun c_1 => ?_) (fun c_1 => ?_)
    · have c_1 : rg2.toInt = 0 := zc_eq rfl rfl c_1
      refine lv_iconst (v := (-1)) hx hb dX10_inside_31 rfl ?_
      obtain ⟨hP, hD⟩ := pl_bk (X := [_, _, _]) hT_1 hP rfl hc9_1 hD0_1 rfl
      obtain ⟨hP9, hD9⟩ := zu_part (cx := [_, _, _]) hP hD [true, true, true] rfl rfl
      rw [hQ9]
      exact W.iret (v := (-1)) hx hb hr (fun t ht hW => ⟨⟨_, rfl, (-1), rfl, by rw [ht]; exact hP9, hD9⟩, hS.F ht⟩) hS.2.2 dX10_inside_32
    · have c_1 : ¬ rg2.toInt = 0 := zc_ne rfl rfl c_1
      refine lv_iload_n hx hb dX10_inside_23 rfl (lv_at hl 2 rfl) ?_
      refine lv_iload_n hx hb dX10_inside_24 rfl (lv_at hl 3 rfl) ?_
      obtain ⟨hPc, hDc, hFc, hI1⟩ := zi_sub (wc := []) hP hD hS hA [] rfl rfl
      refine zcall (st1 := [.int (pI (pl px ∧ pl py))]) (va_runS (As := [.int px, .int py]) (rest := []) ⟨hx, hb, hml, hown, hts⟩ (k_isPlace l dC dI cI cZ cF H.size px py ) (csS_98 hts rfl rfl ⟨Nat.le_of_ble_eq_true rfl, Nat.le_of_ble_eq_true rfl⟩) (zPS2 hPc hDc hK hXN) rfl rfl hl.1 rfl (lv_room (Nat.le_of_ble_eq_true rfl)) dX10_inside_25 ⟨Nat.le_of_ble_eq_true rfl, Nat.le_of_ble_eq_true rfl⟩) hS hFc hFc rfl (fun t H locs ht hB hk1 hS => ?_)
      obtain ⟨hP1, hD1⟩ := hB
      rw [ht] at hP1
      replace hP := z0 hP hD hk1 hP1 hI1
      clear hk1 hPc hDc hFc hP1 hD1 ht hI1
      refine lv_if_ne (tgt := 33) hx hb dX10_inside_28 rfl (fun c_2 => ?_) (fun c_2 => ?_)
      · have c_2 : pl px ∧ pl py := zp_1 c_2
        refine lv_aload hx hb dX10_inside_33 (lv_at hl 0 rfl) ?_
        refine lv_iload_n hx hb dX10_inside_35 rfl (lv_at hl 2 rfl) ?_
        refine lv_iload_n hx hb dX10_inside_36 rfl (lv_at hl 3 rfl) ?_
        obtain ⟨hPc, hDc, hFc, hI1⟩ := zi_sub (wc := [_, _, _]) hP hD hS hA [5, 6, 7] rfl rfl
        refine zcall (st1 := [.int (whr (nN (mn f0)) U2 V2 px.toInt py.toInt)]) (va_runV (As := [.int px, .int py]) (rest := []) ⟨hx, hb, hml, hown, hts⟩ (k_Row_where l dC dI cI cZ cF H.size r2 rx2 ry2 (nN (mn f0)) cap2 U2 V2 rg2 px py (by first | with_reducible assumption | omega) (by first | with_reducible assumption | omega) (hq2) ((show pl px ∧ pl py by assumption).1) ((show pl px ∧ pl py by assumption).2)) (csV_145 hts rfl rfl ⟨Nat.le_of_ble_eq_true rfl, Nat.le_of_ble_eq_true rfl⟩) (zPV2 (q0 := 0) (ci := 6) hPc hDc hK hXN rfl rfl) rfl rfl hl.1 rfl (lv_room (Nat.le_of_ble_eq_true rfl)) dX10_inside_37 ⟨Nat.le_of_ble_eq_true rfl, Nat.le_of_ble_eq_true rfl⟩) hS hFc hFc rfl (fun t H locs ht hB hk1 hS => ?_)
        obtain ⟨hP1, hD1⟩ := hB
        rw [ht] at hP1
        replace hP := z0 hP hD hk1 hP1 hI1
        clear hk1 hPc hDc hFc hP1 hD1 ht hI1
        obtain ⟨hP, hD⟩ := pl_bk (X := [_, _, _]) hT_1 hP rfl hc9_1 hD0_1 rfl
        obtain ⟨hP9, hD9⟩ := zu_part (cx := [_, _, _]) hP hD [true, true, true] rfl rfl
        rw [hQ9]
        exact W.iret (v := whr (nN (mn f0)) U2 V2 px.toInt py.toInt) hx hb hr (fun t ht hW => ⟨⟨_, rfl, (whr (nN (mn f0)) U2 V2 px.toInt py.toInt), rfl, by rw [ht]; exact hP9, hD9⟩, hS.F ht⟩) hS.2.2 dX10_inside_40
      · have c_2 : ¬ (pl px ∧ pl py) := zp_0 c_2
        refine lv_iconst (v := (-1)) hx hb dX10_inside_31 rfl ?_
        obtain ⟨hP, hD⟩ := pl_bk (X := [_, _, _]) hT_1 hP rfl hc9_1 hD0_1 rfl
        obtain ⟨hP9, hD9⟩ := zu_part (cx := [_, _, _]) hP hD [true, true, true] rfl rfl
        rw [hQ9]
        exact W.iret (v := (-1)) hx hb hr (fun t ht hW => ⟨⟨_, rfl, (-1), rfl, by rw [ht]; exact hP9, hD9⟩, hS.F ht⟩) hS.2.2 dX10_inside_32
set_option maxHeartbeats 4000000 in
set_option maxRecDepth 100000 in
theorem k_step_a (l : Launch) (dC : Nat → ClassId) (dI : Nat → Nat → Nat) (cI cZ cF : ClassId) (sz : Nat) (cO : ClassId) (e0 : Nat) (mi : Nat) (x : Nat) (sh : Nat) (lw : Nat) (ro : Nat) (bq : Nat) (bp : Nat) (dq : Nat) (dp : Nat) (lv : Nat) (sl : Nat) (sd : Int32) (ul : Int32) (su : Int32) (ea : Nat) (mc9 : Int32) (fa : Nat) (FA : Nat → Option Nat) (bs : Nat) (dn : Nat) (T : Nat) (ft : Nat) (FT : Nat → Nat) (V : Nat → Nat → Nat → Int32) (VX : Nat → Nat → Int32) (VY : Nat → Nat → Int32) (tn : Nat → Int32) (rk : Nat → Int32) (wd : Nat → Int32) (tw : Nat → Int32) (pa : Nat → Int32) (pb : Nat → Int32) (wh : Nat → Int32) (of9 : Nat → Int32) (we : Nat → Int32) (kd : Nat → Int32) (st : Nat → Int32) (gb : Nat → Int32) (it : Nat → Int32) (mn : Nat → Int32) (cx : Nat → Int32) (cy : Nat → Int32) (L : List Nat) (f : Nat → va_E) (i5 : Nat) (w : Int32) (hB : shB cI cO L f e0 FA ea bs dn T ft FT V VX VY tn rk wd tw pa pb wh of9 we kd st gb it mn cx cy) (hi5 : 1 ≤ i5 ∧ i5 ≤ T) : Met l yX10_step (.code yX10_step cX10_step 4 (some .int) :: ws0) ({ frames := 3, cells := 0, slots := 0, locals := 64 } : Room) (va_Pc [.ref x, .int (nI i5), .int w] (zPre (dC, dI) classes (zTyO cI cZ cF cO) ([(oc8 x (.ref sh) (.ref lw) (.ref ro) (.ref bq) (.ref bp) (.ref dq) (.ref dp) (.ref lv) (.ref sl) (nI dn) sd ul su), (oc10 sl mc9 (.ref ea) (nI T)), (oc7 sh (.ref fa) (nI ft)), (oq fa cF 200 FA)] ++ va_pl L f) sz (zXL e0 mi (va_A ([(oc8 x (.ref sh) (.ref lw) (.ref ro) (.ref bq) (.ref bp) (.ref dq) (.ref dp) (.ref lv) (.ref sl) (nI dn) sd ul su), (oc10 sl mc9 (.ref ea) (nI T)), (oc7 sh (.ref fa) (nI ft)), (oq fa cF 200 FA)] ++ va_pl L f) sz)))) (zQe (fun v9 t => ∃ (b9 : Int32), v9 = (some (.int b9)) ∧ va_P (dC, dI) classes ([(oc8 x (.ref sh) (.ref lw) (.ref ro) (.ref bq) (.ref bp) (.ref dq) (.ref dp) (.ref lv) (.ref sl) (nI dn) sd ul su), (oc10 sl mc9 (.ref ea) (nI T)), (oc7 sh (.ref fa) (nI ft)), (oq fa cF 200 FA)] ++ va_pl L f) t.heap ∧ va_D (va_A ([(oc8 x (.ref sh) (.ref lw) (.ref ro) (.ref bq) (.ref bp) (.ref dq) (.ref dp) (.ref lv) (.ref sl) (nI dn) sd ul su), (oc10 sl mc9 (.ref ea) (nI T)), (oc7 sh (.ref fa) (nI ft)), (oq fa cF 200 FA)] ++ va_pl L f) sz) ([(oc8 x (.ref sh) (.ref lw) (.ref ro) (.ref bq) (.ref bp) (.ref dq) (.ref dp) (.ref lv) (.ref sl) (nI dn) sd ul su), (oc10 sl mc9 (.ref ea) (nI T)), (oc7 sh (.ref fa) (nI ft)), (oq fa cF 200 FA)] ++ va_pl L f)) (va_A ([(oc8 x (.ref sh) (.ref lw) (.ref ro) (.ref bq) (.ref bp) (.ref dq) (.ref dp) (.ref lv) (.ref sl) (nI dn) sd ul su), (oc10 sl mc9 (.ref ea) (nI T)), (oc7 sh (.ref fa) (nI ft)), (oq fa cF 200 FA)] ++ va_pl L f) sz)) 0 0 (va_A ([(oc8 x (.ref sh) (.ref lw) (.ref ro) (.ref bq) (.ref bp) (.ref dq) (.ref dp) (.ref lv) (.ref sl) (nI dn) sd ul su), (oc10 sl mc9 (.ref ea) (nI T)), (oc7 sh (.ref fa) (nI ft)), (oq fa cF 200 FA)] ++ va_pl L f) sz) := by
  refine Met.ofW (cc := cX10_step) (maxL := 4) (ret := (some .int)) rfl rfl ?_
  intro p e s m args below meth c s₁ B hml hv
  obtain ⟨rfl, hsz, hP, hK, hD0, hXL⟩ := hv
  have hx := B.exec
  have hb := B.bytes
  have hr := B.returns
  have hts0 := atoms_spec (ws := .code yX10_step cX10_step 4 (some .int) :: ws0) B.pre
  have hts : ∀ w9 ∈ ws0, w9.before ([.ref x, .int (nI i5), .int w] : List Value).toArray s = true := fun w9 h => hts0 w9 (List.mem_cons_of_mem _ h)
  have hown : s.vm.findClass "ScaleShop" = some m.cls := findClass_of_methodNamed B.named
  have hlocks := B.notSynchronized
  subst hsz
  have hD := hD0.self (sz := s.heap.size)
  clear hD0
  generalize hAe : va_A ([(oc8 x (.ref sh) (.ref lw) (.ref ro) (.ref bq) (.ref bp) (.ref dq) (.ref dp) (.ref lv) (.ref sl) (nI dn) sd ul su), (oc10 sl mc9 (.ref ea) (nI T)), (oc7 sh (.ref fa) (nI ft)), (oq fa cF 200 FA)] ++ va_pl L f) s.heap.size = A at hD hXL ⊢
  have hA : ∀ q : Nat, s.heap.size ≤ q → A q := fun q h => by rw [← hAe]; exact Or.inr h
  clear hAe
  have hS : va_S A s.heap s.heap [] := va_S.rf
  have hXN := hXL.1
  have hK3 := hK.sub [0, 1, 2] rfl
  have hP : va_P (dC, dI) classes ([(oc8 x (.ref sh) (.ref lw) (.ref ro) (.ref bq) (.ref bp) (.ref dq) (.ref dp) (.ref lv) (.ref sl) (nI dn) sd ul su), (oc10 sl mc9 (.ref ea) (nI T)), (oc7 sh (.ref fa) (nI ft)), (oq fa cF 200 FA)] ++ va_pl L f) s.heap := hP
  obtain ⟨Q9, hQ9⟩ : ∃ Q9 : State → Prop, Q9 = MQ below (zQe (fun v9 t => ∃ (b9 : Int32), v9 = (some (.int b9)) ∧ va_P (dC, dI) classes ([(oc8 x (.ref sh) (.ref lw) (.ref ro) (.ref bq) (.ref bp) (.ref dq) (.ref dp) (.ref lv) (.ref sl) (nI dn) sd ul su), (oc10 sl mc9 (.ref ea) (nI T)), (oc7 sh (.ref fa) (nI ft)), (oq fa cF 200 FA)] ++ va_pl L f) t.heap ∧ va_D A ([(oc8 x (.ref sh) (.ref lw) (.ref ro) (.ref bq) (.ref bp) (.ref dq) (.ref dp) (.ref lv) (.ref sl) (nI dn) sd ul su), (oc10 sl mc9 (.ref ea) (nI T)), (oc7 sh (.ref fa) (nI ft)), (oq fa cF 200 FA)] ++ va_pl L f)) A) ([.ref x, .int (nI i5), .int w] : List Value).toArray s 0 0 A := ⟨_, rfl⟩
  rw [← hQ9]
  have hl := lv_entry ([.ref x, .int (nI i5), .int w]) (n := 4) (Nat.le_of_ble_eq_true rfl)
  rw [lg_entry_eq]
  generalize (lg_sl ([.ref x, .int (nI i5), .int w]) ++ List.replicate (4 - (lg_sl ([.ref x, .int (nI i5), .int w])).length) Slot.unset).toArray = ls at hl ⊢
  have hl : lv_has ls 4 [(0, .ref x), (1, .int (nI i5)), (2, .int w)] := hl
  obtain ⟨own, fe, cl, la, sp, SA, hG9, hH9, hft9, hO9⟩ := hB
  have hN9 := hG9.2.2.2.2.2.1
  have hdT := hN9.2.1
  have hT5 := hN9.2.2.1
  have hbd := hN9.1
  obtain ⟨hs1, mv5, ch5, hs2, hs3⟩ := hG9.2.2.2.1 i5 (by omega) (by omega)
  obtain ⟨cap5, hce5, hnc5, hc10, hc1k, hent⟩ : ∃ cap : Nat, ce L f own 8002 ea (.inl (cO, cap, .inr (.inr (.inr (.inr SA))))) ∧ T ≤ cap ∧ 10 ≤ cap ∧ cap ≤ 1000 ∧ ∀ i, i < T → ∃ (y : Nat) (vs : List Value), SA i = some y ∧ ce L f own 8001 y (.inr (11, vs)) := (hG9.2.2.2.2.1).resolve_left (fun g => by omega)
  have hc9_1 : inPl L f [(oq ea cO cap5 SA), (oc11 (sp i5) (wh i5) (of9 i5) (we i5) mv5 ch5)] := ⟨ce_pl hce5, ce_pl hs2, trivial⟩
  have hD0_1 := hD
  obtain ⟨T_1, hT_1, hP, hD⟩ := pl_oT hP hD hc9_1 (pw2 (ca_ne hs2.2.1 hce5.2.1).symm)
  obtain ⟨hP, hD⟩ := zre (W2 := ([_, _, _, _, _, _] ++ va_pl T_1 f)) hP hD rfl
  refine lv_iload_n hx hb dX10_step_0 rfl (lv_at hl 1 rfl) ?_
  refine lv_iconst (v := 1) hx hb dX10_step_1 rfl ?_
  have b9_2 : zlt (i5) := show i5 < 2147483648 by omega
  refine lv_icmp_lt (tgt := 16) hx hb dX10_step_2 rfl (fun c_1 => ?_) (fun c_1 => ?_)
  · have c_1 : ((i5 : Nat) : Int) < 1 := zc_lt (nI_toInt b9_2) rfl c_1
    exfalso; omega
  · have c_1 : 1 ≤ ((i5 : Nat) : Int) := zc_nlt (nI_toInt b9_2) rfl c_1
    refine lv_iload_n hx hb dX10_step_5 rfl (lv_at hl 1 rfl) ?_
    refine lv_aload_n hx hb dX10_step_6 rfl (lv_at hl 0 rfl) ?_
    refine va_get (D := (dC, dI)) (ci := 8) (v := .ref sl) (C := RX10) (T := TX10) (N := 13) hx hb hts inX10 hown hK hP 0 rfl rfl 8 (Nat.le_of_ble_eq_true rfl) (hts _ mw_317) (fun _ h9 => h9) rfl dX10_step_7 ?_
    obtain ⟨hPc, hDc, hFc, hI1⟩ := zi_sub (wc := [_]) hP hD hS hA [1] rfl rfl
    refine zcall (st1 := [.int (nI T), .int (nI i5)]) (va_runV (As := []) (rest := [.int (nI i5)]) ⟨hx, hb, hml, hown, hts⟩ (k_AL_size l dC dI cI cZ cF s.heap.size sl ea T mc9 ) (csV_90 hts rfl rfl ⟨Nat.le_of_ble_eq_true rfl, Nat.le_of_ble_eq_true rfl⟩) (zPV2 (q0 := 0) (ci := 10) hPc hDc hK3 hXN rfl rfl) rfl rfl hl.1 rfl (lv_room (Nat.le_of_ble_eq_true rfl)) dX10_step_10 ⟨Nat.le_of_ble_eq_true rfl, Nat.le_of_ble_eq_true rfl⟩) hS hFc hFc rfl (fun t H locs ht hB hk1 hS => ?_)
    obtain ⟨hP1, hD1⟩ := hB
    rw [ht] at hP1
    replace hP := z0 hP hD hk1 hP1 hI1
    clear hk1 hPc hDc hFc hP1 hD1 ht hI1
    have b9_4 : zlt (T) := show T < 2147483648 by omega
    refine lv_icmp_le (tgt := 18) hx hb dX10_step_13 rfl (fun c_3 => ?_) (fun c_3 => ?_)
    · have c_3 : ((i5 : Nat) : Int) ≤ ((T : Nat) : Int) := zc_le (nI_toInt b9_2) (nI_toInt b9_4) c_3
      refine lv_aload_n hx hb dX10_step_18 rfl (lv_at hl 0 rfl) ?_
      refine va_get (D := (dC, dI)) (ci := 8) (v := .ref sl) (C := RX10) (T := TX10) (N := 13) hx hb hts inX10 hown hK hP 0 rfl rfl 8 (Nat.le_of_ble_eq_true rfl) (hts _ mw_317) (fun _ h9 => h9) rfl dX10_step_19 ?_
      refine lv_iload_n hx hb dX10_step_22 rfl (lv_at hl 1 rfl) ?_
      refine lv_iconst (v := 1) hx hb dX10_step_23 rfl ?_
      refine lv_isub hx hb dX10_step_24 ?_
      refine zz_i (v := nI (i5 - 1)) (pk_sub (a := i5) (b := 1) (by omega)) ?_
      refine zz_i (v := nI (i5 - 1)) (zn_eq (by omega)) ?_
      obtain ⟨hPc, hDc, hFc, hI1⟩ := zi_sub (wc := [_, _]) hP hD hS hA [1, 4] rfl rfl
      refine zcall (st1 := [.ref (sp i5)]) (va_runV (As := [.int (nI (i5 - 1))]) (rest := []) ⟨hx, hb, hml, hown, hts⟩ (k_AL_get l dC dI cI cZ cF H.size cO e0 mi sl ea T mc9 (i5 - 1) cap5 (sp i5) SA (hs1) (by first | with_reducible assumption | omega) (by first | with_reducible assumption | omega) (by first | with_reducible assumption | omega) (by first | with_reducible assumption | omega)) (csV_112 hts rfl rfl ⟨Nat.le_of_ble_eq_true rfl, Nat.le_of_ble_eq_true rfl⟩) (zPVL (q0 := 0) (ci := 10) hPc hDc hK hXL hS hFc rfl rfl) rfl rfl hl.1 rfl (lv_room (Nat.le_of_ble_eq_true rfl)) dX10_step_25 ⟨Nat.le_of_ble_eq_true rfl, Nat.le_of_ble_eq_true rfl⟩) hS hFc hFc rfl (fun t H locs ht hB hk1 hS => ?_)
      obtain ⟨hP1, hD1⟩ := hB
      rw [ht] at hP1
      replace hP := z0 hP hD hk1 hP1 hI1
      clear hk1 hPc hDc hFc hP1 hD1 ht hI1
      refine va_castE hx hb hown (hts _ mw_757) (z_cellR (i := 0) hK (hP 5 _ rfl) rfl) dX10_step_28 ?_
      refine lv_astore_n (lv' := [(3, .ref (sp i5)), (0, .ref x), (1, .int (nI i5)), (2, .int w)]) hx hb dX10_step_31 rfl hl (Nat.le_of_ble_eq_true rfl) rfl (fun ls hl => ?_)
      refine lv_iload_n hx hb dX10_step_32 rfl (lv_at hl 3 rfl) ?_
      rcases zz_sw (lo := 0) (hi := 3) rfl with c_5 | c_5
      · refine lv_tableOut (tgt := 93) hx hb dX10_step_33 c_5.1 (by decide) ?_
        refine lv_iconst (v := (-1)) hx hb dX10_step_93 rfl ?_
        obtain ⟨hP, hD⟩ := pl_bk (X := [_, _, _, _]) hT_1 hP rfl hc9_1 hD0_1 rfl
        obtain ⟨hP9, hD9⟩ := zu_part (cx := [_, _, _, _]) hP hD [true, true, true, true] rfl rfl
        rw [hQ9]
        exact W.iret (v := (-1)) hx hb hr (fun t ht hW => ⟨⟨_, rfl, (-1), rfl, by rw [ht]; exact hP9, hD9⟩, hS.F ht⟩) hS.2.2 dX10_step_94
      · by_cases c_6 : w.toInt = 0
        · refine lv_tableIn (tgt := 64) (off := 31) hx hb dX10_step_33 c_5.2.1 c_5.2.2 (by rw [show (w).toInt = 0 from (rfl).trans c_6]; rfl) (by decide) ?_
          refine lv_aload_n hx hb dX10_step_64 rfl (lv_at hl 0 rfl) ?_
          refine va_get (D := (dC, dI)) (ci := 11) (v := .int (wh i5)) (C := RX9) (T := TX9) (N := 5) hx hb hts inX9 hown hK hP 5 rfl rfl 0 (Nat.le_of_ble_eq_true rfl) (hts _ mw_764) (fun _ h9 => h9) rfl dX10_step_65 ?_
          obtain ⟨hP, hD⟩ := pl_bk (X := [_, _, _, _]) hT_1 hP rfl hc9_1 hD0_1 rfl
          obtain ⟨hP9, hD9⟩ := zu_part (cx := [_, _, _, _]) hP hD [true, true, true, true] rfl rfl
          rw [hQ9]
          exact W.iret (v := wh i5) hx hb hr (fun t ht hW => ⟨⟨_, rfl, (wh i5), rfl, by rw [ht]; exact hP9, hD9⟩, hS.F ht⟩) hS.2.2 dX10_step_68
        by_cases c_7 : w.toInt = 1
        · refine lv_tableIn (tgt := 69) (off := 36) hx hb dX10_step_33 c_5.2.1 c_5.2.2 (by rw [show (w).toInt = 1 from (rfl).trans c_7]; rfl) (by decide) ?_
          refine lv_aload_n hx hb dX10_step_69 rfl (lv_at hl 0 rfl) ?_
          refine va_get (D := (dC, dI)) (ci := 11) (v := .int (of9 i5)) (C := RX9) (T := TX9) (N := 5) hx hb hts inX9 hown hK hP 5 rfl rfl 1 (Nat.le_of_ble_eq_true rfl) (hts _ mw_766) (fun _ h9 => h9) rfl dX10_step_70 ?_
          obtain ⟨hP, hD⟩ := pl_bk (X := [_, _, _, _]) hT_1 hP rfl hc9_1 hD0_1 rfl
          obtain ⟨hP9, hD9⟩ := zu_part (cx := [_, _, _, _]) hP hD [true, true, true, true] rfl rfl
          rw [hQ9]
          exact W.iret (v := of9 i5) hx hb hr (fun t ht hW => ⟨⟨_, rfl, (of9 i5), rfl, by rw [ht]; exact hP9, hD9⟩, hS.F ht⟩) hS.2.2 dX10_step_73
        by_cases c_8 : w.toInt = 2
        · refine lv_tableIn (tgt := 74) (off := 41) hx hb dX10_step_33 c_5.2.1 c_5.2.2 (by rw [show (w).toInt = 2 from (rfl).trans c_8]; rfl) (by decide) ?_
          refine lv_aload_n hx hb dX10_step_74 rfl (lv_at hl 0 rfl) ?_
          refine va_get (D := (dC, dI)) (ci := 11) (v := .int (we i5)) (C := RX9) (T := TX9) (N := 5) hx hb hts inX9 hown hK hP 5 rfl rfl 2 (Nat.le_of_ble_eq_true rfl) (hts _ mw_768) (fun _ h9 => h9) rfl dX10_step_75 ?_
          obtain ⟨hP, hD⟩ := pl_bk (X := [_, _, _, _]) hT_1 hP rfl hc9_1 hD0_1 rfl
          obtain ⟨hP9, hD9⟩ := zu_part (cx := [_, _, _, _]) hP hD [true, true, true, true] rfl rfl
          rw [hQ9]
          exact W.iret (v := we i5) hx hb hr (fun t ht hW => ⟨⟨_, rfl, (we i5), rfl, by rw [ht]; exact hP9, hD9⟩, hS.F ht⟩) hS.2.2 dX10_step_78
        by_cases c_9 : w.toInt = 3
        · refine lv_tableIn (tgt := 79) (off := 46) hx hb dX10_step_33 c_5.2.1 c_5.2.2 (by rw [show (w).toInt = 3 from (rfl).trans c_9]; rfl) (by decide) ?_
          refine lv_iload_n hx hb dX10_step_79 rfl (lv_at hl 2 rfl) ?_
          refine lv_aload_n hx hb dX10_step_80 rfl (lv_at hl 1 rfl) ?_
          refine va_get (D := (dC, dI)) (ci := 8) (v := .int (nI dn)) (C := RX10) (T := TX10) (N := 13) hx hb hts inX10 hown hK hP 0 rfl rfl 9 (Nat.le_of_ble_eq_true rfl) (hts _ mw_318) (fun _ h9 => h9) rfl dX10_step_81 ?_
          have b9_11 : zlt (dn) := show dn < 2147483648 by omega
          refine lv_icmp_gt (tgt := 91) hx hb dX10_step_84 rfl (fun c_10 => ?_) (fun c_10 => ?_)
          · have c_10 : ((dn : Nat) : Int) < ((i5 : Nat) : Int) := zc_lt (nI_toInt b9_11) (nI_toInt b9_2) c_10
            refine lv_iconst (v := 0) hx hb dX10_step_91 rfl ?_
            obtain ⟨hP, hD⟩ := pl_bk (X := [_, _, _, _]) hT_1 hP rfl hc9_1 hD0_1 rfl
            obtain ⟨hP9, hD9⟩ := zu_part (cx := [_, _, _, _]) hP hD [true, true, true, true] rfl rfl
            rw [hQ9]
            exact W.iret (v := 0) hx hb hr (fun t ht hW => ⟨⟨_, rfl, 0, rfl, by rw [ht]; exact hP9, hD9⟩, hS.F ht⟩) hS.2.2 dX10_step_92
          · have c_10 : ((i5 : Nat) : Int) ≤ ((dn : Nat) : Int) := zc_nlt (nI_toInt b9_11) (nI_toInt b9_2) c_10
            refine lv_iconst (v := 1) hx hb dX10_step_87 rfl ?_
            refine lv_goto (tgt := 92) hx hb dX10_step_88 rfl ?_
            obtain ⟨hP, hD⟩ := pl_bk (X := [_, _, _, _]) hT_1 hP rfl hc9_1 hD0_1 rfl
            obtain ⟨hP9, hD9⟩ := zu_part (cx := [_, _, _, _]) hP hD [true, true, true, true] rfl rfl
            rw [hQ9]
            exact W.iret (v := 1) hx hb hr (fun t ht hW => ⟨⟨_, rfl, 1, rfl, by rw [ht]; exact hP9, hD9⟩, hS.F ht⟩) hS.2.2 dX10_step_92
        exfalso; omega
    · have c_3 : ((T : Nat) : Int) < ((i5 : Nat) : Int) := zc_nle (nI_toInt b9_2) (nI_toInt b9_4) c_3
      exfalso; omega
set_option maxHeartbeats 4000000 in
set_option maxRecDepth 100000 in
theorem k_count_a (l : Launch) (dC : Nat → ClassId) (dI : Nat → Nat → Nat) (cI cZ cF : ClassId) (sz : Nat) (cO : ClassId) (e0 : Nat) (mi : Nat) (x : Nat) (sh : Nat) (lw : Nat) (ro : Nat) (bq : Nat) (bp : Nat) (dq : Nat) (dp : Nat) (lv : Nat) (sl : Nat) (sd : Int32) (ul : Int32) (su : Int32) (ea : Nat) (dn : Nat) (T : Nat) (mc9 : Int32) (fa : Nat) (ft : Nat) (FA : Nat → Option Nat) (L : List Nat) (f : Nat → va_E) (kd : Nat → Int32) (st : Nat → Int32) (tn : Nat → Int32) (mn : Nat → Int32) (cx : Nat → Int32) (cy : Nat → Int32) (rk : Nat → Int32) (wd : Nat → Int32) (tw : Nat → Int32) (pa : Nat → Int32) (pb : Nat → Int32) (gb : Nat → Int32) (it : Nat → Int32) (w : Int32) (h200 : ft ≤ 200) (hva : ∀ q, q < ft → vwA cI L f FA rk wd tw pa pb kd st gb it tn mn cx cy q) (hT5 : T ≤ 512) (hdT : dn ≤ T) : Met l yX10_count (.code yX10_count cX10_count 2 (some .int) :: ws0) ({ frames := 3, cells := 0, slots := 0, locals := 66 } : Room) (va_Pc [.ref x, .int w] (zPre (dC, dI) classes (zTyO cI cZ cF cO) ([(oc8 x (.ref sh) (.ref lw) (.ref ro) (.ref bq) (.ref bp) (.ref dq) (.ref dp) (.ref lv) (.ref sl) (nI dn) sd ul su), (oc10 sl mc9 (.ref ea) (nI T)), (oc7 sh (.ref fa) (nI ft)), (oq fa cF 200 FA)] ++ va_pl L f) sz (zXL e0 mi (va_A ([(oc8 x (.ref sh) (.ref lw) (.ref ro) (.ref bq) (.ref bp) (.ref dq) (.ref dp) (.ref lv) (.ref sl) (nI dn) sd ul su), (oc10 sl mc9 (.ref ea) (nI T)), (oc7 sh (.ref fa) (nI ft)), (oq fa cF 200 FA)] ++ va_pl L f) sz)))) (zQe (fun v9 t => ∃ (b9 : Int32), v9 = (some (.int b9)) ∧ va_P (dC, dI) classes ([(oc8 x (.ref sh) (.ref lw) (.ref ro) (.ref bq) (.ref bp) (.ref dq) (.ref dp) (.ref lv) (.ref sl) (nI dn) sd ul su), (oc10 sl mc9 (.ref ea) (nI T)), (oc7 sh (.ref fa) (nI ft)), (oq fa cF 200 FA)] ++ va_pl L f) t.heap ∧ va_D (va_A ([(oc8 x (.ref sh) (.ref lw) (.ref ro) (.ref bq) (.ref bp) (.ref dq) (.ref dp) (.ref lv) (.ref sl) (nI dn) sd ul su), (oc10 sl mc9 (.ref ea) (nI T)), (oc7 sh (.ref fa) (nI ft)), (oq fa cF 200 FA)] ++ va_pl L f) sz) ([(oc8 x (.ref sh) (.ref lw) (.ref ro) (.ref bq) (.ref bp) (.ref dq) (.ref dp) (.ref lv) (.ref sl) (nI dn) sd ul su), (oc10 sl mc9 (.ref ea) (nI T)), (oc7 sh (.ref fa) (nI ft)), (oq fa cF 200 FA)] ++ va_pl L f)) (va_A ([(oc8 x (.ref sh) (.ref lw) (.ref ro) (.ref bq) (.ref bp) (.ref dq) (.ref dp) (.ref lv) (.ref sl) (nI dn) sd ul su), (oc10 sl mc9 (.ref ea) (nI T)), (oc7 sh (.ref fa) (nI ft)), (oq fa cF 200 FA)] ++ va_pl L f) sz)) 0 0 (va_A ([(oc8 x (.ref sh) (.ref lw) (.ref ro) (.ref bq) (.ref bp) (.ref dq) (.ref dp) (.ref lv) (.ref sl) (nI dn) sd ul su), (oc10 sl mc9 (.ref ea) (nI T)), (oc7 sh (.ref fa) (nI ft)), (oq fa cF 200 FA)] ++ va_pl L f) sz) := by
  refine Met.ofW (cc := cX10_count) (maxL := 2) (ret := (some .int)) rfl rfl ?_
  intro p e s m args below meth c s₁ B hml hv
  obtain ⟨rfl, hsz, hP, hK, hD0, hXL⟩ := hv
  have hx := B.exec
  have hb := B.bytes
  have hr := B.returns
  have hts0 := atoms_spec (ws := .code yX10_count cX10_count 2 (some .int) :: ws0) B.pre
  have hts : ∀ w9 ∈ ws0, w9.before ([.ref x, .int w] : List Value).toArray s = true := fun w9 h => hts0 w9 (List.mem_cons_of_mem _ h)
  have hown : s.vm.findClass "ScaleShop" = some m.cls := findClass_of_methodNamed B.named
  have hlocks := B.notSynchronized
  subst hsz
  have hD := hD0.self (sz := s.heap.size)
  clear hD0
  generalize hAe : va_A ([(oc8 x (.ref sh) (.ref lw) (.ref ro) (.ref bq) (.ref bp) (.ref dq) (.ref dp) (.ref lv) (.ref sl) (nI dn) sd ul su), (oc10 sl mc9 (.ref ea) (nI T)), (oc7 sh (.ref fa) (nI ft)), (oq fa cF 200 FA)] ++ va_pl L f) s.heap.size = A at hD hXL ⊢
  have hA : ∀ q : Nat, s.heap.size ≤ q → A q := fun q h => by rw [← hAe]; exact Or.inr h
  clear hAe
  have hS : va_S A s.heap s.heap [] := va_S.rf
  have hXN := hXL.1
  have hK3 := hK.sub [0, 1, 2] rfl
  have hP : va_P (dC, dI) classes ([(oc8 x (.ref sh) (.ref lw) (.ref ro) (.ref bq) (.ref bp) (.ref dq) (.ref dp) (.ref lv) (.ref sl) (nI dn) sd ul su), (oc10 sl mc9 (.ref ea) (nI T)), (oc7 sh (.ref fa) (nI ft)), (oq fa cF 200 FA)] ++ va_pl L f) s.heap := hP
  obtain ⟨Q9, hQ9⟩ : ∃ Q9 : State → Prop, Q9 = MQ below (zQe (fun v9 t => ∃ (b9 : Int32), v9 = (some (.int b9)) ∧ va_P (dC, dI) classes ([(oc8 x (.ref sh) (.ref lw) (.ref ro) (.ref bq) (.ref bp) (.ref dq) (.ref dp) (.ref lv) (.ref sl) (nI dn) sd ul su), (oc10 sl mc9 (.ref ea) (nI T)), (oc7 sh (.ref fa) (nI ft)), (oq fa cF 200 FA)] ++ va_pl L f) t.heap ∧ va_D A ([(oc8 x (.ref sh) (.ref lw) (.ref ro) (.ref bq) (.ref bp) (.ref dq) (.ref dp) (.ref lv) (.ref sl) (nI dn) sd ul su), (oc10 sl mc9 (.ref ea) (nI T)), (oc7 sh (.ref fa) (nI ft)), (oq fa cF 200 FA)] ++ va_pl L f)) A) ([.ref x, .int w] : List Value).toArray s 0 0 A := ⟨_, rfl⟩
  rw [← hQ9]
  have hl := lv_entry ([.ref x, .int w]) (n := 2) (Nat.le_of_ble_eq_true rfl)
  rw [lg_entry_eq]
  generalize (lg_sl ([.ref x, .int w]) ++ List.replicate (2 - (lg_sl ([.ref x, .int w])).length) Slot.unset).toArray = ls at hl ⊢
  have hl : lv_has ls 2 [(0, .ref x), (1, .int w)] := hl
  refine lv_iload_n hx hb dX10_count_0 rfl (lv_at hl 1 rfl) ?_
  rcases zz_sw (lo := 0) (hi := 7) rfl with c_1 | c_1
  · refine lv_tableOut (tgt := 113) hx hb dX10_count_1 c_1.1 (by decide) ?_
    refine lv_iconst (v := (-1)) hx hb dX10_count_113 rfl ?_
    obtain ⟨hP9, hD9⟩ := zu_part (cx := [_, _, _, _]) hP hD [true, true, true, true] rfl rfl
    rw [hQ9]
    exact W.iret (v := (-1)) hx hb hr (fun t ht hW => ⟨⟨_, rfl, (-1), rfl, by rw [ht]; exact hP9, hD9⟩, hS.F ht⟩) hS.2.2 dX10_count_114
  · by_cases c_2 : w.toInt = 0
    · refine lv_tableIn (tgt := 48) (off := 47) hx hb dX10_count_1 c_1.2.1 c_1.2.2 (by rw [show (w).toInt = 0 from (rfl).trans c_2]; rfl) (by decide) ?_
      refine lv_aload_n hx hb dX10_count_48 rfl (lv_at hl 0 rfl) ?_
      refine va_get (D := (dC, dI)) (ci := 8) (v := .ref sh) (C := RX10) (T := TX10) (N := 13) hx hb hts inX10 hown hK hP 0 rfl rfl 0 (Nat.le_of_ble_eq_true rfl) (hts _ mw_309) (fun _ h9 => h9) rfl dX10_count_49 ?_
      refine va_get (D := (dC, dI)) (ci := 7) (v := .int (nI ft)) (C := RX8) (T := TX8) (N := 2) hx hb hts inX8 hown hK hP 2 rfl rfl 1 (Nat.le_of_ble_eq_true rfl) (hts _ mw_140) (fun _ h9 => h9) rfl dX10_count_52 ?_
      obtain ⟨hP9, hD9⟩ := zu_part (cx := [_, _, _, _]) hP hD [true, true, true, true] rfl rfl
      rw [hQ9]
      exact W.iret (v := nI ft) hx hb hr (fun t ht hW => ⟨⟨_, rfl, (nI ft), rfl, by rw [ht]; exact hP9, hD9⟩, hS.F ht⟩) hS.2.2 dX10_count_55
    by_cases c_3 : w.toInt = 1
    · refine lv_tableIn (tgt := 56) (off := 55) hx hb dX10_count_1 c_1.2.1 c_1.2.2 (by rw [show (w).toInt = 1 from (rfl).trans c_3]; rfl) (by decide) ?_
      refine lv_aload_n hx hb dX10_count_56 rfl (lv_at hl 0 rfl) ?_
      refine va_get (D := (dC, dI)) (ci := 8) (v := .ref sh) (C := RX10) (T := TX10) (N := 13) hx hb hts inX10 hown hK hP 0 rfl rfl 0 (Nat.le_of_ble_eq_true rfl) (hts _ mw_309) (fun _ h9 => h9) rfl dX10_count_57 ?_
      refine lv_iconst (v := 1) hx hb dX10_count_60 rfl ?_
      obtain ⟨hPc, hDc, hFc, hI1⟩ := zi_part (cx := [_, _]) hP hD hS hA [2, 3] rfl rfl
      refine zcall (st1 := [.int (nI (cntP (fun g => (st g).toInt = (1 : Int32).toInt) ft))]) (va_runV (As := [.int 1]) (rest := []) ⟨hx, hb, hml, hown, hts⟩ (k_Sheet_inState l dC dI cI cZ cF s.heap.size sh fa ft FA L f kd st tn mn cx cy rk wd tw pa pb gb it 1 (by first | with_reducible assumption | omega) (by first | with_reducible assumption | assumption)) (csV_147 hts rfl rfl ⟨Nat.le_of_ble_eq_true rfl, Nat.le_of_ble_eq_true rfl⟩) (zPV2 (q0 := 0) (ci := 7) hPc hDc hK3 hXN rfl rfl) rfl rfl hl.1 rfl (lv_room (Nat.le_of_ble_eq_true rfl)) dX10_count_61 ⟨Nat.le_of_ble_eq_true rfl, Nat.le_of_ble_eq_true rfl⟩) hS hFc hFc rfl (fun t H locs ht hB hk1 hS => ?_)
      obtain ⟨hP1, hD1⟩ := hB
      rw [ht] at hP1
      replace hP := z0 hP hD hk1 hP1 hI1
      clear hk1 hPc hDc hFc hP1 hD1 ht hI1
      obtain ⟨hP9, hD9⟩ := zu_part (cx := [_, _, _, _]) hP hD [true, true, true, true] rfl rfl
      rw [hQ9]
      exact W.iret (v := nI (cntP (fun g => (st g).toInt = (1 : Int32).toInt) ft)) hx hb hr (fun t ht hW => ⟨⟨_, rfl, (nI (cntP (fun g => (st g).toInt = (1 : Int32).toInt) ft)), rfl, by rw [ht]; exact hP9, hD9⟩, hS.F ht⟩) hS.2.2 dX10_count_64
    by_cases c_4 : w.toInt = 2
    · refine lv_tableIn (tgt := 65) (off := 64) hx hb dX10_count_1 c_1.2.1 c_1.2.2 (by rw [show (w).toInt = 2 from (rfl).trans c_4]; rfl) (by decide) ?_
      refine lv_aload_n hx hb dX10_count_65 rfl (lv_at hl 0 rfl) ?_
      refine va_get (D := (dC, dI)) (ci := 8) (v := .ref sh) (C := RX10) (T := TX10) (N := 13) hx hb hts inX10 hown hK hP 0 rfl rfl 0 (Nat.le_of_ble_eq_true rfl) (hts _ mw_309) (fun _ h9 => h9) rfl dX10_count_66 ?_
      refine lv_iconst (v := 2) hx hb dX10_count_69 rfl ?_
      obtain ⟨hPc, hDc, hFc, hI1⟩ := zi_part (cx := [_, _]) hP hD hS hA [2, 3] rfl rfl
      refine zcall (st1 := [.int (nI (cntP (fun g => (st g).toInt = (2 : Int32).toInt) ft))]) (va_runV (As := [.int 2]) (rest := []) ⟨hx, hb, hml, hown, hts⟩ (k_Sheet_inState l dC dI cI cZ cF s.heap.size sh fa ft FA L f kd st tn mn cx cy rk wd tw pa pb gb it 2 (by first | with_reducible assumption | omega) (by first | with_reducible assumption | assumption)) (csV_147 hts rfl rfl ⟨Nat.le_of_ble_eq_true rfl, Nat.le_of_ble_eq_true rfl⟩) (zPV2 (q0 := 0) (ci := 7) hPc hDc hK3 hXN rfl rfl) rfl rfl hl.1 rfl (lv_room (Nat.le_of_ble_eq_true rfl)) dX10_count_70 ⟨Nat.le_of_ble_eq_true rfl, Nat.le_of_ble_eq_true rfl⟩) hS hFc hFc rfl (fun t H locs ht hB hk1 hS => ?_)
      obtain ⟨hP1, hD1⟩ := hB
      rw [ht] at hP1
      replace hP := z0 hP hD hk1 hP1 hI1
      clear hk1 hPc hDc hFc hP1 hD1 ht hI1
      obtain ⟨hP9, hD9⟩ := zu_part (cx := [_, _, _, _]) hP hD [true, true, true, true] rfl rfl
      rw [hQ9]
      exact W.iret (v := nI (cntP (fun g => (st g).toInt = (2 : Int32).toInt) ft)) hx hb hr (fun t ht hW => ⟨⟨_, rfl, (nI (cntP (fun g => (st g).toInt = (2 : Int32).toInt) ft)), rfl, by rw [ht]; exact hP9, hD9⟩, hS.F ht⟩) hS.2.2 dX10_count_73
    by_cases c_5 : w.toInt = 3
    · refine lv_tableIn (tgt := 74) (off := 73) hx hb dX10_count_1 c_1.2.1 c_1.2.2 (by rw [show (w).toInt = 3 from (rfl).trans c_5]; rfl) (by decide) ?_
      refine lv_aload_n hx hb dX10_count_74 rfl (lv_at hl 0 rfl) ?_
      refine va_get (D := (dC, dI)) (ci := 8) (v := .ref sh) (C := RX10) (T := TX10) (N := 13) hx hb hts inX10 hown hK hP 0 rfl rfl 0 (Nat.le_of_ble_eq_true rfl) (hts _ mw_309) (fun _ h9 => h9) rfl dX10_count_75 ?_
      obtain ⟨hPc, hDc, hFc, hI1⟩ := zi_part (cx := [_, _]) hP hD hS hA [2, 3] rfl rfl
      refine zcall (st1 := [.int (nI (cntP (fun g => ¬ (tn g).toInt = 0) ft))]) (va_runV (As := []) (rest := []) ⟨hx, hb, hml, hown, hts⟩ (k_Sheet_torn l dC dI cI cZ cF s.heap.size sh fa ft FA L f kd st tn mn cx cy rk wd tw pa pb gb it (by first | with_reducible assumption | omega) (by first | with_reducible assumption | assumption)) (csV_148 hts rfl rfl ⟨Nat.le_of_ble_eq_true rfl, Nat.le_of_ble_eq_true rfl⟩) (zPV2 (q0 := 0) (ci := 7) hPc hDc hK3 hXN rfl rfl) rfl rfl hl.1 rfl (lv_room (Nat.le_of_ble_eq_true rfl)) dX10_count_78 ⟨Nat.le_of_ble_eq_true rfl, Nat.le_of_ble_eq_true rfl⟩) hS hFc hFc rfl (fun t H locs ht hB hk1 hS => ?_)
      obtain ⟨hP1, hD1⟩ := hB
      rw [ht] at hP1
      replace hP := z0 hP hD hk1 hP1 hI1
      clear hk1 hPc hDc hFc hP1 hD1 ht hI1
      obtain ⟨hP9, hD9⟩ := zu_part (cx := [_, _, _, _]) hP hD [true, true, true, true] rfl rfl
      rw [hQ9]
      exact W.iret (v := nI (cntP (fun g => ¬ (tn g).toInt = 0) ft)) hx hb hr (fun t ht hW => ⟨⟨_, rfl, (nI (cntP (fun g => ¬ (tn g).toInt = 0) ft)), rfl, by rw [ht]; exact hP9, hD9⟩, hS.F ht⟩) hS.2.2 dX10_count_81
    by_cases c_6 : w.toInt = 4
    · refine lv_tableIn (tgt := 82) (off := 81) hx hb dX10_count_1 c_1.2.1 c_1.2.2 (by rw [show (w).toInt = 4 from (rfl).trans c_6]; rfl) (by decide) ?_
      refine lv_aload_n hx hb dX10_count_82 rfl (lv_at hl 0 rfl) ?_
      refine va_get (D := (dC, dI)) (ci := 8) (v := .ref sh) (C := RX10) (T := TX10) (N := 13) hx hb hts inX10 hown hK hP 0 rfl rfl 0 (Nat.le_of_ble_eq_true rfl) (hts _ mw_309) (fun _ h9 => h9) rfl dX10_count_83 ?_
      obtain ⟨hPc, hDc, hFc, hI1⟩ := zi_part (cx := [_, _]) hP hD hS hA [2, 3] rfl rfl
      refine zcall (st1 := [.int (nI (smP (lvF ft st tn) (fun g => nN (mn g)) ft))]) (va_runV (As := []) (rest := []) ⟨hx, hb, hml, hown, hts⟩ (k_Sheet_cornersThere l dC dI cI cZ cF s.heap.size sh fa ft FA L f kd st tn mn cx cy rk wd tw pa pb gb it (by first | with_reducible assumption | omega) (by first | with_reducible assumption | assumption)) (csV_149 hts rfl rfl ⟨Nat.le_of_ble_eq_true rfl, Nat.le_of_ble_eq_true rfl⟩) (zPV2 (q0 := 0) (ci := 7) hPc hDc hK3 hXN rfl rfl) rfl rfl hl.1 rfl (lv_room (Nat.le_of_ble_eq_true rfl)) dX10_count_86 ⟨Nat.le_of_ble_eq_true rfl, Nat.le_of_ble_eq_true rfl⟩) hS hFc hFc rfl (fun t H locs ht hB hk1 hS => ?_)
      obtain ⟨hP1, hD1⟩ := hB
      rw [ht] at hP1
      replace hP := z0 hP hD hk1 hP1 hI1
      clear hk1 hPc hDc hFc hP1 hD1 ht hI1
      obtain ⟨hP9, hD9⟩ := zu_part (cx := [_, _, _, _]) hP hD [true, true, true, true] rfl rfl
      rw [hQ9]
      exact W.iret (v := nI (smP (lvF ft st tn) (fun g => nN (mn g)) ft)) hx hb hr (fun t ht hW => ⟨⟨_, rfl, (nI (smP (lvF ft st tn) (fun g => nN (mn g)) ft)), rfl, by rw [ht]; exact hP9, hD9⟩, hS.F ht⟩) hS.2.2 dX10_count_89
    by_cases c_7 : w.toInt = 5
    · refine lv_tableIn (tgt := 90) (off := 89) hx hb dX10_count_1 c_1.2.1 c_1.2.2 (by rw [show (w).toInt = 5 from (rfl).trans c_7]; rfl) (by decide) ?_
      refine lv_aload_n hx hb dX10_count_90 rfl (lv_at hl 0 rfl) ?_
      refine va_get (D := (dC, dI)) (ci := 8) (v := .int (nI dn)) (C := RX10) (T := TX10) (N := 13) hx hb hts inX10 hown hK hP 0 rfl rfl 9 (Nat.le_of_ble_eq_true rfl) (hts _ mw_318) (fun _ h9 => h9) rfl dX10_count_91 ?_
      obtain ⟨hP9, hD9⟩ := zu_part (cx := [_, _, _, _]) hP hD [true, true, true, true] rfl rfl
      rw [hQ9]
      exact W.iret (v := nI dn) hx hb hr (fun t ht hW => ⟨⟨_, rfl, (nI dn), rfl, by rw [ht]; exact hP9, hD9⟩, hS.F ht⟩) hS.2.2 dX10_count_94
    by_cases c_8 : w.toInt = 6
    · refine lv_tableIn (tgt := 95) (off := 94) hx hb dX10_count_1 c_1.2.1 c_1.2.2 (by rw [show (w).toInt = 6 from (rfl).trans c_8]; rfl) (by decide) ?_
      refine lv_aload_n hx hb dX10_count_95 rfl (lv_at hl 0 rfl) ?_
      refine va_get (D := (dC, dI)) (ci := 8) (v := .ref sl) (C := RX10) (T := TX10) (N := 13) hx hb hts inX10 hown hK hP 0 rfl rfl 8 (Nat.le_of_ble_eq_true rfl) (hts _ mw_317) (fun _ h9 => h9) rfl dX10_count_96 ?_
      obtain ⟨hPc, hDc, hFc, hI1⟩ := zi_sub (wc := [_]) hP hD hS hA [1] rfl rfl
      refine zcall (st1 := [.int (nI T)]) (va_runV (As := []) (rest := []) ⟨hx, hb, hml, hown, hts⟩ (k_AL_size l dC dI cI cZ cF s.heap.size sl ea T mc9 ) (csV_90 hts rfl rfl ⟨Nat.le_of_ble_eq_true rfl, Nat.le_of_ble_eq_true rfl⟩) (zPV2 (q0 := 0) (ci := 10) hPc hDc hK3 hXN rfl rfl) rfl rfl hl.1 rfl (lv_room (Nat.le_of_ble_eq_true rfl)) dX10_count_99 ⟨Nat.le_of_ble_eq_true rfl, Nat.le_of_ble_eq_true rfl⟩) hS hFc hFc rfl (fun t H locs ht hB hk1 hS => ?_)
      obtain ⟨hP1, hD1⟩ := hB
      rw [ht] at hP1
      replace hP := z0 hP hD hk1 hP1 hI1
      clear hk1 hPc hDc hFc hP1 hD1 ht hI1
      refine lv_aload_n hx hb dX10_count_102 rfl (lv_at hl 0 rfl) ?_
      refine va_get (D := (dC, dI)) (ci := 8) (v := .int (nI dn)) (C := RX10) (T := TX10) (N := 13) hx hb hts inX10 hown hK hP 0 rfl rfl 9 (Nat.le_of_ble_eq_true rfl) (hts _ mw_318) (fun _ h9 => h9) rfl dX10_count_103 ?_
      refine lv_isub hx hb dX10_count_106 ?_
      refine zz_i (v := nI (T - dn)) (pk_sub (a := T) (b := dn) (by omega)) ?_
      obtain ⟨hP9, hD9⟩ := zu_part (cx := [_, _, _, _]) hP hD [true, true, true, true] rfl rfl
      rw [hQ9]
      exact W.iret (v := nI (T - dn)) hx hb hr (fun t ht hW => ⟨⟨_, rfl, (nI (T - dn)), rfl, by rw [ht]; exact hP9, hD9⟩, hS.F ht⟩) hS.2.2 dX10_count_107
    by_cases c_9 : w.toInt = 7
    · refine lv_tableIn (tgt := 108) (off := 107) hx hb dX10_count_1 c_1.2.1 c_1.2.2 (by rw [show (w).toInt = 7 from (rfl).trans c_9]; rfl) (by decide) ?_
      refine lv_aload_n hx hb dX10_count_108 rfl (lv_at hl 0 rfl) ?_
      refine va_get (D := (dC, dI)) (ci := 8) (v := .int ul) (C := RX10) (T := TX10) (N := 13) hx hb hts inX10 hown hK hP 0 rfl rfl 11 (Nat.le_of_ble_eq_true rfl) (hts _ mw_320) (fun _ h9 => h9) rfl dX10_count_109 ?_
      obtain ⟨hP9, hD9⟩ := zu_part (cx := [_, _, _, _]) hP hD [true, true, true, true] rfl rfl
      rw [hQ9]
      exact W.iret (v := ul) hx hb hr (fun t ht hW => ⟨⟨_, rfl, ul, rfl, by rw [ht]; exact hP9, hD9⟩, hS.F ht⟩) hS.2.2 dX10_count_112
    exfalso; omega
set_option maxHeartbeats 4000000 in
set_option maxRecDepth 100000 in
theorem k_near_a1 (l : Launch) (dC : Nat → ClassId) (dI : Nat → Nat → Nat) (cI cZ cF : ClassId) (sz : Nat) (cO : ClassId) (e0 : Nat) (mi : Nat) (x : Nat) (sh : Nat) (lw : Nat) (ro : Nat) (bq : Nat) (bp : Nat) (dq : Nat) (dp : Nat) (lv : Nat) (sl : Nat) (sd : Int32) (ul : Int32) (su : Int32) (ea : Nat) (mc9 : Int32) (fa : Nat) (FA : Nat → Option Nat) (bs : Nat) (dn : Nat) (T : Nat) (ft : Nat) (FT : Nat → Nat) (V : Nat → Nat → Nat → Int32) (VX : Nat → Nat → Int32) (VY : Nat → Nat → Int32) (tn : Nat → Int32) (rk : Nat → Int32) (wd : Nat → Int32) (tw : Nat → Int32) (pa : Nat → Int32) (pb : Nat → Int32) (wh : Nat → Int32) (of9 : Nat → Int32) (we : Nat → Int32) (kd : Nat → Int32) (st : Nat → Int32) (gb : Nat → Int32) (it : Nat → Int32) (mn : Nat → Int32) (cx : Nat → Int32) (cy : Nat → Int32) (L : List Nat) (f : Nat → va_E) (f0 : Nat) (y1 : Int64) (y2 : Int64) (wv : Int32) (hB : shB cI cO L f e0 FA ea bs dn T ft FT V VX VY tn rk wd tw pa pb wh of9 we kd st gb it mn cx cy) (hf0 : f0 < ft) (htn : (tn f0).toInt = 0) (hst : (st f0).toInt = 1) (hwf : ∀ q, lvF ft st tn q → wfM mn cx cy q) (hkn : okN ft st tn kd mn) : Met l yX10_near (.code yX10_near cX10_near 6 (some .long) :: ws0) ({ frames := 4, cells := 0, slots := 0, locals := 88 } : Room) (va_Pc [.ref x, .int (nI f0), .int (nI f0), .int wv] (zPre (dC, dI) classes (zTyO cI cZ cF cO) ([(oc8 x (.ref sh) (.ref lw) (.ref ro) (.ref bq) (.ref bp) (.ref dq) (.ref dp) (.ref lv) (.ref sl) (nI dn) sd ul su), (oc10 sl mc9 (.ref ea) (nI T)), (oc2 dq y1 y2), (oc7 sh (.ref fa) (nI ft)), (oq fa cF 200 FA)] ++ va_pl L f) sz (zXL e0 mi (va_A ([(oc8 x (.ref sh) (.ref lw) (.ref ro) (.ref bq) (.ref bp) (.ref dq) (.ref dp) (.ref lv) (.ref sl) (nI dn) sd ul su), (oc10 sl mc9 (.ref ea) (nI T)), (oc2 dq y1 y2), (oc7 sh (.ref fa) (nI ft)), (oq fa cF 200 FA)] ++ va_pl L f) sz)))) (zQe (fun v9 t => ∃ (b9 : Int64), ∃ (y5 : Int64), ∃ (y6 : Int64), v9 = (some (.long b9)) ∧ va_P (dC, dI) classes ([(oc8 x (.ref sh) (.ref lw) (.ref ro) (.ref bq) (.ref bp) (.ref dq) (.ref dp) (.ref lv) (.ref sl) (nI dn) sd ul su), (oc10 sl mc9 (.ref ea) (nI T)), (oc2 dq y5 y6), (oc7 sh (.ref fa) (nI ft)), (oq fa cF 200 FA)] ++ va_pl L f) t.heap ∧ va_D (va_A ([(oc8 x (.ref sh) (.ref lw) (.ref ro) (.ref bq) (.ref bp) (.ref dq) (.ref dp) (.ref lv) (.ref sl) (nI dn) sd ul su), (oc10 sl mc9 (.ref ea) (nI T)), (oc2 dq y1 y2), (oc7 sh (.ref fa) (nI ft)), (oq fa cF 200 FA)] ++ va_pl L f) sz) ([(oc8 x (.ref sh) (.ref lw) (.ref ro) (.ref bq) (.ref bp) (.ref dq) (.ref dp) (.ref lv) (.ref sl) (nI dn) sd ul su), (oc10 sl mc9 (.ref ea) (nI T)), (oc2 dq y5 y6), (oc7 sh (.ref fa) (nI ft)), (oq fa cF 200 FA)] ++ va_pl L f)) (va_A ([(oc8 x (.ref sh) (.ref lw) (.ref ro) (.ref bq) (.ref bp) (.ref dq) (.ref dp) (.ref lv) (.ref sl) (nI dn) sd ul su), (oc10 sl mc9 (.ref ea) (nI T)), (oc2 dq y1 y2), (oc7 sh (.ref fa) (nI ft)), (oq fa cF 200 FA)] ++ va_pl L f) sz)) 0 0 (va_A ([(oc8 x (.ref sh) (.ref lw) (.ref ro) (.ref bq) (.ref bp) (.ref dq) (.ref dp) (.ref lv) (.ref sl) (nI dn) sd ul su), (oc10 sl mc9 (.ref ea) (nI T)), (oc2 dq y1 y2), (oc7 sh (.ref fa) (nI ft)), (oq fa cF 200 FA)] ++ va_pl L f) sz) := by
  refine Met.ofW (cc := cX10_near) (maxL := 6) (ret := (some .long)) rfl rfl ?_
  intro p e s m args below meth c s₁ B hml hv
  obtain ⟨rfl, hsz, hP, hK, hD0, hXL⟩ := hv
  have hx := B.exec
  have hb := B.bytes
  have hr := B.returns
  have hts0 := atoms_spec (ws := .code yX10_near cX10_near 6 (some .long) :: ws0) B.pre
  have hts : ∀ w9 ∈ ws0, w9.before ([.ref x, .int (nI f0), .int (nI f0), .int wv] : List Value).toArray s = true := fun w9 h => hts0 w9 (List.mem_cons_of_mem _ h)
  have hown : s.vm.findClass "ScaleShop" = some m.cls := findClass_of_methodNamed B.named
  have hlocks := B.notSynchronized
  subst hsz
  have hD := hD0.self (sz := s.heap.size)
  clear hD0
  generalize hAe : va_A ([(oc8 x (.ref sh) (.ref lw) (.ref ro) (.ref bq) (.ref bp) (.ref dq) (.ref dp) (.ref lv) (.ref sl) (nI dn) sd ul su), (oc10 sl mc9 (.ref ea) (nI T)), (oc2 dq y1 y2), (oc7 sh (.ref fa) (nI ft)), (oq fa cF 200 FA)] ++ va_pl L f) s.heap.size = A at hD hXL ⊢
  have hA : ∀ q : Nat, s.heap.size ≤ q → A q := fun q h => by rw [← hAe]; exact Or.inr h
  clear hAe
  have hS : va_S A s.heap s.heap [] := va_S.rf
  have hXN := hXL.1
  have hK3 := hK.sub [0, 1, 2] rfl
  have hP : va_P (dC, dI) classes ([(oc8 x (.ref sh) (.ref lw) (.ref ro) (.ref bq) (.ref bp) (.ref dq) (.ref dp) (.ref lv) (.ref sl) (nI dn) sd ul su), (oc10 sl mc9 (.ref ea) (nI T)), (oc2 dq y1 y2), (oc7 sh (.ref fa) (nI ft)), (oq fa cF 200 FA)] ++ va_pl L f) s.heap := hP
  obtain ⟨Q9, hQ9⟩ : ∃ Q9 : State → Prop, Q9 = MQ below (zQe (fun v9 t => ∃ (b9 : Int64), ∃ (y5 : Int64), ∃ (y6 : Int64), v9 = (some (.long b9)) ∧ va_P (dC, dI) classes ([(oc8 x (.ref sh) (.ref lw) (.ref ro) (.ref bq) (.ref bp) (.ref dq) (.ref dp) (.ref lv) (.ref sl) (nI dn) sd ul su), (oc10 sl mc9 (.ref ea) (nI T)), (oc2 dq y5 y6), (oc7 sh (.ref fa) (nI ft)), (oq fa cF 200 FA)] ++ va_pl L f) t.heap ∧ va_D A ([(oc8 x (.ref sh) (.ref lw) (.ref ro) (.ref bq) (.ref bp) (.ref dq) (.ref dp) (.ref lv) (.ref sl) (nI dn) sd ul su), (oc10 sl mc9 (.ref ea) (nI T)), (oc2 dq y5 y6), (oc7 sh (.ref fa) (nI ft)), (oq fa cF 200 FA)] ++ va_pl L f)) A) ([.ref x, .int (nI f0), .int (nI f0), .int wv] : List Value).toArray s 0 0 A := ⟨_, rfl⟩
  rw [← hQ9]
  have hl := lv_entry ([.ref x, .int (nI f0), .int (nI f0), .int wv]) (n := 6) (Nat.le_of_ble_eq_true rfl)
  rw [lg_entry_eq]
  generalize (lg_sl ([.ref x, .int (nI f0), .int (nI f0), .int wv]) ++ List.replicate (6 - (lg_sl ([.ref x, .int (nI f0), .int (nI f0), .int wv])).length) Slot.unset).toArray = ls at hl ⊢
  have hl : lv_has ls 6 [(0, .ref x), (1, .int (nI f0)), (2, .int (nI f0)), (3, .int wv)] := hl
  obtain ⟨own, fe, cl, la, sp, SA, hG9, hH9, hft9, hO9⟩ := hB
  obtain ⟨hG, hM, hdT, hT5, hO⟩ := M_0 hG9 hH9 hft9 hO9
  have h200 : ft ≤ 200 := hG.2.2.2.2.2.1.2.2.2.2.2
  have hFA9 := hG.2.2.2.2.2.2
  refine ex13 (sh_fc hG.1 hG.2.1 (Nat.le_refl _) hf0 htn) (fun lo5 lx5 ly5 ln5 LX5 LY5 we5 r5 rx5 ry5 cap5 X5 Y5 hc5 => ?_)
  have hc5 := fc_0 hc5
  have hb5 := hc5.2.2.1
  have hb6 := hc5.2.1
  have hat9 := lo_at hO (Nat.le_refl _) hf0 hc5.1.1 hc5.1.2.2.2 (by omega) hc5.1.2.1 hb5.2.2
  have hlv : lvF ft st tn f0 := ⟨hf0, hst, htn⟩
  have hwf0 := hwf f0 hlv
  have hw1 := hwf0.2.1
  have hkn0 := hkn f0 hlv
  have hX5 := hc5.2.2.2.2.1
  have hp5 := (pls_cg hX5).mpr hwf0.2.2
  have e_0 : (0 : Int32).toInt = 0 := (by decide)
  have e_1 : (1 : Int32).toInt = 1 := (by decide)
  have hc9_1 : inPl L f [(oc1 (fe f0) (rk f0) (wd f0) (tw f0) (pa f0) (pb f0) (.ref lo5) (.ref (la dn f0)) .null), (oc4 (la dn f0) (kd f0) (st f0) (.ref r5) (gb f0) (it f0) (nI we5)), (oc6 r5 (.ref rx5) (.ref ry5) (nI (nN (mn f0))) (rgK (kd f0).toInt)), (oa rx5 cI cap5 X5), (oa ry5 cI cap5 Y5), (oc6 lo5 (.ref lx5) (.ref ly5) (nI ln5) 0), (oa lx5 cI (cl f0) LX5), (oa ly5 cI (cl f0) LY5)] := ⟨ce_pl hc5.1.1, ce_pl hc5.1.2.1, ce_pl hc5.1.2.2.1.1, ce_pl hc5.1.2.2.1.2.1, ce_pl hc5.1.2.2.1.2.2.1, ce_pl hc5.1.2.2.2.1, ce_pl hc5.1.2.2.2.2.1, ce_pl hc5.1.2.2.2.2.2.1, trivial⟩
  have hD0_1 := hD
  obtain ⟨T_1, hT_1, hP, hD⟩ := pl_oT hP hD hc9_1 (pw8 hc5 (by omega))
  obtain ⟨hP, hD⟩ := zre (W2 := ([_, _, _, _, _, _, _, _, _, _, _, _, _] ++ va_pl T_1 f)) hP hD rfl
  refine lv_aload_n hx hb dX10_near_0 rfl (lv_at hl 0 rfl) ?_
  refine va_get (D := (dC, dI)) (ci := 8) (v := .ref sh) (C := RX10) (T := TX10) (N := 13) hx hb hts inX10 hown hK hP 0 rfl rfl 0 (Nat.le_of_ble_eq_true rfl) (hts _ mw_309) (fun _ h9 => h9) rfl dX10_near_1 ?_
  refine lv_iload_n hx hb dX10_near_4 rfl (lv_at hl 1 rfl) ?_
  obtain ⟨hPc, hDc, hFc, hI1⟩ := zi_sub (wc := [_, _, _, _]) hP hD hS hA [3, 4, 5, 6] (by decide +kernel) rfl
  refine zcall (st1 := [.ref r5]) (va_runV (As := [.int (nI f0)]) (rest := []) ⟨hx, hb, hml, hown, hts⟩ (k_Sheet_rowThere_yv l dC dI cI cZ cF s.heap.size sh fa ft FA f0 (fe f0) lo5 (rk f0) (wd f0) (tw f0) (pa f0) (pb f0) (la dn f0) (kd f0) (st f0) (gb f0) (it f0) (nI we5) r5 (.null) (by first | with_reducible assumption | omega) (by first | with_reducible assumption | omega) (hFA9 f0 (by first | with_reducible assumption | omega)) (hst)) (csV_144 hts rfl rfl ⟨Nat.le_of_ble_eq_true rfl, Nat.le_of_ble_eq_true rfl⟩) (zPV2 (q0 := 0) (ci := 7) hPc hDc hK3 hXN rfl rfl) rfl rfl hl.1 rfl (lv_room (Nat.le_of_ble_eq_true rfl)) dX10_near_5 ⟨Nat.le_of_ble_eq_true rfl, Nat.le_of_ble_eq_true rfl⟩) hS hFc hFc rfl (fun t H locs ht hB hk1 hS => ?_)
  obtain ⟨hP1, hD1⟩ := hB
  rw [ht] at hP1
  replace hP := z0 hP hD hk1 hP1 hI1
  clear hk1 hPc hDc hFc hP1 hD1 ht hI1
  refine lv_astore (lv' := [(4, .ref r5), (0, .ref x), (1, .int (nI f0)), (2, .int (nI f0)), (3, .int wv)]) hx hb dX10_near_8 hl (Nat.le_of_ble_eq_true rfl) rfl (fun ls hl => ?_)
  refine lv_aload_n hx hb dX10_near_10 rfl (lv_at hl 1 rfl) ?_
  refine va_get (D := (dC, dI)) (ci := 8) (v := .ref sh) (C := RX10) (T := TX10) (N := 13) hx hb hts inX10 hown hK hP 0 rfl rfl 0 (Nat.le_of_ble_eq_true rfl) (hts _ mw_309) (fun _ h9 => h9) rfl dX10_near_11 ?_
  refine lv_iload_n hx hb dX10_near_14 rfl (lv_at hl 3 rfl) ?_
  obtain ⟨hPc, hDc, hFc, hI1⟩ := zi_sub (wc := [_, _, _, _]) hP hD hS hA [3, 4, 5, 6] (by decide +kernel) rfl
  refine zcall (st1 := [.ref r5]) (va_runV (As := [.int (nI f0)]) (rest := []) ⟨hx, hb, hml, hown, hts⟩ (k_Sheet_rowThere_yv l dC dI cI cZ cF H.size sh fa ft FA f0 (fe f0) lo5 (rk f0) (wd f0) (tw f0) (pa f0) (pb f0) (la dn f0) (kd f0) (st f0) (gb f0) (it f0) (nI we5) r5 (.null) (by first | with_reducible assumption | omega) (by first | with_reducible assumption | omega) (hFA9 f0 (by first | with_reducible assumption | omega)) (hst)) (csV_144 hts rfl rfl ⟨Nat.le_of_ble_eq_true rfl, Nat.le_of_ble_eq_true rfl⟩) (zPV2 (q0 := 0) (ci := 7) hPc hDc hK3 hXN rfl rfl) rfl rfl hl.1 rfl (lv_room (Nat.le_of_ble_eq_true rfl)) dX10_near_15 ⟨Nat.le_of_ble_eq_true rfl, Nat.le_of_ble_eq_true rfl⟩) hS hFc hFc rfl (fun t H locs ht hB hk1 hS => ?_)
  obtain ⟨hP1, hD1⟩ := hB
  rw [ht] at hP1
  replace hP := z0 hP hD hk1 hP1 hI1
  clear hk1 hPc hDc hFc hP1 hD1 ht hI1
  refine lv_astore (lv' := [(5, .ref r5), (4, .ref r5), (0, .ref x), (1, .int (nI f0)), (2, .int (nI f0)), (3, .int wv)]) hx hb dX10_near_18 hl (Nat.le_of_ble_eq_true rfl) rfl (fun ls hl => ?_)
  refine lv_aload hx hb dX10_near_20 (lv_at hl 1 rfl) ?_
  refine lv_ifnull hx hb dX10_near_22 ?_
  refine lv_aload hx hb dX10_near_25 (lv_at hl 0 rfl) ?_
  refine lv_ifnull hx hb dX10_near_27 ?_
  refine lv_iload_n hx hb dX10_near_30 rfl (lv_at hl 5 rfl) ?_
  refine lv_iconst (v := 0) hx hb dX10_near_31 rfl ?_
  refine lv_iconst (v := 1) hx hb dX10_near_32 rfl ?_
  obtain ⟨hPc, hDc, hFc, hI1⟩ := zi_sub (wc := []) hP hD hS hA [] rfl rfl
  refine zcall (st1 := [.int (pI ((0 : Int32).toInt ≤ wv.toInt ∧ wv.toInt ≤ (1 : Int32).toInt))]) (va_runS (As := [.int wv, .int 0, .int 1]) (rest := []) ⟨hx, hb, hml, hown, hts⟩ (k_isWithin l dC dI cI cZ cF H.size wv 0 1 ) (csS_14 hts rfl rfl ⟨Nat.le_of_ble_eq_true rfl, Nat.le_of_ble_eq_true rfl⟩) (zPS2 hPc hDc hK3 hXN) rfl rfl hl.1 rfl (lv_room (Nat.le_of_ble_eq_true rfl)) dX10_near_33 ⟨Nat.le_of_ble_eq_true rfl, Nat.le_of_ble_eq_true rfl⟩) hS hFc hFc rfl (fun t H locs ht hB hk1 hS => ?_)
  obtain ⟨hP1, hD1⟩ := hB
  rw [ht] at hP1
  replace hP := z0 hP hD hk1 hP1 hI1
  clear hk1 hPc hDc hFc hP1 hD1 ht hI1
  refine lv_if_ne (tgt := 43) hx hb dX10_near_36 rfl (fun c_1 => ?_) (fun c_1 => ?_)
  · have c_1 : (0 : Int32).toInt ≤ wv.toInt ∧ wv.toInt ≤ (1 : Int32).toInt := zp_1 c_1
    refine lv_aload_n hx hb dX10_near_43 rfl (lv_at hl 2 rfl) ?_
    refine va_get (D := (dC, dI)) (ci := 8) (v := .ref dq) (C := RX10) (T := TX10) (N := 13) hx hb hts inX10 hown hK hP 0 rfl rfl 5 (Nat.le_of_ble_eq_true rfl) (hts _ mw_314) (fun _ h9 => h9) rfl dX10_near_44 ?_
    refine lv_aload hx hb dX10_near_47 (lv_at hl 1 rfl) ?_
    refine lv_aload hx hb dX10_near_49 (lv_at hl 0 rfl) ?_
    obtain ⟨hPc, hDc, hFc⟩ := zo_sub (wc := [_, _, _, _]) hP hD hS hA [2, 7, 8, 9] (by decide +kernel) rfl
    refine zcall (st1 := []) (va_runV (As := [.ref r5, .ref r5]) (rest := []) ⟨hx, hb, hml, hown, hts⟩ (k_Fr_between_self l dC dI cI cZ cF H.size dq y1 y2 r5 rx5 ry5 (nN (mn f0)) cap5 X5 Y5 (rgK (kd f0).toInt) (by first | with_reducible assumption | omega) (by first | with_reducible assumption | omega) (hp5) (prt_1 hkn0)) (csV_127 hts rfl rfl ⟨Nat.le_of_ble_eq_true rfl, Nat.le_of_ble_eq_true rfl⟩) (zPV2 (q0 := 0) (ci := 2) hPc hDc hK3 hXN rfl rfl) rfl rfl hl.1 rfl (lv_room (Nat.le_of_ble_eq_true rfl)) dX10_near_51 ⟨Nat.le_of_ble_eq_true rfl, Nat.le_of_ble_eq_true rfl⟩) hS hFc hFc rfl (fun t H locs ht hB hk1 hS => ?_)
    obtain ⟨hP1, hD1⟩ := hB
    rw [ht] at hP1
    obtain ⟨hP, hD⟩ := znQ (W2 := [_, _, (oc2 dq (jI 0) (jI 1)), _, _, _, _, _, _, _, _, _, _]) hP hD hk1 hFc hP1 hD1 [2, 7, 8, 9] zl_133 zl_133 [2, 7, 8, 9] (by decide +kernel) rfl rfl rfl rfl rfl
    clear hk1 hPc hDc hFc hP1 hD1 ht
    refine lv_aload_n hx hb dX10_near_54 rfl (lv_at hl 2 rfl) ?_
    refine va_get (D := (dC, dI)) (ci := 8) (v := .ref dq) (C := RX10) (T := TX10) (N := 13) hx hb hts inX10 hown hK hP 0 rfl rfl 5 (Nat.le_of_ble_eq_true rfl) (hts _ mw_314) (fun _ h9 => h9) rfl dX10_near_55 ?_
    refine lv_iload_n hx hb dX10_near_58 rfl (lv_at hl 5 rfl) ?_
    obtain ⟨hPc, hDc, hFc⟩ := zo_sub (wc := [_]) hP hD hS hA [2] rfl rfl
    refine zcalle (va_runV (As := [.int wv]) (rest := []) ⟨hx, hb, hml, hown, hts⟩ (k_Fr_reduced_a l dC dI cI cZ cF H.size dq (jI 0) (jI 1) wv ) (csV_153 hts rfl rfl ⟨Nat.le_of_ble_eq_true rfl, Nat.le_of_ble_eq_true rfl⟩) (zPV2 (q0 := 0) (ci := 2) hPc hDc hK3 hXN rfl rfl) rfl rfl hl.1 rfl (lv_room (Nat.le_of_ble_eq_true rfl)) dX10_near_59 ⟨Nat.le_of_ble_eq_true rfl, Nat.le_of_ble_eq_true rfl⟩) hS hFc hFc (fun v9 t H locs ht hB hk1 hS => ?_)
    obtain ⟨d9, rfl, hP1, hD1⟩ := hB
    refine W.eq (g2 := F0 m 62 ls [.long d9]) rfl ?_
    rw [ht] at hP1
    obtain ⟨hP, hD⟩ := znQ (W2 := [_, _, _, _, _, _, _, _, _, _, _, _, _]) hP hD hk1 hFc hP1 hD1 [2] zl_135 zl_135 [2] (by decide +kernel) rfl rfl rfl rfl rfl
    clear hk1 hPc hDc hFc hP1 hD1 ht
    obtain ⟨hP, hD⟩ := pl_bk (X := [_, _, _, _, _]) hT_1 hP rfl hc9_1 hD0_1 rfl
    obtain ⟨hP9, hD9⟩ := zu_part (cx := [_, _, _, _, _]) hP hD [true, true, true, true, true] rfl rfl
    rw [hQ9]
    exact W.lret (v := d9) hx hb hr (fun t ht hW => ⟨⟨_, rfl, d9, (jI 0), (jI 1), rfl, by rw [ht]; exact hP9, hD9⟩, hS.F ht⟩) hS.2.2 dX10_near_62
  · have c_1 : ¬ ((0 : Int32).toInt ≤ wv.toInt ∧ wv.toInt ≤ (1 : Int32).toInt) := zp_0 c_1
    refine lv_ldc2 hx hb hown (hts _ mw_1077) dX10_near_39 ?_
    obtain ⟨hP, hD⟩ := pl_bk (X := [_, _, _, _, _]) hT_1 hP rfl hc9_1 hD0_1 rfl
    obtain ⟨hP9, hD9⟩ := zu_part (cx := [_, _, _, _, _]) hP hD [true, true, true, true, true] rfl rfl
    rw [hQ9]
    exact W.lret (v := (-1)) hx hb hr (fun t ht hW => ⟨⟨_, rfl, (-1), y1, y2, rfl, by rw [ht]; exact hP9, hD9⟩, hS.F ht⟩) hS.2.2 dX10_near_42
set_option maxHeartbeats 4000000 in
set_option maxRecDepth 100000 in
theorem k_near_a2 (l : Launch) (dC : Nat → ClassId) (dI : Nat → Nat → Nat) (cI cZ cF : ClassId) (sz : Nat) (cO : ClassId) (e0 : Nat) (mi : Nat) (x : Nat) (sh : Nat) (lw : Nat) (ro : Nat) (bq : Nat) (bp : Nat) (dq : Nat) (dp : Nat) (lv : Nat) (sl : Nat) (sd : Int32) (ul : Int32) (su : Int32) (ea : Nat) (mc9 : Int32) (fa : Nat) (FA : Nat → Option Nat) (bs : Nat) (dn : Nat) (T : Nat) (ft : Nat) (FT : Nat → Nat) (V : Nat → Nat → Nat → Int32) (VX : Nat → Nat → Int32) (VY : Nat → Nat → Int32) (tn : Nat → Int32) (rk : Nat → Int32) (wd : Nat → Int32) (tw : Nat → Int32) (pa : Nat → Int32) (pb : Nat → Int32) (wh : Nat → Int32) (of9 : Nat → Int32) (we : Nat → Int32) (kd : Nat → Int32) (st : Nat → Int32) (gb : Nat → Int32) (it : Nat → Int32) (mn : Nat → Int32) (cx : Nat → Int32) (cy : Nat → Int32) (L : List Nat) (f : Nat → va_E) (f0 : Nat) (g0 : Nat) (y1 : Int64) (y2 : Int64) (wv : Int32) (hB : shB cI cO L f e0 FA ea bs dn T ft FT V VX VY tn rk wd tw pa pb wh of9 we kd st gb it mn cx cy) (hf0 : f0 < ft) (htn : (tn f0).toInt = 0) (hg0 : g0 < ft) (htg : (tn g0).toInt = 0) (hgf : g0 ≠ f0) (hst : (st f0).toInt = 1) (hsg : (st g0).toInt = 1) (hwf : ∀ q, lvF ft st tn q → wfM mn cx cy q) (hkn : okN ft st tn kd mn) : Met l yX10_near (.code yX10_near cX10_near 6 (some .long) :: ws0) ({ frames := 4, cells := 0, slots := 0, locals := 104 } : Room) (va_Pc [.ref x, .int (nI f0), .int (nI g0), .int wv] (zPre (dC, dI) classes (zTyO cI cZ cF cO) ([(oc8 x (.ref sh) (.ref lw) (.ref ro) (.ref bq) (.ref bp) (.ref dq) (.ref dp) (.ref lv) (.ref sl) (nI dn) sd ul su), (oc10 sl mc9 (.ref ea) (nI T)), (oc2 dq y1 y2), (oc7 sh (.ref fa) (nI ft)), (oq fa cF 200 FA)] ++ va_pl L f) sz (zXL e0 mi (va_A ([(oc8 x (.ref sh) (.ref lw) (.ref ro) (.ref bq) (.ref bp) (.ref dq) (.ref dp) (.ref lv) (.ref sl) (nI dn) sd ul su), (oc10 sl mc9 (.ref ea) (nI T)), (oc2 dq y1 y2), (oc7 sh (.ref fa) (nI ft)), (oq fa cF 200 FA)] ++ va_pl L f) sz)))) (zQe (fun v9 t => ∃ (b9 : Int64), ∃ (y5 : Int64), ∃ (y6 : Int64), v9 = (some (.long b9)) ∧ va_P (dC, dI) classes ([(oc8 x (.ref sh) (.ref lw) (.ref ro) (.ref bq) (.ref bp) (.ref dq) (.ref dp) (.ref lv) (.ref sl) (nI dn) sd ul su), (oc10 sl mc9 (.ref ea) (nI T)), (oc2 dq y5 y6), (oc7 sh (.ref fa) (nI ft)), (oq fa cF 200 FA)] ++ va_pl L f) t.heap ∧ va_D (va_A ([(oc8 x (.ref sh) (.ref lw) (.ref ro) (.ref bq) (.ref bp) (.ref dq) (.ref dp) (.ref lv) (.ref sl) (nI dn) sd ul su), (oc10 sl mc9 (.ref ea) (nI T)), (oc2 dq y1 y2), (oc7 sh (.ref fa) (nI ft)), (oq fa cF 200 FA)] ++ va_pl L f) sz) ([(oc8 x (.ref sh) (.ref lw) (.ref ro) (.ref bq) (.ref bp) (.ref dq) (.ref dp) (.ref lv) (.ref sl) (nI dn) sd ul su), (oc10 sl mc9 (.ref ea) (nI T)), (oc2 dq y5 y6), (oc7 sh (.ref fa) (nI ft)), (oq fa cF 200 FA)] ++ va_pl L f)) (va_A ([(oc8 x (.ref sh) (.ref lw) (.ref ro) (.ref bq) (.ref bp) (.ref dq) (.ref dp) (.ref lv) (.ref sl) (nI dn) sd ul su), (oc10 sl mc9 (.ref ea) (nI T)), (oc2 dq y1 y2), (oc7 sh (.ref fa) (nI ft)), (oq fa cF 200 FA)] ++ va_pl L f) sz)) 0 0 (va_A ([(oc8 x (.ref sh) (.ref lw) (.ref ro) (.ref bq) (.ref bp) (.ref dq) (.ref dp) (.ref lv) (.ref sl) (nI dn) sd ul su), (oc10 sl mc9 (.ref ea) (nI T)), (oc2 dq y1 y2), (oc7 sh (.ref fa) (nI ft)), (oq fa cF 200 FA)] ++ va_pl L f) sz) := by
  refine Met.ofW (cc := cX10_near) (maxL := 6) (ret := (some .long)) rfl rfl ?_
  intro p e s m args below meth c s₁ B hml hv
  obtain ⟨rfl, hsz, hP, hK, hD0, hXL⟩ := hv
  have hx := B.exec
  have hb := B.bytes
  have hr := B.returns
  have hts0 := atoms_spec (ws := .code yX10_near cX10_near 6 (some .long) :: ws0) B.pre
  have hts : ∀ w9 ∈ ws0, w9.before ([.ref x, .int (nI f0), .int (nI g0), .int wv] : List Value).toArray s = true := fun w9 h => hts0 w9 (List.mem_cons_of_mem _ h)
  have hown : s.vm.findClass "ScaleShop" = some m.cls := findClass_of_methodNamed B.named
  have hlocks := B.notSynchronized
  subst hsz
  have hD := hD0.self (sz := s.heap.size)
  clear hD0
  generalize hAe : va_A ([(oc8 x (.ref sh) (.ref lw) (.ref ro) (.ref bq) (.ref bp) (.ref dq) (.ref dp) (.ref lv) (.ref sl) (nI dn) sd ul su), (oc10 sl mc9 (.ref ea) (nI T)), (oc2 dq y1 y2), (oc7 sh (.ref fa) (nI ft)), (oq fa cF 200 FA)] ++ va_pl L f) s.heap.size = A at hD hXL ⊢
  have hA : ∀ q : Nat, s.heap.size ≤ q → A q := fun q h => by rw [← hAe]; exact Or.inr h
  clear hAe
  have hS : va_S A s.heap s.heap [] := va_S.rf
  have hXN := hXL.1
  have hK3 := hK.sub [0, 1, 2] rfl
  have hP : va_P (dC, dI) classes ([(oc8 x (.ref sh) (.ref lw) (.ref ro) (.ref bq) (.ref bp) (.ref dq) (.ref dp) (.ref lv) (.ref sl) (nI dn) sd ul su), (oc10 sl mc9 (.ref ea) (nI T)), (oc2 dq y1 y2), (oc7 sh (.ref fa) (nI ft)), (oq fa cF 200 FA)] ++ va_pl L f) s.heap := hP
  obtain ⟨Q9, hQ9⟩ : ∃ Q9 : State → Prop, Q9 = MQ below (zQe (fun v9 t => ∃ (b9 : Int64), ∃ (y5 : Int64), ∃ (y6 : Int64), v9 = (some (.long b9)) ∧ va_P (dC, dI) classes ([(oc8 x (.ref sh) (.ref lw) (.ref ro) (.ref bq) (.ref bp) (.ref dq) (.ref dp) (.ref lv) (.ref sl) (nI dn) sd ul su), (oc10 sl mc9 (.ref ea) (nI T)), (oc2 dq y5 y6), (oc7 sh (.ref fa) (nI ft)), (oq fa cF 200 FA)] ++ va_pl L f) t.heap ∧ va_D A ([(oc8 x (.ref sh) (.ref lw) (.ref ro) (.ref bq) (.ref bp) (.ref dq) (.ref dp) (.ref lv) (.ref sl) (nI dn) sd ul su), (oc10 sl mc9 (.ref ea) (nI T)), (oc2 dq y5 y6), (oc7 sh (.ref fa) (nI ft)), (oq fa cF 200 FA)] ++ va_pl L f)) A) ([.ref x, .int (nI f0), .int (nI g0), .int wv] : List Value).toArray s 0 0 A := ⟨_, rfl⟩
  rw [← hQ9]
  have hl := lv_entry ([.ref x, .int (nI f0), .int (nI g0), .int wv]) (n := 6) (Nat.le_of_ble_eq_true rfl)
  rw [lg_entry_eq]
  generalize (lg_sl ([.ref x, .int (nI f0), .int (nI g0), .int wv]) ++ List.replicate (6 - (lg_sl ([.ref x, .int (nI f0), .int (nI g0), .int wv])).length) Slot.unset).toArray = ls at hl ⊢
  have hl : lv_has ls 6 [(0, .ref x), (1, .int (nI f0)), (2, .int (nI g0)), (3, .int wv)] := hl
  obtain ⟨own, fe, cl, la, sp, SA, hG9, hH9, hft9, hO9⟩ := hB
  obtain ⟨hG, hM, hdT, hT5, hO⟩ := M_0 hG9 hH9 hft9 hO9
  have h200 : ft ≤ 200 := hG.2.2.2.2.2.1.2.2.2.2.2
  have hFA9 := hG.2.2.2.2.2.2
  refine ex13 (sh_fc hG.1 hG.2.1 (Nat.le_refl _) hf0 htn) (fun lo5 lx5 ly5 ln5 LX5 LY5 we5 r5 rx5 ry5 cap5 X5 Y5 hc5 => ?_)
  have hc5 := fc_0 hc5
  have hb5 := hc5.2.2.1
  have hb6 := hc5.2.1
  have hat9 := lo_at hO (Nat.le_refl _) hf0 hc5.1.1 hc5.1.2.2.2 (by omega) hc5.1.2.1 hb5.2.2
  refine ex13 (sh_fc hG.1 hG.2.1 (Nat.le_refl _) hg0 htg) (fun lo6 lx6 ly6 ln6 LX6 LY6 we6 r6 rx6 ry6 cap6 X6 Y6 hc6 => ?_)
  have hc6 := fc_0 hc6
  have hb7 := hc6.2.2.1
  have hb8 := hc6.2.1
  have hlv : lvF ft st tn f0 := ⟨hf0, hst, htn⟩
  have hlg : lvF ft st tn g0 := ⟨hg0, hsg, htg⟩
  have hwf0 := hwf f0 hlv
  have hwfg := hwf g0 hlg
  have hw1 := hwf0.2.1
  have hw2 := hwfg.2.1
  have hkn0 := hkn f0 hlv
  have hkng := hkn g0 hlg
  have hX5 := hc5.2.2.2.2.1
  have hX6 := hc6.2.2.2.2.1
  have hp5 := (pls_cg hX5).mpr hwf0.2.2
  have hp6 := (pls_cg hX6).mpr hwfg.2.2
  have hti := jtch_iff hw1.1 hw2.1 hX5 hX6 hkn0 hkng
  have e_0 : (0 : Int32).toInt = 0 := (by decide)
  have e_1 : (1 : Int32).toInt = 1 := (by decide)
  have hc9_1 : inPl L f [(oc1 (fe f0) (rk f0) (wd f0) (tw f0) (pa f0) (pb f0) (.ref lo5) (.ref (la dn f0)) .null), (oc4 (la dn f0) (kd f0) (st f0) (.ref r5) (gb f0) (it f0) (nI we5)), (oc6 r5 (.ref rx5) (.ref ry5) (nI (nN (mn f0))) (rgK (kd f0).toInt)), (oa rx5 cI cap5 X5), (oa ry5 cI cap5 Y5), (oc6 lo5 (.ref lx5) (.ref ly5) (nI ln5) 0), (oa lx5 cI (cl f0) LX5), (oa ly5 cI (cl f0) LY5), (oc1 (fe g0) (rk g0) (wd g0) (tw g0) (pa g0) (pb g0) (.ref lo6) (.ref (la dn g0)) .null), (oc4 (la dn g0) (kd g0) (st g0) (.ref r6) (gb g0) (it g0) (nI we6)), (oc6 r6 (.ref rx6) (.ref ry6) (nI (nN (mn g0))) (rgK (kd g0).toInt)), (oa rx6 cI cap6 X6), (oa ry6 cI cap6 Y6), (oc6 lo6 (.ref lx6) (.ref ly6) (nI ln6) 0), (oa lx6 cI (cl g0) LX6), (oa ly6 cI (cl g0) LY6)] := ⟨ce_pl hc5.1.1, ce_pl hc5.1.2.1, ce_pl hc5.1.2.2.1.1, ce_pl hc5.1.2.2.1.2.1, ce_pl hc5.1.2.2.1.2.2.1, ce_pl hc5.1.2.2.2.1, ce_pl hc5.1.2.2.2.2.1, ce_pl hc5.1.2.2.2.2.2.1, ce_pl hc6.1.1, ce_pl hc6.1.2.1, ce_pl hc6.1.2.2.1.1, ce_pl hc6.1.2.2.1.2.1, ce_pl hc6.1.2.2.1.2.2.1, ce_pl hc6.1.2.2.2.1, ce_pl hc6.1.2.2.2.2.1, ce_pl hc6.1.2.2.2.2.2.1, trivial⟩
  have hD0_1 := hD
  obtain ⟨T_1, hT_1, hP, hD⟩ := pl_oT hP hD hc9_1 (pw_ap (own := own) (p := g0) (A := [(oc1 (fe f0) (rk f0) (wd f0) (tw f0) (pa f0) (pb f0) (.ref lo5) (.ref (la dn f0)) .null), (oc4 (la dn f0) (kd f0) (st f0) (.ref r5) (gb f0) (it f0) (nI we5)), (oc6 r5 (.ref rx5) (.ref ry5) (nI (nN (mn f0))) (rgK (kd f0).toInt)), (oa rx5 cI cap5 X5), (oa ry5 cI cap5 Y5), (oc6 lo5 (.ref lx5) (.ref ly5) (nI ln5) 0), (oa lx5 cI (cl f0) LX5), (oa ly5 cI (cl f0) LY5)]) (B := [(oc1 (fe g0) (rk g0) (wd g0) (tw g0) (pa g0) (pb g0) (.ref lo6) (.ref (la dn g0)) .null), (oc4 (la dn g0) (kd g0) (st g0) (.ref r6) (gb g0) (it g0) (nI we6)), (oc6 r6 (.ref rx6) (.ref ry6) (nI (nN (mn g0))) (rgK (kd g0).toInt)), (oa rx6 cI cap6 X6), (oa ry6 cI cap6 Y6), (oc6 lo6 (.ref lx6) (.ref ly6) (nI ln6) 0), (oa lx6 cI (cl g0) LX6), (oa ly6 cI (cl g0) LY6)]) (pw8 hc5 (by omega)) (pw8 hc6 (by omega)) (fc_ne hc5 (by omega) (by omega) hgf) (fun r hr => fc_ne hc6 (by omega) (by omega) hr))
  obtain ⟨hP, hD⟩ := zre (W2 := ([_, _, _, _, _, _, _, _, _, _, _, _, _, _, _, _, _, _, _, _, _] ++ va_pl T_1 f)) hP hD rfl
  refine lv_aload_n hx hb dX10_near_0 rfl (lv_at hl 0 rfl) ?_
  refine va_get (D := (dC, dI)) (ci := 8) (v := .ref sh) (C := RX10) (T := TX10) (N := 13) hx hb hts inX10 hown hK hP 0 rfl rfl 0 (Nat.le_of_ble_eq_true rfl) (hts _ mw_309) (fun _ h9 => h9) rfl dX10_near_1 ?_
  refine lv_iload_n hx hb dX10_near_4 rfl (lv_at hl 1 rfl) ?_
  obtain ⟨hPc, hDc, hFc, hI1⟩ := zi_sub (wc := [_, _, _, _]) hP hD hS hA [3, 4, 5, 6] (by decide +kernel) rfl
  refine zcall (st1 := [.ref r5]) (va_runV (As := [.int (nI f0)]) (rest := []) ⟨hx, hb, hml, hown, hts⟩ (k_Sheet_rowThere_yv l dC dI cI cZ cF s.heap.size sh fa ft FA f0 (fe f0) lo5 (rk f0) (wd f0) (tw f0) (pa f0) (pb f0) (la dn f0) (kd f0) (st f0) (gb f0) (it f0) (nI we5) r5 (.null) (by first | with_reducible assumption | omega) (by first | with_reducible assumption | omega) (hFA9 f0 (by first | with_reducible assumption | omega)) (hst)) (csV_144 hts rfl rfl ⟨Nat.le_of_ble_eq_true rfl, Nat.le_of_ble_eq_true rfl⟩) (zPV2 (q0 := 0) (ci := 7) hPc hDc hK3 hXN rfl rfl) rfl rfl hl.1 rfl (lv_room (Nat.le_of_ble_eq_true rfl)) dX10_near_5 ⟨Nat.le_of_ble_eq_true rfl, Nat.le_of_ble_eq_true rfl⟩) hS hFc hFc rfl (fun t H locs ht hB hk1 hS => ?_)
  obtain ⟨hP1, hD1⟩ := hB
  rw [ht] at hP1
  replace hP := z0 hP hD hk1 hP1 hI1
  clear hk1 hPc hDc hFc hP1 hD1 ht hI1
  refine lv_astore (lv' := [(4, .ref r5), (0, .ref x), (1, .int (nI f0)), (2, .int (nI g0)), (3, .int wv)]) hx hb dX10_near_8 hl (Nat.le_of_ble_eq_true rfl) rfl (fun ls hl => ?_)
  refine lv_aload_n hx hb dX10_near_10 rfl (lv_at hl 1 rfl) ?_
  refine va_get (D := (dC, dI)) (ci := 8) (v := .ref sh) (C := RX10) (T := TX10) (N := 13) hx hb hts inX10 hown hK hP 0 rfl rfl 0 (Nat.le_of_ble_eq_true rfl) (hts _ mw_309) (fun _ h9 => h9) rfl dX10_near_11 ?_
  refine lv_iload_n hx hb dX10_near_14 rfl (lv_at hl 3 rfl) ?_
  obtain ⟨hPc, hDc, hFc, hI1⟩ := zi_sub (wc := [_, _, _, _]) hP hD hS hA [3, 4, 13, 14] (by decide +kernel) rfl
  refine zcall (st1 := [.ref r6]) (va_runV (As := [.int (nI g0)]) (rest := []) ⟨hx, hb, hml, hown, hts⟩ (k_Sheet_rowThere_yv l dC dI cI cZ cF H.size sh fa ft FA g0 (fe g0) lo6 (rk g0) (wd g0) (tw g0) (pa g0) (pb g0) (la dn g0) (kd g0) (st g0) (gb g0) (it g0) (nI we6) r6 (.null) (by first | with_reducible assumption | omega) (by first | with_reducible assumption | omega) (hFA9 g0 (by first | with_reducible assumption | omega)) (hsg)) (csV_144 hts rfl rfl ⟨Nat.le_of_ble_eq_true rfl, Nat.le_of_ble_eq_true rfl⟩) (zPV2 (q0 := 0) (ci := 7) hPc hDc hK3 hXN rfl rfl) rfl rfl hl.1 rfl (lv_room (Nat.le_of_ble_eq_true rfl)) dX10_near_15 ⟨Nat.le_of_ble_eq_true rfl, Nat.le_of_ble_eq_true rfl⟩) hS hFc hFc rfl (fun t H locs ht hB hk1 hS => ?_)
  obtain ⟨hP1, hD1⟩ := hB
  rw [ht] at hP1
  replace hP := z0 hP hD hk1 hP1 hI1
  clear hk1 hPc hDc hFc hP1 hD1 ht hI1
  refine lv_astore (lv' := [(5, .ref r6), (4, .ref r5), (0, .ref x), (1, .int (nI f0)), (2, .int (nI g0)), (3, .int wv)]) hx hb dX10_near_18 hl (Nat.le_of_ble_eq_true rfl) rfl (fun ls hl => ?_)
  refine lv_aload hx hb dX10_near_20 (lv_at hl 1 rfl) ?_
  refine lv_ifnull hx hb dX10_near_22 ?_
  refine lv_aload hx hb dX10_near_25 (lv_at hl 0 rfl) ?_
  refine lv_ifnull hx hb dX10_near_27 ?_
  refine lv_iload_n hx hb dX10_near_30 rfl (lv_at hl 5 rfl) ?_
  refine lv_iconst (v := 0) hx hb dX10_near_31 rfl ?_
  refine lv_iconst (v := 1) hx hb dX10_near_32 rfl ?_
  obtain ⟨hPc, hDc, hFc, hI1⟩ := zi_sub (wc := []) hP hD hS hA [] rfl rfl
  refine zcall (st1 := [.int (pI ((0 : Int32).toInt ≤ wv.toInt ∧ wv.toInt ≤ (1 : Int32).toInt))]) (va_runS (As := [.int wv, .int 0, .int 1]) (rest := []) ⟨hx, hb, hml, hown, hts⟩ (k_isWithin l dC dI cI cZ cF H.size wv 0 1 ) (csS_14 hts rfl rfl ⟨Nat.le_of_ble_eq_true rfl, Nat.le_of_ble_eq_true rfl⟩) (zPS2 hPc hDc hK3 hXN) rfl rfl hl.1 rfl (lv_room (Nat.le_of_ble_eq_true rfl)) dX10_near_33 ⟨Nat.le_of_ble_eq_true rfl, Nat.le_of_ble_eq_true rfl⟩) hS hFc hFc rfl (fun t H locs ht hB hk1 hS => ?_)
  obtain ⟨hP1, hD1⟩ := hB
  rw [ht] at hP1
  replace hP := z0 hP hD hk1 hP1 hI1
  clear hk1 hPc hDc hFc hP1 hD1 ht hI1
  refine lv_if_ne (tgt := 43) hx hb dX10_near_36 rfl (fun c_1 => ?_) (fun c_1 => ?_)
  · have c_1 : (0 : Int32).toInt ≤ wv.toInt ∧ wv.toInt ≤ (1 : Int32).toInt := zp_1 c_1
    by_cases htc : ∃ i, i < prt (nN (mn f0)) (rgK (kd f0).toInt) ∧ ∃ j, j < prt (nN (mn g0)) (rgK (kd g0).toInt) ∧ eMt (nN (mn f0)) X5 Y5 i (nN (mn g0)) X6 Y6 j
    · skip
      refine lv_aload_n hx hb dX10_near_43 rfl (lv_at hl 2 rfl) ?_
      refine va_get (D := (dC, dI)) (ci := 8) (v := .ref dq) (C := RX10) (T := TX10) (N := 13) hx hb hts inX10 hown hK hP 0 rfl rfl 5 (Nat.le_of_ble_eq_true rfl) (hts _ mw_314) (fun _ h9 => h9) rfl dX10_near_44 ?_
      refine lv_aload hx hb dX10_near_47 (lv_at hl 1 rfl) ?_
      refine lv_aload hx hb dX10_near_49 (lv_at hl 0 rfl) ?_
      obtain ⟨hPc, hDc, hFc⟩ := zo_sub (wc := [_, _, _, _, _, _, _]) hP hD hS hA [2, 7, 8, 9, 15, 16, 17] (by decide +kernel) rfl
      refine zcall (st1 := []) (va_runV (As := [.ref r5, .ref r6]) (rest := []) ⟨hx, hb, hml, hown, hts⟩ (k_Fr_between_m l dC dI cI cZ cF H.size dq y1 y2 r5 rx5 ry5 (nN (mn f0)) cap5 X5 Y5 (rgK (kd f0).toInt) r6 rx6 ry6 (nN (mn g0)) cap6 X6 Y6 (rgK (kd g0).toInt) (by first | with_reducible assumption | omega) (by first | with_reducible assumption | omega) (hp5) (by first | with_reducible assumption | omega) (by first | with_reducible assumption | omega) (hp6) (htc)) (csV_127 hts rfl rfl ⟨Nat.le_of_ble_eq_true rfl, Nat.le_of_ble_eq_true rfl⟩) (zPV2 (q0 := 0) (ci := 2) hPc hDc hK3 hXN rfl rfl) rfl rfl hl.1 rfl (lv_room (Nat.le_of_ble_eq_true rfl)) dX10_near_51 ⟨Nat.le_of_ble_eq_true rfl, Nat.le_of_ble_eq_true rfl⟩) hS hFc hFc rfl (fun t H locs ht hB hk1 hS => ?_)
      obtain ⟨hP1, hD1⟩ := hB
      rw [ht] at hP1
      obtain ⟨hP, hD⟩ := znQ (W2 := [_, _, (oc2 dq (jI 0) (jI 1)), _, _, _, _, _, _, _, _, _, _, _, _, _, _, _, _, _, _]) hP hD hk1 hFc hP1 hD1 [2, 7, 8, 9, 15, 16, 17] zl_134 zl_134 [2, 7, 8, 9, 15, 16, 17] (by decide +kernel) rfl rfl rfl rfl rfl
      clear hk1 hPc hDc hFc hP1 hD1 ht
      refine lv_aload_n hx hb dX10_near_54 rfl (lv_at hl 2 rfl) ?_
      refine va_get (D := (dC, dI)) (ci := 8) (v := .ref dq) (C := RX10) (T := TX10) (N := 13) hx hb hts inX10 hown hK hP 0 rfl rfl 5 (Nat.le_of_ble_eq_true rfl) (hts _ mw_314) (fun _ h9 => h9) rfl dX10_near_55 ?_
      refine lv_iload_n hx hb dX10_near_58 rfl (lv_at hl 5 rfl) ?_
      obtain ⟨hPc, hDc, hFc⟩ := zo_sub (wc := [_]) hP hD hS hA [2] rfl rfl
      refine zcalle (va_runV (As := [.int wv]) (rest := []) ⟨hx, hb, hml, hown, hts⟩ (k_Fr_reduced_a l dC dI cI cZ cF H.size dq (jI 0) (jI 1) wv ) (csV_153 hts rfl rfl ⟨Nat.le_of_ble_eq_true rfl, Nat.le_of_ble_eq_true rfl⟩) (zPV2 (q0 := 0) (ci := 2) hPc hDc hK3 hXN rfl rfl) rfl rfl hl.1 rfl (lv_room (Nat.le_of_ble_eq_true rfl)) dX10_near_59 ⟨Nat.le_of_ble_eq_true rfl, Nat.le_of_ble_eq_true rfl⟩) hS hFc hFc (fun v9 t H locs ht hB hk1 hS => ?_)
      obtain ⟨d9, rfl, hP1, hD1⟩ := hB
      refine W.eq (g2 := F0 m 62 ls [.long d9]) rfl ?_
      rw [ht] at hP1
      obtain ⟨hP, hD⟩ := znQ (W2 := [_, _, _, _, _, _, _, _, _, _, _, _, _, _, _, _, _, _, _, _, _]) hP hD hk1 hFc hP1 hD1 [2] zl_136 zl_136 [2] (by decide +kernel) rfl rfl rfl rfl rfl
      clear hk1 hPc hDc hFc hP1 hD1 ht
      obtain ⟨hP, hD⟩ := pl_bk (X := [_, _, _, _, _]) hT_1 hP rfl hc9_1 hD0_1 rfl
      obtain ⟨hP9, hD9⟩ := zu_part (cx := [_, _, _, _, _]) hP hD [true, true, true, true, true] rfl rfl
      rw [hQ9]
      exact W.lret (v := d9) hx hb hr (fun t ht hW => ⟨⟨_, rfl, d9, (jI 0), (jI 1), rfl, by rw [ht]; exact hP9, hD9⟩, hS.F ht⟩) hS.2.2 dX10_near_62
    · skip
      refine lv_aload_n hx hb dX10_near_43 rfl (lv_at hl 2 rfl) ?_
      refine va_get (D := (dC, dI)) (ci := 8) (v := .ref dq) (C := RX10) (T := TX10) (N := 13) hx hb hts inX10 hown hK hP 0 rfl rfl 5 (Nat.le_of_ble_eq_true rfl) (hts _ mw_314) (fun _ h9 => h9) rfl dX10_near_44 ?_
      refine lv_aload hx hb dX10_near_47 (lv_at hl 1 rfl) ?_
      refine lv_aload hx hb dX10_near_49 (lv_at hl 0 rfl) ?_
      obtain ⟨hPc, hDc, hFc⟩ := zo_sub (wc := [_, _, _, _, _, _, _]) hP hD hS hA [2, 7, 8, 9, 15, 16, 17] (by decide +kernel) rfl
      refine zcall (st1 := []) (va_runV (As := [.ref r5, .ref r6]) (rest := []) ⟨hx, hb, hml, hown, hts⟩ (k_Fr_between_n l dC dI cI cZ cF H.size dq y1 y2 r5 rx5 ry5 (nN (mn f0)) cap5 X5 Y5 (rgK (kd f0).toInt) r6 rx6 ry6 (nN (mn g0)) cap6 X6 Y6 (rgK (kd g0).toInt) (by first | with_reducible assumption | omega) (by first | with_reducible assumption | omega) (hp5) (by first | with_reducible assumption | omega) (by first | with_reducible assumption | omega) (hp6) (htc) (by first | with_reducible assumption | omega) (by first | with_reducible assumption | omega) (prt_1 hkn0) (prt_1 hkng)) (csV_127 hts rfl rfl ⟨Nat.le_of_ble_eq_true rfl, Nat.le_of_ble_eq_true rfl⟩) (zPV2 (q0 := 0) (ci := 2) hPc hDc hK3 hXN rfl rfl) rfl rfl hl.1 rfl (lv_room (Nat.le_of_ble_eq_true rfl)) dX10_near_51 ⟨Nat.le_of_ble_eq_true rfl, Nat.le_of_ble_eq_true rfl⟩) hS hFc hFc rfl (fun t H locs ht hB hk1 hS => ?_)
      obtain ⟨zu7, zd7, him7, hzb7, hP1, hD1⟩ := hB
      rw [ht] at hP1
      obtain ⟨hP, hD⟩ := znQ (W2 := [_, _, (oc2 dq (jI zu7) (jI zd7)), _, _, _, _, _, _, _, _, _, _, _, _, _, _, _, _, _, _]) hP hD hk1 hFc hP1 hD1 [2, 7, 8, 9, 15, 16, 17] zl_134 zl_134 [2, 7, 8, 9, 15, 16, 17] (by decide +kernel) rfl rfl rfl rfl rfl
      clear hk1 hPc hDc hFc hP1 hD1 ht
      refine lv_aload_n hx hb dX10_near_54 rfl (lv_at hl 2 rfl) ?_
      refine va_get (D := (dC, dI)) (ci := 8) (v := .ref dq) (C := RX10) (T := TX10) (N := 13) hx hb hts inX10 hown hK hP 0 rfl rfl 5 (Nat.le_of_ble_eq_true rfl) (hts _ mw_314) (fun _ h9 => h9) rfl dX10_near_55 ?_
      refine lv_iload_n hx hb dX10_near_58 rfl (lv_at hl 5 rfl) ?_
      obtain ⟨hPc, hDc, hFc⟩ := zo_sub (wc := [_]) hP hD hS hA [2] rfl rfl
      refine zcalle (va_runV (As := [.int wv]) (rest := []) ⟨hx, hb, hml, hown, hts⟩ (k_Fr_reduced_a l dC dI cI cZ cF H.size dq (jI zu7) (jI zd7) wv ) (csV_153 hts rfl rfl ⟨Nat.le_of_ble_eq_true rfl, Nat.le_of_ble_eq_true rfl⟩) (zPV2 (q0 := 0) (ci := 2) hPc hDc hK3 hXN rfl rfl) rfl rfl hl.1 rfl (lv_room (Nat.le_of_ble_eq_true rfl)) dX10_near_59 ⟨Nat.le_of_ble_eq_true rfl, Nat.le_of_ble_eq_true rfl⟩) hS hFc hFc (fun v9 t H locs ht hB hk1 hS => ?_)
      obtain ⟨d9, rfl, hP1, hD1⟩ := hB
      refine W.eq (g2 := F0 m 62 ls [.long d9]) rfl ?_
      rw [ht] at hP1
      obtain ⟨hP, hD⟩ := znQ (W2 := [_, _, _, _, _, _, _, _, _, _, _, _, _, _, _, _, _, _, _, _, _]) hP hD hk1 hFc hP1 hD1 [2] zl_136 zl_136 [2] (by decide +kernel) rfl rfl rfl rfl rfl
      clear hk1 hPc hDc hFc hP1 hD1 ht
      obtain ⟨hP, hD⟩ := pl_bk (X := [_, _, _, _, _]) hT_1 hP rfl hc9_1 hD0_1 rfl
      obtain ⟨hP9, hD9⟩ := zu_part (cx := [_, _, _, _, _]) hP hD [true, true, true, true, true] rfl rfl
      rw [hQ9]
      exact W.lret (v := d9) hx hb hr (fun t ht hW => ⟨⟨_, rfl, d9, (jI zu7), (jI zd7), rfl, by rw [ht]; exact hP9, hD9⟩, hS.F ht⟩) hS.2.2 dX10_near_62
  · have c_1 : ¬ ((0 : Int32).toInt ≤ wv.toInt ∧ wv.toInt ≤ (1 : Int32).toInt) := zp_0 c_1
    refine lv_ldc2 hx hb hown (hts _ mw_1077) dX10_near_39 ?_
    obtain ⟨hP, hD⟩ := pl_bk (X := [_, _, _, _, _]) hT_1 hP rfl hc9_1 hD0_1 rfl
    obtain ⟨hP9, hD9⟩ := zu_part (cx := [_, _, _, _, _]) hP hD [true, true, true, true, true] rfl rfl
    rw [hQ9]
    exact W.lret (v := (-1)) hx hb hr (fun t ht hW => ⟨⟨_, rfl, (-1), y1, y2, rfl, by rw [ht]; exact hP9, hD9⟩, hS.F ht⟩) hS.2.2 dX10_near_42
end
section
set_option maxHeartbeats 4000000 in
set_option maxRecDepth 100000 in
theorem k_run_4 (l : Launch) (dC : Nat → ClassId) (dI : Nat → Nat → Nat) (cI cZ cF : ClassId) (sz : Nat) (x : Nat) (sh : Nat) (lw : Nat) (ro : Nat) (bq : Nat) (bp : Nat) (dq : Nat) (dp : Nat) (lv : Nat) (sl : Nat) (sd : Int32) (ul : Int32) (su : Int32) (ds : Int32) (lim : Int32) (hbad : lim.toInt < 0) : zM l yX10_run cX10_run 7 (some .int) ({ frames := 1, cells := 0, slots := 0, locals := 21 } : Room) [.ref x, .int lim] (dC, dI) (zTy cI cZ cF) [(oc8 x (.ref sh) (.ref lw) (.ref ro) (.ref bq) (.ref bp) (.ref dq) (.ref dp) (.ref lv) (.ref sl) ds sd ul su)] sz (some (.int (-1))) (fun A t => zPD (dC, dI) classes A [(oc8 x (.ref sh) (.ref lw) (.ref ro) (.ref bq) (.ref bp) (.ref dq) (.ref dp) (.ref lv) (.ref sl) ds sd ul 4)] t.heap) 0 0 := by
  refine zIn (own := "ScaleShop") (loc := [(0, .ref x), (1, .int lim)]) rfl rfl rfl rfl (fun p e s m below meth c hx hb hr hts hown hlocks hml hnm9 A hA hS hP hD hK hXN Q9 hQ9 ls hl => ?_)
  have e_0 : (0 : Int32).toInt = 0 := (by decide)
  refine lv_iload_n hx hb dX10_run_0 rfl (lv_at hl 1 rfl) ?_
  refine lv_if_ge (tgt := 10) hx hb dX10_run_1 rfl (fun c_1 => ?_) (fun c_1 => ?_)
  · have c_1 : 0 ≤ lim.toInt := zc_le rfl rfl c_1
    exact absurd hbad (by omega)
  · have c_1 : lim.toInt < 0 := zc_nle rfl rfl c_1
    refine lv_aload_n hx hb dX10_run_4 rfl (lv_at hl 0 rfl) ?_
    refine lv_iconst (v := 4) hx hb dX10_run_5 rfl ?_
    obtain ⟨hPc, hDc, hFc⟩ := zo_sub (wc := [_]) hP hD hS hA [0] rfl rfl
    refine zcall (st1 := [.int (-1)]) (va_runV (As := [.int 4]) (rest := []) ⟨hx, hb, hml, hown, hts⟩ (k_refuse_4 l dC dI cI cZ cF s.heap.size x sh lw ro bq bp dq dp lv sl sd ul su ds ) (csV_95 hts rfl rfl ⟨Nat.le_of_ble_eq_true rfl, Nat.le_of_ble_eq_true rfl⟩) (zPV2 (q0 := 0) (ci := 8) hPc hDc hK hXN rfl rfl) rfl rfl hl.1 rfl (lv_room (Nat.le_of_ble_eq_true rfl)) dX10_run_6 ⟨Nat.le_of_ble_eq_true rfl, Nat.le_of_ble_eq_true rfl⟩) hS hFc hFc rfl (fun t H locs ht hB hk1 hS => ?_)
    obtain ⟨hP1, hD1⟩ := hB
    rw [ht] at hP1
    obtain ⟨hP, hD⟩ := zn (W2 := [(oc8 x (.ref sh) (.ref lw) (.ref ro) (.ref bq) (.ref bp) (.ref dq) (.ref dp) (.ref lv) (.ref sl) ds sd ul 4)]) hP hD hk1 hFc hP1 hD1 [0] [] [false] [0] (by decide +kernel) rfl rfl rfl rfl rfl
    clear hk1 hPc hDc hFc hP1 hD1 ht
    obtain ⟨hP9, hD9⟩ := zu_sub (wc := [_]) hP hD [true] rfl rfl
    rw [hQ9]
    exact W.iret (v := (-1)) hx hb hr (fun t ht hW => ⟨⟨rfl, by rw [ht]; exact hP9, hD9⟩, hS.F ht⟩) hS.2.2 dX10_run_9
set_option maxHeartbeats 4000000 in
set_option maxRecDepth 100000 in
theorem k_Box_init (l : Launch) (dC : Nat → ClassId) (dI : Nat → Nat → Nat) (cI cZ cF : ClassId) (sz : Nat) (bb : Nat) : zM l yX0_init cX0_init 1 none ({ frames := 1, cells := 0, slots := 0, locals := 12 } : Room) [.ref bb] (dC, dI) (zTy cI cZ cF) [(oc0 bb 0 0 0 0)] sz none (fun A t => zPD (dC, dI) classes A [(oc0 bb 0 0 0 0)] t.heap) 0 0 := by
  refine zIn (own := "ScaleShop$Box") (loc := [(0, .ref bb)]) rfl rfl rfl rfl (fun p e s m below meth c hx hb hr hts hown hlocks hml hnm9 A hA hS hP hD hK hXN Q9 hQ9 ls hl => ?_)
  have hin : meth.name = "<init>" := hnm9
  refine lv_aload_n hx hb dX0_init_0 rfl (lv_at hl 0 rfl) ?_
  refine W.objInit hx hb hown (hts _ mw_201) (hts _ mw_126) (hts _ mw_objcode) rfl (by rw [hml]; exact hl.1) rfl dX0_init_1 (Nat.le_of_ble_eq_true rfl) (Nat.le_of_ble_eq_true rfl) ?_
  refine W.eq (g2 := F0 m 4 ls []) rfl ?_
  refine lv_aload_n hx hb dX0_init_4 rfl (lv_at hl 0 rfl) ?_
  refine lv_iconst (v := 0) hx hb dX0_init_5 rfl ?_
  refine va_put (D := (dC, dI)) (ci := 0) (v := .int 0) (ty := .int) (C := RX0) (T := TX0) (N := 4) hx hb hts inX0 tyX0 tyX0_ok nmX0 hown hK hP hD hS 0 rfl rfl 0 (by decide) (hts _ mw_202) (fun _ h9 => h9) rfl (by decide +kernel) rfl rfl (Nat.le_of_ble_eq_true rfl) dX0_init_6 (fun H locs hP hD hS => ?_)
  obtain ⟨hP, hD⟩ := zre (W2 := [(oc0 bb 0 0 0 0)]) hP hD rfl
  refine lv_aload_n hx hb dX0_init_9 rfl (lv_at hl 0 rfl) ?_
  refine lv_iconst (v := 0) hx hb dX0_init_10 rfl ?_
  refine va_put (D := (dC, dI)) (ci := 0) (v := .int 0) (ty := .int) (C := RX0) (T := TX0) (N := 4) hx hb hts inX0 tyX0 tyX0_ok nmX0 hown hK hP hD hS 0 rfl rfl 1 (by decide) (hts _ mw_204) (fun _ h9 => h9) rfl (by decide +kernel) rfl rfl (Nat.le_of_ble_eq_true rfl) dX0_init_11 (fun H locs hP hD hS => ?_)
  obtain ⟨hP, hD⟩ := zre (W2 := [(oc0 bb 0 0 0 0)]) hP hD rfl
  refine lv_aload_n hx hb dX0_init_14 rfl (lv_at hl 0 rfl) ?_
  refine lv_iconst (v := 0) hx hb dX0_init_15 rfl ?_
  refine va_put (D := (dC, dI)) (ci := 0) (v := .int 0) (ty := .int) (C := RX0) (T := TX0) (N := 4) hx hb hts inX0 tyX0 tyX0_ok nmX0 hown hK hP hD hS 0 rfl rfl 2 (by decide) (hts _ mw_206) (fun _ h9 => h9) rfl (by decide +kernel) rfl rfl (Nat.le_of_ble_eq_true rfl) dX0_init_16 (fun H locs hP hD hS => ?_)
  obtain ⟨hP, hD⟩ := zre (W2 := [(oc0 bb 0 0 0 0)]) hP hD rfl
  refine lv_aload_n hx hb dX0_init_19 rfl (lv_at hl 0 rfl) ?_
  refine lv_iconst (v := 0) hx hb dX0_init_20 rfl ?_
  refine va_put (D := (dC, dI)) (ci := 0) (v := .int 0) (ty := .int) (C := RX0) (T := TX0) (N := 4) hx hb hts inX0 tyX0 tyX0_ok nmX0 hown hK hP hD hS 0 rfl rfl 3 (by decide) (hts _ mw_208) (fun _ h9 => h9) rfl (by decide +kernel) rfl rfl (Nat.le_of_ble_eq_true rfl) dX0_init_21 (fun H locs hP hD hS => ?_)
  obtain ⟨hP, hD⟩ := zre (W2 := [(oc0 bb 0 0 0 0)]) hP hD rfl
  obtain ⟨hP9, hD9⟩ := zu_sub (wc := [_]) hP hD [true] rfl rfl
  rw [hQ9]
  exact W.vret hx hb hr (fun t ht hW => ⟨⟨rfl, by rw [ht]; exact hP9, hD9⟩, hS.F ht⟩) hS.2.2 dX0_init_24
set_option maxHeartbeats 4000000 in
set_option maxRecDepth 100000 in
theorem k_Fraction_init (l : Launch) (dC : Nat → ClassId) (dI : Nat → Nat → Nat) (cI cZ cF : ClassId) (sz : Nat) (fr : Nat) : zM l yX3_init cX3_init 1 none ({ frames := 1, cells := 0, slots := 0, locals := 12 } : Room) [.ref fr] (dC, dI) (zTy cI cZ cF) [(oc2 fr 0 0)] sz none (fun A t => zPD (dC, dI) classes A [(oc2 fr 0 0)] t.heap) 0 0 := by
  refine zIn (own := "ScaleShop$Fraction") (loc := [(0, .ref fr)]) rfl rfl rfl rfl (fun p e s m below meth c hx hb hr hts hown hlocks hml hnm9 A hA hS hP hD hK hXN Q9 hQ9 ls hl => ?_)
  have hin : meth.name = "<init>" := hnm9
  refine lv_aload_n hx hb dX3_init_0 rfl (lv_at hl 0 rfl) ?_
  refine W.objInit hx hb hown (hts _ mw_272) (hts _ mw_126) (hts _ mw_objcode) rfl (by rw [hml]; exact hl.1) rfl dX3_init_1 (Nat.le_of_ble_eq_true rfl) (Nat.le_of_ble_eq_true rfl) ?_
  refine W.eq (g2 := F0 m 4 ls []) rfl ?_
  refine lv_aload_n hx hb dX3_init_4 rfl (lv_at hl 0 rfl) ?_
  refine lv_lconst (v := 0) hx hb dX3_init_5 rfl ?_
  refine va_put (D := (dC, dI)) (ci := 2) (v := .long 0) (ty := .long) (C := RX3) (T := TX3) (N := 2) hx hb hts inX3 tyX3 tyX3_ok nmX3 hown hK hP hD hS 0 rfl rfl 0 (by decide) (hts _ mw_273) (fun _ h9 => h9) rfl (by decide +kernel) rfl rfl (Nat.le_of_ble_eq_true rfl) dX3_init_6 (fun H locs hP hD hS => ?_)
  obtain ⟨hP, hD⟩ := zre (W2 := [(oc2 fr 0 0)]) hP hD rfl
  refine lv_aload_n hx hb dX3_init_9 rfl (lv_at hl 0 rfl) ?_
  refine lv_lconst (v := 0) hx hb dX3_init_10 rfl ?_
  refine va_put (D := (dC, dI)) (ci := 2) (v := .long 0) (ty := .long) (C := RX3) (T := TX3) (N := 2) hx hb hts inX3 tyX3 tyX3_ok nmX3 hown hK hP hD hS 0 rfl rfl 1 (by decide) (hts _ mw_275) (fun _ h9 => h9) rfl (by decide +kernel) rfl rfl (Nat.le_of_ble_eq_true rfl) dX3_init_11 (fun H locs hP hD hS => ?_)
  obtain ⟨hP, hD⟩ := zre (W2 := [(oc2 fr 0 0)]) hP hD rfl
  obtain ⟨hP9, hD9⟩ := zu_sub (wc := [_]) hP hD [true] rfl rfl
  rw [hQ9]
  exact W.vret hx hb hr (fun t ht hW => ⟨⟨rfl, by rw [ht]; exact hP9, hD9⟩, hS.F ht⟩) hS.2.2 dX3_init_14
set_option maxHeartbeats 4000000 in
set_option maxRecDepth 100000 in
theorem k_Law_init (l : Launch) (dC : Nat → ClassId) (dI : Nat → Nat → Nat) (cI cZ cF : ClassId) (sz : Nat) (lw : Nat) : zM l yX4_init cX4_init 1 none ({ frames := 2, cells := 12, slots := 150, locals := 36 } : Room) [.ref lw] (dC, dI) (zTy cI cZ cF) [(oc3 lw .null .null .null .null .null .null)] sz none (fun A t => ∃ (dr : Nat), ∃ (dx : Nat), ∃ (dy : Nat), ∃ (tg : Nat), ∃ (tx : Nat), ∃ (ty : Nat), ∃ (wy : Nat), ∃ (wx : Nat), ∃ (wz : Nat), ∃ (br : Nat), ∃ (bo : Nat), ∃ (aa : Nat), zPD (dC, dI) classes A [(oc3 lw (.ref dr) (.ref tg) (.ref wy) (.ref br) (.ref bo) (.ref aa)), (oc6 dr (.ref dx) (.ref dy) (nI 0) 0), (oa dx cI 40 (fun _ => 0)), (oa dy cI 40 (fun _ => 0)), (oc6 tg (.ref tx) (.ref ty) (nI 0) 1), (oa tx cI 3 (fun _ => 0)), (oa ty cI 3 (fun _ => 0)), (oc6 wy (.ref wx) (.ref wz) (nI 0) 0), (oa wx cI 2 (fun _ => 0)), (oa wz cI 2 (fun _ => 0)), (oc0 br 0 0 0 0), (oc0 bo 0 0 0 0), (oa aa cI 40 (fun _ => 0))] t.heap) 12 150 := by
  refine zIn (own := "ScaleShop$Law") (loc := [(0, .ref lw)]) rfl rfl rfl rfl (fun p e s m below meth c hx hb hr hts hown hlocks hml hnm9 A hA hS hP hD hK hXN Q9 hQ9 ls hl => ?_)
  have hin : meth.name = "<init>" := hnm9
  refine lv_aload_n hx hb dX4_init_0 rfl (lv_at hl 0 rfl) ?_
  refine W.objInit hx hb hown (hts _ mw_151) (hts _ mw_126) (hts _ mw_objcode) rfl (by rw [hml]; exact hl.1) rfl dX4_init_1 (Nat.le_of_ble_eq_true rfl) (Nat.le_of_ble_eq_true rfl) ?_
  refine W.eq (g2 := F0 m 4 ls []) rfl ?_
  refine lv_aload_n hx hb dX4_init_4 rfl (lv_at hl 0 rfl) ?_
  refine va_new (ci := 6) (fs := [.null, .null, .int 0, .int 0]) (C := RX7) (T := TX7) (N := 4) hx hb hts inX7 tyX7 tyX7_ok hown (hts _ mw_152) (hts _ mw_153) (hts _ mw_102) hK hP hD hS hA rfl dfX7 (show 1 ≤ 12 by omega) (show 4 ≤ 150 by omega) dX4_init_5 (fun dr H hP hD hS => ?_)
  obtain ⟨hP, hD⟩ := zre (W2 := [_, (oc6 dr .null .null 0 0)]) hP hD rfl
  refine lv_dup hx hb dX4_init_8 rfl ?_
  refine lv_bipush (v := 40) hx hb dX4_init_9 rfl ?_
  refine lv_iconst (v := 0) hx hb dX4_init_11 rfl ?_
  obtain ⟨hPc, hDc, hFc⟩ := zo_sub (wc := [_]) hP hD hS hA [1] rfl rfl
  refine zcall (st1 := [.ref dr, .ref lw]) (va_runI (As := [.int 40, .int 0]) (rest := [.ref dr, .ref lw]) ⟨hx, hb, hml, hown, hts⟩ (k_Row_init l dC dI cI cZ cF H.size dr 40 0 (by first | with_reducible assumption | omega) (Or.inl rfl)) (cwI 2 hts (zz_gC mc_yX7_init) rfl rfl rfl (hts _ mw_102) (hts _ mw_154) (hts _ mw_155) rfl (by decide +kernel) ⟨Nat.le_of_ble_eq_true rfl, Nat.le_of_ble_eq_true rfl⟩) (zPS2 hPc hDc hK hXN) rfl rfl hl.1 rfl (lv_room (Nat.le_of_ble_eq_true rfl)) dX4_init_12 ⟨show (1 + 2) ≤ 12 by omega, show (4 + (2 * 40)) ≤ 150 by omega⟩) hS hFc hFc rfl (fun t H locs ht hB hk1 hS => ?_)
  obtain ⟨dx, dy, hP1, hD1⟩ := hB
  rw [ht] at hP1
  obtain ⟨hP, hD⟩ := zn (W2 := [_, (oc6 dr (.ref dx) (.ref dy) (nI 0) 0), (oa dx cI 40 (fun _ => 0)), (oa dy cI 40 (fun _ => 0))]) hP hD hk1 hFc hP1 hD1 [1] [true] [true, false, false, false] [1, 2, 3] (by decide +kernel) rfl rfl rfl rfl rfl
  clear hk1 hPc hDc hFc hP1 hD1 ht
  refine va_putF (D := (dC, dI)) (ci := 3) (v := .ref dr) (ty := .object "ScaleShop$Row") (C := RX4) (T := TX4) (N := 6) hx hb hts inX4 tyX4 tyX4_ok nmX4 hown hK hP hD hS 0 rfl rfl 0 (by decide) (hts _ mw_219) (fun _ h9 => h9) rfl hin rfl (by decide +kernel) rfl rfl (Nat.le_of_ble_eq_true rfl) dX4_init_15 (fun H locs hP hD hS => ?_)
  obtain ⟨hP, hD⟩ := zre (W2 := [(oc3 lw (.ref dr) .null .null .null .null .null), _, _, _]) hP hD rfl
  refine lv_aload_n hx hb dX4_init_18 rfl (lv_at hl 0 rfl) ?_
  refine va_new (ci := 6) (fs := [.null, .null, .int 0, .int 0]) (C := RX7) (T := TX7) (N := 4) hx hb hts inX7 tyX7 tyX7_ok hown (hts _ mw_152) (hts _ mw_153) (hts _ mw_102) hK hP hD hS hA rfl dfX7 (show ((1 + 2) + 1) ≤ 12 by omega) (show ((4 + (2 * 40)) + 4) ≤ 150 by omega) dX4_init_19 (fun tg H hP hD hS => ?_)
  obtain ⟨hP, hD⟩ := zre (W2 := [_, _, _, _, (oc6 tg .null .null 0 0)]) hP hD rfl
  refine lv_dup hx hb dX4_init_22 rfl ?_
  refine lv_iconst (v := 3) hx hb dX4_init_23 rfl ?_
  refine lv_iconst (v := 1) hx hb dX4_init_24 rfl ?_
  obtain ⟨hPc, hDc, hFc⟩ := zo_sub (wc := [_]) hP hD hS hA [4] rfl rfl
  refine zcall (st1 := [.ref tg, .ref lw]) (va_runI (As := [.int 3, .int 1]) (rest := [.ref tg, .ref lw]) ⟨hx, hb, hml, hown, hts⟩ (k_Row_init l dC dI cI cZ cF H.size tg 3 1 (by first | with_reducible assumption | omega) (Or.inr rfl)) (cwI 2 hts (zz_gC mc_yX7_init) rfl rfl rfl (hts _ mw_102) (hts _ mw_154) (hts _ mw_155) rfl (by decide +kernel) ⟨Nat.le_of_ble_eq_true rfl, Nat.le_of_ble_eq_true rfl⟩) (zPS2 hPc hDc hK hXN) rfl rfl hl.1 rfl (lv_room (Nat.le_of_ble_eq_true rfl)) dX4_init_25 ⟨show (((1 + 2) + 1) + 2) ≤ 12 by omega, show (((4 + (2 * 40)) + 4) + (2 * 3)) ≤ 150 by omega⟩) hS hFc hFc rfl (fun t H locs ht hB hk1 hS => ?_)
  obtain ⟨tx, ty, hP1, hD1⟩ := hB
  rw [ht] at hP1
  obtain ⟨hP, hD⟩ := zn (W2 := [_, _, _, _, (oc6 tg (.ref tx) (.ref ty) (nI 0) 1), (oa tx cI 3 (fun _ => 0)), (oa ty cI 3 (fun _ => 0))]) hP hD hk1 hFc hP1 hD1 [4] [true, true, true, true] [true, true, true, true, false, false, false] [4, 5, 6] (by decide +kernel) rfl rfl rfl rfl rfl
  clear hk1 hPc hDc hFc hP1 hD1 ht
  refine va_putF (D := (dC, dI)) (ci := 3) (v := .ref tg) (ty := .object "ScaleShop$Row") (C := RX4) (T := TX4) (N := 6) hx hb hts inX4 tyX4 tyX4_ok nmX4 hown hK hP hD hS 0 rfl rfl 1 (by decide) (hts _ mw_221) (fun _ h9 => h9) rfl hin rfl (by decide +kernel) rfl rfl (Nat.le_of_ble_eq_true rfl) dX4_init_28 (fun H locs hP hD hS => ?_)
  obtain ⟨hP, hD⟩ := zre (W2 := [(oc3 lw (.ref dr) (.ref tg) .null .null .null .null), _, _, _, _, _, _]) hP hD rfl
  refine lv_aload_n hx hb dX4_init_31 rfl (lv_at hl 0 rfl) ?_
  refine va_new (ci := 6) (fs := [.null, .null, .int 0, .int 0]) (C := RX7) (T := TX7) (N := 4) hx hb hts inX7 tyX7 tyX7_ok hown (hts _ mw_152) (hts _ mw_153) (hts _ mw_102) hK hP hD hS hA rfl dfX7 (show ((((1 + 2) + 1) + 2) + 1) ≤ 12 by omega) (show ((((4 + (2 * 40)) + 4) + (2 * 3)) + 4) ≤ 150 by omega) dX4_init_32 (fun wy H hP hD hS => ?_)
  obtain ⟨hP, hD⟩ := zre (W2 := [_, _, _, _, _, _, _, (oc6 wy .null .null 0 0)]) hP hD rfl
  refine lv_dup hx hb dX4_init_35 rfl ?_
  refine lv_iconst (v := 2) hx hb dX4_init_36 rfl ?_
  refine lv_iconst (v := 0) hx hb dX4_init_37 rfl ?_
  obtain ⟨hPc, hDc, hFc⟩ := zo_sub (wc := [_]) hP hD hS hA [7] rfl rfl
  refine zcall (st1 := [.ref wy, .ref lw]) (va_runI (As := [.int 2, .int 0]) (rest := [.ref wy, .ref lw]) ⟨hx, hb, hml, hown, hts⟩ (k_Row_init l dC dI cI cZ cF H.size wy 2 0 (by first | with_reducible assumption | omega) (Or.inl rfl)) (cwI 2 hts (zz_gC mc_yX7_init) rfl rfl rfl (hts _ mw_102) (hts _ mw_154) (hts _ mw_155) rfl (by decide +kernel) ⟨Nat.le_of_ble_eq_true rfl, Nat.le_of_ble_eq_true rfl⟩) (zPS2 hPc hDc hK hXN) rfl rfl hl.1 rfl (lv_room (Nat.le_of_ble_eq_true rfl)) dX4_init_38 ⟨show (((((1 + 2) + 1) + 2) + 1) + 2) ≤ 12 by omega, show (((((4 + (2 * 40)) + 4) + (2 * 3)) + 4) + (2 * 2)) ≤ 150 by omega⟩) hS hFc hFc rfl (fun t H locs ht hB hk1 hS => ?_)
  obtain ⟨wx, wz, hP1, hD1⟩ := hB
  rw [ht] at hP1
  obtain ⟨hP, hD⟩ := zn (W2 := [_, _, _, _, _, _, _, (oc6 wy (.ref wx) (.ref wz) (nI 0) 0), (oa wx cI 2 (fun _ => 0)), (oa wz cI 2 (fun _ => 0))]) hP hD hk1 hFc hP1 hD1 [7] [true, true, true, true, true, true, true] zl_137 [7, 8, 9] (by decide +kernel) rfl rfl rfl rfl rfl
  clear hk1 hPc hDc hFc hP1 hD1 ht
  refine va_putF (D := (dC, dI)) (ci := 3) (v := .ref wy) (ty := .object "ScaleShop$Row") (C := RX4) (T := TX4) (N := 6) hx hb hts inX4 tyX4 tyX4_ok nmX4 hown hK hP hD hS 0 rfl rfl 2 (by decide) (hts _ mw_222) (fun _ h9 => h9) rfl hin rfl (by decide +kernel) rfl rfl (Nat.le_of_ble_eq_true rfl) dX4_init_41 (fun H locs hP hD hS => ?_)
  obtain ⟨hP, hD⟩ := zre (W2 := [(oc3 lw (.ref dr) (.ref tg) (.ref wy) .null .null .null), _, _, _, _, _, _, _, _, _]) hP hD rfl
  refine lv_aload_n hx hb dX4_init_44 rfl (lv_at hl 0 rfl) ?_
  refine va_new (ci := 0) (fs := [.int 0, .int 0, .int 0, .int 0]) (C := RX0) (T := TX0) (N := 4) hx hb hts inX0 tyX0 tyX0_ok hown (hts _ mw_196) (hts _ mw_197) (hts _ mw_104) hK hP hD hS hA rfl dfX0 (show ((((((1 + 2) + 1) + 2) + 1) + 2) + 1) ≤ 12 by omega) (show ((((((4 + (2 * 40)) + 4) + (2 * 3)) + 4) + (2 * 2)) + 4) ≤ 150 by omega) dX4_init_45 (fun br H hP hD hS => ?_)
  obtain ⟨hP, hD⟩ := zre (W2 := [_, _, _, _, _, _, _, _, _, _, (oc0 br 0 0 0 0)]) hP hD rfl
  refine lv_dup hx hb dX4_init_48 rfl ?_
  obtain ⟨hPc, hDc, hFc, hI1⟩ := zi_sub (wc := [_]) hP hD hS hA [10] rfl rfl
  refine zcall (st1 := [.ref br, .ref lw]) (va_runI (As := []) (rest := [.ref br, .ref lw]) ⟨hx, hb, hml, hown, hts⟩ (k_Box_init l dC dI cI cZ cF H.size br ) (cwI 0 hts (zz_gC mc_yX0_init) rfl rfl rfl (hts _ mw_104) (hts _ mw_198) (hts _ mw_199) rfl (by decide +kernel) ⟨Nat.le_of_ble_eq_true rfl, Nat.le_of_ble_eq_true rfl⟩) (zPS2 hPc hDc hK hXN) rfl rfl hl.1 rfl (lv_room (Nat.le_of_ble_eq_true rfl)) dX4_init_49 ⟨show ((((((1 + 2) + 1) + 2) + 1) + 2) + 1) ≤ 12 by omega, show ((((((4 + (2 * 40)) + 4) + (2 * 3)) + 4) + (2 * 2)) + 4) ≤ 150 by omega⟩) hS hFc hFc rfl (fun t H locs ht hB hk1 hS => ?_)
  obtain ⟨hP1, hD1⟩ := hB
  rw [ht] at hP1
  replace hP := z0 hP hD hk1 hP1 hI1
  clear hk1 hPc hDc hFc hP1 hD1 ht hI1
  refine va_putF (D := (dC, dI)) (ci := 3) (v := .ref br) (ty := .object "ScaleShop$Box") (C := RX4) (T := TX4) (N := 6) hx hb hts inX4 tyX4 tyX4_ok nmX4 hown hK hP hD hS 0 rfl rfl 3 (by decide) (hts _ mw_223) (fun _ h9 => h9) rfl hin rfl (by decide +kernel) rfl rfl (Nat.le_of_ble_eq_true rfl) dX4_init_52 (fun H locs hP hD hS => ?_)
  obtain ⟨hP, hD⟩ := zre (W2 := [(oc3 lw (.ref dr) (.ref tg) (.ref wy) (.ref br) .null .null), _, _, _, _, _, _, _, _, _, _]) hP hD rfl
  refine lv_aload_n hx hb dX4_init_55 rfl (lv_at hl 0 rfl) ?_
  refine va_new (ci := 0) (fs := [.int 0, .int 0, .int 0, .int 0]) (C := RX0) (T := TX0) (N := 4) hx hb hts inX0 tyX0 tyX0_ok hown (hts _ mw_196) (hts _ mw_197) (hts _ mw_104) hK hP hD hS hA rfl dfX0 (show (((((((1 + 2) + 1) + 2) + 1) + 2) + 1) + 1) ≤ 12 by omega) (show (((((((4 + (2 * 40)) + 4) + (2 * 3)) + 4) + (2 * 2)) + 4) + 4) ≤ 150 by omega) dX4_init_56 (fun bo H hP hD hS => ?_)
  obtain ⟨hP, hD⟩ := zre (W2 := [_, _, _, _, _, _, _, _, _, _, _, (oc0 bo 0 0 0 0)]) hP hD rfl
  refine lv_dup hx hb dX4_init_59 rfl ?_
  obtain ⟨hPc, hDc, hFc, hI1⟩ := zi_sub (wc := [_]) hP hD hS hA [11] rfl rfl
  refine zcall (st1 := [.ref bo, .ref lw]) (va_runI (As := []) (rest := [.ref bo, .ref lw]) ⟨hx, hb, hml, hown, hts⟩ (k_Box_init l dC dI cI cZ cF H.size bo ) (cwI 0 hts (zz_gC mc_yX0_init) rfl rfl rfl (hts _ mw_104) (hts _ mw_198) (hts _ mw_199) rfl (by decide +kernel) ⟨Nat.le_of_ble_eq_true rfl, Nat.le_of_ble_eq_true rfl⟩) (zPS2 hPc hDc hK hXN) rfl rfl hl.1 rfl (lv_room (Nat.le_of_ble_eq_true rfl)) dX4_init_60 ⟨show (((((((1 + 2) + 1) + 2) + 1) + 2) + 1) + 1) ≤ 12 by omega, show (((((((4 + (2 * 40)) + 4) + (2 * 3)) + 4) + (2 * 2)) + 4) + 4) ≤ 150 by omega⟩) hS hFc hFc rfl (fun t H locs ht hB hk1 hS => ?_)
  obtain ⟨hP1, hD1⟩ := hB
  rw [ht] at hP1
  replace hP := z0 hP hD hk1 hP1 hI1
  clear hk1 hPc hDc hFc hP1 hD1 ht hI1
  refine va_putF (D := (dC, dI)) (ci := 3) (v := .ref bo) (ty := .object "ScaleShop$Box") (C := RX4) (T := TX4) (N := 6) hx hb hts inX4 tyX4 tyX4_ok nmX4 hown hK hP hD hS 0 rfl rfl 4 (by decide) (hts _ mw_224) (fun _ h9 => h9) rfl hin rfl (by decide +kernel) rfl rfl (Nat.le_of_ble_eq_true rfl) dX4_init_63 (fun H locs hP hD hS => ?_)
  obtain ⟨hP, hD⟩ := zre (W2 := [(oc3 lw (.ref dr) (.ref tg) (.ref wy) (.ref br) (.ref bo) .null), _, _, _, _, _, _, _, _, _, _, _]) hP hD rfl
  refine lv_aload_n hx hb dX4_init_66 rfl (lv_at hl 0 rfl) ?_
  refine lv_bipush (v := 40) hx hb dX4_init_67 rfl ?_
  refine zz_newa (atype := .int) (a0 := (40, .inl (fun _ => 0))) hx hb (hts _ mw_195) (ty := .int) rfl hK hP hD hS hA (n := nI 40) (N' := 40) (cA := cI) 0 rfl (fun _ => rfl) (nI_pos (by omega)) (nI_clamp (by omega)) (show 40 * 4 ≤ 536870912 by omega) (show ((((((((1 + 2) + 1) + 2) + 1) + 2) + 1) + 1) + 1) ≤ 12 by omega) (show ((((((((4 + (2 * 40)) + 4) + (2 * 3)) + 4) + (2 * 2)) + 4) + 4) + 40) ≤ 150 by omega) dX4_init_69 (fun aa H hP hD hS => ?_)
  obtain ⟨hP, hD⟩ := zre (W2 := [_, _, _, _, _, _, _, _, _, _, _, _, (oa aa cI 40 (fun _ => 0))]) hP hD rfl
  refine va_putF (D := (dC, dI)) (ci := 3) (v := .ref aa) (ty := .array .int) (C := RX4) (T := TX4) (N := 6) hx hb hts inX4 tyX4 tyX4_ok nmX4 hown hK hP hD hS 0 rfl rfl 5 (by decide) (hts _ mw_225) (fun _ h9 => h9) rfl hin rfl (by decide +kernel) rfl rfl (Nat.le_of_ble_eq_true rfl) dX4_init_71 (fun H locs hP hD hS => ?_)
  obtain ⟨hP, hD⟩ := zre (W2 := [(oc3 lw (.ref dr) (.ref tg) (.ref wy) (.ref br) (.ref bo) (.ref aa)), _, _, _, _, _, _, _, _, _, _, _, _]) hP hD rfl
  obtain ⟨hP9, hD9⟩ := zu_sub (wc := [_, _, _, _, _, _, _, _, _, _, _, _, _]) hP hD [true, true, true, true, true, true, true, true, true, true, true, true, true] rfl rfl
  refine W.widen (k := 12) (n := 150) (by omega) (by omega) ?_
  rw [hQ9]
  exact W.vret hx hb hr (fun t ht hW => ⟨⟨rfl, dr, dx, dy, tg, tx, ty, wy, wx, wz, br, bo, aa, by rw [ht]; exact hP9, hD9⟩, hS.F ht⟩) hS.2.2 dX4_init_74
set_option maxHeartbeats 4000000 in
set_option maxRecDepth 100000 in
theorem k_Sheet_init (l : Launch) (dC : Nat → ClassId) (dI : Nat → Nat → Nat) (cI cZ cF : ClassId) (sz : Nat) (sh : Nat) : zM l yX8_init cX8_init 1 none ({ frames := 1, cells := 1, slots := 200, locals := 12 } : Room) [.ref sh] (dC, dI) (zTy cI cZ cF) [(oc7 sh .null 0)] sz none (fun A t => ∃ (fa : Nat), zPD (dC, dI) classes A [(oc7 sh (.ref fa) (nI 0)), (oq fa cF 200 (fun _ => none))] t.heap) 1 200 := by
  refine zIn (own := "ScaleShop$Sheet") (loc := [(0, .ref sh)]) rfl rfl rfl rfl (fun p e s m below meth c hx hb hr hts hown hlocks hml hnm9 A hA hS hP hD hK hXN Q9 hQ9 ls hl => ?_)
  have hin : meth.name = "<init>" := hnm9
  refine lv_aload_n hx hb dX8_init_0 rfl (lv_at hl 0 rfl) ?_
  refine W.objInit hx hb hown (hts _ mw_133) (hts _ mw_126) (hts _ mw_objcode) rfl (by rw [hml]; exact hl.1) rfl dX8_init_1 (Nat.le_of_ble_eq_true rfl) (Nat.le_of_ble_eq_true rfl) ?_
  refine W.eq (g2 := F0 m 4 ls []) rfl ?_
  refine lv_aload_n hx hb dX8_init_4 rfl (lv_at hl 0 rfl) ?_
  refine lv_sipush (v := 200) hx hb dX8_init_5 rfl ?_
  refine z_newq (C := "ScaleShop$Feature") hx hb hown (hts _ mw_134) hXN.2.2.1 hK hP hD hS hA (n := nI 200) (N' := 200) (cA := cF) 2 rfl (nI_pos (by omega)) (nI_clamp (by omega)) (show 200 * 4 ≤ 536870912 by omega) (Nat.le_of_ble_eq_true rfl) (Nat.le_of_ble_eq_true rfl) dX8_init_8 (fun fa H hP hD hS => ?_)
  obtain ⟨hP, hD⟩ := zre (W2 := [_, (oq fa cF 200 (fun _ => none))]) hP hD rfl
  refine va_putF (D := (dC, dI)) (ci := 7) (v := .ref fa) (ty := .array (.object "ScaleShop$Feature")) (C := RX8) (T := TX8) (N := 2) hx hb hts inX8 tyX8 tyX8_ok nmX8 hown hK hP hD hS 0 rfl rfl 0 (by decide) (hts _ mw_136) (fun _ h9 => h9) rfl hin rfl (by decide +kernel) rfl rfl (Nat.le_of_ble_eq_true rfl) dX8_init_11 (fun H locs hP hD hS => ?_)
  obtain ⟨hP, hD⟩ := zre (W2 := [(oc7 sh (.ref fa) 0), _]) hP hD rfl
  refine lv_aload_n hx hb dX8_init_14 rfl (lv_at hl 0 rfl) ?_
  refine lv_iconst (v := 0) hx hb dX8_init_15 rfl ?_
  refine va_put (D := (dC, dI)) (ci := 7) (v := .int 0) (ty := .int) (C := RX8) (T := TX8) (N := 2) hx hb hts inX8 tyX8 tyX8_ok nmX8 hown hK hP hD hS 0 rfl rfl 1 (by decide) (hts _ mw_137) (fun _ h9 => h9) rfl (by decide +kernel) rfl rfl (Nat.le_of_ble_eq_true rfl) dX8_init_16 (fun H locs hP hD hS => ?_)
  obtain ⟨hP, hD⟩ := zre (W2 := [(oc7 sh (.ref fa) 0), _]) hP hD rfl
  obtain ⟨hP9, hD9⟩ := zu_sub (wc := [(oc7 sh (.ref fa) 0), (oq fa cF 200 (fun _ => none))]) hP hD [true, true] rfl rfl
  have hE9 : ([(oc7 sh (.ref fa) 0), (oq fa cF 200 (fun _ => none))] : va_W) = [(oc7 sh (.ref fa) (nI 0)), (oq fa cF 200 (fun _ => none))] := by rfl
  rw [hE9] at hP9 hD9
  refine W.widen (k := 1) (n := 200) (by decide) (by decide) ?_
  rw [hQ9]
  exact W.vret hx hb hr (fun t ht hW => ⟨⟨rfl, fa, by rw [ht]; exact hP9, hD9⟩, hS.F ht⟩) hS.2.2 dX8_init_19
set_option maxHeartbeats 4000000 in
set_option maxRecDepth 100000 in
theorem k_Roads_init (l : Launch) (dC : Nat → ClassId) (dI : Nat → Nat → Nat) (cI cZ cF : ClassId) (sz : Nat) (ro : Nat) : zM l yX6_init cX6_init 1 none ({ frames := 1, cells := 5, slots := 1600, locals := 12 } : Room) [.ref ro] (dC, dI) (zTy cI cZ cF) [(oc5 ro .null .null .null .null .null 0)] sz none (fun A t => ∃ (za : Nat), ∃ (zw : Nat), ∃ (zx : Nat), ∃ (zy : Nat), ∃ (zg : Nat), zPD (dC, dI) classes A [(oc5 ro (.ref za) (.ref zw) (.ref zx) (.ref zy) (.ref zg) 0), (oq za cF 200 (fun _ => none)), (oa zw cI 200 (fun _ => 0)), (oa zx cI 400 (fun _ => 0)), (oa zy cI 400 (fun _ => 0)), (oa zg cI 400 (fun _ => 0))] t.heap) 5 1600 := by
  refine zIn (own := "ScaleShop$Roads") (loc := [(0, .ref ro)]) rfl rfl rfl rfl (fun p e s m below meth c hx hb hr hts hown hlocks hml hnm9 A hA hS hP hD hK hXN Q9 hQ9 ls hl => ?_)
  have hin : meth.name = "<init>" := hnm9
  refine lv_aload_n hx hb dX6_init_0 rfl (lv_at hl 0 rfl) ?_
  refine W.objInit hx hb hown (hts _ mw_244) (hts _ mw_126) (hts _ mw_objcode) rfl (by rw [hml]; exact hl.1) rfl dX6_init_1 (Nat.le_of_ble_eq_true rfl) (Nat.le_of_ble_eq_true rfl) ?_
  refine W.eq (g2 := F0 m 4 ls []) rfl ?_
  refine lv_aload_n hx hb dX6_init_4 rfl (lv_at hl 0 rfl) ?_
  refine lv_sipush (v := 200) hx hb dX6_init_5 rfl ?_
  refine z_newq (C := "ScaleShop$Feature") hx hb hown (hts _ mw_245) hXN.2.2.1 hK hP hD hS hA (n := nI 200) (N' := 200) (cA := cF) 2 rfl (nI_pos (by omega)) (nI_clamp (by omega)) (show 200 * 4 ≤ 536870912 by omega) (Nat.le_of_ble_eq_true rfl) (Nat.le_of_ble_eq_true rfl) dX6_init_8 (fun za H hP hD hS => ?_)
  obtain ⟨hP, hD⟩ := zre (W2 := [_, (oq za cF 200 (fun _ => none))]) hP hD rfl
  refine va_putF (D := (dC, dI)) (ci := 5) (v := .ref za) (ty := .array (.object "ScaleShop$Feature")) (C := RX6) (T := TX6) (N := 6) hx hb hts inX6 tyX6 tyX6_ok nmX6 hown hK hP hD hS 0 rfl rfl 0 (by decide) (hts _ mw_246) (fun _ h9 => h9) rfl hin rfl (by decide +kernel) rfl rfl (Nat.le_of_ble_eq_true rfl) dX6_init_11 (fun H locs hP hD hS => ?_)
  obtain ⟨hP, hD⟩ := zre (W2 := [(oc5 ro (.ref za) .null .null .null .null 0), _]) hP hD rfl
  refine lv_aload_n hx hb dX6_init_14 rfl (lv_at hl 0 rfl) ?_
  refine lv_sipush (v := 200) hx hb dX6_init_15 rfl ?_
  refine zz_newa (atype := .int) (a0 := (200, .inl (fun _ => 0))) hx hb (hts _ mw_195) (ty := .int) rfl hK hP hD hS hA (n := nI 200) (N' := 200) (cA := cI) 0 rfl (fun _ => rfl) (nI_pos (by omega)) (nI_clamp (by omega)) (show 200 * 4 ≤ 536870912 by omega) (Nat.le_of_ble_eq_true rfl) (Nat.le_of_ble_eq_true rfl) dX6_init_18 (fun zw H hP hD hS => ?_)
  obtain ⟨hP, hD⟩ := zre (W2 := [_, _, (oa zw cI 200 (fun _ => 0))]) hP hD rfl
  refine va_putF (D := (dC, dI)) (ci := 5) (v := .ref zw) (ty := .array .int) (C := RX6) (T := TX6) (N := 6) hx hb hts inX6 tyX6 tyX6_ok nmX6 hown hK hP hD hS 0 rfl rfl 1 (by decide) (hts _ mw_247) (fun _ h9 => h9) rfl hin rfl (by decide +kernel) rfl rfl (Nat.le_of_ble_eq_true rfl) dX6_init_20 (fun H locs hP hD hS => ?_)
  obtain ⟨hP, hD⟩ := zre (W2 := [(oc5 ro (.ref za) (.ref zw) .null .null .null 0), _, _]) hP hD rfl
  refine lv_aload_n hx hb dX6_init_23 rfl (lv_at hl 0 rfl) ?_
  refine lv_sipush (v := 400) hx hb dX6_init_24 rfl ?_
  refine zz_newa (atype := .int) (a0 := (400, .inl (fun _ => 0))) hx hb (hts _ mw_195) (ty := .int) rfl hK hP hD hS hA (n := nI 400) (N' := 400) (cA := cI) 0 rfl (fun _ => rfl) (nI_pos (by omega)) (nI_clamp (by omega)) (show 400 * 4 ≤ 536870912 by omega) (Nat.le_of_ble_eq_true rfl) (Nat.le_of_ble_eq_true rfl) dX6_init_27 (fun zx H hP hD hS => ?_)
  obtain ⟨hP, hD⟩ := zre (W2 := [_, _, _, (oa zx cI 400 (fun _ => 0))]) hP hD rfl
  refine va_putF (D := (dC, dI)) (ci := 5) (v := .ref zx) (ty := .array .int) (C := RX6) (T := TX6) (N := 6) hx hb hts inX6 tyX6 tyX6_ok nmX6 hown hK hP hD hS 0 rfl rfl 2 (by decide) (hts _ mw_248) (fun _ h9 => h9) rfl hin rfl (by decide +kernel) rfl rfl (Nat.le_of_ble_eq_true rfl) dX6_init_29 (fun H locs hP hD hS => ?_)
  obtain ⟨hP, hD⟩ := zre (W2 := [(oc5 ro (.ref za) (.ref zw) (.ref zx) .null .null 0), _, _, _]) hP hD rfl
  refine lv_aload_n hx hb dX6_init_32 rfl (lv_at hl 0 rfl) ?_
  refine lv_sipush (v := 400) hx hb dX6_init_33 rfl ?_
  refine zz_newa (atype := .int) (a0 := (400, .inl (fun _ => 0))) hx hb (hts _ mw_195) (ty := .int) rfl hK hP hD hS hA (n := nI 400) (N' := 400) (cA := cI) 0 rfl (fun _ => rfl) (nI_pos (by omega)) (nI_clamp (by omega)) (show 400 * 4 ≤ 536870912 by omega) (Nat.le_of_ble_eq_true rfl) (Nat.le_of_ble_eq_true rfl) dX6_init_36 (fun zy H hP hD hS => ?_)
  obtain ⟨hP, hD⟩ := zre (W2 := [_, _, _, _, (oa zy cI 400 (fun _ => 0))]) hP hD rfl
  refine va_putF (D := (dC, dI)) (ci := 5) (v := .ref zy) (ty := .array .int) (C := RX6) (T := TX6) (N := 6) hx hb hts inX6 tyX6 tyX6_ok nmX6 hown hK hP hD hS 0 rfl rfl 3 (by decide) (hts _ mw_249) (fun _ h9 => h9) rfl hin rfl (by decide +kernel) rfl rfl (Nat.le_of_ble_eq_true rfl) dX6_init_38 (fun H locs hP hD hS => ?_)
  obtain ⟨hP, hD⟩ := zre (W2 := [(oc5 ro (.ref za) (.ref zw) (.ref zx) (.ref zy) .null 0), _, _, _, _]) hP hD rfl
  refine lv_aload_n hx hb dX6_init_41 rfl (lv_at hl 0 rfl) ?_
  refine lv_sipush (v := 400) hx hb dX6_init_42 rfl ?_
  refine zz_newa (atype := .int) (a0 := (400, .inl (fun _ => 0))) hx hb (hts _ mw_195) (ty := .int) rfl hK hP hD hS hA (n := nI 400) (N' := 400) (cA := cI) 0 rfl (fun _ => rfl) (nI_pos (by omega)) (nI_clamp (by omega)) (show 400 * 4 ≤ 536870912 by omega) (Nat.le_of_ble_eq_true rfl) (Nat.le_of_ble_eq_true rfl) dX6_init_45 (fun zg H hP hD hS => ?_)
  obtain ⟨hP, hD⟩ := zre (W2 := [_, _, _, _, _, (oa zg cI 400 (fun _ => 0))]) hP hD rfl
  refine va_putF (D := (dC, dI)) (ci := 5) (v := .ref zg) (ty := .array .int) (C := RX6) (T := TX6) (N := 6) hx hb hts inX6 tyX6 tyX6_ok nmX6 hown hK hP hD hS 0 rfl rfl 4 (by decide) (hts _ mw_250) (fun _ h9 => h9) rfl hin rfl (by decide +kernel) rfl rfl (Nat.le_of_ble_eq_true rfl) dX6_init_47 (fun H locs hP hD hS => ?_)
  obtain ⟨hP, hD⟩ := zre (W2 := [(oc5 ro (.ref za) (.ref zw) (.ref zx) (.ref zy) (.ref zg) 0), _, _, _, _, _]) hP hD rfl
  refine lv_aload_n hx hb dX6_init_50 rfl (lv_at hl 0 rfl) ?_
  refine lv_iconst (v := 0) hx hb dX6_init_51 rfl ?_
  refine va_put (D := (dC, dI)) (ci := 5) (v := .int 0) (ty := .int) (C := RX6) (T := TX6) (N := 6) hx hb hts inX6 tyX6 tyX6_ok nmX6 hown hK hP hD hS 0 rfl rfl 5 (by decide) (hts _ mw_251) (fun _ h9 => h9) rfl (by decide +kernel) rfl rfl (Nat.le_of_ble_eq_true rfl) dX6_init_52 (fun H locs hP hD hS => ?_)
  obtain ⟨hP, hD⟩ := zre (W2 := [(oc5 ro (.ref za) (.ref zw) (.ref zx) (.ref zy) (.ref zg) 0), _, _, _, _, _]) hP hD rfl
  obtain ⟨hP9, hD9⟩ := zu_sub (wc := [_, _, _, _, _, _]) hP hD [true, true, true, true, true, true] rfl rfl
  refine W.widen (k := 5) (n := 1600) (by decide) (by decide) ?_
  rw [hQ9]
  exact W.vret hx hb hr (fun t ht hW => ⟨⟨rfl, za, zw, zx, zy, zg, by rw [ht]; exact hP9, hD9⟩, hS.F ht⟩) hS.2.2 dX6_init_55
set_option maxHeartbeats 4000000 in
set_option maxRecDepth 100000 in
theorem k_AC_init (l : Launch) (dC : Nat → ClassId) (dI : Nat → Nat → Nat) (cI cZ cF : ClassId) (sz : Nat) (sl : Nat) : zM l yJxa1e45_init_da8c8 cJxa1e45_init_da8c8 1 none ({ frames := 1, cells := 0, slots := 0, locals := 12 } : Room) [.ref sl] (dC, dI) (zTy cI cZ cF) [] sz none (fun A t => zPD (dC, dI) classes A [] t.heap) 0 0 := by
  refine zIn (own := "java/util/AbstractCollection") (loc := [(0, .ref sl)]) rfl rfl rfl rfl (fun p e s m below meth c hx hb hr hts hown hlocks hml hnm9 A hA hS hP hD hK hXN Q9 hQ9 ls hl => ?_)
  have hin : meth.name = "<init>" := hnm9
  refine lv_aload_n hx hb dJxa1e45_init_da8c8_0 rfl (lv_at hl 0 rfl) ?_
  refine W.objInit hx hb hown (hts _ mw_293) (hts _ mw_126) (hts _ mw_objcode) rfl (by rw [hml]; exact hl.1) rfl dJxa1e45_init_da8c8_1 (Nat.le_of_ble_eq_true rfl) (Nat.le_of_ble_eq_true rfl) ?_
  refine W.eq (g2 := F0 m 4 ls []) rfl ?_
  obtain ⟨hP9, hD9⟩ := zu_sub (wc := []) hP hD [] rfl rfl
  rw [hQ9]
  exact W.vret hx hb hr (fun t ht hW => ⟨⟨rfl, by rw [ht]; exact hP9, hD9⟩, hS.F ht⟩) hS.2.2 dJxa1e45_init_da8c8_4
set_option maxHeartbeats 4000000 in
set_option maxRecDepth 100000 in
theorem k_ABL_init (l : Launch) (dC : Nat → ClassId) (dI : Nat → Nat → Nat) (cI cZ cF : ClassId) (sz : Nat) (sl : Nat) : zM l yJxc12de_init_da8c8 cJxc12de_init_da8c8 1 none ({ frames := 2, cells := 0, slots := 0, locals := 32 } : Room) [.ref sl] (dC, dI) (zTy cI cZ cF) [(oc10 sl 0 .null 0)] sz none (fun A t => zPD (dC, dI) classes A [(oc10 sl 0 .null 0)] t.heap) 0 0 := by
  refine zIn (own := "java/util/AbstractList") (loc := [(0, .ref sl)]) rfl rfl rfl rfl (fun p e s m below meth c hx hb hr hts hown hlocks hml hnm9 A hA hS hP hD hK hXN Q9 hQ9 ls hl => ?_)
  have hin : meth.name = "<init>" := hnm9
  refine lv_aload_n hx hb dJxc12de_init_da8c8_0 rfl (lv_at hl 0 rfl) ?_
  obtain ⟨hPc, hDc, hFc, hI1⟩ := zi_sub (wc := []) hP hD hS hA [] rfl rfl
  refine zcall (st1 := []) (va_runI (As := []) (rest := []) ⟨hx, hb, hml, hown, hts⟩ (k_AC_init l dC dI cI cZ cF s.heap.size sl ) (cwI 0 hts (zz_gC mc_yJxa1e45_init_da8c8) rfl rfl rfl (hts _ mw_107) (hts _ mw_290) (hts _ mw_291) rfl (by decide +kernel) ⟨Nat.le_of_ble_eq_true rfl, Nat.le_of_ble_eq_true rfl⟩) (zPS2 hPc hDc hK hXN) rfl rfl hl.1 rfl (lv_room (Nat.le_of_ble_eq_true rfl)) dJxc12de_init_da8c8_1 ⟨Nat.le_of_ble_eq_true rfl, Nat.le_of_ble_eq_true rfl⟩) hS hFc hFc rfl (fun t H locs ht hB hk1 hS => ?_)
  obtain ⟨hP1, hD1⟩ := hB
  rw [ht] at hP1
  replace hP := z0 hP hD hk1 hP1 hI1
  clear hk1 hPc hDc hFc hP1 hD1 ht hI1
  refine lv_aload_n hx hb dJxc12de_init_da8c8_4 rfl (lv_at hl 0 rfl) ?_
  refine lv_iconst (v := 0) hx hb dJxc12de_init_da8c8_5 rfl ?_
  refine va_put (D := (dC, dI)) (ci := 10) (v := .int 0) (ty := .int) (C := RJx4a65c) (T := TJx4a65c) (N := 3) hx hb hts inJx4a65c tyJx4a65c tyJx4a65c_ok nmJx4a65c hown hK hP hD hS 0 rfl rfl 0 (by decide) (hts _ mw_298) (fun _ h9 => h9) rfl (by decide +kernel) rfl rfl (Nat.le_of_ble_eq_true rfl) dJxc12de_init_da8c8_6 (fun H locs hP hD hS => ?_)
  obtain ⟨hP, hD⟩ := zre (W2 := [(oc10 sl 0 .null 0)]) hP hD rfl
  obtain ⟨hP9, hD9⟩ := zu_sub (wc := [_]) hP hD [true] rfl rfl
  rw [hQ9]
  exact W.vret hx hb hr (fun t ht hW => ⟨⟨rfl, by rw [ht]; exact hP9, hD9⟩, hS.F ht⟩) hS.2.2 dJxc12de_init_da8c8_9
set_option maxHeartbeats 4000000 in
set_option maxRecDepth 100000 in
theorem k_AL_init (l : Launch) (dC : Nat → ClassId) (dI : Nat → Nat → Nat) (cI cZ cF : ClassId) (sz : Nat) (cO : ClassId) (e0 : Nat) (mi : Nat) (sl : Nat) : zML l yJx4a65c_init_da8c8 cJx4a65c_init_da8c8 1 none ({ frames := 3, cells := 0, slots := 0, locals := 52 } : Room) [.ref sl] (dC, dI) (zTyO cI cZ cF cO) e0 mi [(oc10 sl 0 .null 0)] sz none (fun A t => zPD (dC, dI) classes A [(oc10 sl 0 (.ref e0) (nI 0))] t.heap) 0 0 := by
  refine zInL (own := "java/util/ArrayList") (loc := [(0, .ref sl)]) rfl rfl rfl rfl (fun p e s m below meth c hx hb hr hts hown hlocks hml hnm9 A hA hS hP hD hK hXL hXN hK3 Q9 hQ9 ls hl => ?_)
  have hin : meth.name = "<init>" := hnm9
  refine lv_aload_n hx hb dJx4a65c_init_da8c8_0 rfl (lv_at hl 0 rfl) ?_
  obtain ⟨hPc, hDc, hFc, hI1⟩ := zi_sub (wc := [_]) hP hD hS hA [0] rfl rfl
  refine zcall (st1 := []) (va_runI (As := []) (rest := []) ⟨hx, hb, hml, hown, hts⟩ (k_ABL_init l dC dI cI cZ cF s.heap.size sl ) (cwI 0 hts (zz_gC mc_yJxc12de_init_da8c8) rfl rfl rfl (hts _ mw_108) (hts _ mw_287) (hts _ mw_288) rfl (by decide +kernel) ⟨Nat.le_of_ble_eq_true rfl, Nat.le_of_ble_eq_true rfl⟩) (zPS2 hPc hDc hK3 hXN) rfl rfl hl.1 rfl (lv_room (Nat.le_of_ble_eq_true rfl)) dJx4a65c_init_da8c8_1 ⟨Nat.le_of_ble_eq_true rfl, Nat.le_of_ble_eq_true rfl⟩) hS hFc hFc rfl (fun t H locs ht hB hk1 hS => ?_)
  obtain ⟨hP1, hD1⟩ := hB
  rw [ht] at hP1
  replace hP := z0 hP hD hk1 hP1 hI1
  clear hk1 hPc hDc hFc hP1 hD1 ht hI1
  refine lv_aload_n hx hb dJx4a65c_init_da8c8_4 rfl (lv_at hl 0 rfl) ?_
  refine va_gets hx hb hXL.2.1 hS hown (hts _ mw_294) (fun _ h9 => h9) dJx4a65c_init_da8c8_5 ?_
  refine va_put (D := (dC, dI)) (ci := 10) (v := .ref e0) (ty := .array (.object "java/lang/Object")) (C := RJx4a65c) (T := TJx4a65c) (N := 3) hx hb hts inJx4a65c tyJx4a65c tyJx4a65c_ok nmJx4a65c hown hK hP hD hS 0 rfl rfl 1 (by decide) (hts _ mw_296) (fun _ h9 => h9) rfl (by decide +kernel) rfl rfl (Nat.le_of_ble_eq_true rfl) dJx4a65c_init_da8c8_8 (fun H locs hP hD hS => ?_)
  obtain ⟨hP, hD⟩ := zre (W2 := [(oc10 sl 0 (.ref e0) 0)]) hP hD rfl
  obtain ⟨hP9, hD9⟩ := zu_sub (wc := [(oc10 sl 0 (.ref e0) 0)]) hP hD [true] rfl rfl
  have hE9 : ([(oc10 sl 0 (.ref e0) 0)] : va_W) = [(oc10 sl 0 (.ref e0) (nI 0))] := by rfl
  rw [hE9] at hP9 hD9
  rw [hQ9]
  exact W.vret hx hb hr (fun t ht hW => ⟨⟨rfl, by rw [ht]; exact hP9, hD9⟩, hS.F ht⟩) hS.2.2 dJx4a65c_init_da8c8_11
set_option maxHeartbeats 4000000 in
set_option maxRecDepth 100000 in
theorem k_Shop_init (l : Launch) (dC : Nat → ClassId) (dI : Nat → Nat → Nat) (cI cZ cF : ClassId) (sz : Nat) (cO : ClassId) (e0 : Nat) (mi : Nat) (x : Nat) : zML l yX10_init cX10_init 1 none ({ frames := 4, cells := 30, slots := 2300, locals := 72 } : Room) [.ref x] (dC, dI) (zTyO cI cZ cF cO) e0 mi [(oc8 x .null .null .null .null .null .null .null .null .null 0 0 0 0)] sz none (fun A t => ∃ (sl : Nat), ∃ (sh : Nat), ∃ (fa : Nat), ∃ (lw : Nat), ∃ (dr : Nat), ∃ (dx : Nat), ∃ (dy : Nat), ∃ (tg : Nat), ∃ (tx : Nat), ∃ (ty : Nat), ∃ (wy : Nat), ∃ (wx : Nat), ∃ (wz : Nat), ∃ (br : Nat), ∃ (bo : Nat), ∃ (aa : Nat), ∃ (ro : Nat), ∃ (za : Nat), ∃ (zw : Nat), ∃ (zx : Nat), ∃ (zy : Nat), ∃ (zg : Nat), ∃ (bq : Nat), ∃ (bp : Nat), ∃ (dq : Nat), ∃ (dp : Nat), ∃ (lv : Nat), zPD (dC, dI) classes A [(oc8 x (.ref sh) (.ref lw) (.ref ro) (.ref bq) (.ref bp) (.ref dq) (.ref dp) (.ref lv) (.ref sl) (nI 0) (nI 0) 0 0), (oc10 sl 0 (.ref e0) (nI 0)), (oc7 sh (.ref fa) (nI 0)), (oq fa cF 200 (fun _ => none)), (oc3 lw (.ref dr) (.ref tg) (.ref wy) (.ref br) (.ref bo) (.ref aa)), (oc6 dr (.ref dx) (.ref dy) (nI 0) 0), (oa dx cI 40 (fun _ => 0)), (oa dy cI 40 (fun _ => 0)), (oc6 tg (.ref tx) (.ref ty) (nI 0) 1), (oa tx cI 3 (fun _ => 0)), (oa ty cI 3 (fun _ => 0)), (oc6 wy (.ref wx) (.ref wz) (nI 0) 0), (oa wx cI 2 (fun _ => 0)), (oa wz cI 2 (fun _ => 0)), (oc0 br 0 0 0 0), (oc0 bo 0 0 0 0), (oa aa cI 40 (fun _ => 0)), (oc5 ro (.ref za) (.ref zw) (.ref zx) (.ref zy) (.ref zg) 0), (oq za cF 200 (fun _ => none)), (oa zw cI 200 (fun _ => 0)), (oa zx cI 400 (fun _ => 0)), (oa zy cI 400 (fun _ => 0)), (oa zg cI 400 (fun _ => 0)), (oc0 bq 0 0 0 0), (oc0 bp 0 0 0 0), (oc2 dq 0 0), (oc2 dp 0 0), (oa lv cZ 200 (fun _ => 0))] t.heap) 30 2300 := by
  refine zInL (own := "ScaleShop") (loc := [(0, .ref x)]) rfl rfl rfl rfl (fun p e s m below meth c hx hb hr hts hown hlocks hml hnm9 A hA hS hP hD hK hXL hXN hK3 Q9 hQ9 ls hl => ?_)
  have hin : meth.name = "<init>" := hnm9
  refine lv_aload_n hx hb dX10_init_0 rfl (lv_at hl 0 rfl) ?_
  refine W.objInit hx hb hown (hts _ mw_125) (hts _ mw_126) (hts _ mw_objcode) rfl (by rw [hml]; exact hl.1) rfl dX10_init_1 (Nat.le_of_ble_eq_true rfl) (Nat.le_of_ble_eq_true rfl) ?_
  refine W.eq (g2 := F0 m 4 ls []) rfl ?_
  refine lv_aload_n hx hb dX10_init_4 rfl (lv_at hl 0 rfl) ?_
  refine va_new (ci := 7) (fs := [.null, .int 0]) (C := RX8) (T := TX8) (N := 2) hx hb hts inX8 tyX8 tyX8_ok hown (hts _ mw_128) (hts _ mw_129) (hts _ mw_100) hK hP hD hS hA rfl dfX8 (show 1 ≤ 30 by omega) (show 2 ≤ 2300 by omega) dX10_init_5 (fun sh H hP hD hS => ?_)
  obtain ⟨hP, hD⟩ := zre (W2 := [_, (oc7 sh .null 0)]) hP hD rfl
  refine lv_dup hx hb dX10_init_8 rfl ?_
  obtain ⟨hPc, hDc, hFc⟩ := zo_sub (wc := [_]) hP hD hS hA [1] rfl rfl
  refine zcall (st1 := [.ref sh, .ref x]) (va_runI (As := []) (rest := [.ref sh, .ref x]) ⟨hx, hb, hml, hown, hts⟩ (k_Sheet_init l dC dI cI cZ cF H.size sh ) (cwI 0 hts (zz_gC mc_yX8_init) rfl rfl rfl (hts _ mw_100) (hts _ mw_130) (hts _ mw_131) rfl (by decide +kernel) ⟨Nat.le_of_ble_eq_true rfl, Nat.le_of_ble_eq_true rfl⟩) (zPS2 hPc hDc hK3 hXN) rfl rfl hl.1 rfl (lv_room (Nat.le_of_ble_eq_true rfl)) dX10_init_9 ⟨show 2 ≤ 30 by omega, show 202 ≤ 2300 by omega⟩) hS hFc hFc rfl (fun t H locs ht hB hk1 hS => ?_)
  obtain ⟨fa, hP1, hD1⟩ := hB
  rw [ht] at hP1
  obtain ⟨hP, hD⟩ := zn (W2 := [_, (oc7 sh (.ref fa) (nI 0)), (oq fa cF 200 (fun _ => none))]) hP hD hk1 hFc hP1 hD1 [1] [true] [true, false, false] [1, 2] (by decide +kernel) rfl rfl rfl rfl rfl
  clear hk1 hPc hDc hFc hP1 hD1 ht
  refine va_putF (D := (dC, dI)) (ci := 8) (v := .ref sh) (ty := .object "ScaleShop$Sheet") (C := RX10) (T := TX10) (N := 13) hx hb hts inX10 tyX10 tyX10_ok nmX10 hown hK hP hD hS 0 rfl rfl 0 (by decide) (hts _ mw_309) (fun _ h9 => h9) rfl hin rfl (by decide +kernel) rfl rfl (Nat.le_of_ble_eq_true rfl) dX10_init_12 (fun H locs hP hD hS => ?_)
  obtain ⟨hP, hD⟩ := zre (W2 := [(oc8 x (.ref sh) .null .null .null .null .null .null .null .null 0 0 0 0), _, _]) hP hD rfl
  refine lv_aload_n hx hb dX10_init_15 rfl (lv_at hl 0 rfl) ?_
  refine va_new (ci := 3) (fs := [.null, .null, .null, .null, .null, .null]) (C := RX4) (T := TX4) (N := 6) hx hb hts inX4 tyX4 tyX4_ok hown (hts _ mw_146) (hts _ mw_147) (hts _ mw_101) hK hP hD hS hA rfl dfX4 (show 3 ≤ 30 by omega) (show 208 ≤ 2300 by omega) dX10_init_16 (fun lw H hP hD hS => ?_)
  obtain ⟨hP, hD⟩ := zre (W2 := [_, _, _, (oc3 lw .null .null .null .null .null .null)]) hP hD rfl
  refine lv_dup hx hb dX10_init_19 rfl ?_
  obtain ⟨hPc, hDc, hFc⟩ := zo_sub (wc := [_]) hP hD hS hA [3] rfl rfl
  refine zcall (st1 := [.ref lw, .ref x]) (va_runI (As := []) (rest := [.ref lw, .ref x]) ⟨hx, hb, hml, hown, hts⟩ (k_Law_init l dC dI cI cZ cF H.size lw ) (cwI 0 hts (zz_gC mc_yX4_init) rfl rfl rfl (hts _ mw_101) (hts _ mw_148) (hts _ mw_149) rfl (by decide +kernel) ⟨Nat.le_of_ble_eq_true rfl, Nat.le_of_ble_eq_true rfl⟩) (zPS2 hPc hDc hK3 hXN) rfl rfl hl.1 rfl (lv_room (Nat.le_of_ble_eq_true rfl)) dX10_init_20 ⟨show (3 + 12) ≤ 30 by omega, show (208 + 150) ≤ 2300 by omega⟩) hS hFc hFc rfl (fun t H locs ht hB hk1 hS => ?_)
  refine ex12 hB (fun dr dx dy tg tx ty wy wx wz br bo aa hB0 => ?_)
  clear hB
  obtain ⟨hP1, hD1⟩ := hB0
  rw [ht] at hP1
  obtain ⟨hP, hD⟩ := zn (W2 := [_, _, _, (oc3 lw (.ref dr) (.ref tg) (.ref wy) (.ref br) (.ref bo) (.ref aa)), (oc6 dr (.ref dx) (.ref dy) (nI 0) 0), (oa dx cI 40 (fun _ => 0)), (oa dy cI 40 (fun _ => 0)), (oc6 tg (.ref tx) (.ref ty) (nI 0) 1), (oa tx cI 3 (fun _ => 0)), (oa ty cI 3 (fun _ => 0)), (oc6 wy (.ref wx) (.ref wz) (nI 0) 0), (oa wx cI 2 (fun _ => 0)), (oa wz cI 2 (fun _ => 0)), (oc0 br 0 0 0 0), (oc0 bo 0 0 0 0), (oa aa cI 40 (fun _ => 0))]) hP hD hk1 hFc hP1 hD1 [3] [true, true, true] zl_138 zl_139 (by decide +kernel) rfl rfl rfl rfl rfl
  clear hk1 hPc hDc hFc hP1 hD1 ht
  refine va_putF (D := (dC, dI)) (ci := 8) (v := .ref lw) (ty := .object "ScaleShop$Law") (C := RX10) (T := TX10) (N := 13) hx hb hts inX10 tyX10 tyX10_ok nmX10 hown hK hP hD hS 0 rfl rfl 1 (by decide) (hts _ mw_310) (fun _ h9 => h9) rfl hin rfl (by decide +kernel) rfl rfl (Nat.le_of_ble_eq_true rfl) dX10_init_23 (fun H locs hP hD hS => ?_)
  obtain ⟨hP, hD⟩ := zre (W2 := [(oc8 x (.ref sh) (.ref lw) .null .null .null .null .null .null .null 0 0 0 0), _, _, _, _, _, _, _, _, _, _, _, _, _, _, _]) hP hD rfl
  refine lv_aload_n hx hb dX10_init_26 rfl (lv_at hl 0 rfl) ?_
  refine va_new (ci := 5) (fs := [.null, .null, .null, .null, .null, .int 0]) (C := RX6) (T := TX6) (N := 6) hx hb hts inX6 tyX6 tyX6_ok hown (hts _ mw_239) (hts _ mw_240) (hts _ mw_105) hK hP hD hS hA rfl dfX6 (show ((3 + 12) + 1) ≤ 30 by omega) (show ((208 + 150) + 6) ≤ 2300 by omega) dX10_init_27 (fun ro H hP hD hS => ?_)
  obtain ⟨hP, hD⟩ := zre (W2 := [_, _, _, _, _, _, _, _, _, _, _, _, _, _, _, _, (oc5 ro .null .null .null .null .null 0)]) hP hD rfl
  refine lv_dup hx hb dX10_init_30 rfl ?_
  obtain ⟨hPc, hDc, hFc⟩ := zo_sub (wc := [_]) hP hD hS hA [16] rfl rfl
  refine zcall (st1 := [.ref ro, .ref x]) (va_runI (As := []) (rest := [.ref ro, .ref x]) ⟨hx, hb, hml, hown, hts⟩ (k_Roads_init l dC dI cI cZ cF H.size ro ) (cwI 0 hts (zz_gC mc_yX6_init) rfl rfl rfl (hts _ mw_105) (hts _ mw_241) (hts _ mw_242) rfl (by decide +kernel) ⟨Nat.le_of_ble_eq_true rfl, Nat.le_of_ble_eq_true rfl⟩) (zPS2 hPc hDc hK3 hXN) rfl rfl hl.1 rfl (lv_room (Nat.le_of_ble_eq_true rfl)) dX10_init_31 ⟨show (((3 + 12) + 1) + 5) ≤ 30 by omega, show (((208 + 150) + 6) + 1600) ≤ 2300 by omega⟩) hS hFc hFc rfl (fun t H locs ht hB hk1 hS => ?_)
  obtain ⟨za, zw, zx, zy, zg, hP1, hD1⟩ := hB
  rw [ht] at hP1
  obtain ⟨hP, hD⟩ := zn (W2 := [_, _, _, _, _, _, _, _, _, _, _, _, _, _, _, _, (oc5 ro (.ref za) (.ref zw) (.ref zx) (.ref zy) (.ref zg) 0), (oq za cF 200 (fun _ => none)), (oa zw cI 200 (fun _ => 0)), (oa zx cI 400 (fun _ => 0)), (oa zy cI 400 (fun _ => 0)), (oa zg cI 400 (fun _ => 0))]) hP hD hk1 hFc hP1 hD1 [16] zl_44 zl_140 [16, 17, 18, 19, 20, 21] (by decide +kernel) rfl rfl rfl rfl rfl
  clear hk1 hPc hDc hFc hP1 hD1 ht
  refine va_putF (D := (dC, dI)) (ci := 8) (v := .ref ro) (ty := .object "ScaleShop$Roads") (C := RX10) (T := TX10) (N := 13) hx hb hts inX10 tyX10 tyX10_ok nmX10 hown hK hP hD hS 0 rfl rfl 2 (by decide) (hts _ mw_311) (fun _ h9 => h9) rfl hin rfl (by decide +kernel) rfl rfl (Nat.le_of_ble_eq_true rfl) dX10_init_34 (fun H locs hP hD hS => ?_)
  obtain ⟨hP, hD⟩ := zre (W2 := [(oc8 x (.ref sh) (.ref lw) (.ref ro) .null .null .null .null .null .null 0 0 0 0), _, _, _, _, _, _, _, _, _, _, _, _, _, _, _, _, _, _, _, _, _]) hP hD rfl
  refine lv_aload_n hx hb dX10_init_37 rfl (lv_at hl 0 rfl) ?_
  refine va_new (ci := 0) (fs := [.int 0, .int 0, .int 0, .int 0]) (C := RX0) (T := TX0) (N := 4) hx hb hts inX0 tyX0 tyX0_ok hown (hts _ mw_265) (hts _ mw_197) (hts _ mw_104) hK hP hD hS hA rfl dfX0 (show ((((3 + 12) + 1) + 5) + 1) ≤ 30 by omega) (show ((((208 + 150) + 6) + 1600) + 4) ≤ 2300 by omega) dX10_init_38 (fun bq H hP hD hS => ?_)
  obtain ⟨hP, hD⟩ := zre (W2 := [_, _, _, _, _, _, _, _, _, _, _, _, _, _, _, _, _, _, _, _, _, _, (oc0 bq 0 0 0 0)]) hP hD rfl
  refine lv_dup hx hb dX10_init_41 rfl ?_
  obtain ⟨hPc, hDc, hFc, hI1⟩ := zi_sub (wc := [_]) hP hD hS hA [22] rfl rfl
  refine zcall (st1 := [.ref bq, .ref x]) (va_runI (As := []) (rest := [.ref bq, .ref x]) ⟨hx, hb, hml, hown, hts⟩ (k_Box_init l dC dI cI cZ cF H.size bq ) (cwI 0 hts (zz_gC mc_yX0_init) rfl rfl rfl (hts _ mw_104) (hts _ mw_266) (hts _ mw_199) rfl (by decide +kernel) ⟨Nat.le_of_ble_eq_true rfl, Nat.le_of_ble_eq_true rfl⟩) (zPS2 hPc hDc hK3 hXN) rfl rfl hl.1 rfl (lv_room (Nat.le_of_ble_eq_true rfl)) dX10_init_42 ⟨show ((((3 + 12) + 1) + 5) + 1) ≤ 30 by omega, show ((((208 + 150) + 6) + 1600) + 4) ≤ 2300 by omega⟩) hS hFc hFc rfl (fun t H locs ht hB hk1 hS => ?_)
  obtain ⟨hP1, hD1⟩ := hB
  rw [ht] at hP1
  replace hP := z0 hP hD hk1 hP1 hI1
  clear hk1 hPc hDc hFc hP1 hD1 ht hI1
  refine va_putF (D := (dC, dI)) (ci := 8) (v := .ref bq) (ty := .object "ScaleShop$Box") (C := RX10) (T := TX10) (N := 13) hx hb hts inX10 tyX10 tyX10_ok nmX10 hown hK hP hD hS 0 rfl rfl 3 (by decide) (hts _ mw_312) (fun _ h9 => h9) rfl hin rfl (by decide +kernel) rfl rfl (Nat.le_of_ble_eq_true rfl) dX10_init_45 (fun H locs hP hD hS => ?_)
  obtain ⟨hP, hD⟩ := zre (W2 := [(oc8 x (.ref sh) (.ref lw) (.ref ro) (.ref bq) .null .null .null .null .null 0 0 0 0), _, _, _, _, _, _, _, _, _, _, _, _, _, _, _, _, _, _, _, _, _, _]) hP hD rfl
  refine lv_aload_n hx hb dX10_init_48 rfl (lv_at hl 0 rfl) ?_
  refine va_new (ci := 0) (fs := [.int 0, .int 0, .int 0, .int 0]) (C := RX0) (T := TX0) (N := 4) hx hb hts inX0 tyX0 tyX0_ok hown (hts _ mw_265) (hts _ mw_197) (hts _ mw_104) hK hP hD hS hA rfl dfX0 (show (((((3 + 12) + 1) + 5) + 1) + 1) ≤ 30 by omega) (show (((((208 + 150) + 6) + 1600) + 4) + 4) ≤ 2300 by omega) dX10_init_49 (fun bp H hP hD hS => ?_)
  obtain ⟨hP, hD⟩ := zre (W2 := [_, _, _, _, _, _, _, _, _, _, _, _, _, _, _, _, _, _, _, _, _, _, _, (oc0 bp 0 0 0 0)]) hP hD rfl
  refine lv_dup hx hb dX10_init_52 rfl ?_
  obtain ⟨hPc, hDc, hFc, hI1⟩ := zi_sub (wc := [_]) hP hD hS hA [23] rfl rfl
  refine zcall (st1 := [.ref bp, .ref x]) (va_runI (As := []) (rest := [.ref bp, .ref x]) ⟨hx, hb, hml, hown, hts⟩ (k_Box_init l dC dI cI cZ cF H.size bp ) (cwI 0 hts (zz_gC mc_yX0_init) rfl rfl rfl (hts _ mw_104) (hts _ mw_266) (hts _ mw_199) rfl (by decide +kernel) ⟨Nat.le_of_ble_eq_true rfl, Nat.le_of_ble_eq_true rfl⟩) (zPS2 hPc hDc hK3 hXN) rfl rfl hl.1 rfl (lv_room (Nat.le_of_ble_eq_true rfl)) dX10_init_53 ⟨show (((((3 + 12) + 1) + 5) + 1) + 1) ≤ 30 by omega, show (((((208 + 150) + 6) + 1600) + 4) + 4) ≤ 2300 by omega⟩) hS hFc hFc rfl (fun t H locs ht hB hk1 hS => ?_)
  obtain ⟨hP1, hD1⟩ := hB
  rw [ht] at hP1
  replace hP := z0 hP hD hk1 hP1 hI1
  clear hk1 hPc hDc hFc hP1 hD1 ht hI1
  refine va_putF (D := (dC, dI)) (ci := 8) (v := .ref bp) (ty := .object "ScaleShop$Box") (C := RX10) (T := TX10) (N := 13) hx hb hts inX10 tyX10 tyX10_ok nmX10 hown hK hP hD hS 0 rfl rfl 4 (by decide) (hts _ mw_313) (fun _ h9 => h9) rfl hin rfl (by decide +kernel) rfl rfl (Nat.le_of_ble_eq_true rfl) dX10_init_56 (fun H locs hP hD hS => ?_)
  obtain ⟨hP, hD⟩ := zre (W2 := [(oc8 x (.ref sh) (.ref lw) (.ref ro) (.ref bq) (.ref bp) .null .null .null .null 0 0 0 0), _, _, _, _, _, _, _, _, _, _, _, _, _, _, _, _, _, _, _, _, _, _, _]) hP hD rfl
  refine lv_aload_n hx hb dX10_init_59 rfl (lv_at hl 0 rfl) ?_
  refine va_new (ci := 2) (fs := [.long 0, .long 0]) (C := RX3) (T := TX3) (N := 2) hx hb hts inX3 tyX3 tyX3_ok hown (hts _ mw_267) (hts _ mw_268) (hts _ mw_106) hK hP hD hS hA rfl dfX3 (show ((((((3 + 12) + 1) + 5) + 1) + 1) + 1) ≤ 30 by omega) (show ((((((208 + 150) + 6) + 1600) + 4) + 4) + 2) ≤ 2300 by omega) dX10_init_60 (fun dq H hP hD hS => ?_)
  obtain ⟨hP, hD⟩ := zre (W2 := [_, _, _, _, _, _, _, _, _, _, _, _, _, _, _, _, _, _, _, _, _, _, _, _, (oc2 dq 0 0)]) hP hD rfl
  refine lv_dup hx hb dX10_init_63 rfl ?_
  obtain ⟨hPc, hDc, hFc, hI1⟩ := zi_sub (wc := [_]) hP hD hS hA [24] rfl rfl
  refine zcall (st1 := [.ref dq, .ref x]) (va_runI (As := []) (rest := [.ref dq, .ref x]) ⟨hx, hb, hml, hown, hts⟩ (k_Fraction_init l dC dI cI cZ cF H.size dq ) (cwI 0 hts (zz_gC mc_yX3_init) rfl rfl rfl (hts _ mw_106) (hts _ mw_269) (hts _ mw_270) rfl (by decide +kernel) ⟨Nat.le_of_ble_eq_true rfl, Nat.le_of_ble_eq_true rfl⟩) (zPS2 hPc hDc hK3 hXN) rfl rfl hl.1 rfl (lv_room (Nat.le_of_ble_eq_true rfl)) dX10_init_64 ⟨show ((((((3 + 12) + 1) + 5) + 1) + 1) + 1) ≤ 30 by omega, show ((((((208 + 150) + 6) + 1600) + 4) + 4) + 2) ≤ 2300 by omega⟩) hS hFc hFc rfl (fun t H locs ht hB hk1 hS => ?_)
  obtain ⟨hP1, hD1⟩ := hB
  rw [ht] at hP1
  replace hP := z0 hP hD hk1 hP1 hI1
  clear hk1 hPc hDc hFc hP1 hD1 ht hI1
  refine va_putF (D := (dC, dI)) (ci := 8) (v := .ref dq) (ty := .object "ScaleShop$Fraction") (C := RX10) (T := TX10) (N := 13) hx hb hts inX10 tyX10 tyX10_ok nmX10 hown hK hP hD hS 0 rfl rfl 5 (by decide) (hts _ mw_314) (fun _ h9 => h9) rfl hin rfl (by decide +kernel) rfl rfl (Nat.le_of_ble_eq_true rfl) dX10_init_67 (fun H locs hP hD hS => ?_)
  obtain ⟨hP, hD⟩ := zre (W2 := [(oc8 x (.ref sh) (.ref lw) (.ref ro) (.ref bq) (.ref bp) (.ref dq) .null .null .null 0 0 0 0), _, _, _, _, _, _, _, _, _, _, _, _, _, _, _, _, _, _, _, _, _, _, _, _]) hP hD rfl
  refine lv_aload_n hx hb dX10_init_70 rfl (lv_at hl 0 rfl) ?_
  refine va_new (ci := 2) (fs := [.long 0, .long 0]) (C := RX3) (T := TX3) (N := 2) hx hb hts inX3 tyX3 tyX3_ok hown (hts _ mw_267) (hts _ mw_268) (hts _ mw_106) hK hP hD hS hA rfl dfX3 (show (((((((3 + 12) + 1) + 5) + 1) + 1) + 1) + 1) ≤ 30 by omega) (show (((((((208 + 150) + 6) + 1600) + 4) + 4) + 2) + 2) ≤ 2300 by omega) dX10_init_71 (fun dp H hP hD hS => ?_)
  obtain ⟨hP, hD⟩ := zre (W2 := [_, _, _, _, _, _, _, _, _, _, _, _, _, _, _, _, _, _, _, _, _, _, _, _, _, (oc2 dp 0 0)]) hP hD rfl
  refine lv_dup hx hb dX10_init_74 rfl ?_
  obtain ⟨hPc, hDc, hFc, hI1⟩ := zi_sub (wc := [_]) hP hD hS hA [25] rfl rfl
  refine zcall (st1 := [.ref dp, .ref x]) (va_runI (As := []) (rest := [.ref dp, .ref x]) ⟨hx, hb, hml, hown, hts⟩ (k_Fraction_init l dC dI cI cZ cF H.size dp ) (cwI 0 hts (zz_gC mc_yX3_init) rfl rfl rfl (hts _ mw_106) (hts _ mw_269) (hts _ mw_270) rfl (by decide +kernel) ⟨Nat.le_of_ble_eq_true rfl, Nat.le_of_ble_eq_true rfl⟩) (zPS2 hPc hDc hK3 hXN) rfl rfl hl.1 rfl (lv_room (Nat.le_of_ble_eq_true rfl)) dX10_init_75 ⟨show (((((((3 + 12) + 1) + 5) + 1) + 1) + 1) + 1) ≤ 30 by omega, show (((((((208 + 150) + 6) + 1600) + 4) + 4) + 2) + 2) ≤ 2300 by omega⟩) hS hFc hFc rfl (fun t H locs ht hB hk1 hS => ?_)
  obtain ⟨hP1, hD1⟩ := hB
  rw [ht] at hP1
  replace hP := z0 hP hD hk1 hP1 hI1
  clear hk1 hPc hDc hFc hP1 hD1 ht hI1
  refine va_putF (D := (dC, dI)) (ci := 8) (v := .ref dp) (ty := .object "ScaleShop$Fraction") (C := RX10) (T := TX10) (N := 13) hx hb hts inX10 tyX10 tyX10_ok nmX10 hown hK hP hD hS 0 rfl rfl 6 (by decide) (hts _ mw_315) (fun _ h9 => h9) rfl hin rfl (by decide +kernel) rfl rfl (Nat.le_of_ble_eq_true rfl) dX10_init_78 (fun H locs hP hD hS => ?_)
  obtain ⟨hP, hD⟩ := zre (W2 := [(oc8 x (.ref sh) (.ref lw) (.ref ro) (.ref bq) (.ref bp) (.ref dq) (.ref dp) .null .null 0 0 0 0), _, _, _, _, _, _, _, _, _, _, _, _, _, _, _, _, _, _, _, _, _, _, _, _, _]) hP hD rfl
  refine lv_aload_n hx hb dX10_init_81 rfl (lv_at hl 0 rfl) ?_
  refine lv_sipush (v := 200) hx hb dX10_init_82 rfl ?_
  refine zz_newa (atype := .boolean) (a0 := (200, .inl (fun _ => 0))) hx hb (hts _ mw_308) (ty := .boolean) rfl hK hP hD hS hA (n := nI 200) (N' := 200) (cA := cZ) 1 rfl (fun _ => rfl) (nI_pos (by omega)) (nI_clamp (by omega)) (show 200 * 1 ≤ 536870912 by omega) (show ((((((((3 + 12) + 1) + 5) + 1) + 1) + 1) + 1) + 1) ≤ 30 by omega) (show ((((((((208 + 150) + 6) + 1600) + 4) + 4) + 2) + 2) + 200) ≤ 2300 by omega) dX10_init_85 (fun lv H hP hD hS => ?_)
  obtain ⟨hP, hD⟩ := zre (W2 := [_, _, _, _, _, _, _, _, _, _, _, _, _, _, _, _, _, _, _, _, _, _, _, _, _, _, (oa lv cZ 200 (fun _ => 0))]) hP hD rfl
  refine va_putF (D := (dC, dI)) (ci := 8) (v := .ref lv) (ty := .array .boolean) (C := RX10) (T := TX10) (N := 13) hx hb hts inX10 tyX10 tyX10_ok nmX10 hown hK hP hD hS 0 rfl rfl 7 (by decide) (hts _ mw_316) (fun _ h9 => h9) rfl hin rfl (by decide +kernel) rfl rfl (Nat.le_of_ble_eq_true rfl) dX10_init_87 (fun H locs hP hD hS => ?_)
  obtain ⟨hP, hD⟩ := zre (W2 := [(oc8 x (.ref sh) (.ref lw) (.ref ro) (.ref bq) (.ref bp) (.ref dq) (.ref dp) (.ref lv) .null 0 0 0 0), _, _, _, _, _, _, _, _, _, _, _, _, _, _, _, _, _, _, _, _, _, _, _, _, _, _]) hP hD rfl
  refine lv_aload_n hx hb dX10_init_90 rfl (lv_at hl 0 rfl) ?_
  refine va_new (ci := 10) (fs := [.int 0, .null, .int 0]) (C := RJx4a65c) (T := TJx4a65c) (N := 3) hx hb hts inJx4a65c tyJx4a65c tyJx4a65c_ok hown (hts _ mw_282) (hts _ mw_283) (hts _ mw_109) hK hP hD hS hA rfl dfJx4a65c (show (((((((((3 + 12) + 1) + 5) + 1) + 1) + 1) + 1) + 1) + 1) ≤ 30 by omega) (show (((((((((208 + 150) + 6) + 1600) + 4) + 4) + 2) + 2) + 200) + 3) ≤ 2300 by omega) dX10_init_91 (fun sl H hP hD hS => ?_)
  obtain ⟨hP, hD⟩ := zre (W2 := [_, _, _, _, _, _, _, _, _, _, _, _, _, _, _, _, _, _, _, _, _, _, _, _, _, _, _, (oc10 sl 0 .null 0)]) hP hD rfl
  refine lv_dup hx hb dX10_init_94 rfl ?_
  obtain ⟨hPc, hDc, hFc⟩ := zo_sub (wc := [_]) hP hD hS hA [27] rfl rfl
  refine zcall (st1 := [.ref sl, .ref x]) (va_runI (As := []) (rest := [.ref sl, .ref x]) ⟨hx, hb, hml, hown, hts⟩ (k_AL_init l dC dI cI cZ cF H.size cO e0 mi sl ) (cwI 0 hts (zz_gC mc_yJx4a65c_init_da8c8) rfl rfl rfl (hts _ mw_109) (hts _ mw_284) (hts _ mw_285) rfl (by decide +kernel) ⟨Nat.le_of_ble_eq_true rfl, Nat.le_of_ble_eq_true rfl⟩) (zPSL hPc hDc hK hXL hS hFc) rfl rfl hl.1 rfl (lv_room (Nat.le_of_ble_eq_true rfl)) dX10_init_95 ⟨show (((((((((3 + 12) + 1) + 5) + 1) + 1) + 1) + 1) + 1) + 1) ≤ 30 by omega, show (((((((((208 + 150) + 6) + 1600) + 4) + 4) + 2) + 2) + 200) + 3) ≤ 2300 by omega⟩) hS hFc hFc rfl (fun t H locs ht hB hk1 hS => ?_)
  obtain ⟨hP1, hD1⟩ := hB
  rw [ht] at hP1
  obtain ⟨hP, hD⟩ := zn (W2 := [_, _, _, _, _, _, _, _, _, _, _, _, _, _, _, _, _, _, _, _, _, _, _, _, _, _, _, (oc10 sl 0 (.ref e0) (nI 0))]) hP hD hk1 hFc hP1 hD1 [27] zl_141 zl_142 [27] (by decide +kernel) rfl rfl rfl rfl rfl
  clear hk1 hPc hDc hFc hP1 hD1 ht
  refine va_putF (D := (dC, dI)) (ci := 8) (v := .ref sl) (ty := .object "java/util/ArrayList") (C := RX10) (T := TX10) (N := 13) hx hb hts inX10 tyX10 tyX10_ok nmX10 hown hK hP hD hS 0 rfl rfl 8 (by decide) (hts _ mw_317) (fun _ h9 => h9) rfl hin rfl (by decide +kernel) rfl rfl (Nat.le_of_ble_eq_true rfl) dX10_init_98 (fun H locs hP hD hS => ?_)
  obtain ⟨hP, hD⟩ := zre (W2 := [(oc8 x (.ref sh) (.ref lw) (.ref ro) (.ref bq) (.ref bp) (.ref dq) (.ref dp) (.ref lv) (.ref sl) 0 0 0 0), _, _, _, _, _, _, _, _, _, _, _, _, _, _, _, _, _, _, _, _, _, _, _, _, _, _, _]) hP hD rfl
  refine lv_aload_n hx hb dX10_init_101 rfl (lv_at hl 0 rfl) ?_
  refine lv_iconst (v := 0) hx hb dX10_init_102 rfl ?_
  refine va_put (D := (dC, dI)) (ci := 8) (v := .int 0) (ty := .int) (C := RX10) (T := TX10) (N := 13) hx hb hts inX10 tyX10 tyX10_ok nmX10 hown hK hP hD hS 0 rfl rfl 9 (by decide) (hts _ mw_318) (fun _ h9 => h9) rfl (by decide +kernel) rfl rfl (Nat.le_of_ble_eq_true rfl) dX10_init_103 (fun H locs hP hD hS => ?_)
  obtain ⟨hP, hD⟩ := zre (W2 := [(oc8 x (.ref sh) (.ref lw) (.ref ro) (.ref bq) (.ref bp) (.ref dq) (.ref dp) (.ref lv) (.ref sl) 0 0 0 0), _, _, _, _, _, _, _, _, _, _, _, _, _, _, _, _, _, _, _, _, _, _, _, _, _, _, _]) hP hD rfl
  refine lv_aload_n hx hb dX10_init_106 rfl (lv_at hl 0 rfl) ?_
  refine lv_iconst (v := 0) hx hb dX10_init_107 rfl ?_
  refine va_put (D := (dC, dI)) (ci := 8) (v := .int 0) (ty := .int) (C := RX10) (T := TX10) (N := 13) hx hb hts inX10 tyX10 tyX10_ok nmX10 hown hK hP hD hS 0 rfl rfl 10 (by decide) (hts _ mw_319) (fun _ h9 => h9) rfl (by decide +kernel) rfl rfl (Nat.le_of_ble_eq_true rfl) dX10_init_108 (fun H locs hP hD hS => ?_)
  obtain ⟨hP, hD⟩ := zre (W2 := [(oc8 x (.ref sh) (.ref lw) (.ref ro) (.ref bq) (.ref bp) (.ref dq) (.ref dp) (.ref lv) (.ref sl) 0 0 0 0), _, _, _, _, _, _, _, _, _, _, _, _, _, _, _, _, _, _, _, _, _, _, _, _, _, _, _]) hP hD rfl
  refine lv_aload_n hx hb dX10_init_111 rfl (lv_at hl 0 rfl) ?_
  refine lv_iconst (v := 0) hx hb dX10_init_112 rfl ?_
  refine va_put (D := (dC, dI)) (ci := 8) (v := .int 0) (ty := .int) (C := RX10) (T := TX10) (N := 13) hx hb hts inX10 tyX10 tyX10_ok nmX10 hown hK hP hD hS 0 rfl rfl 11 (by decide) (hts _ mw_320) (fun _ h9 => h9) rfl (by decide +kernel) rfl rfl (Nat.le_of_ble_eq_true rfl) dX10_init_113 (fun H locs hP hD hS => ?_)
  obtain ⟨hP, hD⟩ := zre (W2 := [(oc8 x (.ref sh) (.ref lw) (.ref ro) (.ref bq) (.ref bp) (.ref dq) (.ref dp) (.ref lv) (.ref sl) 0 0 0 0), _, _, _, _, _, _, _, _, _, _, _, _, _, _, _, _, _, _, _, _, _, _, _, _, _, _, _]) hP hD rfl
  refine lv_aload_n hx hb dX10_init_116 rfl (lv_at hl 0 rfl) ?_
  refine lv_iconst (v := 0) hx hb dX10_init_117 rfl ?_
  refine va_put (D := (dC, dI)) (ci := 8) (v := .int 0) (ty := .int) (C := RX10) (T := TX10) (N := 13) hx hb hts inX10 tyX10 tyX10_ok nmX10 hown hK hP hD hS 0 rfl rfl 12 (by decide) (hts _ mw_321) (fun _ h9 => h9) rfl (by decide +kernel) rfl rfl (Nat.le_of_ble_eq_true rfl) dX10_init_118 (fun H locs hP hD hS => ?_)
  obtain ⟨hP, hD⟩ := zre (W2 := [(oc8 x (.ref sh) (.ref lw) (.ref ro) (.ref bq) (.ref bp) (.ref dq) (.ref dp) (.ref lv) (.ref sl) 0 0 0 0), _, _, _, _, _, _, _, _, _, _, _, _, _, _, _, _, _, _, _, _, _, _, _, _, _, _, _]) hP hD rfl
  obtain ⟨hP9, hD9⟩ := zq_sub (wc := [(oc8 x (.ref sh) (.ref lw) (.ref ro) (.ref bq) (.ref bp) (.ref dq) (.ref dp) (.ref lv) (.ref sl) 0 0 0 0), (oc10 sl 0 (.ref e0) (nI 0)), (oc7 sh (.ref fa) (nI 0)), (oq fa cF 200 (fun _ => none)), (oc3 lw (.ref dr) (.ref tg) (.ref wy) (.ref br) (.ref bo) (.ref aa)), (oc6 dr (.ref dx) (.ref dy) (nI 0) 0), (oa dx cI 40 (fun _ => 0)), (oa dy cI 40 (fun _ => 0)), (oc6 tg (.ref tx) (.ref ty) (nI 0) 1), (oa tx cI 3 (fun _ => 0)), (oa ty cI 3 (fun _ => 0)), (oc6 wy (.ref wx) (.ref wz) (nI 0) 0), (oa wx cI 2 (fun _ => 0)), (oa wz cI 2 (fun _ => 0)), (oc0 br 0 0 0 0), (oc0 bo 0 0 0 0), (oa aa cI 40 (fun _ => 0)), (oc5 ro (.ref za) (.ref zw) (.ref zx) (.ref zy) (.ref zg) 0), (oq za cF 200 (fun _ => none)), (oa zw cI 200 (fun _ => 0)), (oa zx cI 400 (fun _ => 0)), (oa zy cI 400 (fun _ => 0)), (oa zg cI 400 (fun _ => 0)), (oc0 bq 0 0 0 0), (oc0 bp 0 0 0 0), (oc2 dq 0 0), (oc2 dp 0 0), (oa lv cZ 200 (fun _ => 0))]) hP hD [0, 27, 1, 2, 3, 4, 5, 6, 7, 8, 9, 10, 11, 12, 13, 14, 15, 16, 17, 18, 19, 20, 21, 22, 23, 24, 25, 26] rfl rfl
  have hE9 : ([(oc8 x (.ref sh) (.ref lw) (.ref ro) (.ref bq) (.ref bp) (.ref dq) (.ref dp) (.ref lv) (.ref sl) 0 0 0 0), (oc10 sl 0 (.ref e0) (nI 0)), (oc7 sh (.ref fa) (nI 0)), (oq fa cF 200 (fun _ => none)), (oc3 lw (.ref dr) (.ref tg) (.ref wy) (.ref br) (.ref bo) (.ref aa)), (oc6 dr (.ref dx) (.ref dy) (nI 0) 0), (oa dx cI 40 (fun _ => 0)), (oa dy cI 40 (fun _ => 0)), (oc6 tg (.ref tx) (.ref ty) (nI 0) 1), (oa tx cI 3 (fun _ => 0)), (oa ty cI 3 (fun _ => 0)), (oc6 wy (.ref wx) (.ref wz) (nI 0) 0), (oa wx cI 2 (fun _ => 0)), (oa wz cI 2 (fun _ => 0)), (oc0 br 0 0 0 0), (oc0 bo 0 0 0 0), (oa aa cI 40 (fun _ => 0)), (oc5 ro (.ref za) (.ref zw) (.ref zx) (.ref zy) (.ref zg) 0), (oq za cF 200 (fun _ => none)), (oa zw cI 200 (fun _ => 0)), (oa zx cI 400 (fun _ => 0)), (oa zy cI 400 (fun _ => 0)), (oa zg cI 400 (fun _ => 0)), (oc0 bq 0 0 0 0), (oc0 bp 0 0 0 0), (oc2 dq 0 0), (oc2 dp 0 0), (oa lv cZ 200 (fun _ => 0))] : va_W) = [(oc8 x (.ref sh) (.ref lw) (.ref ro) (.ref bq) (.ref bp) (.ref dq) (.ref dp) (.ref lv) (.ref sl) (nI 0) (nI 0) 0 0), (oc10 sl 0 (.ref e0) (nI 0)), (oc7 sh (.ref fa) (nI 0)), (oq fa cF 200 (fun _ => none)), (oc3 lw (.ref dr) (.ref tg) (.ref wy) (.ref br) (.ref bo) (.ref aa)), (oc6 dr (.ref dx) (.ref dy) (nI 0) 0), (oa dx cI 40 (fun _ => 0)), (oa dy cI 40 (fun _ => 0)), (oc6 tg (.ref tx) (.ref ty) (nI 0) 1), (oa tx cI 3 (fun _ => 0)), (oa ty cI 3 (fun _ => 0)), (oc6 wy (.ref wx) (.ref wz) (nI 0) 0), (oa wx cI 2 (fun _ => 0)), (oa wz cI 2 (fun _ => 0)), (oc0 br 0 0 0 0), (oc0 bo 0 0 0 0), (oa aa cI 40 (fun _ => 0)), (oc5 ro (.ref za) (.ref zw) (.ref zx) (.ref zy) (.ref zg) 0), (oq za cF 200 (fun _ => none)), (oa zw cI 200 (fun _ => 0)), (oa zx cI 400 (fun _ => 0)), (oa zy cI 400 (fun _ => 0)), (oa zg cI 400 (fun _ => 0)), (oc0 bq 0 0 0 0), (oc0 bp 0 0 0 0), (oc2 dq 0 0), (oc2 dp 0 0), (oa lv cZ 200 (fun _ => 0))] := by rfl
  rw [hE9] at hP9 hD9
  refine W.widen (k := 30) (n := 2300) (by omega) (by omega) ?_
  rw [hQ9]
  exact W.vret hx hb hr (fun t ht hW => ⟨⟨rfl, sl, sh, fa, lw, dr, dx, dy, tg, tx, ty, wy, wx, wz, br, bo, aa, ro, za, zw, zx, zy, zg, bq, bp, dq, dp, lv, by rw [ht]; exact hP9, hD9⟩, hS.F ht⟩) hS.2.2 dX10_init_121
end
section
/-! the reference's rows of what went -/
theorem shp_lo9 {f k i j : Nat} {c : Nat → Int32} (h : j < k) : cF40 (shp f k i c) f j = cF40 c f j := by
  show shp f k i c (40 * f + j) = c (40 * f + j)
  unfold shp; rw [if_neg (by omega)]
theorem shp_hi9 {f k i j : Nat} {c : Nat → Int32} (h : k ≤ j) (h2 : j < i) : cF40 (shp f k i c) f j = cF40 c f (j + 1) := by
  show shp f k i c (40 * f + j) = c (40 * f + (j + 1))
  unfold shp; rw [if_pos (by omega)]; rfl
section
variable {ln w t dn fr k f n m : Nat} {stp x y : Int32} {la lb lc ld la1 lb1 lc1 ld1 la2 lb2 lc2 ld2 la3 lb3 lc3 ld3 X Y P Q cx cy : Nat → Int32}
def lsE (ln : Nat) (la lb lc ld la1 lb1 lc1 ld1 : Nat → Int32) : Prop := ∀ j, j < ln → la1 j = la j ∧ lb1 j = lb j ∧ lc1 j = lc j ∧ ld1 j = ld j
/-- one corner is written behind the others -/
def lsP (ln f : Nat) (stp x y : Int32) (la lb lc ld la1 lb1 lc1 ld1 : Nat → Int32) : Prop := (la1 ln = nI f ∧ lb1 ln = x ∧ lc1 ln = y ∧ ld1 ln = stp) ∧ lsE ln la lb lc ld la1 lb1 lc1 ld1
/-- behind ln, up to w, stand the corners that went from feature f in step stp -/
def lsM (ln w f : Nat) (stp : Int32) (la lb lc ld la1 lb1 lc1 ld1 : Nat → Int32) (n : Nat) (X Y : Nat → Int32) (m : Nat) (P Q : Nat → Int32) : Prop :=
  lsC ln w lb lc lb1 lc1 n X Y m P Q ∧ (∀ j, j < ln → la1 j = la j ∧ ld1 j = ld j) ∧ ∀ j, ln ≤ j → j < w → la1 j = nI f ∧ ld1 j = stp
theorem lsM_0 (h : dsR n X Y) : lsM ln ln f stp la lb lc ld la lb lc ld n X Y n X Y :=
  ⟨lsC_0 h, fun _ _ => ⟨rfl, rfl⟩, fun j h1 h2 => absurd h1 (by omega)⟩
theorem lsM_s (h : lsM ln w f stp la lb lc ld la1 lb1 lc1 ld1 n X Y m (cF40 cx f) (cF40 cy f)) (hk : k < m) (hp : lsP w f stp (cF40 cx f k) (cF40 cy f k) la1 lb1 lc1 ld1 la3 lb3 lc3 ld3) : lsM ln (w + 1) f stp la lb lc ld la3 lb3 lc3 ld3 n X Y (m - 1) (cF40 (shp f k (m - 1) cx) f) (cF40 (shp f k (m - 1) cy) f) := by
  obtain ⟨h1, h2, h3⟩ := h
  obtain ⟨⟨p1, p2, p3, p4⟩, p5⟩ := hp
  have hln := h1.2.1
  refine ⟨lsC_s h1 hk (fun j hj => ⟨shp_lo9 hj, shp_lo9 hj⟩) (fun j h4 h5 => ⟨shp_hi9 h4 h5, shp_hi9 h4 h5⟩) (fun i hi => ⟨(p5 i hi).2.1, (p5 i hi).2.2.1⟩) p2 p3, fun j hj => ⟨(p5 j (by omega)).1.trans (h2 j hj).1, (p5 j (by omega)).2.2.2.trans (h2 j hj).2⟩, fun j h4 h5 => ?_⟩
  rcases Nat.lt_or_ge j w with q | q
  · exact ⟨(p5 j q).1.trans (h3 j h4 q).1, (p5 j q).2.2.2.trans (h3 j h4 q).2⟩
  · rw [show j = w by omega]; exact ⟨p1, p4⟩
theorem lsM_e (h : lsM ln w f stp la lb lc ld la1 lb1 lc1 ld1 n X Y m P Q) : lsE ln la lb lc ld la1 lb1 lc1 ld1 := fun j hj =>
  ⟨(h.2.1 j hj).1, (h.1.1 j hj).1, (h.1.1 j hj).2, (h.2.1 j hj).2⟩
/-- the first ln are gone through: what is kept stands below t -/
def sqX (dn fr ln t : Nat) (la lb lc ld la1 lb1 lc1 ld1 : Nat → Int32) : Prop :=
  (∀ i, i < ln → (i < fr → (ld i).toInt ≤ ((dn : Nat) : Int)) → ∃ j, j < t ∧ la1 j = la i ∧ lb1 j = lb i ∧ lc1 j = lc i ∧ ld1 j = ld i) ∧ ∀ j, j < t → ∃ i, i < ln ∧ (i < fr → (ld i).toInt ≤ ((dn : Nat) : Int)) ∧ la1 j = la i ∧ lb1 j = lb i ∧ lc1 j = lc i ∧ ld1 j = ld i
theorem sqX_0 : sqX dn fr 0 0 la lb lc ld la lb lc ld := ⟨fun i hi => absurd hi (Nat.not_lt_zero i), fun i hi => absurd hi (Nat.not_lt_zero i)⟩
theorem sqX_y (h : sqX dn fr k t la lb lc ld la1 lb1 lc1 ld1) (hr : ∀ j, k ≤ j → la1 j = la j ∧ lb1 j = lb j ∧ lc1 j = lc j ∧ ld1 j = ld j) (hk : k < fr → (ld1 k).toInt ≤ ((dn : Nat) : Int)) : sqX dn fr (k + 1) (t + 1) la lb lc ld (upd la1 t (la1 k)) (upd lb1 t (lb1 k)) (upd lc1 t (lc1 k)) (upd ld1 t (ld1 k)) := by
  obtain ⟨r1, r2, r3, r4⟩ := hr k (Nat.le_refl _)
  have hk2 : k < fr → (ld k).toInt ≤ ((dn : Nat) : Int) := fun z => by rw [← r4]; exact hk z
  have hu : ∀ (a : Nat → Int32) (v : Int32) (j : Nat), j < t → upd a t v j = a j := fun a v j hj => if_neg (by omega)
  have hv : ∀ (a : Nat → Int32) (v : Int32), upd a t v t = v := fun a v => if_pos rfl
  refine ⟨fun i hi hc => ?_, fun j hj => ?_⟩
  · rcases Nat.lt_or_ge i k with q | q
    · obtain ⟨j, j1, j2, j3, j4, j5⟩ := h.1 i q hc
      exact ⟨j, by omega, (hu _ _ j j1).trans j2, (hu _ _ j j1).trans j3, (hu _ _ j j1).trans j4, (hu _ _ j j1).trans j5⟩
    · rw [show i = k by omega]
      exact ⟨t, by omega, (hv _ _).trans r1, (hv _ _).trans r2, (hv _ _).trans r3, (hv _ _).trans r4⟩
  · rcases Nat.lt_or_ge j t with q | q
    · obtain ⟨i, i1, i2, i3, i4, i5, i6⟩ := h.2 j q
      exact ⟨i, by omega, i2, (hu _ _ j q).trans i3, (hu _ _ j q).trans i4, (hu _ _ j q).trans i5, (hu _ _ j q).trans i6⟩
    · rw [show j = t by omega]
      exact ⟨k, by omega, hk2, (hv _ _).trans r1, (hv _ _).trans r2, (hv _ _).trans r3, (hv _ _).trans r4⟩
theorem sqX_n (h : sqX dn fr k t la lb lc ld la1 lb1 lc1 ld1) (hr : ∀ j, k ≤ j → la1 j = la j ∧ lb1 j = lb j ∧ lc1 j = lc j ∧ ld1 j = ld j) (hk : k < fr) (hd : ((dn : Nat) : Int) < (ld1 k).toInt) : sqX dn fr (k + 1) t la lb lc ld la1 lb1 lc1 ld1 := by
  refine ⟨fun i hi hc => ?_, fun j hj => ?_⟩
  · rcases Nat.lt_or_ge i k with q | q
    · exact h.1 i q hc
    · have e : i = k := by omega
      rw [e] at hc
      have z := hc hk
      rw [← (hr k (Nat.le_refl _)).2.2.2] at z
      omega
  · obtain ⟨i, i1, r⟩ := h.2 j hj
    exact ⟨i, by omega, r⟩
/-- what a step makes of it all: S says what went by it -/
def lsZ (dn ln : Nat) (la lb lc ld : Nat → Int32) (t : Nat) (la1 lb1 lc1 ld1 : Nat → Int32) (S : Nat → Int32 → Int32 → Prop) : Prop :=
  (∀ i, i < ln → (ld i).toInt ≤ ((dn : Nat) : Int) → ∃ j, j < t ∧ la1 j = la i ∧ lb1 j = lb i ∧ lc1 j = lc i ∧ ld1 j = ld i) ∧
  (∀ j, j < t → (∃ i, i < ln ∧ (ld i).toInt ≤ ((dn : Nat) : Int) ∧ la1 j = la i ∧ lb1 j = lb i ∧ lc1 j = lc i ∧ ld1 j = ld i) ∨ (ld1 j = nI (dn + 1) ∧ ∃ q, la1 j = nI q ∧ S q (lb1 j) (lc1 j))) ∧
  ∀ q x y, S q x y → ∃ j, j < t ∧ la1 j = nI q ∧ lb1 j = x ∧ lc1 j = y ∧ ld1 j = nI (dn + 1)
theorem lsZ_n (h : sqX dn ln ln t la lb lc ld la1 lb1 lc1 ld1) : lsZ dn ln la lb lc ld t la1 lb1 lc1 ld1 (fun _ _ _ => False) :=
  ⟨fun i hi hd => h.1 i hi (fun _ => hd), fun j hj => by
    obtain ⟨i, i1, i2, i3⟩ := h.2 j hj
    exact Or.inl ⟨i, i1, i2 i1, i3⟩, fun _ _ _ z => z.elim⟩
theorem lsZ_g {S : Nat → Int32 → Int32 → Prop} (h : sqX dn ln w t la2 lb2 lc2 ld2 la1 lb1 lc1 ld1) (hw : ln ≤ w) (he : lsE ln la lb lc ld la2 lb2 lc2 ld2) (hr : ∀ j, ln ≤ j → j < w → ld2 j = nI (dn + 1) ∧ ∃ q, la2 j = nI q ∧ S q (lb2 j) (lc2 j)) (hS : ∀ q x y, S q x y → ∃ j, ln ≤ j ∧ j < w ∧ la2 j = nI q ∧ lb2 j = x ∧ lc2 j = y) : lsZ dn ln la lb lc ld t la1 lb1 lc1 ld1 S := by
  refine ⟨fun i hi hd => ?_, fun j hj => ?_, fun q x y hs => ?_⟩
  · obtain ⟨e1, e2, e3, e4⟩ := he i hi
    obtain ⟨j, j1, j2, j3, j4, j5⟩ := h.1 i (by omega) (fun _ => by rw [e4]; exact hd)
    exact ⟨j, j1, j2.trans e1, j3.trans e2, j4.trans e3, j5.trans e4⟩
  · obtain ⟨i, i1, i2, i3, i4, i5, i6⟩ := h.2 j hj
    rcases Nat.lt_or_ge i ln with q | q
    · obtain ⟨e1, e2, e3, e4⟩ := he i q
      exact Or.inl ⟨i, q, by rw [← e4]; exact i2 q, i3.trans e1, i4.trans e2, i5.trans e3, i6.trans e4⟩
    · obtain ⟨r1, p, r2, r3⟩ := hr i q i1
      exact Or.inr ⟨i6.trans r1, p, i3.trans r2, by rw [i4, i5]; exact r3⟩
  · obtain ⟨i, i1, i2, i3, i4, i5⟩ := hS q x y hs
    obtain ⟨j, j1, j2, j3, j4, j5⟩ := h.1 i i2 (fun z => absurd z (by omega))
    exact ⟨j, j1, j2.trans i3, j3.trans i4, j4.trans i5, j5.trans (hr i i1 i2).1⟩
theorem lsZ_p (h : sqX dn ln w t la2 lb2 lc2 ld2 la1 lb1 lc1 ld1) (hm : lsM ln w f (nI (dn + 1)) la lb lc ld la2 lb2 lc2 ld2 n X Y m P Q) : lsZ dn ln la lb lc ld t la1 lb1 lc1 ld1 (fun q x y => q = f ∧ isR n X Y x y ∧ ¬ isR m P Q x y) :=
  lsZ_g h hm.1.2.1 (lsM_e hm) (fun j h1 h2 => ⟨(hm.2.2 j h1 h2).2, f, (hm.2.2 j h1 h2).1, rfl, (hm.1.2.2.1 _ _).mp ⟨j, h1, h2, rfl, rfl⟩⟩) (fun q x y hs => by
    obtain ⟨e, h3⟩ := hs
    obtain ⟨i, i1, i2, i3, i4⟩ := (hm.1.2.2.1 x y).mpr h3
    exact ⟨i, i1, i2, by rw [e]; exact (hm.2.2 i i1 i2).1, i3, i4⟩)
end
/-! RUN: what went from all features -/
def bnQ (ft : Nat) (st tn kd : Nat → Int32) (q : Nat) : Prop := lvF ft st tn q ∧ ¬ (kd q).toInt = 0 ∧ ¬ (kd q).toInt = 6
def rlM (ln w ft : Nat) (stp : Int32) (st tn kd mn cx cy mn4 cx4 cy4 la lb lc ld la1 lb1 lc1 ld1 : Nat → Int32) : Prop :=
  lsE ln la lb lc ld la1 lb1 lc1 ld1 ∧ ln ≤ w ∧ (∀ j, ln ≤ j → j < w → ld1 j = stp ∧ ∃ q, bnQ ft st tn kd q ∧ la1 j = nI q) ∧
  (∀ q, bnQ ft st tn kd q → ∀ x y, (∃ j, ln ≤ j ∧ j < w ∧ la1 j = nI q ∧ lb1 j = x ∧ lc1 j = y) ↔ (isR (nN (mn q)) (cF40 cx q) (cF40 cy q) x y ∧ ¬ isR (nN (mn4 q)) (cF40 cx4 q) (cF40 cy4 q) x y)) ∧
  ∀ q, bnQ ft st tn kd q → dsR (nN (mn4 q)) (cF40 cx4 q) (cF40 cy4 q) ∧ ∀ x y, isR (nN (mn4 q)) (cF40 cx4 q) (cF40 cy4 q) x y → isR (nN (mn q)) (cF40 cx q) (cF40 cy q) x y
section
variable {ln w ft m g n5 : Nat} {stp : Int32} {st tn kd mn cx cy mn4 cx4 cy4 mn5 cx5 cy5 la lb lc ld la1 lb1 lc1 ld1 la2 lb2 lc2 ld2 : Nat → Int32}
theorem rlM_0 (hds : ∀ q, bnQ ft st tn kd q → dsR (nN (mn q)) (cF40 cx q) (cF40 cy q)) : rlM ln ln ft stp st tn kd mn cx cy mn cx cy la lb lc ld la lb lc ld :=
  ⟨fun _ _ => ⟨rfl, rfl, rfl, rfl⟩, Nat.le_refl _, fun j h1 h2 => absurd h1 (by omega), fun q hq x y => ⟨fun ⟨j, h1, h2, _⟩ => absurd h1 (by omega), fun h => absurd h.1 h.2⟩, fun q hq => ⟨hds q hq, fun _ _ h => h⟩⟩
theorem rlM_s (h : rlM ln w ft stp st tn kd mn cx cy mn4 cx4 cy4 la lb lc ld la1 lb1 lc1 ld1) (hg : bnQ ft st tn kd g) (hm : lsM w (w + m) g stp la1 lb1 lc1 ld1 la2 lb2 lc2 ld2 (nN (mn4 g)) (cF40 cx4 g) (cF40 cy4 g) n5 (cF40 cx5 g) (cF40 cy5 g)) (hn : nN (mn5 g) = n5) (ho : ∀ q, q ≠ g → mn5 q = mn4 q) (hc : ∀ q, q ≠ g → ∀ k, k < 40 → cF40 cx5 q k = cF40 cx4 q k ∧ cF40 cy5 q k = cF40 cy4 q k) (h40 : ∀ q, lvF ft st tn q → nN (mn4 q) ≤ 40) (h200 : ft ≤ 200) : rlM ln (w + m) ft stp st tn kd mn cx cy mn5 cx5 cy5 la lb lc ld la2 lb2 lc2 ld2 := by
  obtain ⟨h1, h2, h3, h4, h5⟩ := h
  have pre := lsM_e hm
  obtain ⟨m1, m2, m3⟩ := hm
  have hlt : ∀ q, bnQ ft st tn kd q → q < ft := fun q hq => hq.1.1
  refine ⟨fun j hj => ?_, by omega, fun j j1 j2 => ?_, fun q hq x y => ?_, fun q hq => ?_⟩
  · obtain ⟨a1, a2, a3, a4⟩ := h1 j hj
    obtain ⟨b1, b2, b3, b4⟩ := pre j (by omega)
    exact ⟨b1.trans a1, b2.trans a2, b3.trans a3, b4.trans a4⟩
  · rcases Nat.lt_or_ge j w with z | z
    · obtain ⟨a, q, b, c⟩ := h3 j j1 z
      exact ⟨(pre j z).2.2.2.trans a, q, b, (pre j z).1.trans c⟩
    · exact ⟨(m3 j z j2).2, g, hg, (m3 j z j2).1⟩
  · by_cases e : q = g
    · rw [e] at hq ⊢
      rw [hn]
      constructor
      · rintro ⟨j, j1, j2, j3, j4, j5⟩
        rcases Nat.lt_or_ge j w with z | z
        · have o := (h4 g hq x y).mp ⟨j, j1, z, (pre j z).1.symm.trans j3, (pre j z).2.1.symm.trans j4, (pre j z).2.2.1.symm.trans j5⟩
          exact ⟨o.1, fun r => o.2 (m1.2.2.2.2 x y r)⟩
        · have o := (m1.2.2.1 x y).mp ⟨j, z, j2, j4, j5⟩
          exact ⟨(h5 g hq).2 x y o.1, o.2⟩
      · rintro ⟨r1, r2⟩
        by_cases z : isR (nN (mn4 g)) (cF40 cx4 g) (cF40 cy4 g) x y
        · obtain ⟨i, i1, i2, i3, i4⟩ := (m1.2.2.1 x y).mpr ⟨z, r2⟩
          exact ⟨i, by omega, i2, (m3 i i1 i2).1, i3, i4⟩
        · obtain ⟨i, i1, i2, i3, i4, i5⟩ := (h4 g hq x y).mpr ⟨r1, z⟩
          exact ⟨i, i1, by omega, (pre i i2).1.trans i3, (pre i i2).2.1.trans i4, (pre i i2).2.2.1.trans i5⟩
    · have c40 := h40 q hq.1
      have hrow : isR (nN (mn4 q)) (cF40 cx5 q) (cF40 cy5 q) x y ↔ isR (nN (mn4 q)) (cF40 cx4 q) (cF40 cy4 q) x y := isR_cg (fun j hj => hc q e j (by omega))
      rw [ho q e, hrow]
      refine Iff.trans ⟨?_, ?_⟩ (h4 q hq x y)
      · rintro ⟨j, j1, j2, j3, j4, j5⟩
        rcases Nat.lt_or_ge j w with z | z
        · exact ⟨j, j1, z, (pre j z).1.symm.trans j3, (pre j z).2.1.symm.trans j4, (pre j z).2.2.1.symm.trans j5⟩
        · have hq1 := hlt q hq
          have hg1 := hlt g hg
          exact absurd (nI_inj9 (by omega) (by omega) ((m3 j z j2).1.symm.trans j3)).symm e
      · rintro ⟨j, j1, j2, j3, j4, j5⟩
        exact ⟨j, j1, by omega, (pre j j2).1.trans j3, (pre j j2).2.1.trans j4, (pre j j2).2.2.1.trans j5⟩
  · by_cases e : q = g
    · rw [e] at hq ⊢
      rw [hn]
      exact ⟨m1.2.2.2.1, fun x y r => (h5 g hq).2 x y (m1.2.2.2.2 x y r)⟩
    · have c40 := h40 q hq.1
      rw [ho q e]
      exact ⟨dsR_cg (fun j hj => hc q e j (by omega)) (h5 q hq).1, fun x y r => (h5 q hq).2 x y ((isR_cg (fun j hj => hc q e j (by omega))).mp r)⟩
theorem lsZ_r {dn t : Nat} (h : sqX dn ln w t la2 lb2 lc2 ld2 la1 lb1 lc1 ld1) (hm : rlM ln w ft (nI (dn + 1)) st tn kd mn cx cy mn4 cx4 cy4 la lb lc ld la2 lb2 lc2 ld2) : lsZ dn ln la lb lc ld t la1 lb1 lc1 ld1 (fun q x y => bnQ ft st tn kd q ∧ isR (nN (mn q)) (cF40 cx q) (cF40 cy q) x y ∧ ¬ isR (nN (mn4 q)) (cF40 cx4 q) (cF40 cy4 q) x y) :=
  lsZ_g h hm.2.1 hm.1 (fun j h1 h2 => by
    obtain ⟨a, q, b, c⟩ := hm.2.2.1 j h1 h2
    exact ⟨a, q, c, b, (hm.2.2.2.1 q b _ _).mp ⟨j, h1, h2, c, rfl, rfl⟩⟩) (fun q x y hs => (hm.2.2.2.1 q hs.1 x y).mpr hs.2)
end
end
