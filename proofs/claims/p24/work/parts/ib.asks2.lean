section
set_option maxHeartbeats 4000000 in
set_option maxRecDepth 100000 in
theorem k_done_r (l : Launch) (dC : Nat → ClassId) (dI : Nat → Nat → Nat) (cI cZ cF : ClassId) (sz : Nat) (x : Nat) (sh : Nat) (lw : Nat) (ro : Nat) (bq : Nat) (bp : Nat) (dq : Nat) (dp : Nat) (lv : Nat) (sl : Nat) (sd : Int32) (ul : Int32) (su : Int32) (ds : Int32) (fa : Nat) (ft : Nat) (FA : Nat → Option Nat) (f0 : Nat) (L : List Nat) (f : Nat → va_E) (kd : Nat → Int32) (st : Nat → Int32) (tn : Nat → Int32) (mn : Nat → Int32) (cx : Nat → Int32) (cy : Nat → Int32) (h200 : ft ≤ 200) (hf0 : f0 < ft) (hvw : ∀ q, q < ft → vwO cI L f FA kd st tn mn cx cy q) (hn1 : (kd f0).toInt = 0 → nN (mn f0) ≤ 1) (hpl : (tn f0).toInt = 0 → pls (nN (mn f0)) (cF40 cx f0) (cF40 cy f0)) (hbad : ¬ ((st f0).toInt = 0 ∧ (tn f0).toInt = 0 ∧ mSm (kd f0).toInt (nN (mn f0)) (cF40 cx f0) (cF40 cy f0))) : zM l yX10_done cX10_done 4 (some .boolean) ({ frames := 3, cells := 0, slots := 0, locals := 83 } : Room) [.ref x, .int (nI f0)] (dC, dI) (zTy cI cZ cF) ([(oc8 x (.ref sh) (.ref lw) (.ref ro) (.ref bq) (.ref bp) (.ref dq) (.ref dp) (.ref lv) (.ref sl) ds sd ul su), (oc7 sh (.ref fa) (nI ft)), (oq fa cF 200 FA)] ++ va_pl L f) sz (some (.int 0)) (fun A t => ∃ (ul1 : Int32), ∃ (su1 : Int32), zPD (dC, dI) classes A ([(oc8 x (.ref sh) (.ref lw) (.ref ro) (.ref bq) (.ref bp) (.ref dq) (.ref dp) (.ref lv) (.ref sl) ds sd ul1 su1), (oc7 sh (.ref fa) (nI ft)), (oq fa cF 200 FA)] ++ va_pl L f) t.heap) 0 0 := by
  refine zIn (own := "ScaleShop") (loc := [(0, .ref x), (1, .int (nI f0))]) rfl rfl rfl rfl (fun p e s m below meth c hx hb hr hts hown hlocks hml hnm9 A hA hS hP hD hK hXN Q9 hQ9 ls hl => ?_)
  have hfw9 : (if (kd f0).toInt = 0 then 1 else if (kd f0).toInt < 5 then 2 else 3) ≤ 3 := (by split; omega; split <;> omega)
  rcases vw2 (hvw f0 (show f0 < ft by omega)) with ⟨ht2, fe2, lk2, lo2, rk2, wd2, tw2, pa2, pb2, gb2, jt2, we2, fm2, hFA2, hfe2, hlk2⟩ | ⟨ht2, fe2, lk2, lo2, rk2, wd2, tw2, pa2, pb2, gb2, jt2, we2, fm2, r2, rx2, ry2, cap2, U2, V2, rg2, hFA2, hfe2, hlk2, ⟨hr2, hrx2, hry2, hne2⟩, hrr2⟩
  · skip
    have hc9_1 : inPl L f [(oc1 fe2 rk2 wd2 tw2 pa2 pb2 (.ref lo2) (.ref lk2) fm2), (oc4 lk2 (kd f0) (st f0) .null gb2 jt2 we2)] := ⟨hfe2, hlk2, trivial⟩
    have hD0_1 := hD
    obtain ⟨T_1, hT_1, hP, hD⟩ := pl_oT hP hD hc9_1 (pwF hfe2.2 hlk2.2)
    obtain ⟨hP, hD⟩ := zre (W2 := ([_, _, _, _, _] ++ va_pl T_1 f)) hP hD rfl
    refine lv_aload_n hx hb dX10_done_0 rfl (lv_at hl 0 rfl) ?_
    refine va_get (D := (dC, dI)) (ci := 8) (v := .ref sh) (C := RX10) (T := TX10) (N := 13) hx hb hts inX10 hown hK hP 0 rfl rfl 0 (Nat.le_of_ble_eq_true rfl) (hts _ mw_309) (fun _ h9 => h9) rfl dX10_done_1 ?_
    refine lv_iload_n hx hb dX10_done_4 rfl (lv_at hl 1 rfl) ?_
    obtain ⟨hPc, hDc, hFc, hI1⟩ := zi_sub (wc := [_, _]) hP hD hS hA [1, 2] rfl rfl
    refine zcall (st1 := [.ref fe2]) (va_runV (As := [.int (nI f0)]) (rest := []) ⟨hx, hb, hml, hown, hts⟩ (k_Sheet_find l dC dI cI cZ cF s.heap.size sh fa ft FA f0 fe2 (by first | with_reducible assumption | omega) (by first | with_reducible assumption | omega) (hFA2)) (csV_94 hts rfl rfl ⟨Nat.le_of_ble_eq_true rfl, Nat.le_of_ble_eq_true rfl⟩) (zPV2 (q0 := 0) (ci := 7) hPc hDc hK hXN rfl rfl) rfl rfl hl.1 rfl (lv_room (Nat.le_of_ble_eq_true rfl)) dX10_done_5 ⟨Nat.le_of_ble_eq_true rfl, Nat.le_of_ble_eq_true rfl⟩) hS hFc hFc rfl (fun t H locs ht hB hk1 hS => ?_)
    obtain ⟨hP1, hD1⟩ := hB
    rw [ht] at hP1
    replace hP := z0 hP hD hk1 hP1 hI1
    clear hk1 hPc hDc hFc hP1 hD1 ht hI1
    refine lv_astore_n (lv' := [(2, .ref fe2), (0, .ref x), (1, .int (nI f0))]) hx hb dX10_done_8 rfl hl (Nat.le_of_ble_eq_true rfl) rfl (fun ls hl => ?_)
    refine lv_aload_n hx hb dX10_done_9 rfl (lv_at hl 0 rfl) ?_
    refine lv_ifnonnull (tgt := 19) hx hb dX10_done_10 rfl ?_
    refine lv_aload_n hx hb dX10_done_19 rfl (lv_at hl 0 rfl) ?_
    refine va_get (D := (dC, dI)) (ci := 1) (v := .ref lk2) (C := RX2) (T := TX2) (N := 8) hx hb hts inX2 hown hK hP 3 rfl rfl 6 (Nat.le_of_ble_eq_true rfl) (hts _ mw_433) (fun _ h9 => h9) rfl dX10_done_20 ?_
    refine va_get (D := (dC, dI)) (ci := 4) (v := .int (st f0)) (C := RX5) (T := TX5) (N := 6) hx hb hts inX5 hown hK hP 4 rfl rfl 1 (Nat.le_of_ble_eq_true rfl) (hts _ mw_385) (fun _ h9 => h9) rfl dX10_done_23 ?_
    refine lv_if_eq (tgt := 35) hx hb dX10_done_26 rfl (fun c_1 => ?_) (fun c_1 => ?_)
    · have c_1 : (st f0).toInt = 0 := zc_eq rfl rfl c_1
      refine lv_aload_n hx hb dX10_done_35 rfl (lv_at hl 0 rfl) ?_
      refine va_get (D := (dC, dI)) (ci := 1) (v := .ref lk2) (C := RX2) (T := TX2) (N := 8) hx hb hts inX2 hown hK hP 3 rfl rfl 6 (Nat.le_of_ble_eq_true rfl) (hts _ mw_433) (fun _ h9 => h9) rfl dX10_done_36 ?_
      refine va_get (D := (dC, dI)) (ci := 4) (v := .null) (C := RX5) (T := TX5) (N := 6) hx hb hts inX5 hown hK hP 4 rfl rfl 2 (Nat.le_of_ble_eq_true rfl) (hts _ mw_391) (fun _ h9 => h9) rfl dX10_done_39 ?_
      refine lv_astore_nN (lv' := [(3, .null), (2, .ref fe2), (0, .ref x), (1, .int (nI f0))]) hx hb dX10_done_42 rfl hl (Nat.le_of_ble_eq_true rfl) rfl (fun ls hl => ?_)
      refine lv_aload_nN hx hb dX10_done_43 rfl (lv_at hl 0 rfl) ?_
      refine lv_ifnonnullN hx hb dX10_done_44 ?_
      refine lv_aload_n hx hb dX10_done_47 rfl (lv_at hl 2 rfl) ?_
      refine lv_iconst (v := 5) hx hb dX10_done_48 rfl ?_
      obtain ⟨hPc, hDc, hFc⟩ := zo_sub (wc := [_]) hP hD hS hA [0] rfl rfl
      refine zcall (st1 := [.int 0]) (va_runV (As := [.int 5]) (rest := []) ⟨hx, hb, hml, hown, hts⟩ (k_deny_5 l dC dI cI cZ cF H.size x sh lw ro bq bp dq dp lv sl sd ul su ds ) (csV_96 hts rfl rfl ⟨Nat.le_of_ble_eq_true rfl, Nat.le_of_ble_eq_true rfl⟩) (zPV2 (q0 := 0) (ci := 8) hPc hDc hK hXN rfl rfl) rfl rfl hl.1 rfl (lv_room (Nat.le_of_ble_eq_true rfl)) dX10_done_49 ⟨Nat.le_of_ble_eq_true rfl, Nat.le_of_ble_eq_true rfl⟩) hS hFc hFc rfl (fun t H locs ht hB hk1 hS => ?_)
      obtain ⟨hP1, hD1⟩ := hB
      rw [ht] at hP1
      obtain ⟨hP, hD⟩ := znQ (W2 := [(oc8 x (.ref sh) (.ref lw) (.ref ro) (.ref bq) (.ref bp) (.ref dq) (.ref dp) (.ref lv) (.ref sl) ds sd ul 5), _, _, _, _]) hP hD hk1 hFc hP1 hD1 [0] [false, true, true, true, true] [false, true, true, true, true] [0] (by decide +kernel) rfl rfl rfl rfl rfl
      clear hk1 hPc hDc hFc hP1 hD1 ht
      obtain ⟨hP, hD⟩ := pl_bk (X := [_, _, _]) hT_1 hP rfl hc9_1 hD0_1 rfl
      obtain ⟨hP9, hD9⟩ := zu_part (cx := [_, _, _]) hP hD [true, true, true] rfl rfl
      rw [hQ9]
      exact W.zret (ty := .boolean) (v := 0) hx hb hr (rfl) (fun t ht hW => ⟨⟨rfl, ul, 5, by rw [ht]; exact hP9, hD9⟩, hS.F ht⟩) hS.2.2 dX10_done_52
    · have c_1 : ¬ (st f0).toInt = 0 := zc_ne rfl rfl c_1
      refine lv_aload_n hx hb dX10_done_29 rfl (lv_at hl 1 rfl) ?_
      refine lv_iconst (v := 2) hx hb dX10_done_30 rfl ?_
      obtain ⟨hPc, hDc, hFc⟩ := zo_sub (wc := [_]) hP hD hS hA [0] rfl rfl
      refine zcall (st1 := [.int 0]) (va_runV (As := [.int 2]) (rest := []) ⟨hx, hb, hml, hown, hts⟩ (k_deny_2 l dC dI cI cZ cF H.size x sh lw ro bq bp dq dp lv sl sd ul su ds ) (csV_96 hts rfl rfl ⟨Nat.le_of_ble_eq_true rfl, Nat.le_of_ble_eq_true rfl⟩) (zPV2 (q0 := 0) (ci := 8) hPc hDc hK hXN rfl rfl) rfl rfl hl.1 rfl (lv_room (Nat.le_of_ble_eq_true rfl)) dX10_done_31 ⟨Nat.le_of_ble_eq_true rfl, Nat.le_of_ble_eq_true rfl⟩) hS hFc hFc rfl (fun t H locs ht hB hk1 hS => ?_)
      obtain ⟨hP1, hD1⟩ := hB
      rw [ht] at hP1
      obtain ⟨hP, hD⟩ := znQ (W2 := [(oc8 x (.ref sh) (.ref lw) (.ref ro) (.ref bq) (.ref bp) (.ref dq) (.ref dp) (.ref lv) (.ref sl) ds sd ul 2), _, _, _, _]) hP hD hk1 hFc hP1 hD1 [0] [false, true, true, true, true] [false, true, true, true, true] [0] (by decide +kernel) rfl rfl rfl rfl rfl
      clear hk1 hPc hDc hFc hP1 hD1 ht
      obtain ⟨hP, hD⟩ := pl_bk (X := [_, _, _]) hT_1 hP rfl hc9_1 hD0_1 rfl
      obtain ⟨hP9, hD9⟩ := zu_part (cx := [_, _, _]) hP hD [true, true, true] rfl rfl
      rw [hQ9]
      exact W.zret (ty := .boolean) (v := 0) hx hb hr (rfl) (fun t ht hW => ⟨⟨rfl, ul, 2, by rw [ht]; exact hP9, hD9⟩, hS.F ht⟩) hS.2.2 dX10_done_34
  · skip
    have hcap2 := hrr2.1
    have hcap3 := hrr2.2.1
    have hc9_1 : inPl L f [(oc1 fe2 rk2 wd2 tw2 pa2 pb2 (.ref lo2) (.ref lk2) fm2), (oc4 lk2 (kd f0) (st f0) (.ref r2) gb2 jt2 we2), (oc6 r2 (.ref rx2) (.ref ry2) (nI (nN (mn f0))) rg2), (oa rx2 cI cap2 U2), (oa ry2 cI cap2 V2)] := ⟨hfe2, hlk2, hr2, hrx2, hry2, trivial⟩
    have hD0_1 := hD
    obtain ⟨T_1, hT_1, hP, hD⟩ := pl_oT hP hD hc9_1 (pwR hfe2.2 hlk2.2 hr2.2 hrx2.2 hry2.2 hne2)
    obtain ⟨hP, hD⟩ := zre (W2 := ([_, _, _, _, _, _, _, _] ++ va_pl T_1 f)) hP hD rfl
    refine lv_aload_n hx hb dX10_done_0 rfl (lv_at hl 0 rfl) ?_
    refine va_get (D := (dC, dI)) (ci := 8) (v := .ref sh) (C := RX10) (T := TX10) (N := 13) hx hb hts inX10 hown hK hP 0 rfl rfl 0 (Nat.le_of_ble_eq_true rfl) (hts _ mw_309) (fun _ h9 => h9) rfl dX10_done_1 ?_
    refine lv_iload_n hx hb dX10_done_4 rfl (lv_at hl 1 rfl) ?_
    obtain ⟨hPc, hDc, hFc, hI1⟩ := zi_sub (wc := [_, _]) hP hD hS hA [1, 2] rfl rfl
    refine zcall (st1 := [.ref fe2]) (va_runV (As := [.int (nI f0)]) (rest := []) ⟨hx, hb, hml, hown, hts⟩ (k_Sheet_find l dC dI cI cZ cF s.heap.size sh fa ft FA f0 fe2 (by first | with_reducible assumption | omega) (by first | with_reducible assumption | omega) (hFA2)) (csV_94 hts rfl rfl ⟨Nat.le_of_ble_eq_true rfl, Nat.le_of_ble_eq_true rfl⟩) (zPV2 (q0 := 0) (ci := 7) hPc hDc hK hXN rfl rfl) rfl rfl hl.1 rfl (lv_room (Nat.le_of_ble_eq_true rfl)) dX10_done_5 ⟨Nat.le_of_ble_eq_true rfl, Nat.le_of_ble_eq_true rfl⟩) hS hFc hFc rfl (fun t H locs ht hB hk1 hS => ?_)
    obtain ⟨hP1, hD1⟩ := hB
    rw [ht] at hP1
    replace hP := z0 hP hD hk1 hP1 hI1
    clear hk1 hPc hDc hFc hP1 hD1 ht hI1
    refine lv_astore_n (lv' := [(2, .ref fe2), (0, .ref x), (1, .int (nI f0))]) hx hb dX10_done_8 rfl hl (Nat.le_of_ble_eq_true rfl) rfl (fun ls hl => ?_)
    refine lv_aload_n hx hb dX10_done_9 rfl (lv_at hl 0 rfl) ?_
    refine lv_ifnonnull (tgt := 19) hx hb dX10_done_10 rfl ?_
    refine lv_aload_n hx hb dX10_done_19 rfl (lv_at hl 0 rfl) ?_
    refine va_get (D := (dC, dI)) (ci := 1) (v := .ref lk2) (C := RX2) (T := TX2) (N := 8) hx hb hts inX2 hown hK hP 3 rfl rfl 6 (Nat.le_of_ble_eq_true rfl) (hts _ mw_433) (fun _ h9 => h9) rfl dX10_done_20 ?_
    refine va_get (D := (dC, dI)) (ci := 4) (v := .int (st f0)) (C := RX5) (T := TX5) (N := 6) hx hb hts inX5 hown hK hP 4 rfl rfl 1 (Nat.le_of_ble_eq_true rfl) (hts _ mw_385) (fun _ h9 => h9) rfl dX10_done_23 ?_
    refine lv_if_eq (tgt := 35) hx hb dX10_done_26 rfl (fun c_2 => ?_) (fun c_2 => ?_)
    · have c_2 : (st f0).toInt = 0 := zc_eq rfl rfl c_2
      refine lv_aload_n hx hb dX10_done_35 rfl (lv_at hl 0 rfl) ?_
      refine va_get (D := (dC, dI)) (ci := 1) (v := .ref lk2) (C := RX2) (T := TX2) (N := 8) hx hb hts inX2 hown hK hP 3 rfl rfl 6 (Nat.le_of_ble_eq_true rfl) (hts _ mw_433) (fun _ h9 => h9) rfl dX10_done_36 ?_
      refine va_get (D := (dC, dI)) (ci := 4) (v := .ref r2) (C := RX5) (T := TX5) (N := 6) hx hb hts inX5 hown hK hP 4 rfl rfl 2 (Nat.le_of_ble_eq_true rfl) (hts _ mw_391) (fun _ h9 => h9) rfl dX10_done_39 ?_
      refine lv_astore_n (lv' := [(3, .ref r2), (2, .ref fe2), (0, .ref x), (1, .int (nI f0))]) hx hb dX10_done_42 rfl hl (Nat.le_of_ble_eq_true rfl) rfl (fun ls hl => ?_)
      refine lv_aload_n hx hb dX10_done_43 rfl (lv_at hl 0 rfl) ?_
      refine lv_ifnonnull (tgt := 53) hx hb dX10_done_44 rfl ?_
      refine lv_aload_n hx hb dX10_done_53 rfl (lv_at hl 0 rfl) ?_
      refine va_get (D := (dC, dI)) (ci := 6) (v := .int (nI (nN (mn f0)))) (C := RX7) (T := TX7) (N := 4) hx hb hts inX7 hown hK hP 5 rfl rfl 2 (Nat.le_of_ble_eq_true rfl) (hts _ mw_179) (fun _ h9 => h9) rfl dX10_done_54 ?_
      refine lv_aload_n hx hb dX10_done_57 rfl (lv_at hl 1 rfl) ?_
      refine va_get (D := (dC, dI)) (ci := 1) (v := .ref lk2) (C := RX2) (T := TX2) (N := 8) hx hb hts inX2 hown hK hP 3 rfl rfl 6 (Nat.le_of_ble_eq_true rfl) (hts _ mw_433) (fun _ h9 => h9) rfl dX10_done_58 ?_
      refine va_get (D := (dC, dI)) (ci := 4) (v := .int (kd f0)) (C := RX5) (T := TX5) (N := 6) hx hb hts inX5 hown hK hP 4 rfl rfl 0 (Nat.le_of_ble_eq_true rfl) (hts _ mw_381) (fun _ h9 => h9) rfl dX10_done_61 ?_
      obtain ⟨hPc, hDc, hFc, hI1⟩ := zi_sub (wc := []) hP hD hS hA [] rfl rfl
      refine zcall (st1 := [.int (nI (if (kd f0).toInt = 0 then 1 else if (kd f0).toInt < 5 then 2 else 3)), .int (nI (nN (mn f0)))]) (va_runS (As := [.int (kd f0)]) (rest := [.int (nI (nN (mn f0)))]) ⟨hx, hb, hml, hown, hts⟩ (k_fewestCorners l dC dI cI cZ cF H.size (kd f0) ) (csS_107 hts rfl rfl ⟨Nat.le_of_ble_eq_true rfl, Nat.le_of_ble_eq_true rfl⟩) (zPS2 hPc hDc hK hXN) rfl rfl hl.1 rfl (lv_room (Nat.le_of_ble_eq_true rfl)) dX10_done_64 ⟨Nat.le_of_ble_eq_true rfl, Nat.le_of_ble_eq_true rfl⟩) hS hFc hFc rfl (fun t H locs ht hB hk1 hS => ?_)
      obtain ⟨hP1, hD1⟩ := hB
      rw [ht] at hP1
      replace hP := z0 hP hD hk1 hP1 hI1
      clear hk1 hPc hDc hFc hP1 hD1 ht hI1
      have b9_4 : zlt ((nN (mn f0))) := show (nN (mn f0)) < 2147483648 by omega
      have b9_5 : zlt ((if (kd f0).toInt = 0 then 1 else if (kd f0).toInt < 5 then 2 else 3)) := show (if (kd f0).toInt = 0 then 1 else if (kd f0).toInt < 5 then 2 else 3) < 2147483648 by omega
      refine lv_icmp_lt (tgt := 84) hx hb dX10_done_67 rfl (fun c_3 => ?_) (fun c_3 => ?_)
      · have c_3 : ((nN (mn f0) : Nat) : Int) < ((if (kd f0).toInt = 0 then 1 else if (kd f0).toInt < 5 then 2 else 3 : Nat) : Int) := zc_lt (nI_toInt b9_4) (nI_toInt b9_5) c_3
        refine lv_aload_n hx hb dX10_done_84 rfl (lv_at hl 2 rfl) ?_
        refine lv_bipush (v := 6) hx hb dX10_done_85 rfl ?_
        obtain ⟨hPc, hDc, hFc⟩ := zo_sub (wc := [_]) hP hD hS hA [0] rfl rfl
        refine zcall (st1 := [.int 0]) (va_runV (As := [.int 6]) (rest := []) ⟨hx, hb, hml, hown, hts⟩ (k_deny_6 l dC dI cI cZ cF H.size x sh lw ro bq bp dq dp lv sl sd ul su ds ) (csV_96 hts rfl rfl ⟨Nat.le_of_ble_eq_true rfl, Nat.le_of_ble_eq_true rfl⟩) (zPV2 (q0 := 0) (ci := 8) hPc hDc hK hXN rfl rfl) rfl rfl hl.1 rfl (lv_room (Nat.le_of_ble_eq_true rfl)) dX10_done_87 ⟨Nat.le_of_ble_eq_true rfl, Nat.le_of_ble_eq_true rfl⟩) hS hFc hFc rfl (fun t H locs ht hB hk1 hS => ?_)
        obtain ⟨hP1, hD1⟩ := hB
        rw [ht] at hP1
        obtain ⟨hP, hD⟩ := znQ (W2 := [(oc8 x (.ref sh) (.ref lw) (.ref ro) (.ref bq) (.ref bp) (.ref dq) (.ref dp) (.ref lv) (.ref sl) ds sd ul 6), _, _, _, _, _, _, _]) hP hD hk1 hFc hP1 hD1 [0] zl_54 zl_54 [0] (by decide +kernel) rfl rfl rfl rfl rfl
        clear hk1 hPc hDc hFc hP1 hD1 ht
        obtain ⟨hP, hD⟩ := pl_bk (X := [_, _, _]) hT_1 hP rfl hc9_1 hD0_1 rfl
        obtain ⟨hP9, hD9⟩ := zu_part (cx := [_, _, _]) hP hD [true, true, true] rfl rfl
        rw [hQ9]
        exact W.zret (ty := .boolean) (v := 0) hx hb hr (rfl) (fun t ht hW => ⟨⟨rfl, ul, 6, by rw [ht]; exact hP9, hD9⟩, hS.F ht⟩) hS.2.2 dX10_done_90
      · have c_3 : ((if (kd f0).toInt = 0 then 1 else if (kd f0).toInt < 5 then 2 else 3 : Nat) : Int) ≤ ((nN (mn f0) : Nat) : Int) := zc_nlt (nI_toInt b9_4) (nI_toInt b9_5) c_3
        refine lv_aload_n hx hb dX10_done_70 rfl (lv_at hl 0 rfl) ?_
        refine lv_aload_n hx hb dX10_done_71 rfl (lv_at hl 1 rfl) ?_
        refine va_get (D := (dC, dI)) (ci := 1) (v := .ref lk2) (C := RX2) (T := TX2) (N := 8) hx hb hts inX2 hown hK hP 3 rfl rfl 6 (Nat.le_of_ble_eq_true rfl) (hts _ mw_433) (fun _ h9 => h9) rfl dX10_done_72 ?_
        refine va_get (D := (dC, dI)) (ci := 4) (v := .int (kd f0)) (C := RX5) (T := TX5) (N := 6) hx hb hts inX5 hown hK hP 4 rfl rfl 0 (Nat.le_of_ble_eq_true rfl) (hts _ mw_381) (fun _ h9 => h9) rfl dX10_done_75 ?_
        obtain ⟨hPc, hDc, hFc, hI1⟩ := zi_sub (wc := [_, _, _]) hP hD hS hA [5, 6, 7] rfl rfl
        refine zcall (st1 := [.int (pI ((∀ i, i < edg (nN (mn f0)) rg2 → eFr (nN (mn f0)) U2 V2 rg2 i (i + 1)) ∧ (¬ (kd f0).toInt = 6 ∨ ∀ k, k < (nN (mn f0)) → eRt (nN (mn f0)) U2 V2 k)))]) (va_runV (As := [.int (kd f0)]) (rest := []) ⟨hx, hb, hml, hown, hts⟩ (k_Row_isSound l dC dI cI cZ cF H.size r2 rx2 ry2 (nN (mn f0)) cap2 U2 V2 rg2 (kd f0) (by first | with_reducible assumption | omega) (by first | with_reducible assumption | omega) ((pls_cg hrr2.2.2.2.2).mpr (hpl ht2))) (csV_103 hts rfl rfl ⟨Nat.le_of_ble_eq_true rfl, Nat.le_of_ble_eq_true rfl⟩) (zPV2 (q0 := 0) (ci := 6) hPc hDc hK hXN rfl rfl) rfl rfl hl.1 rfl (lv_room (Nat.le_of_ble_eq_true rfl)) dX10_done_78 ⟨Nat.le_of_ble_eq_true rfl, Nat.le_of_ble_eq_true rfl⟩) hS hFc hFc rfl (fun t H locs ht hB hk1 hS => ?_)
        obtain ⟨hP1, hD1⟩ := hB
        rw [ht] at hP1
        replace hP := z0 hP hD hk1 hP1 hI1
        clear hk1 hPc hDc hFc hP1 hD1 ht hI1
        refine lv_if_ne (tgt := 91) hx hb dX10_done_81 rfl (fun c_6 => ?_) (fun c_6 => ?_)
        · have c_6 : (∀ i, i < edg (nN (mn f0)) rg2 → eFr (nN (mn f0)) U2 V2 rg2 i (i + 1)) ∧ (¬ (kd f0).toInt = 6 ∨ ∀ k, k < (nN (mn f0)) → eRt (nN (mn f0)) U2 V2 k) := zp_1 c_6
          exact absurd ⟨by omega, by omega, snd_n hrr2.2.2.2.1 hrr2.2.2.2.2 (by omega) hn1 (by first | with_reducible assumption | assumption)⟩ hbad
        · have c_6 : ¬ ((∀ i, i < edg (nN (mn f0)) rg2 → eFr (nN (mn f0)) U2 V2 rg2 i (i + 1)) ∧ (¬ (kd f0).toInt = 6 ∨ ∀ k, k < (nN (mn f0)) → eRt (nN (mn f0)) U2 V2 k)) := zp_0 c_6
          refine lv_aload_n hx hb dX10_done_84 rfl (lv_at hl 2 rfl) ?_
          refine lv_bipush (v := 6) hx hb dX10_done_85 rfl ?_
          obtain ⟨hPc, hDc, hFc⟩ := zo_sub (wc := [_]) hP hD hS hA [0] rfl rfl
          refine zcall (st1 := [.int 0]) (va_runV (As := [.int 6]) (rest := []) ⟨hx, hb, hml, hown, hts⟩ (k_deny_6 l dC dI cI cZ cF H.size x sh lw ro bq bp dq dp lv sl sd ul su ds ) (csV_96 hts rfl rfl ⟨Nat.le_of_ble_eq_true rfl, Nat.le_of_ble_eq_true rfl⟩) (zPV2 (q0 := 0) (ci := 8) hPc hDc hK hXN rfl rfl) rfl rfl hl.1 rfl (lv_room (Nat.le_of_ble_eq_true rfl)) dX10_done_87 ⟨Nat.le_of_ble_eq_true rfl, Nat.le_of_ble_eq_true rfl⟩) hS hFc hFc rfl (fun t H locs ht hB hk1 hS => ?_)
          obtain ⟨hP1, hD1⟩ := hB
          rw [ht] at hP1
          obtain ⟨hP, hD⟩ := znQ (W2 := [(oc8 x (.ref sh) (.ref lw) (.ref ro) (.ref bq) (.ref bp) (.ref dq) (.ref dp) (.ref lv) (.ref sl) ds sd ul 6), _, _, _, _, _, _, _]) hP hD hk1 hFc hP1 hD1 [0] zl_54 zl_54 [0] (by decide +kernel) rfl rfl rfl rfl rfl
          clear hk1 hPc hDc hFc hP1 hD1 ht
          obtain ⟨hP, hD⟩ := pl_bk (X := [_, _, _]) hT_1 hP rfl hc9_1 hD0_1 rfl
          obtain ⟨hP9, hD9⟩ := zu_part (cx := [_, _, _]) hP hD [true, true, true] rfl rfl
          rw [hQ9]
          exact W.zret (ty := .boolean) (v := 0) hx hb hr (rfl) (fun t ht hW => ⟨⟨rfl, ul, 6, by rw [ht]; exact hP9, hD9⟩, hS.F ht⟩) hS.2.2 dX10_done_90
    · have c_2 : ¬ (st f0).toInt = 0 := zc_ne rfl rfl c_2
      refine lv_aload_n hx hb dX10_done_29 rfl (lv_at hl 1 rfl) ?_
      refine lv_iconst (v := 2) hx hb dX10_done_30 rfl ?_
      obtain ⟨hPc, hDc, hFc⟩ := zo_sub (wc := [_]) hP hD hS hA [0] rfl rfl
      refine zcall (st1 := [.int 0]) (va_runV (As := [.int 2]) (rest := []) ⟨hx, hb, hml, hown, hts⟩ (k_deny_2 l dC dI cI cZ cF H.size x sh lw ro bq bp dq dp lv sl sd ul su ds ) (csV_96 hts rfl rfl ⟨Nat.le_of_ble_eq_true rfl, Nat.le_of_ble_eq_true rfl⟩) (zPV2 (q0 := 0) (ci := 8) hPc hDc hK hXN rfl rfl) rfl rfl hl.1 rfl (lv_room (Nat.le_of_ble_eq_true rfl)) dX10_done_31 ⟨Nat.le_of_ble_eq_true rfl, Nat.le_of_ble_eq_true rfl⟩) hS hFc hFc rfl (fun t H locs ht hB hk1 hS => ?_)
      obtain ⟨hP1, hD1⟩ := hB
      rw [ht] at hP1
      obtain ⟨hP, hD⟩ := znQ (W2 := [(oc8 x (.ref sh) (.ref lw) (.ref ro) (.ref bq) (.ref bp) (.ref dq) (.ref dp) (.ref lv) (.ref sl) ds sd ul 2), _, _, _, _, _, _, _]) hP hD hk1 hFc hP1 hD1 [0] zl_54 zl_54 [0] (by decide +kernel) rfl rfl rfl rfl rfl
      clear hk1 hPc hDc hFc hP1 hD1 ht
      obtain ⟨hP, hD⟩ := pl_bk (X := [_, _, _]) hT_1 hP rfl hc9_1 hD0_1 rfl
      obtain ⟨hP9, hD9⟩ := zu_part (cx := [_, _, _]) hP hD [true, true, true] rfl rfl
      rw [hQ9]
      exact W.zret (ty := .boolean) (v := 0) hx hb hr (rfl) (fun t ht hW => ⟨⟨rfl, ul, 2, by rw [ht]; exact hP9, hD9⟩, hS.F ht⟩) hS.2.2 dX10_done_34
set_option maxHeartbeats 4000000 in
set_option maxRecDepth 100000 in
theorem k_shift_x (l : Launch) (dC : Nat → ClassId) (dI : Nat → Nat → Nat) (cI cZ cF : ClassId) (sz : Nat) (x : Nat) (sh : Nat) (lw : Nat) (ro : Nat) (bq : Nat) (bp : Nat) (dq : Nat) (dp : Nat) (lv : Nat) (sl : Nat) (sd : Int32) (ul : Int32) (su : Int32) (ds : Int32) (fa : Nat) (ft : Nat) (FA : Nat → Option Nat) (v : Int32) (kv : Int32) (dx : Int32) (dy : Int32) (nv : Int32) (h200 : ft ≤ 200) (hv : ¬ (0 ≤ v.toInt ∧ v.toInt < ((ft : Nat) : Int))) : zM l yX10_shift cX10_shift 8 (some .boolean) ({ frames := 2, cells := 0, slots := 0, locals := 42 } : Room) [.ref x, .int v, .int kv, .int dx, .int dy, .int nv] (dC, dI) (zTy cI cZ cF) [(oc8 x (.ref sh) (.ref lw) (.ref ro) (.ref bq) (.ref bp) (.ref dq) (.ref dp) (.ref lv) (.ref sl) ds sd ul su), (oc7 sh (.ref fa) (nI ft)), (oq fa cF 200 FA)] sz (some (.int 0)) (fun A t => ∃ (ul1 : Int32), ∃ (su1 : Int32), zPD (dC, dI) classes A [(oc8 x (.ref sh) (.ref lw) (.ref ro) (.ref bq) (.ref bp) (.ref dq) (.ref dp) (.ref lv) (.ref sl) ds sd ul1 su1), (oc7 sh (.ref fa) (nI ft)), (oq fa cF 200 FA)] t.heap) 0 0 := by
  refine zIn (own := "ScaleShop") (loc := [(0, .ref x), (1, .int v), (2, .int kv), (3, .int dx), (4, .int dy), (5, .int nv)]) rfl rfl rfl rfl (fun p e s m below meth c hx hb hr hts hown hlocks hml hnm9 A hA hS hP hD hK hXN Q9 hQ9 ls hl => ?_)
  refine lv_aload_n hx hb dX10_shift_0 rfl (lv_at hl 0 rfl) ?_
  refine va_get (D := (dC, dI)) (ci := 8) (v := .ref sh) (C := RX10) (T := TX10) (N := 13) hx hb hts inX10 hown hK hP 0 rfl rfl 0 (Nat.le_of_ble_eq_true rfl) (hts _ mw_309) (fun _ h9 => h9) rfl dX10_shift_1 ?_
  refine lv_iload_n hx hb dX10_shift_4 rfl (lv_at hl 1 rfl) ?_
  obtain ⟨hPc, hDc, hFc, hI1⟩ := zi_sub (wc := [_, _]) hP hD hS hA [1, 2] rfl rfl
  refine zcall (st1 := [.null]) (va_runV (As := [.int v]) (rest := []) ⟨hx, hb, hml, hown, hts⟩ (k_Sheet_find_n l dC dI cI cZ cF s.heap.size sh fa ft FA v (by first | with_reducible assumption | omega) (by first | with_reducible assumption | assumption)) (csV_94 hts rfl rfl ⟨Nat.le_of_ble_eq_true rfl, Nat.le_of_ble_eq_true rfl⟩) (zPV2 (q0 := 0) (ci := 7) hPc hDc hK hXN rfl rfl) rfl rfl hl.1 rfl (lv_room (Nat.le_of_ble_eq_true rfl)) dX10_shift_5 ⟨Nat.le_of_ble_eq_true rfl, Nat.le_of_ble_eq_true rfl⟩) hS hFc hFc rfl (fun t H locs ht hB hk1 hS => ?_)
  obtain ⟨hP1, hD1⟩ := hB
  rw [ht] at hP1
  replace hP := z0 hP hD hk1 hP1 hI1
  clear hk1 hPc hDc hFc hP1 hD1 ht hI1
  refine lv_astoreN (lv' := [(6, .null), (0, .ref x), (1, .int v), (2, .int kv), (3, .int dx), (4, .int dy), (5, .int nv)]) hx hb dX10_shift_8 hl (Nat.le_of_ble_eq_true rfl) rfl (fun ls hl => ?_)
  refine lv_aloadN hx hb dX10_shift_10 (lv_at hl 0 rfl) ?_
  refine lv_ifnullN (tgt := 24) hx hb dX10_shift_12 rfl ?_
  refine lv_aload_n hx hb dX10_shift_24 rfl (lv_at hl 1 rfl) ?_
  refine lv_iconst (v := 1) hx hb dX10_shift_25 rfl ?_
  obtain ⟨hPc, hDc, hFc⟩ := zo_sub (wc := [_]) hP hD hS hA [0] rfl rfl
  refine zcall (st1 := [.int 0]) (va_runV (As := [.int 1]) (rest := []) ⟨hx, hb, hml, hown, hts⟩ (k_deny_1 l dC dI cI cZ cF H.size x sh lw ro bq bp dq dp lv sl sd ul su ds ) (csV_96 hts rfl rfl ⟨Nat.le_of_ble_eq_true rfl, Nat.le_of_ble_eq_true rfl⟩) (zPV2 (q0 := 0) (ci := 8) hPc hDc hK hXN rfl rfl) rfl rfl hl.1 rfl (lv_room (Nat.le_of_ble_eq_true rfl)) dX10_shift_26 ⟨Nat.le_of_ble_eq_true rfl, Nat.le_of_ble_eq_true rfl⟩) hS hFc hFc rfl (fun t H locs ht hB hk1 hS => ?_)
  obtain ⟨hP1, hD1⟩ := hB
  rw [ht] at hP1
  obtain ⟨hP, hD⟩ := zn (W2 := [(oc8 x (.ref sh) (.ref lw) (.ref ro) (.ref bq) (.ref bp) (.ref dq) (.ref dp) (.ref lv) (.ref sl) ds sd ul 1), _, _]) hP hD hk1 hFc hP1 hD1 [0] [false, true, true] [false, true, true] [0] (by decide +kernel) rfl rfl rfl rfl rfl
  clear hk1 hPc hDc hFc hP1 hD1 ht
  obtain ⟨hP9, hD9⟩ := zu_sub (wc := [_, _, _]) hP hD [true, true, true] rfl rfl
  rw [hQ9]
  exact W.zret (ty := .boolean) (v := 0) hx hb hr (rfl) (fun t ht hW => ⟨⟨rfl, ul, 1, by rw [ht]; exact hP9, hD9⟩, hS.F ht⟩) hS.2.2 dX10_shift_29
set_option maxHeartbeats 4000000 in
set_option maxRecDepth 100000 in
theorem k_shift_r (l : Launch) (dC : Nat → ClassId) (dI : Nat → Nat → Nat) (cI cZ cF : ClassId) (sz : Nat) (x : Nat) (sh : Nat) (lw : Nat) (ro : Nat) (bq : Nat) (bp : Nat) (dq : Nat) (dp : Nat) (lv : Nat) (sl : Nat) (sd : Int32) (ul : Int32) (su : Int32) (ds : Int32) (fa : Nat) (ft : Nat) (FA : Nat → Option Nat) (f0 : Nat) (L : List Nat) (f : Nat → va_E) (kd : Nat → Int32) (st : Nat → Int32) (tn : Nat → Int32) (mn : Nat → Int32) (cx : Nat → Int32) (cy : Nat → Int32) (kv : Int32) (dx : Int32) (dy : Int32) (nv : Int32) (h200 : ft ≤ 200) (hf0 : f0 < ft) (hvw : ∀ q, q < ft → vwO cI L f FA kd st tn mn cx cy q) (hbad : ¬ (0 ≤ kv.toInt ∧ kv.toInt < ((nN (mn f0) : Nat) : Int) ∧ (st f0).toInt = 1 ∧ -200 ≤ dx.toInt ∧ dx.toInt ≤ 200 ∧ -200 ≤ dy.toInt ∧ dy.toInt ≤ 200 ∧ 0 ≤ nv.toInt ∧ nv.toInt ≤ 20 ∧ (tn f0).toInt = 0)) : zM l yX10_shift cX10_shift 8 (some .boolean) ({ frames := 2, cells := 0, slots := 0, locals := 42 } : Room) [.ref x, .int (nI f0), .int kv, .int dx, .int dy, .int nv] (dC, dI) (zTy cI cZ cF) ([(oc8 x (.ref sh) (.ref lw) (.ref ro) (.ref bq) (.ref bp) (.ref dq) (.ref dp) (.ref lv) (.ref sl) ds sd ul su), (oc7 sh (.ref fa) (nI ft)), (oq fa cF 200 FA)] ++ va_pl L f) sz (some (.int 0)) (fun A t => ∃ (ul1 : Int32), ∃ (su1 : Int32), zPD (dC, dI) classes A ([(oc8 x (.ref sh) (.ref lw) (.ref ro) (.ref bq) (.ref bp) (.ref dq) (.ref dp) (.ref lv) (.ref sl) ds sd ul1 su1), (oc7 sh (.ref fa) (nI ft)), (oq fa cF 200 FA)] ++ va_pl L f) t.heap) 0 0 := by
  refine zIn (own := "ScaleShop") (loc := [(0, .ref x), (1, .int (nI f0)), (2, .int kv), (3, .int dx), (4, .int dy), (5, .int nv)]) rfl rfl rfl rfl (fun p e s m below meth c hx hb hr hts hown hlocks hml hnm9 A hA hS hP hD hK hXN Q9 hQ9 ls hl => ?_)
  have e_m200 : (-200 : Int32).toInt = -200 := (by decide)
  have e_200 : (200 : Int32).toInt = 200 := (by decide)
  have e_0 : (0 : Int32).toInt = 0 := (by decide)
  have e_20 : (20 : Int32).toInt = 20 := (by decide)
  rcases vw2 (hvw f0 (show f0 < ft by omega)) with ⟨ht2, fe2, lk2, lo2, rk2, wd2, tw2, pa2, pb2, gb2, jt2, we2, fm2, hFA2, hfe2, hlk2⟩ | ⟨ht2, fe2, lk2, lo2, rk2, wd2, tw2, pa2, pb2, gb2, jt2, we2, fm2, r2, rx2, ry2, cap2, U2, V2, rg2, hFA2, hfe2, hlk2, ⟨hr2, hrx2, hry2, hne2⟩, hrr2⟩
  · skip
    have hc9_1 : inPl L f [(oc1 fe2 rk2 wd2 tw2 pa2 pb2 (.ref lo2) (.ref lk2) fm2), (oc4 lk2 (kd f0) (st f0) .null gb2 jt2 we2)] := ⟨hfe2, hlk2, trivial⟩
    have hD0_1 := hD
    obtain ⟨T_1, hT_1, hP, hD⟩ := pl_oT hP hD hc9_1 (pwF hfe2.2 hlk2.2)
    obtain ⟨hP, hD⟩ := zre (W2 := ([_, _, _, _, _] ++ va_pl T_1 f)) hP hD rfl
    refine lv_aload_n hx hb dX10_shift_0 rfl (lv_at hl 0 rfl) ?_
    refine va_get (D := (dC, dI)) (ci := 8) (v := .ref sh) (C := RX10) (T := TX10) (N := 13) hx hb hts inX10 hown hK hP 0 rfl rfl 0 (Nat.le_of_ble_eq_true rfl) (hts _ mw_309) (fun _ h9 => h9) rfl dX10_shift_1 ?_
    refine lv_iload_n hx hb dX10_shift_4 rfl (lv_at hl 1 rfl) ?_
    obtain ⟨hPc, hDc, hFc, hI1⟩ := zi_sub (wc := [_, _]) hP hD hS hA [1, 2] rfl rfl
    refine zcall (st1 := [.ref fe2]) (va_runV (As := [.int (nI f0)]) (rest := []) ⟨hx, hb, hml, hown, hts⟩ (k_Sheet_find l dC dI cI cZ cF s.heap.size sh fa ft FA f0 fe2 (by first | with_reducible assumption | omega) (by first | with_reducible assumption | omega) (hFA2)) (csV_94 hts rfl rfl ⟨Nat.le_of_ble_eq_true rfl, Nat.le_of_ble_eq_true rfl⟩) (zPV2 (q0 := 0) (ci := 7) hPc hDc hK hXN rfl rfl) rfl rfl hl.1 rfl (lv_room (Nat.le_of_ble_eq_true rfl)) dX10_shift_5 ⟨Nat.le_of_ble_eq_true rfl, Nat.le_of_ble_eq_true rfl⟩) hS hFc hFc rfl (fun t H locs ht hB hk1 hS => ?_)
    obtain ⟨hP1, hD1⟩ := hB
    rw [ht] at hP1
    replace hP := z0 hP hD hk1 hP1 hI1
    clear hk1 hPc hDc hFc hP1 hD1 ht hI1
    refine lv_astore (lv' := [(6, .ref fe2), (0, .ref x), (1, .int (nI f0)), (2, .int kv), (3, .int dx), (4, .int dy), (5, .int nv)]) hx hb dX10_shift_8 hl (Nat.le_of_ble_eq_true rfl) rfl (fun ls hl => ?_)
    refine lv_aload hx hb dX10_shift_10 (lv_at hl 0 rfl) ?_
    refine lv_ifnull hx hb dX10_shift_12 ?_
    refine lv_aload hx hb dX10_shift_15 (lv_at hl 0 rfl) ?_
    refine lv_iload_n hx hb dX10_shift_17 rfl (lv_at hl 3 rfl) ?_
    obtain ⟨hPc, hDc, hFc, hI1⟩ := zi_sub (wc := [_, _]) hP hD hS hA [3, 4] rfl rfl
    refine zcall (st1 := [.int (pI (0 ≤ kv.toInt))]) (va_runV (As := [.int kv]) (rest := []) ⟨hx, hb, hml, hown, hts⟩ (k_Feature_mayHaveCorner_vn l dC dI cI cZ cF H.size fe2 lo2 rk2 wd2 tw2 pa2 pb2 lk2 (kd f0) (st f0) gb2 jt2 we2 fm2 kv ) (csV_119 hts rfl rfl ⟨Nat.le_of_ble_eq_true rfl, Nat.le_of_ble_eq_true rfl⟩) (zPV2 (q0 := 0) (ci := 1) hPc hDc hK hXN rfl rfl) rfl rfl hl.1 rfl (lv_room (Nat.le_of_ble_eq_true rfl)) dX10_shift_18 ⟨Nat.le_of_ble_eq_true rfl, Nat.le_of_ble_eq_true rfl⟩) hS hFc hFc rfl (fun t H locs ht hB hk1 hS => ?_)
    obtain ⟨hP1, hD1⟩ := hB
    rw [ht] at hP1
    replace hP := z0 hP hD hk1 hP1 hI1
    clear hk1 hPc hDc hFc hP1 hD1 ht hI1
    refine lv_if_ne (tgt := 30) hx hb dX10_shift_21 rfl (fun c_1 => ?_) (fun c_1 => ?_)
    · have c_1 : 0 ≤ kv.toInt := zp_1 c_1
      refine lv_aload hx hb dX10_shift_30 (lv_at hl 0 rfl) ?_
      refine va_get (D := (dC, dI)) (ci := 1) (v := .ref lk2) (C := RX2) (T := TX2) (N := 8) hx hb hts inX2 hown hK hP 3 rfl rfl 6 (Nat.le_of_ble_eq_true rfl) (hts _ mw_433) (fun _ h9 => h9) rfl dX10_shift_32 ?_
      refine va_get (D := (dC, dI)) (ci := 4) (v := .int (st f0)) (C := RX5) (T := TX5) (N := 6) hx hb hts inX5 hown hK hP 4 rfl rfl 1 (Nat.le_of_ble_eq_true rfl) (hts _ mw_385) (fun _ h9 => h9) rfl dX10_shift_35 ?_
      refine lv_iconst (v := 1) hx hb dX10_shift_38 rfl ?_
      refine lv_icmp_eq (tgt := 48) hx hb dX10_shift_39 rfl (fun c_2 => ?_) (fun c_2 => ?_)
      · have c_2 : (st f0).toInt = 1 := zc_eq rfl rfl c_2
        refine lv_iload_n hx hb dX10_shift_48 rfl (lv_at hl 4 rfl) ?_
        refine lv_sipush (v := (-200)) hx hb dX10_shift_49 rfl ?_
        refine lv_sipush (v := 200) hx hb dX10_shift_52 rfl ?_
        obtain ⟨hPc, hDc, hFc, hI1⟩ := zi_sub (wc := []) hP hD hS hA [] rfl rfl
        refine zcall (st1 := [.int (pI ((-200 : Int32).toInt ≤ dx.toInt ∧ dx.toInt ≤ (200 : Int32).toInt))]) (va_runS (As := [.int dx, .int (-200), .int 200]) (rest := []) ⟨hx, hb, hml, hown, hts⟩ (k_isWithin l dC dI cI cZ cF H.size dx (-200) 200 ) (csS_14 hts rfl rfl ⟨Nat.le_of_ble_eq_true rfl, Nat.le_of_ble_eq_true rfl⟩) (zPS2 hPc hDc hK hXN) rfl rfl hl.1 rfl (lv_room (Nat.le_of_ble_eq_true rfl)) dX10_shift_55 ⟨Nat.le_of_ble_eq_true rfl, Nat.le_of_ble_eq_true rfl⟩) hS hFc hFc rfl (fun t H locs ht hB hk1 hS => ?_)
        obtain ⟨hP1, hD1⟩ := hB
        rw [ht] at hP1
        replace hP := z0 hP hD hk1 hP1 hI1
        clear hk1 hPc hDc hFc hP1 hD1 ht hI1
        refine lv_if_eq (tgt := 75) hx hb dX10_shift_58 rfl (fun c_3 => ?_) (fun c_3 => ?_)
        · have c_3 : ¬ ((-200 : Int32).toInt ≤ dx.toInt ∧ dx.toInt ≤ (200 : Int32).toInt) := zp_0 c_3
          refine lv_aload_n hx hb dX10_shift_75 rfl (lv_at hl 1 rfl) ?_
          refine lv_iconst (v := 4) hx hb dX10_shift_76 rfl ?_
          obtain ⟨hPc, hDc, hFc⟩ := zo_sub (wc := [_]) hP hD hS hA [0] rfl rfl
          refine zcall (st1 := [.int 0]) (va_runV (As := [.int 4]) (rest := []) ⟨hx, hb, hml, hown, hts⟩ (k_deny_4 l dC dI cI cZ cF H.size x sh lw ro bq bp dq dp lv sl sd ul su ds ) (csV_96 hts rfl rfl ⟨Nat.le_of_ble_eq_true rfl, Nat.le_of_ble_eq_true rfl⟩) (zPV2 (q0 := 0) (ci := 8) hPc hDc hK hXN rfl rfl) rfl rfl hl.1 rfl (lv_room (Nat.le_of_ble_eq_true rfl)) dX10_shift_77 ⟨Nat.le_of_ble_eq_true rfl, Nat.le_of_ble_eq_true rfl⟩) hS hFc hFc rfl (fun t H locs ht hB hk1 hS => ?_)
          obtain ⟨hP1, hD1⟩ := hB
          rw [ht] at hP1
          obtain ⟨hP, hD⟩ := znQ (W2 := [(oc8 x (.ref sh) (.ref lw) (.ref ro) (.ref bq) (.ref bp) (.ref dq) (.ref dp) (.ref lv) (.ref sl) ds sd ul 4), _, _, _, _]) hP hD hk1 hFc hP1 hD1 [0] [false, true, true, true, true] [false, true, true, true, true] [0] (by decide +kernel) rfl rfl rfl rfl rfl
          clear hk1 hPc hDc hFc hP1 hD1 ht
          obtain ⟨hP, hD⟩ := pl_bk (X := [_, _, _]) hT_1 hP rfl hc9_1 hD0_1 rfl
          obtain ⟨hP9, hD9⟩ := zu_part (cx := [_, _, _]) hP hD [true, true, true] rfl rfl
          rw [hQ9]
          exact W.zret (ty := .boolean) (v := 0) hx hb hr (rfl) (fun t ht hW => ⟨⟨rfl, ul, 4, by rw [ht]; exact hP9, hD9⟩, hS.F ht⟩) hS.2.2 dX10_shift_80
        · have c_3 : (-200 : Int32).toInt ≤ dx.toInt ∧ dx.toInt ≤ (200 : Int32).toInt := zp_1 c_3
          refine lv_iload hx hb dX10_shift_61 (lv_at hl 5 rfl) ?_
          refine lv_sipush (v := (-200)) hx hb dX10_shift_63 rfl ?_
          refine lv_sipush (v := 200) hx hb dX10_shift_66 rfl ?_
          obtain ⟨hPc, hDc, hFc, hI1⟩ := zi_sub (wc := []) hP hD hS hA [] rfl rfl
          refine zcall (st1 := [.int (pI ((-200 : Int32).toInt ≤ dy.toInt ∧ dy.toInt ≤ (200 : Int32).toInt))]) (va_runS (As := [.int dy, .int (-200), .int 200]) (rest := []) ⟨hx, hb, hml, hown, hts⟩ (k_isWithin l dC dI cI cZ cF H.size dy (-200) 200 ) (csS_14 hts rfl rfl ⟨Nat.le_of_ble_eq_true rfl, Nat.le_of_ble_eq_true rfl⟩) (zPS2 hPc hDc hK hXN) rfl rfl hl.1 rfl (lv_room (Nat.le_of_ble_eq_true rfl)) dX10_shift_69 ⟨Nat.le_of_ble_eq_true rfl, Nat.le_of_ble_eq_true rfl⟩) hS hFc hFc rfl (fun t H locs ht hB hk1 hS => ?_)
          obtain ⟨hP1, hD1⟩ := hB
          rw [ht] at hP1
          replace hP := z0 hP hD hk1 hP1 hI1
          clear hk1 hPc hDc hFc hP1 hD1 ht hI1
          refine lv_if_ne (tgt := 81) hx hb dX10_shift_72 rfl (fun c_4 => ?_) (fun c_4 => ?_)
          · have c_4 : (-200 : Int32).toInt ≤ dy.toInt ∧ dy.toInt ≤ (200 : Int32).toInt := zp_1 c_4
            refine lv_iload hx hb dX10_shift_81 (lv_at hl 6 rfl) ?_
            refine lv_iconst (v := 0) hx hb dX10_shift_83 rfl ?_
            refine lv_bipush (v := 20) hx hb dX10_shift_84 rfl ?_
            obtain ⟨hPc, hDc, hFc, hI1⟩ := zi_sub (wc := []) hP hD hS hA [] rfl rfl
            refine zcall (st1 := [.int (pI ((0 : Int32).toInt ≤ nv.toInt ∧ nv.toInt ≤ (20 : Int32).toInt))]) (va_runS (As := [.int nv, .int 0, .int 20]) (rest := []) ⟨hx, hb, hml, hown, hts⟩ (k_isWithin l dC dI cI cZ cF H.size nv 0 20 ) (csS_14 hts rfl rfl ⟨Nat.le_of_ble_eq_true rfl, Nat.le_of_ble_eq_true rfl⟩) (zPS2 hPc hDc hK hXN) rfl rfl hl.1 rfl (lv_room (Nat.le_of_ble_eq_true rfl)) dX10_shift_86 ⟨Nat.le_of_ble_eq_true rfl, Nat.le_of_ble_eq_true rfl⟩) hS hFc hFc rfl (fun t H locs ht hB hk1 hS => ?_)
            obtain ⟨hP1, hD1⟩ := hB
            rw [ht] at hP1
            replace hP := z0 hP hD hk1 hP1 hI1
            clear hk1 hPc hDc hFc hP1 hD1 ht hI1
            refine lv_if_ne (tgt := 98) hx hb dX10_shift_89 rfl (fun c_5 => ?_) (fun c_5 => ?_)
            · have c_5 : (0 : Int32).toInt ≤ nv.toInt ∧ nv.toInt ≤ (20 : Int32).toInt := zp_1 c_5
              refine lv_aload hx hb dX10_shift_98 (lv_at hl 0 rfl) ?_
              refine va_get (D := (dC, dI)) (ci := 1) (v := .ref lk2) (C := RX2) (T := TX2) (N := 8) hx hb hts inX2 hown hK hP 3 rfl rfl 6 (Nat.le_of_ble_eq_true rfl) (hts _ mw_433) (fun _ h9 => h9) rfl dX10_shift_100 ?_
              refine va_get (D := (dC, dI)) (ci := 4) (v := .null) (C := RX5) (T := TX5) (N := 6) hx hb hts inX5 hown hK hP 4 rfl rfl 2 (Nat.le_of_ble_eq_true rfl) (hts _ mw_391) (fun _ h9 => h9) rfl dX10_shift_103 ?_
              refine lv_astoreN (lv' := [(7, .null), (6, .ref fe2), (0, .ref x), (1, .int (nI f0)), (2, .int kv), (3, .int dx), (4, .int dy), (5, .int nv)]) hx hb dX10_shift_106 hl (Nat.le_of_ble_eq_true rfl) rfl (fun ls hl => ?_)
              refine lv_aloadN hx hb dX10_shift_108 (lv_at hl 0 rfl) ?_
              refine lv_ifnonnullN hx hb dX10_shift_110 ?_
              refine lv_aload_n hx hb dX10_shift_113 rfl (lv_at hl 2 rfl) ?_
              refine lv_iconst (v := 5) hx hb dX10_shift_114 rfl ?_
              obtain ⟨hPc, hDc, hFc⟩ := zo_sub (wc := [_]) hP hD hS hA [0] rfl rfl
              refine zcall (st1 := [.int 0]) (va_runV (As := [.int 5]) (rest := []) ⟨hx, hb, hml, hown, hts⟩ (k_deny_5 l dC dI cI cZ cF H.size x sh lw ro bq bp dq dp lv sl sd ul su ds ) (csV_96 hts rfl rfl ⟨Nat.le_of_ble_eq_true rfl, Nat.le_of_ble_eq_true rfl⟩) (zPV2 (q0 := 0) (ci := 8) hPc hDc hK hXN rfl rfl) rfl rfl hl.1 rfl (lv_room (Nat.le_of_ble_eq_true rfl)) dX10_shift_115 ⟨Nat.le_of_ble_eq_true rfl, Nat.le_of_ble_eq_true rfl⟩) hS hFc hFc rfl (fun t H locs ht hB hk1 hS => ?_)
              obtain ⟨hP1, hD1⟩ := hB
              rw [ht] at hP1
              obtain ⟨hP, hD⟩ := znQ (W2 := [(oc8 x (.ref sh) (.ref lw) (.ref ro) (.ref bq) (.ref bp) (.ref dq) (.ref dp) (.ref lv) (.ref sl) ds sd ul 5), _, _, _, _]) hP hD hk1 hFc hP1 hD1 [0] [false, true, true, true, true] [false, true, true, true, true] [0] (by decide +kernel) rfl rfl rfl rfl rfl
              clear hk1 hPc hDc hFc hP1 hD1 ht
              obtain ⟨hP, hD⟩ := pl_bk (X := [_, _, _]) hT_1 hP rfl hc9_1 hD0_1 rfl
              obtain ⟨hP9, hD9⟩ := zu_part (cx := [_, _, _]) hP hD [true, true, true] rfl rfl
              rw [hQ9]
              exact W.zret (ty := .boolean) (v := 0) hx hb hr (rfl) (fun t ht hW => ⟨⟨rfl, ul, 5, by rw [ht]; exact hP9, hD9⟩, hS.F ht⟩) hS.2.2 dX10_shift_118
            · have c_5 : ¬ ((0 : Int32).toInt ≤ nv.toInt ∧ nv.toInt ≤ (20 : Int32).toInt) := zp_0 c_5
              refine lv_aload_n hx hb dX10_shift_92 rfl (lv_at hl 1 rfl) ?_
              refine lv_iconst (v := 4) hx hb dX10_shift_93 rfl ?_
              obtain ⟨hPc, hDc, hFc⟩ := zo_sub (wc := [_]) hP hD hS hA [0] rfl rfl
              refine zcall (st1 := [.int 0]) (va_runV (As := [.int 4]) (rest := []) ⟨hx, hb, hml, hown, hts⟩ (k_deny_4 l dC dI cI cZ cF H.size x sh lw ro bq bp dq dp lv sl sd ul su ds ) (csV_96 hts rfl rfl ⟨Nat.le_of_ble_eq_true rfl, Nat.le_of_ble_eq_true rfl⟩) (zPV2 (q0 := 0) (ci := 8) hPc hDc hK hXN rfl rfl) rfl rfl hl.1 rfl (lv_room (Nat.le_of_ble_eq_true rfl)) dX10_shift_94 ⟨Nat.le_of_ble_eq_true rfl, Nat.le_of_ble_eq_true rfl⟩) hS hFc hFc rfl (fun t H locs ht hB hk1 hS => ?_)
              obtain ⟨hP1, hD1⟩ := hB
              rw [ht] at hP1
              obtain ⟨hP, hD⟩ := znQ (W2 := [(oc8 x (.ref sh) (.ref lw) (.ref ro) (.ref bq) (.ref bp) (.ref dq) (.ref dp) (.ref lv) (.ref sl) ds sd ul 4), _, _, _, _]) hP hD hk1 hFc hP1 hD1 [0] [false, true, true, true, true] [false, true, true, true, true] [0] (by decide +kernel) rfl rfl rfl rfl rfl
              clear hk1 hPc hDc hFc hP1 hD1 ht
              obtain ⟨hP, hD⟩ := pl_bk (X := [_, _, _]) hT_1 hP rfl hc9_1 hD0_1 rfl
              obtain ⟨hP9, hD9⟩ := zu_part (cx := [_, _, _]) hP hD [true, true, true] rfl rfl
              rw [hQ9]
              exact W.zret (ty := .boolean) (v := 0) hx hb hr (rfl) (fun t ht hW => ⟨⟨rfl, ul, 4, by rw [ht]; exact hP9, hD9⟩, hS.F ht⟩) hS.2.2 dX10_shift_97
          · have c_4 : ¬ ((-200 : Int32).toInt ≤ dy.toInt ∧ dy.toInt ≤ (200 : Int32).toInt) := zp_0 c_4
            refine lv_aload_n hx hb dX10_shift_75 rfl (lv_at hl 1 rfl) ?_
            refine lv_iconst (v := 4) hx hb dX10_shift_76 rfl ?_
            obtain ⟨hPc, hDc, hFc⟩ := zo_sub (wc := [_]) hP hD hS hA [0] rfl rfl
            refine zcall (st1 := [.int 0]) (va_runV (As := [.int 4]) (rest := []) ⟨hx, hb, hml, hown, hts⟩ (k_deny_4 l dC dI cI cZ cF H.size x sh lw ro bq bp dq dp lv sl sd ul su ds ) (csV_96 hts rfl rfl ⟨Nat.le_of_ble_eq_true rfl, Nat.le_of_ble_eq_true rfl⟩) (zPV2 (q0 := 0) (ci := 8) hPc hDc hK hXN rfl rfl) rfl rfl hl.1 rfl (lv_room (Nat.le_of_ble_eq_true rfl)) dX10_shift_77 ⟨Nat.le_of_ble_eq_true rfl, Nat.le_of_ble_eq_true rfl⟩) hS hFc hFc rfl (fun t H locs ht hB hk1 hS => ?_)
            obtain ⟨hP1, hD1⟩ := hB
            rw [ht] at hP1
            obtain ⟨hP, hD⟩ := znQ (W2 := [(oc8 x (.ref sh) (.ref lw) (.ref ro) (.ref bq) (.ref bp) (.ref dq) (.ref dp) (.ref lv) (.ref sl) ds sd ul 4), _, _, _, _]) hP hD hk1 hFc hP1 hD1 [0] [false, true, true, true, true] [false, true, true, true, true] [0] (by decide +kernel) rfl rfl rfl rfl rfl
            clear hk1 hPc hDc hFc hP1 hD1 ht
            obtain ⟨hP, hD⟩ := pl_bk (X := [_, _, _]) hT_1 hP rfl hc9_1 hD0_1 rfl
            obtain ⟨hP9, hD9⟩ := zu_part (cx := [_, _, _]) hP hD [true, true, true] rfl rfl
            rw [hQ9]
            exact W.zret (ty := .boolean) (v := 0) hx hb hr (rfl) (fun t ht hW => ⟨⟨rfl, ul, 4, by rw [ht]; exact hP9, hD9⟩, hS.F ht⟩) hS.2.2 dX10_shift_80
      · have c_2 : ¬ (st f0).toInt = 1 := zc_ne rfl rfl c_2
        refine lv_aload_n hx hb dX10_shift_42 rfl (lv_at hl 1 rfl) ?_
        refine lv_iconst (v := 2) hx hb dX10_shift_43 rfl ?_
        obtain ⟨hPc, hDc, hFc⟩ := zo_sub (wc := [_]) hP hD hS hA [0] rfl rfl
        refine zcall (st1 := [.int 0]) (va_runV (As := [.int 2]) (rest := []) ⟨hx, hb, hml, hown, hts⟩ (k_deny_2 l dC dI cI cZ cF H.size x sh lw ro bq bp dq dp lv sl sd ul su ds ) (csV_96 hts rfl rfl ⟨Nat.le_of_ble_eq_true rfl, Nat.le_of_ble_eq_true rfl⟩) (zPV2 (q0 := 0) (ci := 8) hPc hDc hK hXN rfl rfl) rfl rfl hl.1 rfl (lv_room (Nat.le_of_ble_eq_true rfl)) dX10_shift_44 ⟨Nat.le_of_ble_eq_true rfl, Nat.le_of_ble_eq_true rfl⟩) hS hFc hFc rfl (fun t H locs ht hB hk1 hS => ?_)
        obtain ⟨hP1, hD1⟩ := hB
        rw [ht] at hP1
        obtain ⟨hP, hD⟩ := znQ (W2 := [(oc8 x (.ref sh) (.ref lw) (.ref ro) (.ref bq) (.ref bp) (.ref dq) (.ref dp) (.ref lv) (.ref sl) ds sd ul 2), _, _, _, _]) hP hD hk1 hFc hP1 hD1 [0] [false, true, true, true, true] [false, true, true, true, true] [0] (by decide +kernel) rfl rfl rfl rfl rfl
        clear hk1 hPc hDc hFc hP1 hD1 ht
        obtain ⟨hP, hD⟩ := pl_bk (X := [_, _, _]) hT_1 hP rfl hc9_1 hD0_1 rfl
        obtain ⟨hP9, hD9⟩ := zu_part (cx := [_, _, _]) hP hD [true, true, true] rfl rfl
        rw [hQ9]
        exact W.zret (ty := .boolean) (v := 0) hx hb hr (rfl) (fun t ht hW => ⟨⟨rfl, ul, 2, by rw [ht]; exact hP9, hD9⟩, hS.F ht⟩) hS.2.2 dX10_shift_47
    · have c_1 : ¬ (0 ≤ kv.toInt) := zp_0 c_1
      refine lv_aload_n hx hb dX10_shift_24 rfl (lv_at hl 1 rfl) ?_
      refine lv_iconst (v := 1) hx hb dX10_shift_25 rfl ?_
      obtain ⟨hPc, hDc, hFc⟩ := zo_sub (wc := [_]) hP hD hS hA [0] rfl rfl
      refine zcall (st1 := [.int 0]) (va_runV (As := [.int 1]) (rest := []) ⟨hx, hb, hml, hown, hts⟩ (k_deny_1 l dC dI cI cZ cF H.size x sh lw ro bq bp dq dp lv sl sd ul su ds ) (csV_96 hts rfl rfl ⟨Nat.le_of_ble_eq_true rfl, Nat.le_of_ble_eq_true rfl⟩) (zPV2 (q0 := 0) (ci := 8) hPc hDc hK hXN rfl rfl) rfl rfl hl.1 rfl (lv_room (Nat.le_of_ble_eq_true rfl)) dX10_shift_26 ⟨Nat.le_of_ble_eq_true rfl, Nat.le_of_ble_eq_true rfl⟩) hS hFc hFc rfl (fun t H locs ht hB hk1 hS => ?_)
      obtain ⟨hP1, hD1⟩ := hB
      rw [ht] at hP1
      obtain ⟨hP, hD⟩ := znQ (W2 := [(oc8 x (.ref sh) (.ref lw) (.ref ro) (.ref bq) (.ref bp) (.ref dq) (.ref dp) (.ref lv) (.ref sl) ds sd ul 1), _, _, _, _]) hP hD hk1 hFc hP1 hD1 [0] [false, true, true, true, true] [false, true, true, true, true] [0] (by decide +kernel) rfl rfl rfl rfl rfl
      clear hk1 hPc hDc hFc hP1 hD1 ht
      obtain ⟨hP, hD⟩ := pl_bk (X := [_, _, _]) hT_1 hP rfl hc9_1 hD0_1 rfl
      obtain ⟨hP9, hD9⟩ := zu_part (cx := [_, _, _]) hP hD [true, true, true] rfl rfl
      rw [hQ9]
      exact W.zret (ty := .boolean) (v := 0) hx hb hr (rfl) (fun t ht hW => ⟨⟨rfl, ul, 1, by rw [ht]; exact hP9, hD9⟩, hS.F ht⟩) hS.2.2 dX10_shift_29
  · skip
    have hcap2 := hrr2.1
    have hcap3 := hrr2.2.1
    have hc9_1 : inPl L f [(oc1 fe2 rk2 wd2 tw2 pa2 pb2 (.ref lo2) (.ref lk2) fm2), (oc4 lk2 (kd f0) (st f0) (.ref r2) gb2 jt2 we2), (oc6 r2 (.ref rx2) (.ref ry2) (nI (nN (mn f0))) rg2), (oa rx2 cI cap2 U2), (oa ry2 cI cap2 V2)] := ⟨hfe2, hlk2, hr2, hrx2, hry2, trivial⟩
    have hD0_1 := hD
    obtain ⟨T_1, hT_1, hP, hD⟩ := pl_oT hP hD hc9_1 (pwR hfe2.2 hlk2.2 hr2.2 hrx2.2 hry2.2 hne2)
    obtain ⟨hP, hD⟩ := zre (W2 := ([_, _, _, _, _, _, _, _] ++ va_pl T_1 f)) hP hD rfl
    refine lv_aload_n hx hb dX10_shift_0 rfl (lv_at hl 0 rfl) ?_
    refine va_get (D := (dC, dI)) (ci := 8) (v := .ref sh) (C := RX10) (T := TX10) (N := 13) hx hb hts inX10 hown hK hP 0 rfl rfl 0 (Nat.le_of_ble_eq_true rfl) (hts _ mw_309) (fun _ h9 => h9) rfl dX10_shift_1 ?_
    refine lv_iload_n hx hb dX10_shift_4 rfl (lv_at hl 1 rfl) ?_
    obtain ⟨hPc, hDc, hFc, hI1⟩ := zi_sub (wc := [_, _]) hP hD hS hA [1, 2] rfl rfl
    refine zcall (st1 := [.ref fe2]) (va_runV (As := [.int (nI f0)]) (rest := []) ⟨hx, hb, hml, hown, hts⟩ (k_Sheet_find l dC dI cI cZ cF s.heap.size sh fa ft FA f0 fe2 (by first | with_reducible assumption | omega) (by first | with_reducible assumption | omega) (hFA2)) (csV_94 hts rfl rfl ⟨Nat.le_of_ble_eq_true rfl, Nat.le_of_ble_eq_true rfl⟩) (zPV2 (q0 := 0) (ci := 7) hPc hDc hK hXN rfl rfl) rfl rfl hl.1 rfl (lv_room (Nat.le_of_ble_eq_true rfl)) dX10_shift_5 ⟨Nat.le_of_ble_eq_true rfl, Nat.le_of_ble_eq_true rfl⟩) hS hFc hFc rfl (fun t H locs ht hB hk1 hS => ?_)
    obtain ⟨hP1, hD1⟩ := hB
    rw [ht] at hP1
    replace hP := z0 hP hD hk1 hP1 hI1
    clear hk1 hPc hDc hFc hP1 hD1 ht hI1
    refine lv_astore (lv' := [(6, .ref fe2), (0, .ref x), (1, .int (nI f0)), (2, .int kv), (3, .int dx), (4, .int dy), (5, .int nv)]) hx hb dX10_shift_8 hl (Nat.le_of_ble_eq_true rfl) rfl (fun ls hl => ?_)
    refine lv_aload hx hb dX10_shift_10 (lv_at hl 0 rfl) ?_
    refine lv_ifnull hx hb dX10_shift_12 ?_
    refine lv_aload hx hb dX10_shift_15 (lv_at hl 0 rfl) ?_
    refine lv_iload_n hx hb dX10_shift_17 rfl (lv_at hl 3 rfl) ?_
    obtain ⟨hPc, hDc, hFc, hI1⟩ := zi_sub (wc := [_, _, _]) hP hD hS hA [3, 4, 5] rfl rfl
    refine zcall (st1 := [.int (pI (0 ≤ kv.toInt ∧ kv.toInt < (((nN (mn f0)) : Nat) : Int)))]) (va_runV (As := [.int kv]) (rest := []) ⟨hx, hb, hml, hown, hts⟩ (k_Feature_mayHaveCorner_vr l dC dI cI cZ cF H.size fe2 lo2 rk2 wd2 tw2 pa2 pb2 lk2 (kd f0) (st f0) gb2 jt2 we2 r2 rx2 ry2 (nN (mn f0)) fm2 kv rg2 (by first | with_reducible assumption | omega)) (csV_119 hts rfl rfl ⟨Nat.le_of_ble_eq_true rfl, Nat.le_of_ble_eq_true rfl⟩) (zPV2 (q0 := 0) (ci := 1) hPc hDc hK hXN rfl rfl) rfl rfl hl.1 rfl (lv_room (Nat.le_of_ble_eq_true rfl)) dX10_shift_18 ⟨Nat.le_of_ble_eq_true rfl, Nat.le_of_ble_eq_true rfl⟩) hS hFc hFc rfl (fun t H locs ht hB hk1 hS => ?_)
    obtain ⟨hP1, hD1⟩ := hB
    rw [ht] at hP1
    replace hP := z0 hP hD hk1 hP1 hI1
    clear hk1 hPc hDc hFc hP1 hD1 ht hI1
    refine lv_if_ne (tgt := 30) hx hb dX10_shift_21 rfl (fun c_6 => ?_) (fun c_6 => ?_)
    · have c_6 : 0 ≤ kv.toInt ∧ kv.toInt < (((nN (mn f0)) : Nat) : Int) := zp_1 c_6
      refine lv_aload hx hb dX10_shift_30 (lv_at hl 0 rfl) ?_
      refine va_get (D := (dC, dI)) (ci := 1) (v := .ref lk2) (C := RX2) (T := TX2) (N := 8) hx hb hts inX2 hown hK hP 3 rfl rfl 6 (Nat.le_of_ble_eq_true rfl) (hts _ mw_433) (fun _ h9 => h9) rfl dX10_shift_32 ?_
      refine va_get (D := (dC, dI)) (ci := 4) (v := .int (st f0)) (C := RX5) (T := TX5) (N := 6) hx hb hts inX5 hown hK hP 4 rfl rfl 1 (Nat.le_of_ble_eq_true rfl) (hts _ mw_385) (fun _ h9 => h9) rfl dX10_shift_35 ?_
      refine lv_iconst (v := 1) hx hb dX10_shift_38 rfl ?_
      refine lv_icmp_eq (tgt := 48) hx hb dX10_shift_39 rfl (fun c_7 => ?_) (fun c_7 => ?_)
      · have c_7 : (st f0).toInt = 1 := zc_eq rfl rfl c_7
        refine lv_iload_n hx hb dX10_shift_48 rfl (lv_at hl 4 rfl) ?_
        refine lv_sipush (v := (-200)) hx hb dX10_shift_49 rfl ?_
        refine lv_sipush (v := 200) hx hb dX10_shift_52 rfl ?_
        obtain ⟨hPc, hDc, hFc, hI1⟩ := zi_sub (wc := []) hP hD hS hA [] rfl rfl
        refine zcall (st1 := [.int (pI ((-200 : Int32).toInt ≤ dx.toInt ∧ dx.toInt ≤ (200 : Int32).toInt))]) (va_runS (As := [.int dx, .int (-200), .int 200]) (rest := []) ⟨hx, hb, hml, hown, hts⟩ (k_isWithin l dC dI cI cZ cF H.size dx (-200) 200 ) (csS_14 hts rfl rfl ⟨Nat.le_of_ble_eq_true rfl, Nat.le_of_ble_eq_true rfl⟩) (zPS2 hPc hDc hK hXN) rfl rfl hl.1 rfl (lv_room (Nat.le_of_ble_eq_true rfl)) dX10_shift_55 ⟨Nat.le_of_ble_eq_true rfl, Nat.le_of_ble_eq_true rfl⟩) hS hFc hFc rfl (fun t H locs ht hB hk1 hS => ?_)
        obtain ⟨hP1, hD1⟩ := hB
        rw [ht] at hP1
        replace hP := z0 hP hD hk1 hP1 hI1
        clear hk1 hPc hDc hFc hP1 hD1 ht hI1
        refine lv_if_eq (tgt := 75) hx hb dX10_shift_58 rfl (fun c_8 => ?_) (fun c_8 => ?_)
        · have c_8 : ¬ ((-200 : Int32).toInt ≤ dx.toInt ∧ dx.toInt ≤ (200 : Int32).toInt) := zp_0 c_8
          refine lv_aload_n hx hb dX10_shift_75 rfl (lv_at hl 1 rfl) ?_
          refine lv_iconst (v := 4) hx hb dX10_shift_76 rfl ?_
          obtain ⟨hPc, hDc, hFc⟩ := zo_sub (wc := [_]) hP hD hS hA [0] rfl rfl
          refine zcall (st1 := [.int 0]) (va_runV (As := [.int 4]) (rest := []) ⟨hx, hb, hml, hown, hts⟩ (k_deny_4 l dC dI cI cZ cF H.size x sh lw ro bq bp dq dp lv sl sd ul su ds ) (csV_96 hts rfl rfl ⟨Nat.le_of_ble_eq_true rfl, Nat.le_of_ble_eq_true rfl⟩) (zPV2 (q0 := 0) (ci := 8) hPc hDc hK hXN rfl rfl) rfl rfl hl.1 rfl (lv_room (Nat.le_of_ble_eq_true rfl)) dX10_shift_77 ⟨Nat.le_of_ble_eq_true rfl, Nat.le_of_ble_eq_true rfl⟩) hS hFc hFc rfl (fun t H locs ht hB hk1 hS => ?_)
          obtain ⟨hP1, hD1⟩ := hB
          rw [ht] at hP1
          obtain ⟨hP, hD⟩ := znQ (W2 := [(oc8 x (.ref sh) (.ref lw) (.ref ro) (.ref bq) (.ref bp) (.ref dq) (.ref dp) (.ref lv) (.ref sl) ds sd ul 4), _, _, _, _, _, _, _]) hP hD hk1 hFc hP1 hD1 [0] zl_54 zl_54 [0] (by decide +kernel) rfl rfl rfl rfl rfl
          clear hk1 hPc hDc hFc hP1 hD1 ht
          obtain ⟨hP, hD⟩ := pl_bk (X := [_, _, _]) hT_1 hP rfl hc9_1 hD0_1 rfl
          obtain ⟨hP9, hD9⟩ := zu_part (cx := [_, _, _]) hP hD [true, true, true] rfl rfl
          rw [hQ9]
          exact W.zret (ty := .boolean) (v := 0) hx hb hr (rfl) (fun t ht hW => ⟨⟨rfl, ul, 4, by rw [ht]; exact hP9, hD9⟩, hS.F ht⟩) hS.2.2 dX10_shift_80
        · have c_8 : (-200 : Int32).toInt ≤ dx.toInt ∧ dx.toInt ≤ (200 : Int32).toInt := zp_1 c_8
          refine lv_iload hx hb dX10_shift_61 (lv_at hl 5 rfl) ?_
          refine lv_sipush (v := (-200)) hx hb dX10_shift_63 rfl ?_
          refine lv_sipush (v := 200) hx hb dX10_shift_66 rfl ?_
          obtain ⟨hPc, hDc, hFc, hI1⟩ := zi_sub (wc := []) hP hD hS hA [] rfl rfl
          refine zcall (st1 := [.int (pI ((-200 : Int32).toInt ≤ dy.toInt ∧ dy.toInt ≤ (200 : Int32).toInt))]) (va_runS (As := [.int dy, .int (-200), .int 200]) (rest := []) ⟨hx, hb, hml, hown, hts⟩ (k_isWithin l dC dI cI cZ cF H.size dy (-200) 200 ) (csS_14 hts rfl rfl ⟨Nat.le_of_ble_eq_true rfl, Nat.le_of_ble_eq_true rfl⟩) (zPS2 hPc hDc hK hXN) rfl rfl hl.1 rfl (lv_room (Nat.le_of_ble_eq_true rfl)) dX10_shift_69 ⟨Nat.le_of_ble_eq_true rfl, Nat.le_of_ble_eq_true rfl⟩) hS hFc hFc rfl (fun t H locs ht hB hk1 hS => ?_)
          obtain ⟨hP1, hD1⟩ := hB
          rw [ht] at hP1
          replace hP := z0 hP hD hk1 hP1 hI1
          clear hk1 hPc hDc hFc hP1 hD1 ht hI1
          refine lv_if_ne (tgt := 81) hx hb dX10_shift_72 rfl (fun c_9 => ?_) (fun c_9 => ?_)
          · have c_9 : (-200 : Int32).toInt ≤ dy.toInt ∧ dy.toInt ≤ (200 : Int32).toInt := zp_1 c_9
            refine lv_iload hx hb dX10_shift_81 (lv_at hl 6 rfl) ?_
            refine lv_iconst (v := 0) hx hb dX10_shift_83 rfl ?_
            refine lv_bipush (v := 20) hx hb dX10_shift_84 rfl ?_
            obtain ⟨hPc, hDc, hFc, hI1⟩ := zi_sub (wc := []) hP hD hS hA [] rfl rfl
            refine zcall (st1 := [.int (pI ((0 : Int32).toInt ≤ nv.toInt ∧ nv.toInt ≤ (20 : Int32).toInt))]) (va_runS (As := [.int nv, .int 0, .int 20]) (rest := []) ⟨hx, hb, hml, hown, hts⟩ (k_isWithin l dC dI cI cZ cF H.size nv 0 20 ) (csS_14 hts rfl rfl ⟨Nat.le_of_ble_eq_true rfl, Nat.le_of_ble_eq_true rfl⟩) (zPS2 hPc hDc hK hXN) rfl rfl hl.1 rfl (lv_room (Nat.le_of_ble_eq_true rfl)) dX10_shift_86 ⟨Nat.le_of_ble_eq_true rfl, Nat.le_of_ble_eq_true rfl⟩) hS hFc hFc rfl (fun t H locs ht hB hk1 hS => ?_)
            obtain ⟨hP1, hD1⟩ := hB
            rw [ht] at hP1
            replace hP := z0 hP hD hk1 hP1 hI1
            clear hk1 hPc hDc hFc hP1 hD1 ht hI1
            refine lv_if_ne (tgt := 98) hx hb dX10_shift_89 rfl (fun c_10 => ?_) (fun c_10 => ?_)
            · have c_10 : (0 : Int32).toInt ≤ nv.toInt ∧ nv.toInt ≤ (20 : Int32).toInt := zp_1 c_10
              refine lv_aload hx hb dX10_shift_98 (lv_at hl 0 rfl) ?_
              refine va_get (D := (dC, dI)) (ci := 1) (v := .ref lk2) (C := RX2) (T := TX2) (N := 8) hx hb hts inX2 hown hK hP 3 rfl rfl 6 (Nat.le_of_ble_eq_true rfl) (hts _ mw_433) (fun _ h9 => h9) rfl dX10_shift_100 ?_
              refine va_get (D := (dC, dI)) (ci := 4) (v := .ref r2) (C := RX5) (T := TX5) (N := 6) hx hb hts inX5 hown hK hP 4 rfl rfl 2 (Nat.le_of_ble_eq_true rfl) (hts _ mw_391) (fun _ h9 => h9) rfl dX10_shift_103 ?_
              refine lv_astore (lv' := [(7, .ref r2), (6, .ref fe2), (0, .ref x), (1, .int (nI f0)), (2, .int kv), (3, .int dx), (4, .int dy), (5, .int nv)]) hx hb dX10_shift_106 hl (Nat.le_of_ble_eq_true rfl) rfl (fun ls hl => ?_)
              refine lv_aload hx hb dX10_shift_108 (lv_at hl 0 rfl) ?_
              refine lv_ifnonnull (tgt := 119) hx hb dX10_shift_110 rfl ?_
              exfalso; omega
            · have c_10 : ¬ ((0 : Int32).toInt ≤ nv.toInt ∧ nv.toInt ≤ (20 : Int32).toInt) := zp_0 c_10
              refine lv_aload_n hx hb dX10_shift_92 rfl (lv_at hl 1 rfl) ?_
              refine lv_iconst (v := 4) hx hb dX10_shift_93 rfl ?_
              obtain ⟨hPc, hDc, hFc⟩ := zo_sub (wc := [_]) hP hD hS hA [0] rfl rfl
              refine zcall (st1 := [.int 0]) (va_runV (As := [.int 4]) (rest := []) ⟨hx, hb, hml, hown, hts⟩ (k_deny_4 l dC dI cI cZ cF H.size x sh lw ro bq bp dq dp lv sl sd ul su ds ) (csV_96 hts rfl rfl ⟨Nat.le_of_ble_eq_true rfl, Nat.le_of_ble_eq_true rfl⟩) (zPV2 (q0 := 0) (ci := 8) hPc hDc hK hXN rfl rfl) rfl rfl hl.1 rfl (lv_room (Nat.le_of_ble_eq_true rfl)) dX10_shift_94 ⟨Nat.le_of_ble_eq_true rfl, Nat.le_of_ble_eq_true rfl⟩) hS hFc hFc rfl (fun t H locs ht hB hk1 hS => ?_)
              obtain ⟨hP1, hD1⟩ := hB
              rw [ht] at hP1
              obtain ⟨hP, hD⟩ := znQ (W2 := [(oc8 x (.ref sh) (.ref lw) (.ref ro) (.ref bq) (.ref bp) (.ref dq) (.ref dp) (.ref lv) (.ref sl) ds sd ul 4), _, _, _, _, _, _, _]) hP hD hk1 hFc hP1 hD1 [0] zl_54 zl_54 [0] (by decide +kernel) rfl rfl rfl rfl rfl
              clear hk1 hPc hDc hFc hP1 hD1 ht
              obtain ⟨hP, hD⟩ := pl_bk (X := [_, _, _]) hT_1 hP rfl hc9_1 hD0_1 rfl
              obtain ⟨hP9, hD9⟩ := zu_part (cx := [_, _, _]) hP hD [true, true, true] rfl rfl
              rw [hQ9]
              exact W.zret (ty := .boolean) (v := 0) hx hb hr (rfl) (fun t ht hW => ⟨⟨rfl, ul, 4, by rw [ht]; exact hP9, hD9⟩, hS.F ht⟩) hS.2.2 dX10_shift_97
          · have c_9 : ¬ ((-200 : Int32).toInt ≤ dy.toInt ∧ dy.toInt ≤ (200 : Int32).toInt) := zp_0 c_9
            refine lv_aload_n hx hb dX10_shift_75 rfl (lv_at hl 1 rfl) ?_
            refine lv_iconst (v := 4) hx hb dX10_shift_76 rfl ?_
            obtain ⟨hPc, hDc, hFc⟩ := zo_sub (wc := [_]) hP hD hS hA [0] rfl rfl
            refine zcall (st1 := [.int 0]) (va_runV (As := [.int 4]) (rest := []) ⟨hx, hb, hml, hown, hts⟩ (k_deny_4 l dC dI cI cZ cF H.size x sh lw ro bq bp dq dp lv sl sd ul su ds ) (csV_96 hts rfl rfl ⟨Nat.le_of_ble_eq_true rfl, Nat.le_of_ble_eq_true rfl⟩) (zPV2 (q0 := 0) (ci := 8) hPc hDc hK hXN rfl rfl) rfl rfl hl.1 rfl (lv_room (Nat.le_of_ble_eq_true rfl)) dX10_shift_77 ⟨Nat.le_of_ble_eq_true rfl, Nat.le_of_ble_eq_true rfl⟩) hS hFc hFc rfl (fun t H locs ht hB hk1 hS => ?_)
            obtain ⟨hP1, hD1⟩ := hB
            rw [ht] at hP1
            obtain ⟨hP, hD⟩ := znQ (W2 := [(oc8 x (.ref sh) (.ref lw) (.ref ro) (.ref bq) (.ref bp) (.ref dq) (.ref dp) (.ref lv) (.ref sl) ds sd ul 4), _, _, _, _, _, _, _]) hP hD hk1 hFc hP1 hD1 [0] zl_54 zl_54 [0] (by decide +kernel) rfl rfl rfl rfl rfl
            clear hk1 hPc hDc hFc hP1 hD1 ht
            obtain ⟨hP, hD⟩ := pl_bk (X := [_, _, _]) hT_1 hP rfl hc9_1 hD0_1 rfl
            obtain ⟨hP9, hD9⟩ := zu_part (cx := [_, _, _]) hP hD [true, true, true] rfl rfl
            rw [hQ9]
            exact W.zret (ty := .boolean) (v := 0) hx hb hr (rfl) (fun t ht hW => ⟨⟨rfl, ul, 4, by rw [ht]; exact hP9, hD9⟩, hS.F ht⟩) hS.2.2 dX10_shift_80
      · have c_7 : ¬ (st f0).toInt = 1 := zc_ne rfl rfl c_7
        refine lv_aload_n hx hb dX10_shift_42 rfl (lv_at hl 1 rfl) ?_
        refine lv_iconst (v := 2) hx hb dX10_shift_43 rfl ?_
        obtain ⟨hPc, hDc, hFc⟩ := zo_sub (wc := [_]) hP hD hS hA [0] rfl rfl
        refine zcall (st1 := [.int 0]) (va_runV (As := [.int 2]) (rest := []) ⟨hx, hb, hml, hown, hts⟩ (k_deny_2 l dC dI cI cZ cF H.size x sh lw ro bq bp dq dp lv sl sd ul su ds ) (csV_96 hts rfl rfl ⟨Nat.le_of_ble_eq_true rfl, Nat.le_of_ble_eq_true rfl⟩) (zPV2 (q0 := 0) (ci := 8) hPc hDc hK hXN rfl rfl) rfl rfl hl.1 rfl (lv_room (Nat.le_of_ble_eq_true rfl)) dX10_shift_44 ⟨Nat.le_of_ble_eq_true rfl, Nat.le_of_ble_eq_true rfl⟩) hS hFc hFc rfl (fun t H locs ht hB hk1 hS => ?_)
        obtain ⟨hP1, hD1⟩ := hB
        rw [ht] at hP1
        obtain ⟨hP, hD⟩ := znQ (W2 := [(oc8 x (.ref sh) (.ref lw) (.ref ro) (.ref bq) (.ref bp) (.ref dq) (.ref dp) (.ref lv) (.ref sl) ds sd ul 2), _, _, _, _, _, _, _]) hP hD hk1 hFc hP1 hD1 [0] zl_54 zl_54 [0] (by decide +kernel) rfl rfl rfl rfl rfl
        clear hk1 hPc hDc hFc hP1 hD1 ht
        obtain ⟨hP, hD⟩ := pl_bk (X := [_, _, _]) hT_1 hP rfl hc9_1 hD0_1 rfl
        obtain ⟨hP9, hD9⟩ := zu_part (cx := [_, _, _]) hP hD [true, true, true] rfl rfl
        rw [hQ9]
        exact W.zret (ty := .boolean) (v := 0) hx hb hr (rfl) (fun t ht hW => ⟨⟨rfl, ul, 2, by rw [ht]; exact hP9, hD9⟩, hS.F ht⟩) hS.2.2 dX10_shift_47
    · have c_6 : ¬ (0 ≤ kv.toInt ∧ kv.toInt < (((nN (mn f0)) : Nat) : Int)) := zp_0 c_6
      refine lv_aload_n hx hb dX10_shift_24 rfl (lv_at hl 1 rfl) ?_
      refine lv_iconst (v := 1) hx hb dX10_shift_25 rfl ?_
      obtain ⟨hPc, hDc, hFc⟩ := zo_sub (wc := [_]) hP hD hS hA [0] rfl rfl
      refine zcall (st1 := [.int 0]) (va_runV (As := [.int 1]) (rest := []) ⟨hx, hb, hml, hown, hts⟩ (k_deny_1 l dC dI cI cZ cF H.size x sh lw ro bq bp dq dp lv sl sd ul su ds ) (csV_96 hts rfl rfl ⟨Nat.le_of_ble_eq_true rfl, Nat.le_of_ble_eq_true rfl⟩) (zPV2 (q0 := 0) (ci := 8) hPc hDc hK hXN rfl rfl) rfl rfl hl.1 rfl (lv_room (Nat.le_of_ble_eq_true rfl)) dX10_shift_26 ⟨Nat.le_of_ble_eq_true rfl, Nat.le_of_ble_eq_true rfl⟩) hS hFc hFc rfl (fun t H locs ht hB hk1 hS => ?_)
      obtain ⟨hP1, hD1⟩ := hB
      rw [ht] at hP1
      obtain ⟨hP, hD⟩ := znQ (W2 := [(oc8 x (.ref sh) (.ref lw) (.ref ro) (.ref bq) (.ref bp) (.ref dq) (.ref dp) (.ref lv) (.ref sl) ds sd ul 1), _, _, _, _, _, _, _]) hP hD hk1 hFc hP1 hD1 [0] zl_54 zl_54 [0] (by decide +kernel) rfl rfl rfl rfl rfl
      clear hk1 hPc hDc hFc hP1 hD1 ht
      obtain ⟨hP, hD⟩ := pl_bk (X := [_, _, _]) hT_1 hP rfl hc9_1 hD0_1 rfl
      obtain ⟨hP9, hD9⟩ := zu_part (cx := [_, _, _]) hP hD [true, true, true] rfl rfl
      rw [hQ9]
      exact W.zret (ty := .boolean) (v := 0) hx hb hr (rfl) (fun t ht hW => ⟨⟨rfl, ul, 1, by rw [ht]; exact hP9, hD9⟩, hS.F ht⟩) hS.2.2 dX10_shift_29
set_option maxHeartbeats 4000000 in
set_option maxRecDepth 100000 in
theorem k_step_x (l : Launch) (dC : Nat → ClassId) (dI : Nat → Nat → Nat) (cI cZ cF : ClassId) (sz : Nat) (cO : ClassId) (e0 : Nat) (mi : Nat) (x : Nat) (sh : Nat) (lw : Nat) (ro : Nat) (bq : Nat) (bp : Nat) (dq : Nat) (dp : Nat) (lv : Nat) (sl : Nat) (sd : Int32) (ul : Int32) (su : Int32) (ea : Nat) (dn : Nat) (T : Nat) (mc9 : Int32) (v : Int32) (w : Int32) (hT5 : T ≤ 512) (hv : ¬ (1 ≤ v.toInt ∧ v.toInt ≤ ((T : Nat) : Int))) : zML l yX10_step cX10_step 4 (some .int) ({ frames := 1, cells := 0, slots := 0, locals := 20 } : Room) [.ref x, .int v, .int w] (dC, dI) (zTyO cI cZ cF cO) e0 mi [(oc8 x (.ref sh) (.ref lw) (.ref ro) (.ref bq) (.ref bp) (.ref dq) (.ref dp) (.ref lv) (.ref sl) (nI dn) sd ul su), (oc10 sl mc9 (.ref ea) (nI T))] sz (some (.int (-1))) (fun A t => zPD (dC, dI) classes A [(oc8 x (.ref sh) (.ref lw) (.ref ro) (.ref bq) (.ref bp) (.ref dq) (.ref dp) (.ref lv) (.ref sl) (nI dn) sd ul su), (oc10 sl mc9 (.ref ea) (nI T))] t.heap) 0 0 := by
  refine zInL (own := "ScaleShop") (loc := [(0, .ref x), (1, .int v), (2, .int w)]) rfl rfl rfl rfl (fun p e s m below meth c hx hb hr hts hown hlocks hml hnm9 A hA hS hP hD hK hXL hXN hK3 Q9 hQ9 ls hl => ?_)
  refine lv_iload_n hx hb dX10_step_0 rfl (lv_at hl 1 rfl) ?_
  refine lv_iconst (v := 1) hx hb dX10_step_1 rfl ?_
  refine lv_icmp_lt (tgt := 16) hx hb dX10_step_2 rfl (fun c_1 => ?_) (fun c_1 => ?_)
  · have c_1 : v.toInt < 1 := zc_lt rfl rfl c_1
    refine lv_iconst (v := (-1)) hx hb dX10_step_16 rfl ?_
    obtain ⟨hP9, hD9⟩ := zu_sub (wc := [_, _]) hP hD [true, true] rfl rfl
    rw [hQ9]
    exact W.iret (v := (-1)) hx hb hr (fun t ht hW => ⟨⟨rfl, by rw [ht]; exact hP9, hD9⟩, hS.F ht⟩) hS.2.2 dX10_step_17
  · have c_1 : 1 ≤ v.toInt := zc_nlt rfl rfl c_1
    refine lv_iload_n hx hb dX10_step_5 rfl (lv_at hl 1 rfl) ?_
    refine lv_aload_n hx hb dX10_step_6 rfl (lv_at hl 0 rfl) ?_
    refine va_get (D := (dC, dI)) (ci := 8) (v := .ref sl) (C := RX10) (T := TX10) (N := 13) hx hb hts inX10 hown hK hP 0 rfl rfl 8 (Nat.le_of_ble_eq_true rfl) (hts _ mw_317) (fun _ h9 => h9) rfl dX10_step_7 ?_
    obtain ⟨hPc, hDc, hFc, hI1⟩ := zi_sub (wc := [_]) hP hD hS hA [1] rfl rfl
    refine zcall (st1 := [.int (nI T), .int v]) (va_runV (As := []) (rest := [.int v]) ⟨hx, hb, hml, hown, hts⟩ (k_AL_size l dC dI cI cZ cF s.heap.size sl ea T mc9 ) (csV_90 hts rfl rfl ⟨Nat.le_of_ble_eq_true rfl, Nat.le_of_ble_eq_true rfl⟩) (zPV2 (q0 := 0) (ci := 10) hPc hDc hK3 hXN rfl rfl) rfl rfl hl.1 rfl (lv_room (Nat.le_of_ble_eq_true rfl)) dX10_step_10 ⟨Nat.le_of_ble_eq_true rfl, Nat.le_of_ble_eq_true rfl⟩) hS hFc hFc rfl (fun t H locs ht hB hk1 hS => ?_)
    obtain ⟨hP1, hD1⟩ := hB
    rw [ht] at hP1
    replace hP := z0 hP hD hk1 hP1 hI1
    clear hk1 hPc hDc hFc hP1 hD1 ht hI1
    have b9_3 : zlt (T) := show T < 2147483648 by omega
    refine lv_icmp_le (tgt := 18) hx hb dX10_step_13 rfl (fun c_2 => ?_) (fun c_2 => ?_)
    · have c_2 : v.toInt ≤ ((T : Nat) : Int) := zc_le rfl (nI_toInt b9_3) c_2
      exfalso; omega
    · have c_2 : ((T : Nat) : Int) < v.toInt := zc_nle rfl (nI_toInt b9_3) c_2
      refine lv_iconst (v := (-1)) hx hb dX10_step_16 rfl ?_
      obtain ⟨hP9, hD9⟩ := zu_sub (wc := [_, _]) hP hD [true, true] rfl rfl
      rw [hQ9]
      exact W.iret (v := (-1)) hx hb hr (fun t ht hW => ⟨⟨rfl, by rw [ht]; exact hP9, hD9⟩, hS.F ht⟩) hS.2.2 dX10_step_17
end
section
set_option maxHeartbeats 4000000 in
set_option maxRecDepth 100000 in
theorem k_at_x (l : Launch) (dC : Nat → ClassId) (dI : Nat → Nat → Nat) (cI cZ cF : ClassId) (sz : Nat) (x : Nat) (sh : Nat) (lw : Nat) (ro : Nat) (bq : Nat) (bp : Nat) (dq : Nat) (dp : Nat) (lv : Nat) (sl : Nat) (sd : Int32) (ul : Int32) (su : Int32) (ds : Int32) (fa : Nat) (ft : Nat) (FA : Nat → Option Nat) (v : Int32) (kv : Int32) (w : Int32) (h200 : ft ≤ 200) (hv : ¬ (0 ≤ v.toInt ∧ v.toInt < ((ft : Nat) : Int))) : zM l yX10_at cX10_at 6 (some .int) ({ frames := 1, cells := 0, slots := 0, locals := 21 } : Room) [.ref x, .int v, .int kv, .int w] (dC, dI) (zTy cI cZ cF) [(oc8 x (.ref sh) (.ref lw) (.ref ro) (.ref bq) (.ref bp) (.ref dq) (.ref dp) (.ref lv) (.ref sl) ds sd ul su), (oc7 sh (.ref fa) (nI ft)), (oq fa cF 200 FA)] sz (some (.int (-1))) (fun A t => zPD (dC, dI) classes A [(oc8 x (.ref sh) (.ref lw) (.ref ro) (.ref bq) (.ref bp) (.ref dq) (.ref dp) (.ref lv) (.ref sl) ds sd ul su), (oc7 sh (.ref fa) (nI ft)), (oq fa cF 200 FA)] t.heap) 0 0 := by
  refine zIn (own := "ScaleShop") (loc := [(0, .ref x), (1, .int v), (2, .int kv), (3, .int w)]) rfl rfl rfl rfl (fun p e s m below meth c hx hb hr hts hown hlocks hml hnm9 A hA hS hP hD hK hXN Q9 hQ9 ls hl => ?_)
  refine lv_aload_n hx hb dX10_at_0 rfl (lv_at hl 0 rfl) ?_
  refine va_get (D := (dC, dI)) (ci := 8) (v := .ref sh) (C := RX10) (T := TX10) (N := 13) hx hb hts inX10 hown hK hP 0 rfl rfl 0 (Nat.le_of_ble_eq_true rfl) (hts _ mw_309) (fun _ h9 => h9) rfl dX10_at_1 ?_
  refine lv_iload_n hx hb dX10_at_4 rfl (lv_at hl 1 rfl) ?_
  obtain ⟨hPc, hDc, hFc, hI1⟩ := zi_sub (wc := [_, _]) hP hD hS hA [1, 2] rfl rfl
  refine zcall (st1 := [.null]) (va_runV (As := [.int v]) (rest := []) ⟨hx, hb, hml, hown, hts⟩ (k_Sheet_find_n l dC dI cI cZ cF s.heap.size sh fa ft FA v (by first | with_reducible assumption | omega) (by first | with_reducible assumption | assumption)) (csV_94 hts rfl rfl ⟨Nat.le_of_ble_eq_true rfl, Nat.le_of_ble_eq_true rfl⟩) (zPV2 (q0 := 0) (ci := 7) hPc hDc hK hXN rfl rfl) rfl rfl hl.1 rfl (lv_room (Nat.le_of_ble_eq_true rfl)) dX10_at_5 ⟨Nat.le_of_ble_eq_true rfl, Nat.le_of_ble_eq_true rfl⟩) hS hFc hFc rfl (fun t H locs ht hB hk1 hS => ?_)
  obtain ⟨hP1, hD1⟩ := hB
  rw [ht] at hP1
  replace hP := z0 hP hD hk1 hP1 hI1
  clear hk1 hPc hDc hFc hP1 hD1 ht hI1
  refine lv_astoreN (lv' := [(4, .null), (0, .ref x), (1, .int v), (2, .int kv), (3, .int w)]) hx hb dX10_at_8 hl (Nat.le_of_ble_eq_true rfl) rfl (fun ls hl => ?_)
  refine lv_aloadN hx hb dX10_at_10 (lv_at hl 0 rfl) ?_
  refine lv_ifnullN (tgt := 24) hx hb dX10_at_12 rfl ?_
  refine lv_iconst (v := (-1)) hx hb dX10_at_24 rfl ?_
  obtain ⟨hP9, hD9⟩ := zu_sub (wc := [_, _, _]) hP hD [true, true, true] rfl rfl
  rw [hQ9]
  exact W.iret (v := (-1)) hx hb hr (fun t ht hW => ⟨⟨rfl, by rw [ht]; exact hP9, hD9⟩, hS.F ht⟩) hS.2.2 dX10_at_25
set_option maxHeartbeats 4000000 in
set_option maxRecDepth 100000 in
theorem k_status (l : Launch) (dC : Nat → ClassId) (dI : Nat → Nat → Nat) (cI cZ cF : ClassId) (sz : Nat) (x : Nat) (sh : Nat) (lw : Nat) (ro : Nat) (bq : Nat) (bp : Nat) (dq : Nat) (dp : Nat) (lv : Nat) (sl : Nat) (sd : Int32) (ul : Int32) (su : Int32) (ds : Int32) : zM l yX10_status cX10_status 1 (some .int) ({ frames := 0, cells := 0, slots := 0, locals := 0 } : Room) [.ref x] (dC, dI) (zTy cI cZ cF) [(oc8 x (.ref sh) (.ref lw) (.ref ro) (.ref bq) (.ref bp) (.ref dq) (.ref dp) (.ref lv) (.ref sl) ds sd ul su)] sz (some (.int su)) (fun A t => zPD (dC, dI) classes A [(oc8 x (.ref sh) (.ref lw) (.ref ro) (.ref bq) (.ref bp) (.ref dq) (.ref dp) (.ref lv) (.ref sl) ds sd ul su)] t.heap) 0 0 := by
  refine zIn (own := "ScaleShop") (loc := [(0, .ref x)]) rfl rfl rfl rfl (fun p e s m below meth c hx hb hr hts hown hlocks hml hnm9 A hA hS hP hD hK hXN Q9 hQ9 ls hl => ?_)
  refine lv_aload_n hx hb dX10_status_0 rfl (lv_at hl 0 rfl) ?_
  refine va_get (D := (dC, dI)) (ci := 8) (v := .int su) (C := RX10) (T := TX10) (N := 13) hx hb hts inX10 hown hK hP 0 rfl rfl 12 (Nat.le_of_ble_eq_true rfl) (hts _ mw_321) (fun _ h9 => h9) rfl dX10_status_1 ?_
  obtain ⟨hP9, hD9⟩ := zu_sub (wc := [_]) hP hD [true] rfl rfl
  rw [hQ9]
  exact W.iret (v := su) hx hb hr (fun t ht hW => ⟨⟨rfl, by rw [ht]; exact hP9, hD9⟩, hS.F ht⟩) hS.2.2 dX10_status_4
set_option maxHeartbeats 4000000 in
set_option maxRecDepth 100000 in
theorem k_Sheet_inState (l : Launch) (dC : Nat → ClassId) (dI : Nat → Nat → Nat) (cI cZ cF : ClassId) (sz : Nat) (sh : Nat) (fa : Nat) (ft : Nat) (FA : Nat → Option Nat) (L : List Nat) (f : Nat → va_E) (kd : Nat → Int32) (st : Nat → Int32) (tn : Nat → Int32) (mn : Nat → Int32) (cx : Nat → Int32) (cy : Nat → Int32) (rk : Nat → Int32) (wd : Nat → Int32) (tw : Nat → Int32) (pa : Nat → Int32) (pb : Nat → Int32) (gb : Nat → Int32) (it : Nat → Int32) (sv : Int32) (h200 : ft ≤ 200) (hva : ∀ q, q < ft → vwA cI L f FA rk wd tw pa pb kd st gb it tn mn cx cy q) : zM l yX8_inState cX8_inState 5 (some .int) ({ frames := 1, cells := 0, slots := 0, locals := 21 } : Room) [.ref sh, .int sv] (dC, dI) (zTy cI cZ cF) ([(oc7 sh (.ref fa) (nI ft)), (oq fa cF 200 FA)] ++ va_pl L f) sz (some (.int (nI (cntP (fun g => (st g).toInt = sv.toInt) ft)))) (fun A t => zPD (dC, dI) classes A ([(oc7 sh (.ref fa) (nI ft)), (oq fa cF 200 FA)] ++ va_pl L f) t.heap) 0 0 := by
  refine zIn (own := "ScaleShop$Sheet") (loc := [(0, .ref sh), (1, .int sv)]) rfl rfl rfl rfl (fun p e s m below meth c hx hb hr hts hown hlocks hml hnm9 A hA hS hP hD hK hXN Q9 hQ9 ls hl => ?_)
  refine lv_iconst (v := 0) hx hb dX8_inState_0 rfl ?_
  refine lv_istore_n (lv' := [(2, .int 0), (0, .ref sh), (1, .int sv)]) hx hb dX8_inState_1 rfl hl (Nat.le_of_ble_eq_true rfl) rfl (fun ls hl => ?_)
  refine lv_iconst (v := 0) hx hb dX8_inState_2 rfl ?_
  refine lv_istore_n (lv' := [(3, .int 0), (2, .int 0), (0, .ref sh), (1, .int sv)]) hx hb dX8_inState_3 rfl hl (Nat.le_of_ble_eq_true rfl) rfl (fun ls hl => ?_)
  have hl_4 : ∀ (n9 : Nat) (g5 : Nat) (H : Heap) (locs : List Loc) (ls : Array Slot), ft - g5 < n9 → (g5 ≤ ft) → va_P (dC, dI) classes ([(oc7 sh (.ref fa) (nI ft)), (oq fa cF 200 FA)] ++ va_pl L f) H → va_D A ([(oc7 sh (.ref fa) (nI ft)), (oq fa cF 200 FA)] ++ va_pl L f) → va_S A s.heap H locs → lv_has ls 5 [(3, .int (nI g5)), (2, .int (nI (cntP (fun g => (st g).toInt = sv.toInt) g5))), (0, .ref sh), (1, .int sv)] → W p l e ({ frames := 1, cells := 0, slots := 0, locals := 21 } : Room) s m ([.ref sh, .int sv] : List Value).toArray below meth c H locs 0 0 Q9 (F0 m 4 ls []) := by
    intro n9
    induction n9 with
    | zero => intro g5 H locs ls hm; exact absurd hm (Nat.not_lt_zero _)
    | succ n9 ih_4 =>
      intro g5 H locs ls hm hg5 hP hD hS hl
      have hcb := cntP_b (fun g => (st g).toInt = sv.toInt) g5
      refine lv_iload_n hx hb dX8_inState_4 rfl (lv_at hl 0 rfl) ?_
      refine lv_aload_n hx hb dX8_inState_5 rfl (lv_at hl 2 rfl) ?_
      refine va_get (D := (dC, dI)) (ci := 7) (v := .int (nI ft)) (C := RX8) (T := TX8) (N := 2) hx hb hts inX8 hown hK hP 0 rfl rfl 1 (Nat.le_of_ble_eq_true rfl) (hts _ mw_137) (fun _ h9 => h9) rfl dX8_inState_6 ?_
      have b9_2 : zlt (g5) := show g5 < 2147483648 by omega
      have b9_3 : zlt (ft) := show ft < 2147483648 by omega
      refine lv_icmp_ge (tgt := 45) hx hb dX8_inState_9 rfl (fun c_1 => ?_) (fun c_1 => ?_)
      · have c_1 : ((ft : Nat) : Int) ≤ ((g5 : Nat) : Int) := zc_le (nI_toInt b9_3) (nI_toInt b9_2) c_1
        refine lv_iload_n hx hb dX8_inState_45 rfl (lv_at hl 1 rfl) ?_
        obtain ⟨hP9, hD9⟩ := zu_part (cx := [_, _]) hP hD [true, true] rfl rfl
        rw [hQ9]
        exact W.iret (v := nI (cntP (fun g => (st g).toInt = sv.toInt) g5)) hx hb hr (fun t ht hW => ⟨⟨congrArg (fun z => Outcome.returned (some (Value.int z))) (show (nI (cntP (fun g => (st g).toInt = sv.toInt) g5) : Int32) = nI (cntP (fun g => (st g).toInt = sv.toInt) ft) from zn_eq (by rw [show g5 = ft by omega])), by rw [ht]; exact hP9, hD9⟩, hS.F ht⟩) hS.2.2 dX8_inState_46
      · have c_1 : ((g5 : Nat) : Int) < ((ft : Nat) : Int) := zc_nle (nI_toInt b9_3) (nI_toInt b9_2) c_1
        rcases vwA_2 (hva g5 (by omega)) with ⟨ht2, fe2, lk2, lo2, we2, fm2, hFA2, hfe2, hlk2⟩ | ⟨ht2, fe2, lk2, lo2, we2, fm2, r2, rx2, ry2, cap2, U2, V2, rg2, hFA2, hfe2, hlk2, ⟨hr2, hrx2, hry2, hne2⟩, hrr2⟩
        · skip
          have hc9_1 : inPl L f [(oc1 fe2 (rk g5) (wd g5) (tw g5) (pa g5) (pb g5) (.ref lo2) (.ref lk2) fm2), (oc4 lk2 (kd g5) (st g5) .null (gb g5) (it g5) we2)] := ⟨hfe2, hlk2, trivial⟩
          have hD0_1 := hD
          obtain ⟨T_1, hT_1, hP, hD⟩ := pl_oT hP hD hc9_1 (pwF hfe2.2 hlk2.2)
          obtain ⟨hP, hD⟩ := zre (W2 := ([_, _, _, _] ++ va_pl T_1 f)) hP hD rfl
          refine lv_aload_n hx hb dX8_inState_12 rfl (lv_at hl 2 rfl) ?_
          refine lv_iload_n hx hb dX8_inState_13 rfl (lv_at hl 0 rfl) ?_
          obtain ⟨hPc, hDc, hFc, hI1⟩ := zi_sub (wc := [_, _]) hP hD hS hA [0, 1] rfl rfl
          refine zcall (st1 := [.ref fe2]) (va_runV (As := [.int (nI g5)]) (rest := []) ⟨hx, hb, hml, hown, hts⟩ (k_Sheet_find l dC dI cI cZ cF H.size sh fa ft FA g5 fe2 (by first | with_reducible assumption | omega) (by first | with_reducible assumption | omega) (hFA2)) (csV_36 hts rfl rfl ⟨Nat.le_of_ble_eq_true rfl, Nat.le_of_ble_eq_true rfl⟩) (zPV2 (q0 := 0) (ci := 7) hPc hDc hK hXN rfl rfl) rfl rfl hl.1 rfl (lv_room (Nat.le_of_ble_eq_true rfl)) dX8_inState_14 ⟨Nat.le_of_ble_eq_true rfl, Nat.le_of_ble_eq_true rfl⟩) hS hFc hFc rfl (fun t H locs ht hB hk1 hS => ?_)
          obtain ⟨hP1, hD1⟩ := hB
          rw [ht] at hP1
          replace hP := z0 hP hD hk1 hP1 hI1
          clear hk1 hPc hDc hFc hP1 hD1 ht hI1
          refine lv_astore (lv' := [(4, .ref fe2), (3, .int (nI g5)), (2, .int (nI (cntP (fun g => (st g).toInt = sv.toInt) g5))), (0, .ref sh), (1, .int sv)]) hx hb dX8_inState_17 hl (Nat.le_of_ble_eq_true rfl) rfl (fun ls hl => ?_)
          refine lv_aload hx hb dX8_inState_19 (lv_at hl 0 rfl) ?_
          refine lv_ifnull hx hb dX8_inState_21 ?_
          refine lv_aload hx hb dX8_inState_24 (lv_at hl 0 rfl) ?_
          refine va_get (D := (dC, dI)) (ci := 1) (v := .ref lk2) (C := RX2) (T := TX2) (N := 8) hx hb hts inX2 hown hK hP 2 rfl rfl 6 (Nat.le_of_ble_eq_true rfl) (hts _ mw_434) (fun _ h9 => h9) rfl dX8_inState_26 ?_
          refine va_get (D := (dC, dI)) (ci := 4) (v := .int (st g5)) (C := RX5) (T := TX5) (N := 6) hx hb hts inX5 hown hK hP 3 rfl rfl 1 (Nat.le_of_ble_eq_true rfl) (hts _ mw_387) (fun _ h9 => h9) rfl dX8_inState_29 ?_
          refine lv_iload_n hx hb dX8_inState_32 rfl (lv_at hl 4 rfl) ?_
          refine lv_icmp_ne (tgt := 39) hx hb dX8_inState_33 rfl (fun c_4 => ?_) (fun c_4 => ?_)
          · have c_4 : ¬ (st g5).toInt = sv.toInt := zc_ne rfl rfl c_4
            obtain ⟨hP, hD⟩ := pl_bk (X := [_, _]) hT_1 hP rfl hc9_1 hD0_1 rfl
            refine lv_iinc (v := nI (g5 + 1)) (lv' := [(3, .int (nI (g5 + 1))), (4, .ref fe2), (2, .int (nI (cntP (fun g => (st g).toInt = sv.toInt) g5))), (0, .ref sh), (1, .int sv)]) hx hb dX8_inState_39 hl (k := 1) rfl (nI_add g5 1) (Nat.le_of_ble_eq_true rfl) rfl (fun ls hl => ?_)
            refine lv_goto (tgt := 4) hx hb dX8_inState_42 rfl ?_
            have hl9 := lv_sub hl [0, 2, 3, 4] rfl
            have e9_2 : nI (cntP (fun g => (st g).toInt = sv.toInt) (g5 + 1)) = (nI (cntP (fun g => (st g).toInt = sv.toInt) g5) : Int32) := by first | exact congrArg nI (cntP_y (P := fun g => (st g).toInt = sv.toInt) (show (st g5).toInt = sv.toInt by omega)) | exact congrArg nI (cntP_n0 (P := fun g => (st g).toInt = sv.toInt) (show ¬ (st g5).toInt = sv.toInt by omega))
            have hl9 : lv_has ls 5 [(3, .int (nI (g5 + 1))), (2, .int (nI (cntP (fun g => (st g).toInt = sv.toInt) (g5 + 1)))), (0, .ref sh), (1, .int sv)] := by rw [e9_2]; exact hl9
            exact ih_4 (g5 + 1) H locs ls (by first | with_reducible assumption | omega) (by first | with_reducible assumption | omega) hP hD hS hl9
          · have c_4 : (st g5).toInt = sv.toInt := zc_eq rfl rfl c_4
            refine lv_iinc (v := nI ((cntP (fun g => (st g).toInt = sv.toInt) g5) + 1)) (lv' := [(2, .int (nI ((cntP (fun g => (st g).toInt = sv.toInt) g5) + 1))), (4, .ref fe2), (3, .int (nI g5)), (0, .ref sh), (1, .int sv)]) hx hb dX8_inState_36 hl (k := 2) rfl (nI_add (cntP (fun g => (st g).toInt = sv.toInt) g5) 1) (Nat.le_of_ble_eq_true rfl) rfl (fun ls hl => ?_)
            obtain ⟨hP, hD⟩ := pl_bk (X := [_, _]) hT_1 hP rfl hc9_1 hD0_1 rfl
            refine lv_iinc (v := nI (g5 + 1)) (lv' := [(3, .int (nI (g5 + 1))), (2, .int (nI ((cntP (fun g => (st g).toInt = sv.toInt) g5) + 1))), (4, .ref fe2), (0, .ref sh), (1, .int sv)]) hx hb dX8_inState_39 hl (k := 2) rfl (nI_add g5 1) (Nat.le_of_ble_eq_true rfl) rfl (fun ls hl => ?_)
            refine lv_goto (tgt := 4) hx hb dX8_inState_42 rfl ?_
            have hl9 := lv_sub hl [0, 1, 3, 4] rfl
            have e9_2 : nI (cntP (fun g => (st g).toInt = sv.toInt) (g5 + 1)) = (nI ((cntP (fun g => (st g).toInt = sv.toInt) g5) + 1) : Int32) := by first | exact congrArg nI (cntP_y (P := fun g => (st g).toInt = sv.toInt) (show (st g5).toInt = sv.toInt by omega)) | exact congrArg nI (cntP_n0 (P := fun g => (st g).toInt = sv.toInt) (show ¬ (st g5).toInt = sv.toInt by omega))
            have hl9 : lv_has ls 5 [(3, .int (nI (g5 + 1))), (2, .int (nI (cntP (fun g => (st g).toInt = sv.toInt) (g5 + 1)))), (0, .ref sh), (1, .int sv)] := by rw [e9_2]; exact hl9
            exact ih_4 (g5 + 1) H locs ls (by first | with_reducible assumption | omega) (by first | with_reducible assumption | omega) hP hD hS hl9
        · skip
          have hcap2 := hrr2.1
          have hcap3 := hrr2.2.1
          have hc9_1 : inPl L f [(oc1 fe2 (rk g5) (wd g5) (tw g5) (pa g5) (pb g5) (.ref lo2) (.ref lk2) fm2), (oc4 lk2 (kd g5) (st g5) (.ref r2) (gb g5) (it g5) we2), (oc6 r2 (.ref rx2) (.ref ry2) (nI (nN (mn g5))) rg2), (oa rx2 cI cap2 U2), (oa ry2 cI cap2 V2)] := ⟨hfe2, hlk2, hr2, hrx2, hry2, trivial⟩
          have hD0_1 := hD
          obtain ⟨T_1, hT_1, hP, hD⟩ := pl_oT hP hD hc9_1 (pwR hfe2.2 hlk2.2 hr2.2 hrx2.2 hry2.2 hne2)
          obtain ⟨hP, hD⟩ := zre (W2 := ([_, _, _, _, _, _, _] ++ va_pl T_1 f)) hP hD rfl
          refine lv_aload_n hx hb dX8_inState_12 rfl (lv_at hl 2 rfl) ?_
          refine lv_iload_n hx hb dX8_inState_13 rfl (lv_at hl 0 rfl) ?_
          obtain ⟨hPc, hDc, hFc, hI1⟩ := zi_sub (wc := [_, _]) hP hD hS hA [0, 1] rfl rfl
          refine zcall (st1 := [.ref fe2]) (va_runV (As := [.int (nI g5)]) (rest := []) ⟨hx, hb, hml, hown, hts⟩ (k_Sheet_find l dC dI cI cZ cF H.size sh fa ft FA g5 fe2 (by first | with_reducible assumption | omega) (by first | with_reducible assumption | omega) (hFA2)) (csV_36 hts rfl rfl ⟨Nat.le_of_ble_eq_true rfl, Nat.le_of_ble_eq_true rfl⟩) (zPV2 (q0 := 0) (ci := 7) hPc hDc hK hXN rfl rfl) rfl rfl hl.1 rfl (lv_room (Nat.le_of_ble_eq_true rfl)) dX8_inState_14 ⟨Nat.le_of_ble_eq_true rfl, Nat.le_of_ble_eq_true rfl⟩) hS hFc hFc rfl (fun t H locs ht hB hk1 hS => ?_)
          obtain ⟨hP1, hD1⟩ := hB
          rw [ht] at hP1
          replace hP := z0 hP hD hk1 hP1 hI1
          clear hk1 hPc hDc hFc hP1 hD1 ht hI1
          refine lv_astore (lv' := [(4, .ref fe2), (3, .int (nI g5)), (2, .int (nI (cntP (fun g => (st g).toInt = sv.toInt) g5))), (0, .ref sh), (1, .int sv)]) hx hb dX8_inState_17 hl (Nat.le_of_ble_eq_true rfl) rfl (fun ls hl => ?_)
          refine lv_aload hx hb dX8_inState_19 (lv_at hl 0 rfl) ?_
          refine lv_ifnull hx hb dX8_inState_21 ?_
          refine lv_aload hx hb dX8_inState_24 (lv_at hl 0 rfl) ?_
          refine va_get (D := (dC, dI)) (ci := 1) (v := .ref lk2) (C := RX2) (T := TX2) (N := 8) hx hb hts inX2 hown hK hP 2 rfl rfl 6 (Nat.le_of_ble_eq_true rfl) (hts _ mw_434) (fun _ h9 => h9) rfl dX8_inState_26 ?_
          refine va_get (D := (dC, dI)) (ci := 4) (v := .int (st g5)) (C := RX5) (T := TX5) (N := 6) hx hb hts inX5 hown hK hP 3 rfl rfl 1 (Nat.le_of_ble_eq_true rfl) (hts _ mw_387) (fun _ h9 => h9) rfl dX8_inState_29 ?_
          refine lv_iload_n hx hb dX8_inState_32 rfl (lv_at hl 4 rfl) ?_
          refine lv_icmp_ne (tgt := 39) hx hb dX8_inState_33 rfl (fun c_5 => ?_) (fun c_5 => ?_)
          · have c_5 : ¬ (st g5).toInt = sv.toInt := zc_ne rfl rfl c_5
            obtain ⟨hP, hD⟩ := pl_bk (X := [_, _]) hT_1 hP rfl hc9_1 hD0_1 rfl
            refine lv_iinc (v := nI (g5 + 1)) (lv' := [(3, .int (nI (g5 + 1))), (4, .ref fe2), (2, .int (nI (cntP (fun g => (st g).toInt = sv.toInt) g5))), (0, .ref sh), (1, .int sv)]) hx hb dX8_inState_39 hl (k := 1) rfl (nI_add g5 1) (Nat.le_of_ble_eq_true rfl) rfl (fun ls hl => ?_)
            refine lv_goto (tgt := 4) hx hb dX8_inState_42 rfl ?_
            have hl9 := lv_sub hl [0, 2, 3, 4] rfl
            have e9_2 : nI (cntP (fun g => (st g).toInt = sv.toInt) (g5 + 1)) = (nI (cntP (fun g => (st g).toInt = sv.toInt) g5) : Int32) := by first | exact congrArg nI (cntP_y (P := fun g => (st g).toInt = sv.toInt) (show (st g5).toInt = sv.toInt by omega)) | exact congrArg nI (cntP_n0 (P := fun g => (st g).toInt = sv.toInt) (show ¬ (st g5).toInt = sv.toInt by omega))
            have hl9 : lv_has ls 5 [(3, .int (nI (g5 + 1))), (2, .int (nI (cntP (fun g => (st g).toInt = sv.toInt) (g5 + 1)))), (0, .ref sh), (1, .int sv)] := by rw [e9_2]; exact hl9
            exact ih_4 (g5 + 1) H locs ls (by first | with_reducible assumption | omega) (by first | with_reducible assumption | omega) hP hD hS hl9
          · have c_5 : (st g5).toInt = sv.toInt := zc_eq rfl rfl c_5
            refine lv_iinc (v := nI ((cntP (fun g => (st g).toInt = sv.toInt) g5) + 1)) (lv' := [(2, .int (nI ((cntP (fun g => (st g).toInt = sv.toInt) g5) + 1))), (4, .ref fe2), (3, .int (nI g5)), (0, .ref sh), (1, .int sv)]) hx hb dX8_inState_36 hl (k := 2) rfl (nI_add (cntP (fun g => (st g).toInt = sv.toInt) g5) 1) (Nat.le_of_ble_eq_true rfl) rfl (fun ls hl => ?_)
            obtain ⟨hP, hD⟩ := pl_bk (X := [_, _]) hT_1 hP rfl hc9_1 hD0_1 rfl
            refine lv_iinc (v := nI (g5 + 1)) (lv' := [(3, .int (nI (g5 + 1))), (2, .int (nI ((cntP (fun g => (st g).toInt = sv.toInt) g5) + 1))), (4, .ref fe2), (0, .ref sh), (1, .int sv)]) hx hb dX8_inState_39 hl (k := 2) rfl (nI_add g5 1) (Nat.le_of_ble_eq_true rfl) rfl (fun ls hl => ?_)
            refine lv_goto (tgt := 4) hx hb dX8_inState_42 rfl ?_
            have hl9 := lv_sub hl [0, 1, 3, 4] rfl
            have e9_2 : nI (cntP (fun g => (st g).toInt = sv.toInt) (g5 + 1)) = (nI ((cntP (fun g => (st g).toInt = sv.toInt) g5) + 1) : Int32) := by first | exact congrArg nI (cntP_y (P := fun g => (st g).toInt = sv.toInt) (show (st g5).toInt = sv.toInt by omega)) | exact congrArg nI (cntP_n0 (P := fun g => (st g).toInt = sv.toInt) (show ¬ (st g5).toInt = sv.toInt by omega))
            have hl9 : lv_has ls 5 [(3, .int (nI (g5 + 1))), (2, .int (nI (cntP (fun g => (st g).toInt = sv.toInt) (g5 + 1)))), (0, .ref sh), (1, .int sv)] := by rw [e9_2]; exact hl9
            exact ih_4 (g5 + 1) H locs ls (by first | with_reducible assumption | omega) (by first | with_reducible assumption | omega) hP hD hS hl9
  have e9_2 : nI (cntP (fun g => (st g).toInt = sv.toInt) 0) = (0 : Int32) := by rfl
  have hl9 : lv_has ls 5 [(3, .int (nI 0)), (2, .int (nI (cntP (fun g => (st g).toInt = sv.toInt) 0))), (0, .ref sh), (1, .int sv)] := by rw [e9_2]; exact lv_sub hl [0, 1, 2, 3] rfl
  exact hl_4 _ 0 s.heap [] ls (Nat.lt_succ_self _) (by first | with_reducible assumption | omega) hP hD hS hl9
set_option maxHeartbeats 4000000 in
set_option maxRecDepth 100000 in
theorem k_Sheet_torn (l : Launch) (dC : Nat → ClassId) (dI : Nat → Nat → Nat) (cI cZ cF : ClassId) (sz : Nat) (sh : Nat) (fa : Nat) (ft : Nat) (FA : Nat → Option Nat) (L : List Nat) (f : Nat → va_E) (kd : Nat → Int32) (st : Nat → Int32) (tn : Nat → Int32) (mn : Nat → Int32) (cx : Nat → Int32) (cy : Nat → Int32) (rk : Nat → Int32) (wd : Nat → Int32) (tw : Nat → Int32) (pa : Nat → Int32) (pb : Nat → Int32) (gb : Nat → Int32) (it : Nat → Int32) (h200 : ft ≤ 200) (hva : ∀ q, q < ft → vwA cI L f FA rk wd tw pa pb kd st gb it tn mn cx cy q) : zM l yX8_torn cX8_torn 4 (some .int) ({ frames := 1, cells := 0, slots := 0, locals := 21 } : Room) [.ref sh] (dC, dI) (zTy cI cZ cF) ([(oc7 sh (.ref fa) (nI ft)), (oq fa cF 200 FA)] ++ va_pl L f) sz (some (.int (nI (cntP (fun g => ¬ (tn g).toInt = 0) ft)))) (fun A t => zPD (dC, dI) classes A ([(oc7 sh (.ref fa) (nI ft)), (oq fa cF 200 FA)] ++ va_pl L f) t.heap) 0 0 := by
  refine zIn (own := "ScaleShop$Sheet") (loc := [(0, .ref sh)]) rfl rfl rfl rfl (fun p e s m below meth c hx hb hr hts hown hlocks hml hnm9 A hA hS hP hD hK hXN Q9 hQ9 ls hl => ?_)
  refine lv_iconst (v := 0) hx hb dX8_torn_0 rfl ?_
  refine lv_istore_n (lv' := [(1, .int 0), (0, .ref sh)]) hx hb dX8_torn_1 rfl hl (Nat.le_of_ble_eq_true rfl) rfl (fun ls hl => ?_)
  refine lv_iconst (v := 0) hx hb dX8_torn_2 rfl ?_
  refine lv_istore_n (lv' := [(2, .int 0), (1, .int 0), (0, .ref sh)]) hx hb dX8_torn_3 rfl hl (Nat.le_of_ble_eq_true rfl) rfl (fun ls hl => ?_)
  have hl_4 : ∀ (n9 : Nat) (g5 : Nat) (H : Heap) (locs : List Loc) (ls : Array Slot), ft - g5 < n9 → (g5 ≤ ft) → va_P (dC, dI) classes ([(oc7 sh (.ref fa) (nI ft)), (oq fa cF 200 FA)] ++ va_pl L f) H → va_D A ([(oc7 sh (.ref fa) (nI ft)), (oq fa cF 200 FA)] ++ va_pl L f) → va_S A s.heap H locs → lv_has ls 4 [(2, .int (nI g5)), (1, .int (nI (cntP (fun g => ¬ (tn g).toInt = 0) g5))), (0, .ref sh)] → W p l e ({ frames := 1, cells := 0, slots := 0, locals := 21 } : Room) s m ([.ref sh] : List Value).toArray below meth c H locs 0 0 Q9 (F0 m 4 ls []) := by
    intro n9
    induction n9 with
    | zero => intro g5 H locs ls hm; exact absurd hm (Nat.not_lt_zero _)
    | succ n9 ih_4 =>
      intro g5 H locs ls hm hg5 hP hD hS hl
      have hcb := cntP_b (fun g => ¬ (tn g).toInt = 0) g5
      refine lv_iload_n hx hb dX8_torn_4 rfl (lv_at hl 0 rfl) ?_
      refine lv_aload_n hx hb dX8_torn_5 rfl (lv_at hl 2 rfl) ?_
      refine va_get (D := (dC, dI)) (ci := 7) (v := .int (nI ft)) (C := RX8) (T := TX8) (N := 2) hx hb hts inX8 hown hK hP 0 rfl rfl 1 (Nat.le_of_ble_eq_true rfl) (hts _ mw_137) (fun _ h9 => h9) rfl dX8_torn_6 ?_
      have b9_2 : zlt (g5) := show g5 < 2147483648 by omega
      have b9_3 : zlt (ft) := show ft < 2147483648 by omega
      refine lv_icmp_ge (tgt := 41) hx hb dX8_torn_9 rfl (fun c_1 => ?_) (fun c_1 => ?_)
      · have c_1 : ((ft : Nat) : Int) ≤ ((g5 : Nat) : Int) := zc_le (nI_toInt b9_3) (nI_toInt b9_2) c_1
        refine lv_iload_n hx hb dX8_torn_41 rfl (lv_at hl 1 rfl) ?_
        obtain ⟨hP9, hD9⟩ := zu_part (cx := [_, _]) hP hD [true, true] rfl rfl
        rw [hQ9]
        exact W.iret (v := nI (cntP (fun g => ¬ (tn g).toInt = 0) g5)) hx hb hr (fun t ht hW => ⟨⟨congrArg (fun z => Outcome.returned (some (Value.int z))) (show (nI (cntP (fun g => ¬ (tn g).toInt = 0) g5) : Int32) = nI (cntP (fun g => ¬ (tn g).toInt = 0) ft) from zn_eq (by rw [show g5 = ft by omega])), by rw [ht]; exact hP9, hD9⟩, hS.F ht⟩) hS.2.2 dX8_torn_42
      · have c_1 : ((g5 : Nat) : Int) < ((ft : Nat) : Int) := zc_nle (nI_toInt b9_3) (nI_toInt b9_2) c_1
        rcases vwA_2 (hva g5 (by omega)) with ⟨ht2, fe2, lk2, lo2, we2, fm2, hFA2, hfe2, hlk2⟩ | ⟨ht2, fe2, lk2, lo2, we2, fm2, r2, rx2, ry2, cap2, U2, V2, rg2, hFA2, hfe2, hlk2, ⟨hr2, hrx2, hry2, hne2⟩, hrr2⟩
        · skip
          have hc9_1 : inPl L f [(oc1 fe2 (rk g5) (wd g5) (tw g5) (pa g5) (pb g5) (.ref lo2) (.ref lk2) fm2), (oc4 lk2 (kd g5) (st g5) .null (gb g5) (it g5) we2)] := ⟨hfe2, hlk2, trivial⟩
          have hD0_1 := hD
          obtain ⟨T_1, hT_1, hP, hD⟩ := pl_oT hP hD hc9_1 (pwF hfe2.2 hlk2.2)
          obtain ⟨hP, hD⟩ := zre (W2 := ([_, _, _, _] ++ va_pl T_1 f)) hP hD rfl
          refine lv_aload_n hx hb dX8_torn_12 rfl (lv_at hl 2 rfl) ?_
          refine lv_iload_n hx hb dX8_torn_13 rfl (lv_at hl 0 rfl) ?_
          obtain ⟨hPc, hDc, hFc, hI1⟩ := zi_sub (wc := [_, _]) hP hD hS hA [0, 1] rfl rfl
          refine zcall (st1 := [.ref fe2]) (va_runV (As := [.int (nI g5)]) (rest := []) ⟨hx, hb, hml, hown, hts⟩ (k_Sheet_find l dC dI cI cZ cF H.size sh fa ft FA g5 fe2 (by first | with_reducible assumption | omega) (by first | with_reducible assumption | omega) (hFA2)) (csV_36 hts rfl rfl ⟨Nat.le_of_ble_eq_true rfl, Nat.le_of_ble_eq_true rfl⟩) (zPV2 (q0 := 0) (ci := 7) hPc hDc hK hXN rfl rfl) rfl rfl hl.1 rfl (lv_room (Nat.le_of_ble_eq_true rfl)) dX8_torn_14 ⟨Nat.le_of_ble_eq_true rfl, Nat.le_of_ble_eq_true rfl⟩) hS hFc hFc rfl (fun t H locs ht hB hk1 hS => ?_)
          obtain ⟨hP1, hD1⟩ := hB
          rw [ht] at hP1
          replace hP := z0 hP hD hk1 hP1 hI1
          clear hk1 hPc hDc hFc hP1 hD1 ht hI1
          refine lv_astore_n (lv' := [(3, .ref fe2), (2, .int (nI g5)), (1, .int (nI (cntP (fun g => ¬ (tn g).toInt = 0) g5))), (0, .ref sh)]) hx hb dX8_torn_17 rfl hl (Nat.le_of_ble_eq_true rfl) rfl (fun ls hl => ?_)
          refine lv_aload_n hx hb dX8_torn_18 rfl (lv_at hl 0 rfl) ?_
          refine lv_ifnull hx hb dX8_torn_19 ?_
          refine lv_aload_n hx hb dX8_torn_22 rfl (lv_at hl 0 rfl) ?_
          refine va_get (D := (dC, dI)) (ci := 1) (v := .ref lk2) (C := RX2) (T := TX2) (N := 8) hx hb hts inX2 hown hK hP 2 rfl rfl 6 (Nat.le_of_ble_eq_true rfl) (hts _ mw_434) (fun _ h9 => h9) rfl dX8_torn_23 ?_
          refine va_get (D := (dC, dI)) (ci := 4) (v := .null) (C := RX5) (T := TX5) (N := 6) hx hb hts inX5 hown hK hP 3 rfl rfl 2 (Nat.le_of_ble_eq_true rfl) (hts _ mw_393) (fun _ h9 => h9) rfl dX8_torn_26 ?_
          refine lv_ifnonnullN hx hb dX8_torn_29 ?_
          refine lv_iinc (v := nI ((cntP (fun g => ¬ (tn g).toInt = 0) g5) + 1)) (lv' := [(1, .int (nI ((cntP (fun g => ¬ (tn g).toInt = 0) g5) + 1))), (3, .ref fe2), (2, .int (nI g5)), (0, .ref sh)]) hx hb dX8_torn_32 hl (k := 2) rfl (nI_add (cntP (fun g => ¬ (tn g).toInt = 0) g5) 1) (Nat.le_of_ble_eq_true rfl) rfl (fun ls hl => ?_)
          obtain ⟨hP, hD⟩ := pl_bk (X := [_, _]) hT_1 hP rfl hc9_1 hD0_1 rfl
          refine lv_iinc (v := nI (g5 + 1)) (lv' := [(2, .int (nI (g5 + 1))), (1, .int (nI ((cntP (fun g => ¬ (tn g).toInt = 0) g5) + 1))), (3, .ref fe2), (0, .ref sh)]) hx hb dX8_torn_35 hl (k := 2) rfl (nI_add g5 1) (Nat.le_of_ble_eq_true rfl) rfl (fun ls hl => ?_)
          refine lv_goto (tgt := 4) hx hb dX8_torn_38 rfl ?_
          have hl9 := lv_sub hl [0, 1, 3] rfl
          have e9_1 : nI (cntP (fun g => ¬ (tn g).toInt = 0) (g5 + 1)) = (nI ((cntP (fun g => ¬ (tn g).toInt = 0) g5) + 1) : Int32) := by first | exact congrArg nI (cntP_y (P := fun g => ¬ (tn g).toInt = 0) (ht2)) | exact congrArg nI (cntP_n0 (P := fun g => ¬ (tn g).toInt = 0) (fun h => h ht2))
          have hl9 : lv_has ls 4 [(2, .int (nI (g5 + 1))), (1, .int (nI (cntP (fun g => ¬ (tn g).toInt = 0) (g5 + 1)))), (0, .ref sh)] := by rw [e9_1]; exact hl9
          exact ih_4 (g5 + 1) H locs ls (by first | with_reducible assumption | omega) (by first | with_reducible assumption | omega) hP hD hS hl9
        · skip
          have hcap2 := hrr2.1
          have hcap3 := hrr2.2.1
          have hc9_1 : inPl L f [(oc1 fe2 (rk g5) (wd g5) (tw g5) (pa g5) (pb g5) (.ref lo2) (.ref lk2) fm2), (oc4 lk2 (kd g5) (st g5) (.ref r2) (gb g5) (it g5) we2), (oc6 r2 (.ref rx2) (.ref ry2) (nI (nN (mn g5))) rg2), (oa rx2 cI cap2 U2), (oa ry2 cI cap2 V2)] := ⟨hfe2, hlk2, hr2, hrx2, hry2, trivial⟩
          have hD0_1 := hD
          obtain ⟨T_1, hT_1, hP, hD⟩ := pl_oT hP hD hc9_1 (pwR hfe2.2 hlk2.2 hr2.2 hrx2.2 hry2.2 hne2)
          obtain ⟨hP, hD⟩ := zre (W2 := ([_, _, _, _, _, _, _] ++ va_pl T_1 f)) hP hD rfl
          refine lv_aload_n hx hb dX8_torn_12 rfl (lv_at hl 2 rfl) ?_
          refine lv_iload_n hx hb dX8_torn_13 rfl (lv_at hl 0 rfl) ?_
          obtain ⟨hPc, hDc, hFc, hI1⟩ := zi_sub (wc := [_, _]) hP hD hS hA [0, 1] rfl rfl
          refine zcall (st1 := [.ref fe2]) (va_runV (As := [.int (nI g5)]) (rest := []) ⟨hx, hb, hml, hown, hts⟩ (k_Sheet_find l dC dI cI cZ cF H.size sh fa ft FA g5 fe2 (by first | with_reducible assumption | omega) (by first | with_reducible assumption | omega) (hFA2)) (csV_36 hts rfl rfl ⟨Nat.le_of_ble_eq_true rfl, Nat.le_of_ble_eq_true rfl⟩) (zPV2 (q0 := 0) (ci := 7) hPc hDc hK hXN rfl rfl) rfl rfl hl.1 rfl (lv_room (Nat.le_of_ble_eq_true rfl)) dX8_torn_14 ⟨Nat.le_of_ble_eq_true rfl, Nat.le_of_ble_eq_true rfl⟩) hS hFc hFc rfl (fun t H locs ht hB hk1 hS => ?_)
          obtain ⟨hP1, hD1⟩ := hB
          rw [ht] at hP1
          replace hP := z0 hP hD hk1 hP1 hI1
          clear hk1 hPc hDc hFc hP1 hD1 ht hI1
          refine lv_astore_n (lv' := [(3, .ref fe2), (2, .int (nI g5)), (1, .int (nI (cntP (fun g => ¬ (tn g).toInt = 0) g5))), (0, .ref sh)]) hx hb dX8_torn_17 rfl hl (Nat.le_of_ble_eq_true rfl) rfl (fun ls hl => ?_)
          refine lv_aload_n hx hb dX8_torn_18 rfl (lv_at hl 0 rfl) ?_
          refine lv_ifnull hx hb dX8_torn_19 ?_
          refine lv_aload_n hx hb dX8_torn_22 rfl (lv_at hl 0 rfl) ?_
          refine va_get (D := (dC, dI)) (ci := 1) (v := .ref lk2) (C := RX2) (T := TX2) (N := 8) hx hb hts inX2 hown hK hP 2 rfl rfl 6 (Nat.le_of_ble_eq_true rfl) (hts _ mw_434) (fun _ h9 => h9) rfl dX8_torn_23 ?_
          refine va_get (D := (dC, dI)) (ci := 4) (v := .ref r2) (C := RX5) (T := TX5) (N := 6) hx hb hts inX5 hown hK hP 3 rfl rfl 2 (Nat.le_of_ble_eq_true rfl) (hts _ mw_393) (fun _ h9 => h9) rfl dX8_torn_26 ?_
          refine lv_ifnonnull (tgt := 35) hx hb dX8_torn_29 rfl ?_
          obtain ⟨hP, hD⟩ := pl_bk (X := [_, _]) hT_1 hP rfl hc9_1 hD0_1 rfl
          refine lv_iinc (v := nI (g5 + 1)) (lv' := [(2, .int (nI (g5 + 1))), (3, .ref fe2), (1, .int (nI (cntP (fun g => ¬ (tn g).toInt = 0) g5))), (0, .ref sh)]) hx hb dX8_torn_35 hl (k := 1) rfl (nI_add g5 1) (Nat.le_of_ble_eq_true rfl) rfl (fun ls hl => ?_)
          refine lv_goto (tgt := 4) hx hb dX8_torn_38 rfl ?_
          have hl9 := lv_sub hl [0, 2, 3] rfl
          have e9_1 : nI (cntP (fun g => ¬ (tn g).toInt = 0) (g5 + 1)) = (nI (cntP (fun g => ¬ (tn g).toInt = 0) g5) : Int32) := by first | exact congrArg nI (cntP_y (P := fun g => ¬ (tn g).toInt = 0) (ht2)) | exact congrArg nI (cntP_n0 (P := fun g => ¬ (tn g).toInt = 0) (fun h => h ht2))
          have hl9 : lv_has ls 4 [(2, .int (nI (g5 + 1))), (1, .int (nI (cntP (fun g => ¬ (tn g).toInt = 0) (g5 + 1)))), (0, .ref sh)] := by rw [e9_1]; exact hl9
          exact ih_4 (g5 + 1) H locs ls (by first | with_reducible assumption | omega) (by first | with_reducible assumption | omega) hP hD hS hl9
  have e9_1 : nI (cntP (fun g => ¬ (tn g).toInt = 0) 0) = (0 : Int32) := by rfl
  have hl9 : lv_has ls 4 [(2, .int (nI 0)), (1, .int (nI (cntP (fun g => ¬ (tn g).toInt = 0) 0))), (0, .ref sh)] := by rw [e9_1]; exact lv_sub hl [0, 1, 2] rfl
  exact hl_4 _ 0 s.heap [] ls (Nat.lt_succ_self _) (by first | with_reducible assumption | omega) hP hD hS hl9
set_option maxHeartbeats 4000000 in
set_option maxRecDepth 100000 in
theorem k_Sheet_cornersThere (l : Launch) (dC : Nat → ClassId) (dI : Nat → Nat → Nat) (cI cZ cF : ClassId) (sz : Nat) (sh : Nat) (fa : Nat) (ft : Nat) (FA : Nat → Option Nat) (L : List Nat) (f : Nat → va_E) (kd : Nat → Int32) (st : Nat → Int32) (tn : Nat → Int32) (mn : Nat → Int32) (cx : Nat → Int32) (cy : Nat → Int32) (rk : Nat → Int32) (wd : Nat → Int32) (tw : Nat → Int32) (pa : Nat → Int32) (pb : Nat → Int32) (gb : Nat → Int32) (it : Nat → Int32) (h200 : ft ≤ 200) (hva : ∀ q, q < ft → vwA cI L f FA rk wd tw pa pb kd st gb it tn mn cx cy q) : zM l yX8_cornersThere cX8_cornersThere 4 (some .int) ({ frames := 2, cells := 0, slots := 0, locals := 43 } : Room) [.ref sh] (dC, dI) (zTy cI cZ cF) ([(oc7 sh (.ref fa) (nI ft)), (oq fa cF 200 FA)] ++ va_pl L f) sz (some (.int (nI (smP (lvF ft st tn) (fun g => nN (mn g)) ft)))) (fun A t => zPD (dC, dI) classes A ([(oc7 sh (.ref fa) (nI ft)), (oq fa cF 200 FA)] ++ va_pl L f) t.heap) 0 0 := by
  refine zIn (own := "ScaleShop$Sheet") (loc := [(0, .ref sh)]) rfl rfl rfl rfl (fun p e s m below meth c hx hb hr hts hown hlocks hml hnm9 A hA hS hP hD hK hXN Q9 hQ9 ls hl => ?_)
  refine lv_iconst (v := 0) hx hb dX8_cornersThere_0 rfl ?_
  refine lv_istore_n (lv' := [(1, .int 0), (0, .ref sh)]) hx hb dX8_cornersThere_1 rfl hl (Nat.le_of_ble_eq_true rfl) rfl (fun ls hl => ?_)
  refine lv_iconst (v := 0) hx hb dX8_cornersThere_2 rfl ?_
  refine lv_istore_n (lv' := [(2, .int 0), (1, .int 0), (0, .ref sh)]) hx hb dX8_cornersThere_3 rfl hl (Nat.le_of_ble_eq_true rfl) rfl (fun ls hl => ?_)
  have hl_4 : ∀ (n9 : Nat) (g5 : Nat) (H : Heap) (locs : List Loc) (ls : Array Slot), ft - g5 < n9 → (g5 ≤ ft) → (smP (lvF ft st tn) (fun g => nN (mn g)) g5 ≤ 40 * g5) → va_P (dC, dI) classes ([(oc7 sh (.ref fa) (nI ft)), (oq fa cF 200 FA)] ++ va_pl L f) H → va_D A ([(oc7 sh (.ref fa) (nI ft)), (oq fa cF 200 FA)] ++ va_pl L f) → va_S A s.heap H locs → lv_has ls 4 [(2, .int (nI g5)), (1, .int (nI (smP (lvF ft st tn) (fun g => nN (mn g)) g5))), (0, .ref sh)] → W p l e ({ frames := 2, cells := 0, slots := 0, locals := 43 } : Room) s m ([.ref sh] : List Value).toArray below meth c H locs 0 0 Q9 (F0 m 4 ls []) := by
    intro n9
    induction n9 with
    | zero => intro g5 H locs ls hm; exact absurd hm (Nat.not_lt_zero _)
    | succ n9 ih_4 =>
      intro g5 H locs ls hm hg5 hsb hP hD hS hl
      refine lv_iload_n hx hb dX8_cornersThere_4 rfl (lv_at hl 0 rfl) ?_
      refine lv_aload_n hx hb dX8_cornersThere_5 rfl (lv_at hl 2 rfl) ?_
      refine va_get (D := (dC, dI)) (ci := 7) (v := .int (nI ft)) (C := RX8) (T := TX8) (N := 2) hx hb hts inX8 hown hK hP 0 rfl rfl 1 (Nat.le_of_ble_eq_true rfl) (hts _ mw_137) (fun _ h9 => h9) rfl dX8_cornersThere_6 ?_
      have b9_2 : zlt (g5) := show g5 < 2147483648 by omega
      have b9_3 : zlt (ft) := show ft < 2147483648 by omega
      refine lv_icmp_ge (tgt := 39) hx hb dX8_cornersThere_9 rfl (fun c_1 => ?_) (fun c_1 => ?_)
      · have c_1 : ((ft : Nat) : Int) ≤ ((g5 : Nat) : Int) := zc_le (nI_toInt b9_3) (nI_toInt b9_2) c_1
        refine lv_iload_n hx hb dX8_cornersThere_39 rfl (lv_at hl 1 rfl) ?_
        obtain ⟨hP9, hD9⟩ := zu_part (cx := [_, _]) hP hD [true, true] rfl rfl
        rw [hQ9]
        exact W.iret (v := nI (smP (lvF ft st tn) (fun g => nN (mn g)) g5)) hx hb hr (fun t ht hW => ⟨⟨congrArg (fun z => Outcome.returned (some (Value.int z))) (show (nI (smP (lvF ft st tn) (fun g => nN (mn g)) g5) : Int32) = nI (smP (lvF ft st tn) (fun g => nN (mn g)) ft) from zn_eq (by rw [show g5 = ft by omega])), by rw [ht]; exact hP9, hD9⟩, hS.F ht⟩) hS.2.2 dX8_cornersThere_40
      · have c_1 : ((g5 : Nat) : Int) < ((ft : Nat) : Int) := zc_nle (nI_toInt b9_3) (nI_toInt b9_2) c_1
        rcases vwA_3 (P9 := ((st g5).toInt = 1)) (hva g5 (by omega)) with ⟨ht2, fe2, lk2, lo2, we2, fm2, hFA2, hfe2, hlk2⟩ | ⟨ht2, hA2, fe2, lk2, lo2, we2, fm2, r2, rx2, ry2, cap2, U2, V2, rg2, hFA2, hfe2, hlk2, ⟨hr2, hrx2, hry2, hne2⟩, hrr2⟩ | ⟨ht2, hA2, fe2, lk2, lo2, we2, fm2, r2, rx2, ry2, cap2, U2, V2, rg2, hFA2, hfe2, hlk2, ⟨hr2, hrx2, hry2, hne2⟩, hrr2⟩
        · skip
          have hnl2 : ¬ lvF ft st tn g5 := fun h => ht2 h.2.2
          have hc9_1 : inPl L f [(oc1 fe2 (rk g5) (wd g5) (tw g5) (pa g5) (pb g5) (.ref lo2) (.ref lk2) fm2), (oc4 lk2 (kd g5) (st g5) .null (gb g5) (it g5) we2)] := ⟨hfe2, hlk2, trivial⟩
          have hD0_1 := hD
          obtain ⟨T_1, hT_1, hP, hD⟩ := pl_oT hP hD hc9_1 (pwF hfe2.2 hlk2.2)
          obtain ⟨hP, hD⟩ := zre (W2 := ([_, _, _, _] ++ va_pl T_1 f)) hP hD rfl
          refine lv_aload_n hx hb dX8_cornersThere_12 rfl (lv_at hl 2 rfl) ?_
          refine lv_iload_n hx hb dX8_cornersThere_13 rfl (lv_at hl 0 rfl) ?_
          obtain ⟨hPc, hDc, hFc, hI1⟩ := zi_sub (wc := [_, _, _, _]) hP hD hS hA [0, 1, 2, 3] (by decide +kernel) rfl
          refine zcall (st1 := [.null]) (va_runV (As := [.int (nI g5)]) (rest := []) ⟨hx, hb, hml, hown, hts⟩ (k_Sheet_rowThere_tv l dC dI cI cZ cF H.size sh fa ft FA g5 fe2 lo2 (rk g5) (wd g5) (tw g5) (pa g5) (pb g5) lk2 (kd g5) (st g5) (gb g5) (it g5) we2 fm2 (by first | with_reducible assumption | omega) (by first | with_reducible assumption | omega) (hFA2)) (csV_37 hts rfl rfl ⟨Nat.le_of_ble_eq_true rfl, Nat.le_of_ble_eq_true rfl⟩) (zPV2 (q0 := 0) (ci := 7) hPc hDc hK hXN rfl rfl) rfl rfl hl.1 rfl (lv_room (Nat.le_of_ble_eq_true rfl)) dX8_cornersThere_14 ⟨Nat.le_of_ble_eq_true rfl, Nat.le_of_ble_eq_true rfl⟩) hS hFc hFc rfl (fun t H locs ht hB hk1 hS => ?_)
          obtain ⟨hP1, hD1⟩ := hB
          rw [ht] at hP1
          replace hP := z0 hP hD hk1 hP1 hI1
          clear hk1 hPc hDc hFc hP1 hD1 ht hI1
          refine lv_astore_nN (lv' := [(3, .null), (2, .int (nI g5)), (1, .int (nI (smP (lvF ft st tn) (fun g => nN (mn g)) g5))), (0, .ref sh)]) hx hb dX8_cornersThere_17 rfl hl (Nat.le_of_ble_eq_true rfl) rfl (fun ls hl => ?_)
          refine lv_iload_n hx hb dX8_cornersThere_18 rfl (lv_at hl 2 rfl) ?_
          refine lv_aload_nN hx hb dX8_cornersThere_19 rfl (lv_at hl 0 rfl) ?_
          refine lv_ifnonnullN hx hb dX8_cornersThere_20 ?_
          refine lv_iconst (v := 0) hx hb dX8_cornersThere_23 rfl ?_
          refine lv_goto (tgt := 31) hx hb dX8_cornersThere_24 rfl ?_
          obtain ⟨hP, hD⟩ := pl_bk (X := [_, _]) hT_1 hP rfl hc9_1 hD0_1 rfl
          refine lv_iadd hx hb dX8_cornersThere_31 ?_
          refine zz_i (v := nI ((smP (lvF ft st tn) (fun g => nN (mn g)) g5) + 0)) (nI_add (smP (lvF ft st tn) (fun g => nN (mn g)) g5) 0) ?_
          refine lv_istore_n (lv' := [(1, .int (nI ((smP (lvF ft st tn) (fun g => nN (mn g)) g5) + 0))), (3, .null), (2, .int (nI g5)), (0, .ref sh)]) hx hb dX8_cornersThere_32 rfl hl (Nat.le_of_ble_eq_true rfl) rfl (fun ls hl => ?_)
          refine lv_iinc (v := nI (g5 + 1)) (lv' := [(2, .int (nI (g5 + 1))), (1, .int (nI ((smP (lvF ft st tn) (fun g => nN (mn g)) g5) + 0))), (3, .null), (0, .ref sh)]) hx hb dX8_cornersThere_33 hl (k := 2) rfl (nI_add g5 1) (Nat.le_of_ble_eq_true rfl) rfl (fun ls hl => ?_)
          refine lv_goto (tgt := 4) hx hb dX8_cornersThere_36 rfl ?_
          have hl9 := lv_sub hl [0, 1, 3] rfl
          have e9_1 : nI (smP (lvF ft st tn) (fun g => nN (mn g)) (g5 + 1)) = (nI ((smP (lvF ft st tn) (fun g => nN (mn g)) g5) + 0) : Int32) := by first | exact zn_eq ((smP_y (P := lvF ft st tn) hlv2).symm) | exact congrArg nI (smP_y (P := lvF ft st tn) hlv2) | exact congrArg nI (smP_n (P := lvF ft st tn) hnl2)
          have hl9 : lv_has ls 4 [(2, .int (nI (g5 + 1))), (1, .int (nI (smP (lvF ft st tn) (fun g => nN (mn g)) (g5 + 1)))), (0, .ref sh)] := by rw [e9_1]; exact hl9
          exact ih_4 (g5 + 1) H locs ls (by first | with_reducible assumption | omega) (by first | with_reducible assumption | omega) (by first | (have e9 := smP_y (P := lvF ft st tn) (c := fun g => nN (mn g)) hlv2; omega) | (have e9 := smP_n (P := lvF ft st tn) (c := fun g => nN (mn g)) hnl2; omega)) hP hD hS hl9
        · skip
          have hcap2 := hrr2.1
          have hcap3 := hrr2.2.1
          have hlv2 : lvF ft st tn g5 := ⟨by omega, hA2, ht2⟩
          have hc9_1 : inPl L f [(oc1 fe2 (rk g5) (wd g5) (tw g5) (pa g5) (pb g5) (.ref lo2) (.ref lk2) fm2), (oc4 lk2 (kd g5) (st g5) (.ref r2) (gb g5) (it g5) we2), (oc6 r2 (.ref rx2) (.ref ry2) (nI (nN (mn g5))) rg2), (oa rx2 cI cap2 U2), (oa ry2 cI cap2 V2)] := ⟨hfe2, hlk2, hr2, hrx2, hry2, trivial⟩
          have hD0_1 := hD
          obtain ⟨T_1, hT_1, hP, hD⟩ := pl_oT hP hD hc9_1 (pwR hfe2.2 hlk2.2 hr2.2 hrx2.2 hry2.2 hne2)
          obtain ⟨hP, hD⟩ := zre (W2 := ([_, _, _, _, _, _, _] ++ va_pl T_1 f)) hP hD rfl
          refine lv_aload_n hx hb dX8_cornersThere_12 rfl (lv_at hl 2 rfl) ?_
          refine lv_iload_n hx hb dX8_cornersThere_13 rfl (lv_at hl 0 rfl) ?_
          obtain ⟨hPc, hDc, hFc, hI1⟩ := zi_sub (wc := [_, _, _, _]) hP hD hS hA [0, 1, 2, 3] (by decide +kernel) rfl
          refine zcall (st1 := [.ref r2]) (va_runV (As := [.int (nI g5)]) (rest := []) ⟨hx, hb, hml, hown, hts⟩ (k_Sheet_rowThere_yv l dC dI cI cZ cF H.size sh fa ft FA g5 fe2 lo2 (rk g5) (wd g5) (tw g5) (pa g5) (pb g5) lk2 (kd g5) (st g5) (gb g5) (it g5) we2 r2 fm2 (by first | with_reducible assumption | omega) (by first | with_reducible assumption | omega) (hFA2) (by first | exact hA2 | omega)) (csV_37 hts rfl rfl ⟨Nat.le_of_ble_eq_true rfl, Nat.le_of_ble_eq_true rfl⟩) (zPV2 (q0 := 0) (ci := 7) hPc hDc hK hXN rfl rfl) rfl rfl hl.1 rfl (lv_room (Nat.le_of_ble_eq_true rfl)) dX8_cornersThere_14 ⟨Nat.le_of_ble_eq_true rfl, Nat.le_of_ble_eq_true rfl⟩) hS hFc hFc rfl (fun t H locs ht hB hk1 hS => ?_)
          obtain ⟨hP1, hD1⟩ := hB
          rw [ht] at hP1
          replace hP := z0 hP hD hk1 hP1 hI1
          clear hk1 hPc hDc hFc hP1 hD1 ht hI1
          refine lv_astore_n (lv' := [(3, .ref r2), (2, .int (nI g5)), (1, .int (nI (smP (lvF ft st tn) (fun g => nN (mn g)) g5))), (0, .ref sh)]) hx hb dX8_cornersThere_17 rfl hl (Nat.le_of_ble_eq_true rfl) rfl (fun ls hl => ?_)
          refine lv_iload_n hx hb dX8_cornersThere_18 rfl (lv_at hl 2 rfl) ?_
          refine lv_aload_n hx hb dX8_cornersThere_19 rfl (lv_at hl 0 rfl) ?_
          refine lv_ifnonnull (tgt := 27) hx hb dX8_cornersThere_20 rfl ?_
          refine lv_aload_n hx hb dX8_cornersThere_27 rfl (lv_at hl 0 rfl) ?_
          refine va_get (D := (dC, dI)) (ci := 6) (v := .int (nI (nN (mn g5)))) (C := RX7) (T := TX7) (N := 4) hx hb hts inX7 hown hK hP 4 rfl rfl 2 (Nat.le_of_ble_eq_true rfl) (hts _ mw_182) (fun _ h9 => h9) rfl dX8_cornersThere_28 ?_
          obtain ⟨hP, hD⟩ := pl_bk (X := [_, _]) hT_1 hP rfl hc9_1 hD0_1 rfl
          refine lv_iadd hx hb dX8_cornersThere_31 ?_
          refine zz_i (v := nI ((smP (lvF ft st tn) (fun g => nN (mn g)) g5) + (nN (mn g5)))) (nI_add (smP (lvF ft st tn) (fun g => nN (mn g)) g5) (nN (mn g5))) ?_
          refine lv_istore_n (lv' := [(1, .int (nI ((smP (lvF ft st tn) (fun g => nN (mn g)) g5) + (nN (mn g5))))), (3, .ref r2), (2, .int (nI g5)), (0, .ref sh)]) hx hb dX8_cornersThere_32 rfl hl (Nat.le_of_ble_eq_true rfl) rfl (fun ls hl => ?_)
          refine lv_iinc (v := nI (g5 + 1)) (lv' := [(2, .int (nI (g5 + 1))), (1, .int (nI ((smP (lvF ft st tn) (fun g => nN (mn g)) g5) + (nN (mn g5))))), (3, .ref r2), (0, .ref sh)]) hx hb dX8_cornersThere_33 hl (k := 2) rfl (nI_add g5 1) (Nat.le_of_ble_eq_true rfl) rfl (fun ls hl => ?_)
          refine lv_goto (tgt := 4) hx hb dX8_cornersThere_36 rfl ?_
          have hl9 := lv_sub hl [0, 1, 3] rfl
          have e9_1 : nI (smP (lvF ft st tn) (fun g => nN (mn g)) (g5 + 1)) = (nI ((smP (lvF ft st tn) (fun g => nN (mn g)) g5) + (nN (mn g5))) : Int32) := by first | exact zn_eq ((smP_y (P := lvF ft st tn) hlv2).symm) | exact congrArg nI (smP_y (P := lvF ft st tn) hlv2) | exact congrArg nI (smP_n (P := lvF ft st tn) hnl2)
          have hl9 : lv_has ls 4 [(2, .int (nI (g5 + 1))), (1, .int (nI (smP (lvF ft st tn) (fun g => nN (mn g)) (g5 + 1)))), (0, .ref sh)] := by rw [e9_1]; exact hl9
          exact ih_4 (g5 + 1) H locs ls (by first | with_reducible assumption | omega) (by first | with_reducible assumption | omega) (by first | (have e9 := smP_y (P := lvF ft st tn) (c := fun g => nN (mn g)) hlv2; omega) | (have e9 := smP_n (P := lvF ft st tn) (c := fun g => nN (mn g)) hnl2; omega)) hP hD hS hl9
        · skip
          have hcap2 := hrr2.1
          have hcap3 := hrr2.2.1
          have hnl2 : ¬ lvF ft st tn g5 := fun h => hA2 h.2.1
          have hc9_1 : inPl L f [(oc1 fe2 (rk g5) (wd g5) (tw g5) (pa g5) (pb g5) (.ref lo2) (.ref lk2) fm2), (oc4 lk2 (kd g5) (st g5) (.ref r2) (gb g5) (it g5) we2), (oc6 r2 (.ref rx2) (.ref ry2) (nI (nN (mn g5))) rg2), (oa rx2 cI cap2 U2), (oa ry2 cI cap2 V2)] := ⟨hfe2, hlk2, hr2, hrx2, hry2, trivial⟩
          have hD0_1 := hD
          obtain ⟨T_1, hT_1, hP, hD⟩ := pl_oT hP hD hc9_1 (pwR hfe2.2 hlk2.2 hr2.2 hrx2.2 hry2.2 hne2)
          obtain ⟨hP, hD⟩ := zre (W2 := ([_, _, _, _, _, _, _] ++ va_pl T_1 f)) hP hD rfl
          refine lv_aload_n hx hb dX8_cornersThere_12 rfl (lv_at hl 2 rfl) ?_
          refine lv_iload_n hx hb dX8_cornersThere_13 rfl (lv_at hl 0 rfl) ?_
          obtain ⟨hPc, hDc, hFc, hI1⟩ := zi_sub (wc := [_, _, _, _]) hP hD hS hA [0, 1, 2, 3] (by decide +kernel) rfl
          refine zcall (st1 := [.null]) (va_runV (As := [.int (nI g5)]) (rest := []) ⟨hx, hb, hml, hown, hts⟩ (k_Sheet_rowThere_sv l dC dI cI cZ cF H.size sh fa ft FA g5 fe2 lo2 (rk g5) (wd g5) (tw g5) (pa g5) (pb g5) lk2 (kd g5) (st g5) (gb g5) (it g5) we2 fm2 (.ref r2) (by first | with_reducible assumption | omega) (by first | with_reducible assumption | omega) (hFA2) (by first | exact hA2 | omega)) (csV_37 hts rfl rfl ⟨Nat.le_of_ble_eq_true rfl, Nat.le_of_ble_eq_true rfl⟩) (zPV2 (q0 := 0) (ci := 7) hPc hDc hK hXN rfl rfl) rfl rfl hl.1 rfl (lv_room (Nat.le_of_ble_eq_true rfl)) dX8_cornersThere_14 ⟨Nat.le_of_ble_eq_true rfl, Nat.le_of_ble_eq_true rfl⟩) hS hFc hFc rfl (fun t H locs ht hB hk1 hS => ?_)
          obtain ⟨hP1, hD1⟩ := hB
          rw [ht] at hP1
          replace hP := z0 hP hD hk1 hP1 hI1
          clear hk1 hPc hDc hFc hP1 hD1 ht hI1
          refine lv_astore_nN (lv' := [(3, .null), (2, .int (nI g5)), (1, .int (nI (smP (lvF ft st tn) (fun g => nN (mn g)) g5))), (0, .ref sh)]) hx hb dX8_cornersThere_17 rfl hl (Nat.le_of_ble_eq_true rfl) rfl (fun ls hl => ?_)
          refine lv_iload_n hx hb dX8_cornersThere_18 rfl (lv_at hl 2 rfl) ?_
          refine lv_aload_nN hx hb dX8_cornersThere_19 rfl (lv_at hl 0 rfl) ?_
          refine lv_ifnonnullN hx hb dX8_cornersThere_20 ?_
          refine lv_iconst (v := 0) hx hb dX8_cornersThere_23 rfl ?_
          refine lv_goto (tgt := 31) hx hb dX8_cornersThere_24 rfl ?_
          obtain ⟨hP, hD⟩ := pl_bk (X := [_, _]) hT_1 hP rfl hc9_1 hD0_1 rfl
          refine lv_iadd hx hb dX8_cornersThere_31 ?_
          refine zz_i (v := nI ((smP (lvF ft st tn) (fun g => nN (mn g)) g5) + 0)) (nI_add (smP (lvF ft st tn) (fun g => nN (mn g)) g5) 0) ?_
          refine lv_istore_n (lv' := [(1, .int (nI ((smP (lvF ft st tn) (fun g => nN (mn g)) g5) + 0))), (3, .null), (2, .int (nI g5)), (0, .ref sh)]) hx hb dX8_cornersThere_32 rfl hl (Nat.le_of_ble_eq_true rfl) rfl (fun ls hl => ?_)
          refine lv_iinc (v := nI (g5 + 1)) (lv' := [(2, .int (nI (g5 + 1))), (1, .int (nI ((smP (lvF ft st tn) (fun g => nN (mn g)) g5) + 0))), (3, .null), (0, .ref sh)]) hx hb dX8_cornersThere_33 hl (k := 2) rfl (nI_add g5 1) (Nat.le_of_ble_eq_true rfl) rfl (fun ls hl => ?_)
          refine lv_goto (tgt := 4) hx hb dX8_cornersThere_36 rfl ?_
          have hl9 := lv_sub hl [0, 1, 3] rfl
          have e9_1 : nI (smP (lvF ft st tn) (fun g => nN (mn g)) (g5 + 1)) = (nI ((smP (lvF ft st tn) (fun g => nN (mn g)) g5) + 0) : Int32) := by first | exact zn_eq ((smP_y (P := lvF ft st tn) hlv2).symm) | exact congrArg nI (smP_y (P := lvF ft st tn) hlv2) | exact congrArg nI (smP_n (P := lvF ft st tn) hnl2)
          have hl9 : lv_has ls 4 [(2, .int (nI (g5 + 1))), (1, .int (nI (smP (lvF ft st tn) (fun g => nN (mn g)) (g5 + 1)))), (0, .ref sh)] := by rw [e9_1]; exact hl9
          exact ih_4 (g5 + 1) H locs ls (by first | with_reducible assumption | omega) (by first | with_reducible assumption | omega) (by first | (have e9 := smP_y (P := lvF ft st tn) (c := fun g => nN (mn g)) hlv2; omega) | (have e9 := smP_n (P := lvF ft st tn) (c := fun g => nN (mn g)) hnl2; omega)) hP hD hS hl9
  have e9_1 : nI (smP (lvF ft st tn) (fun g => nN (mn g)) 0) = (0 : Int32) := by rfl
  have hl9 : lv_has ls 4 [(2, .int (nI 0)), (1, .int (nI (smP (lvF ft st tn) (fun g => nN (mn g)) 0))), (0, .ref sh)] := by rw [e9_1]; exact lv_sub hl [0, 1, 2] rfl
  exact hl_4 _ 0 s.heap [] ls (Nat.lt_succ_self _) (by first | with_reducible assumption | omega) (Nat.le_refl 0) hP hD hS hl9
end
section
set_option maxHeartbeats 4000000 in
set_option maxRecDepth 100000 in
theorem k_Row_turn_a (l : Launch) (dC : Nat → ClassId) (dI : Nat → Nat → Nat) (cI cZ cF : ClassId) (sz : Nat) (r : Nat) (rx : Nat) (ry : Nat) (n : Nat) (cap : Nat) (X : Nat → Int32) (Y : Nat → Int32) (rg : Int32) (i : Nat) (px : Int32) (py : Int32) (hn : n ≤ cap) (hcap : cap ≤ 1000) (hi : i < n) : Met l yX7_turn (.code yX7_turn cX7_turn 5 (some .int) :: ws0) ({ frames := 0, cells := 0, slots := 0, locals := 0 } : Room) (va_Pc [.ref r, .int (nI i), .int px, .int py] (zPre (dC, dI) classes (zTy cI cZ cF) [(oc6 r (.ref rx) (.ref ry) (nI n) rg), (oa rx cI cap X), (oa ry cI cap Y)] sz zXN)) (zQe (fun v9 t => ∃ (b9 : Int32), v9 = (some (.int b9)) ∧ va_P (dC, dI) classes [(oc6 r (.ref rx) (.ref ry) (nI n) rg), (oa rx cI cap X), (oa ry cI cap Y)] t.heap ∧ va_D (va_A [(oc6 r (.ref rx) (.ref ry) (nI n) rg), (oa rx cI cap X), (oa ry cI cap Y)] sz) [(oc6 r (.ref rx) (.ref ry) (nI n) rg), (oa rx cI cap X), (oa ry cI cap Y)]) (va_A [(oc6 r (.ref rx) (.ref ry) (nI n) rg), (oa rx cI cap X), (oa ry cI cap Y)] sz)) 0 0 (va_A [(oc6 r (.ref rx) (.ref ry) (nI n) rg), (oa rx cI cap X), (oa ry cI cap Y)] sz) := by
  refine Met.ofW (cc := cX7_turn) (maxL := 5) (ret := (some .int)) rfl rfl ?_
  intro p e s m args below meth c s₁ B hml hv
  obtain ⟨rfl, hsz, hP, hK, hD0, hXN⟩ := hv
  have hx := B.exec
  have hb := B.bytes
  have hr := B.returns
  have hts0 := atoms_spec (ws := .code yX7_turn cX7_turn 5 (some .int) :: ws0) B.pre
  have hts : ∀ w9 ∈ ws0, w9.before ([.ref r, .int (nI i), .int px, .int py] : List Value).toArray s = true := fun w9 h => hts0 w9 (List.mem_cons_of_mem _ h)
  have hown : s.vm.findClass "ScaleShop$Row" = some m.cls := findClass_of_methodNamed B.named
  have hlocks := B.notSynchronized
  subst hsz
  have hD := hD0.self (sz := s.heap.size)
  clear hD0
  generalize hAe : va_A [(oc6 r (.ref rx) (.ref ry) (nI n) rg), (oa rx cI cap X), (oa ry cI cap Y)] s.heap.size = A at hD ⊢
  have hA : ∀ q : Nat, s.heap.size ≤ q → A q := fun q h => by rw [← hAe]; exact Or.inr h
  clear hAe
  have hS : va_S A s.heap s.heap [] := va_S.rf
  have hP : va_P (dC, dI) classes [(oc6 r (.ref rx) (.ref ry) (nI n) rg), (oa rx cI cap X), (oa ry cI cap Y)] s.heap := hP
  obtain ⟨Q9, hQ9⟩ : ∃ Q9 : State → Prop, Q9 = MQ below (zQe (fun v9 t => ∃ (b9 : Int32), v9 = (some (.int b9)) ∧ va_P (dC, dI) classes [(oc6 r (.ref rx) (.ref ry) (nI n) rg), (oa rx cI cap X), (oa ry cI cap Y)] t.heap ∧ va_D A [(oc6 r (.ref rx) (.ref ry) (nI n) rg), (oa rx cI cap X), (oa ry cI cap Y)]) A) ([.ref r, .int (nI i), .int px, .int py] : List Value).toArray s 0 0 A := ⟨_, rfl⟩
  rw [← hQ9]
  have hl := lv_entry ([.ref r, .int (nI i), .int px, .int py]) (n := 5) (Nat.le_of_ble_eq_true rfl)
  rw [lg_entry_eq]
  generalize (lg_sl ([.ref r, .int (nI i), .int px, .int py]) ++ List.replicate (5 - (lg_sl ([.ref r, .int (nI i), .int px, .int py])).length) Slot.unset).toArray = ls at hl ⊢
  have hl : lv_has ls 5 [(0, .ref r), (1, .int (nI i)), (2, .int px), (3, .int py)] := hl
  refine lv_iload_n hx hb dX7_turn_0 rfl (lv_at hl 1 rfl) ?_
  refine lv_iconst (v := 1) hx hb dX7_turn_1 rfl ?_
  refine lv_iadd hx hb dX7_turn_2 ?_
  refine zz_i (v := nI (i + 1)) (nI_add i 1) ?_
  refine lv_aload_n hx hb dX7_turn_3 rfl (lv_at hl 0 rfl) ?_
  refine va_get (D := (dC, dI)) (ci := 6) (v := .int (nI n)) (C := RX7) (T := TX7) (N := 4) hx hb hts inX7 hown hK hP 0 rfl rfl 2 (Nat.le_of_ble_eq_true rfl) (hts _ mw_175) (fun _ h9 => h9) rfl dX7_turn_4 ?_
  have hj_1 : W p l e ((headSpec (.code yX7_turn cX7_turn 5 (some .int) :: ws0) ({ frames := 0, cells := 0, slots := 0, locals := 0 } : Room)).room) s m ([.ref r, .int (nI i), .int px, .int py] : List Value).toArray below meth c s.heap [] 0 0 Q9 (F0 m 17 ls [.int (nI (nxt n i))]) := by
    have hnx := nxt_lt (n := n) (i := i) (by omega)
    refine lv_istore (lv' := [(4, .int (nI (nxt n i))), (0, .ref r), (1, .int (nI i)), (2, .int px), (3, .int py)]) hx hb dX7_turn_17 hl (Nat.le_of_ble_eq_true rfl) rfl (fun ls hl => ?_)
    refine lv_aload_n hx hb dX7_turn_19 rfl (lv_at hl 1 rfl) ?_
    refine va_get (D := (dC, dI)) (ci := 6) (v := .ref rx) (C := RX7) (T := TX7) (N := 4) hx hb hts inX7 hown hK hP 0 rfl rfl 0 (Nat.le_of_ble_eq_true rfl) (hts _ mw_161) (fun _ h9 => h9) rfl dX7_turn_20 ?_
    refine lv_iload hx hb dX7_turn_23 (lv_at hl 0 rfl) ?_
    have b9_2 : nxt n i < cap := by omega
    have b9_3 : zlt (cap) := show cap < 2147483648 by omega
    refine z_iald hx hb hK hP 1 0 rfl rfl (e := nxt n i) rfl b9_2 b9_3 dX7_turn_25 ?_
    refine lv_aload_n hx hb dX7_turn_26 rfl (lv_at hl 1 rfl) ?_
    refine va_get (D := (dC, dI)) (ci := 6) (v := .ref rx) (C := RX7) (T := TX7) (N := 4) hx hb hts inX7 hown hK hP 0 rfl rfl 0 (Nat.le_of_ble_eq_true rfl) (hts _ mw_161) (fun _ h9 => h9) rfl dX7_turn_27 ?_
    refine lv_iload_n hx hb dX7_turn_30 rfl (lv_at hl 2 rfl) ?_
    have b9_4 : i < cap := by omega
    refine z_iald hx hb hK hP 1 0 rfl rfl (e := i) rfl b9_4 b9_3 dX7_turn_31 ?_
    refine lv_isub hx hb dX7_turn_32 ?_
    refine lv_iload_n hx hb dX7_turn_33 rfl (lv_at hl 4 rfl) ?_
    refine lv_aload_n hx hb dX7_turn_34 rfl (lv_at hl 1 rfl) ?_
    refine va_get (D := (dC, dI)) (ci := 6) (v := .ref ry) (C := RX7) (T := TX7) (N := 4) hx hb hts inX7 hown hK hP 0 rfl rfl 1 (Nat.le_of_ble_eq_true rfl) (hts _ mw_168) (fun _ h9 => h9) rfl dX7_turn_35 ?_
    refine lv_iload_n hx hb dX7_turn_38 rfl (lv_at hl 2 rfl) ?_
    refine z_iald hx hb hK hP 2 0 rfl rfl (e := i) rfl b9_4 b9_3 dX7_turn_39 ?_
    refine lv_isub hx hb dX7_turn_40 ?_
    refine lv_imul hx hb dX7_turn_41 ?_
    refine lv_aload_n hx hb dX7_turn_42 rfl (lv_at hl 1 rfl) ?_
    refine va_get (D := (dC, dI)) (ci := 6) (v := .ref ry) (C := RX7) (T := TX7) (N := 4) hx hb hts inX7 hown hK hP 0 rfl rfl 1 (Nat.le_of_ble_eq_true rfl) (hts _ mw_168) (fun _ h9 => h9) rfl dX7_turn_43 ?_
    refine lv_iload hx hb dX7_turn_46 (lv_at hl 0 rfl) ?_
    refine z_iald hx hb hK hP 2 0 rfl rfl (e := nxt n i) rfl b9_2 b9_3 dX7_turn_48 ?_
    refine lv_aload_n hx hb dX7_turn_49 rfl (lv_at hl 1 rfl) ?_
    refine va_get (D := (dC, dI)) (ci := 6) (v := .ref ry) (C := RX7) (T := TX7) (N := 4) hx hb hts inX7 hown hK hP 0 rfl rfl 1 (Nat.le_of_ble_eq_true rfl) (hts _ mw_168) (fun _ h9 => h9) rfl dX7_turn_50 ?_
    refine lv_iload_n hx hb dX7_turn_53 rfl (lv_at hl 2 rfl) ?_
    refine z_iald hx hb hK hP 2 0 rfl rfl (e := i) rfl b9_4 b9_3 dX7_turn_54 ?_
    refine lv_isub hx hb dX7_turn_55 ?_
    refine lv_iload_n hx hb dX7_turn_56 rfl (lv_at hl 3 rfl) ?_
    refine lv_aload_n hx hb dX7_turn_57 rfl (lv_at hl 1 rfl) ?_
    refine va_get (D := (dC, dI)) (ci := 6) (v := .ref rx) (C := RX7) (T := TX7) (N := 4) hx hb hts inX7 hown hK hP 0 rfl rfl 0 (Nat.le_of_ble_eq_true rfl) (hts _ mw_161) (fun _ h9 => h9) rfl dX7_turn_58 ?_
    refine lv_iload_n hx hb dX7_turn_61 rfl (lv_at hl 2 rfl) ?_
    refine z_iald hx hb hK hP 1 0 rfl rfl (e := i) rfl b9_4 b9_3 dX7_turn_62 ?_
    refine lv_isub hx hb dX7_turn_63 ?_
    refine lv_imul hx hb dX7_turn_64 ?_
    refine lv_isub hx hb dX7_turn_65 ?_
    obtain ⟨hP9, hD9⟩ := zu_sub (wc := [_, _, _]) hP hD [true, true, true] rfl rfl
    rw [hQ9]
    exact W.iret (v := (((X (nxt n i)) - (X i)) * (py - (Y i))) - (((Y (nxt n i)) - (Y i)) * (px - (X i)))) hx hb hr (fun t ht hW => ⟨⟨_, rfl, ((((X (nxt n i)) - (X i)) * (py - (Y i))) - (((Y (nxt n i)) - (Y i)) * (px - (X i)))), rfl, by rw [ht]; exact hP9, hD9⟩, hS.F ht⟩) hS.2.2 dX7_turn_66
  have b9_6 : zlt ((i + 1)) := show (i + 1) < 2147483648 by omega
  have b9_7 : zlt (n) := show n < 2147483648 by omega
  refine lv_icmp_ge (tgt := 16) hx hb dX7_turn_7 rfl (fun c_5 => ?_) (fun c_5 => ?_)
  · have c_5 : ((n : Nat) : Int) ≤ ((i + 1 : Nat) : Int) := zc_le (nI_toInt b9_7) (nI_toInt b9_6) c_5
    refine lv_iconst (v := 0) hx hb dX7_turn_16 rfl ?_
    refine zz_i (v := nI (nxt n i)) (by first | (rw [nxt, if_pos (by omega)]) | (rw [nxt, if_neg (by omega)]; first | done | rfl)) ?_
    exact hj_1 
  · have c_5 : ((i + 1 : Nat) : Int) < ((n : Nat) : Int) := zc_nle (nI_toInt b9_7) (nI_toInt b9_6) c_5
    refine lv_iload_n hx hb dX7_turn_10 rfl (lv_at hl 1 rfl) ?_
    refine lv_iconst (v := 1) hx hb dX7_turn_11 rfl ?_
    refine lv_iadd hx hb dX7_turn_12 ?_
    refine zz_i (v := nI (i + 1)) (nI_add i 1) ?_
    refine lv_goto (tgt := 17) hx hb dX7_turn_13 rfl ?_
    refine zz_i (v := nI (nxt n i)) (by first | (rw [nxt, if_pos (by omega)]) | (rw [nxt, if_neg (by omega)]; first | done | rfl)) ?_
    exact hj_1 
set_option maxHeartbeats 4000000 in
set_option maxRecDepth 100000 in
theorem k_Fr_isHalfBelow_a (l : Launch) (dC : Nat → ClassId) (dI : Nat → Nat → Nat) (cI cZ cF : ClassId) (sz : Nat) (fr : Nat) (y1 : Int64) (y2 : Int64) (gp9 : Int32) : Met l yX3_isHalfBelow (.code yX3_isHalfBelow cX3_isHalfBelow 2 (some .boolean) :: ws0) ({ frames := 0, cells := 0, slots := 0, locals := 0 } : Room) (va_Pc [.ref fr, .int gp9] (zPre (dC, dI) classes (zTy cI cZ cF) [(oc2 fr y1 y2)] sz zXN)) (zQe (fun v9 t => ∃ (b9 : Int32), v9 = (some (.int b9)) ∧ va_P (dC, dI) classes [(oc2 fr y1 y2)] t.heap ∧ va_D (va_A [(oc2 fr y1 y2)] sz) [(oc2 fr y1 y2)]) (va_A [(oc2 fr y1 y2)] sz)) 0 0 (va_A [(oc2 fr y1 y2)] sz) := by
  refine Met.ofW (cc := cX3_isHalfBelow) (maxL := 2) (ret := (some .boolean)) rfl rfl ?_
  intro p e s m args below meth c s₁ B hml hv
  obtain ⟨rfl, hsz, hP, hK, hD0, hXN⟩ := hv
  have hx := B.exec
  have hb := B.bytes
  have hr := B.returns
  have hts0 := atoms_spec (ws := .code yX3_isHalfBelow cX3_isHalfBelow 2 (some .boolean) :: ws0) B.pre
  have hts : ∀ w9 ∈ ws0, w9.before ([.ref fr, .int gp9] : List Value).toArray s = true := fun w9 h => hts0 w9 (List.mem_cons_of_mem _ h)
  have hown : s.vm.findClass "ScaleShop$Fraction" = some m.cls := findClass_of_methodNamed B.named
  have hlocks := B.notSynchronized
  subst hsz
  have hD := hD0.self (sz := s.heap.size)
  clear hD0
  generalize hAe : va_A [(oc2 fr y1 y2)] s.heap.size = A at hD ⊢
  have hA : ∀ q : Nat, s.heap.size ≤ q → A q := fun q h => by rw [← hAe]; exact Or.inr h
  clear hAe
  have hS : va_S A s.heap s.heap [] := va_S.rf
  have hP : va_P (dC, dI) classes [(oc2 fr y1 y2)] s.heap := hP
  obtain ⟨Q9, hQ9⟩ : ∃ Q9 : State → Prop, Q9 = MQ below (zQe (fun v9 t => ∃ (b9 : Int32), v9 = (some (.int b9)) ∧ va_P (dC, dI) classes [(oc2 fr y1 y2)] t.heap ∧ va_D A [(oc2 fr y1 y2)]) A) ([.ref fr, .int gp9] : List Value).toArray s 0 0 A := ⟨_, rfl⟩
  rw [← hQ9]
  have hl := lv_entry ([.ref fr, .int gp9]) (n := 2) (Nat.le_of_ble_eq_true rfl)
  rw [lg_entry_eq]
  generalize (lg_sl ([.ref fr, .int gp9]) ++ List.replicate (2 - (lg_sl ([.ref fr, .int gp9])).length) Slot.unset).toArray = ls at hl ⊢
  have hl : lv_has ls 2 [(0, .ref fr), (1, .int gp9)] := hl
  refine lv_ldc2 hx hb hown (hts _ mw_1099) dX3_isHalfBelow_0 ?_
  refine lv_aload_n hx hb dX3_isHalfBelow_3 rfl (lv_at hl 0 rfl) ?_
  refine va_get (D := (dC, dI)) (ci := 2) (v := .long y1) (C := RX3) (T := TX3) (N := 2) hx hb hts inX3 hown hK hP 0 rfl rfl 0 (Nat.le_of_ble_eq_true rfl) (hts _ mw_273) (fun _ h9 => h9) rfl dX3_isHalfBelow_4 ?_
  refine lv_lmul hx hb dX3_isHalfBelow_7 ?_
  refine lv_iload_n hx hb dX3_isHalfBelow_8 rfl (lv_at hl 1 rfl) ?_
  refine lv_i2l (v := gp9.toInt64) hx hb dX3_isHalfBelow_9 (rfl) ?_
  refine lv_iload_n hx hb dX3_isHalfBelow_10 rfl (lv_at hl 1 rfl) ?_
  refine lv_i2l (v := gp9.toInt64) hx hb dX3_isHalfBelow_11 (rfl) ?_
  refine lv_lmul hx hb dX3_isHalfBelow_12 ?_
  refine lv_aload_n hx hb dX3_isHalfBelow_13 rfl (lv_at hl 0 rfl) ?_
  refine va_get (D := (dC, dI)) (ci := 2) (v := .long y2) (C := RX3) (T := TX3) (N := 2) hx hb hts inX3 hown hK hP 0 rfl rfl 1 (Nat.le_of_ble_eq_true rfl) (hts _ mw_275) (fun _ h9 => h9) rfl dX3_isHalfBelow_14 ?_
  refine lv_lmul hx hb dX3_isHalfBelow_17 ?_
  refine W.lcmp hx hb dX3_isHalfBelow_18 ?_
  refine lv_if_ge (tgt := 26) hx hb dX3_isHalfBelow_19 rfl (fun c_1 => ?_) (fun c_1 => ?_)
  · have c_1 : ((gp9.toInt64 * gp9.toInt64) * y2).toInt ≤ (4 * y1).toInt := zl_ge rfl rfl c_1
    refine lv_iconst (v := 0) hx hb dX3_isHalfBelow_26 rfl ?_
    obtain ⟨hP9, hD9⟩ := zu_sub (wc := [_]) hP hD [true] rfl rfl
    rw [hQ9]
    exact W.zret (ty := .boolean) (v := 0) hx hb hr (rfl) (fun t ht hW => ⟨⟨_, rfl, 0, rfl, by rw [ht]; exact hP9, hD9⟩, hS.F ht⟩) hS.2.2 dX3_isHalfBelow_27
  · have c_1 : (4 * y1).toInt < ((gp9.toInt64 * gp9.toInt64) * y2).toInt := zl_nge rfl rfl c_1
    refine lv_iconst (v := 1) hx hb dX3_isHalfBelow_22 rfl ?_
    refine lv_goto (tgt := 27) hx hb dX3_isHalfBelow_23 rfl ?_
    obtain ⟨hP9, hD9⟩ := zu_sub (wc := [_]) hP hD [true] rfl rfl
    rw [hQ9]
    exact W.zret (ty := .boolean) (v := 1) hx hb hr (rfl) (fun t ht hW => ⟨⟨_, rfl, 1, rfl, by rw [ht]; exact hP9, hD9⟩, hS.F ht⟩) hS.2.2 dX3_isHalfBelow_27
set_option maxHeartbeats 4000000 in
set_option maxRecDepth 100000 in
theorem k_Fr_reduced_a (l : Launch) (dC : Nat → ClassId) (dI : Nat → Nat → Nat) (cI cZ cF : ClassId) (sz : Nat) (fr : Nat) (y1 : Int64) (y2 : Int64) (wv : Int32) : Met l yX3_reduced (.code yX3_reduced cX3_reduced 9 (some .long) :: ws0) ({ frames := 0, cells := 0, slots := 0, locals := 0 } : Room) (va_Pc [.ref fr, .int wv] (zPre (dC, dI) classes (zTy cI cZ cF) [(oc2 fr y1 y2)] sz zXN)) (zQe (fun v9 t => ∃ (b9 : Int64), v9 = (some (.long b9)) ∧ va_P (dC, dI) classes [(oc2 fr y1 y2)] t.heap ∧ va_D (va_A [(oc2 fr y1 y2)] sz) [(oc2 fr y1 y2)]) (va_A [(oc2 fr y1 y2)] sz)) 0 0 (va_A [(oc2 fr y1 y2)] sz) := by
  refine Met.ofW (cc := cX3_reduced) (maxL := 9) (ret := (some .long)) rfl rfl ?_
  intro p e s m args below meth c s₁ B hml hv
  obtain ⟨rfl, hsz, hP, hK, hD0, hXN⟩ := hv
  have hx := B.exec
  have hb := B.bytes
  have hr := B.returns
  have hts0 := atoms_spec (ws := .code yX3_reduced cX3_reduced 9 (some .long) :: ws0) B.pre
  have hts : ∀ w9 ∈ ws0, w9.before ([.ref fr, .int wv] : List Value).toArray s = true := fun w9 h => hts0 w9 (List.mem_cons_of_mem _ h)
  have hown : s.vm.findClass "ScaleShop$Fraction" = some m.cls := findClass_of_methodNamed B.named
  have hlocks := B.notSynchronized
  subst hsz
  have hD := hD0.self (sz := s.heap.size)
  clear hD0
  generalize hAe : va_A [(oc2 fr y1 y2)] s.heap.size = A at hD ⊢
  have hA : ∀ q : Nat, s.heap.size ≤ q → A q := fun q h => by rw [← hAe]; exact Or.inr h
  clear hAe
  have hS : va_S A s.heap s.heap [] := va_S.rf
  have hP : va_P (dC, dI) classes [(oc2 fr y1 y2)] s.heap := hP
  obtain ⟨Q9, hQ9⟩ : ∃ Q9 : State → Prop, Q9 = MQ below (zQe (fun v9 t => ∃ (b9 : Int64), v9 = (some (.long b9)) ∧ va_P (dC, dI) classes [(oc2 fr y1 y2)] t.heap ∧ va_D A [(oc2 fr y1 y2)]) A) ([.ref fr, .int wv] : List Value).toArray s 0 0 A := ⟨_, rfl⟩
  rw [← hQ9]
  have hl := lv_entry ([.ref fr, .int wv]) (n := 9) (Nat.le_of_ble_eq_true rfl)
  rw [lg_entry_eq]
  generalize (lg_sl ([.ref fr, .int wv]) ++ List.replicate (9 - (lg_sl ([.ref fr, .int wv])).length) Slot.unset).toArray = ls at hl ⊢
  have hl : lv_has ls 9 [(0, .ref fr), (1, .int wv)] := hl
  refine lv_aload_n hx hb dX3_reduced_0 rfl (lv_at hl 0 rfl) ?_
  refine va_get (D := (dC, dI)) (ci := 2) (v := .long y1) (C := RX3) (T := TX3) (N := 2) hx hb hts inX3 hown hK hP 0 rfl rfl 0 (Nat.le_of_ble_eq_true rfl) (hts _ mw_273) (fun _ h9 => h9) rfl dX3_reduced_1 ?_
  refine lv_lstore_n (lv' := [(2, .long y1), (0, .ref fr), (1, .int wv)]) hx hb dX3_reduced_4 rfl hl (Nat.le_of_ble_eq_true rfl) rfl (fun ls hl => ?_)
  refine lv_aload_n hx hb dX3_reduced_5 rfl (lv_at hl 1 rfl) ?_
  refine va_get (D := (dC, dI)) (ci := 2) (v := .long y2) (C := RX3) (T := TX3) (N := 2) hx hb hts inX3 hown hK hP 0 rfl rfl 1 (Nat.le_of_ble_eq_true rfl) (hts _ mw_275) (fun _ h9 => h9) rfl dX3_reduced_6 ?_
  refine lv_lstore (lv' := [(4, .long y2), (2, .long y1), (0, .ref fr), (1, .int wv)]) hx hb dX3_reduced_9 hl (Nat.le_of_ble_eq_true rfl) rfl (fun ls hl => ?_)
  refine lv_iconst (v := 0) hx hb dX3_reduced_11 rfl ?_
  refine lv_istore (lv' := [(6, .int 0), (4, .long y2), (2, .long y1), (0, .ref fr), (1, .int wv)]) hx hb dX3_reduced_12 hl (Nat.le_of_ble_eq_true rfl) rfl (fun ls hl => ?_)
  have hl_14 : ∀ (n9 : Nat) (i : Nat) (aa : Int64) (bb : Int64) (H : Heap) (locs : List Loc) (ls : Array Slot), 200 - i < n9 → (i ≤ 200) → va_P (dC, dI) classes [(oc2 fr y1 y2)] H → va_D A [(oc2 fr y1 y2)] → va_S A s.heap H locs → lv_has ls 9 [(6, .int (nI i)), (4, .long bb), (2, .long aa), (0, .ref fr), (1, .int wv)] → W p l e ((headSpec (.code yX3_reduced cX3_reduced 9 (some .long) :: ws0) ({ frames := 0, cells := 0, slots := 0, locals := 0 } : Room)).room) s m ([.ref fr, .int wv] : List Value).toArray below meth c H locs 0 0 Q9 (F0 m 14 ls []) := by
    intro n9
    induction n9 with
    | zero => intro i aa bb H locs ls hm; exact absurd hm (Nat.not_lt_zero _)
    | succ n9 ih_14 =>
      intro i aa bb H locs ls hm hi hP hD hS hl
      refine lv_iload hx hb dX3_reduced_14 (lv_at hl 0 rfl) ?_
      refine lv_sipush (v := 200) hx hb dX3_reduced_16 rfl ?_
      have b9_2 : zlt (i) := show i < 2147483648 by omega
      refine lv_icmp_ge (tgt := 48) hx hb dX3_reduced_19 rfl (fun c_1 => ?_) (fun c_1 => ?_)
      · have c_1 : 200 ≤ ((i : Nat) : Int) := zc_le rfl (nI_toInt b9_2) c_1
        refine lv_lload_n hx hb dX3_reduced_48 rfl (lv_at hl 2 rfl) ?_
        refine lv_lconst (v := 0) hx hb dX3_reduced_49 rfl ?_
        refine W.lcmp hx hb dX3_reduced_50 ?_
        refine lv_if_ne (tgt := 64) hx hb dX3_reduced_51 rfl (fun c_3 => ?_) (fun c_3 => ?_)
        · have c_3 : ¬ aa.toInt = 0 := zl_ne rfl rfl c_3
          refine lv_iload_n hx hb dX3_reduced_64 rfl (lv_at hl 4 rfl) ?_
          refine lv_if_ne (tgt := 75) hx hb dX3_reduced_65 rfl (fun c_4 => ?_) (fun c_4 => ?_)
          · have c_4 : ¬ wv.toInt = 0 := zc_ne rfl rfl c_4
            refine lv_aload_n hx hb dX3_reduced_75 rfl (lv_at hl 3 rfl) ?_
            refine va_get (D := (dC, dI)) (ci := 2) (v := .long y2) (C := RX3) (T := TX3) (N := 2) hx hb hts inX3 hown hK hP 0 rfl rfl 1 (Nat.le_of_ble_eq_true rfl) (hts _ mw_275) (fun _ h9 => h9) rfl dX3_reduced_76 ?_
            refine lv_lload_n hx hb dX3_reduced_79 rfl (lv_at hl 2 rfl) ?_
            refine lv_ldiv hx hb dX3_reduced_80 (fun h9 => (show ¬ aa.toInt = 0 by assumption) (by rw [h9]; decide)) ?_
            obtain ⟨hP9, hD9⟩ := zu_sub (wc := [_]) hP hD [true] rfl rfl
            rw [hQ9]
            exact W.lret (v := y2 / aa) hx hb hr (fun t ht hW => ⟨⟨_, rfl, (y2 / aa), rfl, by rw [ht]; exact hP9, hD9⟩, hS.F ht⟩) hS.2.2 dX3_reduced_81
          · have c_4 : wv.toInt = 0 := zc_eq rfl rfl c_4
            refine lv_aload_n hx hb dX3_reduced_68 rfl (lv_at hl 3 rfl) ?_
            refine va_get (D := (dC, dI)) (ci := 2) (v := .long y1) (C := RX3) (T := TX3) (N := 2) hx hb hts inX3 hown hK hP 0 rfl rfl 0 (Nat.le_of_ble_eq_true rfl) (hts _ mw_273) (fun _ h9 => h9) rfl dX3_reduced_69 ?_
            refine lv_goto (tgt := 79) hx hb dX3_reduced_72 rfl ?_
            refine lv_lload_n hx hb dX3_reduced_79 rfl (lv_at hl 2 rfl) ?_
            refine lv_ldiv hx hb dX3_reduced_80 (fun h9 => (show ¬ aa.toInt = 0 by assumption) (by rw [h9]; decide)) ?_
            obtain ⟨hP9, hD9⟩ := zu_sub (wc := [_]) hP hD [true] rfl rfl
            rw [hQ9]
            exact W.lret (v := y1 / aa) hx hb hr (fun t ht hW => ⟨⟨_, rfl, (y1 / aa), rfl, by rw [ht]; exact hP9, hD9⟩, hS.F ht⟩) hS.2.2 dX3_reduced_81
        · have c_3 : aa.toInt = 0 := zl_eq rfl rfl c_3
          refine lv_iload_n hx hb dX3_reduced_54 rfl (lv_at hl 4 rfl) ?_
          refine lv_if_ne (tgt := 62) hx hb dX3_reduced_55 rfl (fun c_5 => ?_) (fun c_5 => ?_)
          · have c_5 : ¬ wv.toInt = 0 := zc_ne rfl rfl c_5
            refine lv_lconst (v := 1) hx hb dX3_reduced_62 rfl ?_
            obtain ⟨hP9, hD9⟩ := zu_sub (wc := [_]) hP hD [true] rfl rfl
            rw [hQ9]
            exact W.lret (v := 1) hx hb hr (fun t ht hW => ⟨⟨_, rfl, 1, rfl, by rw [ht]; exact hP9, hD9⟩, hS.F ht⟩) hS.2.2 dX3_reduced_63
          · have c_5 : wv.toInt = 0 := zc_eq rfl rfl c_5
            refine lv_lconst (v := 0) hx hb dX3_reduced_58 rfl ?_
            refine lv_goto (tgt := 63) hx hb dX3_reduced_59 rfl ?_
            obtain ⟨hP9, hD9⟩ := zu_sub (wc := [_]) hP hD [true] rfl rfl
            rw [hQ9]
            exact W.lret (v := 0) hx hb hr (fun t ht hW => ⟨⟨_, rfl, 0, rfl, by rw [ht]; exact hP9, hD9⟩, hS.F ht⟩) hS.2.2 dX3_reduced_63
      · have c_1 : ((i : Nat) : Int) < 200 := zc_nle rfl (nI_toInt b9_2) c_1
        refine lv_lload hx hb dX3_reduced_22 (lv_at hl 1 rfl) ?_
        refine lv_lconst (v := 0) hx hb dX3_reduced_24 rfl ?_
        refine W.lcmp hx hb dX3_reduced_25 ?_
        refine lv_if_eq (tgt := 48) hx hb dX3_reduced_26 rfl (fun c_6 => ?_) (fun c_6 => ?_)
        · have c_6 : bb.toInt = 0 := zl_eq rfl rfl c_6
          refine lv_lload_n hx hb dX3_reduced_48 rfl (lv_at hl 2 rfl) ?_
          refine lv_lconst (v := 0) hx hb dX3_reduced_49 rfl ?_
          refine W.lcmp hx hb dX3_reduced_50 ?_
          refine lv_if_ne (tgt := 64) hx hb dX3_reduced_51 rfl (fun c_7 => ?_) (fun c_7 => ?_)
          · have c_7 : ¬ aa.toInt = 0 := zl_ne rfl rfl c_7
            refine lv_iload_n hx hb dX3_reduced_64 rfl (lv_at hl 4 rfl) ?_
            refine lv_if_ne (tgt := 75) hx hb dX3_reduced_65 rfl (fun c_8 => ?_) (fun c_8 => ?_)
            · have c_8 : ¬ wv.toInt = 0 := zc_ne rfl rfl c_8
              refine lv_aload_n hx hb dX3_reduced_75 rfl (lv_at hl 3 rfl) ?_
              refine va_get (D := (dC, dI)) (ci := 2) (v := .long y2) (C := RX3) (T := TX3) (N := 2) hx hb hts inX3 hown hK hP 0 rfl rfl 1 (Nat.le_of_ble_eq_true rfl) (hts _ mw_275) (fun _ h9 => h9) rfl dX3_reduced_76 ?_
              refine lv_lload_n hx hb dX3_reduced_79 rfl (lv_at hl 2 rfl) ?_
              refine lv_ldiv hx hb dX3_reduced_80 (fun h9 => (show ¬ aa.toInt = 0 by assumption) (by rw [h9]; decide)) ?_
              obtain ⟨hP9, hD9⟩ := zu_sub (wc := [_]) hP hD [true] rfl rfl
              rw [hQ9]
              exact W.lret (v := y2 / aa) hx hb hr (fun t ht hW => ⟨⟨_, rfl, (y2 / aa), rfl, by rw [ht]; exact hP9, hD9⟩, hS.F ht⟩) hS.2.2 dX3_reduced_81
            · have c_8 : wv.toInt = 0 := zc_eq rfl rfl c_8
              refine lv_aload_n hx hb dX3_reduced_68 rfl (lv_at hl 3 rfl) ?_
              refine va_get (D := (dC, dI)) (ci := 2) (v := .long y1) (C := RX3) (T := TX3) (N := 2) hx hb hts inX3 hown hK hP 0 rfl rfl 0 (Nat.le_of_ble_eq_true rfl) (hts _ mw_273) (fun _ h9 => h9) rfl dX3_reduced_69 ?_
              refine lv_goto (tgt := 79) hx hb dX3_reduced_72 rfl ?_
              refine lv_lload_n hx hb dX3_reduced_79 rfl (lv_at hl 2 rfl) ?_
              refine lv_ldiv hx hb dX3_reduced_80 (fun h9 => (show ¬ aa.toInt = 0 by assumption) (by rw [h9]; decide)) ?_
              obtain ⟨hP9, hD9⟩ := zu_sub (wc := [_]) hP hD [true] rfl rfl
              rw [hQ9]
              exact W.lret (v := y1 / aa) hx hb hr (fun t ht hW => ⟨⟨_, rfl, (y1 / aa), rfl, by rw [ht]; exact hP9, hD9⟩, hS.F ht⟩) hS.2.2 dX3_reduced_81
          · have c_7 : aa.toInt = 0 := zl_eq rfl rfl c_7
            refine lv_iload_n hx hb dX3_reduced_54 rfl (lv_at hl 4 rfl) ?_
            refine lv_if_ne (tgt := 62) hx hb dX3_reduced_55 rfl (fun c_9 => ?_) (fun c_9 => ?_)
            · have c_9 : ¬ wv.toInt = 0 := zc_ne rfl rfl c_9
              refine lv_lconst (v := 1) hx hb dX3_reduced_62 rfl ?_
              obtain ⟨hP9, hD9⟩ := zu_sub (wc := [_]) hP hD [true] rfl rfl
              rw [hQ9]
              exact W.lret (v := 1) hx hb hr (fun t ht hW => ⟨⟨_, rfl, 1, rfl, by rw [ht]; exact hP9, hD9⟩, hS.F ht⟩) hS.2.2 dX3_reduced_63
            · have c_9 : wv.toInt = 0 := zc_eq rfl rfl c_9
              refine lv_lconst (v := 0) hx hb dX3_reduced_58 rfl ?_
              refine lv_goto (tgt := 63) hx hb dX3_reduced_59 rfl ?_
              obtain ⟨hP9, hD9⟩ := zu_sub (wc := [_]) hP hD [true] rfl rfl
              rw [hQ9]
              exact W.lret (v := 0) hx hb hr (fun t ht hW => ⟨⟨_, rfl, 0, rfl, by rw [ht]; exact hP9, hD9⟩, hS.F ht⟩) hS.2.2 dX3_reduced_63
        · have c_6 : ¬ bb.toInt = 0 := zl_ne rfl rfl c_6
          refine lv_lload_n hx hb dX3_reduced_29 rfl (lv_at hl 2 rfl) ?_
          refine lv_lload hx hb dX3_reduced_30 (lv_at hl 1 rfl) ?_
          refine lv_lrem hx hb dX3_reduced_32 (fun h9 => (show ¬ bb.toInt = 0 by assumption) (by rw [h9]; decide)) ?_
          refine lv_lstore (lv' := [(7, .long (aa - aa / bb * bb)), (6, .int (nI i)), (4, .long bb), (2, .long aa), (0, .ref fr), (1, .int wv)]) hx hb dX3_reduced_33 hl (Nat.le_of_ble_eq_true rfl) rfl (fun ls hl => ?_)
          refine lv_lload hx hb dX3_reduced_35 (lv_at hl 2 rfl) ?_
          refine lv_lstore_n (lv' := [(2, .long bb), (7, .long (aa - aa / bb * bb)), (6, .int (nI i)), (4, .long bb), (0, .ref fr), (1, .int wv)]) hx hb dX3_reduced_37 rfl hl (Nat.le_of_ble_eq_true rfl) rfl (fun ls hl => ?_)
          refine lv_lload hx hb dX3_reduced_38 (lv_at hl 1 rfl) ?_
          refine lv_lstore (lv' := [(4, .long (aa - aa / bb * bb)), (2, .long bb), (7, .long (aa - aa / bb * bb)), (6, .int (nI i)), (0, .ref fr), (1, .int wv)]) hx hb dX3_reduced_40 hl (Nat.le_of_ble_eq_true rfl) rfl (fun ls hl => ?_)
          refine lv_iinc (v := nI (i + 1)) (lv' := [(6, .int (nI (i + 1))), (4, .long (aa - aa / bb * bb)), (2, .long bb), (7, .long (aa - aa / bb * bb)), (0, .ref fr), (1, .int wv)]) hx hb dX3_reduced_42 hl (k := 3) rfl (nI_add i 1) (Nat.le_of_ble_eq_true rfl) rfl (fun ls hl => ?_)
          refine lv_goto (tgt := 14) hx hb dX3_reduced_45 rfl ?_
          exact ih_14 (i + 1) bb (aa - aa / bb * bb) H locs ls (by first | with_reducible assumption | omega) (by first | with_reducible assumption | omega) hP hD hS (lv_sub hl [0, 1, 2, 4, 5] rfl)
  exact hl_14 _ 0 y1 y2 s.heap [] ls (Nat.lt_succ_self _) (by first | with_reducible assumption | omega) hP hD hS (lv_sub hl [0, 1, 2, 3, 4] rfl)
set_option maxHeartbeats 4000000 in
set_option maxRecDepth 100000 in
theorem k_side_x (l : Launch) (dC : Nat → ClassId) (dI : Nat → Nat → Nat) (cI cZ cF : ClassId) (sz : Nat) (x : Nat) (sh : Nat) (lw : Nat) (ro : Nat) (bq : Nat) (bp : Nat) (dq : Nat) (dp : Nat) (lv : Nat) (sl : Nat) (sd : Int32) (ul : Int32) (su : Int32) (ds : Int32) (fa : Nat) (ft : Nat) (FA : Nat → Option Nat) (v : Int32) (px : Int32) (py : Int32) (kv : Int32) (h200 : ft ≤ 200) (hv : ¬ (0 ≤ v.toInt ∧ v.toInt < ((ft : Nat) : Int))) : zM l yX10_side cX10_side 8 (some .int) ({ frames := 1, cells := 0, slots := 0, locals := 21 } : Room) [.ref x, .int px, .int py, .int v, .int kv] (dC, dI) (zTy cI cZ cF) [(oc8 x (.ref sh) (.ref lw) (.ref ro) (.ref bq) (.ref bp) (.ref dq) (.ref dp) (.ref lv) (.ref sl) ds sd ul su), (oc7 sh (.ref fa) (nI ft)), (oq fa cF 200 FA)] sz (some (.int 0)) (fun A t => zPD (dC, dI) classes A [(oc8 x (.ref sh) (.ref lw) (.ref ro) (.ref bq) (.ref bp) (.ref dq) (.ref dp) (.ref lv) (.ref sl) ds sd ul su), (oc7 sh (.ref fa) (nI ft)), (oq fa cF 200 FA)] t.heap) 0 0 := by
  refine zIn (own := "ScaleShop") (loc := [(0, .ref x), (1, .int px), (2, .int py), (3, .int v), (4, .int kv)]) rfl rfl rfl rfl (fun p e s m below meth c hx hb hr hts hown hlocks hml hnm9 A hA hS hP hD hK hXN Q9 hQ9 ls hl => ?_)
  refine lv_aload_n hx hb dX10_side_0 rfl (lv_at hl 0 rfl) ?_
  refine va_get (D := (dC, dI)) (ci := 8) (v := .ref sh) (C := RX10) (T := TX10) (N := 13) hx hb hts inX10 hown hK hP 0 rfl rfl 0 (Nat.le_of_ble_eq_true rfl) (hts _ mw_309) (fun _ h9 => h9) rfl dX10_side_1 ?_
  refine lv_iload_n hx hb dX10_side_4 rfl (lv_at hl 3 rfl) ?_
  obtain ⟨hPc, hDc, hFc, hI1⟩ := zi_sub (wc := [_, _]) hP hD hS hA [1, 2] rfl rfl
  refine zcall (st1 := [.null]) (va_runV (As := [.int v]) (rest := []) ⟨hx, hb, hml, hown, hts⟩ (k_Sheet_find_n l dC dI cI cZ cF s.heap.size sh fa ft FA v (by first | with_reducible assumption | omega) (by first | with_reducible assumption | assumption)) (csV_94 hts rfl rfl ⟨Nat.le_of_ble_eq_true rfl, Nat.le_of_ble_eq_true rfl⟩) (zPV2 (q0 := 0) (ci := 7) hPc hDc hK hXN rfl rfl) rfl rfl hl.1 rfl (lv_room (Nat.le_of_ble_eq_true rfl)) dX10_side_5 ⟨Nat.le_of_ble_eq_true rfl, Nat.le_of_ble_eq_true rfl⟩) hS hFc hFc rfl (fun t H locs ht hB hk1 hS => ?_)
  obtain ⟨hP1, hD1⟩ := hB
  rw [ht] at hP1
  replace hP := z0 hP hD hk1 hP1 hI1
  clear hk1 hPc hDc hFc hP1 hD1 ht hI1
  refine lv_astoreN (lv' := [(5, .null), (0, .ref x), (1, .int px), (2, .int py), (3, .int v), (4, .int kv)]) hx hb dX10_side_8 hl (Nat.le_of_ble_eq_true rfl) rfl (fun ls hl => ?_)
  refine lv_aloadN hx hb dX10_side_10 (lv_at hl 0 rfl) ?_
  refine lv_ifnonnullN hx hb dX10_side_12 ?_
  refine lv_null hx hb dX10_side_15 ?_
  refine lv_goto (tgt := 27) hx hb dX10_side_16 rfl ?_
  refine lv_astoreN (lv' := [(6, .null), (5, .null), (0, .ref x), (1, .int px), (2, .int py), (3, .int v), (4, .int kv)]) hx hb dX10_side_27 hl (Nat.le_of_ble_eq_true rfl) rfl (fun ls hl => ?_)
  refine lv_aloadN hx hb dX10_side_29 (lv_at hl 0 rfl) ?_
  refine lv_ifnullN (tgt := 57) hx hb dX10_side_31 rfl ?_
  refine lv_iconst (v := 0) hx hb dX10_side_57 rfl ?_
  obtain ⟨hP9, hD9⟩ := zu_sub (wc := [_, _, _]) hP hD [true, true, true] rfl rfl
  rw [hQ9]
  exact W.iret (v := 0) hx hb hr (fun t ht hW => ⟨⟨rfl, by rw [ht]; exact hP9, hD9⟩, hS.F ht⟩) hS.2.2 dX10_side_58
set_option maxHeartbeats 4000000 in
set_option maxRecDepth 100000 in
theorem k_side_a (l : Launch) (dC : Nat → ClassId) (dI : Nat → Nat → Nat) (cI cZ cF : ClassId) (sz : Nat) (x : Nat) (sh : Nat) (lw : Nat) (ro : Nat) (bq : Nat) (bp : Nat) (dq : Nat) (dp : Nat) (lv : Nat) (sl : Nat) (sd : Int32) (ul : Int32) (su : Int32) (ds : Int32) (fa : Nat) (ft : Nat) (FA : Nat → Option Nat) (f0 : Nat) (L : List Nat) (f : Nat → va_E) (kd : Nat → Int32) (st : Nat → Int32) (tn : Nat → Int32) (mn : Nat → Int32) (cx : Nat → Int32) (cy : Nat → Int32) (rk : Nat → Int32) (wd : Nat → Int32) (tw : Nat → Int32) (pa : Nat → Int32) (pb : Nat → Int32) (gb : Nat → Int32) (it : Nat → Int32) (px : Int32) (py : Int32) (kv : Int32) (h200 : ft ≤ 200) (hf0 : f0 < ft) (hva : ∀ q, q < ft → vwA cI L f FA rk wd tw pa pb kd st gb it tn mn cx cy q) : Met l yX10_side (.code yX10_side cX10_side 8 (some .int) :: ws0) ({ frames := 2, cells := 0, slots := 0, locals := 43 } : Room) (va_Pc [.ref x, .int px, .int py, .int (nI f0), .int kv] (zPre (dC, dI) classes (zTy cI cZ cF) ([(oc8 x (.ref sh) (.ref lw) (.ref ro) (.ref bq) (.ref bp) (.ref dq) (.ref dp) (.ref lv) (.ref sl) ds sd ul su), (oc7 sh (.ref fa) (nI ft)), (oq fa cF 200 FA)] ++ va_pl L f) sz zXN)) (zQe (fun v9 t => ∃ (b9 : Int32), v9 = (some (.int b9)) ∧ va_P (dC, dI) classes ([(oc8 x (.ref sh) (.ref lw) (.ref ro) (.ref bq) (.ref bp) (.ref dq) (.ref dp) (.ref lv) (.ref sl) ds sd ul su), (oc7 sh (.ref fa) (nI ft)), (oq fa cF 200 FA)] ++ va_pl L f) t.heap ∧ va_D (va_A ([(oc8 x (.ref sh) (.ref lw) (.ref ro) (.ref bq) (.ref bp) (.ref dq) (.ref dp) (.ref lv) (.ref sl) ds sd ul su), (oc7 sh (.ref fa) (nI ft)), (oq fa cF 200 FA)] ++ va_pl L f) sz) ([(oc8 x (.ref sh) (.ref lw) (.ref ro) (.ref bq) (.ref bp) (.ref dq) (.ref dp) (.ref lv) (.ref sl) ds sd ul su), (oc7 sh (.ref fa) (nI ft)), (oq fa cF 200 FA)] ++ va_pl L f)) (va_A ([(oc8 x (.ref sh) (.ref lw) (.ref ro) (.ref bq) (.ref bp) (.ref dq) (.ref dp) (.ref lv) (.ref sl) ds sd ul su), (oc7 sh (.ref fa) (nI ft)), (oq fa cF 200 FA)] ++ va_pl L f) sz)) 0 0 (va_A ([(oc8 x (.ref sh) (.ref lw) (.ref ro) (.ref bq) (.ref bp) (.ref dq) (.ref dp) (.ref lv) (.ref sl) ds sd ul su), (oc7 sh (.ref fa) (nI ft)), (oq fa cF 200 FA)] ++ va_pl L f) sz) := by
  refine Met.ofW (cc := cX10_side) (maxL := 8) (ret := (some .int)) rfl rfl ?_
  intro p e s m args below meth c s₁ B hml hv
  obtain ⟨rfl, hsz, hP, hK, hD0, hXN⟩ := hv
  have hx := B.exec
  have hb := B.bytes
  have hr := B.returns
  have hts0 := atoms_spec (ws := .code yX10_side cX10_side 8 (some .int) :: ws0) B.pre
  have hts : ∀ w9 ∈ ws0, w9.before ([.ref x, .int px, .int py, .int (nI f0), .int kv] : List Value).toArray s = true := fun w9 h => hts0 w9 (List.mem_cons_of_mem _ h)
  have hown : s.vm.findClass "ScaleShop" = some m.cls := findClass_of_methodNamed B.named
  have hlocks := B.notSynchronized
  subst hsz
  have hD := hD0.self (sz := s.heap.size)
  clear hD0
  generalize hAe : va_A ([(oc8 x (.ref sh) (.ref lw) (.ref ro) (.ref bq) (.ref bp) (.ref dq) (.ref dp) (.ref lv) (.ref sl) ds sd ul su), (oc7 sh (.ref fa) (nI ft)), (oq fa cF 200 FA)] ++ va_pl L f) s.heap.size = A at hD ⊢
  have hA : ∀ q : Nat, s.heap.size ≤ q → A q := fun q h => by rw [← hAe]; exact Or.inr h
  clear hAe
  have hS : va_S A s.heap s.heap [] := va_S.rf
  have hP : va_P (dC, dI) classes ([(oc8 x (.ref sh) (.ref lw) (.ref ro) (.ref bq) (.ref bp) (.ref dq) (.ref dp) (.ref lv) (.ref sl) ds sd ul su), (oc7 sh (.ref fa) (nI ft)), (oq fa cF 200 FA)] ++ va_pl L f) s.heap := hP
  obtain ⟨Q9, hQ9⟩ : ∃ Q9 : State → Prop, Q9 = MQ below (zQe (fun v9 t => ∃ (b9 : Int32), v9 = (some (.int b9)) ∧ va_P (dC, dI) classes ([(oc8 x (.ref sh) (.ref lw) (.ref ro) (.ref bq) (.ref bp) (.ref dq) (.ref dp) (.ref lv) (.ref sl) ds sd ul su), (oc7 sh (.ref fa) (nI ft)), (oq fa cF 200 FA)] ++ va_pl L f) t.heap ∧ va_D A ([(oc8 x (.ref sh) (.ref lw) (.ref ro) (.ref bq) (.ref bp) (.ref dq) (.ref dp) (.ref lv) (.ref sl) ds sd ul su), (oc7 sh (.ref fa) (nI ft)), (oq fa cF 200 FA)] ++ va_pl L f)) A) ([.ref x, .int px, .int py, .int (nI f0), .int kv] : List Value).toArray s 0 0 A := ⟨_, rfl⟩
  rw [← hQ9]
  have hl := lv_entry ([.ref x, .int px, .int py, .int (nI f0), .int kv]) (n := 8) (Nat.le_of_ble_eq_true rfl)
  rw [lg_entry_eq]
  generalize (lg_sl ([.ref x, .int px, .int py, .int (nI f0), .int kv]) ++ List.replicate (8 - (lg_sl ([.ref x, .int px, .int py, .int (nI f0), .int kv])).length) Slot.unset).toArray = ls at hl ⊢
  have hl : lv_has ls 8 [(0, .ref x), (1, .int px), (2, .int py), (3, .int (nI f0)), (4, .int kv)] := hl
  rcases vwA_2 (hva f0 (by omega)) with ⟨ht2, fe2, lk2, lo2, we2, fm2, hFA2, hfe2, hlk2⟩ | ⟨ht2, fe2, lk2, lo2, we2, fm2, r2, rx2, ry2, cap2, U2, V2, rg2, hFA2, hfe2, hlk2, ⟨hr2, hrx2, hry2, hne2⟩, hrr2⟩
  · skip
    have hc9_1 : inPl L f [(oc1 fe2 (rk f0) (wd f0) (tw f0) (pa f0) (pb f0) (.ref lo2) (.ref lk2) fm2), (oc4 lk2 (kd f0) (st f0) .null (gb f0) (it f0) we2)] := ⟨hfe2, hlk2, trivial⟩
    have hD0_1 := hD
    obtain ⟨T_1, hT_1, hP, hD⟩ := pl_oT hP hD hc9_1 (pwF hfe2.2 hlk2.2)
    obtain ⟨hP, hD⟩ := zre (W2 := ([_, _, _, _, _] ++ va_pl T_1 f)) hP hD rfl
    refine lv_aload_n hx hb dX10_side_0 rfl (lv_at hl 0 rfl) ?_
    refine va_get (D := (dC, dI)) (ci := 8) (v := .ref sh) (C := RX10) (T := TX10) (N := 13) hx hb hts inX10 hown hK hP 0 rfl rfl 0 (Nat.le_of_ble_eq_true rfl) (hts _ mw_309) (fun _ h9 => h9) rfl dX10_side_1 ?_
    refine lv_iload_n hx hb dX10_side_4 rfl (lv_at hl 3 rfl) ?_
    obtain ⟨hPc, hDc, hFc, hI1⟩ := zi_sub (wc := [_, _]) hP hD hS hA [1, 2] rfl rfl
    refine zcall (st1 := [.ref fe2]) (va_runV (As := [.int (nI f0)]) (rest := []) ⟨hx, hb, hml, hown, hts⟩ (k_Sheet_find l dC dI cI cZ cF s.heap.size sh fa ft FA f0 fe2 (by first | with_reducible assumption | omega) (by first | with_reducible assumption | omega) (hFA2)) (csV_94 hts rfl rfl ⟨Nat.le_of_ble_eq_true rfl, Nat.le_of_ble_eq_true rfl⟩) (zPV2 (q0 := 0) (ci := 7) hPc hDc hK hXN rfl rfl) rfl rfl hl.1 rfl (lv_room (Nat.le_of_ble_eq_true rfl)) dX10_side_5 ⟨Nat.le_of_ble_eq_true rfl, Nat.le_of_ble_eq_true rfl⟩) hS hFc hFc rfl (fun t H locs ht hB hk1 hS => ?_)
    obtain ⟨hP1, hD1⟩ := hB
    rw [ht] at hP1
    replace hP := z0 hP hD hk1 hP1 hI1
    clear hk1 hPc hDc hFc hP1 hD1 ht hI1
    refine lv_astore (lv' := [(5, .ref fe2), (0, .ref x), (1, .int px), (2, .int py), (3, .int (nI f0)), (4, .int kv)]) hx hb dX10_side_8 hl (Nat.le_of_ble_eq_true rfl) rfl (fun ls hl => ?_)
    refine lv_aload hx hb dX10_side_10 (lv_at hl 0 rfl) ?_
    refine lv_ifnonnull (tgt := 19) hx hb dX10_side_12 rfl ?_
    refine lv_aload hx hb dX10_side_19 (lv_at hl 0 rfl) ?_
    refine va_get (D := (dC, dI)) (ci := 1) (v := .ref lk2) (C := RX2) (T := TX2) (N := 8) hx hb hts inX2 hown hK hP 3 rfl rfl 6 (Nat.le_of_ble_eq_true rfl) (hts _ mw_433) (fun _ h9 => h9) rfl dX10_side_21 ?_
    refine va_get (D := (dC, dI)) (ci := 4) (v := .null) (C := RX5) (T := TX5) (N := 6) hx hb hts inX5 hown hK hP 4 rfl rfl 2 (Nat.le_of_ble_eq_true rfl) (hts _ mw_391) (fun _ h9 => h9) rfl dX10_side_24 ?_
    refine lv_astoreN (lv' := [(6, .null), (5, .ref fe2), (0, .ref x), (1, .int px), (2, .int py), (3, .int (nI f0)), (4, .int kv)]) hx hb dX10_side_27 hl (Nat.le_of_ble_eq_true rfl) rfl (fun ls hl => ?_)
    refine lv_aloadN hx hb dX10_side_29 (lv_at hl 0 rfl) ?_
    refine lv_ifnullN (tgt := 57) hx hb dX10_side_31 rfl ?_
    refine lv_iconst (v := 0) hx hb dX10_side_57 rfl ?_
    obtain ⟨hP, hD⟩ := pl_bk (X := [_, _, _]) hT_1 hP rfl hc9_1 hD0_1 rfl
    obtain ⟨hP9, hD9⟩ := zu_part (cx := [_, _, _]) hP hD [true, true, true] rfl rfl
    rw [hQ9]
    exact W.iret (v := 0) hx hb hr (fun t ht hW => ⟨⟨_, rfl, 0, rfl, by rw [ht]; exact hP9, hD9⟩, hS.F ht⟩) hS.2.2 dX10_side_58
  · skip
    have hcap2 := hrr2.1
    have hcap3 := hrr2.2.1
    have hc9_1 : inPl L f [(oc1 fe2 (rk f0) (wd f0) (tw f0) (pa f0) (pb f0) (.ref lo2) (.ref lk2) fm2), (oc4 lk2 (kd f0) (st f0) (.ref r2) (gb f0) (it f0) we2), (oc6 r2 (.ref rx2) (.ref ry2) (nI (nN (mn f0))) rg2), (oa rx2 cI cap2 U2), (oa ry2 cI cap2 V2)] := ⟨hfe2, hlk2, hr2, hrx2, hry2, trivial⟩
    have hD0_1 := hD
    obtain ⟨T_1, hT_1, hP, hD⟩ := pl_oT hP hD hc9_1 (pwR hfe2.2 hlk2.2 hr2.2 hrx2.2 hry2.2 hne2)
    obtain ⟨hP, hD⟩ := zre (W2 := ([_, _, _, _, _, _, _, _] ++ va_pl T_1 f)) hP hD rfl
    refine lv_aload_n hx hb dX10_side_0 rfl (lv_at hl 0 rfl) ?_
    refine va_get (D := (dC, dI)) (ci := 8) (v := .ref sh) (C := RX10) (T := TX10) (N := 13) hx hb hts inX10 hown hK hP 0 rfl rfl 0 (Nat.le_of_ble_eq_true rfl) (hts _ mw_309) (fun _ h9 => h9) rfl dX10_side_1 ?_
    refine lv_iload_n hx hb dX10_side_4 rfl (lv_at hl 3 rfl) ?_
    obtain ⟨hPc, hDc, hFc, hI1⟩ := zi_sub (wc := [_, _]) hP hD hS hA [1, 2] rfl rfl
    refine zcall (st1 := [.ref fe2]) (va_runV (As := [.int (nI f0)]) (rest := []) ⟨hx, hb, hml, hown, hts⟩ (k_Sheet_find l dC dI cI cZ cF s.heap.size sh fa ft FA f0 fe2 (by first | with_reducible assumption | omega) (by first | with_reducible assumption | omega) (hFA2)) (csV_94 hts rfl rfl ⟨Nat.le_of_ble_eq_true rfl, Nat.le_of_ble_eq_true rfl⟩) (zPV2 (q0 := 0) (ci := 7) hPc hDc hK hXN rfl rfl) rfl rfl hl.1 rfl (lv_room (Nat.le_of_ble_eq_true rfl)) dX10_side_5 ⟨Nat.le_of_ble_eq_true rfl, Nat.le_of_ble_eq_true rfl⟩) hS hFc hFc rfl (fun t H locs ht hB hk1 hS => ?_)
    obtain ⟨hP1, hD1⟩ := hB
    rw [ht] at hP1
    replace hP := z0 hP hD hk1 hP1 hI1
    clear hk1 hPc hDc hFc hP1 hD1 ht hI1
    refine lv_astore (lv' := [(5, .ref fe2), (0, .ref x), (1, .int px), (2, .int py), (3, .int (nI f0)), (4, .int kv)]) hx hb dX10_side_8 hl (Nat.le_of_ble_eq_true rfl) rfl (fun ls hl => ?_)
    refine lv_aload hx hb dX10_side_10 (lv_at hl 0 rfl) ?_
    refine lv_ifnonnull (tgt := 19) hx hb dX10_side_12 rfl ?_
    refine lv_aload hx hb dX10_side_19 (lv_at hl 0 rfl) ?_
    refine va_get (D := (dC, dI)) (ci := 1) (v := .ref lk2) (C := RX2) (T := TX2) (N := 8) hx hb hts inX2 hown hK hP 3 rfl rfl 6 (Nat.le_of_ble_eq_true rfl) (hts _ mw_433) (fun _ h9 => h9) rfl dX10_side_21 ?_
    refine va_get (D := (dC, dI)) (ci := 4) (v := .ref r2) (C := RX5) (T := TX5) (N := 6) hx hb hts inX5 hown hK hP 4 rfl rfl 2 (Nat.le_of_ble_eq_true rfl) (hts _ mw_391) (fun _ h9 => h9) rfl dX10_side_24 ?_
    refine lv_astore (lv' := [(6, .ref r2), (5, .ref fe2), (0, .ref x), (1, .int px), (2, .int py), (3, .int (nI f0)), (4, .int kv)]) hx hb dX10_side_27 hl (Nat.le_of_ble_eq_true rfl) rfl (fun ls hl => ?_)
    refine lv_aload hx hb dX10_side_29 (lv_at hl 0 rfl) ?_
    refine lv_ifnull hx hb dX10_side_31 ?_
    refine lv_iload hx hb dX10_side_34 (lv_at hl 6 rfl) ?_
    refine lv_if_lt (tgt := 57) hx hb dX10_side_36 rfl (fun c_1 => ?_) (fun c_1 => ?_)
    · have c_1 : kv.toInt < 0 := zc_lt rfl rfl c_1
      refine lv_iconst (v := 0) hx hb dX10_side_57 rfl ?_
      obtain ⟨hP, hD⟩ := pl_bk (X := [_, _, _]) hT_1 hP rfl hc9_1 hD0_1 rfl
      obtain ⟨hP9, hD9⟩ := zu_part (cx := [_, _, _]) hP hD [true, true, true] rfl rfl
      rw [hQ9]
      exact W.iret (v := 0) hx hb hr (fun t ht hW => ⟨⟨_, rfl, 0, rfl, by rw [ht]; exact hP9, hD9⟩, hS.F ht⟩) hS.2.2 dX10_side_58
    · have c_1 : 0 ≤ kv.toInt := zc_nlt rfl rfl c_1
      refine lv_iload hx hb dX10_side_39 (lv_at hl 6 rfl) ?_
      refine lv_aload hx hb dX10_side_41 (lv_at hl 0 rfl) ?_
      obtain ⟨hPc, hDc, hFc, hI1⟩ := zi_sub (wc := [_, _, _]) hP hD hS hA [5, 6, 7] rfl rfl
      refine zcall (st1 := [.int (nI (edg (nN (mn f0)) rg2)), .int kv]) (va_runV (As := []) (rest := [.int kv]) ⟨hx, hb, hml, hown, hts⟩ (k_Row_edges l dC dI cI cZ cF H.size r2 rx2 ry2 (nN (mn f0)) cap2 U2 V2 rg2 (by first | with_reducible assumption | omega) (by first | with_reducible assumption | omega)) (csV_150 hts rfl rfl ⟨Nat.le_of_ble_eq_true rfl, Nat.le_of_ble_eq_true rfl⟩) (zPV2 (q0 := 0) (ci := 6) hPc hDc hK hXN rfl rfl) rfl rfl hl.1 rfl (lv_room (Nat.le_of_ble_eq_true rfl)) dX10_side_43 ⟨Nat.le_of_ble_eq_true rfl, Nat.le_of_ble_eq_true rfl⟩) hS hFc hFc rfl (fun t H locs ht hB hk1 hS => ?_)
      obtain ⟨hP1, hD1⟩ := hB
      rw [ht] at hP1
      replace hP := z0 hP hD hk1 hP1 hI1
      clear hk1 hPc hDc hFc hP1 hD1 ht hI1
      have hed := edg_le (nN (mn f0)) rg2
      have b9_3 : zlt ((edg (nN (mn f0)) rg2)) := show (edg (nN (mn f0)) rg2) < 2147483648 by omega
      refine lv_icmp_ge (tgt := 57) hx hb dX10_side_46 rfl (fun c_2 => ?_) (fun c_2 => ?_)
      · have c_2 : ((edg (nN (mn f0)) rg2 : Nat) : Int) ≤ kv.toInt := zc_le (nI_toInt b9_3) rfl c_2
        refine lv_iconst (v := 0) hx hb dX10_side_57 rfl ?_
        obtain ⟨hP, hD⟩ := pl_bk (X := [_, _, _]) hT_1 hP rfl hc9_1 hD0_1 rfl
        obtain ⟨hP9, hD9⟩ := zu_part (cx := [_, _, _]) hP hD [true, true, true] rfl rfl
        rw [hQ9]
        exact W.iret (v := 0) hx hb hr (fun t ht hW => ⟨⟨_, rfl, 0, rfl, by rw [ht]; exact hP9, hD9⟩, hS.F ht⟩) hS.2.2 dX10_side_58
      · have c_2 : kv.toInt < ((edg (nN (mn f0)) rg2 : Nat) : Int) := zc_nle (nI_toInt b9_3) rfl c_2
        refine lv_iload_n hx hb dX10_side_49 rfl (lv_at hl 3 rfl) ?_
        refine lv_iload_n hx hb dX10_side_50 rfl (lv_at hl 4 rfl) ?_
        obtain ⟨hPc, hDc, hFc, hI1⟩ := zi_sub (wc := []) hP hD hS hA [] rfl rfl
        refine zcall (st1 := [.int (pI (pl px ∧ pl py))]) (va_runS (As := [.int px, .int py]) (rest := []) ⟨hx, hb, hml, hown, hts⟩ (k_isPlace l dC dI cI cZ cF H.size px py ) (csS_98 hts rfl rfl ⟨Nat.le_of_ble_eq_true rfl, Nat.le_of_ble_eq_true rfl⟩) (zPS2 hPc hDc hK hXN) rfl rfl hl.1 rfl (lv_room (Nat.le_of_ble_eq_true rfl)) dX10_side_51 ⟨Nat.le_of_ble_eq_true rfl, Nat.le_of_ble_eq_true rfl⟩) hS hFc hFc rfl (fun t H locs ht hB hk1 hS => ?_)
        obtain ⟨hP1, hD1⟩ := hB
        rw [ht] at hP1
        replace hP := z0 hP hD hk1 hP1 hI1
        clear hk1 hPc hDc hFc hP1 hD1 ht hI1
        refine lv_if_ne (tgt := 59) hx hb dX10_side_54 rfl (fun c_4 => ?_) (fun c_4 => ?_)
        · have c_4 : pl px ∧ pl py := zp_1 c_4
          refine lv_aload hx hb dX10_side_59 (lv_at hl 0 rfl) ?_
          refine lv_iload hx hb dX10_side_61 (lv_at hl 6 rfl) ?_
          refine zz_i (v := nI kv.toInt.toNat) (Int32.toInt_inj.mp (by rw [nI_toInt (by omega)]; omega)) ?_
          refine lv_iload_n hx hb dX10_side_63 rfl (lv_at hl 3 rfl) ?_
          refine lv_iload_n hx hb dX10_side_64 rfl (lv_at hl 4 rfl) ?_
          obtain ⟨hPc, hDc, hFc⟩ := zo_sub (wc := [_, _, _]) hP hD hS hA [5, 6, 7] rfl rfl
          refine zcalle (va_runV (As := [.int (nI kv.toInt.toNat), .int px, .int py]) (rest := []) ⟨hx, hb, hml, hown, hts⟩ (k_Row_turn_a l dC dI cI cZ cF H.size r2 rx2 ry2 (nN (mn f0)) cap2 U2 V2 rg2 kv.toInt.toNat px py (by first | with_reducible assumption | omega) (by first | with_reducible assumption | omega) (by first | with_reducible assumption | omega)) (csV_151 hts rfl rfl ⟨Nat.le_of_ble_eq_true rfl, Nat.le_of_ble_eq_true rfl⟩) (zPV2 (q0 := 0) (ci := 6) hPc hDc hK hXN rfl rfl) rfl rfl hl.1 rfl (lv_room (Nat.le_of_ble_eq_true rfl)) dX10_side_65 ⟨Nat.le_of_ble_eq_true rfl, Nat.le_of_ble_eq_true rfl⟩) hS hFc hFc (fun v9 t H locs ht hB hk1 hS => ?_)
          obtain ⟨t9, rfl, hP1, hD1⟩ := hB
          refine W.eq (g2 := F0 m 68 ls [.int t9]) rfl ?_
          rw [ht] at hP1
          obtain ⟨hP, hD⟩ := znQ (W2 := [_, _, _, _, _, _, _, _]) hP hD hk1 hFc hP1 hD1 [5, 6, 7] [true, true, true, true, true] zl_1 [5, 6, 7] (by decide +kernel) rfl rfl rfl rfl rfl
          clear hk1 hPc hDc hFc hP1 hD1 ht
          refine lv_istore (lv' := [(7, .int t9), (6, .ref r2), (5, .ref fe2), (0, .ref x), (1, .int px), (2, .int py), (3, .int (nI f0)), (4, .int kv)]) hx hb dX10_side_68 hl (Nat.le_of_ble_eq_true rfl) rfl (fun ls hl => ?_)
          refine lv_iload hx hb dX10_side_70 (lv_at hl 0 rfl) ?_
          refine lv_if_ne (tgt := 77) hx hb dX10_side_72 rfl (fun c_5 => ?_) (fun c_5 => ?_)
          · have c_5 : ¬ t9.toInt = 0 := zc_ne rfl rfl c_5
            refine lv_iload hx hb dX10_side_77 (lv_at hl 0 rfl) ?_
            refine lv_if_le (tgt := 86) hx hb dX10_side_79 rfl (fun c_6 => ?_) (fun c_6 => ?_)
            · have c_6 : t9.toInt ≤ 0 := zc_le rfl rfl c_6
              refine lv_iconst (v := (-1)) hx hb dX10_side_86 rfl ?_
              obtain ⟨hP, hD⟩ := pl_bk (X := [_, _, _]) hT_1 hP rfl hc9_1 hD0_1 rfl
              obtain ⟨hP9, hD9⟩ := zu_part (cx := [_, _, _]) hP hD [true, true, true] rfl rfl
              rw [hQ9]
              exact W.iret (v := (-1)) hx hb hr (fun t ht hW => ⟨⟨_, rfl, (-1), rfl, by rw [ht]; exact hP9, hD9⟩, hS.F ht⟩) hS.2.2 dX10_side_87
            · have c_6 : 0 < t9.toInt := zc_nle rfl rfl c_6
              refine lv_iconst (v := 1) hx hb dX10_side_82 rfl ?_
              refine lv_goto (tgt := 87) hx hb dX10_side_83 rfl ?_
              obtain ⟨hP, hD⟩ := pl_bk (X := [_, _, _]) hT_1 hP rfl hc9_1 hD0_1 rfl
              obtain ⟨hP9, hD9⟩ := zu_part (cx := [_, _, _]) hP hD [true, true, true] rfl rfl
              rw [hQ9]
              exact W.iret (v := 1) hx hb hr (fun t ht hW => ⟨⟨_, rfl, 1, rfl, by rw [ht]; exact hP9, hD9⟩, hS.F ht⟩) hS.2.2 dX10_side_87
          · have c_5 : t9.toInt = 0 := zc_eq rfl rfl c_5
            refine lv_iconst (v := 0) hx hb dX10_side_75 rfl ?_
            obtain ⟨hP, hD⟩ := pl_bk (X := [_, _, _]) hT_1 hP rfl hc9_1 hD0_1 rfl
            obtain ⟨hP9, hD9⟩ := zu_part (cx := [_, _, _]) hP hD [true, true, true] rfl rfl
            rw [hQ9]
            exact W.iret (v := 0) hx hb hr (fun t ht hW => ⟨⟨_, rfl, 0, rfl, by rw [ht]; exact hP9, hD9⟩, hS.F ht⟩) hS.2.2 dX10_side_76
        · have c_4 : ¬ (pl px ∧ pl py) := zp_0 c_4
          refine lv_iconst (v := 0) hx hb dX10_side_57 rfl ?_
          obtain ⟨hP, hD⟩ := pl_bk (X := [_, _, _]) hT_1 hP rfl hc9_1 hD0_1 rfl
          obtain ⟨hP9, hD9⟩ := zu_part (cx := [_, _, _]) hP hD [true, true, true] rfl rfl
          rw [hQ9]
          exact W.iret (v := 0) hx hb hr (fun t ht hW => ⟨⟨_, rfl, 0, rfl, by rw [ht]; exact hP9, hD9⟩, hS.F ht⟩) hS.2.2 dX10_side_58
set_option maxHeartbeats 4000000 in
set_option maxRecDepth 100000 in
theorem k_far_z (l : Launch) (dC : Nat → ClassId) (dI : Nat → Nat → Nat) (cI cZ cF : ClassId) (sz : Nat) (x : Nat) (sh : Nat) (lw : Nat) (ro : Nat) (bq : Nat) (bp : Nat) (dq : Nat) (dp : Nat) (lv : Nat) (sl : Nat) (sd : Int32) (ul : Int32) (su : Int32) (ds : Int32) (fa : Nat) (ft : Nat) (FA : Nat → Option Nat) (L : List Nat) (f : Nat → va_E) (kd : Nat → Int32) (st : Nat → Int32) (tn : Nat → Int32) (mn : Nat → Int32) (cx : Nat → Int32) (cy : Nat → Int32) (rk : Nat → Int32) (wd : Nat → Int32) (tw : Nat → Int32) (pa : Nat → Int32) (pb : Nat → Int32) (gb : Nat → Int32) (it : Nat → Int32) (v : Int32) (wv : Int32) (h200 : ft ≤ 200) (hva : ∀ q, q < ft → vwA cI L f FA rk wd tw pa pb kd st gb it tn mn cx cy q) (hbad : ¬ ∃ f, v = nI f ∧ lvF ft st tn f) : zM l yX10_far cX10_far 6 (some .long) ({ frames := 2, cells := 0, slots := 0, locals := 43 } : Room) [.ref x, .int v, .int wv] (dC, dI) (zTy cI cZ cF) ([(oc8 x (.ref sh) (.ref lw) (.ref ro) (.ref bq) (.ref bp) (.ref dq) (.ref dp) (.ref lv) (.ref sl) ds sd ul su), (oc7 sh (.ref fa) (nI ft)), (oq fa cF 200 FA)] ++ va_pl L f) sz (some (.long (-1))) (fun A t => zPD (dC, dI) classes A ([(oc8 x (.ref sh) (.ref lw) (.ref ro) (.ref bq) (.ref bp) (.ref dq) (.ref dp) (.ref lv) (.ref sl) ds sd ul su), (oc7 sh (.ref fa) (nI ft)), (oq fa cF 200 FA)] ++ va_pl L f) t.heap) 0 0 := by
  refine zIn (own := "ScaleShop") (loc := [(0, .ref x), (1, .int v), (2, .int wv)]) rfl rfl rfl rfl (fun p e s m below meth c hx hb hr hts hown hlocks hml hnm9 A hA hS hP hD hK hXN Q9 hQ9 ls hl => ?_)
  rcases v_c (v := v) (ft := ft) h200 with hb2 | ⟨f0, hq2, rfl⟩
  · skip
    refine lv_aload_n hx hb dX10_far_0 rfl (lv_at hl 0 rfl) ?_
    refine va_get (D := (dC, dI)) (ci := 8) (v := .ref sh) (C := RX10) (T := TX10) (N := 13) hx hb hts inX10 hown hK hP 0 rfl rfl 0 (Nat.le_of_ble_eq_true rfl) (hts _ mw_309) (fun _ h9 => h9) rfl dX10_far_1 ?_
    refine lv_iload_n hx hb dX10_far_4 rfl (lv_at hl 1 rfl) ?_
    obtain ⟨hPc, hDc, hFc, hI1⟩ := zi_sub (wc := [_, _]) hP hD hS hA [1, 2] rfl rfl
    refine zcall (st1 := [.null]) (va_runV (As := [.int v]) (rest := []) ⟨hx, hb, hml, hown, hts⟩ (k_Sheet_find_n l dC dI cI cZ cF s.heap.size sh fa ft FA v (h200) (hb2)) (csV_94 hts rfl rfl ⟨Nat.le_of_ble_eq_true rfl, Nat.le_of_ble_eq_true rfl⟩) (zPV2 (q0 := 0) (ci := 7) hPc hDc hK hXN rfl rfl) rfl rfl hl.1 rfl (lv_room (Nat.le_of_ble_eq_true rfl)) dX10_far_5 ⟨Nat.le_of_ble_eq_true rfl, Nat.le_of_ble_eq_true rfl⟩) hS hFc hFc rfl (fun t H locs ht hB hk1 hS => ?_)
    obtain ⟨hP1, hD1⟩ := hB
    rw [ht] at hP1
    replace hP := z0 hP hD hk1 hP1 hI1
    clear hk1 hPc hDc hFc hP1 hD1 ht hI1
    refine lv_astore_nN (lv' := [(3, .null), (0, .ref x), (1, .int v), (2, .int wv)]) hx hb dX10_far_8 rfl hl (Nat.le_of_ble_eq_true rfl) rfl (fun ls hl => ?_)
    refine lv_aload_n hx hb dX10_far_9 rfl (lv_at hl 1 rfl) ?_
    refine va_get (D := (dC, dI)) (ci := 8) (v := .ref sh) (C := RX10) (T := TX10) (N := 13) hx hb hts inX10 hown hK hP 0 rfl rfl 0 (Nat.le_of_ble_eq_true rfl) (hts _ mw_309) (fun _ h9 => h9) rfl dX10_far_10 ?_
    refine lv_iload_n hx hb dX10_far_13 rfl (lv_at hl 2 rfl) ?_
    obtain ⟨hPc, hDc, hFc, hI1⟩ := zi_sub (wc := [_, _]) hP hD hS hA [1, 2] rfl rfl
    refine zcall (st1 := [.null]) (va_runV (As := [.int v]) (rest := []) ⟨hx, hb, hml, hown, hts⟩ (k_Sheet_rowThere_x l dC dI cI cZ cF H.size sh fa ft FA v (h200) (hb2)) (csV_144 hts rfl rfl ⟨Nat.le_of_ble_eq_true rfl, Nat.le_of_ble_eq_true rfl⟩) (zPV2 (q0 := 0) (ci := 7) hPc hDc hK hXN rfl rfl) rfl rfl hl.1 rfl (lv_room (Nat.le_of_ble_eq_true rfl)) dX10_far_14 ⟨Nat.le_of_ble_eq_true rfl, Nat.le_of_ble_eq_true rfl⟩) hS hFc hFc rfl (fun t H locs ht hB hk1 hS => ?_)
    obtain ⟨hP1, hD1⟩ := hB
    rw [ht] at hP1
    replace hP := z0 hP hD hk1 hP1 hI1
    clear hk1 hPc hDc hFc hP1 hD1 ht hI1
    refine lv_astoreN (lv' := [(4, .null), (3, .null), (0, .ref x), (1, .int v), (2, .int wv)]) hx hb dX10_far_17 hl (Nat.le_of_ble_eq_true rfl) rfl (fun ls hl => ?_)
    refine lv_aload_nN hx hb dX10_far_19 rfl (lv_at hl 1 rfl) ?_
    refine lv_ifnullN (tgt := 37) hx hb dX10_far_20 rfl ?_
    refine lv_ldc2 hx hb hown (hts _ mw_1077) dX10_far_37 ?_
    obtain ⟨hP9, hD9⟩ := zu_part (cx := [_, _, _]) hP hD [true, true, true] rfl rfl
    rw [hQ9]
    exact W.lret (v := (-1)) hx hb hr (fun t ht hW => ⟨⟨rfl, by rw [ht]; exact hP9, hD9⟩, hS.F ht⟩) hS.2.2 dX10_far_40
  · skip
    refine lv_aload_n hx hb dX10_far_0 rfl (lv_at hl 0 rfl) ?_
    rcases vwA_3 (P9 := ((st f0).toInt = 1)) (hva f0 (by omega)) with ⟨ht2, fe2, lk2, lo2, we2, fm2, hFA2, hfe2, hlk2⟩ | ⟨ht2, hA2, fe2, lk2, lo2, we2, fm2, r2, rx2, ry2, cap2, U2, V2, rg2, hFA2, hfe2, hlk2, ⟨hr2, hrx2, hry2, hne2⟩, hrr2⟩ | ⟨ht2, hA2, fe2, lk2, lo2, we2, fm2, r2, rx2, ry2, cap2, U2, V2, rg2, hFA2, hfe2, hlk2, ⟨hr2, hrx2, hry2, hne2⟩, hrr2⟩
    · skip
      refine va_get (D := (dC, dI)) (ci := 8) (v := .ref sh) (C := RX10) (T := TX10) (N := 13) hx hb hts inX10 hown hK hP 0 rfl rfl 0 (Nat.le_of_ble_eq_true rfl) (hts _ mw_309) (fun _ h9 => h9) rfl dX10_far_1 ?_
      refine lv_iload_n hx hb dX10_far_4 rfl (lv_at hl 1 rfl) ?_
      obtain ⟨hPc, hDc, hFc, hI1⟩ := zi_sub (wc := [_, _]) hP hD hS hA [1, 2] rfl rfl
      refine zcall (st1 := [.ref fe2]) (va_runV (As := [.int (nI f0)]) (rest := []) ⟨hx, hb, hml, hown, hts⟩ (k_Sheet_find l dC dI cI cZ cF s.heap.size sh fa ft FA f0 fe2 (h200) (by first | with_reducible assumption | omega) (hFA2)) (csV_94 hts rfl rfl ⟨Nat.le_of_ble_eq_true rfl, Nat.le_of_ble_eq_true rfl⟩) (zPV2 (q0 := 0) (ci := 7) hPc hDc hK hXN rfl rfl) rfl rfl hl.1 rfl (lv_room (Nat.le_of_ble_eq_true rfl)) dX10_far_5 ⟨Nat.le_of_ble_eq_true rfl, Nat.le_of_ble_eq_true rfl⟩) hS hFc hFc rfl (fun t H locs ht hB hk1 hS => ?_)
      obtain ⟨hP1, hD1⟩ := hB
      rw [ht] at hP1
      replace hP := z0 hP hD hk1 hP1 hI1
      clear hk1 hPc hDc hFc hP1 hD1 ht hI1
      refine lv_astore_n (lv' := [(3, .ref fe2), (0, .ref x), (1, .int (nI f0)), (2, .int wv)]) hx hb dX10_far_8 rfl hl (Nat.le_of_ble_eq_true rfl) rfl (fun ls hl => ?_)
      refine lv_aload_n hx hb dX10_far_9 rfl (lv_at hl 1 rfl) ?_
      refine va_get (D := (dC, dI)) (ci := 8) (v := .ref sh) (C := RX10) (T := TX10) (N := 13) hx hb hts inX10 hown hK hP 0 rfl rfl 0 (Nat.le_of_ble_eq_true rfl) (hts _ mw_309) (fun _ h9 => h9) rfl dX10_far_10 ?_
      have hc9_1 : inPl L f [(oc1 fe2 (rk f0) (wd f0) (tw f0) (pa f0) (pb f0) (.ref lo2) (.ref lk2) fm2), (oc4 lk2 (kd f0) (st f0) .null (gb f0) (it f0) we2)] := ⟨hfe2, hlk2, trivial⟩
      have hD0_1 := hD
      obtain ⟨T_1, hT_1, hP, hD⟩ := pl_oT hP hD hc9_1 (pwF hfe2.2 hlk2.2)
      obtain ⟨hP, hD⟩ := zre (W2 := ([_, _, _, _, _] ++ va_pl T_1 f)) hP hD rfl
      refine lv_iload_n hx hb dX10_far_13 rfl (lv_at hl 2 rfl) ?_
      obtain ⟨hPc, hDc, hFc, hI1⟩ := zi_sub (wc := [_, _, _, _]) hP hD hS hA [1, 2, 3, 4] (by decide +kernel) rfl
      refine zcall (st1 := [.null]) (va_runV (As := [.int (nI f0)]) (rest := []) ⟨hx, hb, hml, hown, hts⟩ (k_Sheet_rowThere_tv l dC dI cI cZ cF H.size sh fa ft FA f0 fe2 lo2 (rk f0) (wd f0) (tw f0) (pa f0) (pb f0) lk2 (kd f0) (st f0) (gb f0) (it f0) we2 fm2 (h200) (by first | with_reducible assumption | omega) (hFA2)) (csV_144 hts rfl rfl ⟨Nat.le_of_ble_eq_true rfl, Nat.le_of_ble_eq_true rfl⟩) (zPV2 (q0 := 0) (ci := 7) hPc hDc hK hXN rfl rfl) rfl rfl hl.1 rfl (lv_room (Nat.le_of_ble_eq_true rfl)) dX10_far_14 ⟨Nat.le_of_ble_eq_true rfl, Nat.le_of_ble_eq_true rfl⟩) hS hFc hFc rfl (fun t H locs ht hB hk1 hS => ?_)
      obtain ⟨hP1, hD1⟩ := hB
      rw [ht] at hP1
      replace hP := z0 hP hD hk1 hP1 hI1
      clear hk1 hPc hDc hFc hP1 hD1 ht hI1
      obtain ⟨hP, hD⟩ := pl_bk (X := [_, _, _]) hT_1 hP rfl hc9_1 hD0_1 rfl
      refine lv_astoreN (lv' := [(4, .null), (3, .ref fe2), (0, .ref x), (1, .int (nI f0)), (2, .int wv)]) hx hb dX10_far_17 hl (Nat.le_of_ble_eq_true rfl) rfl (fun ls hl => ?_)
      refine lv_aload_n hx hb dX10_far_19 rfl (lv_at hl 1 rfl) ?_
      refine lv_ifnull hx hb dX10_far_20 ?_
      refine lv_aloadN hx hb dX10_far_23 (lv_at hl 0 rfl) ?_
      refine lv_ifnullN (tgt := 37) hx hb dX10_far_25 rfl ?_
      refine lv_ldc2 hx hb hown (hts _ mw_1077) dX10_far_37 ?_
      obtain ⟨hP9, hD9⟩ := zu_part (cx := [_, _, _]) hP hD [true, true, true] rfl rfl
      rw [hQ9]
      exact W.lret (v := (-1)) hx hb hr (fun t ht hW => ⟨⟨rfl, by rw [ht]; exact hP9, hD9⟩, hS.F ht⟩) hS.2.2 dX10_far_40
    · skip
      refine va_get (D := (dC, dI)) (ci := 8) (v := .ref sh) (C := RX10) (T := TX10) (N := 13) hx hb hts inX10 hown hK hP 0 rfl rfl 0 (Nat.le_of_ble_eq_true rfl) (hts _ mw_309) (fun _ h9 => h9) rfl dX10_far_1 ?_
      refine lv_iload_n hx hb dX10_far_4 rfl (lv_at hl 1 rfl) ?_
      obtain ⟨hPc, hDc, hFc, hI1⟩ := zi_sub (wc := [_, _]) hP hD hS hA [1, 2] rfl rfl
      refine zcall (st1 := [.ref fe2]) (va_runV (As := [.int (nI f0)]) (rest := []) ⟨hx, hb, hml, hown, hts⟩ (k_Sheet_find l dC dI cI cZ cF s.heap.size sh fa ft FA f0 fe2 (h200) (by first | with_reducible assumption | omega) (hFA2)) (csV_94 hts rfl rfl ⟨Nat.le_of_ble_eq_true rfl, Nat.le_of_ble_eq_true rfl⟩) (zPV2 (q0 := 0) (ci := 7) hPc hDc hK hXN rfl rfl) rfl rfl hl.1 rfl (lv_room (Nat.le_of_ble_eq_true rfl)) dX10_far_5 ⟨Nat.le_of_ble_eq_true rfl, Nat.le_of_ble_eq_true rfl⟩) hS hFc hFc rfl (fun t H locs ht hB hk1 hS => ?_)
      obtain ⟨hP1, hD1⟩ := hB
      rw [ht] at hP1
      replace hP := z0 hP hD hk1 hP1 hI1
      clear hk1 hPc hDc hFc hP1 hD1 ht hI1
      refine lv_astore_n (lv' := [(3, .ref fe2), (0, .ref x), (1, .int (nI f0)), (2, .int wv)]) hx hb dX10_far_8 rfl hl (Nat.le_of_ble_eq_true rfl) rfl (fun ls hl => ?_)
      refine lv_aload_n hx hb dX10_far_9 rfl (lv_at hl 1 rfl) ?_
      refine va_get (D := (dC, dI)) (ci := 8) (v := .ref sh) (C := RX10) (T := TX10) (N := 13) hx hb hts inX10 hown hK hP 0 rfl rfl 0 (Nat.le_of_ble_eq_true rfl) (hts _ mw_309) (fun _ h9 => h9) rfl dX10_far_10 ?_
      have hc9_1 : inPl L f [(oc1 fe2 (rk f0) (wd f0) (tw f0) (pa f0) (pb f0) (.ref lo2) (.ref lk2) fm2), (oc4 lk2 (kd f0) (st f0) (.ref r2) (gb f0) (it f0) we2)] := ⟨hfe2, hlk2, trivial⟩
      have hD0_1 := hD
      obtain ⟨T_1, hT_1, hP, hD⟩ := pl_oT hP hD hc9_1 (pwF hfe2.2 hlk2.2)
      obtain ⟨hP, hD⟩ := zre (W2 := ([_, _, _, _, _] ++ va_pl T_1 f)) hP hD rfl
      refine lv_iload_n hx hb dX10_far_13 rfl (lv_at hl 2 rfl) ?_
      obtain ⟨hPc, hDc, hFc, hI1⟩ := zi_sub (wc := [_, _, _, _]) hP hD hS hA [1, 2, 3, 4] (by decide +kernel) rfl
      refine zcall (st1 := [.ref r2]) (va_runV (As := [.int (nI f0)]) (rest := []) ⟨hx, hb, hml, hown, hts⟩ (k_Sheet_rowThere_yv l dC dI cI cZ cF H.size sh fa ft FA f0 fe2 lo2 (rk f0) (wd f0) (tw f0) (pa f0) (pb f0) lk2 (kd f0) (st f0) (gb f0) (it f0) we2 r2 fm2 (h200) (by first | with_reducible assumption | omega) (hFA2) (by first | exact hA2 | omega)) (csV_144 hts rfl rfl ⟨Nat.le_of_ble_eq_true rfl, Nat.le_of_ble_eq_true rfl⟩) (zPV2 (q0 := 0) (ci := 7) hPc hDc hK hXN rfl rfl) rfl rfl hl.1 rfl (lv_room (Nat.le_of_ble_eq_true rfl)) dX10_far_14 ⟨Nat.le_of_ble_eq_true rfl, Nat.le_of_ble_eq_true rfl⟩) hS hFc hFc rfl (fun t H locs ht hB hk1 hS => ?_)
      obtain ⟨hP1, hD1⟩ := hB
      rw [ht] at hP1
      replace hP := z0 hP hD hk1 hP1 hI1
      clear hk1 hPc hDc hFc hP1 hD1 ht hI1
      obtain ⟨hP, hD⟩ := pl_bk (X := [_, _, _]) hT_1 hP rfl hc9_1 hD0_1 rfl
      refine lv_astore (lv' := [(4, .ref r2), (3, .ref fe2), (0, .ref x), (1, .int (nI f0)), (2, .int wv)]) hx hb dX10_far_17 hl (Nat.le_of_ble_eq_true rfl) rfl (fun ls hl => ?_)
      refine lv_aload_n hx hb dX10_far_19 rfl (lv_at hl 1 rfl) ?_
      refine lv_ifnull hx hb dX10_far_20 ?_
      refine lv_aload hx hb dX10_far_23 (lv_at hl 0 rfl) ?_
      refine lv_ifnull hx hb dX10_far_25 ?_
      exact absurd ⟨f0, rfl, hq2, hA2, ht2⟩ hbad
    · skip
      refine va_get (D := (dC, dI)) (ci := 8) (v := .ref sh) (C := RX10) (T := TX10) (N := 13) hx hb hts inX10 hown hK hP 0 rfl rfl 0 (Nat.le_of_ble_eq_true rfl) (hts _ mw_309) (fun _ h9 => h9) rfl dX10_far_1 ?_
      refine lv_iload_n hx hb dX10_far_4 rfl (lv_at hl 1 rfl) ?_
      obtain ⟨hPc, hDc, hFc, hI1⟩ := zi_sub (wc := [_, _]) hP hD hS hA [1, 2] rfl rfl
      refine zcall (st1 := [.ref fe2]) (va_runV (As := [.int (nI f0)]) (rest := []) ⟨hx, hb, hml, hown, hts⟩ (k_Sheet_find l dC dI cI cZ cF s.heap.size sh fa ft FA f0 fe2 (h200) (by first | with_reducible assumption | omega) (hFA2)) (csV_94 hts rfl rfl ⟨Nat.le_of_ble_eq_true rfl, Nat.le_of_ble_eq_true rfl⟩) (zPV2 (q0 := 0) (ci := 7) hPc hDc hK hXN rfl rfl) rfl rfl hl.1 rfl (lv_room (Nat.le_of_ble_eq_true rfl)) dX10_far_5 ⟨Nat.le_of_ble_eq_true rfl, Nat.le_of_ble_eq_true rfl⟩) hS hFc hFc rfl (fun t H locs ht hB hk1 hS => ?_)
      obtain ⟨hP1, hD1⟩ := hB
      rw [ht] at hP1
      replace hP := z0 hP hD hk1 hP1 hI1
      clear hk1 hPc hDc hFc hP1 hD1 ht hI1
      refine lv_astore_n (lv' := [(3, .ref fe2), (0, .ref x), (1, .int (nI f0)), (2, .int wv)]) hx hb dX10_far_8 rfl hl (Nat.le_of_ble_eq_true rfl) rfl (fun ls hl => ?_)
      refine lv_aload_n hx hb dX10_far_9 rfl (lv_at hl 1 rfl) ?_
      refine va_get (D := (dC, dI)) (ci := 8) (v := .ref sh) (C := RX10) (T := TX10) (N := 13) hx hb hts inX10 hown hK hP 0 rfl rfl 0 (Nat.le_of_ble_eq_true rfl) (hts _ mw_309) (fun _ h9 => h9) rfl dX10_far_10 ?_
      have hc9_1 : inPl L f [(oc1 fe2 (rk f0) (wd f0) (tw f0) (pa f0) (pb f0) (.ref lo2) (.ref lk2) fm2), (oc4 lk2 (kd f0) (st f0) (.ref r2) (gb f0) (it f0) we2)] := ⟨hfe2, hlk2, trivial⟩
      have hD0_1 := hD
      obtain ⟨T_1, hT_1, hP, hD⟩ := pl_oT hP hD hc9_1 (pwF hfe2.2 hlk2.2)
      obtain ⟨hP, hD⟩ := zre (W2 := ([_, _, _, _, _] ++ va_pl T_1 f)) hP hD rfl
      refine lv_iload_n hx hb dX10_far_13 rfl (lv_at hl 2 rfl) ?_
      obtain ⟨hPc, hDc, hFc, hI1⟩ := zi_sub (wc := [_, _, _, _]) hP hD hS hA [1, 2, 3, 4] (by decide +kernel) rfl
      refine zcall (st1 := [.null]) (va_runV (As := [.int (nI f0)]) (rest := []) ⟨hx, hb, hml, hown, hts⟩ (k_Sheet_rowThere_sv l dC dI cI cZ cF H.size sh fa ft FA f0 fe2 lo2 (rk f0) (wd f0) (tw f0) (pa f0) (pb f0) lk2 (kd f0) (st f0) (gb f0) (it f0) we2 fm2 (.ref r2) (h200) (by first | with_reducible assumption | omega) (hFA2) (by first | exact hA2 | omega)) (csV_144 hts rfl rfl ⟨Nat.le_of_ble_eq_true rfl, Nat.le_of_ble_eq_true rfl⟩) (zPV2 (q0 := 0) (ci := 7) hPc hDc hK hXN rfl rfl) rfl rfl hl.1 rfl (lv_room (Nat.le_of_ble_eq_true rfl)) dX10_far_14 ⟨Nat.le_of_ble_eq_true rfl, Nat.le_of_ble_eq_true rfl⟩) hS hFc hFc rfl (fun t H locs ht hB hk1 hS => ?_)
      obtain ⟨hP1, hD1⟩ := hB
      rw [ht] at hP1
      replace hP := z0 hP hD hk1 hP1 hI1
      clear hk1 hPc hDc hFc hP1 hD1 ht hI1
      obtain ⟨hP, hD⟩ := pl_bk (X := [_, _, _]) hT_1 hP rfl hc9_1 hD0_1 rfl
      refine lv_astoreN (lv' := [(4, .null), (3, .ref fe2), (0, .ref x), (1, .int (nI f0)), (2, .int wv)]) hx hb dX10_far_17 hl (Nat.le_of_ble_eq_true rfl) rfl (fun ls hl => ?_)
      refine lv_aload_n hx hb dX10_far_19 rfl (lv_at hl 1 rfl) ?_
      refine lv_ifnull hx hb dX10_far_20 ?_
      refine lv_aloadN hx hb dX10_far_23 (lv_at hl 0 rfl) ?_
      refine lv_ifnullN (tgt := 37) hx hb dX10_far_25 rfl ?_
      refine lv_ldc2 hx hb hown (hts _ mw_1077) dX10_far_37 ?_
      obtain ⟨hP9, hD9⟩ := zu_part (cx := [_, _, _]) hP hD [true, true, true] rfl rfl
      rw [hQ9]
      exact W.lret (v := (-1)) hx hb hr (fun t ht hW => ⟨⟨rfl, by rw [ht]; exact hP9, hD9⟩, hS.F ht⟩) hS.2.2 dX10_far_40
set_option maxHeartbeats 4000000 in
set_option maxRecDepth 100000 in
theorem k_far_y0 (l : Launch) (dC : Nat → ClassId) (dI : Nat → Nat → Nat) (cI cZ cF : ClassId) (sz : Nat) (cO : ClassId) (e0 : Nat) (mi : Nat) (x : Nat) (sh : Nat) (lw : Nat) (ro : Nat) (bq : Nat) (bp : Nat) (dq : Nat) (dp : Nat) (lv : Nat) (sl : Nat) (sd : Int32) (ul : Int32) (su : Int32) (ea : Nat) (mc9 : Int32) (fa : Nat) (FA : Nat → Option Nat) (bs : Nat) (dn : Nat) (T : Nat) (ft : Nat) (FT : Nat → Nat) (V : Nat → Nat → Nat → Int32) (VX : Nat → Nat → Int32) (VY : Nat → Nat → Int32) (tn : Nat → Int32) (rk : Nat → Int32) (wd : Nat → Int32) (tw : Nat → Int32) (pa : Nat → Int32) (pb : Nat → Int32) (wh : Nat → Int32) (of9 : Nat → Int32) (we : Nat → Int32) (kd : Nat → Int32) (st : Nat → Int32) (gb : Nat → Int32) (it : Nat → Int32) (mn : Nat → Int32) (cx : Nat → Int32) (cy : Nat → Int32) (L : List Nat) (f : Nat → va_E) (f0 : Nat) (y1 : Int64) (y2 : Int64) (y3 : Int64) (y4 : Int64) (hB : shB cI cO L f e0 FA ea bs dn T ft FT V VX VY tn rk wd tw pa pb wh of9 we kd st gb it mn cx cy) (hf0 : f0 < ft) (htn : (tn f0).toInt = 0) (hst : (st f0).toInt = 1) (hwf : ∀ q, lvF ft st tn q → wfM mn cx cy q) (hkn : okN ft st tn kd mn) (hpl9 : ∀ i, i < nN (V dn 5 f0) → pl (V dn (i + 6) f0) ∧ pl (V dn (i + 50) f0)) : Met l yX10_far (.code yX10_far cX10_far 6 (some .long) :: ws0) ({ frames := 3, cells := 0, slots := 0, locals := 81 } : Room) (va_Pc [.ref x, .int (nI f0), .int 0] (zPre (dC, dI) classes (zTyO cI cZ cF cO) ([(oc8 x (.ref sh) (.ref lw) (.ref ro) (.ref bq) (.ref bp) (.ref dq) (.ref dp) (.ref lv) (.ref sl) (nI dn) sd ul su), (oc10 sl mc9 (.ref ea) (nI T)), (oc2 dq y1 y2), (oc2 dp y3 y4), (oc7 sh (.ref fa) (nI ft)), (oq fa cF 200 FA)] ++ va_pl L f) sz (zXL e0 mi (va_A ([(oc8 x (.ref sh) (.ref lw) (.ref ro) (.ref bq) (.ref bp) (.ref dq) (.ref dp) (.ref lv) (.ref sl) (nI dn) sd ul su), (oc10 sl mc9 (.ref ea) (nI T)), (oc2 dq y1 y2), (oc2 dp y3 y4), (oc7 sh (.ref fa) (nI ft)), (oq fa cF 200 FA)] ++ va_pl L f) sz)))) (zQe (fun v9 t => ∃ (un : Nat), ∃ (dd : Nat), ∃ (y5 : Int64), ∃ (y6 : Int64), ∃ (y7 : Int64), ∃ (y8 : Int64), v9 = (some (.long (jI ((un / Nat.gcd un dd : Nat) : Int)))) ∧ (XM (fxQ (fS (fun i => V dn (i + 6) f0) (fun i => V dn (i + 50) f0) (nN (V dn 5 f0))) (nN (mn f0)) (cF40 cx f0) (cF40 cy f0) (eO (kd f0).toInt (nN (mn f0)))) ((un : Nat) : Int) ((dd : Nat) : Int)) ∧ (un ≤ 4000000000000 ∧ 1 ≤ dd ∧ dd ≤ 2000000) ∧ va_P (dC, dI) classes ([(oc8 x (.ref sh) (.ref lw) (.ref ro) (.ref bq) (.ref bp) (.ref dq) (.ref dp) (.ref lv) (.ref sl) (nI dn) sd ul su), (oc10 sl mc9 (.ref ea) (nI T)), (oc2 dq y5 y6), (oc2 dp y7 y8), (oc7 sh (.ref fa) (nI ft)), (oq fa cF 200 FA)] ++ va_pl L f) t.heap ∧ va_D (va_A ([(oc8 x (.ref sh) (.ref lw) (.ref ro) (.ref bq) (.ref bp) (.ref dq) (.ref dp) (.ref lv) (.ref sl) (nI dn) sd ul su), (oc10 sl mc9 (.ref ea) (nI T)), (oc2 dq y1 y2), (oc2 dp y3 y4), (oc7 sh (.ref fa) (nI ft)), (oq fa cF 200 FA)] ++ va_pl L f) sz) ([(oc8 x (.ref sh) (.ref lw) (.ref ro) (.ref bq) (.ref bp) (.ref dq) (.ref dp) (.ref lv) (.ref sl) (nI dn) sd ul su), (oc10 sl mc9 (.ref ea) (nI T)), (oc2 dq y5 y6), (oc2 dp y7 y8), (oc7 sh (.ref fa) (nI ft)), (oq fa cF 200 FA)] ++ va_pl L f)) (va_A ([(oc8 x (.ref sh) (.ref lw) (.ref ro) (.ref bq) (.ref bp) (.ref dq) (.ref dp) (.ref lv) (.ref sl) (nI dn) sd ul su), (oc10 sl mc9 (.ref ea) (nI T)), (oc2 dq y1 y2), (oc2 dp y3 y4), (oc7 sh (.ref fa) (nI ft)), (oq fa cF 200 FA)] ++ va_pl L f) sz)) 0 0 (va_A ([(oc8 x (.ref sh) (.ref lw) (.ref ro) (.ref bq) (.ref bp) (.ref dq) (.ref dp) (.ref lv) (.ref sl) (nI dn) sd ul su), (oc10 sl mc9 (.ref ea) (nI T)), (oc2 dq y1 y2), (oc2 dp y3 y4), (oc7 sh (.ref fa) (nI ft)), (oq fa cF 200 FA)] ++ va_pl L f) sz) := by
  refine Met.ofW (cc := cX10_far) (maxL := 6) (ret := (some .long)) rfl rfl ?_
  intro p e s m args below meth c s₁ B hml hv
  obtain ⟨rfl, hsz, hP, hK, hD0, hXL⟩ := hv
  have hx := B.exec
  have hb := B.bytes
  have hr := B.returns
  have hts0 := atoms_spec (ws := .code yX10_far cX10_far 6 (some .long) :: ws0) B.pre
  have hts : ∀ w9 ∈ ws0, w9.before ([.ref x, .int (nI f0), .int 0] : List Value).toArray s = true := fun w9 h => hts0 w9 (List.mem_cons_of_mem _ h)
  have hown : s.vm.findClass "ScaleShop" = some m.cls := findClass_of_methodNamed B.named
  have hlocks := B.notSynchronized
  subst hsz
  have hD := hD0.self (sz := s.heap.size)
  clear hD0
  generalize hAe : va_A ([(oc8 x (.ref sh) (.ref lw) (.ref ro) (.ref bq) (.ref bp) (.ref dq) (.ref dp) (.ref lv) (.ref sl) (nI dn) sd ul su), (oc10 sl mc9 (.ref ea) (nI T)), (oc2 dq y1 y2), (oc2 dp y3 y4), (oc7 sh (.ref fa) (nI ft)), (oq fa cF 200 FA)] ++ va_pl L f) s.heap.size = A at hD hXL ⊢
  have hA : ∀ q : Nat, s.heap.size ≤ q → A q := fun q h => by rw [← hAe]; exact Or.inr h
  clear hAe
  have hS : va_S A s.heap s.heap [] := va_S.rf
  have hXN := hXL.1
  have hK3 := hK.sub [0, 1, 2] rfl
  have hP : va_P (dC, dI) classes ([(oc8 x (.ref sh) (.ref lw) (.ref ro) (.ref bq) (.ref bp) (.ref dq) (.ref dp) (.ref lv) (.ref sl) (nI dn) sd ul su), (oc10 sl mc9 (.ref ea) (nI T)), (oc2 dq y1 y2), (oc2 dp y3 y4), (oc7 sh (.ref fa) (nI ft)), (oq fa cF 200 FA)] ++ va_pl L f) s.heap := hP
  obtain ⟨Q9, hQ9⟩ : ∃ Q9 : State → Prop, Q9 = MQ below (zQe (fun v9 t => ∃ (un : Nat), ∃ (dd : Nat), ∃ (y5 : Int64), ∃ (y6 : Int64), ∃ (y7 : Int64), ∃ (y8 : Int64), v9 = (some (.long (jI ((un / Nat.gcd un dd : Nat) : Int)))) ∧ (XM (fxQ (fS (fun i => V dn (i + 6) f0) (fun i => V dn (i + 50) f0) (nN (V dn 5 f0))) (nN (mn f0)) (cF40 cx f0) (cF40 cy f0) (eO (kd f0).toInt (nN (mn f0)))) ((un : Nat) : Int) ((dd : Nat) : Int)) ∧ (un ≤ 4000000000000 ∧ 1 ≤ dd ∧ dd ≤ 2000000) ∧ va_P (dC, dI) classes ([(oc8 x (.ref sh) (.ref lw) (.ref ro) (.ref bq) (.ref bp) (.ref dq) (.ref dp) (.ref lv) (.ref sl) (nI dn) sd ul su), (oc10 sl mc9 (.ref ea) (nI T)), (oc2 dq y5 y6), (oc2 dp y7 y8), (oc7 sh (.ref fa) (nI ft)), (oq fa cF 200 FA)] ++ va_pl L f) t.heap ∧ va_D A ([(oc8 x (.ref sh) (.ref lw) (.ref ro) (.ref bq) (.ref bp) (.ref dq) (.ref dp) (.ref lv) (.ref sl) (nI dn) sd ul su), (oc10 sl mc9 (.ref ea) (nI T)), (oc2 dq y5 y6), (oc2 dp y7 y8), (oc7 sh (.ref fa) (nI ft)), (oq fa cF 200 FA)] ++ va_pl L f)) A) ([.ref x, .int (nI f0), .int 0] : List Value).toArray s 0 0 A := ⟨_, rfl⟩
  rw [← hQ9]
  have hl := lv_entry ([.ref x, .int (nI f0), .int 0]) (n := 6) (Nat.le_of_ble_eq_true rfl)
  rw [lg_entry_eq]
  generalize (lg_sl ([.ref x, .int (nI f0), .int 0]) ++ List.replicate (6 - (lg_sl ([.ref x, .int (nI f0), .int 0])).length) Slot.unset).toArray = ls at hl ⊢
  have hl : lv_has ls 6 [(0, .ref x), (1, .int (nI f0)), (2, .int 0)] := hl
  obtain ⟨own, fe, cl, la, sp, SA, hG9, hH9, hft9, hO9⟩ := hB
  obtain ⟨hG, hM, hdT, hT5, hO⟩ := M_0 hG9 hH9 hft9 hO9
  have h200 : ft ≤ 200 := hG.2.2.2.2.2.1.2.2.2.2.2
  have hFA9 := hG.2.2.2.2.2.2
  refine ex13 (sh_fc hG.1 hG.2.1 (Nat.le_refl _) hf0 htn) (fun lo5 lx5 ly5 ln5 LX5 LY5 we5 r5 rx5 ry5 cap5 X5 Y5 hc5 => ?_)
  have hc5 := fc_0 hc5
  have hb5 := hc5.2.2.1
  have hb6 := hc5.2.1
  have hat9 := lo_at hO (Nat.le_refl _) hf0 hc5.1.1 hc5.1.2.2.2 (by omega) hc5.1.2.1 hb5.2.2
  have hlv : lvF ft st tn f0 := ⟨hf0, hst, htn⟩
  have hwf0 := hwf f0 hlv
  have hw1 := hwf0.2.1
  have hkn0 := hkn f0 hlv
  have hX5 := hc5.2.2.2.2.1
  have hp5 := (pls_cg hX5).mpr hwf0.2.2
  have e_0 : (0 : Int32).toInt = 0 := (by decide)
  have e_1 : (1 : Int32).toInt = 1 := (by decide)
  have hwl9 := hat9.2
  have hw5 : nN (V dn 5 f0) = we5 := (by rw [hat9.1.1]; exact nN_n9 (by omega))
  have hpl5 : ∀ i, i < we5 → pl (LX5 i) ∧ pl (LY5 i) := fun i hi => (by rw [(hat9.1.2 i hi).1, (hat9.1.2 i hi).2]; exact hpl9 i (by omega))
  have hpn9 : 1 ≤ prt (nN (mn f0)) (rgK (kd f0).toInt) := (by rw [prt_eO (rgK_t _) hkn0]; unfold eO; split; omega; split <;> omega)
  have hpr9 := prt_le (nN (mn f0)) (rgK (kd f0).toInt)
  have hc9_1 : inPl L f [(oc1 (fe f0) (rk f0) (wd f0) (tw f0) (pa f0) (pb f0) (.ref lo5) (.ref (la dn f0)) .null), (oc4 (la dn f0) (kd f0) (st f0) (.ref r5) (gb f0) (it f0) (nI we5)), (oc6 r5 (.ref rx5) (.ref ry5) (nI (nN (mn f0))) (rgK (kd f0).toInt)), (oa rx5 cI cap5 X5), (oa ry5 cI cap5 Y5), (oc6 lo5 (.ref lx5) (.ref ly5) (nI ln5) 0), (oa lx5 cI (cl f0) LX5), (oa ly5 cI (cl f0) LY5)] := ⟨ce_pl hc5.1.1, ce_pl hc5.1.2.1, ce_pl hc5.1.2.2.1.1, ce_pl hc5.1.2.2.1.2.1, ce_pl hc5.1.2.2.1.2.2.1, ce_pl hc5.1.2.2.2.1, ce_pl hc5.1.2.2.2.2.1, ce_pl hc5.1.2.2.2.2.2.1, trivial⟩
  have hD0_1 := hD
  obtain ⟨T_1, hT_1, hP, hD⟩ := pl_oT hP hD hc9_1 (pw8 hc5 (by omega))
  obtain ⟨hP, hD⟩ := zre (W2 := ([_, _, _, _, _, _, _, _, _, _, _, _, _, _] ++ va_pl T_1 f)) hP hD rfl
  refine lv_aload_n hx hb dX10_far_0 rfl (lv_at hl 0 rfl) ?_
  refine va_get (D := (dC, dI)) (ci := 8) (v := .ref sh) (C := RX10) (T := TX10) (N := 13) hx hb hts inX10 hown hK hP 0 rfl rfl 0 (Nat.le_of_ble_eq_true rfl) (hts _ mw_309) (fun _ h9 => h9) rfl dX10_far_1 ?_
  refine lv_iload_n hx hb dX10_far_4 rfl (lv_at hl 1 rfl) ?_
  obtain ⟨hPc, hDc, hFc, hI1⟩ := zi_sub (wc := [_, _]) hP hD hS hA [4, 5] rfl rfl
  refine zcall (st1 := [.ref (fe f0)]) (va_runV (As := [.int (nI f0)]) (rest := []) ⟨hx, hb, hml, hown, hts⟩ (k_Sheet_find l dC dI cI cZ cF s.heap.size sh fa ft FA f0 (fe f0) (by first | with_reducible assumption | omega) (by first | with_reducible assumption | omega) (hFA9 f0 (by first | with_reducible assumption | omega))) (csV_94 hts rfl rfl ⟨Nat.le_of_ble_eq_true rfl, Nat.le_of_ble_eq_true rfl⟩) (zPV2 (q0 := 0) (ci := 7) hPc hDc hK3 hXN rfl rfl) rfl rfl hl.1 rfl (lv_room (Nat.le_of_ble_eq_true rfl)) dX10_far_5 ⟨Nat.le_of_ble_eq_true rfl, Nat.le_of_ble_eq_true rfl⟩) hS hFc hFc rfl (fun t H locs ht hB hk1 hS => ?_)
  obtain ⟨hP1, hD1⟩ := hB
  rw [ht] at hP1
  replace hP := z0 hP hD hk1 hP1 hI1
  clear hk1 hPc hDc hFc hP1 hD1 ht hI1
  refine lv_astore_n (lv' := [(3, .ref (fe f0)), (0, .ref x), (1, .int (nI f0)), (2, .int 0)]) hx hb dX10_far_8 rfl hl (Nat.le_of_ble_eq_true rfl) rfl (fun ls hl => ?_)
  refine lv_aload_n hx hb dX10_far_9 rfl (lv_at hl 1 rfl) ?_
  refine va_get (D := (dC, dI)) (ci := 8) (v := .ref sh) (C := RX10) (T := TX10) (N := 13) hx hb hts inX10 hown hK hP 0 rfl rfl 0 (Nat.le_of_ble_eq_true rfl) (hts _ mw_309) (fun _ h9 => h9) rfl dX10_far_10 ?_
  refine lv_iload_n hx hb dX10_far_13 rfl (lv_at hl 2 rfl) ?_
  obtain ⟨hPc, hDc, hFc, hI1⟩ := zi_sub (wc := [_, _, _, _]) hP hD hS hA [4, 5, 6, 7] (by decide +kernel) rfl
  refine zcall (st1 := [.ref r5]) (va_runV (As := [.int (nI f0)]) (rest := []) ⟨hx, hb, hml, hown, hts⟩ (k_Sheet_rowThere_yv l dC dI cI cZ cF H.size sh fa ft FA f0 (fe f0) lo5 (rk f0) (wd f0) (tw f0) (pa f0) (pb f0) (la dn f0) (kd f0) (st f0) (gb f0) (it f0) (nI we5) r5 (.null) (by first | with_reducible assumption | omega) (by first | with_reducible assumption | omega) (hFA9 f0 (by first | with_reducible assumption | omega)) (hst)) (csV_144 hts rfl rfl ⟨Nat.le_of_ble_eq_true rfl, Nat.le_of_ble_eq_true rfl⟩) (zPV2 (q0 := 0) (ci := 7) hPc hDc hK3 hXN rfl rfl) rfl rfl hl.1 rfl (lv_room (Nat.le_of_ble_eq_true rfl)) dX10_far_14 ⟨Nat.le_of_ble_eq_true rfl, Nat.le_of_ble_eq_true rfl⟩) hS hFc hFc rfl (fun t H locs ht hB hk1 hS => ?_)
  obtain ⟨hP1, hD1⟩ := hB
  rw [ht] at hP1
  replace hP := z0 hP hD hk1 hP1 hI1
  clear hk1 hPc hDc hFc hP1 hD1 ht hI1
  refine lv_astore (lv' := [(4, .ref r5), (3, .ref (fe f0)), (0, .ref x), (1, .int (nI f0)), (2, .int 0)]) hx hb dX10_far_17 hl (Nat.le_of_ble_eq_true rfl) rfl (fun ls hl => ?_)
  refine lv_aload_n hx hb dX10_far_19 rfl (lv_at hl 1 rfl) ?_
  refine lv_ifnull hx hb dX10_far_20 ?_
  refine lv_aload hx hb dX10_far_23 (lv_at hl 0 rfl) ?_
  refine lv_ifnull hx hb dX10_far_25 ?_
  refine lv_iload_n hx hb dX10_far_28 rfl (lv_at hl 4 rfl) ?_
  refine lv_iconst (v := 0) hx hb dX10_far_29 rfl ?_
  refine lv_iconst (v := 1) hx hb dX10_far_30 rfl ?_
  obtain ⟨hPc, hDc, hFc, hI1⟩ := zi_sub (wc := []) hP hD hS hA [] rfl rfl
  refine zcall (st1 := [.int (pI ((0 : Int32).toInt ≤ (0 : Int32).toInt ∧ (0 : Int32).toInt ≤ (1 : Int32).toInt))]) (va_runS (As := [.int 0, .int 0, .int 1]) (rest := []) ⟨hx, hb, hml, hown, hts⟩ (k_isWithin l dC dI cI cZ cF H.size 0 0 1 ) (csS_14 hts rfl rfl ⟨Nat.le_of_ble_eq_true rfl, Nat.le_of_ble_eq_true rfl⟩) (zPS2 hPc hDc hK3 hXN) rfl rfl hl.1 rfl (lv_room (Nat.le_of_ble_eq_true rfl)) dX10_far_31 ⟨Nat.le_of_ble_eq_true rfl, Nat.le_of_ble_eq_true rfl⟩) hS hFc hFc rfl (fun t H locs ht hB hk1 hS => ?_)
  obtain ⟨hP1, hD1⟩ := hB
  rw [ht] at hP1
  replace hP := z0 hP hD hk1 hP1 hI1
  clear hk1 hPc hDc hFc hP1 hD1 ht hI1
  refine lv_if_ne (tgt := 41) hx hb dX10_far_34 rfl (fun c_1 => ?_) (fun c_1 => ?_)
  · have c_1 : (0 : Int32).toInt ≤ (0 : Int32).toInt ∧ (0 : Int32).toInt ≤ (1 : Int32).toInt := zp_1 c_1
    refine lv_aload_n hx hb dX10_far_41 rfl (lv_at hl 2 rfl) ?_
    refine va_get (D := (dC, dI)) (ci := 8) (v := .ref dp) (C := RX10) (T := TX10) (N := 13) hx hb hts inX10 hown hK hP 0 rfl rfl 6 (Nat.le_of_ble_eq_true rfl) (hts _ mw_315) (fun _ h9 => h9) rfl dX10_far_42 ?_
    refine lv_lconst (v := 0) hx hb dX10_far_45 rfl ?_
    refine zz_l (v := jI 0) (jI_0) ?_
    refine lv_lconst (v := 1) hx hb dX10_far_46 rfl ?_
    refine zz_l (v := jI 1) (jI_1) ?_
    obtain ⟨hPc, hDc, hFc⟩ := zo_sub (wc := [_]) hP hD hS hA [3] rfl rfl
    refine zcall (st1 := []) (va_runV (As := [.long (jI 0), .long (jI 1)]) (rest := []) ⟨hx, hb, hml, hown, hts⟩ (k_Fr_become l dC dI cI cZ cF H.size dp y3 y4 (jI 0) (jI 1) ) (csV_152 hts rfl rfl ⟨Nat.le_of_ble_eq_true rfl, Nat.le_of_ble_eq_true rfl⟩) (zPV2 (q0 := 0) (ci := 2) hPc hDc hK3 hXN rfl rfl) rfl rfl hl.1 rfl (lv_room (Nat.le_of_ble_eq_true rfl)) dX10_far_47 ⟨Nat.le_of_ble_eq_true rfl, Nat.le_of_ble_eq_true rfl⟩) hS hFc hFc rfl (fun t H locs ht hB hk1 hS => ?_)
    obtain ⟨hP1, hD1⟩ := hB
    rw [ht] at hP1
    obtain ⟨hP, hD⟩ := znQ (W2 := [_, _, _, (oc2 dp (jI 0) (jI 1)), _, _, _, _, _, _, _, _, _, _]) hP hD hk1 hFc hP1 hD1 [3] zl_125 zl_125 [3] (by decide +kernel) rfl rfl rfl rfl rfl
    clear hk1 hPc hDc hFc hP1 hD1 ht
    refine lv_iconst (v := 0) hx hb dX10_far_50 rfl ?_
    refine lv_istore (lv' := [(5, .int 0), (4, .ref r5), (3, .ref (fe f0)), (0, .ref x), (1, .int (nI f0)), (2, .int 0)]) hx hb dX10_far_51 hl (Nat.le_of_ble_eq_true rfl) rfl (fun ls hl => ?_)
    have hl_53 : ∀ (n9 : Nat) (i : Nat) (w1 : Int64) (w2 : Int64) (ua : Int) (ub : Int) (H : Heap) (locs : List Loc) (ls : Array Slot), we5 - i < n9 → (i ≤ we5) → (XM (fxQ (fS LX5 LY5 i) (nN (mn f0)) X5 Y5 (prt (nN (mn f0)) (rgK (kd f0).toInt))) ua ub) → ((0 ≤ ua ∧ ua ≤ 4000000000000) ∧ (1 ≤ ub ∧ ub ≤ 2000000)) → va_P (dC, dI) classes ([(oc8 x (.ref sh) (.ref lw) (.ref ro) (.ref bq) (.ref bp) (.ref dq) (.ref dp) (.ref lv) (.ref sl) (nI dn) sd ul su), (oc10 sl mc9 (.ref ea) (nI T)), (oc2 dq w1 w2), (oc2 dp (jI ua) (jI ub)), (oc7 sh (.ref fa) (nI ft)), (oq fa cF 200 FA), (oc1 (fe f0) (rk f0) (wd f0) (tw f0) (pa f0) (pb f0) (.ref lo5) (.ref (la dn f0)) .null), (oc4 (la dn f0) (kd f0) (st f0) (.ref r5) (gb f0) (it f0) (nI we5)), (oc6 r5 (.ref rx5) (.ref ry5) (nI (nN (mn f0))) (rgK (kd f0).toInt)), (oa rx5 cI cap5 X5), (oa ry5 cI cap5 Y5), (oc6 lo5 (.ref lx5) (.ref ly5) (nI ln5) 0), (oa lx5 cI (cl f0) LX5), (oa ly5 cI (cl f0) LY5)] ++ va_pl T_1 f) H → va_D A ([(oc8 x (.ref sh) (.ref lw) (.ref ro) (.ref bq) (.ref bp) (.ref dq) (.ref dp) (.ref lv) (.ref sl) (nI dn) sd ul su), (oc10 sl mc9 (.ref ea) (nI T)), (oc2 dq w1 w2), (oc2 dp (jI ua) (jI ub)), (oc7 sh (.ref fa) (nI ft)), (oq fa cF 200 FA), (oc1 (fe f0) (rk f0) (wd f0) (tw f0) (pa f0) (pb f0) (.ref lo5) (.ref (la dn f0)) .null), (oc4 (la dn f0) (kd f0) (st f0) (.ref r5) (gb f0) (it f0) (nI we5)), (oc6 r5 (.ref rx5) (.ref ry5) (nI (nN (mn f0))) (rgK (kd f0).toInt)), (oa rx5 cI cap5 X5), (oa ry5 cI cap5 Y5), (oc6 lo5 (.ref lx5) (.ref ly5) (nI ln5) 0), (oa lx5 cI (cl f0) LX5), (oa ly5 cI (cl f0) LY5)] ++ va_pl T_1 f) → va_S A s.heap H locs → lv_has ls 6 [(5, .int (nI i)), (4, .ref r5), (3, .ref (fe f0)), (0, .ref x), (1, .int (nI f0)), (2, .int 0)] → W p l e ((headSpec (.code yX10_far cX10_far 6 (some .long) :: ws0) ({ frames := 3, cells := 0, slots := 0, locals := 81 } : Room)).room) s m ([.ref x, .int (nI f0), .int 0] : List Value).toArray below meth c H locs 0 0 Q9 (F0 m 53 ls []) := by
      intro n9
      induction n9 with
      | zero => intro i w1 w2 ua ub H locs ls hm; exact absurd hm (Nat.not_lt_zero _)
      | succ n9 ih_53 =>
        intro i w1 w2 ua ub H locs ls hm hi hxm hab hP hD hS hl
        refine lv_iload hx hb dX10_far_53 (lv_at hl 0 rfl) ?_
        refine lv_aload_n hx hb dX10_far_55 rfl (lv_at hl 2 rfl) ?_
        refine va_get (D := (dC, dI)) (ci := 1) (v := .ref (la dn f0)) (C := RX2) (T := TX2) (N := 8) hx hb hts inX2 hown hK hP 6 rfl rfl 6 (Nat.le_of_ble_eq_true rfl) (hts _ mw_433) (fun _ h9 => h9) rfl dX10_far_56 ?_
        refine va_get (D := (dC, dI)) (ci := 4) (v := .int (nI we5)) (C := RX5) (T := TX5) (N := 6) hx hb hts inX5 hown hK hP 7 rfl rfl 5 (Nat.le_of_ble_eq_true rfl) (hts _ mw_401) (fun _ h9 => h9) rfl dX10_far_59 ?_
        have b9_3 : zlt (i) := show i < 2147483648 by omega
        have b9_4 : zlt (we5) := show we5 < 2147483648 by omega
        refine lv_icmp_ge (tgt := 154) hx hb dX10_far_62 rfl (fun c_2 => ?_) (fun c_2 => ?_)
        · have c_2 : ((we5 : Nat) : Int) ≤ ((i : Nat) : Int) := zc_le (nI_toInt b9_4) (nI_toInt b9_3) c_2
          have hie : i = we5 := (by omega)
          rw [hie] at hxm
          obtain ⟨un7, hun7⟩ := Int.eq_ofNat_of_zero_le (show 0 ≤ ua by omega)
          obtain ⟨dd7, hdd7⟩ := Int.eq_ofNat_of_zero_le (show 0 ≤ ub by omega)
          subst hun7
          subst hdd7
          have hxm8 := XM_rw (fS_g hat9.1 hw5) hX5 hpr9 (prt_eO (rgK_t _) hkn0) hxm
          obtain ⟨hP, hD⟩ := zre (W2 := ([_, _, _, _, _, _, _, _, _, _, _, _, _, _] ++ va_pl T_1 f)) hP hD rfl
          refine lv_aload_n hx hb dX10_far_154 rfl (lv_at hl 3 rfl) ?_
          refine va_get (D := (dC, dI)) (ci := 8) (v := .ref dp) (C := RX10) (T := TX10) (N := 13) hx hb hts inX10 hown hK hP 0 rfl rfl 6 (Nat.le_of_ble_eq_true rfl) (hts _ mw_315) (fun _ h9 => h9) rfl dX10_far_155 ?_
          refine lv_iload_n hx hb dX10_far_158 rfl (lv_at hl 5 rfl) ?_
          obtain ⟨hPc, hDc, hFc, hI1⟩ := zi_sub (wc := [_]) hP hD hS hA [3] rfl rfl
          refine zcall (st1 := [.long (jI ((un7 / Nat.gcd un7 dd7 : Nat) : Int))]) (va_runV (As := [.int 0]) (rest := []) ⟨hx, hb, hml, hown, hts⟩ (k_Fr_reduced_0 l dC dI cI cZ cF H.size dp un7 dd7 (by first | with_reducible assumption | omega) (by first | with_reducible assumption | omega)) (csV_153 hts rfl rfl ⟨Nat.le_of_ble_eq_true rfl, Nat.le_of_ble_eq_true rfl⟩) (zPV2 (q0 := 0) (ci := 2) hPc hDc hK3 hXN rfl rfl) rfl rfl hl.1 rfl (lv_room (Nat.le_of_ble_eq_true rfl)) dX10_far_159 ⟨Nat.le_of_ble_eq_true rfl, Nat.le_of_ble_eq_true rfl⟩) hS hFc hFc rfl (fun t H locs ht hB hk1 hS => ?_)
          obtain ⟨hP1, hD1⟩ := hB
          rw [ht] at hP1
          replace hP := z0 hP hD hk1 hP1 hI1
          clear hk1 hPc hDc hFc hP1 hD1 ht hI1
          obtain ⟨hP, hD⟩ := pl_bk (X := [_, _, _, _, _, _]) hT_1 hP rfl hc9_1 hD0_1 rfl
          obtain ⟨hP9, hD9⟩ := zu_part (cx := [_, _, _, _, _, _]) hP hD [true, true, true, true, true, true] rfl rfl
          rw [hQ9]
          exact W.lret (v := jI ((un7 / Nat.gcd un7 dd7 : Nat) : Int)) hx hb hr (fun t ht hW => ⟨⟨_, rfl, un7, dd7, w1, w2, (jI ((un7 : Nat) : Int)), (jI ((dd7 : Nat) : Int)), rfl, (hxm8), (by omega), by rw [ht]; exact hP9, hD9⟩, hS.F ht⟩) hS.2.2 dX10_far_162
        · have c_2 : ((i : Nat) : Int) < ((we5 : Nat) : Int) := zc_nle (nI_toInt b9_4) (nI_toInt b9_3) c_2
          refine lv_iload hx hb dX10_far_65 (lv_at hl 0 rfl) ?_
          refine lv_aload_n hx hb dX10_far_67 rfl (lv_at hl 2 rfl) ?_
          refine va_get (D := (dC, dI)) (ci := 1) (v := .ref lo5) (C := RX2) (T := TX2) (N := 8) hx hb hts inX2 hown hK hP 6 rfl rfl 5 (Nat.le_of_ble_eq_true rfl) (hts _ mw_427) (fun _ h9 => h9) rfl dX10_far_68 ?_
          refine va_get (D := (dC, dI)) (ci := 6) (v := .int (nI ln5)) (C := RX7) (T := TX7) (N := 4) hx hb hts inX7 hown hK hP 11 rfl rfl 2 (Nat.le_of_ble_eq_true rfl) (hts _ mw_179) (fun _ h9 => h9) rfl dX10_far_71 ?_
          have b9_6 : zlt (ln5) := show ln5 < 2147483648 by omega
          refine lv_icmp_ge (tgt := 154) hx hb dX10_far_74 rfl (fun c_5 => ?_) (fun c_5 => ?_)
          · have c_5 : ((ln5 : Nat) : Int) ≤ ((i : Nat) : Int) := zc_le (nI_toInt b9_6) (nI_toInt b9_3) c_5
            exfalso; omega
          · have c_5 : ((i : Nat) : Int) < ((ln5 : Nat) : Int) := zc_nle (nI_toInt b9_6) (nI_toInt b9_3) c_5
            refine lv_aload_n hx hb dX10_far_77 rfl (lv_at hl 3 rfl) ?_
            refine va_get (D := (dC, dI)) (ci := 8) (v := .ref dq) (C := RX10) (T := TX10) (N := 13) hx hb hts inX10 hown hK hP 0 rfl rfl 5 (Nat.le_of_ble_eq_true rfl) (hts _ mw_314) (fun _ h9 => h9) rfl dX10_far_78 ?_
            obtain ⟨hPc, hDc, hFc⟩ := zo_sub (wc := [_]) hP hD hS hA [2] rfl rfl
            refine zcall (st1 := []) (va_runV (As := []) (rest := []) ⟨hx, hb, hml, hown, hts⟩ (k_Fr_clear l dC dI cI cZ cF H.size dq w1 w2 ) (csV_154 hts rfl rfl ⟨Nat.le_of_ble_eq_true rfl, Nat.le_of_ble_eq_true rfl⟩) (zPV2 (q0 := 0) (ci := 2) hPc hDc hK3 hXN rfl rfl) rfl rfl hl.1 rfl (lv_room (Nat.le_of_ble_eq_true rfl)) dX10_far_81 ⟨Nat.le_of_ble_eq_true rfl, Nat.le_of_ble_eq_true rfl⟩) hS hFc hFc rfl (fun t H locs ht hB hk1 hS => ?_)
            obtain ⟨hP1, hD1⟩ := hB
            rw [ht] at hP1
            obtain ⟨hP, hD⟩ := znQ (W2 := [_, _, (oc2 dq 0 0), _, _, _, _, _, _, _, _, _, _, _]) hP hD hk1 hFc hP1 hD1 [2] zl_126 zl_126 [2] (by decide +kernel) rfl rfl rfl rfl rfl
            clear hk1 hPc hDc hFc hP1 hD1 ht
            rw [jI_0] at hP hD
            refine lv_aload_n hx hb dX10_far_84 rfl (lv_at hl 3 rfl) ?_
            refine va_get (D := (dC, dI)) (ci := 8) (v := .ref dq) (C := RX10) (T := TX10) (N := 13) hx hb hts inX10 hown hK hP 0 rfl rfl 5 (Nat.le_of_ble_eq_true rfl) (hts _ mw_314) (fun _ h9 => h9) rfl dX10_far_85 ?_
            refine lv_aload_n hx hb dX10_far_88 rfl (lv_at hl 2 rfl) ?_
            refine va_get (D := (dC, dI)) (ci := 1) (v := .ref lo5) (C := RX2) (T := TX2) (N := 8) hx hb hts inX2 hown hK hP 6 rfl rfl 5 (Nat.le_of_ble_eq_true rfl) (hts _ mw_427) (fun _ h9 => h9) rfl dX10_far_89 ?_
            refine va_get (D := (dC, dI)) (ci := 6) (v := .ref lx5) (C := RX7) (T := TX7) (N := 4) hx hb hts inX7 hown hK hP 11 rfl rfl 0 (Nat.le_of_ble_eq_true rfl) (hts _ mw_167) (fun _ h9 => h9) rfl dX10_far_92 ?_
            refine lv_iload hx hb dX10_far_95 (lv_at hl 0 rfl) ?_
            have b9_7 : i < (cl f0) := by omega
            have b9_8 : zlt ((cl f0)) := show (cl f0) < 2147483648 by omega
            refine z_iald hx hb hK hP 12 0 rfl rfl (e := i) rfl b9_7 b9_8 dX10_far_97 ?_
            refine lv_aload_n hx hb dX10_far_98 rfl (lv_at hl 2 rfl) ?_
            refine va_get (D := (dC, dI)) (ci := 1) (v := .ref lo5) (C := RX2) (T := TX2) (N := 8) hx hb hts inX2 hown hK hP 6 rfl rfl 5 (Nat.le_of_ble_eq_true rfl) (hts _ mw_427) (fun _ h9 => h9) rfl dX10_far_99 ?_
            refine va_get (D := (dC, dI)) (ci := 6) (v := .ref ly5) (C := RX7) (T := TX7) (N := 4) hx hb hts inX7 hown hK hP 11 rfl rfl 1 (Nat.le_of_ble_eq_true rfl) (hts _ mw_174) (fun _ h9 => h9) rfl dX10_far_102 ?_
            refine lv_iload hx hb dX10_far_105 (lv_at hl 0 rfl) ?_
            refine z_iald hx hb hK hP 13 0 rfl rfl (e := i) rfl b9_7 b9_8 dX10_far_107 ?_
            refine lv_aload hx hb dX10_far_108 (lv_at hl 1 rfl) ?_
            obtain ⟨hPc, hDc, hFc⟩ := zo_sub (wc := [_, _, _, _]) hP hD hS hA [2, 8, 9, 10] (by decide +kernel) rfl
            refine zcall (st1 := []) (va_runV (As := [.int (LX5 i), .int (LY5 i), .ref r5]) (rest := []) ⟨hx, hb, hml, hown, hts⟩ (k_Fr_offerFrom l dC dI cI cZ cF H.size dq 0 0 r5 rx5 ry5 (nN (mn f0)) cap5 X5 Y5 (rgK (kd f0).toInt) (LX5 i) (LY5 i) (fun _ _ => False) (by first | with_reducible assumption | omega) (by first | with_reducible assumption | omega) (by first | with_reducible assumption | omega) (by first | with_reducible assumption | omega) (hp5) ((hpl5 i (by first | with_reducible assumption | omega)).1) ((hpl5 i (by first | with_reducible assumption | omega)).2) (fun _ _ h => h.elim) (IM_no)) (csV_155 hts rfl rfl ⟨Nat.le_of_ble_eq_true rfl, Nat.le_of_ble_eq_true rfl⟩) (zPV2 (q0 := 0) (ci := 2) hPc hDc hK3 hXN rfl rfl) rfl rfl hl.1 rfl (lv_room (Nat.le_of_ble_eq_true rfl)) dX10_far_110 ⟨Nat.le_of_ble_eq_true rfl, Nat.le_of_ble_eq_true rfl⟩) hS hFc hFc rfl (fun t H locs ht hB hk1 hS => ?_)
            obtain ⟨zu9, zd9, him9, hzb9, hP1, hD1⟩ := hB
            rw [ht] at hP1
            obtain ⟨hP, hD⟩ := znQ (W2 := [_, _, (oc2 dq (jI zu9) (jI zd9)), _, _, _, _, _, _, _, _, _, _, _]) hP hD hk1 hFc hP1 hD1 [2, 8, 9, 10] zl_127 zl_127 [2, 8, 9, 10] (by decide +kernel) rfl rfl rfl rfl rfl
            clear hk1 hPc hDc hFc hP1 hD1 ht
            have hd9 := IM_pos him9 (Or.inr ⟨0, hpn9, rfl, rfl⟩)
            have hxs := XM_s hxm him9 hd9 hzb9.1.1
            refine lv_aload_n hx hb dX10_far_113 rfl (lv_at hl 3 rfl) ?_
            refine va_get (D := (dC, dI)) (ci := 8) (v := .ref dp) (C := RX10) (T := TX10) (N := 13) hx hb hts inX10 hown hK hP 0 rfl rfl 6 (Nat.le_of_ble_eq_true rfl) (hts _ mw_315) (fun _ h9 => h9) rfl dX10_far_114 ?_
            refine lv_aload_n hx hb dX10_far_117 rfl (lv_at hl 3 rfl) ?_
            refine va_get (D := (dC, dI)) (ci := 8) (v := .ref dq) (C := RX10) (T := TX10) (N := 13) hx hb hts inX10 hown hK hP 0 rfl rfl 5 (Nat.le_of_ble_eq_true rfl) (hts _ mw_314) (fun _ h9 => h9) rfl dX10_far_118 ?_
            obtain ⟨hPc, hDc, hFc, hI1⟩ := zi_sub (wc := [_, _]) hP hD hS hA [3, 2] rfl rfl
            refine zcall (st1 := [.int (pI (ua * zd9 < zu9 * ub))]) (va_runV (As := [.ref dq]) (rest := []) ⟨hx, hb, hml, hown, hts⟩ (k_Fr_isBelow l dC dI cI cZ cF H.size dp ua ub dq zu9 zd9 (hab.1) (by first | with_reducible assumption | omega) (hzb9.1) (hzb9.2)) (csV_156 hts rfl rfl ⟨Nat.le_of_ble_eq_true rfl, Nat.le_of_ble_eq_true rfl⟩) (zPV2 (q0 := 0) (ci := 2) hPc hDc hK3 hXN rfl rfl) rfl rfl hl.1 rfl (lv_room (Nat.le_of_ble_eq_true rfl)) dX10_far_121 ⟨Nat.le_of_ble_eq_true rfl, Nat.le_of_ble_eq_true rfl⟩) hS hFc hFc rfl (fun t H locs ht hB hk1 hS => ?_)
            obtain ⟨hP1, hD1⟩ := hB
            rw [ht] at hP1
            replace hP := z0 hP hD hk1 hP1 hI1
            clear hk1 hPc hDc hFc hP1 hD1 ht hI1
            refine lv_if_eq (tgt := 148) hx hb dX10_far_124 rfl (fun c_9 => ?_) (fun c_9 => ?_)
            · have c_9 : ¬ (ua * zd9 < zu9 * ub) := zp_0 c_9
              refine lv_iinc (v := nI (i + 1)) (lv' := [(5, .int (nI (i + 1))), (4, .ref r5), (3, .ref (fe f0)), (0, .ref x), (1, .int (nI f0)), (2, .int 0)]) hx hb dX10_far_148 hl (k := 0) rfl (nI_add i 1) (Nat.le_of_ble_eq_true rfl) rfl (fun ls hl => ?_)
              refine lv_goto (tgt := 53) hx hb dX10_far_151 rfl ?_
              exact ih_53 (i + 1) (jI zu9) (jI zd9) ua ub H locs ls (by first | with_reducible assumption | omega) (by first | with_reducible assumption | omega) (by first | exact fxQ_cg (fun x y => fS_s) (hxs.1 (by first | with_reducible assumption | assumption)) | exact fxQ_cg (fun x y => fS_s) (hxs.2 (by first | with_reducible assumption | assumption))) (by first | with_reducible assumption | omega) hP hD hS (lv_sub hl [0, 1, 2, 3, 4, 5] rfl)
            · have c_9 : ua * zd9 < zu9 * ub := zp_1 c_9
              refine lv_aload_n hx hb dX10_far_127 rfl (lv_at hl 3 rfl) ?_
              refine va_get (D := (dC, dI)) (ci := 8) (v := .ref dp) (C := RX10) (T := TX10) (N := 13) hx hb hts inX10 hown hK hP 0 rfl rfl 6 (Nat.le_of_ble_eq_true rfl) (hts _ mw_315) (fun _ h9 => h9) rfl dX10_far_128 ?_
              refine lv_aload_n hx hb dX10_far_131 rfl (lv_at hl 3 rfl) ?_
              refine va_get (D := (dC, dI)) (ci := 8) (v := .ref dq) (C := RX10) (T := TX10) (N := 13) hx hb hts inX10 hown hK hP 0 rfl rfl 5 (Nat.le_of_ble_eq_true rfl) (hts _ mw_314) (fun _ h9 => h9) rfl dX10_far_132 ?_
              refine va_get (D := (dC, dI)) (ci := 2) (v := .long (jI zu9)) (C := RX3) (T := TX3) (N := 2) hx hb hts inX3 hown hK hP 2 rfl rfl 0 (Nat.le_of_ble_eq_true rfl) (hts _ mw_274) (fun _ h9 => h9) rfl dX10_far_135 ?_
              refine lv_aload_n hx hb dX10_far_138 rfl (lv_at hl 3 rfl) ?_
              refine va_get (D := (dC, dI)) (ci := 8) (v := .ref dq) (C := RX10) (T := TX10) (N := 13) hx hb hts inX10 hown hK hP 0 rfl rfl 5 (Nat.le_of_ble_eq_true rfl) (hts _ mw_314) (fun _ h9 => h9) rfl dX10_far_139 ?_
              refine va_get (D := (dC, dI)) (ci := 2) (v := .long (jI zd9)) (C := RX3) (T := TX3) (N := 2) hx hb hts inX3 hown hK hP 2 rfl rfl 1 (Nat.le_of_ble_eq_true rfl) (hts _ mw_276) (fun _ h9 => h9) rfl dX10_far_142 ?_
              obtain ⟨hPc, hDc, hFc⟩ := zo_sub (wc := [_]) hP hD hS hA [3] rfl rfl
              refine zcall (st1 := []) (va_runV (As := [.long (jI zu9), .long (jI zd9)]) (rest := []) ⟨hx, hb, hml, hown, hts⟩ (k_Fr_become l dC dI cI cZ cF H.size dp (jI ua) (jI ub) (jI zu9) (jI zd9) ) (csV_152 hts rfl rfl ⟨Nat.le_of_ble_eq_true rfl, Nat.le_of_ble_eq_true rfl⟩) (zPV2 (q0 := 0) (ci := 2) hPc hDc hK3 hXN rfl rfl) rfl rfl hl.1 rfl (lv_room (Nat.le_of_ble_eq_true rfl)) dX10_far_145 ⟨Nat.le_of_ble_eq_true rfl, Nat.le_of_ble_eq_true rfl⟩) hS hFc hFc rfl (fun t H locs ht hB hk1 hS => ?_)
              obtain ⟨hP1, hD1⟩ := hB
              rw [ht] at hP1
              obtain ⟨hP, hD⟩ := znQ (W2 := [_, _, _, (oc2 dp (jI zu9) (jI zd9)), _, _, _, _, _, _, _, _, _, _]) hP hD hk1 hFc hP1 hD1 [3] zl_125 zl_125 [3] (by decide +kernel) rfl rfl rfl rfl rfl
              clear hk1 hPc hDc hFc hP1 hD1 ht
              refine lv_iinc (v := nI (i + 1)) (lv' := [(5, .int (nI (i + 1))), (4, .ref r5), (3, .ref (fe f0)), (0, .ref x), (1, .int (nI f0)), (2, .int 0)]) hx hb dX10_far_148 hl (k := 0) rfl (nI_add i 1) (Nat.le_of_ble_eq_true rfl) rfl (fun ls hl => ?_)
              refine lv_goto (tgt := 53) hx hb dX10_far_151 rfl ?_
              exact ih_53 (i + 1) (jI zu9) (jI zd9) zu9 zd9 H locs ls (by first | with_reducible assumption | omega) (by first | with_reducible assumption | omega) (by first | exact fxQ_cg (fun x y => fS_s) (hxs.1 (by first | with_reducible assumption | assumption)) | exact fxQ_cg (fun x y => fS_s) (hxs.2 (by first | with_reducible assumption | assumption))) (by first | with_reducible assumption | omega) hP hD hS (lv_sub hl [0, 1, 2, 3, 4, 5] rfl)
    exact hl_53 _ 0 y1 y2 0 1 H locs ls (Nat.lt_succ_self _) (by first | with_reducible assumption | omega) (XM_0 (fun x y ⟨k, hk, _⟩ => absurd hk (Nat.not_lt_zero k))) (by first | with_reducible assumption | omega) hP hD hS (lv_sub hl [0, 1, 2, 3, 4, 5] rfl)
  · have c_1 : ¬ ((0 : Int32).toInt ≤ (0 : Int32).toInt ∧ (0 : Int32).toInt ≤ (1 : Int32).toInt) := zp_0 c_1
    exfalso; omega
set_option maxHeartbeats 4000000 in
set_option maxRecDepth 100000 in
theorem k_far_y1 (l : Launch) (dC : Nat → ClassId) (dI : Nat → Nat → Nat) (cI cZ cF : ClassId) (sz : Nat) (cO : ClassId) (e0 : Nat) (mi : Nat) (x : Nat) (sh : Nat) (lw : Nat) (ro : Nat) (bq : Nat) (bp : Nat) (dq : Nat) (dp : Nat) (lv : Nat) (sl : Nat) (sd : Int32) (ul : Int32) (su : Int32) (ea : Nat) (mc9 : Int32) (fa : Nat) (FA : Nat → Option Nat) (bs : Nat) (dn : Nat) (T : Nat) (ft : Nat) (FT : Nat → Nat) (V : Nat → Nat → Nat → Int32) (VX : Nat → Nat → Int32) (VY : Nat → Nat → Int32) (tn : Nat → Int32) (rk : Nat → Int32) (wd : Nat → Int32) (tw : Nat → Int32) (pa : Nat → Int32) (pb : Nat → Int32) (wh : Nat → Int32) (of9 : Nat → Int32) (we : Nat → Int32) (kd : Nat → Int32) (st : Nat → Int32) (gb : Nat → Int32) (it : Nat → Int32) (mn : Nat → Int32) (cx : Nat → Int32) (cy : Nat → Int32) (L : List Nat) (f : Nat → va_E) (f0 : Nat) (y1 : Int64) (y2 : Int64) (y3 : Int64) (y4 : Int64) (hB : shB cI cO L f e0 FA ea bs dn T ft FT V VX VY tn rk wd tw pa pb wh of9 we kd st gb it mn cx cy) (hf0 : f0 < ft) (htn : (tn f0).toInt = 0) (hst : (st f0).toInt = 1) (hwf : ∀ q, lvF ft st tn q → wfM mn cx cy q) (hkn : okN ft st tn kd mn) (hpl9 : ∀ i, i < nN (V dn 5 f0) → pl (V dn (i + 6) f0) ∧ pl (V dn (i + 50) f0)) : Met l yX10_far (.code yX10_far cX10_far 6 (some .long) :: ws0) ({ frames := 3, cells := 0, slots := 0, locals := 81 } : Room) (va_Pc [.ref x, .int (nI f0), .int 1] (zPre (dC, dI) classes (zTyO cI cZ cF cO) ([(oc8 x (.ref sh) (.ref lw) (.ref ro) (.ref bq) (.ref bp) (.ref dq) (.ref dp) (.ref lv) (.ref sl) (nI dn) sd ul su), (oc10 sl mc9 (.ref ea) (nI T)), (oc2 dq y1 y2), (oc2 dp y3 y4), (oc7 sh (.ref fa) (nI ft)), (oq fa cF 200 FA)] ++ va_pl L f) sz (zXL e0 mi (va_A ([(oc8 x (.ref sh) (.ref lw) (.ref ro) (.ref bq) (.ref bp) (.ref dq) (.ref dp) (.ref lv) (.ref sl) (nI dn) sd ul su), (oc10 sl mc9 (.ref ea) (nI T)), (oc2 dq y1 y2), (oc2 dp y3 y4), (oc7 sh (.ref fa) (nI ft)), (oq fa cF 200 FA)] ++ va_pl L f) sz)))) (zQe (fun v9 t => ∃ (un : Nat), ∃ (dd : Nat), ∃ (y5 : Int64), ∃ (y6 : Int64), ∃ (y7 : Int64), ∃ (y8 : Int64), v9 = (some (.long (jI ((dd / Nat.gcd un dd : Nat) : Int)))) ∧ (XM (fxQ (fS (fun i => V dn (i + 6) f0) (fun i => V dn (i + 50) f0) (nN (V dn 5 f0))) (nN (mn f0)) (cF40 cx f0) (cF40 cy f0) (eO (kd f0).toInt (nN (mn f0)))) ((un : Nat) : Int) ((dd : Nat) : Int)) ∧ (un ≤ 4000000000000 ∧ 1 ≤ dd ∧ dd ≤ 2000000) ∧ va_P (dC, dI) classes ([(oc8 x (.ref sh) (.ref lw) (.ref ro) (.ref bq) (.ref bp) (.ref dq) (.ref dp) (.ref lv) (.ref sl) (nI dn) sd ul su), (oc10 sl mc9 (.ref ea) (nI T)), (oc2 dq y5 y6), (oc2 dp y7 y8), (oc7 sh (.ref fa) (nI ft)), (oq fa cF 200 FA)] ++ va_pl L f) t.heap ∧ va_D (va_A ([(oc8 x (.ref sh) (.ref lw) (.ref ro) (.ref bq) (.ref bp) (.ref dq) (.ref dp) (.ref lv) (.ref sl) (nI dn) sd ul su), (oc10 sl mc9 (.ref ea) (nI T)), (oc2 dq y1 y2), (oc2 dp y3 y4), (oc7 sh (.ref fa) (nI ft)), (oq fa cF 200 FA)] ++ va_pl L f) sz) ([(oc8 x (.ref sh) (.ref lw) (.ref ro) (.ref bq) (.ref bp) (.ref dq) (.ref dp) (.ref lv) (.ref sl) (nI dn) sd ul su), (oc10 sl mc9 (.ref ea) (nI T)), (oc2 dq y5 y6), (oc2 dp y7 y8), (oc7 sh (.ref fa) (nI ft)), (oq fa cF 200 FA)] ++ va_pl L f)) (va_A ([(oc8 x (.ref sh) (.ref lw) (.ref ro) (.ref bq) (.ref bp) (.ref dq) (.ref dp) (.ref lv) (.ref sl) (nI dn) sd ul su), (oc10 sl mc9 (.ref ea) (nI T)), (oc2 dq y1 y2), (oc2 dp y3 y4), (oc7 sh (.ref fa) (nI ft)), (oq fa cF 200 FA)] ++ va_pl L f) sz)) 0 0 (va_A ([(oc8 x (.ref sh) (.ref lw) (.ref ro) (.ref bq) (.ref bp) (.ref dq) (.ref dp) (.ref lv) (.ref sl) (nI dn) sd ul su), (oc10 sl mc9 (.ref ea) (nI T)), (oc2 dq y1 y2), (oc2 dp y3 y4), (oc7 sh (.ref fa) (nI ft)), (oq fa cF 200 FA)] ++ va_pl L f) sz) := by
  refine Met.ofW (cc := cX10_far) (maxL := 6) (ret := (some .long)) rfl rfl ?_
  intro p e s m args below meth c s₁ B hml hv
  obtain ⟨rfl, hsz, hP, hK, hD0, hXL⟩ := hv
  have hx := B.exec
  have hb := B.bytes
  have hr := B.returns
  have hts0 := atoms_spec (ws := .code yX10_far cX10_far 6 (some .long) :: ws0) B.pre
  have hts : ∀ w9 ∈ ws0, w9.before ([.ref x, .int (nI f0), .int 1] : List Value).toArray s = true := fun w9 h => hts0 w9 (List.mem_cons_of_mem _ h)
  have hown : s.vm.findClass "ScaleShop" = some m.cls := findClass_of_methodNamed B.named
  have hlocks := B.notSynchronized
  subst hsz
  have hD := hD0.self (sz := s.heap.size)
  clear hD0
  generalize hAe : va_A ([(oc8 x (.ref sh) (.ref lw) (.ref ro) (.ref bq) (.ref bp) (.ref dq) (.ref dp) (.ref lv) (.ref sl) (nI dn) sd ul su), (oc10 sl mc9 (.ref ea) (nI T)), (oc2 dq y1 y2), (oc2 dp y3 y4), (oc7 sh (.ref fa) (nI ft)), (oq fa cF 200 FA)] ++ va_pl L f) s.heap.size = A at hD hXL ⊢
  have hA : ∀ q : Nat, s.heap.size ≤ q → A q := fun q h => by rw [← hAe]; exact Or.inr h
  clear hAe
  have hS : va_S A s.heap s.heap [] := va_S.rf
  have hXN := hXL.1
  have hK3 := hK.sub [0, 1, 2] rfl
  have hP : va_P (dC, dI) classes ([(oc8 x (.ref sh) (.ref lw) (.ref ro) (.ref bq) (.ref bp) (.ref dq) (.ref dp) (.ref lv) (.ref sl) (nI dn) sd ul su), (oc10 sl mc9 (.ref ea) (nI T)), (oc2 dq y1 y2), (oc2 dp y3 y4), (oc7 sh (.ref fa) (nI ft)), (oq fa cF 200 FA)] ++ va_pl L f) s.heap := hP
  obtain ⟨Q9, hQ9⟩ : ∃ Q9 : State → Prop, Q9 = MQ below (zQe (fun v9 t => ∃ (un : Nat), ∃ (dd : Nat), ∃ (y5 : Int64), ∃ (y6 : Int64), ∃ (y7 : Int64), ∃ (y8 : Int64), v9 = (some (.long (jI ((dd / Nat.gcd un dd : Nat) : Int)))) ∧ (XM (fxQ (fS (fun i => V dn (i + 6) f0) (fun i => V dn (i + 50) f0) (nN (V dn 5 f0))) (nN (mn f0)) (cF40 cx f0) (cF40 cy f0) (eO (kd f0).toInt (nN (mn f0)))) ((un : Nat) : Int) ((dd : Nat) : Int)) ∧ (un ≤ 4000000000000 ∧ 1 ≤ dd ∧ dd ≤ 2000000) ∧ va_P (dC, dI) classes ([(oc8 x (.ref sh) (.ref lw) (.ref ro) (.ref bq) (.ref bp) (.ref dq) (.ref dp) (.ref lv) (.ref sl) (nI dn) sd ul su), (oc10 sl mc9 (.ref ea) (nI T)), (oc2 dq y5 y6), (oc2 dp y7 y8), (oc7 sh (.ref fa) (nI ft)), (oq fa cF 200 FA)] ++ va_pl L f) t.heap ∧ va_D A ([(oc8 x (.ref sh) (.ref lw) (.ref ro) (.ref bq) (.ref bp) (.ref dq) (.ref dp) (.ref lv) (.ref sl) (nI dn) sd ul su), (oc10 sl mc9 (.ref ea) (nI T)), (oc2 dq y5 y6), (oc2 dp y7 y8), (oc7 sh (.ref fa) (nI ft)), (oq fa cF 200 FA)] ++ va_pl L f)) A) ([.ref x, .int (nI f0), .int 1] : List Value).toArray s 0 0 A := ⟨_, rfl⟩
  rw [← hQ9]
  have hl := lv_entry ([.ref x, .int (nI f0), .int 1]) (n := 6) (Nat.le_of_ble_eq_true rfl)
  rw [lg_entry_eq]
  generalize (lg_sl ([.ref x, .int (nI f0), .int 1]) ++ List.replicate (6 - (lg_sl ([.ref x, .int (nI f0), .int 1])).length) Slot.unset).toArray = ls at hl ⊢
  have hl : lv_has ls 6 [(0, .ref x), (1, .int (nI f0)), (2, .int 1)] := hl
  obtain ⟨own, fe, cl, la, sp, SA, hG9, hH9, hft9, hO9⟩ := hB
  obtain ⟨hG, hM, hdT, hT5, hO⟩ := M_0 hG9 hH9 hft9 hO9
  have h200 : ft ≤ 200 := hG.2.2.2.2.2.1.2.2.2.2.2
  have hFA9 := hG.2.2.2.2.2.2
  refine ex13 (sh_fc hG.1 hG.2.1 (Nat.le_refl _) hf0 htn) (fun lo5 lx5 ly5 ln5 LX5 LY5 we5 r5 rx5 ry5 cap5 X5 Y5 hc5 => ?_)
  have hc5 := fc_0 hc5
  have hb5 := hc5.2.2.1
  have hb6 := hc5.2.1
  have hat9 := lo_at hO (Nat.le_refl _) hf0 hc5.1.1 hc5.1.2.2.2 (by omega) hc5.1.2.1 hb5.2.2
  have hlv : lvF ft st tn f0 := ⟨hf0, hst, htn⟩
  have hwf0 := hwf f0 hlv
  have hw1 := hwf0.2.1
  have hkn0 := hkn f0 hlv
  have hX5 := hc5.2.2.2.2.1
  have hp5 := (pls_cg hX5).mpr hwf0.2.2
  have e_0 : (0 : Int32).toInt = 0 := (by decide)
  have e_1 : (1 : Int32).toInt = 1 := (by decide)
  have hwl9 := hat9.2
  have hw5 : nN (V dn 5 f0) = we5 := (by rw [hat9.1.1]; exact nN_n9 (by omega))
  have hpl5 : ∀ i, i < we5 → pl (LX5 i) ∧ pl (LY5 i) := fun i hi => (by rw [(hat9.1.2 i hi).1, (hat9.1.2 i hi).2]; exact hpl9 i (by omega))
  have hpn9 : 1 ≤ prt (nN (mn f0)) (rgK (kd f0).toInt) := (by rw [prt_eO (rgK_t _) hkn0]; unfold eO; split; omega; split <;> omega)
  have hpr9 := prt_le (nN (mn f0)) (rgK (kd f0).toInt)
  have hc9_1 : inPl L f [(oc1 (fe f0) (rk f0) (wd f0) (tw f0) (pa f0) (pb f0) (.ref lo5) (.ref (la dn f0)) .null), (oc4 (la dn f0) (kd f0) (st f0) (.ref r5) (gb f0) (it f0) (nI we5)), (oc6 r5 (.ref rx5) (.ref ry5) (nI (nN (mn f0))) (rgK (kd f0).toInt)), (oa rx5 cI cap5 X5), (oa ry5 cI cap5 Y5), (oc6 lo5 (.ref lx5) (.ref ly5) (nI ln5) 0), (oa lx5 cI (cl f0) LX5), (oa ly5 cI (cl f0) LY5)] := ⟨ce_pl hc5.1.1, ce_pl hc5.1.2.1, ce_pl hc5.1.2.2.1.1, ce_pl hc5.1.2.2.1.2.1, ce_pl hc5.1.2.2.1.2.2.1, ce_pl hc5.1.2.2.2.1, ce_pl hc5.1.2.2.2.2.1, ce_pl hc5.1.2.2.2.2.2.1, trivial⟩
  have hD0_1 := hD
  obtain ⟨T_1, hT_1, hP, hD⟩ := pl_oT hP hD hc9_1 (pw8 hc5 (by omega))
  obtain ⟨hP, hD⟩ := zre (W2 := ([_, _, _, _, _, _, _, _, _, _, _, _, _, _] ++ va_pl T_1 f)) hP hD rfl
  refine lv_aload_n hx hb dX10_far_0 rfl (lv_at hl 0 rfl) ?_
  refine va_get (D := (dC, dI)) (ci := 8) (v := .ref sh) (C := RX10) (T := TX10) (N := 13) hx hb hts inX10 hown hK hP 0 rfl rfl 0 (Nat.le_of_ble_eq_true rfl) (hts _ mw_309) (fun _ h9 => h9) rfl dX10_far_1 ?_
  refine lv_iload_n hx hb dX10_far_4 rfl (lv_at hl 1 rfl) ?_
  obtain ⟨hPc, hDc, hFc, hI1⟩ := zi_sub (wc := [_, _]) hP hD hS hA [4, 5] rfl rfl
  refine zcall (st1 := [.ref (fe f0)]) (va_runV (As := [.int (nI f0)]) (rest := []) ⟨hx, hb, hml, hown, hts⟩ (k_Sheet_find l dC dI cI cZ cF s.heap.size sh fa ft FA f0 (fe f0) (by first | with_reducible assumption | omega) (by first | with_reducible assumption | omega) (hFA9 f0 (by first | with_reducible assumption | omega))) (csV_94 hts rfl rfl ⟨Nat.le_of_ble_eq_true rfl, Nat.le_of_ble_eq_true rfl⟩) (zPV2 (q0 := 0) (ci := 7) hPc hDc hK3 hXN rfl rfl) rfl rfl hl.1 rfl (lv_room (Nat.le_of_ble_eq_true rfl)) dX10_far_5 ⟨Nat.le_of_ble_eq_true rfl, Nat.le_of_ble_eq_true rfl⟩) hS hFc hFc rfl (fun t H locs ht hB hk1 hS => ?_)
  obtain ⟨hP1, hD1⟩ := hB
  rw [ht] at hP1
  replace hP := z0 hP hD hk1 hP1 hI1
  clear hk1 hPc hDc hFc hP1 hD1 ht hI1
  refine lv_astore_n (lv' := [(3, .ref (fe f0)), (0, .ref x), (1, .int (nI f0)), (2, .int 1)]) hx hb dX10_far_8 rfl hl (Nat.le_of_ble_eq_true rfl) rfl (fun ls hl => ?_)
  refine lv_aload_n hx hb dX10_far_9 rfl (lv_at hl 1 rfl) ?_
  refine va_get (D := (dC, dI)) (ci := 8) (v := .ref sh) (C := RX10) (T := TX10) (N := 13) hx hb hts inX10 hown hK hP 0 rfl rfl 0 (Nat.le_of_ble_eq_true rfl) (hts _ mw_309) (fun _ h9 => h9) rfl dX10_far_10 ?_
  refine lv_iload_n hx hb dX10_far_13 rfl (lv_at hl 2 rfl) ?_
  obtain ⟨hPc, hDc, hFc, hI1⟩ := zi_sub (wc := [_, _, _, _]) hP hD hS hA [4, 5, 6, 7] (by decide +kernel) rfl
  refine zcall (st1 := [.ref r5]) (va_runV (As := [.int (nI f0)]) (rest := []) ⟨hx, hb, hml, hown, hts⟩ (k_Sheet_rowThere_yv l dC dI cI cZ cF H.size sh fa ft FA f0 (fe f0) lo5 (rk f0) (wd f0) (tw f0) (pa f0) (pb f0) (la dn f0) (kd f0) (st f0) (gb f0) (it f0) (nI we5) r5 (.null) (by first | with_reducible assumption | omega) (by first | with_reducible assumption | omega) (hFA9 f0 (by first | with_reducible assumption | omega)) (hst)) (csV_144 hts rfl rfl ⟨Nat.le_of_ble_eq_true rfl, Nat.le_of_ble_eq_true rfl⟩) (zPV2 (q0 := 0) (ci := 7) hPc hDc hK3 hXN rfl rfl) rfl rfl hl.1 rfl (lv_room (Nat.le_of_ble_eq_true rfl)) dX10_far_14 ⟨Nat.le_of_ble_eq_true rfl, Nat.le_of_ble_eq_true rfl⟩) hS hFc hFc rfl (fun t H locs ht hB hk1 hS => ?_)
  obtain ⟨hP1, hD1⟩ := hB
  rw [ht] at hP1
  replace hP := z0 hP hD hk1 hP1 hI1
  clear hk1 hPc hDc hFc hP1 hD1 ht hI1
  refine lv_astore (lv' := [(4, .ref r5), (3, .ref (fe f0)), (0, .ref x), (1, .int (nI f0)), (2, .int 1)]) hx hb dX10_far_17 hl (Nat.le_of_ble_eq_true rfl) rfl (fun ls hl => ?_)
  refine lv_aload_n hx hb dX10_far_19 rfl (lv_at hl 1 rfl) ?_
  refine lv_ifnull hx hb dX10_far_20 ?_
  refine lv_aload hx hb dX10_far_23 (lv_at hl 0 rfl) ?_
  refine lv_ifnull hx hb dX10_far_25 ?_
  refine lv_iload_n hx hb dX10_far_28 rfl (lv_at hl 4 rfl) ?_
  refine lv_iconst (v := 0) hx hb dX10_far_29 rfl ?_
  refine lv_iconst (v := 1) hx hb dX10_far_30 rfl ?_
  obtain ⟨hPc, hDc, hFc, hI1⟩ := zi_sub (wc := []) hP hD hS hA [] rfl rfl
  refine zcall (st1 := [.int (pI ((0 : Int32).toInt ≤ (1 : Int32).toInt ∧ (1 : Int32).toInt ≤ (1 : Int32).toInt))]) (va_runS (As := [.int 1, .int 0, .int 1]) (rest := []) ⟨hx, hb, hml, hown, hts⟩ (k_isWithin l dC dI cI cZ cF H.size 1 0 1 ) (csS_14 hts rfl rfl ⟨Nat.le_of_ble_eq_true rfl, Nat.le_of_ble_eq_true rfl⟩) (zPS2 hPc hDc hK3 hXN) rfl rfl hl.1 rfl (lv_room (Nat.le_of_ble_eq_true rfl)) dX10_far_31 ⟨Nat.le_of_ble_eq_true rfl, Nat.le_of_ble_eq_true rfl⟩) hS hFc hFc rfl (fun t H locs ht hB hk1 hS => ?_)
  obtain ⟨hP1, hD1⟩ := hB
  rw [ht] at hP1
  replace hP := z0 hP hD hk1 hP1 hI1
  clear hk1 hPc hDc hFc hP1 hD1 ht hI1
  refine lv_if_ne (tgt := 41) hx hb dX10_far_34 rfl (fun c_1 => ?_) (fun c_1 => ?_)
  · have c_1 : (0 : Int32).toInt ≤ (1 : Int32).toInt ∧ (1 : Int32).toInt ≤ (1 : Int32).toInt := zp_1 c_1
    refine lv_aload_n hx hb dX10_far_41 rfl (lv_at hl 2 rfl) ?_
    refine va_get (D := (dC, dI)) (ci := 8) (v := .ref dp) (C := RX10) (T := TX10) (N := 13) hx hb hts inX10 hown hK hP 0 rfl rfl 6 (Nat.le_of_ble_eq_true rfl) (hts _ mw_315) (fun _ h9 => h9) rfl dX10_far_42 ?_
    refine lv_lconst (v := 0) hx hb dX10_far_45 rfl ?_
    refine zz_l (v := jI 0) (jI_0) ?_
    refine lv_lconst (v := 1) hx hb dX10_far_46 rfl ?_
    refine zz_l (v := jI 1) (jI_1) ?_
    obtain ⟨hPc, hDc, hFc⟩ := zo_sub (wc := [_]) hP hD hS hA [3] rfl rfl
    refine zcall (st1 := []) (va_runV (As := [.long (jI 0), .long (jI 1)]) (rest := []) ⟨hx, hb, hml, hown, hts⟩ (k_Fr_become l dC dI cI cZ cF H.size dp y3 y4 (jI 0) (jI 1) ) (csV_152 hts rfl rfl ⟨Nat.le_of_ble_eq_true rfl, Nat.le_of_ble_eq_true rfl⟩) (zPV2 (q0 := 0) (ci := 2) hPc hDc hK3 hXN rfl rfl) rfl rfl hl.1 rfl (lv_room (Nat.le_of_ble_eq_true rfl)) dX10_far_47 ⟨Nat.le_of_ble_eq_true rfl, Nat.le_of_ble_eq_true rfl⟩) hS hFc hFc rfl (fun t H locs ht hB hk1 hS => ?_)
    obtain ⟨hP1, hD1⟩ := hB
    rw [ht] at hP1
    obtain ⟨hP, hD⟩ := znQ (W2 := [_, _, _, (oc2 dp (jI 0) (jI 1)), _, _, _, _, _, _, _, _, _, _]) hP hD hk1 hFc hP1 hD1 [3] zl_125 zl_125 [3] (by decide +kernel) rfl rfl rfl rfl rfl
    clear hk1 hPc hDc hFc hP1 hD1 ht
    refine lv_iconst (v := 0) hx hb dX10_far_50 rfl ?_
    refine lv_istore (lv' := [(5, .int 0), (4, .ref r5), (3, .ref (fe f0)), (0, .ref x), (1, .int (nI f0)), (2, .int 1)]) hx hb dX10_far_51 hl (Nat.le_of_ble_eq_true rfl) rfl (fun ls hl => ?_)
    have hl_53 : ∀ (n9 : Nat) (i : Nat) (w1 : Int64) (w2 : Int64) (ua : Int) (ub : Int) (H : Heap) (locs : List Loc) (ls : Array Slot), we5 - i < n9 → (i ≤ we5) → (XM (fxQ (fS LX5 LY5 i) (nN (mn f0)) X5 Y5 (prt (nN (mn f0)) (rgK (kd f0).toInt))) ua ub) → ((0 ≤ ua ∧ ua ≤ 4000000000000) ∧ (1 ≤ ub ∧ ub ≤ 2000000)) → va_P (dC, dI) classes ([(oc8 x (.ref sh) (.ref lw) (.ref ro) (.ref bq) (.ref bp) (.ref dq) (.ref dp) (.ref lv) (.ref sl) (nI dn) sd ul su), (oc10 sl mc9 (.ref ea) (nI T)), (oc2 dq w1 w2), (oc2 dp (jI ua) (jI ub)), (oc7 sh (.ref fa) (nI ft)), (oq fa cF 200 FA), (oc1 (fe f0) (rk f0) (wd f0) (tw f0) (pa f0) (pb f0) (.ref lo5) (.ref (la dn f0)) .null), (oc4 (la dn f0) (kd f0) (st f0) (.ref r5) (gb f0) (it f0) (nI we5)), (oc6 r5 (.ref rx5) (.ref ry5) (nI (nN (mn f0))) (rgK (kd f0).toInt)), (oa rx5 cI cap5 X5), (oa ry5 cI cap5 Y5), (oc6 lo5 (.ref lx5) (.ref ly5) (nI ln5) 0), (oa lx5 cI (cl f0) LX5), (oa ly5 cI (cl f0) LY5)] ++ va_pl T_1 f) H → va_D A ([(oc8 x (.ref sh) (.ref lw) (.ref ro) (.ref bq) (.ref bp) (.ref dq) (.ref dp) (.ref lv) (.ref sl) (nI dn) sd ul su), (oc10 sl mc9 (.ref ea) (nI T)), (oc2 dq w1 w2), (oc2 dp (jI ua) (jI ub)), (oc7 sh (.ref fa) (nI ft)), (oq fa cF 200 FA), (oc1 (fe f0) (rk f0) (wd f0) (tw f0) (pa f0) (pb f0) (.ref lo5) (.ref (la dn f0)) .null), (oc4 (la dn f0) (kd f0) (st f0) (.ref r5) (gb f0) (it f0) (nI we5)), (oc6 r5 (.ref rx5) (.ref ry5) (nI (nN (mn f0))) (rgK (kd f0).toInt)), (oa rx5 cI cap5 X5), (oa ry5 cI cap5 Y5), (oc6 lo5 (.ref lx5) (.ref ly5) (nI ln5) 0), (oa lx5 cI (cl f0) LX5), (oa ly5 cI (cl f0) LY5)] ++ va_pl T_1 f) → va_S A s.heap H locs → lv_has ls 6 [(5, .int (nI i)), (4, .ref r5), (3, .ref (fe f0)), (0, .ref x), (1, .int (nI f0)), (2, .int 1)] → W p l e ((headSpec (.code yX10_far cX10_far 6 (some .long) :: ws0) ({ frames := 3, cells := 0, slots := 0, locals := 81 } : Room)).room) s m ([.ref x, .int (nI f0), .int 1] : List Value).toArray below meth c H locs 0 0 Q9 (F0 m 53 ls []) := by
      intro n9
      induction n9 with
      | zero => intro i w1 w2 ua ub H locs ls hm; exact absurd hm (Nat.not_lt_zero _)
      | succ n9 ih_53 =>
        intro i w1 w2 ua ub H locs ls hm hi hxm hab hP hD hS hl
        refine lv_iload hx hb dX10_far_53 (lv_at hl 0 rfl) ?_
        refine lv_aload_n hx hb dX10_far_55 rfl (lv_at hl 2 rfl) ?_
        refine va_get (D := (dC, dI)) (ci := 1) (v := .ref (la dn f0)) (C := RX2) (T := TX2) (N := 8) hx hb hts inX2 hown hK hP 6 rfl rfl 6 (Nat.le_of_ble_eq_true rfl) (hts _ mw_433) (fun _ h9 => h9) rfl dX10_far_56 ?_
        refine va_get (D := (dC, dI)) (ci := 4) (v := .int (nI we5)) (C := RX5) (T := TX5) (N := 6) hx hb hts inX5 hown hK hP 7 rfl rfl 5 (Nat.le_of_ble_eq_true rfl) (hts _ mw_401) (fun _ h9 => h9) rfl dX10_far_59 ?_
        have b9_3 : zlt (i) := show i < 2147483648 by omega
        have b9_4 : zlt (we5) := show we5 < 2147483648 by omega
        refine lv_icmp_ge (tgt := 154) hx hb dX10_far_62 rfl (fun c_2 => ?_) (fun c_2 => ?_)
        · have c_2 : ((we5 : Nat) : Int) ≤ ((i : Nat) : Int) := zc_le (nI_toInt b9_4) (nI_toInt b9_3) c_2
          have hie : i = we5 := (by omega)
          rw [hie] at hxm
          obtain ⟨un7, hun7⟩ := Int.eq_ofNat_of_zero_le (show 0 ≤ ua by omega)
          obtain ⟨dd7, hdd7⟩ := Int.eq_ofNat_of_zero_le (show 0 ≤ ub by omega)
          subst hun7
          subst hdd7
          have hxm8 := XM_rw (fS_g hat9.1 hw5) hX5 hpr9 (prt_eO (rgK_t _) hkn0) hxm
          obtain ⟨hP, hD⟩ := zre (W2 := ([_, _, _, _, _, _, _, _, _, _, _, _, _, _] ++ va_pl T_1 f)) hP hD rfl
          refine lv_aload_n hx hb dX10_far_154 rfl (lv_at hl 3 rfl) ?_
          refine va_get (D := (dC, dI)) (ci := 8) (v := .ref dp) (C := RX10) (T := TX10) (N := 13) hx hb hts inX10 hown hK hP 0 rfl rfl 6 (Nat.le_of_ble_eq_true rfl) (hts _ mw_315) (fun _ h9 => h9) rfl dX10_far_155 ?_
          refine lv_iload_n hx hb dX10_far_158 rfl (lv_at hl 5 rfl) ?_
          obtain ⟨hPc, hDc, hFc, hI1⟩ := zi_sub (wc := [_]) hP hD hS hA [3] rfl rfl
          refine zcall (st1 := [.long (jI ((dd7 / Nat.gcd un7 dd7 : Nat) : Int))]) (va_runV (As := [.int 1]) (rest := []) ⟨hx, hb, hml, hown, hts⟩ (k_Fr_reduced_1 l dC dI cI cZ cF H.size dp un7 dd7 (by first | with_reducible assumption | omega) (by first | with_reducible assumption | omega)) (csV_153 hts rfl rfl ⟨Nat.le_of_ble_eq_true rfl, Nat.le_of_ble_eq_true rfl⟩) (zPV2 (q0 := 0) (ci := 2) hPc hDc hK3 hXN rfl rfl) rfl rfl hl.1 rfl (lv_room (Nat.le_of_ble_eq_true rfl)) dX10_far_159 ⟨Nat.le_of_ble_eq_true rfl, Nat.le_of_ble_eq_true rfl⟩) hS hFc hFc rfl (fun t H locs ht hB hk1 hS => ?_)
          obtain ⟨hP1, hD1⟩ := hB
          rw [ht] at hP1
          replace hP := z0 hP hD hk1 hP1 hI1
          clear hk1 hPc hDc hFc hP1 hD1 ht hI1
          obtain ⟨hP, hD⟩ := pl_bk (X := [_, _, _, _, _, _]) hT_1 hP rfl hc9_1 hD0_1 rfl
          obtain ⟨hP9, hD9⟩ := zu_part (cx := [_, _, _, _, _, _]) hP hD [true, true, true, true, true, true] rfl rfl
          rw [hQ9]
          exact W.lret (v := jI ((dd7 / Nat.gcd un7 dd7 : Nat) : Int)) hx hb hr (fun t ht hW => ⟨⟨_, rfl, un7, dd7, w1, w2, (jI ((un7 : Nat) : Int)), (jI ((dd7 : Nat) : Int)), rfl, (hxm8), (by omega), by rw [ht]; exact hP9, hD9⟩, hS.F ht⟩) hS.2.2 dX10_far_162
        · have c_2 : ((i : Nat) : Int) < ((we5 : Nat) : Int) := zc_nle (nI_toInt b9_4) (nI_toInt b9_3) c_2
          refine lv_iload hx hb dX10_far_65 (lv_at hl 0 rfl) ?_
          refine lv_aload_n hx hb dX10_far_67 rfl (lv_at hl 2 rfl) ?_
          refine va_get (D := (dC, dI)) (ci := 1) (v := .ref lo5) (C := RX2) (T := TX2) (N := 8) hx hb hts inX2 hown hK hP 6 rfl rfl 5 (Nat.le_of_ble_eq_true rfl) (hts _ mw_427) (fun _ h9 => h9) rfl dX10_far_68 ?_
          refine va_get (D := (dC, dI)) (ci := 6) (v := .int (nI ln5)) (C := RX7) (T := TX7) (N := 4) hx hb hts inX7 hown hK hP 11 rfl rfl 2 (Nat.le_of_ble_eq_true rfl) (hts _ mw_179) (fun _ h9 => h9) rfl dX10_far_71 ?_
          have b9_6 : zlt (ln5) := show ln5 < 2147483648 by omega
          refine lv_icmp_ge (tgt := 154) hx hb dX10_far_74 rfl (fun c_5 => ?_) (fun c_5 => ?_)
          · have c_5 : ((ln5 : Nat) : Int) ≤ ((i : Nat) : Int) := zc_le (nI_toInt b9_6) (nI_toInt b9_3) c_5
            exfalso; omega
          · have c_5 : ((i : Nat) : Int) < ((ln5 : Nat) : Int) := zc_nle (nI_toInt b9_6) (nI_toInt b9_3) c_5
            refine lv_aload_n hx hb dX10_far_77 rfl (lv_at hl 3 rfl) ?_
            refine va_get (D := (dC, dI)) (ci := 8) (v := .ref dq) (C := RX10) (T := TX10) (N := 13) hx hb hts inX10 hown hK hP 0 rfl rfl 5 (Nat.le_of_ble_eq_true rfl) (hts _ mw_314) (fun _ h9 => h9) rfl dX10_far_78 ?_
            obtain ⟨hPc, hDc, hFc⟩ := zo_sub (wc := [_]) hP hD hS hA [2] rfl rfl
            refine zcall (st1 := []) (va_runV (As := []) (rest := []) ⟨hx, hb, hml, hown, hts⟩ (k_Fr_clear l dC dI cI cZ cF H.size dq w1 w2 ) (csV_154 hts rfl rfl ⟨Nat.le_of_ble_eq_true rfl, Nat.le_of_ble_eq_true rfl⟩) (zPV2 (q0 := 0) (ci := 2) hPc hDc hK3 hXN rfl rfl) rfl rfl hl.1 rfl (lv_room (Nat.le_of_ble_eq_true rfl)) dX10_far_81 ⟨Nat.le_of_ble_eq_true rfl, Nat.le_of_ble_eq_true rfl⟩) hS hFc hFc rfl (fun t H locs ht hB hk1 hS => ?_)
            obtain ⟨hP1, hD1⟩ := hB
            rw [ht] at hP1
            obtain ⟨hP, hD⟩ := znQ (W2 := [_, _, (oc2 dq 0 0), _, _, _, _, _, _, _, _, _, _, _]) hP hD hk1 hFc hP1 hD1 [2] zl_126 zl_126 [2] (by decide +kernel) rfl rfl rfl rfl rfl
            clear hk1 hPc hDc hFc hP1 hD1 ht
            rw [jI_0] at hP hD
            refine lv_aload_n hx hb dX10_far_84 rfl (lv_at hl 3 rfl) ?_
            refine va_get (D := (dC, dI)) (ci := 8) (v := .ref dq) (C := RX10) (T := TX10) (N := 13) hx hb hts inX10 hown hK hP 0 rfl rfl 5 (Nat.le_of_ble_eq_true rfl) (hts _ mw_314) (fun _ h9 => h9) rfl dX10_far_85 ?_
            refine lv_aload_n hx hb dX10_far_88 rfl (lv_at hl 2 rfl) ?_
            refine va_get (D := (dC, dI)) (ci := 1) (v := .ref lo5) (C := RX2) (T := TX2) (N := 8) hx hb hts inX2 hown hK hP 6 rfl rfl 5 (Nat.le_of_ble_eq_true rfl) (hts _ mw_427) (fun _ h9 => h9) rfl dX10_far_89 ?_
            refine va_get (D := (dC, dI)) (ci := 6) (v := .ref lx5) (C := RX7) (T := TX7) (N := 4) hx hb hts inX7 hown hK hP 11 rfl rfl 0 (Nat.le_of_ble_eq_true rfl) (hts _ mw_167) (fun _ h9 => h9) rfl dX10_far_92 ?_
            refine lv_iload hx hb dX10_far_95 (lv_at hl 0 rfl) ?_
            have b9_7 : i < (cl f0) := by omega
            have b9_8 : zlt ((cl f0)) := show (cl f0) < 2147483648 by omega
            refine z_iald hx hb hK hP 12 0 rfl rfl (e := i) rfl b9_7 b9_8 dX10_far_97 ?_
            refine lv_aload_n hx hb dX10_far_98 rfl (lv_at hl 2 rfl) ?_
            refine va_get (D := (dC, dI)) (ci := 1) (v := .ref lo5) (C := RX2) (T := TX2) (N := 8) hx hb hts inX2 hown hK hP 6 rfl rfl 5 (Nat.le_of_ble_eq_true rfl) (hts _ mw_427) (fun _ h9 => h9) rfl dX10_far_99 ?_
            refine va_get (D := (dC, dI)) (ci := 6) (v := .ref ly5) (C := RX7) (T := TX7) (N := 4) hx hb hts inX7 hown hK hP 11 rfl rfl 1 (Nat.le_of_ble_eq_true rfl) (hts _ mw_174) (fun _ h9 => h9) rfl dX10_far_102 ?_
            refine lv_iload hx hb dX10_far_105 (lv_at hl 0 rfl) ?_
            refine z_iald hx hb hK hP 13 0 rfl rfl (e := i) rfl b9_7 b9_8 dX10_far_107 ?_
            refine lv_aload hx hb dX10_far_108 (lv_at hl 1 rfl) ?_
            obtain ⟨hPc, hDc, hFc⟩ := zo_sub (wc := [_, _, _, _]) hP hD hS hA [2, 8, 9, 10] (by decide +kernel) rfl
            refine zcall (st1 := []) (va_runV (As := [.int (LX5 i), .int (LY5 i), .ref r5]) (rest := []) ⟨hx, hb, hml, hown, hts⟩ (k_Fr_offerFrom l dC dI cI cZ cF H.size dq 0 0 r5 rx5 ry5 (nN (mn f0)) cap5 X5 Y5 (rgK (kd f0).toInt) (LX5 i) (LY5 i) (fun _ _ => False) (by first | with_reducible assumption | omega) (by first | with_reducible assumption | omega) (by first | with_reducible assumption | omega) (by first | with_reducible assumption | omega) (hp5) ((hpl5 i (by first | with_reducible assumption | omega)).1) ((hpl5 i (by first | with_reducible assumption | omega)).2) (fun _ _ h => h.elim) (IM_no)) (csV_155 hts rfl rfl ⟨Nat.le_of_ble_eq_true rfl, Nat.le_of_ble_eq_true rfl⟩) (zPV2 (q0 := 0) (ci := 2) hPc hDc hK3 hXN rfl rfl) rfl rfl hl.1 rfl (lv_room (Nat.le_of_ble_eq_true rfl)) dX10_far_110 ⟨Nat.le_of_ble_eq_true rfl, Nat.le_of_ble_eq_true rfl⟩) hS hFc hFc rfl (fun t H locs ht hB hk1 hS => ?_)
            obtain ⟨zu9, zd9, him9, hzb9, hP1, hD1⟩ := hB
            rw [ht] at hP1
            obtain ⟨hP, hD⟩ := znQ (W2 := [_, _, (oc2 dq (jI zu9) (jI zd9)), _, _, _, _, _, _, _, _, _, _, _]) hP hD hk1 hFc hP1 hD1 [2, 8, 9, 10] zl_127 zl_127 [2, 8, 9, 10] (by decide +kernel) rfl rfl rfl rfl rfl
            clear hk1 hPc hDc hFc hP1 hD1 ht
            have hd9 := IM_pos him9 (Or.inr ⟨0, hpn9, rfl, rfl⟩)
            have hxs := XM_s hxm him9 hd9 hzb9.1.1
            refine lv_aload_n hx hb dX10_far_113 rfl (lv_at hl 3 rfl) ?_
            refine va_get (D := (dC, dI)) (ci := 8) (v := .ref dp) (C := RX10) (T := TX10) (N := 13) hx hb hts inX10 hown hK hP 0 rfl rfl 6 (Nat.le_of_ble_eq_true rfl) (hts _ mw_315) (fun _ h9 => h9) rfl dX10_far_114 ?_
            refine lv_aload_n hx hb dX10_far_117 rfl (lv_at hl 3 rfl) ?_
            refine va_get (D := (dC, dI)) (ci := 8) (v := .ref dq) (C := RX10) (T := TX10) (N := 13) hx hb hts inX10 hown hK hP 0 rfl rfl 5 (Nat.le_of_ble_eq_true rfl) (hts _ mw_314) (fun _ h9 => h9) rfl dX10_far_118 ?_
            obtain ⟨hPc, hDc, hFc, hI1⟩ := zi_sub (wc := [_, _]) hP hD hS hA [3, 2] rfl rfl
            refine zcall (st1 := [.int (pI (ua * zd9 < zu9 * ub))]) (va_runV (As := [.ref dq]) (rest := []) ⟨hx, hb, hml, hown, hts⟩ (k_Fr_isBelow l dC dI cI cZ cF H.size dp ua ub dq zu9 zd9 (hab.1) (by first | with_reducible assumption | omega) (hzb9.1) (hzb9.2)) (csV_156 hts rfl rfl ⟨Nat.le_of_ble_eq_true rfl, Nat.le_of_ble_eq_true rfl⟩) (zPV2 (q0 := 0) (ci := 2) hPc hDc hK3 hXN rfl rfl) rfl rfl hl.1 rfl (lv_room (Nat.le_of_ble_eq_true rfl)) dX10_far_121 ⟨Nat.le_of_ble_eq_true rfl, Nat.le_of_ble_eq_true rfl⟩) hS hFc hFc rfl (fun t H locs ht hB hk1 hS => ?_)
            obtain ⟨hP1, hD1⟩ := hB
            rw [ht] at hP1
            replace hP := z0 hP hD hk1 hP1 hI1
            clear hk1 hPc hDc hFc hP1 hD1 ht hI1
            refine lv_if_eq (tgt := 148) hx hb dX10_far_124 rfl (fun c_9 => ?_) (fun c_9 => ?_)
            · have c_9 : ¬ (ua * zd9 < zu9 * ub) := zp_0 c_9
              refine lv_iinc (v := nI (i + 1)) (lv' := [(5, .int (nI (i + 1))), (4, .ref r5), (3, .ref (fe f0)), (0, .ref x), (1, .int (nI f0)), (2, .int 1)]) hx hb dX10_far_148 hl (k := 0) rfl (nI_add i 1) (Nat.le_of_ble_eq_true rfl) rfl (fun ls hl => ?_)
              refine lv_goto (tgt := 53) hx hb dX10_far_151 rfl ?_
              exact ih_53 (i + 1) (jI zu9) (jI zd9) ua ub H locs ls (by first | with_reducible assumption | omega) (by first | with_reducible assumption | omega) (by first | exact fxQ_cg (fun x y => fS_s) (hxs.1 (by first | with_reducible assumption | assumption)) | exact fxQ_cg (fun x y => fS_s) (hxs.2 (by first | with_reducible assumption | assumption))) (by first | with_reducible assumption | omega) hP hD hS (lv_sub hl [0, 1, 2, 3, 4, 5] rfl)
            · have c_9 : ua * zd9 < zu9 * ub := zp_1 c_9
              refine lv_aload_n hx hb dX10_far_127 rfl (lv_at hl 3 rfl) ?_
              refine va_get (D := (dC, dI)) (ci := 8) (v := .ref dp) (C := RX10) (T := TX10) (N := 13) hx hb hts inX10 hown hK hP 0 rfl rfl 6 (Nat.le_of_ble_eq_true rfl) (hts _ mw_315) (fun _ h9 => h9) rfl dX10_far_128 ?_
              refine lv_aload_n hx hb dX10_far_131 rfl (lv_at hl 3 rfl) ?_
              refine va_get (D := (dC, dI)) (ci := 8) (v := .ref dq) (C := RX10) (T := TX10) (N := 13) hx hb hts inX10 hown hK hP 0 rfl rfl 5 (Nat.le_of_ble_eq_true rfl) (hts _ mw_314) (fun _ h9 => h9) rfl dX10_far_132 ?_
              refine va_get (D := (dC, dI)) (ci := 2) (v := .long (jI zu9)) (C := RX3) (T := TX3) (N := 2) hx hb hts inX3 hown hK hP 2 rfl rfl 0 (Nat.le_of_ble_eq_true rfl) (hts _ mw_274) (fun _ h9 => h9) rfl dX10_far_135 ?_
              refine lv_aload_n hx hb dX10_far_138 rfl (lv_at hl 3 rfl) ?_
              refine va_get (D := (dC, dI)) (ci := 8) (v := .ref dq) (C := RX10) (T := TX10) (N := 13) hx hb hts inX10 hown hK hP 0 rfl rfl 5 (Nat.le_of_ble_eq_true rfl) (hts _ mw_314) (fun _ h9 => h9) rfl dX10_far_139 ?_
              refine va_get (D := (dC, dI)) (ci := 2) (v := .long (jI zd9)) (C := RX3) (T := TX3) (N := 2) hx hb hts inX3 hown hK hP 2 rfl rfl 1 (Nat.le_of_ble_eq_true rfl) (hts _ mw_276) (fun _ h9 => h9) rfl dX10_far_142 ?_
              obtain ⟨hPc, hDc, hFc⟩ := zo_sub (wc := [_]) hP hD hS hA [3] rfl rfl
              refine zcall (st1 := []) (va_runV (As := [.long (jI zu9), .long (jI zd9)]) (rest := []) ⟨hx, hb, hml, hown, hts⟩ (k_Fr_become l dC dI cI cZ cF H.size dp (jI ua) (jI ub) (jI zu9) (jI zd9) ) (csV_152 hts rfl rfl ⟨Nat.le_of_ble_eq_true rfl, Nat.le_of_ble_eq_true rfl⟩) (zPV2 (q0 := 0) (ci := 2) hPc hDc hK3 hXN rfl rfl) rfl rfl hl.1 rfl (lv_room (Nat.le_of_ble_eq_true rfl)) dX10_far_145 ⟨Nat.le_of_ble_eq_true rfl, Nat.le_of_ble_eq_true rfl⟩) hS hFc hFc rfl (fun t H locs ht hB hk1 hS => ?_)
              obtain ⟨hP1, hD1⟩ := hB
              rw [ht] at hP1
              obtain ⟨hP, hD⟩ := znQ (W2 := [_, _, _, (oc2 dp (jI zu9) (jI zd9)), _, _, _, _, _, _, _, _, _, _]) hP hD hk1 hFc hP1 hD1 [3] zl_125 zl_125 [3] (by decide +kernel) rfl rfl rfl rfl rfl
              clear hk1 hPc hDc hFc hP1 hD1 ht
              refine lv_iinc (v := nI (i + 1)) (lv' := [(5, .int (nI (i + 1))), (4, .ref r5), (3, .ref (fe f0)), (0, .ref x), (1, .int (nI f0)), (2, .int 1)]) hx hb dX10_far_148 hl (k := 0) rfl (nI_add i 1) (Nat.le_of_ble_eq_true rfl) rfl (fun ls hl => ?_)
              refine lv_goto (tgt := 53) hx hb dX10_far_151 rfl ?_
              exact ih_53 (i + 1) (jI zu9) (jI zd9) zu9 zd9 H locs ls (by first | with_reducible assumption | omega) (by first | with_reducible assumption | omega) (by first | exact fxQ_cg (fun x y => fS_s) (hxs.1 (by first | with_reducible assumption | assumption)) | exact fxQ_cg (fun x y => fS_s) (hxs.2 (by first | with_reducible assumption | assumption))) (by first | with_reducible assumption | omega) hP hD hS (lv_sub hl [0, 1, 2, 3, 4, 5] rfl)
    exact hl_53 _ 0 y1 y2 0 1 H locs ls (Nat.lt_succ_self _) (by first | with_reducible assumption | omega) (XM_0 (fun x y ⟨k, hk, _⟩ => absurd hk (Nat.not_lt_zero k))) (by first | with_reducible assumption | omega) hP hD hS (lv_sub hl [0, 1, 2, 3, 4, 5] rfl)
  · have c_1 : ¬ ((0 : Int32).toInt ≤ (1 : Int32).toInt ∧ (1 : Int32).toInt ≤ (1 : Int32).toInt) := zp_0 c_1
    exfalso; omega
set_option maxHeartbeats 4000000 in
set_option maxRecDepth 100000 in
theorem k_far_n (l : Launch) (dC : Nat → ClassId) (dI : Nat → Nat → Nat) (cI cZ cF : ClassId) (sz : Nat) (cO : ClassId) (e0 : Nat) (mi : Nat) (x : Nat) (sh : Nat) (lw : Nat) (ro : Nat) (bq : Nat) (bp : Nat) (dq : Nat) (dp : Nat) (lv : Nat) (sl : Nat) (sd : Int32) (ul : Int32) (su : Int32) (ea : Nat) (mc9 : Int32) (fa : Nat) (FA : Nat → Option Nat) (bs : Nat) (dn : Nat) (T : Nat) (ft : Nat) (FT : Nat → Nat) (V : Nat → Nat → Nat → Int32) (VX : Nat → Nat → Int32) (VY : Nat → Nat → Int32) (tn : Nat → Int32) (rk : Nat → Int32) (wd : Nat → Int32) (tw : Nat → Int32) (pa : Nat → Int32) (pb : Nat → Int32) (wh : Nat → Int32) (of9 : Nat → Int32) (we : Nat → Int32) (kd : Nat → Int32) (st : Nat → Int32) (gb : Nat → Int32) (it : Nat → Int32) (mn : Nat → Int32) (cx : Nat → Int32) (cy : Nat → Int32) (L : List Nat) (f : Nat → va_E) (f0 : Nat) (wv : Int32) (hB : shB cI cO L f e0 FA ea bs dn T ft FT V VX VY tn rk wd tw pa pb wh of9 we kd st gb it mn cx cy) (hf0 : f0 < ft) (htn : (tn f0).toInt = 0) (hst : (st f0).toInt = 1) (hbad : ¬ (0 ≤ wv.toInt ∧ wv.toInt ≤ 1)) : zML l yX10_far cX10_far 6 (some .long) ({ frames := 2, cells := 0, slots := 0, locals := 43 } : Room) [.ref x, .int (nI f0), .int wv] (dC, dI) (zTyO cI cZ cF cO) e0 mi ([(oc8 x (.ref sh) (.ref lw) (.ref ro) (.ref bq) (.ref bp) (.ref dq) (.ref dp) (.ref lv) (.ref sl) (nI dn) sd ul su), (oc10 sl mc9 (.ref ea) (nI T)), (oc7 sh (.ref fa) (nI ft)), (oq fa cF 200 FA)] ++ va_pl L f) sz (some (.long (-1))) (fun A t => zPD (dC, dI) classes A ([(oc8 x (.ref sh) (.ref lw) (.ref ro) (.ref bq) (.ref bp) (.ref dq) (.ref dp) (.ref lv) (.ref sl) (nI dn) sd ul su), (oc10 sl mc9 (.ref ea) (nI T)), (oc7 sh (.ref fa) (nI ft)), (oq fa cF 200 FA)] ++ va_pl L f) t.heap) 0 0 := by
  refine zInL (own := "ScaleShop") (loc := [(0, .ref x), (1, .int (nI f0)), (2, .int wv)]) rfl rfl rfl rfl (fun p e s m below meth c hx hb hr hts hown hlocks hml hnm9 A hA hS hP hD hK hXL hXN hK3 Q9 hQ9 ls hl => ?_)
  obtain ⟨own, fe, cl, la, sp, SA, hG9, hH9, hft9, hO9⟩ := hB
  obtain ⟨hG, hM, hdT, hT5, hO⟩ := M_0 hG9 hH9 hft9 hO9
  have h200 : ft ≤ 200 := hG.2.2.2.2.2.1.2.2.2.2.2
  have hFA9 := hG.2.2.2.2.2.2
  refine ex13 (sh_fc hG.1 hG.2.1 (Nat.le_refl _) hf0 htn) (fun lo5 lx5 ly5 ln5 LX5 LY5 we5 r5 rx5 ry5 cap5 X5 Y5 hc5 => ?_)
  have hc5 := fc_0 hc5
  have hb5 := hc5.2.2.1
  have hb6 := hc5.2.1
  have hat9 := lo_at hO (Nat.le_refl _) hf0 hc5.1.1 hc5.1.2.2.2 (by omega) hc5.1.2.1 hb5.2.2
  have e_0 : (0 : Int32).toInt = 0 := (by decide)
  have e_1 : (1 : Int32).toInt = 1 := (by decide)
  have hc9_1 : inPl L f [(oc1 (fe f0) (rk f0) (wd f0) (tw f0) (pa f0) (pb f0) (.ref lo5) (.ref (la dn f0)) .null), (oc4 (la dn f0) (kd f0) (st f0) (.ref r5) (gb f0) (it f0) (nI we5)), (oc6 r5 (.ref rx5) (.ref ry5) (nI (nN (mn f0))) (rgK (kd f0).toInt)), (oa rx5 cI cap5 X5), (oa ry5 cI cap5 Y5), (oc6 lo5 (.ref lx5) (.ref ly5) (nI ln5) 0), (oa lx5 cI (cl f0) LX5), (oa ly5 cI (cl f0) LY5)] := ⟨ce_pl hc5.1.1, ce_pl hc5.1.2.1, ce_pl hc5.1.2.2.1.1, ce_pl hc5.1.2.2.1.2.1, ce_pl hc5.1.2.2.1.2.2.1, ce_pl hc5.1.2.2.2.1, ce_pl hc5.1.2.2.2.2.1, ce_pl hc5.1.2.2.2.2.2.1, trivial⟩
  have hD0_1 := hD
  obtain ⟨T_1, hT_1, hP, hD⟩ := pl_oT hP hD hc9_1 (pw8 hc5 (by omega))
  obtain ⟨hP, hD⟩ := zre (W2 := ([_, _, _, _, _, _, _, _, _, _, _, _] ++ va_pl T_1 f)) hP hD rfl
  refine lv_aload_n hx hb dX10_far_0 rfl (lv_at hl 0 rfl) ?_
  refine va_get (D := (dC, dI)) (ci := 8) (v := .ref sh) (C := RX10) (T := TX10) (N := 13) hx hb hts inX10 hown hK hP 0 rfl rfl 0 (Nat.le_of_ble_eq_true rfl) (hts _ mw_309) (fun _ h9 => h9) rfl dX10_far_1 ?_
  refine lv_iload_n hx hb dX10_far_4 rfl (lv_at hl 1 rfl) ?_
  obtain ⟨hPc, hDc, hFc, hI1⟩ := zi_sub (wc := [_, _]) hP hD hS hA [2, 3] rfl rfl
  refine zcall (st1 := [.ref (fe f0)]) (va_runV (As := [.int (nI f0)]) (rest := []) ⟨hx, hb, hml, hown, hts⟩ (k_Sheet_find l dC dI cI cZ cF s.heap.size sh fa ft FA f0 (fe f0) (by first | with_reducible assumption | omega) (by first | with_reducible assumption | omega) (hFA9 f0 (by first | with_reducible assumption | omega))) (csV_94 hts rfl rfl ⟨Nat.le_of_ble_eq_true rfl, Nat.le_of_ble_eq_true rfl⟩) (zPV2 (q0 := 0) (ci := 7) hPc hDc hK3 hXN rfl rfl) rfl rfl hl.1 rfl (lv_room (Nat.le_of_ble_eq_true rfl)) dX10_far_5 ⟨Nat.le_of_ble_eq_true rfl, Nat.le_of_ble_eq_true rfl⟩) hS hFc hFc rfl (fun t H locs ht hB hk1 hS => ?_)
  obtain ⟨hP1, hD1⟩ := hB
  rw [ht] at hP1
  replace hP := z0 hP hD hk1 hP1 hI1
  clear hk1 hPc hDc hFc hP1 hD1 ht hI1
  refine lv_astore_n (lv' := [(3, .ref (fe f0)), (0, .ref x), (1, .int (nI f0)), (2, .int wv)]) hx hb dX10_far_8 rfl hl (Nat.le_of_ble_eq_true rfl) rfl (fun ls hl => ?_)
  refine lv_aload_n hx hb dX10_far_9 rfl (lv_at hl 1 rfl) ?_
  refine va_get (D := (dC, dI)) (ci := 8) (v := .ref sh) (C := RX10) (T := TX10) (N := 13) hx hb hts inX10 hown hK hP 0 rfl rfl 0 (Nat.le_of_ble_eq_true rfl) (hts _ mw_309) (fun _ h9 => h9) rfl dX10_far_10 ?_
  refine lv_iload_n hx hb dX10_far_13 rfl (lv_at hl 2 rfl) ?_
  obtain ⟨hPc, hDc, hFc, hI1⟩ := zi_sub (wc := [_, _, _, _]) hP hD hS hA [2, 3, 4, 5] (by decide +kernel) rfl
  refine zcall (st1 := [.ref r5]) (va_runV (As := [.int (nI f0)]) (rest := []) ⟨hx, hb, hml, hown, hts⟩ (k_Sheet_rowThere_yv l dC dI cI cZ cF H.size sh fa ft FA f0 (fe f0) lo5 (rk f0) (wd f0) (tw f0) (pa f0) (pb f0) (la dn f0) (kd f0) (st f0) (gb f0) (it f0) (nI we5) r5 (.null) (by first | with_reducible assumption | omega) (by first | with_reducible assumption | omega) (hFA9 f0 (by first | with_reducible assumption | omega)) (hst)) (csV_144 hts rfl rfl ⟨Nat.le_of_ble_eq_true rfl, Nat.le_of_ble_eq_true rfl⟩) (zPV2 (q0 := 0) (ci := 7) hPc hDc hK3 hXN rfl rfl) rfl rfl hl.1 rfl (lv_room (Nat.le_of_ble_eq_true rfl)) dX10_far_14 ⟨Nat.le_of_ble_eq_true rfl, Nat.le_of_ble_eq_true rfl⟩) hS hFc hFc rfl (fun t H locs ht hB hk1 hS => ?_)
  obtain ⟨hP1, hD1⟩ := hB
  rw [ht] at hP1
  replace hP := z0 hP hD hk1 hP1 hI1
  clear hk1 hPc hDc hFc hP1 hD1 ht hI1
  refine lv_astore (lv' := [(4, .ref r5), (3, .ref (fe f0)), (0, .ref x), (1, .int (nI f0)), (2, .int wv)]) hx hb dX10_far_17 hl (Nat.le_of_ble_eq_true rfl) rfl (fun ls hl => ?_)
  refine lv_aload_n hx hb dX10_far_19 rfl (lv_at hl 1 rfl) ?_
  refine lv_ifnull hx hb dX10_far_20 ?_
  refine lv_aload hx hb dX10_far_23 (lv_at hl 0 rfl) ?_
  refine lv_ifnull hx hb dX10_far_25 ?_
  refine lv_iload_n hx hb dX10_far_28 rfl (lv_at hl 4 rfl) ?_
  refine lv_iconst (v := 0) hx hb dX10_far_29 rfl ?_
  refine lv_iconst (v := 1) hx hb dX10_far_30 rfl ?_
  obtain ⟨hPc, hDc, hFc, hI1⟩ := zi_sub (wc := []) hP hD hS hA [] rfl rfl
  refine zcall (st1 := [.int (pI ((0 : Int32).toInt ≤ wv.toInt ∧ wv.toInt ≤ (1 : Int32).toInt))]) (va_runS (As := [.int wv, .int 0, .int 1]) (rest := []) ⟨hx, hb, hml, hown, hts⟩ (k_isWithin l dC dI cI cZ cF H.size wv 0 1 ) (csS_14 hts rfl rfl ⟨Nat.le_of_ble_eq_true rfl, Nat.le_of_ble_eq_true rfl⟩) (zPS2 hPc hDc hK3 hXN) rfl rfl hl.1 rfl (lv_room (Nat.le_of_ble_eq_true rfl)) dX10_far_31 ⟨Nat.le_of_ble_eq_true rfl, Nat.le_of_ble_eq_true rfl⟩) hS hFc hFc rfl (fun t H locs ht hB hk1 hS => ?_)
  obtain ⟨hP1, hD1⟩ := hB
  rw [ht] at hP1
  replace hP := z0 hP hD hk1 hP1 hI1
  clear hk1 hPc hDc hFc hP1 hD1 ht hI1
  refine lv_if_ne (tgt := 41) hx hb dX10_far_34 rfl (fun c_1 => ?_) (fun c_1 => ?_)
  · have c_1 : (0 : Int32).toInt ≤ wv.toInt ∧ wv.toInt ≤ (1 : Int32).toInt := zp_1 c_1
    exfalso; omega
  · have c_1 : ¬ ((0 : Int32).toInt ≤ wv.toInt ∧ wv.toInt ≤ (1 : Int32).toInt) := zp_0 c_1
    refine lv_ldc2 hx hb hown (hts _ mw_1077) dX10_far_37 ?_
    obtain ⟨hP, hD⟩ := pl_bk (X := [_, _, _, _]) hT_1 hP rfl hc9_1 hD0_1 rfl
    obtain ⟨hP9, hD9⟩ := zu_part (cx := [_, _, _, _]) hP hD [true, true, true, true] rfl rfl
    rw [hQ9]
    exact W.lret (v := (-1)) hx hb hr (fun t ht hW => ⟨⟨rfl, by rw [ht]; exact hP9, hD9⟩, hS.F ht⟩) hS.2.2 dX10_far_40
end
section
set_option maxHeartbeats 4000000 in
set_option maxRecDepth 100000 in
theorem k_isClash_a (l : Launch) (dC : Nat → ClassId) (dI : Nat → Nat → Nat) (cI cZ cF : ClassId) (sz : Nat) (cO : ClassId) (e0 : Nat) (mi : Nat) (x : Nat) (sh : Nat) (lw : Nat) (ro : Nat) (bq : Nat) (bp : Nat) (dq : Nat) (dp : Nat) (lv : Nat) (sl : Nat) (sd : Int32) (ul : Int32) (su : Int32) (ea : Nat) (mc9 : Int32) (fa : Nat) (FA : Nat → Option Nat) (bs : Nat) (dn : Nat) (T : Nat) (ft : Nat) (FT : Nat → Nat) (V : Nat → Nat → Nat → Int32) (VX : Nat → Nat → Int32) (VY : Nat → Nat → Int32) (tn : Nat → Int32) (rk : Nat → Int32) (wd : Nat → Int32) (tw : Nat → Int32) (pa : Nat → Int32) (pb : Nat → Int32) (wh : Nat → Int32) (of9 : Nat → Int32) (we : Nat → Int32) (kd : Nat → Int32) (st : Nat → Int32) (gb : Nat → Int32) (it : Nat → Int32) (mn : Nat → Int32) (cx : Nat → Int32) (cy : Nat → Int32) (L : List Nat) (f : Nat → va_E) (f0 : Nat) (g0 : Nat) (c1 : Int32) (c2 : Int32) (c3 : Int32) (c4 : Int32) (a1 : Int32) (a2 : Int32) (a3 : Int32) (a4 : Int32) (y1 : Int64) (y2 : Int64) (gp9 : Int32) (hB : shB cI cO L f e0 FA ea bs dn T ft FT V VX VY tn rk wd tw pa pb wh of9 we kd st gb it mn cx cy) (hf0 : f0 < ft) (hg0 : g0 < ft) (hgf : g0 ≠ f0) (hwf : ∀ q, lvF ft st tn q → wfM mn cx cy q) (hkn : okN ft st tn kd mn) : Met l yX10_isClash (.code yX10_isClash cX10_isClash 9 (some .boolean) :: ws0) ({ frames := 4, cells := 0, slots := 0, locals := 104 } : Room) (va_Pc [.ref x, .int (nI f0), .int (nI g0), .int gp9] (zPre (dC, dI) classes (zTyO cI cZ cF cO) ([(oc8 x (.ref sh) (.ref lw) (.ref ro) (.ref bq) (.ref bp) (.ref dq) (.ref dp) (.ref lv) (.ref sl) (nI dn) sd ul su), (oc10 sl mc9 (.ref ea) (nI T)), (oc0 bq c1 c2 c3 c4), (oc0 bp a1 a2 a3 a4), (oc2 dq y1 y2), (oc7 sh (.ref fa) (nI ft)), (oq fa cF 200 FA)] ++ va_pl L f) sz (zXL e0 mi (va_A ([(oc8 x (.ref sh) (.ref lw) (.ref ro) (.ref bq) (.ref bp) (.ref dq) (.ref dp) (.ref lv) (.ref sl) (nI dn) sd ul su), (oc10 sl mc9 (.ref ea) (nI T)), (oc0 bq c1 c2 c3 c4), (oc0 bp a1 a2 a3 a4), (oc2 dq y1 y2), (oc7 sh (.ref fa) (nI ft)), (oq fa cF 200 FA)] ++ va_pl L f) sz)))) (zQe (fun v9 t => ∃ (b9 : Int32), ∃ (c5 : Int32), ∃ (c6 : Int32), ∃ (c7 : Int32), ∃ (c8 : Int32), ∃ (a5 : Int32), ∃ (a6 : Int32), ∃ (a7 : Int32), ∃ (a8 : Int32), ∃ (y5 : Int64), ∃ (y6 : Int64), v9 = (some (.int b9)) ∧ va_P (dC, dI) classes ([(oc8 x (.ref sh) (.ref lw) (.ref ro) (.ref bq) (.ref bp) (.ref dq) (.ref dp) (.ref lv) (.ref sl) (nI dn) sd ul su), (oc10 sl mc9 (.ref ea) (nI T)), (oc0 bq c5 c6 c7 c8), (oc0 bp a5 a6 a7 a8), (oc2 dq y5 y6), (oc7 sh (.ref fa) (nI ft)), (oq fa cF 200 FA)] ++ va_pl L f) t.heap ∧ va_D (va_A ([(oc8 x (.ref sh) (.ref lw) (.ref ro) (.ref bq) (.ref bp) (.ref dq) (.ref dp) (.ref lv) (.ref sl) (nI dn) sd ul su), (oc10 sl mc9 (.ref ea) (nI T)), (oc0 bq c1 c2 c3 c4), (oc0 bp a1 a2 a3 a4), (oc2 dq y1 y2), (oc7 sh (.ref fa) (nI ft)), (oq fa cF 200 FA)] ++ va_pl L f) sz) ([(oc8 x (.ref sh) (.ref lw) (.ref ro) (.ref bq) (.ref bp) (.ref dq) (.ref dp) (.ref lv) (.ref sl) (nI dn) sd ul su), (oc10 sl mc9 (.ref ea) (nI T)), (oc0 bq c5 c6 c7 c8), (oc0 bp a5 a6 a7 a8), (oc2 dq y5 y6), (oc7 sh (.ref fa) (nI ft)), (oq fa cF 200 FA)] ++ va_pl L f)) (va_A ([(oc8 x (.ref sh) (.ref lw) (.ref ro) (.ref bq) (.ref bp) (.ref dq) (.ref dp) (.ref lv) (.ref sl) (nI dn) sd ul su), (oc10 sl mc9 (.ref ea) (nI T)), (oc0 bq c1 c2 c3 c4), (oc0 bp a1 a2 a3 a4), (oc2 dq y1 y2), (oc7 sh (.ref fa) (nI ft)), (oq fa cF 200 FA)] ++ va_pl L f) sz)) 0 0 (va_A ([(oc8 x (.ref sh) (.ref lw) (.ref ro) (.ref bq) (.ref bp) (.ref dq) (.ref dp) (.ref lv) (.ref sl) (nI dn) sd ul su), (oc10 sl mc9 (.ref ea) (nI T)), (oc0 bq c1 c2 c3 c4), (oc0 bp a1 a2 a3 a4), (oc2 dq y1 y2), (oc7 sh (.ref fa) (nI ft)), (oq fa cF 200 FA)] ++ va_pl L f) sz) := by
  refine Met.ofW (cc := cX10_isClash) (maxL := 9) (ret := (some .boolean)) rfl rfl ?_
  intro p e s m args below meth c s₁ B hml hv
  obtain ⟨rfl, hsz, hP, hK, hD0, hXL⟩ := hv
  have hx := B.exec
  have hb := B.bytes
  have hr := B.returns
  have hts0 := atoms_spec (ws := .code yX10_isClash cX10_isClash 9 (some .boolean) :: ws0) B.pre
  have hts : ∀ w9 ∈ ws0, w9.before ([.ref x, .int (nI f0), .int (nI g0), .int gp9] : List Value).toArray s = true := fun w9 h => hts0 w9 (List.mem_cons_of_mem _ h)
  have hown : s.vm.findClass "ScaleShop" = some m.cls := findClass_of_methodNamed B.named
  have hlocks := B.notSynchronized
  subst hsz
  have hD := hD0.self (sz := s.heap.size)
  clear hD0
  generalize hAe : va_A ([(oc8 x (.ref sh) (.ref lw) (.ref ro) (.ref bq) (.ref bp) (.ref dq) (.ref dp) (.ref lv) (.ref sl) (nI dn) sd ul su), (oc10 sl mc9 (.ref ea) (nI T)), (oc0 bq c1 c2 c3 c4), (oc0 bp a1 a2 a3 a4), (oc2 dq y1 y2), (oc7 sh (.ref fa) (nI ft)), (oq fa cF 200 FA)] ++ va_pl L f) s.heap.size = A at hD hXL ⊢
  have hA : ∀ q : Nat, s.heap.size ≤ q → A q := fun q h => by rw [← hAe]; exact Or.inr h
  clear hAe
  have hS : va_S A s.heap s.heap [] := va_S.rf
  have hXN := hXL.1
  have hK3 := hK.sub [0, 1, 2] rfl
  have hP : va_P (dC, dI) classes ([(oc8 x (.ref sh) (.ref lw) (.ref ro) (.ref bq) (.ref bp) (.ref dq) (.ref dp) (.ref lv) (.ref sl) (nI dn) sd ul su), (oc10 sl mc9 (.ref ea) (nI T)), (oc0 bq c1 c2 c3 c4), (oc0 bp a1 a2 a3 a4), (oc2 dq y1 y2), (oc7 sh (.ref fa) (nI ft)), (oq fa cF 200 FA)] ++ va_pl L f) s.heap := hP
  obtain ⟨Q9, hQ9⟩ : ∃ Q9 : State → Prop, Q9 = MQ below (zQe (fun v9 t => ∃ (b9 : Int32), ∃ (c5 : Int32), ∃ (c6 : Int32), ∃ (c7 : Int32), ∃ (c8 : Int32), ∃ (a5 : Int32), ∃ (a6 : Int32), ∃ (a7 : Int32), ∃ (a8 : Int32), ∃ (y5 : Int64), ∃ (y6 : Int64), v9 = (some (.int b9)) ∧ va_P (dC, dI) classes ([(oc8 x (.ref sh) (.ref lw) (.ref ro) (.ref bq) (.ref bp) (.ref dq) (.ref dp) (.ref lv) (.ref sl) (nI dn) sd ul su), (oc10 sl mc9 (.ref ea) (nI T)), (oc0 bq c5 c6 c7 c8), (oc0 bp a5 a6 a7 a8), (oc2 dq y5 y6), (oc7 sh (.ref fa) (nI ft)), (oq fa cF 200 FA)] ++ va_pl L f) t.heap ∧ va_D A ([(oc8 x (.ref sh) (.ref lw) (.ref ro) (.ref bq) (.ref bp) (.ref dq) (.ref dp) (.ref lv) (.ref sl) (nI dn) sd ul su), (oc10 sl mc9 (.ref ea) (nI T)), (oc0 bq c5 c6 c7 c8), (oc0 bp a5 a6 a7 a8), (oc2 dq y5 y6), (oc7 sh (.ref fa) (nI ft)), (oq fa cF 200 FA)] ++ va_pl L f)) A) ([.ref x, .int (nI f0), .int (nI g0), .int gp9] : List Value).toArray s 0 0 A := ⟨_, rfl⟩
  rw [← hQ9]
  have hl := lv_entry ([.ref x, .int (nI f0), .int (nI g0), .int gp9]) (n := 9) (Nat.le_of_ble_eq_true rfl)
  rw [lg_entry_eq]
  generalize (lg_sl ([.ref x, .int (nI f0), .int (nI g0), .int gp9]) ++ List.replicate (9 - (lg_sl ([.ref x, .int (nI f0), .int (nI g0), .int gp9])).length) Slot.unset).toArray = ls at hl ⊢
  have hl : lv_has ls 9 [(0, .ref x), (1, .int (nI f0)), (2, .int (nI g0)), (3, .int gp9)] := hl
  have hva := shB_va hB
  obtain ⟨own, fe, cl, la, sp, SA, hG9, hH9, hft9, hO9⟩ := hB
  obtain ⟨hG, hM, hdT, hT5, hO⟩ := M_0 hG9 hH9 hft9 hO9
  have h200 : ft ≤ 200 := hG.2.2.2.2.2.1.2.2.2.2.2
  have hFA9 := hG.2.2.2.2.2.2
  by_cases hb9 : lvF ft st tn f0 ∧ lvF ft st tn g0
  · skip
    obtain ⟨hlv, hlg⟩ := hb9
    have htn := hlv.2.2
    have htg := hlg.2.2
    have hst := hlv.2.1
    have hsg := hlg.2.1
    refine ex13 (sh_fc hG.1 hG.2.1 (Nat.le_refl _) hf0 htn) (fun lo5 lx5 ly5 ln5 LX5 LY5 we5 r5 rx5 ry5 cap5 X5 Y5 hc5 => ?_)
    have hc5 := fc_0 hc5
    have hb5 := hc5.2.2.1
    have hb6 := hc5.2.1
    have hat9 := lo_at hO (Nat.le_refl _) hf0 hc5.1.1 hc5.1.2.2.2 (by omega) hc5.1.2.1 hb5.2.2
    refine ex13 (sh_fc hG.1 hG.2.1 (Nat.le_refl _) hg0 htg) (fun lo6 lx6 ly6 ln6 LX6 LY6 we6 r6 rx6 ry6 cap6 X6 Y6 hc6 => ?_)
    have hc6 := fc_0 hc6
    have hb7 := hc6.2.2.1
    have hb8 := hc6.2.1
    have hwf0 := hwf f0 hlv
    have hwfg := hwf g0 hlg
    have hw1 := hwf0.2.1
    have hw2 := hwfg.2.1
    have hkn0 := hkn f0 hlv
    have hkng := hkn g0 hlg
    have hX5 := hc5.2.2.2.2.1
    have hX6 := hc6.2.2.2.2.1
    have hp5 := (pls_cg hX5).mpr hwf0.2.2
    have hp6 := (pls_cg hX6).mpr hwfg.2.2
    have hc9_1 : inPl L f [(oc1 (fe f0) (rk f0) (wd f0) (tw f0) (pa f0) (pb f0) (.ref lo5) (.ref (la dn f0)) .null), (oc4 (la dn f0) (kd f0) (st f0) (.ref r5) (gb f0) (it f0) (nI we5)), (oc6 r5 (.ref rx5) (.ref ry5) (nI (nN (mn f0))) (rgK (kd f0).toInt)), (oa rx5 cI cap5 X5), (oa ry5 cI cap5 Y5), (oc6 lo5 (.ref lx5) (.ref ly5) (nI ln5) 0), (oa lx5 cI (cl f0) LX5), (oa ly5 cI (cl f0) LY5), (oc1 (fe g0) (rk g0) (wd g0) (tw g0) (pa g0) (pb g0) (.ref lo6) (.ref (la dn g0)) .null), (oc4 (la dn g0) (kd g0) (st g0) (.ref r6) (gb g0) (it g0) (nI we6)), (oc6 r6 (.ref rx6) (.ref ry6) (nI (nN (mn g0))) (rgK (kd g0).toInt)), (oa rx6 cI cap6 X6), (oa ry6 cI cap6 Y6), (oc6 lo6 (.ref lx6) (.ref ly6) (nI ln6) 0), (oa lx6 cI (cl g0) LX6), (oa ly6 cI (cl g0) LY6)] := ⟨ce_pl hc5.1.1, ce_pl hc5.1.2.1, ce_pl hc5.1.2.2.1.1, ce_pl hc5.1.2.2.1.2.1, ce_pl hc5.1.2.2.1.2.2.1, ce_pl hc5.1.2.2.2.1, ce_pl hc5.1.2.2.2.2.1, ce_pl hc5.1.2.2.2.2.2.1, ce_pl hc6.1.1, ce_pl hc6.1.2.1, ce_pl hc6.1.2.2.1.1, ce_pl hc6.1.2.2.1.2.1, ce_pl hc6.1.2.2.1.2.2.1, ce_pl hc6.1.2.2.2.1, ce_pl hc6.1.2.2.2.2.1, ce_pl hc6.1.2.2.2.2.2.1, trivial⟩
    have hD0_1 := hD
    obtain ⟨T_1, hT_1, hP, hD⟩ := pl_oT hP hD hc9_1 (pw_ap (own := own) (p := g0) (A := [(oc1 (fe f0) (rk f0) (wd f0) (tw f0) (pa f0) (pb f0) (.ref lo5) (.ref (la dn f0)) .null), (oc4 (la dn f0) (kd f0) (st f0) (.ref r5) (gb f0) (it f0) (nI we5)), (oc6 r5 (.ref rx5) (.ref ry5) (nI (nN (mn f0))) (rgK (kd f0).toInt)), (oa rx5 cI cap5 X5), (oa ry5 cI cap5 Y5), (oc6 lo5 (.ref lx5) (.ref ly5) (nI ln5) 0), (oa lx5 cI (cl f0) LX5), (oa ly5 cI (cl f0) LY5)]) (B := [(oc1 (fe g0) (rk g0) (wd g0) (tw g0) (pa g0) (pb g0) (.ref lo6) (.ref (la dn g0)) .null), (oc4 (la dn g0) (kd g0) (st g0) (.ref r6) (gb g0) (it g0) (nI we6)), (oc6 r6 (.ref rx6) (.ref ry6) (nI (nN (mn g0))) (rgK (kd g0).toInt)), (oa rx6 cI cap6 X6), (oa ry6 cI cap6 Y6), (oc6 lo6 (.ref lx6) (.ref ly6) (nI ln6) 0), (oa lx6 cI (cl g0) LX6), (oa ly6 cI (cl g0) LY6)]) (pw8 hc5 (by omega)) (pw8 hc6 (by omega)) (fc_ne hc5 (by omega) (by omega) hgf) (fun r hr => fc_ne hc6 (by omega) (by omega) hr))
    obtain ⟨hP, hD⟩ := zre (W2 := ([_, _, _, _, _, _, _, _, _, _, _, _, _, _, _, _, _, _, _, _, _, _, _] ++ va_pl T_1 f)) hP hD rfl
    refine lv_aload_n hx hb dX10_isClash_0 rfl (lv_at hl 0 rfl) ?_
    refine va_get (D := (dC, dI)) (ci := 8) (v := .ref sh) (C := RX10) (T := TX10) (N := 13) hx hb hts inX10 hown hK hP 0 rfl rfl 0 (Nat.le_of_ble_eq_true rfl) (hts _ mw_309) (fun _ h9 => h9) rfl dX10_isClash_1 ?_
    refine lv_iload_n hx hb dX10_isClash_4 rfl (lv_at hl 1 rfl) ?_
    obtain ⟨hPc, hDc, hFc, hI1⟩ := zi_sub (wc := [_, _]) hP hD hS hA [5, 6] rfl rfl
    refine zcall (st1 := [.ref (fe f0)]) (va_runV (As := [.int (nI f0)]) (rest := []) ⟨hx, hb, hml, hown, hts⟩ (k_Sheet_find l dC dI cI cZ cF s.heap.size sh fa ft FA f0 (fe f0) (by first | with_reducible assumption | omega) (by first | with_reducible assumption | omega) (by first | exact hFA2 | exact hFA9 f0 (by first | with_reducible assumption | omega))) (csV_94 hts rfl rfl ⟨Nat.le_of_ble_eq_true rfl, Nat.le_of_ble_eq_true rfl⟩) (zPV2 (q0 := 0) (ci := 7) hPc hDc hK3 hXN rfl rfl) rfl rfl hl.1 rfl (lv_room (Nat.le_of_ble_eq_true rfl)) dX10_isClash_5 ⟨Nat.le_of_ble_eq_true rfl, Nat.le_of_ble_eq_true rfl⟩) hS hFc hFc rfl (fun t H locs ht hB hk1 hS => ?_)
    obtain ⟨hP1, hD1⟩ := hB
    rw [ht] at hP1
    replace hP := z0 hP hD hk1 hP1 hI1
    clear hk1 hPc hDc hFc hP1 hD1 ht hI1
    refine lv_astore (lv' := [(4, .ref (fe f0)), (0, .ref x), (1, .int (nI f0)), (2, .int (nI g0)), (3, .int gp9)]) hx hb dX10_isClash_8 hl (Nat.le_of_ble_eq_true rfl) rfl (fun ls hl => ?_)
    refine lv_aload_n hx hb dX10_isClash_10 rfl (lv_at hl 1 rfl) ?_
    refine va_get (D := (dC, dI)) (ci := 8) (v := .ref sh) (C := RX10) (T := TX10) (N := 13) hx hb hts inX10 hown hK hP 0 rfl rfl 0 (Nat.le_of_ble_eq_true rfl) (hts _ mw_309) (fun _ h9 => h9) rfl dX10_isClash_11 ?_
    refine lv_iload_n hx hb dX10_isClash_14 rfl (lv_at hl 3 rfl) ?_
    obtain ⟨hPc, hDc, hFc, hI1⟩ := zi_sub (wc := [_, _]) hP hD hS hA [5, 6] rfl rfl
    refine zcall (st1 := [.ref (fe g0)]) (va_runV (As := [.int (nI g0)]) (rest := []) ⟨hx, hb, hml, hown, hts⟩ (k_Sheet_find l dC dI cI cZ cF H.size sh fa ft FA g0 (fe g0) (by first | with_reducible assumption | omega) (by first | with_reducible assumption | omega) (by first | exact hFA3 | exact hFA9 g0 (by first | with_reducible assumption | omega))) (csV_94 hts rfl rfl ⟨Nat.le_of_ble_eq_true rfl, Nat.le_of_ble_eq_true rfl⟩) (zPV2 (q0 := 0) (ci := 7) hPc hDc hK3 hXN rfl rfl) rfl rfl hl.1 rfl (lv_room (Nat.le_of_ble_eq_true rfl)) dX10_isClash_15 ⟨Nat.le_of_ble_eq_true rfl, Nat.le_of_ble_eq_true rfl⟩) hS hFc hFc rfl (fun t H locs ht hB hk1 hS => ?_)
    obtain ⟨hP1, hD1⟩ := hB
    rw [ht] at hP1
    replace hP := z0 hP hD hk1 hP1 hI1
    clear hk1 hPc hDc hFc hP1 hD1 ht hI1
    refine lv_astore (lv' := [(5, .ref (fe g0)), (4, .ref (fe f0)), (0, .ref x), (1, .int (nI f0)), (2, .int (nI g0)), (3, .int gp9)]) hx hb dX10_isClash_18 hl (Nat.le_of_ble_eq_true rfl) rfl (fun ls hl => ?_)
    refine lv_aload_n hx hb dX10_isClash_20 rfl (lv_at hl 2 rfl) ?_
    refine va_get (D := (dC, dI)) (ci := 8) (v := .ref sh) (C := RX10) (T := TX10) (N := 13) hx hb hts inX10 hown hK hP 0 rfl rfl 0 (Nat.le_of_ble_eq_true rfl) (hts _ mw_309) (fun _ h9 => h9) rfl dX10_isClash_21 ?_
    refine lv_iload_n hx hb dX10_isClash_24 rfl (lv_at hl 3 rfl) ?_
    obtain ⟨hPc, hDc, hFc, hI1⟩ := zi_sub (wc := [_, _, _, _]) hP hD hS hA [5, 6, 7, 8] (by decide +kernel) rfl
    refine zcall (st1 := [.ref r5]) (va_runV (As := [.int (nI f0)]) (rest := []) ⟨hx, hb, hml, hown, hts⟩ (k_Sheet_rowThere_yv l dC dI cI cZ cF H.size sh fa ft FA f0 (fe f0) lo5 (rk f0) (wd f0) (tw f0) (pa f0) (pb f0) (la dn f0) (kd f0) (st f0) (gb f0) (it f0) (nI we5) r5 (.null) (by first | with_reducible assumption | omega) (by first | with_reducible assumption | omega) (by first | exact hFA2 | exact hFA9 f0 (by first | with_reducible assumption | omega)) (by first | exact hst | exact hA2 | omega)) (csV_144 hts rfl rfl ⟨Nat.le_of_ble_eq_true rfl, Nat.le_of_ble_eq_true rfl⟩) (zPV2 (q0 := 0) (ci := 7) hPc hDc hK3 hXN rfl rfl) rfl rfl hl.1 rfl (lv_room (Nat.le_of_ble_eq_true rfl)) dX10_isClash_25 ⟨Nat.le_of_ble_eq_true rfl, Nat.le_of_ble_eq_true rfl⟩) hS hFc hFc rfl (fun t H locs ht hB hk1 hS => ?_)
    obtain ⟨hP1, hD1⟩ := hB
    rw [ht] at hP1
    replace hP := z0 hP hD hk1 hP1 hI1
    clear hk1 hPc hDc hFc hP1 hD1 ht hI1
    refine lv_astore (lv' := [(6, .ref r5), (5, .ref (fe g0)), (4, .ref (fe f0)), (0, .ref x), (1, .int (nI f0)), (2, .int (nI g0)), (3, .int gp9)]) hx hb dX10_isClash_28 hl (Nat.le_of_ble_eq_true rfl) rfl (fun ls hl => ?_)
    refine lv_aload_n hx hb dX10_isClash_30 rfl (lv_at hl 3 rfl) ?_
    refine va_get (D := (dC, dI)) (ci := 8) (v := .ref sh) (C := RX10) (T := TX10) (N := 13) hx hb hts inX10 hown hK hP 0 rfl rfl 0 (Nat.le_of_ble_eq_true rfl) (hts _ mw_309) (fun _ h9 => h9) rfl dX10_isClash_31 ?_
    refine lv_iload_n hx hb dX10_isClash_34 rfl (lv_at hl 5 rfl) ?_
    obtain ⟨hPc, hDc, hFc, hI1⟩ := zi_sub (wc := [_, _, _, _]) hP hD hS hA [5, 6, 15, 16] (by decide +kernel) rfl
    refine zcall (st1 := [.ref r6]) (va_runV (As := [.int (nI g0)]) (rest := []) ⟨hx, hb, hml, hown, hts⟩ (k_Sheet_rowThere_yv l dC dI cI cZ cF H.size sh fa ft FA g0 (fe g0) lo6 (rk g0) (wd g0) (tw g0) (pa g0) (pb g0) (la dn g0) (kd g0) (st g0) (gb g0) (it g0) (nI we6) r6 (.null) (by first | with_reducible assumption | omega) (by first | with_reducible assumption | omega) (by first | exact hFA3 | exact hFA9 g0 (by first | with_reducible assumption | omega)) (by first | exact hsg | exact hA3 | omega)) (csV_144 hts rfl rfl ⟨Nat.le_of_ble_eq_true rfl, Nat.le_of_ble_eq_true rfl⟩) (zPV2 (q0 := 0) (ci := 7) hPc hDc hK3 hXN rfl rfl) rfl rfl hl.1 rfl (lv_room (Nat.le_of_ble_eq_true rfl)) dX10_isClash_35 ⟨Nat.le_of_ble_eq_true rfl, Nat.le_of_ble_eq_true rfl⟩) hS hFc hFc rfl (fun t H locs ht hB hk1 hS => ?_)
    obtain ⟨hP1, hD1⟩ := hB
    rw [ht] at hP1
    replace hP := z0 hP hD hk1 hP1 hI1
    clear hk1 hPc hDc hFc hP1 hD1 ht hI1
    refine lv_astore (lv' := [(7, .ref r6), (6, .ref r5), (5, .ref (fe g0)), (4, .ref (fe f0)), (0, .ref x), (1, .int (nI f0)), (2, .int (nI g0)), (3, .int gp9)]) hx hb dX10_isClash_38 hl (Nat.le_of_ble_eq_true rfl) rfl (fun ls hl => ?_)
    refine lv_aload hx hb dX10_isClash_40 (lv_at hl 3 rfl) ?_
    refine lv_ifnull hx hb dX10_isClash_42 ?_
    refine lv_aload hx hb dX10_isClash_45 (lv_at hl 2 rfl) ?_
    refine lv_ifnull hx hb dX10_isClash_47 ?_
    refine lv_aload hx hb dX10_isClash_50 (lv_at hl 1 rfl) ?_
    refine lv_ifnull hx hb dX10_isClash_52 ?_
    refine lv_aload hx hb dX10_isClash_55 (lv_at hl 0 rfl) ?_
    refine lv_ifnonnull (tgt := 62) hx hb dX10_isClash_57 rfl ?_
    refine lv_aload hx hb dX10_isClash_62 (lv_at hl 3 rfl) ?_
    refine va_get (D := (dC, dI)) (ci := 1) (v := .int (wd f0)) (C := RX2) (T := TX2) (N := 8) hx hb hts inX2 hown hK hP 7 rfl rfl 1 (Nat.le_of_ble_eq_true rfl) (hts _ mw_419) (fun _ h9 => h9) rfl dX10_isClash_64 ?_
    refine lv_aload hx hb dX10_isClash_67 (lv_at hl 2 rfl) ?_
    refine va_get (D := (dC, dI)) (ci := 1) (v := .int (wd g0)) (C := RX2) (T := TX2) (N := 8) hx hb hts inX2 hown hK hP 15 rfl rfl 1 (Nat.le_of_ble_eq_true rfl) (hts _ mw_419) (fun _ h9 => h9) rfl dX10_isClash_69 ?_
    refine lv_iadd hx hb dX10_isClash_72 ?_
    refine lv_iconst (v := 2) hx hb dX10_isClash_73 rfl ?_
    refine lv_iload_n hx hb dX10_isClash_74 rfl (lv_at hl 7 rfl) ?_
    refine lv_imul hx hb dX10_isClash_75 ?_
    refine lv_iadd hx hb dX10_isClash_76 ?_
    refine lv_istore (lv' := [(8, .int (((wd f0) + (wd g0)) + (2 * gp9))), (7, .ref r6), (6, .ref r5), (5, .ref (fe g0)), (4, .ref (fe f0)), (0, .ref x), (1, .int (nI f0)), (2, .int (nI g0)), (3, .int gp9)]) hx hb dX10_isClash_77 hl (Nat.le_of_ble_eq_true rfl) rfl (fun ls hl => ?_)
    refine lv_aload_n hx hb dX10_isClash_79 rfl (lv_at hl 5 rfl) ?_
    refine va_get (D := (dC, dI)) (ci := 8) (v := .ref bq) (C := RX10) (T := TX10) (N := 13) hx hb hts inX10 hown hK hP 0 rfl rfl 3 (Nat.le_of_ble_eq_true rfl) (hts _ mw_312) (fun _ h9 => h9) rfl dX10_isClash_80 ?_
    refine lv_aload hx hb dX10_isClash_83 (lv_at hl 2 rfl) ?_
    obtain ⟨hPc, hDc, hFc⟩ := zo_sub (wc := [_, _, _, _]) hP hD hS hA [2, 9, 10, 11] (by decide +kernel) rfl
    refine zcall (st1 := []) (va_runV (As := [.ref r5]) (rest := []) ⟨hx, hb, hml, hown, hts⟩ (k_Box_cover l dC dI cI cZ cF H.size bq c1 c2 c3 c4 r5 rx5 ry5 (nN (mn f0)) cap5 X5 Y5 (rgK (kd f0).toInt) (by first | with_reducible assumption | omega) (by first | with_reducible assumption | omega) ((pls_nr hp5).1) ((pls_nr hp5).2) (by first | with_reducible assumption | omega)) (csV_129 hts rfl rfl ⟨Nat.le_of_ble_eq_true rfl, Nat.le_of_ble_eq_true rfl⟩) (zPV2 (q0 := 0) (ci := 0) hPc hDc hK3 hXN rfl rfl) rfl rfl hl.1 rfl (lv_room (Nat.le_of_ble_eq_true rfl)) dX10_isClash_85 ⟨Nat.le_of_ble_eq_true rfl, Nat.le_of_ble_eq_true rfl⟩) hS hFc hFc rfl (fun t H locs ht hB hk1 hS => ?_)
    obtain ⟨hP1, hD1⟩ := hB
    rw [ht] at hP1
    obtain ⟨hP, hD⟩ := znQ (W2 := [_, _, (oc0 bq (iI (mnI (X5 0).toInt X5 (nN (mn f0)))) (iI (mnI (Y5 0).toInt Y5 (nN (mn f0)))) (iI (mxI (X5 0).toInt X5 (nN (mn f0)))) (iI (mxI (Y5 0).toInt Y5 (nN (mn f0))))), _, _, _, _, _, _, _, _, _, _, _, _, _, _, _, _, _, _, _, _]) hP hD hk1 hFc hP1 hD1 [2, 9, 10, 11] zl_129 zl_129 [2, 9, 10, 11] (by decide +kernel) rfl rfl rfl rfl rfl
    clear hk1 hPc hDc hFc hP1 hD1 ht
    refine lv_aload_n hx hb dX10_isClash_88 rfl (lv_at hl 5 rfl) ?_
    refine va_get (D := (dC, dI)) (ci := 8) (v := .ref bp) (C := RX10) (T := TX10) (N := 13) hx hb hts inX10 hown hK hP 0 rfl rfl 4 (Nat.le_of_ble_eq_true rfl) (hts _ mw_313) (fun _ h9 => h9) rfl dX10_isClash_89 ?_
    refine lv_aload hx hb dX10_isClash_92 (lv_at hl 1 rfl) ?_
    obtain ⟨hPc, hDc, hFc⟩ := zo_sub (wc := [_, _, _, _]) hP hD hS hA [3, 17, 18, 19] (by decide +kernel) rfl
    refine zcall (st1 := []) (va_runV (As := [.ref r6]) (rest := []) ⟨hx, hb, hml, hown, hts⟩ (k_Box_cover l dC dI cI cZ cF H.size bp a1 a2 a3 a4 r6 rx6 ry6 (nN (mn g0)) cap6 X6 Y6 (rgK (kd g0).toInt) (by first | with_reducible assumption | omega) (by first | with_reducible assumption | omega) ((pls_nr hp6).1) ((pls_nr hp6).2) (by first | with_reducible assumption | omega)) (csV_129 hts rfl rfl ⟨Nat.le_of_ble_eq_true rfl, Nat.le_of_ble_eq_true rfl⟩) (zPV2 (q0 := 0) (ci := 0) hPc hDc hK3 hXN rfl rfl) rfl rfl hl.1 rfl (lv_room (Nat.le_of_ble_eq_true rfl)) dX10_isClash_94 ⟨Nat.le_of_ble_eq_true rfl, Nat.le_of_ble_eq_true rfl⟩) hS hFc hFc rfl (fun t H locs ht hB hk1 hS => ?_)
    obtain ⟨hP1, hD1⟩ := hB
    rw [ht] at hP1
    obtain ⟨hP, hD⟩ := znQ (W2 := [_, _, _, (oc0 bp (iI (mnI (X6 0).toInt X6 (nN (mn g0)))) (iI (mnI (Y6 0).toInt Y6 (nN (mn g0)))) (iI (mxI (X6 0).toInt X6 (nN (mn g0)))) (iI (mxI (Y6 0).toInt Y6 (nN (mn g0))))), _, _, _, _, _, _, _, _, _, _, _, _, _, _, _, _, _, _, _]) hP hD hk1 hFc hP1 hD1 [3, 17, 18, 19] zl_130 zl_130 [3, 17, 18, 19] (by decide +kernel) rfl rfl rfl rfl rfl
    clear hk1 hPc hDc hFc hP1 hD1 ht
    refine lv_iconst (v := 4) hx hb dX10_isClash_97 rfl ?_
    refine lv_aload_n hx hb dX10_isClash_98 rfl (lv_at hl 5 rfl) ?_
    refine va_get (D := (dC, dI)) (ci := 8) (v := .ref bq) (C := RX10) (T := TX10) (N := 13) hx hb hts inX10 hown hK hP 0 rfl rfl 3 (Nat.le_of_ble_eq_true rfl) (hts _ mw_312) (fun _ h9 => h9) rfl dX10_isClash_99 ?_
    refine lv_aload_n hx hb dX10_isClash_102 rfl (lv_at hl 5 rfl) ?_
    refine va_get (D := (dC, dI)) (ci := 8) (v := .ref bp) (C := RX10) (T := TX10) (N := 13) hx hb hts inX10 hown hK hP 0 rfl rfl 4 (Nat.le_of_ble_eq_true rfl) (hts _ mw_313) (fun _ h9 => h9) rfl dX10_isClash_103 ?_
    obtain ⟨hPc, hDc, hFc, hI1⟩ := zi_sub (wc := [_, _]) hP hD hS hA [2, 3] rfl rfl
    refine zcall (st1 := [.int (iI ((gp (mnI (X5 0).toInt X5 (nN (mn f0))) (mxI (X5 0).toInt X5 (nN (mn f0))) (mnI (X6 0).toInt X6 (nN (mn g0))) (mxI (X6 0).toInt X6 (nN (mn g0)))) * (gp (mnI (X5 0).toInt X5 (nN (mn f0))) (mxI (X5 0).toInt X5 (nN (mn f0))) (mnI (X6 0).toInt X6 (nN (mn g0))) (mxI (X6 0).toInt X6 (nN (mn g0)))) + (gp (mnI (Y5 0).toInt Y5 (nN (mn f0))) (mxI (Y5 0).toInt Y5 (nN (mn f0))) (mnI (Y6 0).toInt Y6 (nN (mn g0))) (mxI (Y6 0).toInt Y6 (nN (mn g0)))) * (gp (mnI (Y5 0).toInt Y5 (nN (mn f0))) (mxI (Y5 0).toInt Y5 (nN (mn f0))) (mnI (Y6 0).toInt Y6 (nN (mn g0))) (mxI (Y6 0).toInt Y6 (nN (mn g0)))))), .int 4]) (va_runV (As := [.ref bp]) (rest := [.int 4]) ⟨hx, hb, hml, hown, hts⟩ (k_Box_squareApart l dC dI cI cZ cF H.size bq (mnI (X5 0).toInt X5 (nN (mn f0))) (mnI (Y5 0).toInt Y5 (nN (mn f0))) (mxI (X5 0).toInt X5 (nN (mn f0))) (mxI (Y5 0).toInt Y5 (nN (mn f0))) bp (mnI (X6 0).toInt X6 (nN (mn g0))) (mnI (Y6 0).toInt Y6 (nN (mn g0))) (mxI (X6 0).toInt X6 (nN (mn g0))) (mxI (Y6 0).toInt Y6 (nN (mn g0))) (⟨mnB ((pls_nr hp5).1 0 (by first | with_reducible assumption | omega)) (pls_nr hp5).1 _ (Nat.le_refl _), mnB ((pls_nr hp5).2 0 (by first | with_reducible assumption | omega)) (pls_nr hp5).2 _ (Nat.le_refl _), mxB ((pls_nr hp5).1 0 (by first | with_reducible assumption | omega)) (pls_nr hp5).1 _ (Nat.le_refl _), mxB ((pls_nr hp5).2 0 (by first | with_reducible assumption | omega)) (pls_nr hp5).2 _ (Nat.le_refl _)⟩) (⟨mnB ((pls_nr hp6).1 0 (by first | with_reducible assumption | omega)) (pls_nr hp6).1 _ (Nat.le_refl _), mnB ((pls_nr hp6).2 0 (by first | with_reducible assumption | omega)) (pls_nr hp6).2 _ (Nat.le_refl _), mxB ((pls_nr hp6).1 0 (by first | with_reducible assumption | omega)) (pls_nr hp6).1 _ (Nat.le_refl _), mxB ((pls_nr hp6).2 0 (by first | with_reducible assumption | omega)) (pls_nr hp6).2 _ (Nat.le_refl _)⟩)) (csV_157 hts rfl rfl ⟨Nat.le_of_ble_eq_true rfl, Nat.le_of_ble_eq_true rfl⟩) (zPV2 (q0 := 0) (ci := 0) hPc hDc hK3 hXN rfl rfl) rfl rfl hl.1 rfl (lv_room (Nat.le_of_ble_eq_true rfl)) dX10_isClash_106 ⟨Nat.le_of_ble_eq_true rfl, Nat.le_of_ble_eq_true rfl⟩) hS hFc hFc rfl (fun t H locs ht hB hk1 hS => ?_)
    obtain ⟨hP1, hD1⟩ := hB
    rw [ht] at hP1
    replace hP := z0 hP hD hk1 hP1 hI1
    clear hk1 hPc hDc hFc hP1 hD1 ht hI1
    refine lv_imul hx hb dX10_isClash_109 ?_
    refine lv_iload hx hb dX10_isClash_110 (lv_at hl 0 rfl) ?_
    refine lv_iload hx hb dX10_isClash_112 (lv_at hl 0 rfl) ?_
    refine lv_imul hx hb dX10_isClash_114 ?_
    refine lv_icmp_lt (tgt := 120) hx hb dX10_isClash_115 rfl (fun c_1 => ?_) (fun c_1 => ?_)
    · have c_1 : (4 * (iI ((gp (mnI (X5 0).toInt X5 (nN (mn f0))) (mxI (X5 0).toInt X5 (nN (mn f0))) (mnI (X6 0).toInt X6 (nN (mn g0))) (mxI (X6 0).toInt X6 (nN (mn g0)))) * (gp (mnI (X5 0).toInt X5 (nN (mn f0))) (mxI (X5 0).toInt X5 (nN (mn f0))) (mnI (X6 0).toInt X6 (nN (mn g0))) (mxI (X6 0).toInt X6 (nN (mn g0)))) + (gp (mnI (Y5 0).toInt Y5 (nN (mn f0))) (mxI (Y5 0).toInt Y5 (nN (mn f0))) (mnI (Y6 0).toInt Y6 (nN (mn g0))) (mxI (Y6 0).toInt Y6 (nN (mn g0)))) * (gp (mnI (Y5 0).toInt Y5 (nN (mn f0))) (mxI (Y5 0).toInt Y5 (nN (mn f0))) (mnI (Y6 0).toInt Y6 (nN (mn g0))) (mxI (Y6 0).toInt Y6 (nN (mn g0))))))).toInt < ((((wd f0) + (wd g0)) + (2 * gp9)) * (((wd f0) + (wd g0)) + (2 * gp9))).toInt := zc_lt rfl rfl c_1
      by_cases htc : ∃ i, i < prt (nN (mn f0)) (rgK (kd f0).toInt) ∧ ∃ j, j < prt (nN (mn g0)) (rgK (kd g0).toInt) ∧ eMt (nN (mn f0)) X5 Y5 i (nN (mn g0)) X6 Y6 j
      · skip
        refine lv_aload_n hx hb dX10_isClash_120 rfl (lv_at hl 5 rfl) ?_
        refine va_get (D := (dC, dI)) (ci := 8) (v := .ref dq) (C := RX10) (T := TX10) (N := 13) hx hb hts inX10 hown hK hP 0 rfl rfl 5 (Nat.le_of_ble_eq_true rfl) (hts _ mw_314) (fun _ h9 => h9) rfl dX10_isClash_121 ?_
        refine lv_aload hx hb dX10_isClash_124 (lv_at hl 2 rfl) ?_
        refine lv_aload hx hb dX10_isClash_126 (lv_at hl 1 rfl) ?_
        obtain ⟨hPc, hDc, hFc⟩ := zo_sub (wc := [_, _, _, _, _, _, _]) hP hD hS hA [4, 9, 10, 11, 17, 18, 19] (by decide +kernel) rfl
        refine zcall (st1 := []) (va_runV (As := [.ref r5, .ref r6]) (rest := []) ⟨hx, hb, hml, hown, hts⟩ (k_Fr_between_m l dC dI cI cZ cF H.size dq y1 y2 r5 rx5 ry5 (nN (mn f0)) cap5 X5 Y5 (rgK (kd f0).toInt) r6 rx6 ry6 (nN (mn g0)) cap6 X6 Y6 (rgK (kd g0).toInt) (by first | with_reducible assumption | omega) (by first | with_reducible assumption | omega) (hp5) (by first | with_reducible assumption | omega) (by first | with_reducible assumption | omega) (hp6) (htc)) (csV_127 hts rfl rfl ⟨Nat.le_of_ble_eq_true rfl, Nat.le_of_ble_eq_true rfl⟩) (zPV2 (q0 := 0) (ci := 2) hPc hDc hK3 hXN rfl rfl) rfl rfl hl.1 rfl (lv_room (Nat.le_of_ble_eq_true rfl)) dX10_isClash_128 ⟨Nat.le_of_ble_eq_true rfl, Nat.le_of_ble_eq_true rfl⟩) hS hFc hFc rfl (fun t H locs ht hB hk1 hS => ?_)
        obtain ⟨hP1, hD1⟩ := hB
        rw [ht] at hP1
        obtain ⟨hP, hD⟩ := znQ (W2 := [_, _, _, _, (oc2 dq (jI 0) (jI 1)), _, _, _, _, _, _, _, _, _, _, _, _, _, _, _, _, _, _]) hP hD hk1 hFc hP1 hD1 [4, 9, 10, 11, 17, 18, 19] zl_131 zl_131 [4, 9, 10, 11, 17, 18, 19] (by decide +kernel) rfl rfl rfl rfl rfl
        clear hk1 hPc hDc hFc hP1 hD1 ht
        refine lv_aload_n hx hb dX10_isClash_131 rfl (lv_at hl 5 rfl) ?_
        refine va_get (D := (dC, dI)) (ci := 8) (v := .ref dq) (C := RX10) (T := TX10) (N := 13) hx hb hts inX10 hown hK hP 0 rfl rfl 5 (Nat.le_of_ble_eq_true rfl) (hts _ mw_314) (fun _ h9 => h9) rfl dX10_isClash_132 ?_
        refine va_get (D := (dC, dI)) (ci := 2) (v := .long (jI 0)) (C := RX3) (T := TX3) (N := 2) hx hb hts inX3 hown hK hP 4 rfl rfl 0 (Nat.le_of_ble_eq_true rfl) (hts _ mw_274) (fun _ h9 => h9) rfl dX10_isClash_135 ?_
        refine lv_lconst (v := 0) hx hb dX10_isClash_138 rfl ?_
        refine W.lcmp hx hb dX10_isClash_139 ?_
        refine lv_if_le (tgt := 159) hx hb dX10_isClash_140 rfl (fun c_2 => ?_) (fun c_2 => ?_)
        · have c_2 : (0 : Int) ≤ (0 : Int) := zl_le (jI_toInt (by omega)) rfl c_2
          refine lv_iconst (v := 0) hx hb dX10_isClash_159 rfl ?_
          obtain ⟨hP, hD⟩ := pl_bk (X := [_, _, _, _, _, _, _]) hT_1 hP rfl hc9_1 hD0_1 rfl
          obtain ⟨hP9, hD9⟩ := zu_part (cx := [_, _, _, _, _, _, _]) hP hD [true, true, true, true, true, true, true] rfl rfl
          rw [hQ9]
          exact W.zret (ty := .boolean) (v := 0) hx hb hr (rfl) (fun t ht hW => ⟨⟨_, rfl, 0, (iI (mnI (X5 0).toInt X5 (nN (mn f0)))), (iI (mnI (Y5 0).toInt Y5 (nN (mn f0)))), (iI (mxI (X5 0).toInt X5 (nN (mn f0)))), (iI (mxI (Y5 0).toInt Y5 (nN (mn f0)))), (iI (mnI (X6 0).toInt X6 (nN (mn g0)))), (iI (mnI (Y6 0).toInt Y6 (nN (mn g0)))), (iI (mxI (X6 0).toInt X6 (nN (mn g0)))), (iI (mxI (Y6 0).toInt Y6 (nN (mn g0)))), (jI 0), (jI 1), rfl, by rw [ht]; exact hP9, hD9⟩, hS.F ht⟩) hS.2.2 dX10_isClash_160
        · have c_2 : (0 : Int) < (0 : Int) := zl_nle (jI_toInt (by omega)) rfl c_2
          refine lv_aload_n hx hb dX10_isClash_143 rfl (lv_at hl 5 rfl) ?_
          refine va_get (D := (dC, dI)) (ci := 8) (v := .ref dq) (C := RX10) (T := TX10) (N := 13) hx hb hts inX10 hown hK hP 0 rfl rfl 5 (Nat.le_of_ble_eq_true rfl) (hts _ mw_314) (fun _ h9 => h9) rfl dX10_isClash_144 ?_
          refine lv_iload hx hb dX10_isClash_147 (lv_at hl 0 rfl) ?_
          obtain ⟨hPc, hDc, hFc⟩ := zo_sub (wc := [_]) hP hD hS hA [4] rfl rfl
          refine zcalle (va_runV (As := [.int (((wd f0) + (wd g0)) + (2 * gp9))]) (rest := []) ⟨hx, hb, hml, hown, hts⟩ (k_Fr_isHalfBelow_a l dC dI cI cZ cF H.size dq (jI 0) (jI 1) (((wd f0) + (wd g0)) + (2 * gp9)) ) (csV_158 hts rfl rfl ⟨Nat.le_of_ble_eq_true rfl, Nat.le_of_ble_eq_true rfl⟩) (zPV2 (q0 := 0) (ci := 2) hPc hDc hK3 hXN rfl rfl) rfl rfl hl.1 rfl (lv_room (Nat.le_of_ble_eq_true rfl)) dX10_isClash_149 ⟨Nat.le_of_ble_eq_true rfl, Nat.le_of_ble_eq_true rfl⟩) hS hFc hFc (fun v9 t H locs ht hB hk1 hS => ?_)
          obtain ⟨c9, rfl, hP1, hD1⟩ := hB
          refine W.eq (g2 := F0 m 152 ls [.int c9]) rfl ?_
          rw [ht] at hP1
          obtain ⟨hP, hD⟩ := znQ (W2 := [_, _, _, _, _, _, _, _, _, _, _, _, _, _, _, _, _, _, _, _, _, _, _]) hP hD hk1 hFc hP1 hD1 [4] zl_132 zl_132 [4] (by decide +kernel) rfl rfl rfl rfl rfl
          clear hk1 hPc hDc hFc hP1 hD1 ht
          refine lv_if_eq (tgt := 159) hx hb dX10_isClash_152 rfl (fun c_3 => ?_) (fun c_3 => ?_)
          · have c_3 : c9.toInt = 0 := zc_eq rfl rfl c_3
            refine lv_iconst (v := 0) hx hb dX10_isClash_159 rfl ?_
            obtain ⟨hP, hD⟩ := pl_bk (X := [_, _, _, _, _, _, _]) hT_1 hP rfl hc9_1 hD0_1 rfl
            obtain ⟨hP9, hD9⟩ := zu_part (cx := [_, _, _, _, _, _, _]) hP hD [true, true, true, true, true, true, true] rfl rfl
            rw [hQ9]
            exact W.zret (ty := .boolean) (v := 0) hx hb hr (rfl) (fun t ht hW => ⟨⟨_, rfl, 0, (iI (mnI (X5 0).toInt X5 (nN (mn f0)))), (iI (mnI (Y5 0).toInt Y5 (nN (mn f0)))), (iI (mxI (X5 0).toInt X5 (nN (mn f0)))), (iI (mxI (Y5 0).toInt Y5 (nN (mn f0)))), (iI (mnI (X6 0).toInt X6 (nN (mn g0)))), (iI (mnI (Y6 0).toInt Y6 (nN (mn g0)))), (iI (mxI (X6 0).toInt X6 (nN (mn g0)))), (iI (mxI (Y6 0).toInt Y6 (nN (mn g0)))), (jI 0), (jI 1), rfl, by rw [ht]; exact hP9, hD9⟩, hS.F ht⟩) hS.2.2 dX10_isClash_160
          · have c_3 : ¬ c9.toInt = 0 := zc_ne rfl rfl c_3
            refine lv_iconst (v := 1) hx hb dX10_isClash_155 rfl ?_
            refine lv_goto (tgt := 160) hx hb dX10_isClash_156 rfl ?_
            obtain ⟨hP, hD⟩ := pl_bk (X := [_, _, _, _, _, _, _]) hT_1 hP rfl hc9_1 hD0_1 rfl
            obtain ⟨hP9, hD9⟩ := zu_part (cx := [_, _, _, _, _, _, _]) hP hD [true, true, true, true, true, true, true] rfl rfl
            rw [hQ9]
            exact W.zret (ty := .boolean) (v := 1) hx hb hr (rfl) (fun t ht hW => ⟨⟨_, rfl, 1, (iI (mnI (X5 0).toInt X5 (nN (mn f0)))), (iI (mnI (Y5 0).toInt Y5 (nN (mn f0)))), (iI (mxI (X5 0).toInt X5 (nN (mn f0)))), (iI (mxI (Y5 0).toInt Y5 (nN (mn f0)))), (iI (mnI (X6 0).toInt X6 (nN (mn g0)))), (iI (mnI (Y6 0).toInt Y6 (nN (mn g0)))), (iI (mxI (X6 0).toInt X6 (nN (mn g0)))), (iI (mxI (Y6 0).toInt Y6 (nN (mn g0)))), (jI 0), (jI 1), rfl, by rw [ht]; exact hP9, hD9⟩, hS.F ht⟩) hS.2.2 dX10_isClash_160
      · skip
        refine lv_aload_n hx hb dX10_isClash_120 rfl (lv_at hl 5 rfl) ?_
        refine va_get (D := (dC, dI)) (ci := 8) (v := .ref dq) (C := RX10) (T := TX10) (N := 13) hx hb hts inX10 hown hK hP 0 rfl rfl 5 (Nat.le_of_ble_eq_true rfl) (hts _ mw_314) (fun _ h9 => h9) rfl dX10_isClash_121 ?_
        refine lv_aload hx hb dX10_isClash_124 (lv_at hl 2 rfl) ?_
        refine lv_aload hx hb dX10_isClash_126 (lv_at hl 1 rfl) ?_
        obtain ⟨hPc, hDc, hFc⟩ := zo_sub (wc := [_, _, _, _, _, _, _]) hP hD hS hA [4, 9, 10, 11, 17, 18, 19] (by decide +kernel) rfl
        refine zcall (st1 := []) (va_runV (As := [.ref r5, .ref r6]) (rest := []) ⟨hx, hb, hml, hown, hts⟩ (k_Fr_between_n l dC dI cI cZ cF H.size dq y1 y2 r5 rx5 ry5 (nN (mn f0)) cap5 X5 Y5 (rgK (kd f0).toInt) r6 rx6 ry6 (nN (mn g0)) cap6 X6 Y6 (rgK (kd g0).toInt) (by first | with_reducible assumption | omega) (by first | with_reducible assumption | omega) (hp5) (by first | with_reducible assumption | omega) (by first | with_reducible assumption | omega) (hp6) (htc) (by first | with_reducible assumption | omega) (by first | with_reducible assumption | omega) (by rw [prt_eO (rgK_t _) hkn0]; unfold eO; split; omega; split <;> omega) (by rw [prt_eO (rgK_t _) hkng]; unfold eO; split; omega; split <;> omega)) (csV_127 hts rfl rfl ⟨Nat.le_of_ble_eq_true rfl, Nat.le_of_ble_eq_true rfl⟩) (zPV2 (q0 := 0) (ci := 2) hPc hDc hK3 hXN rfl rfl) rfl rfl hl.1 rfl (lv_room (Nat.le_of_ble_eq_true rfl)) dX10_isClash_128 ⟨Nat.le_of_ble_eq_true rfl, Nat.le_of_ble_eq_true rfl⟩) hS hFc hFc rfl (fun t H locs ht hB hk1 hS => ?_)
        obtain ⟨zu7, zd7, him7, hzb7, hP1, hD1⟩ := hB
        rw [ht] at hP1
        obtain ⟨hP, hD⟩ := znQ (W2 := [_, _, _, _, (oc2 dq (jI zu7) (jI zd7)), _, _, _, _, _, _, _, _, _, _, _, _, _, _, _, _, _, _]) hP hD hk1 hFc hP1 hD1 [4, 9, 10, 11, 17, 18, 19] zl_131 zl_131 [4, 9, 10, 11, 17, 18, 19] (by decide +kernel) rfl rfl rfl rfl rfl
        clear hk1 hPc hDc hFc hP1 hD1 ht
        refine lv_aload_n hx hb dX10_isClash_131 rfl (lv_at hl 5 rfl) ?_
        refine va_get (D := (dC, dI)) (ci := 8) (v := .ref dq) (C := RX10) (T := TX10) (N := 13) hx hb hts inX10 hown hK hP 0 rfl rfl 5 (Nat.le_of_ble_eq_true rfl) (hts _ mw_314) (fun _ h9 => h9) rfl dX10_isClash_132 ?_
        refine va_get (D := (dC, dI)) (ci := 2) (v := .long (jI zu7)) (C := RX3) (T := TX3) (N := 2) hx hb hts inX3 hown hK hP 4 rfl rfl 0 (Nat.le_of_ble_eq_true rfl) (hts _ mw_274) (fun _ h9 => h9) rfl dX10_isClash_135 ?_
        refine lv_lconst (v := 0) hx hb dX10_isClash_138 rfl ?_
        refine W.lcmp hx hb dX10_isClash_139 ?_
        refine lv_if_le (tgt := 159) hx hb dX10_isClash_140 rfl (fun c_4 => ?_) (fun c_4 => ?_)
        · have c_4 : zu7 ≤ 0 := zl_le (jI_toInt (by omega)) rfl c_4
          refine lv_iconst (v := 0) hx hb dX10_isClash_159 rfl ?_
          obtain ⟨hP, hD⟩ := pl_bk (X := [_, _, _, _, _, _, _]) hT_1 hP rfl hc9_1 hD0_1 rfl
          obtain ⟨hP9, hD9⟩ := zu_part (cx := [_, _, _, _, _, _, _]) hP hD [true, true, true, true, true, true, true] rfl rfl
          rw [hQ9]
          exact W.zret (ty := .boolean) (v := 0) hx hb hr (rfl) (fun t ht hW => ⟨⟨_, rfl, 0, (iI (mnI (X5 0).toInt X5 (nN (mn f0)))), (iI (mnI (Y5 0).toInt Y5 (nN (mn f0)))), (iI (mxI (X5 0).toInt X5 (nN (mn f0)))), (iI (mxI (Y5 0).toInt Y5 (nN (mn f0)))), (iI (mnI (X6 0).toInt X6 (nN (mn g0)))), (iI (mnI (Y6 0).toInt Y6 (nN (mn g0)))), (iI (mxI (X6 0).toInt X6 (nN (mn g0)))), (iI (mxI (Y6 0).toInt Y6 (nN (mn g0)))), (jI zu7), (jI zd7), rfl, by rw [ht]; exact hP9, hD9⟩, hS.F ht⟩) hS.2.2 dX10_isClash_160
        · have c_4 : 0 < zu7 := zl_nle (jI_toInt (by omega)) rfl c_4
          refine lv_aload_n hx hb dX10_isClash_143 rfl (lv_at hl 5 rfl) ?_
          refine va_get (D := (dC, dI)) (ci := 8) (v := .ref dq) (C := RX10) (T := TX10) (N := 13) hx hb hts inX10 hown hK hP 0 rfl rfl 5 (Nat.le_of_ble_eq_true rfl) (hts _ mw_314) (fun _ h9 => h9) rfl dX10_isClash_144 ?_
          refine lv_iload hx hb dX10_isClash_147 (lv_at hl 0 rfl) ?_
          obtain ⟨hPc, hDc, hFc⟩ := zo_sub (wc := [_]) hP hD hS hA [4] rfl rfl
          refine zcalle (va_runV (As := [.int (((wd f0) + (wd g0)) + (2 * gp9))]) (rest := []) ⟨hx, hb, hml, hown, hts⟩ (k_Fr_isHalfBelow_a l dC dI cI cZ cF H.size dq (jI zu7) (jI zd7) (((wd f0) + (wd g0)) + (2 * gp9)) ) (csV_158 hts rfl rfl ⟨Nat.le_of_ble_eq_true rfl, Nat.le_of_ble_eq_true rfl⟩) (zPV2 (q0 := 0) (ci := 2) hPc hDc hK3 hXN rfl rfl) rfl rfl hl.1 rfl (lv_room (Nat.le_of_ble_eq_true rfl)) dX10_isClash_149 ⟨Nat.le_of_ble_eq_true rfl, Nat.le_of_ble_eq_true rfl⟩) hS hFc hFc (fun v9 t H locs ht hB hk1 hS => ?_)
          obtain ⟨c9, rfl, hP1, hD1⟩ := hB
          refine W.eq (g2 := F0 m 152 ls [.int c9]) rfl ?_
          rw [ht] at hP1
          obtain ⟨hP, hD⟩ := znQ (W2 := [_, _, _, _, _, _, _, _, _, _, _, _, _, _, _, _, _, _, _, _, _, _, _]) hP hD hk1 hFc hP1 hD1 [4] zl_132 zl_132 [4] (by decide +kernel) rfl rfl rfl rfl rfl
          clear hk1 hPc hDc hFc hP1 hD1 ht
          refine lv_if_eq (tgt := 159) hx hb dX10_isClash_152 rfl (fun c_5 => ?_) (fun c_5 => ?_)
          · have c_5 : c9.toInt = 0 := zc_eq rfl rfl c_5
            refine lv_iconst (v := 0) hx hb dX10_isClash_159 rfl ?_
            obtain ⟨hP, hD⟩ := pl_bk (X := [_, _, _, _, _, _, _]) hT_1 hP rfl hc9_1 hD0_1 rfl
            obtain ⟨hP9, hD9⟩ := zu_part (cx := [_, _, _, _, _, _, _]) hP hD [true, true, true, true, true, true, true] rfl rfl
            rw [hQ9]
            exact W.zret (ty := .boolean) (v := 0) hx hb hr (rfl) (fun t ht hW => ⟨⟨_, rfl, 0, (iI (mnI (X5 0).toInt X5 (nN (mn f0)))), (iI (mnI (Y5 0).toInt Y5 (nN (mn f0)))), (iI (mxI (X5 0).toInt X5 (nN (mn f0)))), (iI (mxI (Y5 0).toInt Y5 (nN (mn f0)))), (iI (mnI (X6 0).toInt X6 (nN (mn g0)))), (iI (mnI (Y6 0).toInt Y6 (nN (mn g0)))), (iI (mxI (X6 0).toInt X6 (nN (mn g0)))), (iI (mxI (Y6 0).toInt Y6 (nN (mn g0)))), (jI zu7), (jI zd7), rfl, by rw [ht]; exact hP9, hD9⟩, hS.F ht⟩) hS.2.2 dX10_isClash_160
          · have c_5 : ¬ c9.toInt = 0 := zc_ne rfl rfl c_5
            refine lv_iconst (v := 1) hx hb dX10_isClash_155 rfl ?_
            refine lv_goto (tgt := 160) hx hb dX10_isClash_156 rfl ?_
            obtain ⟨hP, hD⟩ := pl_bk (X := [_, _, _, _, _, _, _]) hT_1 hP rfl hc9_1 hD0_1 rfl
            obtain ⟨hP9, hD9⟩ := zu_part (cx := [_, _, _, _, _, _, _]) hP hD [true, true, true, true, true, true, true] rfl rfl
            rw [hQ9]
            exact W.zret (ty := .boolean) (v := 1) hx hb hr (rfl) (fun t ht hW => ⟨⟨_, rfl, 1, (iI (mnI (X5 0).toInt X5 (nN (mn f0)))), (iI (mnI (Y5 0).toInt Y5 (nN (mn f0)))), (iI (mxI (X5 0).toInt X5 (nN (mn f0)))), (iI (mxI (Y5 0).toInt Y5 (nN (mn f0)))), (iI (mnI (X6 0).toInt X6 (nN (mn g0)))), (iI (mnI (Y6 0).toInt Y6 (nN (mn g0)))), (iI (mxI (X6 0).toInt X6 (nN (mn g0)))), (iI (mxI (Y6 0).toInt Y6 (nN (mn g0)))), (jI zu7), (jI zd7), rfl, by rw [ht]; exact hP9, hD9⟩, hS.F ht⟩) hS.2.2 dX10_isClash_160
    · have c_1 : ((((wd f0) + (wd g0)) + (2 * gp9)) * (((wd f0) + (wd g0)) + (2 * gp9))).toInt ≤ (4 * (iI ((gp (mnI (X5 0).toInt X5 (nN (mn f0))) (mxI (X5 0).toInt X5 (nN (mn f0))) (mnI (X6 0).toInt X6 (nN (mn g0))) (mxI (X6 0).toInt X6 (nN (mn g0)))) * (gp (mnI (X5 0).toInt X5 (nN (mn f0))) (mxI (X5 0).toInt X5 (nN (mn f0))) (mnI (X6 0).toInt X6 (nN (mn g0))) (mxI (X6 0).toInt X6 (nN (mn g0)))) + (gp (mnI (Y5 0).toInt Y5 (nN (mn f0))) (mxI (Y5 0).toInt Y5 (nN (mn f0))) (mnI (Y6 0).toInt Y6 (nN (mn g0))) (mxI (Y6 0).toInt Y6 (nN (mn g0)))) * (gp (mnI (Y5 0).toInt Y5 (nN (mn f0))) (mxI (Y5 0).toInt Y5 (nN (mn f0))) (mnI (Y6 0).toInt Y6 (nN (mn g0))) (mxI (Y6 0).toInt Y6 (nN (mn g0))))))).toInt := zc_nlt rfl rfl c_1
      refine lv_iconst (v := 0) hx hb dX10_isClash_118 rfl ?_
      obtain ⟨hP, hD⟩ := pl_bk (X := [_, _, _, _, _, _, _]) hT_1 hP rfl hc9_1 hD0_1 rfl
      obtain ⟨hP9, hD9⟩ := zu_part (cx := [_, _, _, _, _, _, _]) hP hD [true, true, true, true, true, true, true] rfl rfl
      rw [hQ9]
      exact W.zret (ty := .boolean) (v := 0) hx hb hr (rfl) (fun t ht hW => ⟨⟨_, rfl, 0, (iI (mnI (X5 0).toInt X5 (nN (mn f0)))), (iI (mnI (Y5 0).toInt Y5 (nN (mn f0)))), (iI (mxI (X5 0).toInt X5 (nN (mn f0)))), (iI (mxI (Y5 0).toInt Y5 (nN (mn f0)))), (iI (mnI (X6 0).toInt X6 (nN (mn g0)))), (iI (mnI (Y6 0).toInt Y6 (nN (mn g0)))), (iI (mxI (X6 0).toInt X6 (nN (mn g0)))), (iI (mxI (Y6 0).toInt Y6 (nN (mn g0)))), y1, y2, rfl, by rw [ht]; exact hP9, hD9⟩, hS.F ht⟩) hS.2.2 dX10_isClash_119
  · skip
    refine lv_aload_n hx hb dX10_isClash_0 rfl (lv_at hl 0 rfl) ?_
    rcases vwA_3 (P9 := ((st f0).toInt = 1)) (hva f0 (by omega)) with ⟨ht2, fe2, lk2, lo2, we2, fm2, hFA2, hfe2, hlk2⟩ | ⟨ht2, hA2, fe2, lk2, lo2, we2, fm2, r2, rx2, ry2, cap2, U2, V2, rg2, hFA2, hfe2, hlk2, ⟨hr2, hrx2, hry2, hne2⟩, hrr2⟩ | ⟨ht2, hA2, fe2, lk2, lo2, we2, fm2, r2, rx2, ry2, cap2, U2, V2, rg2, hFA2, hfe2, hlk2, ⟨hr2, hrx2, hry2, hne2⟩, hrr2⟩
    · skip
      refine va_get (D := (dC, dI)) (ci := 8) (v := .ref sh) (C := RX10) (T := TX10) (N := 13) hx hb hts inX10 hown hK hP 0 rfl rfl 0 (Nat.le_of_ble_eq_true rfl) (hts _ mw_309) (fun _ h9 => h9) rfl dX10_isClash_1 ?_
      refine lv_iload_n hx hb dX10_isClash_4 rfl (lv_at hl 1 rfl) ?_
      obtain ⟨hPc, hDc, hFc, hI1⟩ := zi_sub (wc := [_, _]) hP hD hS hA [5, 6] rfl rfl
      refine zcall (st1 := [.ref fe2]) (va_runV (As := [.int (nI f0)]) (rest := []) ⟨hx, hb, hml, hown, hts⟩ (k_Sheet_find l dC dI cI cZ cF s.heap.size sh fa ft FA f0 fe2 (by first | with_reducible assumption | omega) (by first | with_reducible assumption | omega) (by first | exact hFA2 | exact hFA9 f0 (by first | with_reducible assumption | omega))) (csV_94 hts rfl rfl ⟨Nat.le_of_ble_eq_true rfl, Nat.le_of_ble_eq_true rfl⟩) (zPV2 (q0 := 0) (ci := 7) hPc hDc hK3 hXN rfl rfl) rfl rfl hl.1 rfl (lv_room (Nat.le_of_ble_eq_true rfl)) dX10_isClash_5 ⟨Nat.le_of_ble_eq_true rfl, Nat.le_of_ble_eq_true rfl⟩) hS hFc hFc rfl (fun t H locs ht hB hk1 hS => ?_)
      obtain ⟨hP1, hD1⟩ := hB
      rw [ht] at hP1
      replace hP := z0 hP hD hk1 hP1 hI1
      clear hk1 hPc hDc hFc hP1 hD1 ht hI1
      refine lv_astore (lv' := [(4, .ref fe2), (0, .ref x), (1, .int (nI f0)), (2, .int (nI g0)), (3, .int gp9)]) hx hb dX10_isClash_8 hl (Nat.le_of_ble_eq_true rfl) rfl (fun ls hl => ?_)
      rcases vwA_3 (P9 := ((st g0).toInt = 1)) (hva g0 (by omega)) with ⟨ht3, fe3, lk3, lo3, we3, fm3, hFA3, hfe3, hlk3⟩ | ⟨ht3, hA3, fe3, lk3, lo3, we3, fm3, r3, rx3, ry3, cap3, U3, V3, rg3, hFA3, hfe3, hlk3, ⟨hr3, hrx3, hry3, hne3⟩, hrr3⟩ | ⟨ht3, hA3, fe3, lk3, lo3, we3, fm3, r3, rx3, ry3, cap3, U3, V3, rg3, hFA3, hfe3, hlk3, ⟨hr3, hrx3, hry3, hne3⟩, hrr3⟩
      · skip
        refine lv_aload_n hx hb dX10_isClash_10 rfl (lv_at hl 1 rfl) ?_
        refine va_get (D := (dC, dI)) (ci := 8) (v := .ref sh) (C := RX10) (T := TX10) (N := 13) hx hb hts inX10 hown hK hP 0 rfl rfl 0 (Nat.le_of_ble_eq_true rfl) (hts _ mw_309) (fun _ h9 => h9) rfl dX10_isClash_11 ?_
        refine lv_iload_n hx hb dX10_isClash_14 rfl (lv_at hl 3 rfl) ?_
        obtain ⟨hPc, hDc, hFc, hI1⟩ := zi_sub (wc := [_, _]) hP hD hS hA [5, 6] rfl rfl
        refine zcall (st1 := [.ref fe3]) (va_runV (As := [.int (nI g0)]) (rest := []) ⟨hx, hb, hml, hown, hts⟩ (k_Sheet_find l dC dI cI cZ cF H.size sh fa ft FA g0 fe3 (by first | with_reducible assumption | omega) (by first | with_reducible assumption | omega) (by first | exact hFA3 | exact hFA9 g0 (by first | with_reducible assumption | omega))) (csV_94 hts rfl rfl ⟨Nat.le_of_ble_eq_true rfl, Nat.le_of_ble_eq_true rfl⟩) (zPV2 (q0 := 0) (ci := 7) hPc hDc hK3 hXN rfl rfl) rfl rfl hl.1 rfl (lv_room (Nat.le_of_ble_eq_true rfl)) dX10_isClash_15 ⟨Nat.le_of_ble_eq_true rfl, Nat.le_of_ble_eq_true rfl⟩) hS hFc hFc rfl (fun t H locs ht hB hk1 hS => ?_)
        obtain ⟨hP1, hD1⟩ := hB
        rw [ht] at hP1
        replace hP := z0 hP hD hk1 hP1 hI1
        clear hk1 hPc hDc hFc hP1 hD1 ht hI1
        refine lv_astore (lv' := [(5, .ref fe3), (4, .ref fe2), (0, .ref x), (1, .int (nI f0)), (2, .int (nI g0)), (3, .int gp9)]) hx hb dX10_isClash_18 hl (Nat.le_of_ble_eq_true rfl) rfl (fun ls hl => ?_)
        refine lv_aload_n hx hb dX10_isClash_20 rfl (lv_at hl 2 rfl) ?_
        refine va_get (D := (dC, dI)) (ci := 8) (v := .ref sh) (C := RX10) (T := TX10) (N := 13) hx hb hts inX10 hown hK hP 0 rfl rfl 0 (Nat.le_of_ble_eq_true rfl) (hts _ mw_309) (fun _ h9 => h9) rfl dX10_isClash_21 ?_
        have hc9_1 : inPl L f [(oc1 fe2 (rk f0) (wd f0) (tw f0) (pa f0) (pb f0) (.ref lo2) (.ref lk2) fm2), (oc4 lk2 (kd f0) (st f0) .null (gb f0) (it f0) we2)] := ⟨hfe2, hlk2, trivial⟩
        have hD0_1 := hD
        obtain ⟨T_1, hT_1, hP, hD⟩ := pl_oT hP hD hc9_1 (pwF hfe2.2 hlk2.2)
        obtain ⟨hP, hD⟩ := zre (W2 := ([_, _, _, _, _, _, _, _, _] ++ va_pl T_1 f)) hP hD rfl
        refine lv_iload_n hx hb dX10_isClash_24 rfl (lv_at hl 3 rfl) ?_
        obtain ⟨hPc, hDc, hFc, hI1⟩ := zi_sub (wc := [_, _, _, _]) hP hD hS hA [5, 6, 7, 8] (by decide +kernel) rfl
        refine zcall (st1 := [.null]) (va_runV (As := [.int (nI f0)]) (rest := []) ⟨hx, hb, hml, hown, hts⟩ (k_Sheet_rowThere_tv l dC dI cI cZ cF H.size sh fa ft FA f0 fe2 lo2 (rk f0) (wd f0) (tw f0) (pa f0) (pb f0) lk2 (kd f0) (st f0) (gb f0) (it f0) we2 fm2 (by first | with_reducible assumption | omega) (by first | with_reducible assumption | omega) (by first | exact hFA2 | exact hFA9 f0 (by first | with_reducible assumption | omega))) (csV_144 hts rfl rfl ⟨Nat.le_of_ble_eq_true rfl, Nat.le_of_ble_eq_true rfl⟩) (zPV2 (q0 := 0) (ci := 7) hPc hDc hK3 hXN rfl rfl) rfl rfl hl.1 rfl (lv_room (Nat.le_of_ble_eq_true rfl)) dX10_isClash_25 ⟨Nat.le_of_ble_eq_true rfl, Nat.le_of_ble_eq_true rfl⟩) hS hFc hFc rfl (fun t H locs ht hB hk1 hS => ?_)
        obtain ⟨hP1, hD1⟩ := hB
        rw [ht] at hP1
        replace hP := z0 hP hD hk1 hP1 hI1
        clear hk1 hPc hDc hFc hP1 hD1 ht hI1
        obtain ⟨hP, hD⟩ := pl_bk (X := [_, _, _, _, _, _, _]) hT_1 hP rfl hc9_1 hD0_1 rfl
        refine lv_astoreN (lv' := [(6, .null), (5, .ref fe3), (4, .ref fe2), (0, .ref x), (1, .int (nI f0)), (2, .int (nI g0)), (3, .int gp9)]) hx hb dX10_isClash_28 hl (Nat.le_of_ble_eq_true rfl) rfl (fun ls hl => ?_)
        refine lv_aload_n hx hb dX10_isClash_30 rfl (lv_at hl 3 rfl) ?_
        refine va_get (D := (dC, dI)) (ci := 8) (v := .ref sh) (C := RX10) (T := TX10) (N := 13) hx hb hts inX10 hown hK hP 0 rfl rfl 0 (Nat.le_of_ble_eq_true rfl) (hts _ mw_309) (fun _ h9 => h9) rfl dX10_isClash_31 ?_
        have hc9_2 : inPl L f [(oc1 fe3 (rk g0) (wd g0) (tw g0) (pa g0) (pb g0) (.ref lo3) (.ref lk3) fm3), (oc4 lk3 (kd g0) (st g0) .null (gb g0) (it g0) we3)] := ⟨hfe3, hlk3, trivial⟩
        have hD0_2 := hD
        obtain ⟨T_2, hT_2, hP, hD⟩ := pl_oT hP hD hc9_2 (pwF hfe3.2 hlk3.2)
        obtain ⟨hP, hD⟩ := zre (W2 := ([_, _, _, _, _, _, _, _, _] ++ va_pl T_2 f)) hP hD rfl
        refine lv_iload_n hx hb dX10_isClash_34 rfl (lv_at hl 5 rfl) ?_
        obtain ⟨hPc, hDc, hFc, hI1⟩ := zi_sub (wc := [_, _, _, _]) hP hD hS hA [5, 6, 7, 8] (by decide +kernel) rfl
        refine zcall (st1 := [.null]) (va_runV (As := [.int (nI g0)]) (rest := []) ⟨hx, hb, hml, hown, hts⟩ (k_Sheet_rowThere_tv l dC dI cI cZ cF H.size sh fa ft FA g0 fe3 lo3 (rk g0) (wd g0) (tw g0) (pa g0) (pb g0) lk3 (kd g0) (st g0) (gb g0) (it g0) we3 fm3 (by first | with_reducible assumption | omega) (by first | with_reducible assumption | omega) (by first | exact hFA3 | exact hFA9 g0 (by first | with_reducible assumption | omega))) (csV_144 hts rfl rfl ⟨Nat.le_of_ble_eq_true rfl, Nat.le_of_ble_eq_true rfl⟩) (zPV2 (q0 := 0) (ci := 7) hPc hDc hK3 hXN rfl rfl) rfl rfl hl.1 rfl (lv_room (Nat.le_of_ble_eq_true rfl)) dX10_isClash_35 ⟨Nat.le_of_ble_eq_true rfl, Nat.le_of_ble_eq_true rfl⟩) hS hFc hFc rfl (fun t H locs ht hB hk1 hS => ?_)
        obtain ⟨hP1, hD1⟩ := hB
        rw [ht] at hP1
        replace hP := z0 hP hD hk1 hP1 hI1
        clear hk1 hPc hDc hFc hP1 hD1 ht hI1
        obtain ⟨hP, hD⟩ := pl_bk (X := [_, _, _, _, _, _, _]) hT_2 hP rfl hc9_2 hD0_2 rfl
        refine lv_astoreN (lv' := [(7, .null), (6, .null), (5, .ref fe3), (4, .ref fe2), (0, .ref x), (1, .int (nI f0)), (2, .int (nI g0)), (3, .int gp9)]) hx hb dX10_isClash_38 hl (Nat.le_of_ble_eq_true rfl) rfl (fun ls hl => ?_)
        refine lv_aload hx hb dX10_isClash_40 (lv_at hl 3 rfl) ?_
        refine lv_ifnull hx hb dX10_isClash_42 ?_
        refine lv_aload hx hb dX10_isClash_45 (lv_at hl 2 rfl) ?_
        refine lv_ifnull hx hb dX10_isClash_47 ?_
        refine lv_aloadN hx hb dX10_isClash_50 (lv_at hl 1 rfl) ?_
        refine lv_ifnullN (tgt := 60) hx hb dX10_isClash_52 rfl ?_
        refine lv_iconst (v := 0) hx hb dX10_isClash_60 rfl ?_
        obtain ⟨hP9, hD9⟩ := zu_part (cx := [_, _, _, _, _, _, _]) hP hD [true, true, true, true, true, true, true] rfl rfl
        rw [hQ9]
        exact W.zret (ty := .boolean) (v := 0) hx hb hr (rfl) (fun t ht hW => ⟨⟨_, rfl, 0, c1, c2, c3, c4, a1, a2, a3, a4, y1, y2, rfl, by rw [ht]; exact hP9, hD9⟩, hS.F ht⟩) hS.2.2 dX10_isClash_61
      · skip
        refine lv_aload_n hx hb dX10_isClash_10 rfl (lv_at hl 1 rfl) ?_
        refine va_get (D := (dC, dI)) (ci := 8) (v := .ref sh) (C := RX10) (T := TX10) (N := 13) hx hb hts inX10 hown hK hP 0 rfl rfl 0 (Nat.le_of_ble_eq_true rfl) (hts _ mw_309) (fun _ h9 => h9) rfl dX10_isClash_11 ?_
        refine lv_iload_n hx hb dX10_isClash_14 rfl (lv_at hl 3 rfl) ?_
        obtain ⟨hPc, hDc, hFc, hI1⟩ := zi_sub (wc := [_, _]) hP hD hS hA [5, 6] rfl rfl
        refine zcall (st1 := [.ref fe3]) (va_runV (As := [.int (nI g0)]) (rest := []) ⟨hx, hb, hml, hown, hts⟩ (k_Sheet_find l dC dI cI cZ cF H.size sh fa ft FA g0 fe3 (by first | with_reducible assumption | omega) (by first | with_reducible assumption | omega) (by first | exact hFA3 | exact hFA9 g0 (by first | with_reducible assumption | omega))) (csV_94 hts rfl rfl ⟨Nat.le_of_ble_eq_true rfl, Nat.le_of_ble_eq_true rfl⟩) (zPV2 (q0 := 0) (ci := 7) hPc hDc hK3 hXN rfl rfl) rfl rfl hl.1 rfl (lv_room (Nat.le_of_ble_eq_true rfl)) dX10_isClash_15 ⟨Nat.le_of_ble_eq_true rfl, Nat.le_of_ble_eq_true rfl⟩) hS hFc hFc rfl (fun t H locs ht hB hk1 hS => ?_)
        obtain ⟨hP1, hD1⟩ := hB
        rw [ht] at hP1
        replace hP := z0 hP hD hk1 hP1 hI1
        clear hk1 hPc hDc hFc hP1 hD1 ht hI1
        refine lv_astore (lv' := [(5, .ref fe3), (4, .ref fe2), (0, .ref x), (1, .int (nI f0)), (2, .int (nI g0)), (3, .int gp9)]) hx hb dX10_isClash_18 hl (Nat.le_of_ble_eq_true rfl) rfl (fun ls hl => ?_)
        refine lv_aload_n hx hb dX10_isClash_20 rfl (lv_at hl 2 rfl) ?_
        refine va_get (D := (dC, dI)) (ci := 8) (v := .ref sh) (C := RX10) (T := TX10) (N := 13) hx hb hts inX10 hown hK hP 0 rfl rfl 0 (Nat.le_of_ble_eq_true rfl) (hts _ mw_309) (fun _ h9 => h9) rfl dX10_isClash_21 ?_
        have hc9_1 : inPl L f [(oc1 fe2 (rk f0) (wd f0) (tw f0) (pa f0) (pb f0) (.ref lo2) (.ref lk2) fm2), (oc4 lk2 (kd f0) (st f0) .null (gb f0) (it f0) we2)] := ⟨hfe2, hlk2, trivial⟩
        have hD0_1 := hD
        obtain ⟨T_1, hT_1, hP, hD⟩ := pl_oT hP hD hc9_1 (pwF hfe2.2 hlk2.2)
        obtain ⟨hP, hD⟩ := zre (W2 := ([_, _, _, _, _, _, _, _, _] ++ va_pl T_1 f)) hP hD rfl
        refine lv_iload_n hx hb dX10_isClash_24 rfl (lv_at hl 3 rfl) ?_
        obtain ⟨hPc, hDc, hFc, hI1⟩ := zi_sub (wc := [_, _, _, _]) hP hD hS hA [5, 6, 7, 8] (by decide +kernel) rfl
        refine zcall (st1 := [.null]) (va_runV (As := [.int (nI f0)]) (rest := []) ⟨hx, hb, hml, hown, hts⟩ (k_Sheet_rowThere_tv l dC dI cI cZ cF H.size sh fa ft FA f0 fe2 lo2 (rk f0) (wd f0) (tw f0) (pa f0) (pb f0) lk2 (kd f0) (st f0) (gb f0) (it f0) we2 fm2 (by first | with_reducible assumption | omega) (by first | with_reducible assumption | omega) (by first | exact hFA2 | exact hFA9 f0 (by first | with_reducible assumption | omega))) (csV_144 hts rfl rfl ⟨Nat.le_of_ble_eq_true rfl, Nat.le_of_ble_eq_true rfl⟩) (zPV2 (q0 := 0) (ci := 7) hPc hDc hK3 hXN rfl rfl) rfl rfl hl.1 rfl (lv_room (Nat.le_of_ble_eq_true rfl)) dX10_isClash_25 ⟨Nat.le_of_ble_eq_true rfl, Nat.le_of_ble_eq_true rfl⟩) hS hFc hFc rfl (fun t H locs ht hB hk1 hS => ?_)
        obtain ⟨hP1, hD1⟩ := hB
        rw [ht] at hP1
        replace hP := z0 hP hD hk1 hP1 hI1
        clear hk1 hPc hDc hFc hP1 hD1 ht hI1
        obtain ⟨hP, hD⟩ := pl_bk (X := [_, _, _, _, _, _, _]) hT_1 hP rfl hc9_1 hD0_1 rfl
        refine lv_astoreN (lv' := [(6, .null), (5, .ref fe3), (4, .ref fe2), (0, .ref x), (1, .int (nI f0)), (2, .int (nI g0)), (3, .int gp9)]) hx hb dX10_isClash_28 hl (Nat.le_of_ble_eq_true rfl) rfl (fun ls hl => ?_)
        refine lv_aload_n hx hb dX10_isClash_30 rfl (lv_at hl 3 rfl) ?_
        refine va_get (D := (dC, dI)) (ci := 8) (v := .ref sh) (C := RX10) (T := TX10) (N := 13) hx hb hts inX10 hown hK hP 0 rfl rfl 0 (Nat.le_of_ble_eq_true rfl) (hts _ mw_309) (fun _ h9 => h9) rfl dX10_isClash_31 ?_
        have hc9_2 : inPl L f [(oc1 fe3 (rk g0) (wd g0) (tw g0) (pa g0) (pb g0) (.ref lo3) (.ref lk3) fm3), (oc4 lk3 (kd g0) (st g0) (.ref r3) (gb g0) (it g0) we3)] := ⟨hfe3, hlk3, trivial⟩
        have hD0_2 := hD
        obtain ⟨T_2, hT_2, hP, hD⟩ := pl_oT hP hD hc9_2 (pwF hfe3.2 hlk3.2)
        obtain ⟨hP, hD⟩ := zre (W2 := ([_, _, _, _, _, _, _, _, _] ++ va_pl T_2 f)) hP hD rfl
        refine lv_iload_n hx hb dX10_isClash_34 rfl (lv_at hl 5 rfl) ?_
        obtain ⟨hPc, hDc, hFc, hI1⟩ := zi_sub (wc := [_, _, _, _]) hP hD hS hA [5, 6, 7, 8] (by decide +kernel) rfl
        refine zcall (st1 := [.ref r3]) (va_runV (As := [.int (nI g0)]) (rest := []) ⟨hx, hb, hml, hown, hts⟩ (k_Sheet_rowThere_yv l dC dI cI cZ cF H.size sh fa ft FA g0 fe3 lo3 (rk g0) (wd g0) (tw g0) (pa g0) (pb g0) lk3 (kd g0) (st g0) (gb g0) (it g0) we3 r3 fm3 (by first | with_reducible assumption | omega) (by first | with_reducible assumption | omega) (by first | exact hFA3 | exact hFA9 g0 (by first | with_reducible assumption | omega)) (by first | exact hsg | exact hA3 | omega)) (csV_144 hts rfl rfl ⟨Nat.le_of_ble_eq_true rfl, Nat.le_of_ble_eq_true rfl⟩) (zPV2 (q0 := 0) (ci := 7) hPc hDc hK3 hXN rfl rfl) rfl rfl hl.1 rfl (lv_room (Nat.le_of_ble_eq_true rfl)) dX10_isClash_35 ⟨Nat.le_of_ble_eq_true rfl, Nat.le_of_ble_eq_true rfl⟩) hS hFc hFc rfl (fun t H locs ht hB hk1 hS => ?_)
        obtain ⟨hP1, hD1⟩ := hB
        rw [ht] at hP1
        replace hP := z0 hP hD hk1 hP1 hI1
        clear hk1 hPc hDc hFc hP1 hD1 ht hI1
        obtain ⟨hP, hD⟩ := pl_bk (X := [_, _, _, _, _, _, _]) hT_2 hP rfl hc9_2 hD0_2 rfl
        refine lv_astore (lv' := [(7, .ref r3), (6, .null), (5, .ref fe3), (4, .ref fe2), (0, .ref x), (1, .int (nI f0)), (2, .int (nI g0)), (3, .int gp9)]) hx hb dX10_isClash_38 hl (Nat.le_of_ble_eq_true rfl) rfl (fun ls hl => ?_)
        refine lv_aload hx hb dX10_isClash_40 (lv_at hl 3 rfl) ?_
        refine lv_ifnull hx hb dX10_isClash_42 ?_
        refine lv_aload hx hb dX10_isClash_45 (lv_at hl 2 rfl) ?_
        refine lv_ifnull hx hb dX10_isClash_47 ?_
        refine lv_aloadN hx hb dX10_isClash_50 (lv_at hl 1 rfl) ?_
        refine lv_ifnullN (tgt := 60) hx hb dX10_isClash_52 rfl ?_
        refine lv_iconst (v := 0) hx hb dX10_isClash_60 rfl ?_
        obtain ⟨hP9, hD9⟩ := zu_part (cx := [_, _, _, _, _, _, _]) hP hD [true, true, true, true, true, true, true] rfl rfl
        rw [hQ9]
        exact W.zret (ty := .boolean) (v := 0) hx hb hr (rfl) (fun t ht hW => ⟨⟨_, rfl, 0, c1, c2, c3, c4, a1, a2, a3, a4, y1, y2, rfl, by rw [ht]; exact hP9, hD9⟩, hS.F ht⟩) hS.2.2 dX10_isClash_61
      · skip
        refine lv_aload_n hx hb dX10_isClash_10 rfl (lv_at hl 1 rfl) ?_
        refine va_get (D := (dC, dI)) (ci := 8) (v := .ref sh) (C := RX10) (T := TX10) (N := 13) hx hb hts inX10 hown hK hP 0 rfl rfl 0 (Nat.le_of_ble_eq_true rfl) (hts _ mw_309) (fun _ h9 => h9) rfl dX10_isClash_11 ?_
        refine lv_iload_n hx hb dX10_isClash_14 rfl (lv_at hl 3 rfl) ?_
        obtain ⟨hPc, hDc, hFc, hI1⟩ := zi_sub (wc := [_, _]) hP hD hS hA [5, 6] rfl rfl
        refine zcall (st1 := [.ref fe3]) (va_runV (As := [.int (nI g0)]) (rest := []) ⟨hx, hb, hml, hown, hts⟩ (k_Sheet_find l dC dI cI cZ cF H.size sh fa ft FA g0 fe3 (by first | with_reducible assumption | omega) (by first | with_reducible assumption | omega) (by first | exact hFA3 | exact hFA9 g0 (by first | with_reducible assumption | omega))) (csV_94 hts rfl rfl ⟨Nat.le_of_ble_eq_true rfl, Nat.le_of_ble_eq_true rfl⟩) (zPV2 (q0 := 0) (ci := 7) hPc hDc hK3 hXN rfl rfl) rfl rfl hl.1 rfl (lv_room (Nat.le_of_ble_eq_true rfl)) dX10_isClash_15 ⟨Nat.le_of_ble_eq_true rfl, Nat.le_of_ble_eq_true rfl⟩) hS hFc hFc rfl (fun t H locs ht hB hk1 hS => ?_)
        obtain ⟨hP1, hD1⟩ := hB
        rw [ht] at hP1
        replace hP := z0 hP hD hk1 hP1 hI1
        clear hk1 hPc hDc hFc hP1 hD1 ht hI1
        refine lv_astore (lv' := [(5, .ref fe3), (4, .ref fe2), (0, .ref x), (1, .int (nI f0)), (2, .int (nI g0)), (3, .int gp9)]) hx hb dX10_isClash_18 hl (Nat.le_of_ble_eq_true rfl) rfl (fun ls hl => ?_)
        refine lv_aload_n hx hb dX10_isClash_20 rfl (lv_at hl 2 rfl) ?_
        refine va_get (D := (dC, dI)) (ci := 8) (v := .ref sh) (C := RX10) (T := TX10) (N := 13) hx hb hts inX10 hown hK hP 0 rfl rfl 0 (Nat.le_of_ble_eq_true rfl) (hts _ mw_309) (fun _ h9 => h9) rfl dX10_isClash_21 ?_
        have hc9_1 : inPl L f [(oc1 fe2 (rk f0) (wd f0) (tw f0) (pa f0) (pb f0) (.ref lo2) (.ref lk2) fm2), (oc4 lk2 (kd f0) (st f0) .null (gb f0) (it f0) we2)] := ⟨hfe2, hlk2, trivial⟩
        have hD0_1 := hD
        obtain ⟨T_1, hT_1, hP, hD⟩ := pl_oT hP hD hc9_1 (pwF hfe2.2 hlk2.2)
        obtain ⟨hP, hD⟩ := zre (W2 := ([_, _, _, _, _, _, _, _, _] ++ va_pl T_1 f)) hP hD rfl
        refine lv_iload_n hx hb dX10_isClash_24 rfl (lv_at hl 3 rfl) ?_
        obtain ⟨hPc, hDc, hFc, hI1⟩ := zi_sub (wc := [_, _, _, _]) hP hD hS hA [5, 6, 7, 8] (by decide +kernel) rfl
        refine zcall (st1 := [.null]) (va_runV (As := [.int (nI f0)]) (rest := []) ⟨hx, hb, hml, hown, hts⟩ (k_Sheet_rowThere_tv l dC dI cI cZ cF H.size sh fa ft FA f0 fe2 lo2 (rk f0) (wd f0) (tw f0) (pa f0) (pb f0) lk2 (kd f0) (st f0) (gb f0) (it f0) we2 fm2 (by first | with_reducible assumption | omega) (by first | with_reducible assumption | omega) (by first | exact hFA2 | exact hFA9 f0 (by first | with_reducible assumption | omega))) (csV_144 hts rfl rfl ⟨Nat.le_of_ble_eq_true rfl, Nat.le_of_ble_eq_true rfl⟩) (zPV2 (q0 := 0) (ci := 7) hPc hDc hK3 hXN rfl rfl) rfl rfl hl.1 rfl (lv_room (Nat.le_of_ble_eq_true rfl)) dX10_isClash_25 ⟨Nat.le_of_ble_eq_true rfl, Nat.le_of_ble_eq_true rfl⟩) hS hFc hFc rfl (fun t H locs ht hB hk1 hS => ?_)
        obtain ⟨hP1, hD1⟩ := hB
        rw [ht] at hP1
        replace hP := z0 hP hD hk1 hP1 hI1
        clear hk1 hPc hDc hFc hP1 hD1 ht hI1
        obtain ⟨hP, hD⟩ := pl_bk (X := [_, _, _, _, _, _, _]) hT_1 hP rfl hc9_1 hD0_1 rfl
        refine lv_astoreN (lv' := [(6, .null), (5, .ref fe3), (4, .ref fe2), (0, .ref x), (1, .int (nI f0)), (2, .int (nI g0)), (3, .int gp9)]) hx hb dX10_isClash_28 hl (Nat.le_of_ble_eq_true rfl) rfl (fun ls hl => ?_)
        refine lv_aload_n hx hb dX10_isClash_30 rfl (lv_at hl 3 rfl) ?_
        refine va_get (D := (dC, dI)) (ci := 8) (v := .ref sh) (C := RX10) (T := TX10) (N := 13) hx hb hts inX10 hown hK hP 0 rfl rfl 0 (Nat.le_of_ble_eq_true rfl) (hts _ mw_309) (fun _ h9 => h9) rfl dX10_isClash_31 ?_
        have hc9_2 : inPl L f [(oc1 fe3 (rk g0) (wd g0) (tw g0) (pa g0) (pb g0) (.ref lo3) (.ref lk3) fm3), (oc4 lk3 (kd g0) (st g0) (.ref r3) (gb g0) (it g0) we3)] := ⟨hfe3, hlk3, trivial⟩
        have hD0_2 := hD
        obtain ⟨T_2, hT_2, hP, hD⟩ := pl_oT hP hD hc9_2 (pwF hfe3.2 hlk3.2)
        obtain ⟨hP, hD⟩ := zre (W2 := ([_, _, _, _, _, _, _, _, _] ++ va_pl T_2 f)) hP hD rfl
        refine lv_iload_n hx hb dX10_isClash_34 rfl (lv_at hl 5 rfl) ?_
        obtain ⟨hPc, hDc, hFc, hI1⟩ := zi_sub (wc := [_, _, _, _]) hP hD hS hA [5, 6, 7, 8] (by decide +kernel) rfl
        refine zcall (st1 := [.null]) (va_runV (As := [.int (nI g0)]) (rest := []) ⟨hx, hb, hml, hown, hts⟩ (k_Sheet_rowThere_sv l dC dI cI cZ cF H.size sh fa ft FA g0 fe3 lo3 (rk g0) (wd g0) (tw g0) (pa g0) (pb g0) lk3 (kd g0) (st g0) (gb g0) (it g0) we3 fm3 (.ref r3) (by first | with_reducible assumption | omega) (by first | with_reducible assumption | omega) (by first | exact hFA3 | exact hFA9 g0 (by first | with_reducible assumption | omega)) (by first | exact hsg | exact hA3 | omega)) (csV_144 hts rfl rfl ⟨Nat.le_of_ble_eq_true rfl, Nat.le_of_ble_eq_true rfl⟩) (zPV2 (q0 := 0) (ci := 7) hPc hDc hK3 hXN rfl rfl) rfl rfl hl.1 rfl (lv_room (Nat.le_of_ble_eq_true rfl)) dX10_isClash_35 ⟨Nat.le_of_ble_eq_true rfl, Nat.le_of_ble_eq_true rfl⟩) hS hFc hFc rfl (fun t H locs ht hB hk1 hS => ?_)
        obtain ⟨hP1, hD1⟩ := hB
        rw [ht] at hP1
        replace hP := z0 hP hD hk1 hP1 hI1
        clear hk1 hPc hDc hFc hP1 hD1 ht hI1
        obtain ⟨hP, hD⟩ := pl_bk (X := [_, _, _, _, _, _, _]) hT_2 hP rfl hc9_2 hD0_2 rfl
        refine lv_astoreN (lv' := [(7, .null), (6, .null), (5, .ref fe3), (4, .ref fe2), (0, .ref x), (1, .int (nI f0)), (2, .int (nI g0)), (3, .int gp9)]) hx hb dX10_isClash_38 hl (Nat.le_of_ble_eq_true rfl) rfl (fun ls hl => ?_)
        refine lv_aload hx hb dX10_isClash_40 (lv_at hl 3 rfl) ?_
        refine lv_ifnull hx hb dX10_isClash_42 ?_
        refine lv_aload hx hb dX10_isClash_45 (lv_at hl 2 rfl) ?_
        refine lv_ifnull hx hb dX10_isClash_47 ?_
        refine lv_aloadN hx hb dX10_isClash_50 (lv_at hl 1 rfl) ?_
        refine lv_ifnullN (tgt := 60) hx hb dX10_isClash_52 rfl ?_
        refine lv_iconst (v := 0) hx hb dX10_isClash_60 rfl ?_
        obtain ⟨hP9, hD9⟩ := zu_part (cx := [_, _, _, _, _, _, _]) hP hD [true, true, true, true, true, true, true] rfl rfl
        rw [hQ9]
        exact W.zret (ty := .boolean) (v := 0) hx hb hr (rfl) (fun t ht hW => ⟨⟨_, rfl, 0, c1, c2, c3, c4, a1, a2, a3, a4, y1, y2, rfl, by rw [ht]; exact hP9, hD9⟩, hS.F ht⟩) hS.2.2 dX10_isClash_61
    · skip
      refine va_get (D := (dC, dI)) (ci := 8) (v := .ref sh) (C := RX10) (T := TX10) (N := 13) hx hb hts inX10 hown hK hP 0 rfl rfl 0 (Nat.le_of_ble_eq_true rfl) (hts _ mw_309) (fun _ h9 => h9) rfl dX10_isClash_1 ?_
      refine lv_iload_n hx hb dX10_isClash_4 rfl (lv_at hl 1 rfl) ?_
      obtain ⟨hPc, hDc, hFc, hI1⟩ := zi_sub (wc := [_, _]) hP hD hS hA [5, 6] rfl rfl
      refine zcall (st1 := [.ref fe2]) (va_runV (As := [.int (nI f0)]) (rest := []) ⟨hx, hb, hml, hown, hts⟩ (k_Sheet_find l dC dI cI cZ cF s.heap.size sh fa ft FA f0 fe2 (by first | with_reducible assumption | omega) (by first | with_reducible assumption | omega) (by first | exact hFA2 | exact hFA9 f0 (by first | with_reducible assumption | omega))) (csV_94 hts rfl rfl ⟨Nat.le_of_ble_eq_true rfl, Nat.le_of_ble_eq_true rfl⟩) (zPV2 (q0 := 0) (ci := 7) hPc hDc hK3 hXN rfl rfl) rfl rfl hl.1 rfl (lv_room (Nat.le_of_ble_eq_true rfl)) dX10_isClash_5 ⟨Nat.le_of_ble_eq_true rfl, Nat.le_of_ble_eq_true rfl⟩) hS hFc hFc rfl (fun t H locs ht hB hk1 hS => ?_)
      obtain ⟨hP1, hD1⟩ := hB
      rw [ht] at hP1
      replace hP := z0 hP hD hk1 hP1 hI1
      clear hk1 hPc hDc hFc hP1 hD1 ht hI1
      refine lv_astore (lv' := [(4, .ref fe2), (0, .ref x), (1, .int (nI f0)), (2, .int (nI g0)), (3, .int gp9)]) hx hb dX10_isClash_8 hl (Nat.le_of_ble_eq_true rfl) rfl (fun ls hl => ?_)
      rcases vwA_3 (P9 := ((st g0).toInt = 1)) (hva g0 (by omega)) with ⟨ht3, fe3, lk3, lo3, we3, fm3, hFA3, hfe3, hlk3⟩ | ⟨ht3, hA3, fe3, lk3, lo3, we3, fm3, r3, rx3, ry3, cap3, U3, V3, rg3, hFA3, hfe3, hlk3, ⟨hr3, hrx3, hry3, hne3⟩, hrr3⟩ | ⟨ht3, hA3, fe3, lk3, lo3, we3, fm3, r3, rx3, ry3, cap3, U3, V3, rg3, hFA3, hfe3, hlk3, ⟨hr3, hrx3, hry3, hne3⟩, hrr3⟩
      · skip
        refine lv_aload_n hx hb dX10_isClash_10 rfl (lv_at hl 1 rfl) ?_
        refine va_get (D := (dC, dI)) (ci := 8) (v := .ref sh) (C := RX10) (T := TX10) (N := 13) hx hb hts inX10 hown hK hP 0 rfl rfl 0 (Nat.le_of_ble_eq_true rfl) (hts _ mw_309) (fun _ h9 => h9) rfl dX10_isClash_11 ?_
        refine lv_iload_n hx hb dX10_isClash_14 rfl (lv_at hl 3 rfl) ?_
        obtain ⟨hPc, hDc, hFc, hI1⟩ := zi_sub (wc := [_, _]) hP hD hS hA [5, 6] rfl rfl
        refine zcall (st1 := [.ref fe3]) (va_runV (As := [.int (nI g0)]) (rest := []) ⟨hx, hb, hml, hown, hts⟩ (k_Sheet_find l dC dI cI cZ cF H.size sh fa ft FA g0 fe3 (by first | with_reducible assumption | omega) (by first | with_reducible assumption | omega) (by first | exact hFA3 | exact hFA9 g0 (by first | with_reducible assumption | omega))) (csV_94 hts rfl rfl ⟨Nat.le_of_ble_eq_true rfl, Nat.le_of_ble_eq_true rfl⟩) (zPV2 (q0 := 0) (ci := 7) hPc hDc hK3 hXN rfl rfl) rfl rfl hl.1 rfl (lv_room (Nat.le_of_ble_eq_true rfl)) dX10_isClash_15 ⟨Nat.le_of_ble_eq_true rfl, Nat.le_of_ble_eq_true rfl⟩) hS hFc hFc rfl (fun t H locs ht hB hk1 hS => ?_)
        obtain ⟨hP1, hD1⟩ := hB
        rw [ht] at hP1
        replace hP := z0 hP hD hk1 hP1 hI1
        clear hk1 hPc hDc hFc hP1 hD1 ht hI1
        refine lv_astore (lv' := [(5, .ref fe3), (4, .ref fe2), (0, .ref x), (1, .int (nI f0)), (2, .int (nI g0)), (3, .int gp9)]) hx hb dX10_isClash_18 hl (Nat.le_of_ble_eq_true rfl) rfl (fun ls hl => ?_)
        refine lv_aload_n hx hb dX10_isClash_20 rfl (lv_at hl 2 rfl) ?_
        refine va_get (D := (dC, dI)) (ci := 8) (v := .ref sh) (C := RX10) (T := TX10) (N := 13) hx hb hts inX10 hown hK hP 0 rfl rfl 0 (Nat.le_of_ble_eq_true rfl) (hts _ mw_309) (fun _ h9 => h9) rfl dX10_isClash_21 ?_
        have hc9_1 : inPl L f [(oc1 fe2 (rk f0) (wd f0) (tw f0) (pa f0) (pb f0) (.ref lo2) (.ref lk2) fm2), (oc4 lk2 (kd f0) (st f0) (.ref r2) (gb f0) (it f0) we2)] := ⟨hfe2, hlk2, trivial⟩
        have hD0_1 := hD
        obtain ⟨T_1, hT_1, hP, hD⟩ := pl_oT hP hD hc9_1 (pwF hfe2.2 hlk2.2)
        obtain ⟨hP, hD⟩ := zre (W2 := ([_, _, _, _, _, _, _, _, _] ++ va_pl T_1 f)) hP hD rfl
        refine lv_iload_n hx hb dX10_isClash_24 rfl (lv_at hl 3 rfl) ?_
        obtain ⟨hPc, hDc, hFc, hI1⟩ := zi_sub (wc := [_, _, _, _]) hP hD hS hA [5, 6, 7, 8] (by decide +kernel) rfl
        refine zcall (st1 := [.ref r2]) (va_runV (As := [.int (nI f0)]) (rest := []) ⟨hx, hb, hml, hown, hts⟩ (k_Sheet_rowThere_yv l dC dI cI cZ cF H.size sh fa ft FA f0 fe2 lo2 (rk f0) (wd f0) (tw f0) (pa f0) (pb f0) lk2 (kd f0) (st f0) (gb f0) (it f0) we2 r2 fm2 (by first | with_reducible assumption | omega) (by first | with_reducible assumption | omega) (by first | exact hFA2 | exact hFA9 f0 (by first | with_reducible assumption | omega)) (by first | exact hst | exact hA2 | omega)) (csV_144 hts rfl rfl ⟨Nat.le_of_ble_eq_true rfl, Nat.le_of_ble_eq_true rfl⟩) (zPV2 (q0 := 0) (ci := 7) hPc hDc hK3 hXN rfl rfl) rfl rfl hl.1 rfl (lv_room (Nat.le_of_ble_eq_true rfl)) dX10_isClash_25 ⟨Nat.le_of_ble_eq_true rfl, Nat.le_of_ble_eq_true rfl⟩) hS hFc hFc rfl (fun t H locs ht hB hk1 hS => ?_)
        obtain ⟨hP1, hD1⟩ := hB
        rw [ht] at hP1
        replace hP := z0 hP hD hk1 hP1 hI1
        clear hk1 hPc hDc hFc hP1 hD1 ht hI1
        obtain ⟨hP, hD⟩ := pl_bk (X := [_, _, _, _, _, _, _]) hT_1 hP rfl hc9_1 hD0_1 rfl
        refine lv_astore (lv' := [(6, .ref r2), (5, .ref fe3), (4, .ref fe2), (0, .ref x), (1, .int (nI f0)), (2, .int (nI g0)), (3, .int gp9)]) hx hb dX10_isClash_28 hl (Nat.le_of_ble_eq_true rfl) rfl (fun ls hl => ?_)
        refine lv_aload_n hx hb dX10_isClash_30 rfl (lv_at hl 3 rfl) ?_
        refine va_get (D := (dC, dI)) (ci := 8) (v := .ref sh) (C := RX10) (T := TX10) (N := 13) hx hb hts inX10 hown hK hP 0 rfl rfl 0 (Nat.le_of_ble_eq_true rfl) (hts _ mw_309) (fun _ h9 => h9) rfl dX10_isClash_31 ?_
        have hc9_2 : inPl L f [(oc1 fe3 (rk g0) (wd g0) (tw g0) (pa g0) (pb g0) (.ref lo3) (.ref lk3) fm3), (oc4 lk3 (kd g0) (st g0) .null (gb g0) (it g0) we3)] := ⟨hfe3, hlk3, trivial⟩
        have hD0_2 := hD
        obtain ⟨T_2, hT_2, hP, hD⟩ := pl_oT hP hD hc9_2 (pwF hfe3.2 hlk3.2)
        obtain ⟨hP, hD⟩ := zre (W2 := ([_, _, _, _, _, _, _, _, _] ++ va_pl T_2 f)) hP hD rfl
        refine lv_iload_n hx hb dX10_isClash_34 rfl (lv_at hl 5 rfl) ?_
        obtain ⟨hPc, hDc, hFc, hI1⟩ := zi_sub (wc := [_, _, _, _]) hP hD hS hA [5, 6, 7, 8] (by decide +kernel) rfl
        refine zcall (st1 := [.null]) (va_runV (As := [.int (nI g0)]) (rest := []) ⟨hx, hb, hml, hown, hts⟩ (k_Sheet_rowThere_tv l dC dI cI cZ cF H.size sh fa ft FA g0 fe3 lo3 (rk g0) (wd g0) (tw g0) (pa g0) (pb g0) lk3 (kd g0) (st g0) (gb g0) (it g0) we3 fm3 (by first | with_reducible assumption | omega) (by first | with_reducible assumption | omega) (by first | exact hFA3 | exact hFA9 g0 (by first | with_reducible assumption | omega))) (csV_144 hts rfl rfl ⟨Nat.le_of_ble_eq_true rfl, Nat.le_of_ble_eq_true rfl⟩) (zPV2 (q0 := 0) (ci := 7) hPc hDc hK3 hXN rfl rfl) rfl rfl hl.1 rfl (lv_room (Nat.le_of_ble_eq_true rfl)) dX10_isClash_35 ⟨Nat.le_of_ble_eq_true rfl, Nat.le_of_ble_eq_true rfl⟩) hS hFc hFc rfl (fun t H locs ht hB hk1 hS => ?_)
        obtain ⟨hP1, hD1⟩ := hB
        rw [ht] at hP1
        replace hP := z0 hP hD hk1 hP1 hI1
        clear hk1 hPc hDc hFc hP1 hD1 ht hI1
        obtain ⟨hP, hD⟩ := pl_bk (X := [_, _, _, _, _, _, _]) hT_2 hP rfl hc9_2 hD0_2 rfl
        refine lv_astoreN (lv' := [(7, .null), (6, .ref r2), (5, .ref fe3), (4, .ref fe2), (0, .ref x), (1, .int (nI f0)), (2, .int (nI g0)), (3, .int gp9)]) hx hb dX10_isClash_38 hl (Nat.le_of_ble_eq_true rfl) rfl (fun ls hl => ?_)
        refine lv_aload hx hb dX10_isClash_40 (lv_at hl 3 rfl) ?_
        refine lv_ifnull hx hb dX10_isClash_42 ?_
        refine lv_aload hx hb dX10_isClash_45 (lv_at hl 2 rfl) ?_
        refine lv_ifnull hx hb dX10_isClash_47 ?_
        refine lv_aload hx hb dX10_isClash_50 (lv_at hl 1 rfl) ?_
        refine lv_ifnull hx hb dX10_isClash_52 ?_
        refine lv_aloadN hx hb dX10_isClash_55 (lv_at hl 0 rfl) ?_
        refine lv_ifnonnullN hx hb dX10_isClash_57 ?_
        refine lv_iconst (v := 0) hx hb dX10_isClash_60 rfl ?_
        obtain ⟨hP9, hD9⟩ := zu_part (cx := [_, _, _, _, _, _, _]) hP hD [true, true, true, true, true, true, true] rfl rfl
        rw [hQ9]
        exact W.zret (ty := .boolean) (v := 0) hx hb hr (rfl) (fun t ht hW => ⟨⟨_, rfl, 0, c1, c2, c3, c4, a1, a2, a3, a4, y1, y2, rfl, by rw [ht]; exact hP9, hD9⟩, hS.F ht⟩) hS.2.2 dX10_isClash_61
      · skip
        refine lv_aload_n hx hb dX10_isClash_10 rfl (lv_at hl 1 rfl) ?_
        refine va_get (D := (dC, dI)) (ci := 8) (v := .ref sh) (C := RX10) (T := TX10) (N := 13) hx hb hts inX10 hown hK hP 0 rfl rfl 0 (Nat.le_of_ble_eq_true rfl) (hts _ mw_309) (fun _ h9 => h9) rfl dX10_isClash_11 ?_
        refine lv_iload_n hx hb dX10_isClash_14 rfl (lv_at hl 3 rfl) ?_
        obtain ⟨hPc, hDc, hFc, hI1⟩ := zi_sub (wc := [_, _]) hP hD hS hA [5, 6] rfl rfl
        refine zcall (st1 := [.ref fe3]) (va_runV (As := [.int (nI g0)]) (rest := []) ⟨hx, hb, hml, hown, hts⟩ (k_Sheet_find l dC dI cI cZ cF H.size sh fa ft FA g0 fe3 (by first | with_reducible assumption | omega) (by first | with_reducible assumption | omega) (by first | exact hFA3 | exact hFA9 g0 (by first | with_reducible assumption | omega))) (csV_94 hts rfl rfl ⟨Nat.le_of_ble_eq_true rfl, Nat.le_of_ble_eq_true rfl⟩) (zPV2 (q0 := 0) (ci := 7) hPc hDc hK3 hXN rfl rfl) rfl rfl hl.1 rfl (lv_room (Nat.le_of_ble_eq_true rfl)) dX10_isClash_15 ⟨Nat.le_of_ble_eq_true rfl, Nat.le_of_ble_eq_true rfl⟩) hS hFc hFc rfl (fun t H locs ht hB hk1 hS => ?_)
        obtain ⟨hP1, hD1⟩ := hB
        rw [ht] at hP1
        replace hP := z0 hP hD hk1 hP1 hI1
        clear hk1 hPc hDc hFc hP1 hD1 ht hI1
        refine lv_astore (lv' := [(5, .ref fe3), (4, .ref fe2), (0, .ref x), (1, .int (nI f0)), (2, .int (nI g0)), (3, .int gp9)]) hx hb dX10_isClash_18 hl (Nat.le_of_ble_eq_true rfl) rfl (fun ls hl => ?_)
        refine lv_aload_n hx hb dX10_isClash_20 rfl (lv_at hl 2 rfl) ?_
        refine va_get (D := (dC, dI)) (ci := 8) (v := .ref sh) (C := RX10) (T := TX10) (N := 13) hx hb hts inX10 hown hK hP 0 rfl rfl 0 (Nat.le_of_ble_eq_true rfl) (hts _ mw_309) (fun _ h9 => h9) rfl dX10_isClash_21 ?_
        have hc9_1 : inPl L f [(oc1 fe2 (rk f0) (wd f0) (tw f0) (pa f0) (pb f0) (.ref lo2) (.ref lk2) fm2), (oc4 lk2 (kd f0) (st f0) (.ref r2) (gb f0) (it f0) we2)] := ⟨hfe2, hlk2, trivial⟩
        have hD0_1 := hD
        obtain ⟨T_1, hT_1, hP, hD⟩ := pl_oT hP hD hc9_1 (pwF hfe2.2 hlk2.2)
        obtain ⟨hP, hD⟩ := zre (W2 := ([_, _, _, _, _, _, _, _, _] ++ va_pl T_1 f)) hP hD rfl
        refine lv_iload_n hx hb dX10_isClash_24 rfl (lv_at hl 3 rfl) ?_
        obtain ⟨hPc, hDc, hFc, hI1⟩ := zi_sub (wc := [_, _, _, _]) hP hD hS hA [5, 6, 7, 8] (by decide +kernel) rfl
        refine zcall (st1 := [.ref r2]) (va_runV (As := [.int (nI f0)]) (rest := []) ⟨hx, hb, hml, hown, hts⟩ (k_Sheet_rowThere_yv l dC dI cI cZ cF H.size sh fa ft FA f0 fe2 lo2 (rk f0) (wd f0) (tw f0) (pa f0) (pb f0) lk2 (kd f0) (st f0) (gb f0) (it f0) we2 r2 fm2 (by first | with_reducible assumption | omega) (by first | with_reducible assumption | omega) (by first | exact hFA2 | exact hFA9 f0 (by first | with_reducible assumption | omega)) (by first | exact hst | exact hA2 | omega)) (csV_144 hts rfl rfl ⟨Nat.le_of_ble_eq_true rfl, Nat.le_of_ble_eq_true rfl⟩) (zPV2 (q0 := 0) (ci := 7) hPc hDc hK3 hXN rfl rfl) rfl rfl hl.1 rfl (lv_room (Nat.le_of_ble_eq_true rfl)) dX10_isClash_25 ⟨Nat.le_of_ble_eq_true rfl, Nat.le_of_ble_eq_true rfl⟩) hS hFc hFc rfl (fun t H locs ht hB hk1 hS => ?_)
        obtain ⟨hP1, hD1⟩ := hB
        rw [ht] at hP1
        replace hP := z0 hP hD hk1 hP1 hI1
        clear hk1 hPc hDc hFc hP1 hD1 ht hI1
        obtain ⟨hP, hD⟩ := pl_bk (X := [_, _, _, _, _, _, _]) hT_1 hP rfl hc9_1 hD0_1 rfl
        refine lv_astore (lv' := [(6, .ref r2), (5, .ref fe3), (4, .ref fe2), (0, .ref x), (1, .int (nI f0)), (2, .int (nI g0)), (3, .int gp9)]) hx hb dX10_isClash_28 hl (Nat.le_of_ble_eq_true rfl) rfl (fun ls hl => ?_)
        refine lv_aload_n hx hb dX10_isClash_30 rfl (lv_at hl 3 rfl) ?_
        refine va_get (D := (dC, dI)) (ci := 8) (v := .ref sh) (C := RX10) (T := TX10) (N := 13) hx hb hts inX10 hown hK hP 0 rfl rfl 0 (Nat.le_of_ble_eq_true rfl) (hts _ mw_309) (fun _ h9 => h9) rfl dX10_isClash_31 ?_
        have hc9_2 : inPl L f [(oc1 fe3 (rk g0) (wd g0) (tw g0) (pa g0) (pb g0) (.ref lo3) (.ref lk3) fm3), (oc4 lk3 (kd g0) (st g0) (.ref r3) (gb g0) (it g0) we3)] := ⟨hfe3, hlk3, trivial⟩
        have hD0_2 := hD
        obtain ⟨T_2, hT_2, hP, hD⟩ := pl_oT hP hD hc9_2 (pwF hfe3.2 hlk3.2)
        obtain ⟨hP, hD⟩ := zre (W2 := ([_, _, _, _, _, _, _, _, _] ++ va_pl T_2 f)) hP hD rfl
        refine lv_iload_n hx hb dX10_isClash_34 rfl (lv_at hl 5 rfl) ?_
        obtain ⟨hPc, hDc, hFc, hI1⟩ := zi_sub (wc := [_, _, _, _]) hP hD hS hA [5, 6, 7, 8] (by decide +kernel) rfl
        refine zcall (st1 := [.ref r3]) (va_runV (As := [.int (nI g0)]) (rest := []) ⟨hx, hb, hml, hown, hts⟩ (k_Sheet_rowThere_yv l dC dI cI cZ cF H.size sh fa ft FA g0 fe3 lo3 (rk g0) (wd g0) (tw g0) (pa g0) (pb g0) lk3 (kd g0) (st g0) (gb g0) (it g0) we3 r3 fm3 (by first | with_reducible assumption | omega) (by first | with_reducible assumption | omega) (by first | exact hFA3 | exact hFA9 g0 (by first | with_reducible assumption | omega)) (by first | exact hsg | exact hA3 | omega)) (csV_144 hts rfl rfl ⟨Nat.le_of_ble_eq_true rfl, Nat.le_of_ble_eq_true rfl⟩) (zPV2 (q0 := 0) (ci := 7) hPc hDc hK3 hXN rfl rfl) rfl rfl hl.1 rfl (lv_room (Nat.le_of_ble_eq_true rfl)) dX10_isClash_35 ⟨Nat.le_of_ble_eq_true rfl, Nat.le_of_ble_eq_true rfl⟩) hS hFc hFc rfl (fun t H locs ht hB hk1 hS => ?_)
        obtain ⟨hP1, hD1⟩ := hB
        rw [ht] at hP1
        replace hP := z0 hP hD hk1 hP1 hI1
        clear hk1 hPc hDc hFc hP1 hD1 ht hI1
        obtain ⟨hP, hD⟩ := pl_bk (X := [_, _, _, _, _, _, _]) hT_2 hP rfl hc9_2 hD0_2 rfl
        refine lv_astore (lv' := [(7, .ref r3), (6, .ref r2), (5, .ref fe3), (4, .ref fe2), (0, .ref x), (1, .int (nI f0)), (2, .int (nI g0)), (3, .int gp9)]) hx hb dX10_isClash_38 hl (Nat.le_of_ble_eq_true rfl) rfl (fun ls hl => ?_)
        refine lv_aload hx hb dX10_isClash_40 (lv_at hl 3 rfl) ?_
        refine lv_ifnull hx hb dX10_isClash_42 ?_
        refine lv_aload hx hb dX10_isClash_45 (lv_at hl 2 rfl) ?_
        refine lv_ifnull hx hb dX10_isClash_47 ?_
        refine lv_aload hx hb dX10_isClash_50 (lv_at hl 1 rfl) ?_
        refine lv_ifnull hx hb dX10_isClash_52 ?_
        refine lv_aload hx hb dX10_isClash_55 (lv_at hl 0 rfl) ?_
        refine lv_ifnonnull (tgt := 62) hx hb dX10_isClash_57 rfl ?_
        exact absurd ⟨⟨by omega, hA2, ht2⟩, ⟨by omega, hA3, ht3⟩⟩ hb9
      · skip
        refine lv_aload_n hx hb dX10_isClash_10 rfl (lv_at hl 1 rfl) ?_
        refine va_get (D := (dC, dI)) (ci := 8) (v := .ref sh) (C := RX10) (T := TX10) (N := 13) hx hb hts inX10 hown hK hP 0 rfl rfl 0 (Nat.le_of_ble_eq_true rfl) (hts _ mw_309) (fun _ h9 => h9) rfl dX10_isClash_11 ?_
        refine lv_iload_n hx hb dX10_isClash_14 rfl (lv_at hl 3 rfl) ?_
        obtain ⟨hPc, hDc, hFc, hI1⟩ := zi_sub (wc := [_, _]) hP hD hS hA [5, 6] rfl rfl
        refine zcall (st1 := [.ref fe3]) (va_runV (As := [.int (nI g0)]) (rest := []) ⟨hx, hb, hml, hown, hts⟩ (k_Sheet_find l dC dI cI cZ cF H.size sh fa ft FA g0 fe3 (by first | with_reducible assumption | omega) (by first | with_reducible assumption | omega) (by first | exact hFA3 | exact hFA9 g0 (by first | with_reducible assumption | omega))) (csV_94 hts rfl rfl ⟨Nat.le_of_ble_eq_true rfl, Nat.le_of_ble_eq_true rfl⟩) (zPV2 (q0 := 0) (ci := 7) hPc hDc hK3 hXN rfl rfl) rfl rfl hl.1 rfl (lv_room (Nat.le_of_ble_eq_true rfl)) dX10_isClash_15 ⟨Nat.le_of_ble_eq_true rfl, Nat.le_of_ble_eq_true rfl⟩) hS hFc hFc rfl (fun t H locs ht hB hk1 hS => ?_)
        obtain ⟨hP1, hD1⟩ := hB
        rw [ht] at hP1
        replace hP := z0 hP hD hk1 hP1 hI1
        clear hk1 hPc hDc hFc hP1 hD1 ht hI1
        refine lv_astore (lv' := [(5, .ref fe3), (4, .ref fe2), (0, .ref x), (1, .int (nI f0)), (2, .int (nI g0)), (3, .int gp9)]) hx hb dX10_isClash_18 hl (Nat.le_of_ble_eq_true rfl) rfl (fun ls hl => ?_)
        refine lv_aload_n hx hb dX10_isClash_20 rfl (lv_at hl 2 rfl) ?_
        refine va_get (D := (dC, dI)) (ci := 8) (v := .ref sh) (C := RX10) (T := TX10) (N := 13) hx hb hts inX10 hown hK hP 0 rfl rfl 0 (Nat.le_of_ble_eq_true rfl) (hts _ mw_309) (fun _ h9 => h9) rfl dX10_isClash_21 ?_
        have hc9_1 : inPl L f [(oc1 fe2 (rk f0) (wd f0) (tw f0) (pa f0) (pb f0) (.ref lo2) (.ref lk2) fm2), (oc4 lk2 (kd f0) (st f0) (.ref r2) (gb f0) (it f0) we2)] := ⟨hfe2, hlk2, trivial⟩
        have hD0_1 := hD
        obtain ⟨T_1, hT_1, hP, hD⟩ := pl_oT hP hD hc9_1 (pwF hfe2.2 hlk2.2)
        obtain ⟨hP, hD⟩ := zre (W2 := ([_, _, _, _, _, _, _, _, _] ++ va_pl T_1 f)) hP hD rfl
        refine lv_iload_n hx hb dX10_isClash_24 rfl (lv_at hl 3 rfl) ?_
        obtain ⟨hPc, hDc, hFc, hI1⟩ := zi_sub (wc := [_, _, _, _]) hP hD hS hA [5, 6, 7, 8] (by decide +kernel) rfl
        refine zcall (st1 := [.ref r2]) (va_runV (As := [.int (nI f0)]) (rest := []) ⟨hx, hb, hml, hown, hts⟩ (k_Sheet_rowThere_yv l dC dI cI cZ cF H.size sh fa ft FA f0 fe2 lo2 (rk f0) (wd f0) (tw f0) (pa f0) (pb f0) lk2 (kd f0) (st f0) (gb f0) (it f0) we2 r2 fm2 (by first | with_reducible assumption | omega) (by first | with_reducible assumption | omega) (by first | exact hFA2 | exact hFA9 f0 (by first | with_reducible assumption | omega)) (by first | exact hst | exact hA2 | omega)) (csV_144 hts rfl rfl ⟨Nat.le_of_ble_eq_true rfl, Nat.le_of_ble_eq_true rfl⟩) (zPV2 (q0 := 0) (ci := 7) hPc hDc hK3 hXN rfl rfl) rfl rfl hl.1 rfl (lv_room (Nat.le_of_ble_eq_true rfl)) dX10_isClash_25 ⟨Nat.le_of_ble_eq_true rfl, Nat.le_of_ble_eq_true rfl⟩) hS hFc hFc rfl (fun t H locs ht hB hk1 hS => ?_)
        obtain ⟨hP1, hD1⟩ := hB
        rw [ht] at hP1
        replace hP := z0 hP hD hk1 hP1 hI1
        clear hk1 hPc hDc hFc hP1 hD1 ht hI1
        obtain ⟨hP, hD⟩ := pl_bk (X := [_, _, _, _, _, _, _]) hT_1 hP rfl hc9_1 hD0_1 rfl
        refine lv_astore (lv' := [(6, .ref r2), (5, .ref fe3), (4, .ref fe2), (0, .ref x), (1, .int (nI f0)), (2, .int (nI g0)), (3, .int gp9)]) hx hb dX10_isClash_28 hl (Nat.le_of_ble_eq_true rfl) rfl (fun ls hl => ?_)
        refine lv_aload_n hx hb dX10_isClash_30 rfl (lv_at hl 3 rfl) ?_
        refine va_get (D := (dC, dI)) (ci := 8) (v := .ref sh) (C := RX10) (T := TX10) (N := 13) hx hb hts inX10 hown hK hP 0 rfl rfl 0 (Nat.le_of_ble_eq_true rfl) (hts _ mw_309) (fun _ h9 => h9) rfl dX10_isClash_31 ?_
        have hc9_2 : inPl L f [(oc1 fe3 (rk g0) (wd g0) (tw g0) (pa g0) (pb g0) (.ref lo3) (.ref lk3) fm3), (oc4 lk3 (kd g0) (st g0) (.ref r3) (gb g0) (it g0) we3)] := ⟨hfe3, hlk3, trivial⟩
        have hD0_2 := hD
        obtain ⟨T_2, hT_2, hP, hD⟩ := pl_oT hP hD hc9_2 (pwF hfe3.2 hlk3.2)
        obtain ⟨hP, hD⟩ := zre (W2 := ([_, _, _, _, _, _, _, _, _] ++ va_pl T_2 f)) hP hD rfl
        refine lv_iload_n hx hb dX10_isClash_34 rfl (lv_at hl 5 rfl) ?_
        obtain ⟨hPc, hDc, hFc, hI1⟩ := zi_sub (wc := [_, _, _, _]) hP hD hS hA [5, 6, 7, 8] (by decide +kernel) rfl
        refine zcall (st1 := [.null]) (va_runV (As := [.int (nI g0)]) (rest := []) ⟨hx, hb, hml, hown, hts⟩ (k_Sheet_rowThere_sv l dC dI cI cZ cF H.size sh fa ft FA g0 fe3 lo3 (rk g0) (wd g0) (tw g0) (pa g0) (pb g0) lk3 (kd g0) (st g0) (gb g0) (it g0) we3 fm3 (.ref r3) (by first | with_reducible assumption | omega) (by first | with_reducible assumption | omega) (by first | exact hFA3 | exact hFA9 g0 (by first | with_reducible assumption | omega)) (by first | exact hsg | exact hA3 | omega)) (csV_144 hts rfl rfl ⟨Nat.le_of_ble_eq_true rfl, Nat.le_of_ble_eq_true rfl⟩) (zPV2 (q0 := 0) (ci := 7) hPc hDc hK3 hXN rfl rfl) rfl rfl hl.1 rfl (lv_room (Nat.le_of_ble_eq_true rfl)) dX10_isClash_35 ⟨Nat.le_of_ble_eq_true rfl, Nat.le_of_ble_eq_true rfl⟩) hS hFc hFc rfl (fun t H locs ht hB hk1 hS => ?_)
        obtain ⟨hP1, hD1⟩ := hB
        rw [ht] at hP1
        replace hP := z0 hP hD hk1 hP1 hI1
        clear hk1 hPc hDc hFc hP1 hD1 ht hI1
        obtain ⟨hP, hD⟩ := pl_bk (X := [_, _, _, _, _, _, _]) hT_2 hP rfl hc9_2 hD0_2 rfl
        refine lv_astoreN (lv' := [(7, .null), (6, .ref r2), (5, .ref fe3), (4, .ref fe2), (0, .ref x), (1, .int (nI f0)), (2, .int (nI g0)), (3, .int gp9)]) hx hb dX10_isClash_38 hl (Nat.le_of_ble_eq_true rfl) rfl (fun ls hl => ?_)
        refine lv_aload hx hb dX10_isClash_40 (lv_at hl 3 rfl) ?_
        refine lv_ifnull hx hb dX10_isClash_42 ?_
        refine lv_aload hx hb dX10_isClash_45 (lv_at hl 2 rfl) ?_
        refine lv_ifnull hx hb dX10_isClash_47 ?_
        refine lv_aload hx hb dX10_isClash_50 (lv_at hl 1 rfl) ?_
        refine lv_ifnull hx hb dX10_isClash_52 ?_
        refine lv_aloadN hx hb dX10_isClash_55 (lv_at hl 0 rfl) ?_
        refine lv_ifnonnullN hx hb dX10_isClash_57 ?_
        refine lv_iconst (v := 0) hx hb dX10_isClash_60 rfl ?_
        obtain ⟨hP9, hD9⟩ := zu_part (cx := [_, _, _, _, _, _, _]) hP hD [true, true, true, true, true, true, true] rfl rfl
        rw [hQ9]
        exact W.zret (ty := .boolean) (v := 0) hx hb hr (rfl) (fun t ht hW => ⟨⟨_, rfl, 0, c1, c2, c3, c4, a1, a2, a3, a4, y1, y2, rfl, by rw [ht]; exact hP9, hD9⟩, hS.F ht⟩) hS.2.2 dX10_isClash_61
    · skip
      refine va_get (D := (dC, dI)) (ci := 8) (v := .ref sh) (C := RX10) (T := TX10) (N := 13) hx hb hts inX10 hown hK hP 0 rfl rfl 0 (Nat.le_of_ble_eq_true rfl) (hts _ mw_309) (fun _ h9 => h9) rfl dX10_isClash_1 ?_
      refine lv_iload_n hx hb dX10_isClash_4 rfl (lv_at hl 1 rfl) ?_
      obtain ⟨hPc, hDc, hFc, hI1⟩ := zi_sub (wc := [_, _]) hP hD hS hA [5, 6] rfl rfl
      refine zcall (st1 := [.ref fe2]) (va_runV (As := [.int (nI f0)]) (rest := []) ⟨hx, hb, hml, hown, hts⟩ (k_Sheet_find l dC dI cI cZ cF s.heap.size sh fa ft FA f0 fe2 (by first | with_reducible assumption | omega) (by first | with_reducible assumption | omega) (by first | exact hFA2 | exact hFA9 f0 (by first | with_reducible assumption | omega))) (csV_94 hts rfl rfl ⟨Nat.le_of_ble_eq_true rfl, Nat.le_of_ble_eq_true rfl⟩) (zPV2 (q0 := 0) (ci := 7) hPc hDc hK3 hXN rfl rfl) rfl rfl hl.1 rfl (lv_room (Nat.le_of_ble_eq_true rfl)) dX10_isClash_5 ⟨Nat.le_of_ble_eq_true rfl, Nat.le_of_ble_eq_true rfl⟩) hS hFc hFc rfl (fun t H locs ht hB hk1 hS => ?_)
      obtain ⟨hP1, hD1⟩ := hB
      rw [ht] at hP1
      replace hP := z0 hP hD hk1 hP1 hI1
      clear hk1 hPc hDc hFc hP1 hD1 ht hI1
      refine lv_astore (lv' := [(4, .ref fe2), (0, .ref x), (1, .int (nI f0)), (2, .int (nI g0)), (3, .int gp9)]) hx hb dX10_isClash_8 hl (Nat.le_of_ble_eq_true rfl) rfl (fun ls hl => ?_)
      rcases vwA_3 (P9 := ((st g0).toInt = 1)) (hva g0 (by omega)) with ⟨ht3, fe3, lk3, lo3, we3, fm3, hFA3, hfe3, hlk3⟩ | ⟨ht3, hA3, fe3, lk3, lo3, we3, fm3, r3, rx3, ry3, cap3, U3, V3, rg3, hFA3, hfe3, hlk3, ⟨hr3, hrx3, hry3, hne3⟩, hrr3⟩ | ⟨ht3, hA3, fe3, lk3, lo3, we3, fm3, r3, rx3, ry3, cap3, U3, V3, rg3, hFA3, hfe3, hlk3, ⟨hr3, hrx3, hry3, hne3⟩, hrr3⟩
      · skip
        refine lv_aload_n hx hb dX10_isClash_10 rfl (lv_at hl 1 rfl) ?_
        refine va_get (D := (dC, dI)) (ci := 8) (v := .ref sh) (C := RX10) (T := TX10) (N := 13) hx hb hts inX10 hown hK hP 0 rfl rfl 0 (Nat.le_of_ble_eq_true rfl) (hts _ mw_309) (fun _ h9 => h9) rfl dX10_isClash_11 ?_
        refine lv_iload_n hx hb dX10_isClash_14 rfl (lv_at hl 3 rfl) ?_
        obtain ⟨hPc, hDc, hFc, hI1⟩ := zi_sub (wc := [_, _]) hP hD hS hA [5, 6] rfl rfl
        refine zcall (st1 := [.ref fe3]) (va_runV (As := [.int (nI g0)]) (rest := []) ⟨hx, hb, hml, hown, hts⟩ (k_Sheet_find l dC dI cI cZ cF H.size sh fa ft FA g0 fe3 (by first | with_reducible assumption | omega) (by first | with_reducible assumption | omega) (by first | exact hFA3 | exact hFA9 g0 (by first | with_reducible assumption | omega))) (csV_94 hts rfl rfl ⟨Nat.le_of_ble_eq_true rfl, Nat.le_of_ble_eq_true rfl⟩) (zPV2 (q0 := 0) (ci := 7) hPc hDc hK3 hXN rfl rfl) rfl rfl hl.1 rfl (lv_room (Nat.le_of_ble_eq_true rfl)) dX10_isClash_15 ⟨Nat.le_of_ble_eq_true rfl, Nat.le_of_ble_eq_true rfl⟩) hS hFc hFc rfl (fun t H locs ht hB hk1 hS => ?_)
        obtain ⟨hP1, hD1⟩ := hB
        rw [ht] at hP1
        replace hP := z0 hP hD hk1 hP1 hI1
        clear hk1 hPc hDc hFc hP1 hD1 ht hI1
        refine lv_astore (lv' := [(5, .ref fe3), (4, .ref fe2), (0, .ref x), (1, .int (nI f0)), (2, .int (nI g0)), (3, .int gp9)]) hx hb dX10_isClash_18 hl (Nat.le_of_ble_eq_true rfl) rfl (fun ls hl => ?_)
        refine lv_aload_n hx hb dX10_isClash_20 rfl (lv_at hl 2 rfl) ?_
        refine va_get (D := (dC, dI)) (ci := 8) (v := .ref sh) (C := RX10) (T := TX10) (N := 13) hx hb hts inX10 hown hK hP 0 rfl rfl 0 (Nat.le_of_ble_eq_true rfl) (hts _ mw_309) (fun _ h9 => h9) rfl dX10_isClash_21 ?_
        have hc9_1 : inPl L f [(oc1 fe2 (rk f0) (wd f0) (tw f0) (pa f0) (pb f0) (.ref lo2) (.ref lk2) fm2), (oc4 lk2 (kd f0) (st f0) (.ref r2) (gb f0) (it f0) we2)] := ⟨hfe2, hlk2, trivial⟩
        have hD0_1 := hD
        obtain ⟨T_1, hT_1, hP, hD⟩ := pl_oT hP hD hc9_1 (pwF hfe2.2 hlk2.2)
        obtain ⟨hP, hD⟩ := zre (W2 := ([_, _, _, _, _, _, _, _, _] ++ va_pl T_1 f)) hP hD rfl
        refine lv_iload_n hx hb dX10_isClash_24 rfl (lv_at hl 3 rfl) ?_
        obtain ⟨hPc, hDc, hFc, hI1⟩ := zi_sub (wc := [_, _, _, _]) hP hD hS hA [5, 6, 7, 8] (by decide +kernel) rfl
        refine zcall (st1 := [.null]) (va_runV (As := [.int (nI f0)]) (rest := []) ⟨hx, hb, hml, hown, hts⟩ (k_Sheet_rowThere_sv l dC dI cI cZ cF H.size sh fa ft FA f0 fe2 lo2 (rk f0) (wd f0) (tw f0) (pa f0) (pb f0) lk2 (kd f0) (st f0) (gb f0) (it f0) we2 fm2 (.ref r2) (by first | with_reducible assumption | omega) (by first | with_reducible assumption | omega) (by first | exact hFA2 | exact hFA9 f0 (by first | with_reducible assumption | omega)) (by first | exact hst | exact hA2 | omega)) (csV_144 hts rfl rfl ⟨Nat.le_of_ble_eq_true rfl, Nat.le_of_ble_eq_true rfl⟩) (zPV2 (q0 := 0) (ci := 7) hPc hDc hK3 hXN rfl rfl) rfl rfl hl.1 rfl (lv_room (Nat.le_of_ble_eq_true rfl)) dX10_isClash_25 ⟨Nat.le_of_ble_eq_true rfl, Nat.le_of_ble_eq_true rfl⟩) hS hFc hFc rfl (fun t H locs ht hB hk1 hS => ?_)
        obtain ⟨hP1, hD1⟩ := hB
        rw [ht] at hP1
        replace hP := z0 hP hD hk1 hP1 hI1
        clear hk1 hPc hDc hFc hP1 hD1 ht hI1
        obtain ⟨hP, hD⟩ := pl_bk (X := [_, _, _, _, _, _, _]) hT_1 hP rfl hc9_1 hD0_1 rfl
        refine lv_astoreN (lv' := [(6, .null), (5, .ref fe3), (4, .ref fe2), (0, .ref x), (1, .int (nI f0)), (2, .int (nI g0)), (3, .int gp9)]) hx hb dX10_isClash_28 hl (Nat.le_of_ble_eq_true rfl) rfl (fun ls hl => ?_)
        refine lv_aload_n hx hb dX10_isClash_30 rfl (lv_at hl 3 rfl) ?_
        refine va_get (D := (dC, dI)) (ci := 8) (v := .ref sh) (C := RX10) (T := TX10) (N := 13) hx hb hts inX10 hown hK hP 0 rfl rfl 0 (Nat.le_of_ble_eq_true rfl) (hts _ mw_309) (fun _ h9 => h9) rfl dX10_isClash_31 ?_
        have hc9_2 : inPl L f [(oc1 fe3 (rk g0) (wd g0) (tw g0) (pa g0) (pb g0) (.ref lo3) (.ref lk3) fm3), (oc4 lk3 (kd g0) (st g0) .null (gb g0) (it g0) we3)] := ⟨hfe3, hlk3, trivial⟩
        have hD0_2 := hD
        obtain ⟨T_2, hT_2, hP, hD⟩ := pl_oT hP hD hc9_2 (pwF hfe3.2 hlk3.2)
        obtain ⟨hP, hD⟩ := zre (W2 := ([_, _, _, _, _, _, _, _, _] ++ va_pl T_2 f)) hP hD rfl
        refine lv_iload_n hx hb dX10_isClash_34 rfl (lv_at hl 5 rfl) ?_
        obtain ⟨hPc, hDc, hFc, hI1⟩ := zi_sub (wc := [_, _, _, _]) hP hD hS hA [5, 6, 7, 8] (by decide +kernel) rfl
        refine zcall (st1 := [.null]) (va_runV (As := [.int (nI g0)]) (rest := []) ⟨hx, hb, hml, hown, hts⟩ (k_Sheet_rowThere_tv l dC dI cI cZ cF H.size sh fa ft FA g0 fe3 lo3 (rk g0) (wd g0) (tw g0) (pa g0) (pb g0) lk3 (kd g0) (st g0) (gb g0) (it g0) we3 fm3 (by first | with_reducible assumption | omega) (by first | with_reducible assumption | omega) (by first | exact hFA3 | exact hFA9 g0 (by first | with_reducible assumption | omega))) (csV_144 hts rfl rfl ⟨Nat.le_of_ble_eq_true rfl, Nat.le_of_ble_eq_true rfl⟩) (zPV2 (q0 := 0) (ci := 7) hPc hDc hK3 hXN rfl rfl) rfl rfl hl.1 rfl (lv_room (Nat.le_of_ble_eq_true rfl)) dX10_isClash_35 ⟨Nat.le_of_ble_eq_true rfl, Nat.le_of_ble_eq_true rfl⟩) hS hFc hFc rfl (fun t H locs ht hB hk1 hS => ?_)
        obtain ⟨hP1, hD1⟩ := hB
        rw [ht] at hP1
        replace hP := z0 hP hD hk1 hP1 hI1
        clear hk1 hPc hDc hFc hP1 hD1 ht hI1
        obtain ⟨hP, hD⟩ := pl_bk (X := [_, _, _, _, _, _, _]) hT_2 hP rfl hc9_2 hD0_2 rfl
        refine lv_astoreN (lv' := [(7, .null), (6, .null), (5, .ref fe3), (4, .ref fe2), (0, .ref x), (1, .int (nI f0)), (2, .int (nI g0)), (3, .int gp9)]) hx hb dX10_isClash_38 hl (Nat.le_of_ble_eq_true rfl) rfl (fun ls hl => ?_)
        refine lv_aload hx hb dX10_isClash_40 (lv_at hl 3 rfl) ?_
        refine lv_ifnull hx hb dX10_isClash_42 ?_
        refine lv_aload hx hb dX10_isClash_45 (lv_at hl 2 rfl) ?_
        refine lv_ifnull hx hb dX10_isClash_47 ?_
        refine lv_aloadN hx hb dX10_isClash_50 (lv_at hl 1 rfl) ?_
        refine lv_ifnullN (tgt := 60) hx hb dX10_isClash_52 rfl ?_
        refine lv_iconst (v := 0) hx hb dX10_isClash_60 rfl ?_
        obtain ⟨hP9, hD9⟩ := zu_part (cx := [_, _, _, _, _, _, _]) hP hD [true, true, true, true, true, true, true] rfl rfl
        rw [hQ9]
        exact W.zret (ty := .boolean) (v := 0) hx hb hr (rfl) (fun t ht hW => ⟨⟨_, rfl, 0, c1, c2, c3, c4, a1, a2, a3, a4, y1, y2, rfl, by rw [ht]; exact hP9, hD9⟩, hS.F ht⟩) hS.2.2 dX10_isClash_61
      · skip
        refine lv_aload_n hx hb dX10_isClash_10 rfl (lv_at hl 1 rfl) ?_
        refine va_get (D := (dC, dI)) (ci := 8) (v := .ref sh) (C := RX10) (T := TX10) (N := 13) hx hb hts inX10 hown hK hP 0 rfl rfl 0 (Nat.le_of_ble_eq_true rfl) (hts _ mw_309) (fun _ h9 => h9) rfl dX10_isClash_11 ?_
        refine lv_iload_n hx hb dX10_isClash_14 rfl (lv_at hl 3 rfl) ?_
        obtain ⟨hPc, hDc, hFc, hI1⟩ := zi_sub (wc := [_, _]) hP hD hS hA [5, 6] rfl rfl
        refine zcall (st1 := [.ref fe3]) (va_runV (As := [.int (nI g0)]) (rest := []) ⟨hx, hb, hml, hown, hts⟩ (k_Sheet_find l dC dI cI cZ cF H.size sh fa ft FA g0 fe3 (by first | with_reducible assumption | omega) (by first | with_reducible assumption | omega) (by first | exact hFA3 | exact hFA9 g0 (by first | with_reducible assumption | omega))) (csV_94 hts rfl rfl ⟨Nat.le_of_ble_eq_true rfl, Nat.le_of_ble_eq_true rfl⟩) (zPV2 (q0 := 0) (ci := 7) hPc hDc hK3 hXN rfl rfl) rfl rfl hl.1 rfl (lv_room (Nat.le_of_ble_eq_true rfl)) dX10_isClash_15 ⟨Nat.le_of_ble_eq_true rfl, Nat.le_of_ble_eq_true rfl⟩) hS hFc hFc rfl (fun t H locs ht hB hk1 hS => ?_)
        obtain ⟨hP1, hD1⟩ := hB
        rw [ht] at hP1
        replace hP := z0 hP hD hk1 hP1 hI1
        clear hk1 hPc hDc hFc hP1 hD1 ht hI1
        refine lv_astore (lv' := [(5, .ref fe3), (4, .ref fe2), (0, .ref x), (1, .int (nI f0)), (2, .int (nI g0)), (3, .int gp9)]) hx hb dX10_isClash_18 hl (Nat.le_of_ble_eq_true rfl) rfl (fun ls hl => ?_)
        refine lv_aload_n hx hb dX10_isClash_20 rfl (lv_at hl 2 rfl) ?_
        refine va_get (D := (dC, dI)) (ci := 8) (v := .ref sh) (C := RX10) (T := TX10) (N := 13) hx hb hts inX10 hown hK hP 0 rfl rfl 0 (Nat.le_of_ble_eq_true rfl) (hts _ mw_309) (fun _ h9 => h9) rfl dX10_isClash_21 ?_
        have hc9_1 : inPl L f [(oc1 fe2 (rk f0) (wd f0) (tw f0) (pa f0) (pb f0) (.ref lo2) (.ref lk2) fm2), (oc4 lk2 (kd f0) (st f0) (.ref r2) (gb f0) (it f0) we2)] := ⟨hfe2, hlk2, trivial⟩
        have hD0_1 := hD
        obtain ⟨T_1, hT_1, hP, hD⟩ := pl_oT hP hD hc9_1 (pwF hfe2.2 hlk2.2)
        obtain ⟨hP, hD⟩ := zre (W2 := ([_, _, _, _, _, _, _, _, _] ++ va_pl T_1 f)) hP hD rfl
        refine lv_iload_n hx hb dX10_isClash_24 rfl (lv_at hl 3 rfl) ?_
        obtain ⟨hPc, hDc, hFc, hI1⟩ := zi_sub (wc := [_, _, _, _]) hP hD hS hA [5, 6, 7, 8] (by decide +kernel) rfl
        refine zcall (st1 := [.null]) (va_runV (As := [.int (nI f0)]) (rest := []) ⟨hx, hb, hml, hown, hts⟩ (k_Sheet_rowThere_sv l dC dI cI cZ cF H.size sh fa ft FA f0 fe2 lo2 (rk f0) (wd f0) (tw f0) (pa f0) (pb f0) lk2 (kd f0) (st f0) (gb f0) (it f0) we2 fm2 (.ref r2) (by first | with_reducible assumption | omega) (by first | with_reducible assumption | omega) (by first | exact hFA2 | exact hFA9 f0 (by first | with_reducible assumption | omega)) (by first | exact hst | exact hA2 | omega)) (csV_144 hts rfl rfl ⟨Nat.le_of_ble_eq_true rfl, Nat.le_of_ble_eq_true rfl⟩) (zPV2 (q0 := 0) (ci := 7) hPc hDc hK3 hXN rfl rfl) rfl rfl hl.1 rfl (lv_room (Nat.le_of_ble_eq_true rfl)) dX10_isClash_25 ⟨Nat.le_of_ble_eq_true rfl, Nat.le_of_ble_eq_true rfl⟩) hS hFc hFc rfl (fun t H locs ht hB hk1 hS => ?_)
        obtain ⟨hP1, hD1⟩ := hB
        rw [ht] at hP1
        replace hP := z0 hP hD hk1 hP1 hI1
        clear hk1 hPc hDc hFc hP1 hD1 ht hI1
        obtain ⟨hP, hD⟩ := pl_bk (X := [_, _, _, _, _, _, _]) hT_1 hP rfl hc9_1 hD0_1 rfl
        refine lv_astoreN (lv' := [(6, .null), (5, .ref fe3), (4, .ref fe2), (0, .ref x), (1, .int (nI f0)), (2, .int (nI g0)), (3, .int gp9)]) hx hb dX10_isClash_28 hl (Nat.le_of_ble_eq_true rfl) rfl (fun ls hl => ?_)
        refine lv_aload_n hx hb dX10_isClash_30 rfl (lv_at hl 3 rfl) ?_
        refine va_get (D := (dC, dI)) (ci := 8) (v := .ref sh) (C := RX10) (T := TX10) (N := 13) hx hb hts inX10 hown hK hP 0 rfl rfl 0 (Nat.le_of_ble_eq_true rfl) (hts _ mw_309) (fun _ h9 => h9) rfl dX10_isClash_31 ?_
        have hc9_2 : inPl L f [(oc1 fe3 (rk g0) (wd g0) (tw g0) (pa g0) (pb g0) (.ref lo3) (.ref lk3) fm3), (oc4 lk3 (kd g0) (st g0) (.ref r3) (gb g0) (it g0) we3)] := ⟨hfe3, hlk3, trivial⟩
        have hD0_2 := hD
        obtain ⟨T_2, hT_2, hP, hD⟩ := pl_oT hP hD hc9_2 (pwF hfe3.2 hlk3.2)
        obtain ⟨hP, hD⟩ := zre (W2 := ([_, _, _, _, _, _, _, _, _] ++ va_pl T_2 f)) hP hD rfl
        refine lv_iload_n hx hb dX10_isClash_34 rfl (lv_at hl 5 rfl) ?_
        obtain ⟨hPc, hDc, hFc, hI1⟩ := zi_sub (wc := [_, _, _, _]) hP hD hS hA [5, 6, 7, 8] (by decide +kernel) rfl
        refine zcall (st1 := [.ref r3]) (va_runV (As := [.int (nI g0)]) (rest := []) ⟨hx, hb, hml, hown, hts⟩ (k_Sheet_rowThere_yv l dC dI cI cZ cF H.size sh fa ft FA g0 fe3 lo3 (rk g0) (wd g0) (tw g0) (pa g0) (pb g0) lk3 (kd g0) (st g0) (gb g0) (it g0) we3 r3 fm3 (by first | with_reducible assumption | omega) (by first | with_reducible assumption | omega) (by first | exact hFA3 | exact hFA9 g0 (by first | with_reducible assumption | omega)) (by first | exact hsg | exact hA3 | omega)) (csV_144 hts rfl rfl ⟨Nat.le_of_ble_eq_true rfl, Nat.le_of_ble_eq_true rfl⟩) (zPV2 (q0 := 0) (ci := 7) hPc hDc hK3 hXN rfl rfl) rfl rfl hl.1 rfl (lv_room (Nat.le_of_ble_eq_true rfl)) dX10_isClash_35 ⟨Nat.le_of_ble_eq_true rfl, Nat.le_of_ble_eq_true rfl⟩) hS hFc hFc rfl (fun t H locs ht hB hk1 hS => ?_)
        obtain ⟨hP1, hD1⟩ := hB
        rw [ht] at hP1
        replace hP := z0 hP hD hk1 hP1 hI1
        clear hk1 hPc hDc hFc hP1 hD1 ht hI1
        obtain ⟨hP, hD⟩ := pl_bk (X := [_, _, _, _, _, _, _]) hT_2 hP rfl hc9_2 hD0_2 rfl
        refine lv_astore (lv' := [(7, .ref r3), (6, .null), (5, .ref fe3), (4, .ref fe2), (0, .ref x), (1, .int (nI f0)), (2, .int (nI g0)), (3, .int gp9)]) hx hb dX10_isClash_38 hl (Nat.le_of_ble_eq_true rfl) rfl (fun ls hl => ?_)
        refine lv_aload hx hb dX10_isClash_40 (lv_at hl 3 rfl) ?_
        refine lv_ifnull hx hb dX10_isClash_42 ?_
        refine lv_aload hx hb dX10_isClash_45 (lv_at hl 2 rfl) ?_
        refine lv_ifnull hx hb dX10_isClash_47 ?_
        refine lv_aloadN hx hb dX10_isClash_50 (lv_at hl 1 rfl) ?_
        refine lv_ifnullN (tgt := 60) hx hb dX10_isClash_52 rfl ?_
        refine lv_iconst (v := 0) hx hb dX10_isClash_60 rfl ?_
        obtain ⟨hP9, hD9⟩ := zu_part (cx := [_, _, _, _, _, _, _]) hP hD [true, true, true, true, true, true, true] rfl rfl
        rw [hQ9]
        exact W.zret (ty := .boolean) (v := 0) hx hb hr (rfl) (fun t ht hW => ⟨⟨_, rfl, 0, c1, c2, c3, c4, a1, a2, a3, a4, y1, y2, rfl, by rw [ht]; exact hP9, hD9⟩, hS.F ht⟩) hS.2.2 dX10_isClash_61
      · skip
        refine lv_aload_n hx hb dX10_isClash_10 rfl (lv_at hl 1 rfl) ?_
        refine va_get (D := (dC, dI)) (ci := 8) (v := .ref sh) (C := RX10) (T := TX10) (N := 13) hx hb hts inX10 hown hK hP 0 rfl rfl 0 (Nat.le_of_ble_eq_true rfl) (hts _ mw_309) (fun _ h9 => h9) rfl dX10_isClash_11 ?_
        refine lv_iload_n hx hb dX10_isClash_14 rfl (lv_at hl 3 rfl) ?_
        obtain ⟨hPc, hDc, hFc, hI1⟩ := zi_sub (wc := [_, _]) hP hD hS hA [5, 6] rfl rfl
        refine zcall (st1 := [.ref fe3]) (va_runV (As := [.int (nI g0)]) (rest := []) ⟨hx, hb, hml, hown, hts⟩ (k_Sheet_find l dC dI cI cZ cF H.size sh fa ft FA g0 fe3 (by first | with_reducible assumption | omega) (by first | with_reducible assumption | omega) (by first | exact hFA3 | exact hFA9 g0 (by first | with_reducible assumption | omega))) (csV_94 hts rfl rfl ⟨Nat.le_of_ble_eq_true rfl, Nat.le_of_ble_eq_true rfl⟩) (zPV2 (q0 := 0) (ci := 7) hPc hDc hK3 hXN rfl rfl) rfl rfl hl.1 rfl (lv_room (Nat.le_of_ble_eq_true rfl)) dX10_isClash_15 ⟨Nat.le_of_ble_eq_true rfl, Nat.le_of_ble_eq_true rfl⟩) hS hFc hFc rfl (fun t H locs ht hB hk1 hS => ?_)
        obtain ⟨hP1, hD1⟩ := hB
        rw [ht] at hP1
        replace hP := z0 hP hD hk1 hP1 hI1
        clear hk1 hPc hDc hFc hP1 hD1 ht hI1
        refine lv_astore (lv' := [(5, .ref fe3), (4, .ref fe2), (0, .ref x), (1, .int (nI f0)), (2, .int (nI g0)), (3, .int gp9)]) hx hb dX10_isClash_18 hl (Nat.le_of_ble_eq_true rfl) rfl (fun ls hl => ?_)
        refine lv_aload_n hx hb dX10_isClash_20 rfl (lv_at hl 2 rfl) ?_
        refine va_get (D := (dC, dI)) (ci := 8) (v := .ref sh) (C := RX10) (T := TX10) (N := 13) hx hb hts inX10 hown hK hP 0 rfl rfl 0 (Nat.le_of_ble_eq_true rfl) (hts _ mw_309) (fun _ h9 => h9) rfl dX10_isClash_21 ?_
        have hc9_1 : inPl L f [(oc1 fe2 (rk f0) (wd f0) (tw f0) (pa f0) (pb f0) (.ref lo2) (.ref lk2) fm2), (oc4 lk2 (kd f0) (st f0) (.ref r2) (gb f0) (it f0) we2)] := ⟨hfe2, hlk2, trivial⟩
        have hD0_1 := hD
        obtain ⟨T_1, hT_1, hP, hD⟩ := pl_oT hP hD hc9_1 (pwF hfe2.2 hlk2.2)
        obtain ⟨hP, hD⟩ := zre (W2 := ([_, _, _, _, _, _, _, _, _] ++ va_pl T_1 f)) hP hD rfl
        refine lv_iload_n hx hb dX10_isClash_24 rfl (lv_at hl 3 rfl) ?_
        obtain ⟨hPc, hDc, hFc, hI1⟩ := zi_sub (wc := [_, _, _, _]) hP hD hS hA [5, 6, 7, 8] (by decide +kernel) rfl
        refine zcall (st1 := [.null]) (va_runV (As := [.int (nI f0)]) (rest := []) ⟨hx, hb, hml, hown, hts⟩ (k_Sheet_rowThere_sv l dC dI cI cZ cF H.size sh fa ft FA f0 fe2 lo2 (rk f0) (wd f0) (tw f0) (pa f0) (pb f0) lk2 (kd f0) (st f0) (gb f0) (it f0) we2 fm2 (.ref r2) (by first | with_reducible assumption | omega) (by first | with_reducible assumption | omega) (by first | exact hFA2 | exact hFA9 f0 (by first | with_reducible assumption | omega)) (by first | exact hst | exact hA2 | omega)) (csV_144 hts rfl rfl ⟨Nat.le_of_ble_eq_true rfl, Nat.le_of_ble_eq_true rfl⟩) (zPV2 (q0 := 0) (ci := 7) hPc hDc hK3 hXN rfl rfl) rfl rfl hl.1 rfl (lv_room (Nat.le_of_ble_eq_true rfl)) dX10_isClash_25 ⟨Nat.le_of_ble_eq_true rfl, Nat.le_of_ble_eq_true rfl⟩) hS hFc hFc rfl (fun t H locs ht hB hk1 hS => ?_)
        obtain ⟨hP1, hD1⟩ := hB
        rw [ht] at hP1
        replace hP := z0 hP hD hk1 hP1 hI1
        clear hk1 hPc hDc hFc hP1 hD1 ht hI1
        obtain ⟨hP, hD⟩ := pl_bk (X := [_, _, _, _, _, _, _]) hT_1 hP rfl hc9_1 hD0_1 rfl
        refine lv_astoreN (lv' := [(6, .null), (5, .ref fe3), (4, .ref fe2), (0, .ref x), (1, .int (nI f0)), (2, .int (nI g0)), (3, .int gp9)]) hx hb dX10_isClash_28 hl (Nat.le_of_ble_eq_true rfl) rfl (fun ls hl => ?_)
        refine lv_aload_n hx hb dX10_isClash_30 rfl (lv_at hl 3 rfl) ?_
        refine va_get (D := (dC, dI)) (ci := 8) (v := .ref sh) (C := RX10) (T := TX10) (N := 13) hx hb hts inX10 hown hK hP 0 rfl rfl 0 (Nat.le_of_ble_eq_true rfl) (hts _ mw_309) (fun _ h9 => h9) rfl dX10_isClash_31 ?_
        have hc9_2 : inPl L f [(oc1 fe3 (rk g0) (wd g0) (tw g0) (pa g0) (pb g0) (.ref lo3) (.ref lk3) fm3), (oc4 lk3 (kd g0) (st g0) (.ref r3) (gb g0) (it g0) we3)] := ⟨hfe3, hlk3, trivial⟩
        have hD0_2 := hD
        obtain ⟨T_2, hT_2, hP, hD⟩ := pl_oT hP hD hc9_2 (pwF hfe3.2 hlk3.2)
        obtain ⟨hP, hD⟩ := zre (W2 := ([_, _, _, _, _, _, _, _, _] ++ va_pl T_2 f)) hP hD rfl
        refine lv_iload_n hx hb dX10_isClash_34 rfl (lv_at hl 5 rfl) ?_
        obtain ⟨hPc, hDc, hFc, hI1⟩ := zi_sub (wc := [_, _, _, _]) hP hD hS hA [5, 6, 7, 8] (by decide +kernel) rfl
        refine zcall (st1 := [.null]) (va_runV (As := [.int (nI g0)]) (rest := []) ⟨hx, hb, hml, hown, hts⟩ (k_Sheet_rowThere_sv l dC dI cI cZ cF H.size sh fa ft FA g0 fe3 lo3 (rk g0) (wd g0) (tw g0) (pa g0) (pb g0) lk3 (kd g0) (st g0) (gb g0) (it g0) we3 fm3 (.ref r3) (by first | with_reducible assumption | omega) (by first | with_reducible assumption | omega) (by first | exact hFA3 | exact hFA9 g0 (by first | with_reducible assumption | omega)) (by first | exact hsg | exact hA3 | omega)) (csV_144 hts rfl rfl ⟨Nat.le_of_ble_eq_true rfl, Nat.le_of_ble_eq_true rfl⟩) (zPV2 (q0 := 0) (ci := 7) hPc hDc hK3 hXN rfl rfl) rfl rfl hl.1 rfl (lv_room (Nat.le_of_ble_eq_true rfl)) dX10_isClash_35 ⟨Nat.le_of_ble_eq_true rfl, Nat.le_of_ble_eq_true rfl⟩) hS hFc hFc rfl (fun t H locs ht hB hk1 hS => ?_)
        obtain ⟨hP1, hD1⟩ := hB
        rw [ht] at hP1
        replace hP := z0 hP hD hk1 hP1 hI1
        clear hk1 hPc hDc hFc hP1 hD1 ht hI1
        obtain ⟨hP, hD⟩ := pl_bk (X := [_, _, _, _, _, _, _]) hT_2 hP rfl hc9_2 hD0_2 rfl
        refine lv_astoreN (lv' := [(7, .null), (6, .null), (5, .ref fe3), (4, .ref fe2), (0, .ref x), (1, .int (nI f0)), (2, .int (nI g0)), (3, .int gp9)]) hx hb dX10_isClash_38 hl (Nat.le_of_ble_eq_true rfl) rfl (fun ls hl => ?_)
        refine lv_aload hx hb dX10_isClash_40 (lv_at hl 3 rfl) ?_
        refine lv_ifnull hx hb dX10_isClash_42 ?_
        refine lv_aload hx hb dX10_isClash_45 (lv_at hl 2 rfl) ?_
        refine lv_ifnull hx hb dX10_isClash_47 ?_
        refine lv_aloadN hx hb dX10_isClash_50 (lv_at hl 1 rfl) ?_
        refine lv_ifnullN (tgt := 60) hx hb dX10_isClash_52 rfl ?_
        refine lv_iconst (v := 0) hx hb dX10_isClash_60 rfl ?_
        obtain ⟨hP9, hD9⟩ := zu_part (cx := [_, _, _, _, _, _, _]) hP hD [true, true, true, true, true, true, true] rfl rfl
        rw [hQ9]
        exact W.zret (ty := .boolean) (v := 0) hx hb hr (rfl) (fun t ht hW => ⟨⟨_, rfl, 0, c1, c2, c3, c4, a1, a2, a3, a4, y1, y2, rfl, by rw [ht]; exact hP9, hD9⟩, hS.F ht⟩) hS.2.2 dX10_isClash_61
set_option maxHeartbeats 4000000 in
set_option maxRecDepth 100000 in
theorem k_nextClash_a (l : Launch) (dC : Nat → ClassId) (dI : Nat → Nat → Nat) (cI cZ cF : ClassId) (sz : Nat) (cO : ClassId) (e0 : Nat) (mi : Nat) (x : Nat) (sh : Nat) (lw : Nat) (ro : Nat) (bq : Nat) (bp : Nat) (dq : Nat) (dp : Nat) (lv : Nat) (sl : Nat) (sd : Int32) (ul : Int32) (su : Int32) (ea : Nat) (mc9 : Int32) (fa : Nat) (FA : Nat → Option Nat) (bs : Nat) (dn : Nat) (T : Nat) (ft : Nat) (FT : Nat → Nat) (V : Nat → Nat → Nat → Int32) (VX : Nat → Nat → Int32) (VY : Nat → Nat → Int32) (tn : Nat → Int32) (rk : Nat → Int32) (wd : Nat → Int32) (tw : Nat → Int32) (pa : Nat → Int32) (pb : Nat → Int32) (wh : Nat → Int32) (of9 : Nat → Int32) (we : Nat → Int32) (kd : Nat → Int32) (st : Nat → Int32) (gb : Nat → Int32) (it : Nat → Int32) (mn : Nat → Int32) (cx : Nat → Int32) (cy : Nat → Int32) (L : List Nat) (f : Nat → va_E) (pr : Nat) (c1 : Int32) (c2 : Int32) (c3 : Int32) (c4 : Int32) (a1 : Int32) (a2 : Int32) (a3 : Int32) (a4 : Int32) (y1 : Int64) (y2 : Int64) (gp9 : Int32) (hB : shB cI cO L f e0 FA ea bs dn T ft FT V VX VY tn rk wd tw pa pb wh of9 we kd st gb it mn cx cy) (hwf : ∀ q, lvF ft st tn q → wfM mn cx cy q) (hkn : okN ft st tn kd mn) (hpr : pr ≤ 40200 ∧ pr / 200 ≤ pr % 200) : Met l yX10_nextClash (.code yX10_nextClash cX10_nextClash 7 (some .int) :: ws0) ({ frames := 5, cells := 0, slots := 0, locals := 132 } : Room) (va_Pc [.ref x, .int gp9, .int (nI pr)] (zPre (dC, dI) classes (zTyO cI cZ cF cO) ([(oc8 x (.ref sh) (.ref lw) (.ref ro) (.ref bq) (.ref bp) (.ref dq) (.ref dp) (.ref lv) (.ref sl) (nI dn) sd ul su), (oc10 sl mc9 (.ref ea) (nI T)), (oc0 bq c1 c2 c3 c4), (oc0 bp a1 a2 a3 a4), (oc2 dq y1 y2), (oc7 sh (.ref fa) (nI ft)), (oq fa cF 200 FA)] ++ va_pl L f) sz (zXL e0 mi (va_A ([(oc8 x (.ref sh) (.ref lw) (.ref ro) (.ref bq) (.ref bp) (.ref dq) (.ref dp) (.ref lv) (.ref sl) (nI dn) sd ul su), (oc10 sl mc9 (.ref ea) (nI T)), (oc0 bq c1 c2 c3 c4), (oc0 bp a1 a2 a3 a4), (oc2 dq y1 y2), (oc7 sh (.ref fa) (nI ft)), (oq fa cF 200 FA)] ++ va_pl L f) sz)))) (zQe (fun v9 t => ∃ (b9 : Int32), ∃ (c5 : Int32), ∃ (c6 : Int32), ∃ (c7 : Int32), ∃ (c8 : Int32), ∃ (a5 : Int32), ∃ (a6 : Int32), ∃ (a7 : Int32), ∃ (a8 : Int32), ∃ (y5 : Int64), ∃ (y6 : Int64), v9 = (some (.int b9)) ∧ (prC b9) ∧ va_P (dC, dI) classes ([(oc8 x (.ref sh) (.ref lw) (.ref ro) (.ref bq) (.ref bp) (.ref dq) (.ref dp) (.ref lv) (.ref sl) (nI dn) sd ul su), (oc10 sl mc9 (.ref ea) (nI T)), (oc0 bq c5 c6 c7 c8), (oc0 bp a5 a6 a7 a8), (oc2 dq y5 y6), (oc7 sh (.ref fa) (nI ft)), (oq fa cF 200 FA)] ++ va_pl L f) t.heap ∧ va_D (va_A ([(oc8 x (.ref sh) (.ref lw) (.ref ro) (.ref bq) (.ref bp) (.ref dq) (.ref dp) (.ref lv) (.ref sl) (nI dn) sd ul su), (oc10 sl mc9 (.ref ea) (nI T)), (oc0 bq c1 c2 c3 c4), (oc0 bp a1 a2 a3 a4), (oc2 dq y1 y2), (oc7 sh (.ref fa) (nI ft)), (oq fa cF 200 FA)] ++ va_pl L f) sz) ([(oc8 x (.ref sh) (.ref lw) (.ref ro) (.ref bq) (.ref bp) (.ref dq) (.ref dp) (.ref lv) (.ref sl) (nI dn) sd ul su), (oc10 sl mc9 (.ref ea) (nI T)), (oc0 bq c5 c6 c7 c8), (oc0 bp a5 a6 a7 a8), (oc2 dq y5 y6), (oc7 sh (.ref fa) (nI ft)), (oq fa cF 200 FA)] ++ va_pl L f)) (va_A ([(oc8 x (.ref sh) (.ref lw) (.ref ro) (.ref bq) (.ref bp) (.ref dq) (.ref dp) (.ref lv) (.ref sl) (nI dn) sd ul su), (oc10 sl mc9 (.ref ea) (nI T)), (oc0 bq c1 c2 c3 c4), (oc0 bp a1 a2 a3 a4), (oc2 dq y1 y2), (oc7 sh (.ref fa) (nI ft)), (oq fa cF 200 FA)] ++ va_pl L f) sz)) 0 0 (va_A ([(oc8 x (.ref sh) (.ref lw) (.ref ro) (.ref bq) (.ref bp) (.ref dq) (.ref dp) (.ref lv) (.ref sl) (nI dn) sd ul su), (oc10 sl mc9 (.ref ea) (nI T)), (oc0 bq c1 c2 c3 c4), (oc0 bp a1 a2 a3 a4), (oc2 dq y1 y2), (oc7 sh (.ref fa) (nI ft)), (oq fa cF 200 FA)] ++ va_pl L f) sz) := by
  refine Met.ofW (cc := cX10_nextClash) (maxL := 7) (ret := (some .int)) rfl rfl ?_
  intro p e s m args below meth c s₁ B hml hv
  obtain ⟨rfl, hsz, hP, hK, hD0, hXL⟩ := hv
  have hx := B.exec
  have hb := B.bytes
  have hr := B.returns
  have hts0 := atoms_spec (ws := .code yX10_nextClash cX10_nextClash 7 (some .int) :: ws0) B.pre
  have hts : ∀ w9 ∈ ws0, w9.before ([.ref x, .int gp9, .int (nI pr)] : List Value).toArray s = true := fun w9 h => hts0 w9 (List.mem_cons_of_mem _ h)
  have hown : s.vm.findClass "ScaleShop" = some m.cls := findClass_of_methodNamed B.named
  have hlocks := B.notSynchronized
  subst hsz
  have hD := hD0.self (sz := s.heap.size)
  clear hD0
  generalize hAe : va_A ([(oc8 x (.ref sh) (.ref lw) (.ref ro) (.ref bq) (.ref bp) (.ref dq) (.ref dp) (.ref lv) (.ref sl) (nI dn) sd ul su), (oc10 sl mc9 (.ref ea) (nI T)), (oc0 bq c1 c2 c3 c4), (oc0 bp a1 a2 a3 a4), (oc2 dq y1 y2), (oc7 sh (.ref fa) (nI ft)), (oq fa cF 200 FA)] ++ va_pl L f) s.heap.size = A at hD hXL ⊢
  have hA : ∀ q : Nat, s.heap.size ≤ q → A q := fun q h => by rw [← hAe]; exact Or.inr h
  clear hAe
  have hS : va_S A s.heap s.heap [] := va_S.rf
  have hXN := hXL.1
  have hK3 := hK.sub [0, 1, 2] rfl
  have hP : va_P (dC, dI) classes ([(oc8 x (.ref sh) (.ref lw) (.ref ro) (.ref bq) (.ref bp) (.ref dq) (.ref dp) (.ref lv) (.ref sl) (nI dn) sd ul su), (oc10 sl mc9 (.ref ea) (nI T)), (oc0 bq c1 c2 c3 c4), (oc0 bp a1 a2 a3 a4), (oc2 dq y1 y2), (oc7 sh (.ref fa) (nI ft)), (oq fa cF 200 FA)] ++ va_pl L f) s.heap := hP
  obtain ⟨Q9, hQ9⟩ : ∃ Q9 : State → Prop, Q9 = MQ below (zQe (fun v9 t => ∃ (b9 : Int32), ∃ (c5 : Int32), ∃ (c6 : Int32), ∃ (c7 : Int32), ∃ (c8 : Int32), ∃ (a5 : Int32), ∃ (a6 : Int32), ∃ (a7 : Int32), ∃ (a8 : Int32), ∃ (y5 : Int64), ∃ (y6 : Int64), v9 = (some (.int b9)) ∧ (prC b9) ∧ va_P (dC, dI) classes ([(oc8 x (.ref sh) (.ref lw) (.ref ro) (.ref bq) (.ref bp) (.ref dq) (.ref dp) (.ref lv) (.ref sl) (nI dn) sd ul su), (oc10 sl mc9 (.ref ea) (nI T)), (oc0 bq c5 c6 c7 c8), (oc0 bp a5 a6 a7 a8), (oc2 dq y5 y6), (oc7 sh (.ref fa) (nI ft)), (oq fa cF 200 FA)] ++ va_pl L f) t.heap ∧ va_D A ([(oc8 x (.ref sh) (.ref lw) (.ref ro) (.ref bq) (.ref bp) (.ref dq) (.ref dp) (.ref lv) (.ref sl) (nI dn) sd ul su), (oc10 sl mc9 (.ref ea) (nI T)), (oc0 bq c5 c6 c7 c8), (oc0 bp a5 a6 a7 a8), (oc2 dq y5 y6), (oc7 sh (.ref fa) (nI ft)), (oq fa cF 200 FA)] ++ va_pl L f)) A) ([.ref x, .int gp9, .int (nI pr)] : List Value).toArray s 0 0 A := ⟨_, rfl⟩
  rw [← hQ9]
  have hl := lv_entry ([.ref x, .int gp9, .int (nI pr)]) (n := 7) (Nat.le_of_ble_eq_true rfl)
  rw [lg_entry_eq]
  generalize (lg_sl ([.ref x, .int gp9, .int (nI pr)]) ++ List.replicate (7 - (lg_sl ([.ref x, .int gp9, .int (nI pr)])).length) Slot.unset).toArray = ls at hl ⊢
  have hl : lv_has ls 7 [(0, .ref x), (1, .int gp9), (2, .int (nI pr))] := hl
  have hG0 := hB
  obtain ⟨own0, fe0, cl0, la0, sp0, SA0, hG90, hH90, hft90, hO90⟩ := hG0
  have h200 : ft ≤ 200 := Nat.le_trans hG90.2.2.2.2.2.1.2.2.2.2.1 hG90.2.2.2.2.2.1.2.2.2.2.2
  refine lv_iload_n hx hb dX10_nextClash_0 rfl (lv_at hl 2 rfl) ?_
  refine lv_sipush (v := 200) hx hb dX10_nextClash_1 rfl ?_
  refine lv_idiv hx hb dX10_nextClash_4 (by decide) ?_
  refine zz_i (v := nI (pr / 200)) (zn_d200 (by omega)) ?_
  refine lv_istore_n (lv' := [(3, .int (nI (pr / 200))), (0, .ref x), (1, .int gp9), (2, .int (nI pr))]) hx hb dX10_nextClash_5 rfl hl (Nat.le_of_ble_eq_true rfl) rfl (fun ls hl => ?_)
  refine lv_iload_n hx hb dX10_nextClash_6 rfl (lv_at hl 0 rfl) ?_
  refine lv_istore (lv' := [(4, .int (nI (pr / 200))), (3, .int (nI (pr / 200))), (0, .ref x), (1, .int gp9), (2, .int (nI pr))]) hx hb dX10_nextClash_7 hl (Nat.le_of_ble_eq_true rfl) rfl (fun ls hl => ?_)
  have hl_9 : ∀ (n9 : Nat) (l5 : Nat) (u1 : Int32) (u2 : Int32) (u3 : Int32) (u4 : Int32) (u5 : Int32) (u6 : Int32) (u7 : Int32) (u8 : Int32) (w1 : Int64) (w2 : Int64) (H : Heap) (locs : List Loc) (ls : Array Slot), ft - l5 < n9 → (pr / 200 ≤ l5 ∧ l5 ≤ 300) → va_P (dC, dI) classes ([(oc8 x (.ref sh) (.ref lw) (.ref ro) (.ref bq) (.ref bp) (.ref dq) (.ref dp) (.ref lv) (.ref sl) (nI dn) sd ul su), (oc10 sl mc9 (.ref ea) (nI T)), (oc0 bq u1 u2 u3 u4), (oc0 bp u5 u6 u7 u8), (oc2 dq w1 w2), (oc7 sh (.ref fa) (nI ft)), (oq fa cF 200 FA)] ++ va_pl L f) H → va_D A ([(oc8 x (.ref sh) (.ref lw) (.ref ro) (.ref bq) (.ref bp) (.ref dq) (.ref dp) (.ref lv) (.ref sl) (nI dn) sd ul su), (oc10 sl mc9 (.ref ea) (nI T)), (oc0 bq u1 u2 u3 u4), (oc0 bp u5 u6 u7 u8), (oc2 dq w1 w2), (oc7 sh (.ref fa) (nI ft)), (oq fa cF 200 FA)] ++ va_pl L f) → va_S A s.heap H locs → lv_has ls 7 [(4, .int (nI l5)), (3, .int (nI (pr / 200))), (0, .ref x), (1, .int gp9), (2, .int (nI pr))] → W p l e ((headSpec (.code yX10_nextClash cX10_nextClash 7 (some .int) :: ws0) ({ frames := 5, cells := 0, slots := 0, locals := 132 } : Room)).room) s m ([.ref x, .int gp9, .int (nI pr)] : List Value).toArray below meth c H locs 0 0 Q9 (F0 m 9 ls []) := by
    intro n9
    induction n9 with
    | zero => intro l5 u1 u2 u3 u4 u5 u6 u7 u8 w1 w2 H locs ls hm; exact absurd hm (Nat.not_lt_zero _)
    | succ n9 ih_9 =>
      intro l5 u1 u2 u3 u4 u5 u6 u7 u8 w1 w2 H locs ls hm hl5 hP hD hS hl
      refine lv_iload hx hb dX10_nextClash_9 (lv_at hl 0 rfl) ?_
      refine lv_aload_n hx hb dX10_nextClash_11 rfl (lv_at hl 2 rfl) ?_
      refine va_get (D := (dC, dI)) (ci := 8) (v := .ref sh) (C := RX10) (T := TX10) (N := 13) hx hb hts inX10 hown hK hP 0 rfl rfl 0 (Nat.le_of_ble_eq_true rfl) (hts _ mw_309) (fun _ h9 => h9) rfl dX10_nextClash_12 ?_
      refine va_get (D := (dC, dI)) (ci := 7) (v := .int (nI ft)) (C := RX8) (T := TX8) (N := 2) hx hb hts inX8 hown hK hP 5 rfl rfl 1 (Nat.le_of_ble_eq_true rfl) (hts _ mw_140) (fun _ h9 => h9) rfl dX10_nextClash_15 ?_
      have b9_2 : zlt (l5) := show l5 < 2147483648 by omega
      have b9_3 : zlt (ft) := show ft < 2147483648 by omega
      refine lv_icmp_ge (tgt := 91) hx hb dX10_nextClash_18 rfl (fun c_1 => ?_) (fun c_1 => ?_)
      · have c_1 : ((ft : Nat) : Int) ≤ ((l5 : Nat) : Int) := zc_le (nI_toInt b9_3) (nI_toInt b9_2) c_1
        refine lv_iconst (v := (-1)) hx hb dX10_nextClash_91 rfl ?_
        obtain ⟨hP9, hD9⟩ := zu_part (cx := [_, _, _, _, _, _, _]) hP hD [true, true, true, true, true, true, true] rfl rfl
        rw [hQ9]
        exact W.iret (v := (-1)) hx hb hr (fun t ht hW => ⟨⟨_, rfl, (-1), u1, u2, u3, u4, u5, u6, u7, u8, w1, w2, rfl, (Or.inl rfl), by rw [ht]; exact hP9, hD9⟩, hS.F ht⟩) hS.2.2 dX10_nextClash_92
      · have c_1 : ((l5 : Nat) : Int) < ((ft : Nat) : Int) := zc_nle (nI_toInt b9_3) (nI_toInt b9_2) c_1
        refine lv_iload hx hb dX10_nextClash_21 (lv_at hl 0 rfl) ?_
        refine lv_iload_n hx hb dX10_nextClash_23 rfl (lv_at hl 1 rfl) ?_
        have b9_5 : zlt ((pr / 200)) := show (pr / 200) < 2147483648 by omega
        refine lv_icmp_ne (tgt := 35) hx hb dX10_nextClash_24 rfl (fun c_4 => ?_) (fun c_4 => ?_)
        · have c_4 : ¬ ((l5 : Nat) : Int) = ((pr / 200 : Nat) : Int) := zc_ne (nI_toInt b9_2) (nI_toInt b9_5) c_4
          refine lv_iload hx hb dX10_nextClash_35 (lv_at hl 0 rfl) ?_
          refine lv_istore (lv' := [(5, .int (nI l5)), (4, .int (nI l5)), (3, .int (nI (pr / 200))), (0, .ref x), (1, .int gp9), (2, .int (nI pr))]) hx hb dX10_nextClash_37 hl (Nat.le_of_ble_eq_true rfl) rfl (fun ls hl => ?_)
          refine lv_iload hx hb dX10_nextClash_39 (lv_at hl 0 rfl) ?_
          refine lv_iconst (v := 1) hx hb dX10_nextClash_41 rfl ?_
          refine lv_iadd hx hb dX10_nextClash_42 ?_
          refine zz_i (v := nI (l5 + 1)) (nI_add l5 1) ?_
          refine lv_istore (lv' := [(6, .int (nI (l5 + 1))), (5, .int (nI l5)), (4, .int (nI l5)), (3, .int (nI (pr / 200))), (0, .ref x), (1, .int gp9), (2, .int (nI pr))]) hx hb dX10_nextClash_43 hl (Nat.le_of_ble_eq_true rfl) rfl (fun ls hl => ?_)
          have hl_45 : ∀ (n9 : Nat) (h5 : Nat) (s1 : Int32) (s2 : Int32) (s3 : Int32) (s4 : Int32) (s5 : Int32) (s6 : Int32) (s7 : Int32) (s8 : Int32) (r1 : Int64) (r2 : Int64) (H : Heap) (locs : List Loc) (ls : Array Slot), ft - h5 < n9 → (l5 < h5 ∧ h5 ≤ 300) → va_P (dC, dI) classes ([(oc8 x (.ref sh) (.ref lw) (.ref ro) (.ref bq) (.ref bp) (.ref dq) (.ref dp) (.ref lv) (.ref sl) (nI dn) sd ul su), (oc10 sl mc9 (.ref ea) (nI T)), (oc0 bq s1 s2 s3 s4), (oc0 bp s5 s6 s7 s8), (oc2 dq r1 r2), (oc7 sh (.ref fa) (nI ft)), (oq fa cF 200 FA)] ++ va_pl L f) H → va_D A ([(oc8 x (.ref sh) (.ref lw) (.ref ro) (.ref bq) (.ref bp) (.ref dq) (.ref dp) (.ref lv) (.ref sl) (nI dn) sd ul su), (oc10 sl mc9 (.ref ea) (nI T)), (oc0 bq s1 s2 s3 s4), (oc0 bp s5 s6 s7 s8), (oc2 dq r1 r2), (oc7 sh (.ref fa) (nI ft)), (oq fa cF 200 FA)] ++ va_pl L f) → va_S A s.heap H locs → lv_has ls 7 [(6, .int (nI h5)), (5, .int (nI l5)), (4, .int (nI l5)), (3, .int (nI (pr / 200))), (0, .ref x), (1, .int gp9), (2, .int (nI pr))] → W p l e ((headSpec (.code yX10_nextClash cX10_nextClash 7 (some .int) :: ws0) ({ frames := 5, cells := 0, slots := 0, locals := 132 } : Room)).room) s m ([.ref x, .int gp9, .int (nI pr)] : List Value).toArray below meth c H locs 0 0 Q9 (F0 m 45 ls []) := by
            intro n9
            induction n9 with
            | zero => intro h5 s1 s2 s3 s4 s5 s6 s7 s8 r1 r2 H locs ls hm; exact absurd hm (Nat.not_lt_zero _)
            | succ n9 ih_45 =>
              intro h5 s1 s2 s3 s4 s5 s6 s7 s8 r1 r2 H locs ls hm hh5 hP hD hS hl
              refine lv_iload hx hb dX10_nextClash_45 (lv_at hl 0 rfl) ?_
              refine lv_aload_n hx hb dX10_nextClash_47 rfl (lv_at hl 4 rfl) ?_
              refine va_get (D := (dC, dI)) (ci := 8) (v := .ref sh) (C := RX10) (T := TX10) (N := 13) hx hb hts inX10 hown hK hP 0 rfl rfl 0 (Nat.le_of_ble_eq_true rfl) (hts _ mw_309) (fun _ h9 => h9) rfl dX10_nextClash_48 ?_
              refine va_get (D := (dC, dI)) (ci := 7) (v := .int (nI ft)) (C := RX8) (T := TX8) (N := 2) hx hb hts inX8 hown hK hP 5 rfl rfl 1 (Nat.le_of_ble_eq_true rfl) (hts _ mw_140) (fun _ h9 => h9) rfl dX10_nextClash_51 ?_
              have b9_7 : zlt (h5) := show h5 < 2147483648 by omega
              refine lv_icmp_ge (tgt := 85) hx hb dX10_nextClash_54 rfl (fun c_6 => ?_) (fun c_6 => ?_)
              · have c_6 : ((ft : Nat) : Int) ≤ ((h5 : Nat) : Int) := zc_le (nI_toInt b9_3) (nI_toInt b9_7) c_6
                refine lv_iinc (v := nI (l5 + 1)) (lv' := [(4, .int (nI (l5 + 1))), (6, .int (nI h5)), (5, .int (nI l5)), (3, .int (nI (pr / 200))), (0, .ref x), (1, .int gp9), (2, .int (nI pr))]) hx hb dX10_nextClash_85 hl (k := 2) rfl (nI_add l5 1) (Nat.le_of_ble_eq_true rfl) rfl (fun ls hl => ?_)
                refine lv_goto (tgt := 9) hx hb dX10_nextClash_88 rfl ?_
                exact ih_9 (l5 + 1) s1 s2 s3 s4 s5 s6 s7 s8 r1 r2 H locs ls (by first | with_reducible assumption | omega) (by first | with_reducible assumption | omega) hP hD hS (lv_sub hl [0, 3, 4, 5, 6] rfl)
              · have c_6 : ((h5 : Nat) : Int) < ((ft : Nat) : Int) := zc_nle (nI_toInt b9_3) (nI_toInt b9_7) c_6
                refine lv_aload_n hx hb dX10_nextClash_57 rfl (lv_at hl 4 rfl) ?_
                refine lv_iload hx hb dX10_nextClash_58 (lv_at hl 2 rfl) ?_
                refine lv_iload hx hb dX10_nextClash_60 (lv_at hl 0 rfl) ?_
                refine lv_iload_n hx hb dX10_nextClash_62 rfl (lv_at hl 5 rfl) ?_
                obtain ⟨hPc, hDc, hFc⟩ := zo_part (cx := [_, _, _, _, _, _, _]) hP hD hS hA [0, 1, 2, 3, 4, 5, 6] (by decide +kernel) rfl
                refine zcalle (va_runV (As := [.int (nI l5), .int (nI h5), .int gp9]) (rest := []) ⟨hx, hb, hml, hown, hts⟩ (k_isClash_a l dC dI cI cZ cF H.size cO e0 mi x sh lw ro bq bp dq dp lv sl sd ul su ea mc9 fa FA bs dn T ft FT V VX VY tn rk wd tw pa pb wh of9 we kd st gb it mn cx cy L f l5 h5 s1 s2 s3 s4 s5 s6 s7 s8 r1 r2 gp9 (hB) (by first | with_reducible assumption | omega) (by first | with_reducible assumption | omega) (by first | with_reducible assumption | omega) (hwf) (hkn)) (csV_159 hts rfl rfl ⟨Nat.le_of_ble_eq_true rfl, Nat.le_of_ble_eq_true rfl⟩) (zPVL (q0 := 0) (ci := 8) hPc hDc hK hXL hS hFc rfl rfl) rfl rfl hl.1 rfl (lv_room (Nat.le_of_ble_eq_true rfl)) dX10_nextClash_63 ⟨Nat.le_of_ble_eq_true rfl, Nat.le_of_ble_eq_true rfl⟩) hS hFc hFc (fun v9 t H locs ht hB hk1 hS => ?_)
                obtain ⟨c9, v1, v2, v3, v4, v5, v6, v7, v8, v9, w9, rfl, hP1, hD1⟩ := hB
                refine W.eq (g2 := F0 m 66 ls [.int c9]) rfl ?_
                rw [ht] at hP1
                obtain ⟨hP, hD⟩ := znP (W2 := [_, _, (oc0 bq v1 v2 v3 v4), (oc0 bp v5 v6 v7 v8), (oc2 dq v9 w9), _, _]) hP hD hk1 hFc hP1 hD1 [0, 1, 2, 3, 4, 5, 6] [] [false, false, false, false, false, false, false] [0, 1, 2, 3, 4, 5, 6] (by decide +kernel) rfl rfl rfl rfl rfl
                clear hk1 hPc hDc hFc hP1 hD1 ht
                refine lv_if_eq (tgt := 79) hx hb dX10_nextClash_66 rfl (fun c_8 => ?_) (fun c_8 => ?_)
                · have c_8 : c9.toInt = 0 := zc_eq rfl rfl c_8
                  refine lv_iinc (v := nI (h5 + 1)) (lv' := [(6, .int (nI (h5 + 1))), (5, .int (nI l5)), (4, .int (nI l5)), (3, .int (nI (pr / 200))), (0, .ref x), (1, .int gp9), (2, .int (nI pr))]) hx hb dX10_nextClash_79 hl (k := 0) rfl (nI_add h5 1) (Nat.le_of_ble_eq_true rfl) rfl (fun ls hl => ?_)
                  refine lv_goto (tgt := 45) hx hb dX10_nextClash_82 rfl ?_
                  exact ih_45 (h5 + 1) v1 v2 v3 v4 v5 v6 v7 v8 v9 w9 H locs ls (by first | with_reducible assumption | omega) (by first | with_reducible assumption | omega) hP hD hS (lv_sub hl [0, 1, 2, 3, 4, 5, 6] rfl)
                · have c_8 : ¬ c9.toInt = 0 := zc_ne rfl rfl c_8
                  refine lv_iload hx hb dX10_nextClash_69 (lv_at hl 2 rfl) ?_
                  refine lv_sipush (v := 200) hx hb dX10_nextClash_71 rfl ?_
                  refine lv_imul hx hb dX10_nextClash_74 ?_
                  refine zz_i (v := nI (l5 * 200)) (pk_mul l5 200) ?_
                  refine lv_iload hx hb dX10_nextClash_75 (lv_at hl 0 rfl) ?_
                  refine lv_iadd hx hb dX10_nextClash_77 ?_
                  refine zz_i (v := nI (l5 * 200 + h5)) (nI_add (l5 * 200) h5) ?_
                  obtain ⟨hP9, hD9⟩ := zu_part (cx := [_, _, _, _, _, _, _]) hP hD [true, true, true, true, true, true, true] rfl rfl
                  rw [hQ9]
                  exact W.iret (v := nI (l5 * 200 + h5)) hx hb hr (fun t ht hW => ⟨⟨_, rfl, (nI (l5 * 200 + h5)), v1, v2, v3, v4, v5, v6, v7, v8, v9, w9, rfl, (Or.inr ⟨l5 * 200 + h5, ⟨by omega, by omega⟩, rfl⟩), by rw [ht]; exact hP9, hD9⟩, hS.F ht⟩) hS.2.2 dX10_nextClash_78
          exact hl_45 _ (l5 + 1) u1 u2 u3 u4 u5 u6 u7 u8 w1 w2 H locs ls (Nat.lt_succ_self _) (by first | with_reducible assumption | omega) hP hD hS (lv_sub hl [0, 1, 2, 3, 4, 5, 6] rfl)
        · have c_4 : ((l5 : Nat) : Int) = ((pr / 200 : Nat) : Int) := zc_eq (nI_toInt b9_2) (nI_toInt b9_5) c_4
          refine lv_iload_n hx hb dX10_nextClash_27 rfl (lv_at hl 4 rfl) ?_
          refine lv_sipush (v := 200) hx hb dX10_nextClash_28 rfl ?_
          refine lv_irem hx hb dX10_nextClash_31 (by decide) ?_
          refine zz_i (v := nI (pr % 200)) (zn_r200 (by omega)) ?_
          refine lv_goto (tgt := 37) hx hb dX10_nextClash_32 rfl ?_
          refine lv_istore (lv' := [(5, .int (nI (pr % 200))), (4, .int (nI l5)), (3, .int (nI (pr / 200))), (0, .ref x), (1, .int gp9), (2, .int (nI pr))]) hx hb dX10_nextClash_37 hl (Nat.le_of_ble_eq_true rfl) rfl (fun ls hl => ?_)
          refine lv_iload hx hb dX10_nextClash_39 (lv_at hl 0 rfl) ?_
          refine lv_iconst (v := 1) hx hb dX10_nextClash_41 rfl ?_
          refine lv_iadd hx hb dX10_nextClash_42 ?_
          refine zz_i (v := nI ((pr % 200) + 1)) (nI_add (pr % 200) 1) ?_
          refine lv_istore (lv' := [(6, .int (nI ((pr % 200) + 1))), (5, .int (nI (pr % 200))), (4, .int (nI l5)), (3, .int (nI (pr / 200))), (0, .ref x), (1, .int gp9), (2, .int (nI pr))]) hx hb dX10_nextClash_43 hl (Nat.le_of_ble_eq_true rfl) rfl (fun ls hl => ?_)
          have hl_45 : ∀ (n9 : Nat) (h5 : Nat) (s1 : Int32) (s2 : Int32) (s3 : Int32) (s4 : Int32) (s5 : Int32) (s6 : Int32) (s7 : Int32) (s8 : Int32) (r1 : Int64) (r2 : Int64) (H : Heap) (locs : List Loc) (ls : Array Slot), ft - h5 < n9 → (l5 < h5 ∧ h5 ≤ 300) → va_P (dC, dI) classes ([(oc8 x (.ref sh) (.ref lw) (.ref ro) (.ref bq) (.ref bp) (.ref dq) (.ref dp) (.ref lv) (.ref sl) (nI dn) sd ul su), (oc10 sl mc9 (.ref ea) (nI T)), (oc0 bq s1 s2 s3 s4), (oc0 bp s5 s6 s7 s8), (oc2 dq r1 r2), (oc7 sh (.ref fa) (nI ft)), (oq fa cF 200 FA)] ++ va_pl L f) H → va_D A ([(oc8 x (.ref sh) (.ref lw) (.ref ro) (.ref bq) (.ref bp) (.ref dq) (.ref dp) (.ref lv) (.ref sl) (nI dn) sd ul su), (oc10 sl mc9 (.ref ea) (nI T)), (oc0 bq s1 s2 s3 s4), (oc0 bp s5 s6 s7 s8), (oc2 dq r1 r2), (oc7 sh (.ref fa) (nI ft)), (oq fa cF 200 FA)] ++ va_pl L f) → va_S A s.heap H locs → lv_has ls 7 [(6, .int (nI h5)), (5, .int (nI (pr % 200))), (4, .int (nI l5)), (3, .int (nI (pr / 200))), (0, .ref x), (1, .int gp9), (2, .int (nI pr))] → W p l e ((headSpec (.code yX10_nextClash cX10_nextClash 7 (some .int) :: ws0) ({ frames := 5, cells := 0, slots := 0, locals := 132 } : Room)).room) s m ([.ref x, .int gp9, .int (nI pr)] : List Value).toArray below meth c H locs 0 0 Q9 (F0 m 45 ls []) := by
            intro n9
            induction n9 with
            | zero => intro h5 s1 s2 s3 s4 s5 s6 s7 s8 r1 r2 H locs ls hm; exact absurd hm (Nat.not_lt_zero _)
            | succ n9 ih_45 =>
              intro h5 s1 s2 s3 s4 s5 s6 s7 s8 r1 r2 H locs ls hm hh5 hP hD hS hl
              refine lv_iload hx hb dX10_nextClash_45 (lv_at hl 0 rfl) ?_
              refine lv_aload_n hx hb dX10_nextClash_47 rfl (lv_at hl 4 rfl) ?_
              refine va_get (D := (dC, dI)) (ci := 8) (v := .ref sh) (C := RX10) (T := TX10) (N := 13) hx hb hts inX10 hown hK hP 0 rfl rfl 0 (Nat.le_of_ble_eq_true rfl) (hts _ mw_309) (fun _ h9 => h9) rfl dX10_nextClash_48 ?_
              refine va_get (D := (dC, dI)) (ci := 7) (v := .int (nI ft)) (C := RX8) (T := TX8) (N := 2) hx hb hts inX8 hown hK hP 5 rfl rfl 1 (Nat.le_of_ble_eq_true rfl) (hts _ mw_140) (fun _ h9 => h9) rfl dX10_nextClash_51 ?_
              have b9_10 : zlt (h5) := show h5 < 2147483648 by omega
              refine lv_icmp_ge (tgt := 85) hx hb dX10_nextClash_54 rfl (fun c_9 => ?_) (fun c_9 => ?_)
              · have c_9 : ((ft : Nat) : Int) ≤ ((h5 : Nat) : Int) := zc_le (nI_toInt b9_3) (nI_toInt b9_10) c_9
                refine lv_iinc (v := nI (l5 + 1)) (lv' := [(4, .int (nI (l5 + 1))), (6, .int (nI h5)), (5, .int (nI (pr % 200))), (3, .int (nI (pr / 200))), (0, .ref x), (1, .int gp9), (2, .int (nI pr))]) hx hb dX10_nextClash_85 hl (k := 2) rfl (nI_add l5 1) (Nat.le_of_ble_eq_true rfl) rfl (fun ls hl => ?_)
                refine lv_goto (tgt := 9) hx hb dX10_nextClash_88 rfl ?_
                exact ih_9 (l5 + 1) s1 s2 s3 s4 s5 s6 s7 s8 r1 r2 H locs ls (by first | with_reducible assumption | omega) (by first | with_reducible assumption | omega) hP hD hS (lv_sub hl [0, 3, 4, 5, 6] rfl)
              · have c_9 : ((h5 : Nat) : Int) < ((ft : Nat) : Int) := zc_nle (nI_toInt b9_3) (nI_toInt b9_10) c_9
                refine lv_aload_n hx hb dX10_nextClash_57 rfl (lv_at hl 4 rfl) ?_
                refine lv_iload hx hb dX10_nextClash_58 (lv_at hl 2 rfl) ?_
                refine lv_iload hx hb dX10_nextClash_60 (lv_at hl 0 rfl) ?_
                refine lv_iload_n hx hb dX10_nextClash_62 rfl (lv_at hl 5 rfl) ?_
                obtain ⟨hPc, hDc, hFc⟩ := zo_part (cx := [_, _, _, _, _, _, _]) hP hD hS hA [0, 1, 2, 3, 4, 5, 6] (by decide +kernel) rfl
                refine zcalle (va_runV (As := [.int (nI l5), .int (nI h5), .int gp9]) (rest := []) ⟨hx, hb, hml, hown, hts⟩ (k_isClash_a l dC dI cI cZ cF H.size cO e0 mi x sh lw ro bq bp dq dp lv sl sd ul su ea mc9 fa FA bs dn T ft FT V VX VY tn rk wd tw pa pb wh of9 we kd st gb it mn cx cy L f l5 h5 s1 s2 s3 s4 s5 s6 s7 s8 r1 r2 gp9 (hB) (by first | with_reducible assumption | omega) (by first | with_reducible assumption | omega) (by first | with_reducible assumption | omega) (hwf) (hkn)) (csV_159 hts rfl rfl ⟨Nat.le_of_ble_eq_true rfl, Nat.le_of_ble_eq_true rfl⟩) (zPVL (q0 := 0) (ci := 8) hPc hDc hK hXL hS hFc rfl rfl) rfl rfl hl.1 rfl (lv_room (Nat.le_of_ble_eq_true rfl)) dX10_nextClash_63 ⟨Nat.le_of_ble_eq_true rfl, Nat.le_of_ble_eq_true rfl⟩) hS hFc hFc (fun v9 t H locs ht hB hk1 hS => ?_)
                obtain ⟨c9, v1, v2, v3, v4, v5, v6, v7, v8, v9, w9, rfl, hP1, hD1⟩ := hB
                refine W.eq (g2 := F0 m 66 ls [.int c9]) rfl ?_
                rw [ht] at hP1
                obtain ⟨hP, hD⟩ := znP (W2 := [_, _, (oc0 bq v1 v2 v3 v4), (oc0 bp v5 v6 v7 v8), (oc2 dq v9 w9), _, _]) hP hD hk1 hFc hP1 hD1 [0, 1, 2, 3, 4, 5, 6] [] [false, false, false, false, false, false, false] [0, 1, 2, 3, 4, 5, 6] (by decide +kernel) rfl rfl rfl rfl rfl
                clear hk1 hPc hDc hFc hP1 hD1 ht
                refine lv_if_eq (tgt := 79) hx hb dX10_nextClash_66 rfl (fun c_11 => ?_) (fun c_11 => ?_)
                · have c_11 : c9.toInt = 0 := zc_eq rfl rfl c_11
                  refine lv_iinc (v := nI (h5 + 1)) (lv' := [(6, .int (nI (h5 + 1))), (5, .int (nI (pr % 200))), (4, .int (nI l5)), (3, .int (nI (pr / 200))), (0, .ref x), (1, .int gp9), (2, .int (nI pr))]) hx hb dX10_nextClash_79 hl (k := 0) rfl (nI_add h5 1) (Nat.le_of_ble_eq_true rfl) rfl (fun ls hl => ?_)
                  refine lv_goto (tgt := 45) hx hb dX10_nextClash_82 rfl ?_
                  exact ih_45 (h5 + 1) v1 v2 v3 v4 v5 v6 v7 v8 v9 w9 H locs ls (by first | with_reducible assumption | omega) (by first | with_reducible assumption | omega) hP hD hS (lv_sub hl [0, 1, 2, 3, 4, 5, 6] rfl)
                · have c_11 : ¬ c9.toInt = 0 := zc_ne rfl rfl c_11
                  refine lv_iload hx hb dX10_nextClash_69 (lv_at hl 2 rfl) ?_
                  refine lv_sipush (v := 200) hx hb dX10_nextClash_71 rfl ?_
                  refine lv_imul hx hb dX10_nextClash_74 ?_
                  refine zz_i (v := nI (l5 * 200)) (pk_mul l5 200) ?_
                  refine lv_iload hx hb dX10_nextClash_75 (lv_at hl 0 rfl) ?_
                  refine lv_iadd hx hb dX10_nextClash_77 ?_
                  refine zz_i (v := nI (l5 * 200 + h5)) (nI_add (l5 * 200) h5) ?_
                  obtain ⟨hP9, hD9⟩ := zu_part (cx := [_, _, _, _, _, _, _]) hP hD [true, true, true, true, true, true, true] rfl rfl
                  rw [hQ9]
                  exact W.iret (v := nI (l5 * 200 + h5)) hx hb hr (fun t ht hW => ⟨⟨_, rfl, (nI (l5 * 200 + h5)), v1, v2, v3, v4, v5, v6, v7, v8, v9, w9, rfl, (Or.inr ⟨l5 * 200 + h5, ⟨by omega, by omega⟩, rfl⟩), by rw [ht]; exact hP9, hD9⟩, hS.F ht⟩) hS.2.2 dX10_nextClash_78
          exact hl_45 _ ((pr % 200) + 1) u1 u2 u3 u4 u5 u6 u7 u8 w1 w2 H locs ls (Nat.lt_succ_self _) (by first | with_reducible assumption | omega) hP hD hS (lv_sub hl [0, 1, 2, 3, 4, 5, 6] rfl)
  exact hl_9 _ (pr / 200) c1 c2 c3 c4 a1 a2 a3 a4 y1 y2 s.heap [] ls (Nat.lt_succ_self _) (by first | with_reducible assumption | omega) hP hD hS (lv_sub hl [0, 1, 2, 3, 4] rfl)
set_option maxHeartbeats 4000000 in
set_option maxRecDepth 100000 in
theorem k_clashes_a (l : Launch) (dC : Nat → ClassId) (dI : Nat → Nat → Nat) (cI cZ cF : ClassId) (sz : Nat) (cO : ClassId) (e0 : Nat) (mi : Nat) (x : Nat) (sh : Nat) (lw : Nat) (ro : Nat) (bq : Nat) (bp : Nat) (dq : Nat) (dp : Nat) (lv : Nat) (sl : Nat) (sd : Int32) (ul : Int32) (su : Int32) (ea : Nat) (mc9 : Int32) (fa : Nat) (FA : Nat → Option Nat) (bs : Nat) (dn : Nat) (T : Nat) (ft : Nat) (FT : Nat → Nat) (V : Nat → Nat → Nat → Int32) (VX : Nat → Nat → Int32) (VY : Nat → Nat → Int32) (tn : Nat → Int32) (rk : Nat → Int32) (wd : Nat → Int32) (tw : Nat → Int32) (pa : Nat → Int32) (pb : Nat → Int32) (wh : Nat → Int32) (of9 : Nat → Int32) (we : Nat → Int32) (kd : Nat → Int32) (st : Nat → Int32) (gb : Nat → Int32) (it : Nat → Int32) (mn : Nat → Int32) (cx : Nat → Int32) (cy : Nat → Int32) (L : List Nat) (f : Nat → va_E) (c1 : Int32) (c2 : Int32) (c3 : Int32) (c4 : Int32) (a1 : Int32) (a2 : Int32) (a3 : Int32) (a4 : Int32) (y1 : Int64) (y2 : Int64) (gp9 : Int32) (hB : shB cI cO L f e0 FA ea bs dn T ft FT V VX VY tn rk wd tw pa pb wh of9 we kd st gb it mn cx cy) (hwf : ∀ q, lvF ft st tn q → wfM mn cx cy q) (hkn : okN ft st tn kd mn) : Met l yX10_clashes (.code yX10_clashes cX10_clashes 5 (some .int) :: ws0) ({ frames := 6, cells := 0, slots := 0, locals := 158 } : Room) (va_Pc [.ref x, .int gp9] (zPre (dC, dI) classes (zTyO cI cZ cF cO) ([(oc8 x (.ref sh) (.ref lw) (.ref ro) (.ref bq) (.ref bp) (.ref dq) (.ref dp) (.ref lv) (.ref sl) (nI dn) sd ul su), (oc10 sl mc9 (.ref ea) (nI T)), (oc0 bq c1 c2 c3 c4), (oc0 bp a1 a2 a3 a4), (oc2 dq y1 y2), (oc7 sh (.ref fa) (nI ft)), (oq fa cF 200 FA)] ++ va_pl L f) sz (zXL e0 mi (va_A ([(oc8 x (.ref sh) (.ref lw) (.ref ro) (.ref bq) (.ref bp) (.ref dq) (.ref dp) (.ref lv) (.ref sl) (nI dn) sd ul su), (oc10 sl mc9 (.ref ea) (nI T)), (oc0 bq c1 c2 c3 c4), (oc0 bp a1 a2 a3 a4), (oc2 dq y1 y2), (oc7 sh (.ref fa) (nI ft)), (oq fa cF 200 FA)] ++ va_pl L f) sz)))) (zQe (fun v9 t => ∃ (b9 : Int32), ∃ (c5 : Int32), ∃ (c6 : Int32), ∃ (c7 : Int32), ∃ (c8 : Int32), ∃ (a5 : Int32), ∃ (a6 : Int32), ∃ (a7 : Int32), ∃ (a8 : Int32), ∃ (y5 : Int64), ∃ (y6 : Int64), v9 = (some (.int b9)) ∧ va_P (dC, dI) classes ([(oc8 x (.ref sh) (.ref lw) (.ref ro) (.ref bq) (.ref bp) (.ref dq) (.ref dp) (.ref lv) (.ref sl) (nI dn) sd ul su), (oc10 sl mc9 (.ref ea) (nI T)), (oc0 bq c5 c6 c7 c8), (oc0 bp a5 a6 a7 a8), (oc2 dq y5 y6), (oc7 sh (.ref fa) (nI ft)), (oq fa cF 200 FA)] ++ va_pl L f) t.heap ∧ va_D (va_A ([(oc8 x (.ref sh) (.ref lw) (.ref ro) (.ref bq) (.ref bp) (.ref dq) (.ref dp) (.ref lv) (.ref sl) (nI dn) sd ul su), (oc10 sl mc9 (.ref ea) (nI T)), (oc0 bq c1 c2 c3 c4), (oc0 bp a1 a2 a3 a4), (oc2 dq y1 y2), (oc7 sh (.ref fa) (nI ft)), (oq fa cF 200 FA)] ++ va_pl L f) sz) ([(oc8 x (.ref sh) (.ref lw) (.ref ro) (.ref bq) (.ref bp) (.ref dq) (.ref dp) (.ref lv) (.ref sl) (nI dn) sd ul su), (oc10 sl mc9 (.ref ea) (nI T)), (oc0 bq c5 c6 c7 c8), (oc0 bp a5 a6 a7 a8), (oc2 dq y5 y6), (oc7 sh (.ref fa) (nI ft)), (oq fa cF 200 FA)] ++ va_pl L f)) (va_A ([(oc8 x (.ref sh) (.ref lw) (.ref ro) (.ref bq) (.ref bp) (.ref dq) (.ref dp) (.ref lv) (.ref sl) (nI dn) sd ul su), (oc10 sl mc9 (.ref ea) (nI T)), (oc0 bq c1 c2 c3 c4), (oc0 bp a1 a2 a3 a4), (oc2 dq y1 y2), (oc7 sh (.ref fa) (nI ft)), (oq fa cF 200 FA)] ++ va_pl L f) sz)) 0 0 (va_A ([(oc8 x (.ref sh) (.ref lw) (.ref ro) (.ref bq) (.ref bp) (.ref dq) (.ref dp) (.ref lv) (.ref sl) (nI dn) sd ul su), (oc10 sl mc9 (.ref ea) (nI T)), (oc0 bq c1 c2 c3 c4), (oc0 bp a1 a2 a3 a4), (oc2 dq y1 y2), (oc7 sh (.ref fa) (nI ft)), (oq fa cF 200 FA)] ++ va_pl L f) sz) := by
  refine Met.ofW (cc := cX10_clashes) (maxL := 5) (ret := (some .int)) rfl rfl ?_
  intro p e s m args below meth c s₁ B hml hv
  obtain ⟨rfl, hsz, hP, hK, hD0, hXL⟩ := hv
  have hx := B.exec
  have hb := B.bytes
  have hr := B.returns
  have hts0 := atoms_spec (ws := .code yX10_clashes cX10_clashes 5 (some .int) :: ws0) B.pre
  have hts : ∀ w9 ∈ ws0, w9.before ([.ref x, .int gp9] : List Value).toArray s = true := fun w9 h => hts0 w9 (List.mem_cons_of_mem _ h)
  have hown : s.vm.findClass "ScaleShop" = some m.cls := findClass_of_methodNamed B.named
  have hlocks := B.notSynchronized
  subst hsz
  have hD := hD0.self (sz := s.heap.size)
  clear hD0
  generalize hAe : va_A ([(oc8 x (.ref sh) (.ref lw) (.ref ro) (.ref bq) (.ref bp) (.ref dq) (.ref dp) (.ref lv) (.ref sl) (nI dn) sd ul su), (oc10 sl mc9 (.ref ea) (nI T)), (oc0 bq c1 c2 c3 c4), (oc0 bp a1 a2 a3 a4), (oc2 dq y1 y2), (oc7 sh (.ref fa) (nI ft)), (oq fa cF 200 FA)] ++ va_pl L f) s.heap.size = A at hD hXL ⊢
  have hA : ∀ q : Nat, s.heap.size ≤ q → A q := fun q h => by rw [← hAe]; exact Or.inr h
  clear hAe
  have hS : va_S A s.heap s.heap [] := va_S.rf
  have hXN := hXL.1
  have hK3 := hK.sub [0, 1, 2] rfl
  have hP : va_P (dC, dI) classes ([(oc8 x (.ref sh) (.ref lw) (.ref ro) (.ref bq) (.ref bp) (.ref dq) (.ref dp) (.ref lv) (.ref sl) (nI dn) sd ul su), (oc10 sl mc9 (.ref ea) (nI T)), (oc0 bq c1 c2 c3 c4), (oc0 bp a1 a2 a3 a4), (oc2 dq y1 y2), (oc7 sh (.ref fa) (nI ft)), (oq fa cF 200 FA)] ++ va_pl L f) s.heap := hP
  obtain ⟨Q9, hQ9⟩ : ∃ Q9 : State → Prop, Q9 = MQ below (zQe (fun v9 t => ∃ (b9 : Int32), ∃ (c5 : Int32), ∃ (c6 : Int32), ∃ (c7 : Int32), ∃ (c8 : Int32), ∃ (a5 : Int32), ∃ (a6 : Int32), ∃ (a7 : Int32), ∃ (a8 : Int32), ∃ (y5 : Int64), ∃ (y6 : Int64), v9 = (some (.int b9)) ∧ va_P (dC, dI) classes ([(oc8 x (.ref sh) (.ref lw) (.ref ro) (.ref bq) (.ref bp) (.ref dq) (.ref dp) (.ref lv) (.ref sl) (nI dn) sd ul su), (oc10 sl mc9 (.ref ea) (nI T)), (oc0 bq c5 c6 c7 c8), (oc0 bp a5 a6 a7 a8), (oc2 dq y5 y6), (oc7 sh (.ref fa) (nI ft)), (oq fa cF 200 FA)] ++ va_pl L f) t.heap ∧ va_D A ([(oc8 x (.ref sh) (.ref lw) (.ref ro) (.ref bq) (.ref bp) (.ref dq) (.ref dp) (.ref lv) (.ref sl) (nI dn) sd ul su), (oc10 sl mc9 (.ref ea) (nI T)), (oc0 bq c5 c6 c7 c8), (oc0 bp a5 a6 a7 a8), (oc2 dq y5 y6), (oc7 sh (.ref fa) (nI ft)), (oq fa cF 200 FA)] ++ va_pl L f)) A) ([.ref x, .int gp9] : List Value).toArray s 0 0 A := ⟨_, rfl⟩
  rw [← hQ9]
  have hl := lv_entry ([.ref x, .int gp9]) (n := 5) (Nat.le_of_ble_eq_true rfl)
  rw [lg_entry_eq]
  generalize (lg_sl ([.ref x, .int gp9]) ++ List.replicate (5 - (lg_sl ([.ref x, .int gp9])).length) Slot.unset).toArray = ls at hl ⊢
  have hl : lv_has ls 5 [(0, .ref x), (1, .int gp9)] := hl
  have hG0 := hB
  obtain ⟨own0, fe0, cl0, la0, sp0, SA0, hG90, hH90, hft90, hO90⟩ := hG0
  have h200 : ft ≤ 200 := Nat.le_trans hG90.2.2.2.2.2.1.2.2.2.2.1 hG90.2.2.2.2.2.1.2.2.2.2.2
  have e_0 : (0 : Int32).toInt = 0 := (by decide)
  have e_200 : (200 : Int32).toInt = 200 := (by decide)
  have e_1 : (1 : Int32).toInt = 1 := (by decide)
  have e_40000 : (40000 : Int32).toInt = 40000 := (by decide)
  refine lv_iload_n hx hb dX10_clashes_0 rfl (lv_at hl 1 rfl) ?_
  refine lv_iconst (v := 0) hx hb dX10_clashes_1 rfl ?_
  refine lv_sipush (v := 200) hx hb dX10_clashes_2 rfl ?_
  obtain ⟨hPc, hDc, hFc, hI1⟩ := zi_sub (wc := []) hP hD hS hA [] rfl rfl
  refine zcall (st1 := [.int (pI ((0 : Int32).toInt ≤ gp9.toInt ∧ gp9.toInt ≤ (200 : Int32).toInt))]) (va_runS (As := [.int gp9, .int 0, .int 200]) (rest := []) ⟨hx, hb, hml, hown, hts⟩ (k_isWithin l dC dI cI cZ cF s.heap.size gp9 0 200 ) (csS_14 hts rfl rfl ⟨Nat.le_of_ble_eq_true rfl, Nat.le_of_ble_eq_true rfl⟩) (zPS2 hPc hDc hK3 hXN) rfl rfl hl.1 rfl (lv_room (Nat.le_of_ble_eq_true rfl)) dX10_clashes_5 ⟨Nat.le_of_ble_eq_true rfl, Nat.le_of_ble_eq_true rfl⟩) hS hFc hFc rfl (fun t H locs ht hB hk1 hS => ?_)
  obtain ⟨hP1, hD1⟩ := hB
  rw [ht] at hP1
  replace hP := z0 hP hD hk1 hP1 hI1
  clear hk1 hPc hDc hFc hP1 hD1 ht hI1
  refine lv_if_ne (tgt := 13) hx hb dX10_clashes_8 rfl (fun c_1 => ?_) (fun c_1 => ?_)
  · have c_1 : (0 : Int32).toInt ≤ gp9.toInt ∧ gp9.toInt ≤ (200 : Int32).toInt := zp_1 c_1
    refine lv_iconst (v := 0) hx hb dX10_clashes_13 rfl ?_
    refine lv_istore_n (lv' := [(2, .int 0), (0, .ref x), (1, .int gp9)]) hx hb dX10_clashes_14 rfl hl (Nat.le_of_ble_eq_true rfl) rfl (fun ls hl => ?_)
    refine lv_aload_n hx hb dX10_clashes_15 rfl (lv_at hl 1 rfl) ?_
    refine lv_iload_n hx hb dX10_clashes_16 rfl (lv_at hl 2 rfl) ?_
    refine lv_iconst (v := 0) hx hb dX10_clashes_17 rfl ?_
    obtain ⟨hPc, hDc, hFc⟩ := zo_part (cx := [_, _, _, _, _, _, _]) hP hD hS hA [0, 1, 2, 3, 4, 5, 6] (by decide +kernel) rfl
    refine zcalle (va_runV (As := [.int gp9, .int 0]) (rest := []) ⟨hx, hb, hml, hown, hts⟩ (k_nextClash_a l dC dI cI cZ cF H.size cO e0 mi x sh lw ro bq bp dq dp lv sl sd ul su ea mc9 fa FA bs dn T ft FT V VX VY tn rk wd tw pa pb wh of9 we kd st gb it mn cx cy L f 0 c1 c2 c3 c4 a1 a2 a3 a4 y1 y2 gp9 (hB) (hwf) (hkn) (by first | with_reducible assumption | omega)) (csV_160 hts rfl rfl ⟨Nat.le_of_ble_eq_true rfl, Nat.le_of_ble_eq_true rfl⟩) (zPVL (q0 := 0) (ci := 8) hPc hDc hK hXL hS hFc rfl rfl) rfl rfl hl.1 rfl (lv_room (Nat.le_of_ble_eq_true rfl)) dX10_clashes_18 ⟨Nat.le_of_ble_eq_true rfl, Nat.le_of_ble_eq_true rfl⟩) hS hFc hFc (fun v9 t H locs ht hB hk1 hS => ?_)
    obtain ⟨za, v0a, v1a, v2a, v3a, v4a, v5a, v6a, v7a, w0a, w1a, rfl, hza, hP1, hD1⟩ := hB
    refine W.eq (g2 := F0 m 21 ls [.int za]) rfl ?_
    rw [ht] at hP1
    obtain ⟨hP, hD⟩ := znP (W2 := [_, _, (oc0 bq v0a v1a v2a v3a), (oc0 bp v4a v5a v6a v7a), (oc2 dq w0a w1a), _, _]) hP hD hk1 hFc hP1 hD1 [0, 1, 2, 3, 4, 5, 6] [] [false, false, false, false, false, false, false] [0, 1, 2, 3, 4, 5, 6] (by decide +kernel) rfl rfl rfl rfl rfl
    clear hk1 hPc hDc hFc hP1 hD1 ht
    refine lv_istore_n (lv' := [(3, .int za), (2, .int 0), (0, .ref x), (1, .int gp9)]) hx hb dX10_clashes_21 rfl hl (Nat.le_of_ble_eq_true rfl) rfl (fun ls hl => ?_)
    refine lv_iconst (v := 0) hx hb dX10_clashes_22 rfl ?_
    refine lv_istore (lv' := [(4, .int 0), (3, .int za), (2, .int 0), (0, .ref x), (1, .int gp9)]) hx hb dX10_clashes_23 hl (Nat.le_of_ble_eq_true rfl) rfl (fun ls hl => ?_)
    have hl_25 : ∀ (n9 : Nat) (i : Nat) (c5 : Nat) (z5 : Int32) (u1 : Int32) (u2 : Int32) (u3 : Int32) (u4 : Int32) (u5 : Int32) (u6 : Int32) (u7 : Int32) (u8 : Int32) (w1 : Int64) (w2 : Int64) (H : Heap) (locs : List Loc) (ls : Array Slot), 40000 - i < n9 → (i ≤ 40000) → (prC z5) → va_P (dC, dI) classes ([(oc8 x (.ref sh) (.ref lw) (.ref ro) (.ref bq) (.ref bp) (.ref dq) (.ref dp) (.ref lv) (.ref sl) (nI dn) sd ul su), (oc10 sl mc9 (.ref ea) (nI T)), (oc0 bq u1 u2 u3 u4), (oc0 bp u5 u6 u7 u8), (oc2 dq w1 w2), (oc7 sh (.ref fa) (nI ft)), (oq fa cF 200 FA)] ++ va_pl L f) H → va_D A ([(oc8 x (.ref sh) (.ref lw) (.ref ro) (.ref bq) (.ref bp) (.ref dq) (.ref dp) (.ref lv) (.ref sl) (nI dn) sd ul su), (oc10 sl mc9 (.ref ea) (nI T)), (oc0 bq u1 u2 u3 u4), (oc0 bp u5 u6 u7 u8), (oc2 dq w1 w2), (oc7 sh (.ref fa) (nI ft)), (oq fa cF 200 FA)] ++ va_pl L f) → va_S A s.heap H locs → lv_has ls 5 [(4, .int (nI i)), (3, .int z5), (2, .int (nI c5)), (0, .ref x), (1, .int gp9)] → W p l e ((headSpec (.code yX10_clashes cX10_clashes 5 (some .int) :: ws0) ({ frames := 6, cells := 0, slots := 0, locals := 158 } : Room)).room) s m ([.ref x, .int gp9] : List Value).toArray below meth c H locs 0 0 Q9 (F0 m 25 ls []) := by
      intro n9
      induction n9 with
      | zero => intro i c5 z5 u1 u2 u3 u4 u5 u6 u7 u8 w1 w2 H locs ls hm; exact absurd hm (Nat.not_lt_zero _)
      | succ n9 ih_25 =>
        intro i c5 z5 u1 u2 u3 u4 u5 u6 u7 u8 w1 w2 H locs ls hm hi hz hP hD hS hl
        refine lv_iload hx hb dX10_clashes_25 (lv_at hl 0 rfl) ?_
        refine lv_ldcw hx hb hown (hts _ mw_1100) dX10_clashes_27 ?_
        have b9_3 : zlt (i) := show i < 2147483648 by omega
        refine lv_icmp_ge (tgt := 54) hx hb dX10_clashes_30 rfl (fun c_2 => ?_) (fun c_2 => ?_)
        · have c_2 : 40000 ≤ ((i : Nat) : Int) := zc_le rfl (nI_toInt b9_3) c_2
          refine lv_iload_n hx hb dX10_clashes_54 rfl (lv_at hl 2 rfl) ?_
          obtain ⟨hP9, hD9⟩ := zu_part (cx := [_, _, _, _, _, _, _]) hP hD [true, true, true, true, true, true, true] rfl rfl
          rw [hQ9]
          exact W.iret (v := nI c5) hx hb hr (fun t ht hW => ⟨⟨_, rfl, (nI c5), u1, u2, u3, u4, u5, u6, u7, u8, w1, w2, rfl, by rw [ht]; exact hP9, hD9⟩, hS.F ht⟩) hS.2.2 dX10_clashes_55
        · have c_2 : ((i : Nat) : Int) < 40000 := zc_nle rfl (nI_toInt b9_3) c_2
          refine lv_iload_n hx hb dX10_clashes_33 rfl (lv_at hl 1 rfl) ?_
          refine lv_iconst (v := (-1)) hx hb dX10_clashes_34 rfl ?_
          refine lv_icmp_eq (tgt := 54) hx hb dX10_clashes_35 rfl (fun c_4 => ?_) (fun c_4 => ?_)
          · have c_4 : z5.toInt = (-1) := zc_eq rfl rfl c_4
            refine lv_iload_n hx hb dX10_clashes_54 rfl (lv_at hl 2 rfl) ?_
            obtain ⟨hP9, hD9⟩ := zu_part (cx := [_, _, _, _, _, _, _]) hP hD [true, true, true, true, true, true, true] rfl rfl
            rw [hQ9]
            exact W.iret (v := nI c5) hx hb hr (fun t ht hW => ⟨⟨_, rfl, (nI c5), u1, u2, u3, u4, u5, u6, u7, u8, w1, w2, rfl, by rw [ht]; exact hP9, hD9⟩, hS.F ht⟩) hS.2.2 dX10_clashes_55
          · have c_4 : ¬ z5.toInt = (-1) := zc_ne rfl rfl c_4
            obtain ⟨p5, hp5, hz5⟩ := prC_get hz (by first | with_reducible assumption | assumption)
            subst hz5
            refine lv_iinc (v := nI (c5 + 1)) (lv' := [(2, .int (nI (c5 + 1))), (4, .int (nI i)), (3, .int (nI p5)), (0, .ref x), (1, .int gp9)]) hx hb dX10_clashes_38 hl (k := 2) rfl (nI_add c5 1) (Nat.le_of_ble_eq_true rfl) rfl (fun ls hl => ?_)
            refine lv_aload_n hx hb dX10_clashes_41 rfl (lv_at hl 3 rfl) ?_
            refine lv_iload_n hx hb dX10_clashes_42 rfl (lv_at hl 4 rfl) ?_
            refine lv_iload_n hx hb dX10_clashes_43 rfl (lv_at hl 2 rfl) ?_
            obtain ⟨hPc, hDc, hFc⟩ := zo_part (cx := [_, _, _, _, _, _, _]) hP hD hS hA [0, 1, 2, 3, 4, 5, 6] (by decide +kernel) rfl
            refine zcalle (va_runV (As := [.int gp9, .int (nI p5)]) (rest := []) ⟨hx, hb, hml, hown, hts⟩ (k_nextClash_a l dC dI cI cZ cF H.size cO e0 mi x sh lw ro bq bp dq dp lv sl sd ul su ea mc9 fa FA bs dn T ft FT V VX VY tn rk wd tw pa pb wh of9 we kd st gb it mn cx cy L f p5 u1 u2 u3 u4 u5 u6 u7 u8 w1 w2 gp9 (hB) (hwf) (hkn) (by first | with_reducible assumption | omega)) (csV_160 hts rfl rfl ⟨Nat.le_of_ble_eq_true rfl, Nat.le_of_ble_eq_true rfl⟩) (zPVL (q0 := 0) (ci := 8) hPc hDc hK hXL hS hFc rfl rfl) rfl rfl hl.1 rfl (lv_room (Nat.le_of_ble_eq_true rfl)) dX10_clashes_44 ⟨Nat.le_of_ble_eq_true rfl, Nat.le_of_ble_eq_true rfl⟩) hS hFc hFc (fun v9 t H locs ht hB hk1 hS => ?_)
            obtain ⟨zb, v0b, v1b, v2b, v3b, v4b, v5b, v6b, v7b, w0b, w1b, rfl, hzb, hP1, hD1⟩ := hB
            refine W.eq (g2 := F0 m 47 ls [.int zb]) rfl ?_
            rw [ht] at hP1
            obtain ⟨hP, hD⟩ := znP (W2 := [_, _, (oc0 bq v0b v1b v2b v3b), (oc0 bp v4b v5b v6b v7b), (oc2 dq w0b w1b), _, _]) hP hD hk1 hFc hP1 hD1 [0, 1, 2, 3, 4, 5, 6] [] [false, false, false, false, false, false, false] [0, 1, 2, 3, 4, 5, 6] (by decide +kernel) rfl rfl rfl rfl rfl
            clear hk1 hPc hDc hFc hP1 hD1 ht
            refine lv_istore_n (lv' := [(3, .int zb), (2, .int (nI (c5 + 1))), (4, .int (nI i)), (0, .ref x), (1, .int gp9)]) hx hb dX10_clashes_47 rfl hl (Nat.le_of_ble_eq_true rfl) rfl (fun ls hl => ?_)
            refine lv_iinc (v := nI (i + 1)) (lv' := [(4, .int (nI (i + 1))), (3, .int zb), (2, .int (nI (c5 + 1))), (0, .ref x), (1, .int gp9)]) hx hb dX10_clashes_48 hl (k := 2) rfl (nI_add i 1) (Nat.le_of_ble_eq_true rfl) rfl (fun ls hl => ?_)
            refine lv_goto (tgt := 25) hx hb dX10_clashes_51 rfl ?_
            exact ih_25 (i + 1) (c5 + 1) zb v0b v1b v2b v3b v4b v5b v6b v7b w0b w1b H locs ls (by first | with_reducible assumption | omega) (by first | with_reducible assumption | omega) (hzb) hP hD hS (lv_sub hl [0, 1, 2, 3, 4] rfl)
    exact hl_25 _ 0 0 za v0a v1a v2a v3a v4a v5a v6a v7a w0a w1a H locs ls (Nat.lt_succ_self _) (by first | with_reducible assumption | omega) (hza) hP hD hS (lv_sub hl [0, 1, 2, 3, 4] rfl)
  · have c_1 : ¬ ((0 : Int32).toInt ≤ gp9.toInt ∧ gp9.toInt ≤ (200 : Int32).toInt) := zp_0 c_1
    refine lv_iconst (v := (-1)) hx hb dX10_clashes_11 rfl ?_
    obtain ⟨hP9, hD9⟩ := zu_part (cx := [_, _, _, _, _, _, _]) hP hD [true, true, true, true, true, true, true] rfl rfl
    rw [hQ9]
    exact W.iret (v := (-1)) hx hb hr (fun t ht hW => ⟨⟨_, rfl, (-1), c1, c2, c3, c4, a1, a2, a3, a4, y1, y2, rfl, by rw [ht]; exact hP9, hD9⟩, hS.F ht⟩) hS.2.2 dX10_clashes_12
set_option maxHeartbeats 4000000 in
set_option maxRecDepth 100000 in
theorem k_clash_a (l : Launch) (dC : Nat → ClassId) (dI : Nat → Nat → Nat) (cI cZ cF : ClassId) (sz : Nat) (cO : ClassId) (e0 : Nat) (mi : Nat) (x : Nat) (sh : Nat) (lw : Nat) (ro : Nat) (bq : Nat) (bp : Nat) (dq : Nat) (dp : Nat) (lv : Nat) (sl : Nat) (sd : Int32) (ul : Int32) (su : Int32) (ea : Nat) (mc9 : Int32) (fa : Nat) (FA : Nat → Option Nat) (bs : Nat) (dn : Nat) (T : Nat) (ft : Nat) (FT : Nat → Nat) (V : Nat → Nat → Nat → Int32) (VX : Nat → Nat → Int32) (VY : Nat → Nat → Int32) (tn : Nat → Int32) (rk : Nat → Int32) (wd : Nat → Int32) (tw : Nat → Int32) (pa : Nat → Int32) (pb : Nat → Int32) (wh : Nat → Int32) (of9 : Nat → Int32) (we : Nat → Int32) (kd : Nat → Int32) (st : Nat → Int32) (gb : Nat → Int32) (it : Nat → Int32) (mn : Nat → Int32) (cx : Nat → Int32) (cy : Nat → Int32) (L : List Nat) (f : Nat → va_E) (c1 : Int32) (c2 : Int32) (c3 : Int32) (c4 : Int32) (a1 : Int32) (a2 : Int32) (a3 : Int32) (a4 : Int32) (y1 : Int64) (y2 : Int64) (gp9 : Int32) (iv : Int32) (wv : Int32) (hB : shB cI cO L f e0 FA ea bs dn T ft FT V VX VY tn rk wd tw pa pb wh of9 we kd st gb it mn cx cy) (hwf : ∀ q, lvF ft st tn q → wfM mn cx cy q) (hkn : okN ft st tn kd mn) : Met l yX10_clash (.code yX10_clash cX10_clash 6 (some .int) :: ws0) ({ frames := 6, cells := 0, slots := 0, locals := 158 } : Room) (va_Pc [.ref x, .int gp9, .int iv, .int wv] (zPre (dC, dI) classes (zTyO cI cZ cF cO) ([(oc8 x (.ref sh) (.ref lw) (.ref ro) (.ref bq) (.ref bp) (.ref dq) (.ref dp) (.ref lv) (.ref sl) (nI dn) sd ul su), (oc10 sl mc9 (.ref ea) (nI T)), (oc0 bq c1 c2 c3 c4), (oc0 bp a1 a2 a3 a4), (oc2 dq y1 y2), (oc7 sh (.ref fa) (nI ft)), (oq fa cF 200 FA)] ++ va_pl L f) sz (zXL e0 mi (va_A ([(oc8 x (.ref sh) (.ref lw) (.ref ro) (.ref bq) (.ref bp) (.ref dq) (.ref dp) (.ref lv) (.ref sl) (nI dn) sd ul su), (oc10 sl mc9 (.ref ea) (nI T)), (oc0 bq c1 c2 c3 c4), (oc0 bp a1 a2 a3 a4), (oc2 dq y1 y2), (oc7 sh (.ref fa) (nI ft)), (oq fa cF 200 FA)] ++ va_pl L f) sz)))) (zQe (fun v9 t => ∃ (b9 : Int32), ∃ (c5 : Int32), ∃ (c6 : Int32), ∃ (c7 : Int32), ∃ (c8 : Int32), ∃ (a5 : Int32), ∃ (a6 : Int32), ∃ (a7 : Int32), ∃ (a8 : Int32), ∃ (y5 : Int64), ∃ (y6 : Int64), v9 = (some (.int b9)) ∧ va_P (dC, dI) classes ([(oc8 x (.ref sh) (.ref lw) (.ref ro) (.ref bq) (.ref bp) (.ref dq) (.ref dp) (.ref lv) (.ref sl) (nI dn) sd ul su), (oc10 sl mc9 (.ref ea) (nI T)), (oc0 bq c5 c6 c7 c8), (oc0 bp a5 a6 a7 a8), (oc2 dq y5 y6), (oc7 sh (.ref fa) (nI ft)), (oq fa cF 200 FA)] ++ va_pl L f) t.heap ∧ va_D (va_A ([(oc8 x (.ref sh) (.ref lw) (.ref ro) (.ref bq) (.ref bp) (.ref dq) (.ref dp) (.ref lv) (.ref sl) (nI dn) sd ul su), (oc10 sl mc9 (.ref ea) (nI T)), (oc0 bq c1 c2 c3 c4), (oc0 bp a1 a2 a3 a4), (oc2 dq y1 y2), (oc7 sh (.ref fa) (nI ft)), (oq fa cF 200 FA)] ++ va_pl L f) sz) ([(oc8 x (.ref sh) (.ref lw) (.ref ro) (.ref bq) (.ref bp) (.ref dq) (.ref dp) (.ref lv) (.ref sl) (nI dn) sd ul su), (oc10 sl mc9 (.ref ea) (nI T)), (oc0 bq c5 c6 c7 c8), (oc0 bp a5 a6 a7 a8), (oc2 dq y5 y6), (oc7 sh (.ref fa) (nI ft)), (oq fa cF 200 FA)] ++ va_pl L f)) (va_A ([(oc8 x (.ref sh) (.ref lw) (.ref ro) (.ref bq) (.ref bp) (.ref dq) (.ref dp) (.ref lv) (.ref sl) (nI dn) sd ul su), (oc10 sl mc9 (.ref ea) (nI T)), (oc0 bq c1 c2 c3 c4), (oc0 bp a1 a2 a3 a4), (oc2 dq y1 y2), (oc7 sh (.ref fa) (nI ft)), (oq fa cF 200 FA)] ++ va_pl L f) sz)) 0 0 (va_A ([(oc8 x (.ref sh) (.ref lw) (.ref ro) (.ref bq) (.ref bp) (.ref dq) (.ref dp) (.ref lv) (.ref sl) (nI dn) sd ul su), (oc10 sl mc9 (.ref ea) (nI T)), (oc0 bq c1 c2 c3 c4), (oc0 bp a1 a2 a3 a4), (oc2 dq y1 y2), (oc7 sh (.ref fa) (nI ft)), (oq fa cF 200 FA)] ++ va_pl L f) sz) := by
  refine Met.ofW (cc := cX10_clash) (maxL := 6) (ret := (some .int)) rfl rfl ?_
  intro p e s m args below meth c s₁ B hml hv
  obtain ⟨rfl, hsz, hP, hK, hD0, hXL⟩ := hv
  have hx := B.exec
  have hb := B.bytes
  have hr := B.returns
  have hts0 := atoms_spec (ws := .code yX10_clash cX10_clash 6 (some .int) :: ws0) B.pre
  have hts : ∀ w9 ∈ ws0, w9.before ([.ref x, .int gp9, .int iv, .int wv] : List Value).toArray s = true := fun w9 h => hts0 w9 (List.mem_cons_of_mem _ h)
  have hown : s.vm.findClass "ScaleShop" = some m.cls := findClass_of_methodNamed B.named
  have hlocks := B.notSynchronized
  subst hsz
  have hD := hD0.self (sz := s.heap.size)
  clear hD0
  generalize hAe : va_A ([(oc8 x (.ref sh) (.ref lw) (.ref ro) (.ref bq) (.ref bp) (.ref dq) (.ref dp) (.ref lv) (.ref sl) (nI dn) sd ul su), (oc10 sl mc9 (.ref ea) (nI T)), (oc0 bq c1 c2 c3 c4), (oc0 bp a1 a2 a3 a4), (oc2 dq y1 y2), (oc7 sh (.ref fa) (nI ft)), (oq fa cF 200 FA)] ++ va_pl L f) s.heap.size = A at hD hXL ⊢
  have hA : ∀ q : Nat, s.heap.size ≤ q → A q := fun q h => by rw [← hAe]; exact Or.inr h
  clear hAe
  have hS : va_S A s.heap s.heap [] := va_S.rf
  have hXN := hXL.1
  have hK3 := hK.sub [0, 1, 2] rfl
  have hP : va_P (dC, dI) classes ([(oc8 x (.ref sh) (.ref lw) (.ref ro) (.ref bq) (.ref bp) (.ref dq) (.ref dp) (.ref lv) (.ref sl) (nI dn) sd ul su), (oc10 sl mc9 (.ref ea) (nI T)), (oc0 bq c1 c2 c3 c4), (oc0 bp a1 a2 a3 a4), (oc2 dq y1 y2), (oc7 sh (.ref fa) (nI ft)), (oq fa cF 200 FA)] ++ va_pl L f) s.heap := hP
  obtain ⟨Q9, hQ9⟩ : ∃ Q9 : State → Prop, Q9 = MQ below (zQe (fun v9 t => ∃ (b9 : Int32), ∃ (c5 : Int32), ∃ (c6 : Int32), ∃ (c7 : Int32), ∃ (c8 : Int32), ∃ (a5 : Int32), ∃ (a6 : Int32), ∃ (a7 : Int32), ∃ (a8 : Int32), ∃ (y5 : Int64), ∃ (y6 : Int64), v9 = (some (.int b9)) ∧ va_P (dC, dI) classes ([(oc8 x (.ref sh) (.ref lw) (.ref ro) (.ref bq) (.ref bp) (.ref dq) (.ref dp) (.ref lv) (.ref sl) (nI dn) sd ul su), (oc10 sl mc9 (.ref ea) (nI T)), (oc0 bq c5 c6 c7 c8), (oc0 bp a5 a6 a7 a8), (oc2 dq y5 y6), (oc7 sh (.ref fa) (nI ft)), (oq fa cF 200 FA)] ++ va_pl L f) t.heap ∧ va_D A ([(oc8 x (.ref sh) (.ref lw) (.ref ro) (.ref bq) (.ref bp) (.ref dq) (.ref dp) (.ref lv) (.ref sl) (nI dn) sd ul su), (oc10 sl mc9 (.ref ea) (nI T)), (oc0 bq c5 c6 c7 c8), (oc0 bp a5 a6 a7 a8), (oc2 dq y5 y6), (oc7 sh (.ref fa) (nI ft)), (oq fa cF 200 FA)] ++ va_pl L f)) A) ([.ref x, .int gp9, .int iv, .int wv] : List Value).toArray s 0 0 A := ⟨_, rfl⟩
  rw [← hQ9]
  have hl := lv_entry ([.ref x, .int gp9, .int iv, .int wv]) (n := 6) (Nat.le_of_ble_eq_true rfl)
  rw [lg_entry_eq]
  generalize (lg_sl ([.ref x, .int gp9, .int iv, .int wv]) ++ List.replicate (6 - (lg_sl ([.ref x, .int gp9, .int iv, .int wv])).length) Slot.unset).toArray = ls at hl ⊢
  have hl : lv_has ls 6 [(0, .ref x), (1, .int gp9), (2, .int iv), (3, .int wv)] := hl
  have hG0 := hB
  obtain ⟨own0, fe0, cl0, la0, sp0, SA0, hG90, hH90, hft90, hO90⟩ := hG0
  have h200 : ft ≤ 200 := Nat.le_trans hG90.2.2.2.2.2.1.2.2.2.2.1 hG90.2.2.2.2.2.1.2.2.2.2.2
  have e_0 : (0 : Int32).toInt = 0 := (by decide)
  have e_200 : (200 : Int32).toInt = 200 := (by decide)
  have e_1 : (1 : Int32).toInt = 1 := (by decide)
  have e_40000 : (40000 : Int32).toInt = 40000 := (by decide)
  refine lv_iload_n hx hb dX10_clash_0 rfl (lv_at hl 1 rfl) ?_
  refine lv_iconst (v := 0) hx hb dX10_clash_1 rfl ?_
  refine lv_sipush (v := 200) hx hb dX10_clash_2 rfl ?_
  obtain ⟨hPc, hDc, hFc, hI1⟩ := zi_sub (wc := []) hP hD hS hA [] rfl rfl
  refine zcall (st1 := [.int (pI ((0 : Int32).toInt ≤ gp9.toInt ∧ gp9.toInt ≤ (200 : Int32).toInt))]) (va_runS (As := [.int gp9, .int 0, .int 200]) (rest := []) ⟨hx, hb, hml, hown, hts⟩ (k_isWithin l dC dI cI cZ cF s.heap.size gp9 0 200 ) (csS_14 hts rfl rfl ⟨Nat.le_of_ble_eq_true rfl, Nat.le_of_ble_eq_true rfl⟩) (zPS2 hPc hDc hK3 hXN) rfl rfl hl.1 rfl (lv_room (Nat.le_of_ble_eq_true rfl)) dX10_clash_5 ⟨Nat.le_of_ble_eq_true rfl, Nat.le_of_ble_eq_true rfl⟩) hS hFc hFc rfl (fun t H locs ht hB hk1 hS => ?_)
  obtain ⟨hP1, hD1⟩ := hB
  rw [ht] at hP1
  replace hP := z0 hP hD hk1 hP1 hI1
  clear hk1 hPc hDc hFc hP1 hD1 ht hI1
  refine lv_if_eq (tgt := 22) hx hb dX10_clash_8 rfl (fun c_1 => ?_) (fun c_1 => ?_)
  · have c_1 : ¬ ((0 : Int32).toInt ≤ gp9.toInt ∧ gp9.toInt ≤ (200 : Int32).toInt) := zp_0 c_1
    refine lv_iconst (v := (-1)) hx hb dX10_clash_22 rfl ?_
    obtain ⟨hP9, hD9⟩ := zu_part (cx := [_, _, _, _, _, _, _]) hP hD [true, true, true, true, true, true, true] rfl rfl
    rw [hQ9]
    exact W.iret (v := (-1)) hx hb hr (fun t ht hW => ⟨⟨_, rfl, (-1), c1, c2, c3, c4, a1, a2, a3, a4, y1, y2, rfl, by rw [ht]; exact hP9, hD9⟩, hS.F ht⟩) hS.2.2 dX10_clash_23
  · have c_1 : (0 : Int32).toInt ≤ gp9.toInt ∧ gp9.toInt ≤ (200 : Int32).toInt := zp_1 c_1
    refine lv_iload_n hx hb dX10_clash_11 rfl (lv_at hl 2 rfl) ?_
    refine lv_iconst (v := 0) hx hb dX10_clash_12 rfl ?_
    refine lv_ldcw hx hb hown (hts _ mw_1100) dX10_clash_13 ?_
    obtain ⟨hPc, hDc, hFc, hI1⟩ := zi_sub (wc := []) hP hD hS hA [] rfl rfl
    refine zcall (st1 := [.int (pI ((0 : Int32).toInt ≤ iv.toInt ∧ iv.toInt ≤ (40000 : Int32).toInt))]) (va_runS (As := [.int iv, .int 0, .int 40000]) (rest := []) ⟨hx, hb, hml, hown, hts⟩ (k_isWithin l dC dI cI cZ cF H.size iv 0 40000 ) (csS_14 hts rfl rfl ⟨Nat.le_of_ble_eq_true rfl, Nat.le_of_ble_eq_true rfl⟩) (zPS2 hPc hDc hK3 hXN) rfl rfl hl.1 rfl (lv_room (Nat.le_of_ble_eq_true rfl)) dX10_clash_16 ⟨Nat.le_of_ble_eq_true rfl, Nat.le_of_ble_eq_true rfl⟩) hS hFc hFc rfl (fun t H locs ht hB hk1 hS => ?_)
    obtain ⟨hP1, hD1⟩ := hB
    rw [ht] at hP1
    replace hP := z0 hP hD hk1 hP1 hI1
    clear hk1 hPc hDc hFc hP1 hD1 ht hI1
    refine lv_if_ne (tgt := 24) hx hb dX10_clash_19 rfl (fun c_2 => ?_) (fun c_2 => ?_)
    · have c_2 : (0 : Int32).toInt ≤ iv.toInt ∧ iv.toInt ≤ (40000 : Int32).toInt := zp_1 c_2
      refine lv_iload_n hx hb dX10_clash_24 rfl (lv_at hl 3 rfl) ?_
      refine lv_iconst (v := 0) hx hb dX10_clash_25 rfl ?_
      refine lv_iconst (v := 1) hx hb dX10_clash_26 rfl ?_
      obtain ⟨hPc, hDc, hFc, hI1⟩ := zi_sub (wc := []) hP hD hS hA [] rfl rfl
      refine zcall (st1 := [.int (pI ((0 : Int32).toInt ≤ wv.toInt ∧ wv.toInt ≤ (1 : Int32).toInt))]) (va_runS (As := [.int wv, .int 0, .int 1]) (rest := []) ⟨hx, hb, hml, hown, hts⟩ (k_isWithin l dC dI cI cZ cF H.size wv 0 1 ) (csS_14 hts rfl rfl ⟨Nat.le_of_ble_eq_true rfl, Nat.le_of_ble_eq_true rfl⟩) (zPS2 hPc hDc hK3 hXN) rfl rfl hl.1 rfl (lv_room (Nat.le_of_ble_eq_true rfl)) dX10_clash_27 ⟨Nat.le_of_ble_eq_true rfl, Nat.le_of_ble_eq_true rfl⟩) hS hFc hFc rfl (fun t H locs ht hB hk1 hS => ?_)
      obtain ⟨hP1, hD1⟩ := hB
      rw [ht] at hP1
      replace hP := z0 hP hD hk1 hP1 hI1
      clear hk1 hPc hDc hFc hP1 hD1 ht hI1
      refine lv_if_ne (tgt := 35) hx hb dX10_clash_30 rfl (fun c_3 => ?_) (fun c_3 => ?_)
      · have c_3 : (0 : Int32).toInt ≤ wv.toInt ∧ wv.toInt ≤ (1 : Int32).toInt := zp_1 c_3
        refine lv_aload_n hx hb dX10_clash_35 rfl (lv_at hl 0 rfl) ?_
        refine lv_iload_n hx hb dX10_clash_36 rfl (lv_at hl 1 rfl) ?_
        refine lv_iconst (v := 0) hx hb dX10_clash_37 rfl ?_
        obtain ⟨hPc, hDc, hFc⟩ := zo_part (cx := [_, _, _, _, _, _, _]) hP hD hS hA [0, 1, 2, 3, 4, 5, 6] (by decide +kernel) rfl
        refine zcalle (va_runV (As := [.int gp9, .int 0]) (rest := []) ⟨hx, hb, hml, hown, hts⟩ (k_nextClash_a l dC dI cI cZ cF H.size cO e0 mi x sh lw ro bq bp dq dp lv sl sd ul su ea mc9 fa FA bs dn T ft FT V VX VY tn rk wd tw pa pb wh of9 we kd st gb it mn cx cy L f 0 c1 c2 c3 c4 a1 a2 a3 a4 y1 y2 gp9 (hB) (hwf) (hkn) (by first | with_reducible assumption | omega)) (csV_160 hts rfl rfl ⟨Nat.le_of_ble_eq_true rfl, Nat.le_of_ble_eq_true rfl⟩) (zPVL (q0 := 0) (ci := 8) hPc hDc hK hXL hS hFc rfl rfl) rfl rfl hl.1 rfl (lv_room (Nat.le_of_ble_eq_true rfl)) dX10_clash_38 ⟨Nat.le_of_ble_eq_true rfl, Nat.le_of_ble_eq_true rfl⟩) hS hFc hFc (fun v9 t H locs ht hB hk1 hS => ?_)
        obtain ⟨za, v0a, v1a, v2a, v3a, v4a, v5a, v6a, v7a, w0a, w1a, rfl, hza, hP1, hD1⟩ := hB
        refine W.eq (g2 := F0 m 41 ls [.int za]) rfl ?_
        rw [ht] at hP1
        obtain ⟨hP, hD⟩ := znP (W2 := [_, _, (oc0 bq v0a v1a v2a v3a), (oc0 bp v4a v5a v6a v7a), (oc2 dq w0a w1a), _, _]) hP hD hk1 hFc hP1 hD1 [0, 1, 2, 3, 4, 5, 6] [] [false, false, false, false, false, false, false] [0, 1, 2, 3, 4, 5, 6] (by decide +kernel) rfl rfl rfl rfl rfl
        clear hk1 hPc hDc hFc hP1 hD1 ht
        refine lv_istore (lv' := [(4, .int za), (0, .ref x), (1, .int gp9), (2, .int iv), (3, .int wv)]) hx hb dX10_clash_41 hl (Nat.le_of_ble_eq_true rfl) rfl (fun ls hl => ?_)
        refine lv_iconst (v := 0) hx hb dX10_clash_43 rfl ?_
        refine lv_istore (lv' := [(5, .int 0), (4, .int za), (0, .ref x), (1, .int gp9), (2, .int iv), (3, .int wv)]) hx hb dX10_clash_44 hl (Nat.le_of_ble_eq_true rfl) rfl (fun ls hl => ?_)
        have hl_46 : ∀ (n9 : Nat) (i : Nat) (z5 : Int32) (u1 : Int32) (u2 : Int32) (u3 : Int32) (u4 : Int32) (u5 : Int32) (u6 : Int32) (u7 : Int32) (u8 : Int32) (w1 : Int64) (w2 : Int64) (H : Heap) (locs : List Loc) (ls : Array Slot), 40001 - i < n9 → (i ≤ 40000) → (prC z5) → va_P (dC, dI) classes ([(oc8 x (.ref sh) (.ref lw) (.ref ro) (.ref bq) (.ref bp) (.ref dq) (.ref dp) (.ref lv) (.ref sl) (nI dn) sd ul su), (oc10 sl mc9 (.ref ea) (nI T)), (oc0 bq u1 u2 u3 u4), (oc0 bp u5 u6 u7 u8), (oc2 dq w1 w2), (oc7 sh (.ref fa) (nI ft)), (oq fa cF 200 FA)] ++ va_pl L f) H → va_D A ([(oc8 x (.ref sh) (.ref lw) (.ref ro) (.ref bq) (.ref bp) (.ref dq) (.ref dp) (.ref lv) (.ref sl) (nI dn) sd ul su), (oc10 sl mc9 (.ref ea) (nI T)), (oc0 bq u1 u2 u3 u4), (oc0 bp u5 u6 u7 u8), (oc2 dq w1 w2), (oc7 sh (.ref fa) (nI ft)), (oq fa cF 200 FA)] ++ va_pl L f) → va_S A s.heap H locs → lv_has ls 6 [(5, .int (nI i)), (4, .int z5), (0, .ref x), (1, .int gp9), (2, .int iv), (3, .int wv)] → W p l e ((headSpec (.code yX10_clash cX10_clash 6 (some .int) :: ws0) ({ frames := 6, cells := 0, slots := 0, locals := 158 } : Room)).room) s m ([.ref x, .int gp9, .int iv, .int wv] : List Value).toArray below meth c H locs 0 0 Q9 (F0 m 46 ls []) := by
          intro n9
          induction n9 with
          | zero => intro i z5 u1 u2 u3 u4 u5 u6 u7 u8 w1 w2 H locs ls hm; exact absurd hm (Nat.not_lt_zero _)
          | succ n9 ih_46 =>
            intro i z5 u1 u2 u3 u4 u5 u6 u7 u8 w1 w2 H locs ls hm hi hz hP hD hS hl
            refine lv_iload hx hb dX10_clash_46 (lv_at hl 0 rfl) ?_
            refine lv_iload_n hx hb dX10_clash_48 rfl (lv_at hl 4 rfl) ?_
            have b9_5 : zlt (i) := show i < 2147483648 by omega
            refine lv_icmp_ge (tgt := 73) hx hb dX10_clash_49 rfl (fun c_4 => ?_) (fun c_4 => ?_)
            · have c_4 : iv.toInt ≤ ((i : Nat) : Int) := zc_le rfl (nI_toInt b9_5) c_4
              refine lv_iload hx hb dX10_clash_73 (lv_at hl 1 rfl) ?_
              refine lv_iconst (v := (-1)) hx hb dX10_clash_75 rfl ?_
              refine lv_icmp_ne (tgt := 81) hx hb dX10_clash_76 rfl (fun c_6 => ?_) (fun c_6 => ?_)
              · have c_6 : ¬ z5.toInt = (-1) := zc_ne rfl rfl c_6
                refine lv_iload_n hx hb dX10_clash_81 rfl (lv_at hl 5 rfl) ?_
                refine lv_if_ne (tgt := 94) hx hb dX10_clash_82 rfl (fun c_7 => ?_) (fun c_7 => ?_)
                · have c_7 : ¬ wv.toInt = 0 := zc_ne rfl rfl c_7
                  refine lv_iload hx hb dX10_clash_94 (lv_at hl 1 rfl) ?_
                  refine lv_sipush (v := 200) hx hb dX10_clash_96 rfl ?_
                  refine lv_irem hx hb dX10_clash_99 (by decide) ?_
                  obtain ⟨hP9, hD9⟩ := zu_part (cx := [_, _, _, _, _, _, _]) hP hD [true, true, true, true, true, true, true] rfl rfl
                  rw [hQ9]
                  exact W.iret (v := z5 - z5 / 200 * 200) hx hb hr (fun t ht hW => ⟨⟨_, rfl, (z5 - z5 / 200 * 200), u1, u2, u3, u4, u5, u6, u7, u8, w1, w2, rfl, by rw [ht]; exact hP9, hD9⟩, hS.F ht⟩) hS.2.2 dX10_clash_100
                · have c_7 : wv.toInt = 0 := zc_eq rfl rfl c_7
                  refine lv_iload hx hb dX10_clash_85 (lv_at hl 1 rfl) ?_
                  refine lv_sipush (v := 200) hx hb dX10_clash_87 rfl ?_
                  refine lv_idiv hx hb dX10_clash_90 (by decide) ?_
                  refine lv_goto (tgt := 100) hx hb dX10_clash_91 rfl ?_
                  obtain ⟨hP9, hD9⟩ := zu_part (cx := [_, _, _, _, _, _, _]) hP hD [true, true, true, true, true, true, true] rfl rfl
                  rw [hQ9]
                  exact W.iret (v := z5 / 200) hx hb hr (fun t ht hW => ⟨⟨_, rfl, (z5 / 200), u1, u2, u3, u4, u5, u6, u7, u8, w1, w2, rfl, by rw [ht]; exact hP9, hD9⟩, hS.F ht⟩) hS.2.2 dX10_clash_100
              · have c_6 : z5.toInt = (-1) := zc_eq rfl rfl c_6
                refine lv_iconst (v := (-1)) hx hb dX10_clash_79 rfl ?_
                obtain ⟨hP9, hD9⟩ := zu_part (cx := [_, _, _, _, _, _, _]) hP hD [true, true, true, true, true, true, true] rfl rfl
                rw [hQ9]
                exact W.iret (v := (-1)) hx hb hr (fun t ht hW => ⟨⟨_, rfl, (-1), u1, u2, u3, u4, u5, u6, u7, u8, w1, w2, rfl, by rw [ht]; exact hP9, hD9⟩, hS.F ht⟩) hS.2.2 dX10_clash_80
            · have c_4 : ((i : Nat) : Int) < iv.toInt := zc_nle rfl (nI_toInt b9_5) c_4
              refine lv_iload hx hb dX10_clash_52 (lv_at hl 1 rfl) ?_
              refine lv_iconst (v := (-1)) hx hb dX10_clash_54 rfl ?_
              refine lv_icmp_eq (tgt := 73) hx hb dX10_clash_55 rfl (fun c_8 => ?_) (fun c_8 => ?_)
              · have c_8 : z5.toInt = (-1) := zc_eq rfl rfl c_8
                refine lv_iload hx hb dX10_clash_73 (lv_at hl 1 rfl) ?_
                refine lv_iconst (v := (-1)) hx hb dX10_clash_75 rfl ?_
                refine lv_icmp_ne (tgt := 81) hx hb dX10_clash_76 rfl (fun c_9 => ?_) (fun c_9 => ?_)
                · have c_9 : ¬ z5.toInt = (-1) := zc_ne rfl rfl c_9
                  refine lv_iload_n hx hb dX10_clash_81 rfl (lv_at hl 5 rfl) ?_
                  refine lv_if_ne (tgt := 94) hx hb dX10_clash_82 rfl (fun c_10 => ?_) (fun c_10 => ?_)
                  · have c_10 : ¬ wv.toInt = 0 := zc_ne rfl rfl c_10
                    refine lv_iload hx hb dX10_clash_94 (lv_at hl 1 rfl) ?_
                    refine lv_sipush (v := 200) hx hb dX10_clash_96 rfl ?_
                    refine lv_irem hx hb dX10_clash_99 (by decide) ?_
                    obtain ⟨hP9, hD9⟩ := zu_part (cx := [_, _, _, _, _, _, _]) hP hD [true, true, true, true, true, true, true] rfl rfl
                    rw [hQ9]
                    exact W.iret (v := z5 - z5 / 200 * 200) hx hb hr (fun t ht hW => ⟨⟨_, rfl, (z5 - z5 / 200 * 200), u1, u2, u3, u4, u5, u6, u7, u8, w1, w2, rfl, by rw [ht]; exact hP9, hD9⟩, hS.F ht⟩) hS.2.2 dX10_clash_100
                  · have c_10 : wv.toInt = 0 := zc_eq rfl rfl c_10
                    refine lv_iload hx hb dX10_clash_85 (lv_at hl 1 rfl) ?_
                    refine lv_sipush (v := 200) hx hb dX10_clash_87 rfl ?_
                    refine lv_idiv hx hb dX10_clash_90 (by decide) ?_
                    refine lv_goto (tgt := 100) hx hb dX10_clash_91 rfl ?_
                    obtain ⟨hP9, hD9⟩ := zu_part (cx := [_, _, _, _, _, _, _]) hP hD [true, true, true, true, true, true, true] rfl rfl
                    rw [hQ9]
                    exact W.iret (v := z5 / 200) hx hb hr (fun t ht hW => ⟨⟨_, rfl, (z5 / 200), u1, u2, u3, u4, u5, u6, u7, u8, w1, w2, rfl, by rw [ht]; exact hP9, hD9⟩, hS.F ht⟩) hS.2.2 dX10_clash_100
                · have c_9 : z5.toInt = (-1) := zc_eq rfl rfl c_9
                  refine lv_iconst (v := (-1)) hx hb dX10_clash_79 rfl ?_
                  obtain ⟨hP9, hD9⟩ := zu_part (cx := [_, _, _, _, _, _, _]) hP hD [true, true, true, true, true, true, true] rfl rfl
                  rw [hQ9]
                  exact W.iret (v := (-1)) hx hb hr (fun t ht hW => ⟨⟨_, rfl, (-1), u1, u2, u3, u4, u5, u6, u7, u8, w1, w2, rfl, by rw [ht]; exact hP9, hD9⟩, hS.F ht⟩) hS.2.2 dX10_clash_80
              · have c_8 : ¬ z5.toInt = (-1) := zc_ne rfl rfl c_8
                obtain ⟨p5, hp5, hz5⟩ := prC_get hz (by first | with_reducible assumption | assumption)
                subst hz5
                refine lv_aload_n hx hb dX10_clash_58 rfl (lv_at hl 2 rfl) ?_
                refine lv_iload_n hx hb dX10_clash_59 rfl (lv_at hl 3 rfl) ?_
                refine lv_iload hx hb dX10_clash_60 (lv_at hl 1 rfl) ?_
                obtain ⟨hPc, hDc, hFc⟩ := zo_part (cx := [_, _, _, _, _, _, _]) hP hD hS hA [0, 1, 2, 3, 4, 5, 6] (by decide +kernel) rfl
                refine zcalle (va_runV (As := [.int gp9, .int (nI p5)]) (rest := []) ⟨hx, hb, hml, hown, hts⟩ (k_nextClash_a l dC dI cI cZ cF H.size cO e0 mi x sh lw ro bq bp dq dp lv sl sd ul su ea mc9 fa FA bs dn T ft FT V VX VY tn rk wd tw pa pb wh of9 we kd st gb it mn cx cy L f p5 u1 u2 u3 u4 u5 u6 u7 u8 w1 w2 gp9 (hB) (hwf) (hkn) (by first | with_reducible assumption | omega)) (csV_160 hts rfl rfl ⟨Nat.le_of_ble_eq_true rfl, Nat.le_of_ble_eq_true rfl⟩) (zPVL (q0 := 0) (ci := 8) hPc hDc hK hXL hS hFc rfl rfl) rfl rfl hl.1 rfl (lv_room (Nat.le_of_ble_eq_true rfl)) dX10_clash_62 ⟨Nat.le_of_ble_eq_true rfl, Nat.le_of_ble_eq_true rfl⟩) hS hFc hFc (fun v9 t H locs ht hB hk1 hS => ?_)
                obtain ⟨zb, v0b, v1b, v2b, v3b, v4b, v5b, v6b, v7b, w0b, w1b, rfl, hzb, hP1, hD1⟩ := hB
                refine W.eq (g2 := F0 m 65 ls [.int zb]) rfl ?_
                rw [ht] at hP1
                obtain ⟨hP, hD⟩ := znP (W2 := [_, _, (oc0 bq v0b v1b v2b v3b), (oc0 bp v4b v5b v6b v7b), (oc2 dq w0b w1b), _, _]) hP hD hk1 hFc hP1 hD1 [0, 1, 2, 3, 4, 5, 6] [] [false, false, false, false, false, false, false] [0, 1, 2, 3, 4, 5, 6] (by decide +kernel) rfl rfl rfl rfl rfl
                clear hk1 hPc hDc hFc hP1 hD1 ht
                refine lv_istore (lv' := [(4, .int zb), (5, .int (nI i)), (0, .ref x), (1, .int gp9), (2, .int iv), (3, .int wv)]) hx hb dX10_clash_65 hl (Nat.le_of_ble_eq_true rfl) rfl (fun ls hl => ?_)
                refine lv_iinc (v := nI (i + 1)) (lv' := [(5, .int (nI (i + 1))), (4, .int zb), (0, .ref x), (1, .int gp9), (2, .int iv), (3, .int wv)]) hx hb dX10_clash_67 hl (k := 1) rfl (nI_add i 1) (Nat.le_of_ble_eq_true rfl) rfl (fun ls hl => ?_)
                refine lv_goto (tgt := 46) hx hb dX10_clash_70 rfl ?_
                exact ih_46 (i + 1) zb v0b v1b v2b v3b v4b v5b v6b v7b w0b w1b H locs ls (by first | with_reducible assumption | omega) (by first | with_reducible assumption | omega) (hzb) hP hD hS (lv_sub hl [0, 1, 2, 3, 4, 5] rfl)
        exact hl_46 _ 0 za v0a v1a v2a v3a v4a v5a v6a v7a w0a w1a H locs ls (Nat.lt_succ_self _) (by first | with_reducible assumption | omega) (hza) hP hD hS (lv_sub hl [0, 1, 2, 3, 4, 5] rfl)
      · have c_3 : ¬ ((0 : Int32).toInt ≤ wv.toInt ∧ wv.toInt ≤ (1 : Int32).toInt) := zp_0 c_3
        refine lv_iconst (v := (-1)) hx hb dX10_clash_33 rfl ?_
        obtain ⟨hP9, hD9⟩ := zu_part (cx := [_, _, _, _, _, _, _]) hP hD [true, true, true, true, true, true, true] rfl rfl
        rw [hQ9]
        exact W.iret (v := (-1)) hx hb hr (fun t ht hW => ⟨⟨_, rfl, (-1), c1, c2, c3, c4, a1, a2, a3, a4, y1, y2, rfl, by rw [ht]; exact hP9, hD9⟩, hS.F ht⟩) hS.2.2 dX10_clash_34
    · have c_2 : ¬ ((0 : Int32).toInt ≤ iv.toInt ∧ iv.toInt ≤ (40000 : Int32).toInt) := zp_0 c_2
      refine lv_iconst (v := (-1)) hx hb dX10_clash_22 rfl ?_
      obtain ⟨hP9, hD9⟩ := zu_part (cx := [_, _, _, _, _, _, _]) hP hD [true, true, true, true, true, true, true] rfl rfl
      rw [hQ9]
      exact W.iret (v := (-1)) hx hb hr (fun t ht hW => ⟨⟨_, rfl, (-1), c1, c2, c3, c4, a1, a2, a3, a4, y1, y2, rfl, by rw [ht]; exact hP9, hD9⟩, hS.F ht⟩) hS.2.2 dX10_clash_23
end
