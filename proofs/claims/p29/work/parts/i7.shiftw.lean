section
set_option maxHeartbeats 4000000 in
set_option maxRecDepth 100000 in
theorem k_shiftw_y (l : Launch) (dC : Nat → ClassId) (dI : Nat → Nat → Nat) (cI cZ cF : ClassId) (sz : Nat) (cO : ClassId) (e0 : Nat) (mi : Nat) (x : Nat) (sh : Nat) (lw : Nat) (ro : Nat) (bq : Nat) (bp : Nat) (dq : Nat) (dp : Nat) (lv : Nat) (sl : Nat) (sd : Int32) (ul : Int32) (su : Int32) (ea : Nat) (mc9 : Int32) (fa : Nat) (FA : Nat → Option Nat) (bs : Nat) (dn : Nat) (T : Nat) (ft : Nat) (FT : Nat → Nat) (V : Nat → Nat → Nat → Int32) (VX : Nat → Nat → Int32) (VY : Nat → Nat → Int32) (tn : Nat → Int32) (rk : Nat → Int32) (wd : Nat → Int32) (tw : Nat → Int32) (pa : Nat → Int32) (pb : Nat → Int32) (wh : Nat → Int32) (of9 : Nat → Int32) (we : Nat → Int32) (kd : Nat → Int32) (st : Nat → Int32) (gb : Nat → Int32) (it : Nat → Int32) (mn : Nat → Int32) (cx : Nat → Int32) (cy : Nat → Int32) (L : List Nat) (f : Nat → va_E) (f0 : Nat) (dr : Nat) (tg : Nat) (wy : Nat) (br : Nat) (bo : Nat) (aa : Nat) (tx : Nat) (ty : Nat) (nt : Nat) (TX : Nat → Int32) (TY : Nat → Int32) (rt : Int32) (wx : Nat) (wz : Nat) (nw : Nat) (WX : Nat → Int32) (WY : Nat → Int32) (rw : Int32) (dx : Nat) (dy : Nat) (nd : Nat) (cd : Nat) (P : Nat → Int32) (Q : Nat → Int32) (rd : Int32) (b1 : Int32) (b2 : Int32) (b3 : Int32) (b4 : Int32) (b5 : Int32) (b6 : Int32) (b7 : Int32) (b8 : Int32) (kk : Nat) (rr : Nat) (sx : Int32) (sy : Int32) (hB : shB cI cO L f e0 FA ea bs dn T ft FT V VX VY tn rk wd tw pa pb wh of9 we kd st gb it mn cx cy) (hd5 : dn + 1 ≤ 512) (hf0 : f0 < ft) (htn : (tn f0).toInt = 0) (hst : (st f0).toInt = 1) (hwf : ∀ q, lvF ft st tn q → wfM mn cx cy q) (hkn : okN ft st tn kd mn) (hsm : mSm (kd f0).toInt (nN (mn f0)) (cF40 cx f0) (cF40 cy f0)) (hcd : 40 ≤ cd ∧ cd ≤ 1000) (hkk : kk < nN (mn f0)) (hrr : rr ≤ 20) (hdx : -200 ≤ sx.toInt ∧ sx.toInt ≤ 200) (hdy : -200 ≤ sy.toInt ∧ sy.toInt ≤ 200) (hkd : (kd f0).toInt = 0) (hlaw : lwM ft st tn kd mn cx cy f0 (nN (mn f0)) (fun i => cF40 cx f0 i + sx) (fun i => cF40 cy f0 i + sy)) (hmv : mvd (nN (mn f0)) (fun i => cF40 cx f0 i + sx) (fun i => cF40 cy f0 i + sy) (cF40 cx f0) (cF40 cy f0)) : zML l yX10_shift cX10_shift 8 (some .boolean) ({ frames := 9, cells := ft + 6, slots := 4 * ft + 2 * nN (mn f0) + 815, locals := 205 } : Room) [.ref x, .int (nI f0), .int (nI kk), .int sx, .int sy, .int (nI rr)] (dC, dI) (zTyO cI cZ cF cO) e0 mi ([(oc8 x (.ref sh) (.ref lw) (.ref ro) (.ref bq) (.ref bp) (.ref dq) (.ref dp) (.ref lv) (.ref sl) (nI dn) sd ul su), (oc10 sl mc9 (.ref ea) (nI T)), (oc3 lw (.ref dr) (.ref tg) (.ref wy) (.ref br) (.ref bo) (.ref aa)), (oc6 tg (.ref tx) (.ref ty) (nI nt) rt), (oa tx cI 3 TX), (oa ty cI 3 TY), (oc6 wy (.ref wx) (.ref wz) (nI nw) rw), (oa wx cI 2 WX), (oa wz cI 2 WY), (oc6 dr (.ref dx) (.ref dy) (nI nd) rd), (oa dx cI cd P), (oa dy cI cd Q), (oc0 br b1 b2 b3 b4), (oc0 bo b5 b6 b7 b8), (oc7 sh (.ref fa) (nI ft)), (oq fa cF 200 FA)] ++ va_pl L f) sz (some (.int 1)) (fun A t => ∃ (mc1 : Int32), ∃ (L1 : List Nat), ∃ (f1 : Nat → va_E), ∃ (ea1 : Nat), ∃ (nt1 : Nat), ∃ (TX1 : Nat → Int32), ∃ (TY1 : Nat → Int32), ∃ (rt1 : Int32), ∃ (nw1 : Nat), ∃ (WX1 : Nat → Int32), ∃ (WY1 : Nat → Int32), ∃ (rw1 : Int32), ∃ (d5 : Int32), ∃ (d6 : Int32), ∃ (d7 : Int32), ∃ (d8 : Int32), ∃ (e5 : Int32), ∃ (e6 : Int32), ∃ (e7 : Int32), ∃ (e8 : Int32), ∃ (P1 : Nat → Int32), ∃ (Q1 : Nat → Int32), (shB cI cO L1 f1 e0 FA ea1 bs (dn + 1) (dn + 1) ft (upN FT (dn + 1) ft) (upN V (dn + 1) (vC kd st gb it mn)) (upN VX (dn + 1) (fgX f0 (nN (mn f0)) (fun i => cF40 cx f0 i + sx) cx)) (upN VY (dn + 1) (fgX f0 (nN (mn f0)) (fun i => cF40 cy f0 i + sy) cy)) tn rk wd tw pa pb (upd wh (dn + 1) (3 : Int32)) (upd of9 (dn + 1) (nI f0)) (upd we (dn + 1) (0 : Int32)) kd st gb it mn (fgX f0 (nN (mn f0)) (fun i => cF40 cx f0 i + sx) cx) (fgX f0 (nN (mn f0)) (fun i => cF40 cy f0 i + sy) cy)) ∧ zPD (dC, dI) classes A ([(oc8 x (.ref sh) (.ref lw) (.ref ro) (.ref bq) (.ref bp) (.ref dq) (.ref dp) (.ref lv) (.ref sl) (nI (dn + 1)) sd ul 0), (oc10 sl mc1 (.ref ea1) (nI (dn + 1))), (oc3 lw (.ref dr) (.ref tg) (.ref wy) (.ref br) (.ref bo) (.ref aa)), (oc6 tg (.ref tx) (.ref ty) (nI nt1) rt1), (oa tx cI 3 TX1), (oa ty cI 3 TY1), (oc6 wy (.ref wx) (.ref wz) (nI nw1) rw1), (oa wx cI 2 WX1), (oa wz cI 2 WY1), (oc6 dr (.ref dx) (.ref dy) (nI (nN (mn f0))) (rgK (kd f0).toInt)), (oa dx cI cd P1), (oa dy cI cd Q1), (oc0 br d5 d6 d7 d8), (oc0 bo e5 e6 e7 e8), (oc7 sh (.ref fa) (nI ft)), (oq fa cF 200 FA)] ++ va_pl L1 f1) t.heap) (ft + 6) (4 * ft + 2 * nN (mn f0) + 815) := by
  refine zInL (own := "ScaleShop") (loc := [(0, .ref x), (1, .int (nI f0)), (2, .int (nI kk)), (3, .int sx), (4, .int sy), (5, .int (nI rr))]) rfl rfl rfl rfl (fun p e s m below meth c hx hb hr hts hown hlocks hml hnm9 A hA hS hP hD hK hXL hXN hK3 Q9 hQ9 ls hl => ?_)
  obtain ⟨own, fe, cl, la, sp, SA, hG9, hH9, hft9⟩ := hB
  obtain ⟨hG, hM, hdT, hT5⟩ := M_0 hG9 hH9 hft9
  have h200 : ft ≤ 200 := hG.2.2.2.2.2.1.2.2.2.2.2
  have hFA9 := hG.2.2.2.2.2.2
  refine ex13 (sh_fc hG.1 hG.2.1 (Nat.le_refl _) hf0 htn) (fun lo5 lx5 ly5 ln5 LX5 LY5 we5 r5 rx5 ry5 cap5 X5 Y5 hc5 => ?_)
  have hc5 := fc_0 hc5
  have hb5 := hc5.2.2.1
  have hb6 := hc5.2.1
  have hlv : lvF ft st tn f0 := ⟨hf0, hst, htn⟩
  have hwf0 := hwf f0 hlv
  have hw1 := hwf0.2.1
  have hkn0 := hkn f0 hlv
  have hX5 := hc5.2.2.2.2.1
  have hkk9 : (nI kk).toInt = ((kk : Nat) : Int) := nI_toInt (by omega)
  have hrr9 : (nI rr).toInt = ((rr : Nat) : Int) := nI_toInt (by omega)
  have e_m200 : (-200 : Int32).toInt = -200 := (by decide)
  have e_200 : (200 : Int32).toInt = 200 := (by decide)
  have e_0 : (0 : Int32).toInt = 0 := (by decide)
  have e_20 : (20 : Int32).toInt = 20 := (by decide)
  have hc9_1 : inPl L f [(oc1 (fe f0) (rk f0) (wd f0) (tw f0) (pa f0) (pb f0) (.ref lo5) (.ref (la dn f0)) .null), (oc4 (la dn f0) (kd f0) (st f0) (.ref r5) (gb f0) (it f0) (nI we5)), (oc6 r5 (.ref rx5) (.ref ry5) (nI (nN (mn f0))) (rgK (kd f0).toInt)), (oa rx5 cI cap5 X5), (oa ry5 cI cap5 Y5), (oc6 lo5 (.ref lx5) (.ref ly5) (nI ln5) 0), (oa lx5 cI (cl f0) LX5), (oa ly5 cI (cl f0) LY5)] := ⟨ce_pl hc5.1.1, ce_pl hc5.1.2.1, ce_pl hc5.1.2.2.1.1, ce_pl hc5.1.2.2.1.2.1, ce_pl hc5.1.2.2.1.2.2.1, ce_pl hc5.1.2.2.2.1, ce_pl hc5.1.2.2.2.2.1, ce_pl hc5.1.2.2.2.2.2.1, trivial⟩
  have hD0_1 := hD
  obtain ⟨T_1, hT_1, hP, hD⟩ := pl_oT hP hD hc9_1 (pw8 hc5 (by omega))
  obtain ⟨hP, hD⟩ := zre (W2 := ([_, _, _, _, _, _, _, _, _, _, _, _, _, _, _, _, _, _, _, _, _, _, _, _] ++ va_pl T_1 f)) hP hD rfl
  refine lv_aload_n hx hb dX10_shift_0 rfl (lv_at hl 0 rfl) ?_
  refine va_get (D := (dC, dI)) (ci := 8) (v := .ref sh) (C := RX10) (T := TX10) (N := 13) hx hb hts inX10 hown hK hP 0 rfl rfl 0 (Nat.le_of_ble_eq_true rfl) (hts _ mw_309) (fun _ h9 => h9) rfl dX10_shift_1 ?_
  refine lv_iload_n hx hb dX10_shift_4 rfl (lv_at hl 1 rfl) ?_
  obtain ⟨hPc, hDc, hFc, hI1⟩ := zi_sub (wc := [_, _]) hP hD hS hA [14, 15] rfl rfl
  refine zcall (st1 := [.ref (fe f0)]) (va_runV (As := [.int (nI f0)]) (rest := []) ⟨hx, hb, hml, hown, hts⟩ (k_Sheet_find l dC dI cI cZ cF s.heap.size sh fa ft FA f0 (fe f0) (by first | with_reducible assumption | omega) (by first | with_reducible assumption | omega) (hFA9 f0 (by first | with_reducible assumption | omega))) (csV_94 hts rfl rfl ⟨Nat.le_of_ble_eq_true rfl, Nat.le_of_ble_eq_true rfl⟩) (zPV2 (q0 := 0) (ci := 7) hPc hDc hK3 hXN rfl rfl) rfl rfl hl.1 rfl (lv_room (Nat.le_of_ble_eq_true rfl)) dX10_shift_5 ⟨Nat.zero_le _, Nat.zero_le _⟩) hS hFc hFc rfl (fun t H locs ht hB hk1 hS => ?_)
  obtain ⟨hP1, hD1⟩ := hB
  rw [ht] at hP1
  replace hP := z0 hP hD hk1 hP1 hI1
  clear hk1 hPc hDc hFc hP1 hD1 ht hI1
  refine lv_astore (lv' := [(6, .ref (fe f0)), (0, .ref x), (1, .int (nI f0)), (2, .int (nI kk)), (3, .int sx), (4, .int sy), (5, .int (nI rr))]) hx hb dX10_shift_8 hl (Nat.le_of_ble_eq_true rfl) rfl (fun ls hl => ?_)
  refine lv_aload hx hb dX10_shift_10 (lv_at hl 0 rfl) ?_
  refine lv_ifnull hx hb dX10_shift_12 ?_
  refine lv_aload hx hb dX10_shift_15 (lv_at hl 0 rfl) ?_
  refine lv_iload_n hx hb dX10_shift_17 rfl (lv_at hl 3 rfl) ?_
  obtain ⟨hPc, hDc, hFc, hI1⟩ := zi_sub (wc := [_, _, _]) hP hD hS hA [16, 17, 18] rfl rfl
  refine zcall (st1 := [.int (pI (0 ≤ (nI kk).toInt ∧ (nI kk).toInt < (((nN (mn f0)) : Nat) : Int)))]) (va_runV (As := [.int (nI kk)]) (rest := []) ⟨hx, hb, hml, hown, hts⟩ (k_Feature_mayHaveCorner_r l dC dI cI cZ cF H.size (fe f0) lo5 (rk f0) (wd f0) (tw f0) (pa f0) (pb f0) (la dn f0) (kd f0) (st f0) (gb f0) (it f0) (nI we5) r5 rx5 ry5 (nN (mn f0)) (nI kk) (rgK (kd f0).toInt) (by first | with_reducible assumption | omega)) (csV_119 hts rfl rfl ⟨Nat.le_of_ble_eq_true rfl, Nat.le_of_ble_eq_true rfl⟩) (zPV2 (q0 := 0) (ci := 1) hPc hDc hK3 hXN rfl rfl) rfl rfl hl.1 rfl (lv_room (Nat.le_of_ble_eq_true rfl)) dX10_shift_18 ⟨Nat.zero_le _, Nat.zero_le _⟩) hS hFc hFc rfl (fun t H locs ht hB hk1 hS => ?_)
  obtain ⟨hP1, hD1⟩ := hB
  rw [ht] at hP1
  replace hP := z0 hP hD hk1 hP1 hI1
  clear hk1 hPc hDc hFc hP1 hD1 ht hI1
  refine lv_if_ne (tgt := 30) hx hb dX10_shift_21 rfl (fun c_1 => ?_) (fun c_1 => ?_)
  · have c_1 : 0 ≤ (nI kk).toInt ∧ (nI kk).toInt < (((nN (mn f0)) : Nat) : Int) := zp_1 c_1
    refine lv_aload hx hb dX10_shift_30 (lv_at hl 0 rfl) ?_
    refine va_get (D := (dC, dI)) (ci := 1) (v := .ref (la dn f0)) (C := RX2) (T := TX2) (N := 8) hx hb hts inX2 hown hK hP 16 rfl rfl 6 (Nat.le_of_ble_eq_true rfl) (hts _ mw_433) (fun _ h9 => h9) rfl dX10_shift_32 ?_
    refine va_get (D := (dC, dI)) (ci := 4) (v := .int (st f0)) (C := RX5) (T := TX5) (N := 6) hx hb hts inX5 hown hK hP 17 rfl rfl 1 (Nat.le_of_ble_eq_true rfl) (hts _ mw_385) (fun _ h9 => h9) rfl dX10_shift_35 ?_
    refine lv_iconst (v := 1) hx hb dX10_shift_38 rfl ?_
    refine lv_icmp_eq (tgt := 48) hx hb dX10_shift_39 rfl (fun c_2 => ?_) (fun c_2 => ?_)
    · have c_2 : (st f0).toInt = 1 := zc_eq rfl rfl c_2
      refine lv_iload_n hx hb dX10_shift_48 rfl (lv_at hl 4 rfl) ?_
      refine lv_sipush (v := (-200)) hx hb dX10_shift_49 rfl ?_
      refine lv_sipush (v := 200) hx hb dX10_shift_52 rfl ?_
      obtain ⟨hPc, hDc, hFc, hI1⟩ := zi_sub (wc := []) hP hD hS hA [] rfl rfl
      refine zcall (st1 := [.int (pI ((-200 : Int32).toInt ≤ sx.toInt ∧ sx.toInt ≤ (200 : Int32).toInt))]) (va_runS (As := [.int sx, .int (-200), .int 200]) (rest := []) ⟨hx, hb, hml, hown, hts⟩ (k_isWithin l dC dI cI cZ cF H.size sx (-200) 200 ) (csS_14 hts rfl rfl ⟨Nat.le_of_ble_eq_true rfl, Nat.le_of_ble_eq_true rfl⟩) (zPS2 hPc hDc hK3 hXN) rfl rfl hl.1 rfl (lv_room (Nat.le_of_ble_eq_true rfl)) dX10_shift_55 ⟨Nat.zero_le _, Nat.zero_le _⟩) hS hFc hFc rfl (fun t H locs ht hB hk1 hS => ?_)
      obtain ⟨hP1, hD1⟩ := hB
      rw [ht] at hP1
      replace hP := z0 hP hD hk1 hP1 hI1
      clear hk1 hPc hDc hFc hP1 hD1 ht hI1
      refine lv_if_eq (tgt := 75) hx hb dX10_shift_58 rfl (fun c_3 => ?_) (fun c_3 => ?_)
      · have c_3 : ¬ ((-200 : Int32).toInt ≤ sx.toInt ∧ sx.toInt ≤ (200 : Int32).toInt) := zp_0 c_3
        exfalso; omega
      · have c_3 : (-200 : Int32).toInt ≤ sx.toInt ∧ sx.toInt ≤ (200 : Int32).toInt := zp_1 c_3
        refine lv_iload hx hb dX10_shift_61 (lv_at hl 5 rfl) ?_
        refine lv_sipush (v := (-200)) hx hb dX10_shift_63 rfl ?_
        refine lv_sipush (v := 200) hx hb dX10_shift_66 rfl ?_
        obtain ⟨hPc, hDc, hFc, hI1⟩ := zi_sub (wc := []) hP hD hS hA [] rfl rfl
        refine zcall (st1 := [.int (pI ((-200 : Int32).toInt ≤ sy.toInt ∧ sy.toInt ≤ (200 : Int32).toInt))]) (va_runS (As := [.int sy, .int (-200), .int 200]) (rest := []) ⟨hx, hb, hml, hown, hts⟩ (k_isWithin l dC dI cI cZ cF H.size sy (-200) 200 ) (csS_14 hts rfl rfl ⟨Nat.le_of_ble_eq_true rfl, Nat.le_of_ble_eq_true rfl⟩) (zPS2 hPc hDc hK3 hXN) rfl rfl hl.1 rfl (lv_room (Nat.le_of_ble_eq_true rfl)) dX10_shift_69 ⟨Nat.zero_le _, Nat.zero_le _⟩) hS hFc hFc rfl (fun t H locs ht hB hk1 hS => ?_)
        obtain ⟨hP1, hD1⟩ := hB
        rw [ht] at hP1
        replace hP := z0 hP hD hk1 hP1 hI1
        clear hk1 hPc hDc hFc hP1 hD1 ht hI1
        refine lv_if_ne (tgt := 81) hx hb dX10_shift_72 rfl (fun c_4 => ?_) (fun c_4 => ?_)
        · have c_4 : (-200 : Int32).toInt ≤ sy.toInt ∧ sy.toInt ≤ (200 : Int32).toInt := zp_1 c_4
          refine lv_iload hx hb dX10_shift_81 (lv_at hl 6 rfl) ?_
          refine lv_iconst (v := 0) hx hb dX10_shift_83 rfl ?_
          refine lv_bipush (v := 20) hx hb dX10_shift_84 rfl ?_
          obtain ⟨hPc, hDc, hFc, hI1⟩ := zi_sub (wc := []) hP hD hS hA [] rfl rfl
          refine zcall (st1 := [.int (pI ((0 : Int32).toInt ≤ (nI rr).toInt ∧ (nI rr).toInt ≤ (20 : Int32).toInt))]) (va_runS (As := [.int (nI rr), .int 0, .int 20]) (rest := []) ⟨hx, hb, hml, hown, hts⟩ (k_isWithin l dC dI cI cZ cF H.size (nI rr) 0 20 ) (csS_14 hts rfl rfl ⟨Nat.le_of_ble_eq_true rfl, Nat.le_of_ble_eq_true rfl⟩) (zPS2 hPc hDc hK3 hXN) rfl rfl hl.1 rfl (lv_room (Nat.le_of_ble_eq_true rfl)) dX10_shift_86 ⟨Nat.zero_le _, Nat.zero_le _⟩) hS hFc hFc rfl (fun t H locs ht hB hk1 hS => ?_)
          obtain ⟨hP1, hD1⟩ := hB
          rw [ht] at hP1
          replace hP := z0 hP hD hk1 hP1 hI1
          clear hk1 hPc hDc hFc hP1 hD1 ht hI1
          refine lv_if_ne (tgt := 98) hx hb dX10_shift_89 rfl (fun c_5 => ?_) (fun c_5 => ?_)
          · have c_5 : (0 : Int32).toInt ≤ (nI rr).toInt ∧ (nI rr).toInt ≤ (20 : Int32).toInt := zp_1 c_5
            refine lv_aload hx hb dX10_shift_98 (lv_at hl 0 rfl) ?_
            refine va_get (D := (dC, dI)) (ci := 1) (v := .ref (la dn f0)) (C := RX2) (T := TX2) (N := 8) hx hb hts inX2 hown hK hP 16 rfl rfl 6 (Nat.le_of_ble_eq_true rfl) (hts _ mw_433) (fun _ h9 => h9) rfl dX10_shift_100 ?_
            refine va_get (D := (dC, dI)) (ci := 4) (v := .ref r5) (C := RX5) (T := TX5) (N := 6) hx hb hts inX5 hown hK hP 17 rfl rfl 2 (Nat.le_of_ble_eq_true rfl) (hts _ mw_391) (fun _ h9 => h9) rfl dX10_shift_103 ?_
            refine lv_astore (lv' := [(7, .ref r5), (6, .ref (fe f0)), (0, .ref x), (1, .int (nI f0)), (2, .int (nI kk)), (3, .int sx), (4, .int sy), (5, .int (nI rr))]) hx hb dX10_shift_106 hl (Nat.le_of_ble_eq_true rfl) rfl (fun ls hl => ?_)
            refine lv_aload hx hb dX10_shift_108 (lv_at hl 0 rfl) ?_
            refine lv_ifnonnull (tgt := 119) hx hb dX10_shift_110 rfl ?_
            refine lv_aload_n hx hb dX10_shift_119 rfl (lv_at hl 2 rfl) ?_
            refine va_get (D := (dC, dI)) (ci := 8) (v := .ref lw) (C := RX10) (T := TX10) (N := 13) hx hb hts inX10 hown hK hP 0 rfl rfl 1 (Nat.le_of_ble_eq_true rfl) (hts _ mw_310) (fun _ h9 => h9) rfl dX10_shift_120 ?_
            refine va_get (D := (dC, dI)) (ci := 3) (v := .ref dr) (C := RX4) (T := TX4) (N := 6) hx hb hts inX4 hown hK hP 2 rfl rfl 0 (Nat.le_of_ble_eq_true rfl) (hts _ mw_220) (fun _ h9 => h9) rfl dX10_shift_123 ?_
            refine lv_aload hx hb dX10_shift_126 (lv_at hl 0 rfl) ?_
            obtain ⟨hPc, hDc, hFc⟩ := zo_sub (wc := [_, _, _, _, _, _]) hP hD hS hA [9, 10, 11, 18, 19, 20] (by decide +kernel) rfl
            refine zcall (st1 := []) (va_runV (As := [.ref r5]) (rest := []) ⟨hx, hb, hml, hown, hts⟩ (k_Row_copyFrom l dC dI cI cZ cF H.size dr dx dy nd cd P Q rd r5 rx5 ry5 (nN (mn f0)) cap5 X5 Y5 (rgK (kd f0).toInt) (by first | with_reducible assumption | omega) (by first | with_reducible assumption | omega) (by first | with_reducible assumption | omega) (by first | with_reducible assumption | omega) (rgK_01 _)) (csV_120 hts rfl rfl ⟨Nat.le_of_ble_eq_true rfl, Nat.le_of_ble_eq_true rfl⟩) (zPV2 (q0 := 0) (ci := 6) hPc hDc hK3 hXN rfl rfl) rfl rfl hl.1 rfl (lv_room (Nat.le_of_ble_eq_true rfl)) dX10_shift_128 ⟨Nat.zero_le _, Nat.zero_le _⟩) hS hFc hFc rfl (fun t H locs ht hB hk1 hS => ?_)
            obtain ⟨P6, Q6, hcp7, hP1, hD1⟩ := hB
            rw [ht] at hP1
            obtain ⟨hP, hD⟩ := znQ (W2 := [_, _, _, _, _, _, _, _, _, (oc6 dr (.ref dx) (.ref dy) (nI (nN (mn f0))) (rgK (kd f0).toInt)), (oa dx cI cd P6), (oa dy cI cd Q6), _, _, _, _, _, _, _, _, _, _, _, _]) hP hD hk1 hFc hP1 hD1 [9, 10, 11, 18, 19, 20] zl_77 zl_77 [9, 10, 11, 18, 19, 20] (by decide +kernel) rfl rfl rfl rfl rfl
            clear hk1 hPc hDc hFc hP1 hD1 ht
            refine lv_aload hx hb dX10_shift_131 (lv_at hl 1 rfl) ?_
            obtain ⟨hPc, hDc, hFc, hI1⟩ := zi_sub (wc := [_, _]) hP hD hS hA [16, 17] rfl rfl
            refine zcall (st1 := [.int (pI (1 ≤ (kd f0).toInt ∧ (kd f0).toInt ≤ 5))]) (va_runV (As := []) (rest := []) ⟨hx, hb, hml, hown, hts⟩ (k_Feature_bends_r l dC dI cI cZ cF H.size (fe f0) lo5 (rk f0) (wd f0) (tw f0) (pa f0) (pb f0) (la dn f0) (kd f0) (st f0) (gb f0) (it f0) (nI we5) r5 ) (csV_97 hts rfl rfl ⟨Nat.le_of_ble_eq_true rfl, Nat.le_of_ble_eq_true rfl⟩) (zPV2 (q0 := 0) (ci := 1) hPc hDc hK3 hXN rfl rfl) rfl rfl hl.1 rfl (lv_room (Nat.le_of_ble_eq_true rfl)) dX10_shift_133 ⟨Nat.zero_le _, Nat.zero_le _⟩) hS hFc hFc rfl (fun t H locs ht hB hk1 hS => ?_)
            obtain ⟨hP1, hD1⟩ := hB
            rw [ht] at hP1
            replace hP := z0 hP hD hk1 hP1 hI1
            clear hk1 hPc hDc hFc hP1 hD1 ht hI1
            refine lv_if_eq (tgt := 158) hx hb dX10_shift_136 rfl (fun c_6 => ?_) (fun c_6 => ?_)
            · have c_6 : ¬ (1 ≤ (kd f0).toInt ∧ (kd f0).toInt ≤ 5) := zp_0 c_6
              refine lv_aload_n hx hb dX10_shift_158 rfl (lv_at hl 2 rfl) ?_
              refine va_get (D := (dC, dI)) (ci := 8) (v := .ref lw) (C := RX10) (T := TX10) (N := 13) hx hb hts inX10 hown hK hP 0 rfl rfl 1 (Nat.le_of_ble_eq_true rfl) (hts _ mw_310) (fun _ h9 => h9) rfl dX10_shift_159 ?_
              refine va_get (D := (dC, dI)) (ci := 3) (v := .ref dr) (C := RX4) (T := TX4) (N := 6) hx hb hts inX4 hown hK hP 2 rfl rfl 0 (Nat.le_of_ble_eq_true rfl) (hts _ mw_220) (fun _ h9 => h9) rfl dX10_shift_162 ?_
              refine lv_iload_n hx hb dX10_shift_165 rfl (lv_at hl 5 rfl) ?_
              refine lv_iload hx hb dX10_shift_166 (lv_at hl 6 rfl) ?_
              obtain ⟨hPc, hDc, hFc⟩ := zo_sub (wc := [_, _, _]) hP hD hS hA [9, 10, 11] rfl rfl
              refine zcall (st1 := []) (va_runV (As := [.int sx, .int sy]) (rest := []) ⟨hx, hb, hml, hown, hts⟩ (k_Row_carry l dC dI cI cZ cF H.size dr dx dy (nN (mn f0)) cd P6 Q6 (rgK (kd f0).toInt) sx sy (by first | with_reducible assumption | omega) (by first | with_reducible assumption | omega)) (csV_143 hts rfl rfl ⟨Nat.le_of_ble_eq_true rfl, Nat.le_of_ble_eq_true rfl⟩) (zPV2 (q0 := 0) (ci := 6) hPc hDc hK3 hXN rfl rfl) rfl rfl hl.1 rfl (lv_room (Nat.le_of_ble_eq_true rfl)) dX10_shift_168 ⟨Nat.zero_le _, Nat.zero_le _⟩) hS hFc hFc rfl (fun t H locs ht hB hk1 hS => ?_)
              obtain ⟨P7, Q7, hall7, hP1, hD1⟩ := hB
              rw [ht] at hP1
              obtain ⟨hP, hD⟩ := znQ (W2 := [_, _, _, _, _, _, _, _, _, _, (oa dx cI cd P7), (oa dy cI cd Q7), _, _, _, _, _, _, _, _, _, _, _, _]) hP hD hk1 hFc hP1 hD1 [9, 10, 11] zl_82 zl_82 [9, 10, 11] (by decide +kernel) rfl rfl rfl rfl rfl
              clear hk1 hPc hDc hFc hP1 hD1 ht
              have hv7 : ∀ k, k < nN (mn f0) → P7 k = (fun i => cF40 cx f0 i + sx) k ∧ Q7 k = (fun i => cF40 cy f0 i + sy) k := fun k hk => by rw [(hall7 k hk).1, (hall7 k hk).2, (hcp7 k hk).1, (hcp7 k hk).2, (hX5 k hk).1, (hX5 k hk).2]; exact ⟨rfl, rfl⟩
              refine lv_aload_n hx hb dX10_shift_171 rfl (lv_at hl 2 rfl) ?_
              refine lv_aload hx hb dX10_shift_172 (lv_at hl 1 rfl) ?_
              refine lv_iload_n hx hb dX10_shift_174 rfl (lv_at hl 3 rfl) ?_
              refine lv_iconst (v := 3) hx hb dX10_shift_175 rfl ?_
              obtain ⟨hPc, hDc, hFc⟩ := zo_part (cx := [_, _, _, _, _, _, _, _, _, _, _, _, _, _, _, _, _, _, _, _, _, _, _, _]) hP hD hS hA [0, 1, 2, 3, 4, 5, 6, 7, 8, 9, 10, 11, 12, 13, 16, 17, 18, 19, 20, 21, 22, 23, 14, 15] (by decide +kernel) rfl
              refine zcall (st1 := [.int 1]) (va_runV (As := [.ref (fe f0), .int (nI f0), .int 3]) (rest := []) ⟨hx, hb, hml, hown, hts⟩ (k_moveTo_w_y l dC dI cI cZ cF H.size cO e0 mi x sh lw ro bq bp dq dp lv sl sd ul su ea mc9 fa FA bs dn T ft FT V VX VY tn rk wd tw pa pb wh of9 we kd st gb it mn cx cy T_1 f L f0 own fe cl la sp SA lo5 lx5 ly5 ln5 LX5 LY5 we5 r5 rx5 ry5 cap5 X5 Y5 dr tg wy br bo aa tx ty nt TX TY rt wx wz nw WX WY rw dx dy cd P7 Q7 b1 b2 b3 b4 b5 b6 b7 b8 3 (fgX f0 (nN (mn f0)) (fun i => cF40 cx f0 i + sx) cx) (fgX f0 (nN (mn f0)) (fun i => cF40 cy f0 i + sy) cy) (hG9) (hH9) (hft9) (hc5) (hT_1) (by first | with_reducible assumption | assumption) (by first | with_reducible assumption | assumption) (hst) (hwf) (hkn) (by first | with_reducible assumption | omega) (by have := hkn0; have := hsm.1; omega) (by first | with_reducible assumption | omega) (((alW_cx hw1.1 hX5).trans (by have hn9 : nN (mn f0) = 1 := hsm.1 (by first | with_reducible assumption | omega); rw [hn9] at hv7 ⊢; exact alW_lw (VX := fun i => cF40 cx f0 i + sx) (VY := fun i => cF40 cy f0 i + sy) (by first | with_reducible assumption | omega) hv7 hwf hkn)).mpr hlaw) (fun h => absurd hmv ((mv_alk hv7 hX5).mp h)) (fun k hk => by rw [fgX_f k hk, fgX_f k hk]; exact hv7 k hk) (fun j hj => ⟨fgX_o (by first | with_reducible assumption | omega), fgX_o (by first | with_reducible assumption | omega)⟩)) (csV_117 hts rfl rfl ⟨Nat.le_of_ble_eq_true rfl, Nat.le_of_ble_eq_true rfl⟩) (zPVL (q0 := 0) (ci := 8) hPc hDc hK hXL hS hFc rfl rfl) rfl rfl hl.1 rfl (lv_room (Nat.le_of_ble_eq_true rfl)) dX10_shift_176 ⟨show (0 + (ft + 6)) ≤ ft + 6 by omega, show (0 + (4 * ft + 2 * nN (mn f0) + 815)) ≤ 4 * ft + 2 * nN (mn f0) + 815 by omega⟩) hS hFc hFc rfl (fun t H locs ht hB hk1 hS => ?_)
              refine ex20 hB (fun mc8 L8 f8 ea8 nt8 TX8 TY8 rt8 nw8 WX8 WY8 rw8 g08 g18 g28 g38 g48 g58 g68 g78 hB0 => ?_)
              clear hB
              obtain ⟨hB6, hP1, hD1⟩ := hB0
              rw [ht] at hP1
              obtain ⟨hP, hD⟩ := znP (W2 := [(oc8 x (.ref sh) (.ref lw) (.ref ro) (.ref bq) (.ref bp) (.ref dq) (.ref dp) (.ref lv) (.ref sl) (nI (dn + 1)) sd ul 0), (oc10 sl mc8 (.ref ea8) (nI (dn + 1))), (oc3 lw (.ref dr) (.ref tg) (.ref wy) (.ref br) (.ref bo) (.ref aa)), (oc6 tg (.ref tx) (.ref ty) (nI nt8) rt8), (oa tx cI 3 TX8), (oa ty cI 3 TY8), (oc6 wy (.ref wx) (.ref wz) (nI nw8) rw8), (oa wx cI 2 WX8), (oa wz cI 2 WY8), (oc6 dr (.ref dx) (.ref dy) (nI (nN (mn f0))) (rgK (kd f0).toInt)), (oa dx cI cd P7), (oa dy cI cd Q7), (oc0 br g08 g18 g28 g38), (oc0 bo g48 g58 g68 g78), (oc7 sh (.ref fa) (nI ft)), (oq fa cF 200 FA)]) hP hD hk1 hFc hP1 hD1 zl_78 [] zl_79 zl_80 (by decide +kernel) rfl rfl rfl rfl rfl
              clear hk1 hPc hDc hFc hP1 hD1 ht
              obtain ⟨hP9, hD9⟩ := zu_part (cx := [_, _, _, _, _, _, _, _, _, _, _, _, _, _, _, _]) hP hD [true, true, true, true, true, true, true, true, true, true, true, true, true, true, true, true] rfl rfl
              refine W.widen (k := ft + 6) (n := 4 * ft + 2 * nN (mn f0) + 815) (by omega) (by omega) ?_
              rw [hQ9]
              exact W.zret (ty := .boolean) (v := 1) hx hb hr (rfl) (fun t ht hW => ⟨⟨rfl, mc8, L8, f8, ea8, nt8, TX8, TY8, rt8, nw8, WX8, WY8, rw8, g08, g18, g28, g38, g48, g58, g68, g78, P7, Q7, (hB6), by rw [ht]; exact hP9, hD9⟩, hS.F ht⟩) hS.2.2 dX10_shift_179
            · have c_6 : 1 ≤ (kd f0).toInt ∧ (kd f0).toInt ≤ 5 := zp_1 c_6
              exfalso; omega
          · have c_5 : ¬ ((0 : Int32).toInt ≤ (nI rr).toInt ∧ (nI rr).toInt ≤ (20 : Int32).toInt) := zp_0 c_5
            exfalso; omega
        · have c_4 : ¬ ((-200 : Int32).toInt ≤ sy.toInt ∧ sy.toInt ≤ (200 : Int32).toInt) := zp_0 c_4
          exfalso; omega
    · have c_2 : ¬ (st f0).toInt = 1 := zc_ne rfl rfl c_2
      exfalso; omega
  · have c_1 : ¬ (0 ≤ (nI kk).toInt ∧ (nI kk).toInt < (((nN (mn f0)) : Nat) : Int)) := zp_0 c_1
    exfalso; omega
set_option maxHeartbeats 4000000 in
set_option maxRecDepth 100000 in
theorem k_shiftw_n (l : Launch) (dC : Nat → ClassId) (dI : Nat → Nat → Nat) (cI cZ cF : ClassId) (sz : Nat) (cO : ClassId) (e0 : Nat) (mi : Nat) (x : Nat) (sh : Nat) (lw : Nat) (ro : Nat) (bq : Nat) (bp : Nat) (dq : Nat) (dp : Nat) (lv : Nat) (sl : Nat) (sd : Int32) (ul : Int32) (su : Int32) (ea : Nat) (mc9 : Int32) (fa : Nat) (FA : Nat → Option Nat) (bs : Nat) (dn : Nat) (T : Nat) (ft : Nat) (FT : Nat → Nat) (V : Nat → Nat → Nat → Int32) (VX : Nat → Nat → Int32) (VY : Nat → Nat → Int32) (tn : Nat → Int32) (rk : Nat → Int32) (wd : Nat → Int32) (tw : Nat → Int32) (pa : Nat → Int32) (pb : Nat → Int32) (wh : Nat → Int32) (of9 : Nat → Int32) (we : Nat → Int32) (kd : Nat → Int32) (st : Nat → Int32) (gb : Nat → Int32) (it : Nat → Int32) (mn : Nat → Int32) (cx : Nat → Int32) (cy : Nat → Int32) (L : List Nat) (f : Nat → va_E) (f0 : Nat) (dr : Nat) (tg : Nat) (wy : Nat) (br : Nat) (bo : Nat) (aa : Nat) (tx : Nat) (ty : Nat) (nt : Nat) (TX : Nat → Int32) (TY : Nat → Int32) (rt : Int32) (wx : Nat) (wz : Nat) (nw : Nat) (WX : Nat → Int32) (WY : Nat → Int32) (rw : Int32) (dx : Nat) (dy : Nat) (nd : Nat) (cd : Nat) (P : Nat → Int32) (Q : Nat → Int32) (rd : Int32) (b1 : Int32) (b2 : Int32) (b3 : Int32) (b4 : Int32) (b5 : Int32) (b6 : Int32) (b7 : Int32) (b8 : Int32) (kk : Nat) (rr : Nat) (sx : Int32) (sy : Int32) (hB : shB cI cO L f e0 FA ea bs dn T ft FT V VX VY tn rk wd tw pa pb wh of9 we kd st gb it mn cx cy) (hf0 : f0 < ft) (htn : (tn f0).toInt = 0) (hst : (st f0).toInt = 1) (hwf : ∀ q, lvF ft st tn q → wfM mn cx cy q) (hkn : okN ft st tn kd mn) (hsm : mSm (kd f0).toInt (nN (mn f0)) (cF40 cx f0) (cF40 cy f0)) (hcd : 40 ≤ cd ∧ cd ≤ 1000) (hkk : kk < nN (mn f0)) (hrr : rr ≤ 20) (hdx : -200 ≤ sx.toInt ∧ sx.toInt ≤ 200) (hdy : -200 ≤ sy.toInt ∧ sy.toInt ≤ 200) (hkd : (kd f0).toInt = 0) (hbad : ¬ ((lwM ft st tn kd mn cx cy f0 (nN (mn f0)) (fun i => cF40 cx f0 i + sx) (fun i => cF40 cy f0 i + sy)) ∧ mvd (nN (mn f0)) (fun i => cF40 cx f0 i + sx) (fun i => cF40 cy f0 i + sy) (cF40 cx f0) (cF40 cy f0))) : zML l yX10_shift cX10_shift 8 (some .boolean) ({ frames := 6, cells := 0, slots := 0, locals := 146 } : Room) [.ref x, .int (nI f0), .int (nI kk), .int sx, .int sy, .int (nI rr)] (dC, dI) (zTyO cI cZ cF cO) e0 mi ([(oc8 x (.ref sh) (.ref lw) (.ref ro) (.ref bq) (.ref bp) (.ref dq) (.ref dp) (.ref lv) (.ref sl) (nI dn) sd ul su), (oc10 sl mc9 (.ref ea) (nI T)), (oc3 lw (.ref dr) (.ref tg) (.ref wy) (.ref br) (.ref bo) (.ref aa)), (oc6 tg (.ref tx) (.ref ty) (nI nt) rt), (oa tx cI 3 TX), (oa ty cI 3 TY), (oc6 wy (.ref wx) (.ref wz) (nI nw) rw), (oa wx cI 2 WX), (oa wz cI 2 WY), (oc6 dr (.ref dx) (.ref dy) (nI nd) rd), (oa dx cI cd P), (oa dy cI cd Q), (oc0 br b1 b2 b3 b4), (oc0 bo b5 b6 b7 b8), (oc7 sh (.ref fa) (nI ft)), (oq fa cF 200 FA)] ++ va_pl L f) sz (some (.int 0)) (fun A t => ∃ (ul1 : Int32), ∃ (su1 : Int32), ∃ (nt1 : Nat), ∃ (TX1 : Nat → Int32), ∃ (TY1 : Nat → Int32), ∃ (rt1 : Int32), ∃ (nw1 : Nat), ∃ (WX1 : Nat → Int32), ∃ (WY1 : Nat → Int32), ∃ (rw1 : Int32), ∃ (d5 : Int32), ∃ (d6 : Int32), ∃ (d7 : Int32), ∃ (d8 : Int32), ∃ (e5 : Int32), ∃ (e6 : Int32), ∃ (e7 : Int32), ∃ (e8 : Int32), ∃ (P1 : Nat → Int32), ∃ (Q1 : Nat → Int32), ((lwM ft st tn kd mn cx cy f0 (nN (mn f0)) (fun i => cF40 cx f0 i + sx) (fun i => cF40 cy f0 i + sy) → ul1 = ul) ∧ (¬ lwM ft st tn kd mn cx cy f0 (nN (mn f0)) (fun i => cF40 cx f0 i + sx) (fun i => cF40 cy f0 i + sy) → ul1 = ul + 1)) ∧ zPD (dC, dI) classes A ([(oc8 x (.ref sh) (.ref lw) (.ref ro) (.ref bq) (.ref bp) (.ref dq) (.ref dp) (.ref lv) (.ref sl) (nI dn) sd ul1 su1), (oc10 sl mc9 (.ref ea) (nI T)), (oc3 lw (.ref dr) (.ref tg) (.ref wy) (.ref br) (.ref bo) (.ref aa)), (oc6 tg (.ref tx) (.ref ty) (nI nt1) rt1), (oa tx cI 3 TX1), (oa ty cI 3 TY1), (oc6 wy (.ref wx) (.ref wz) (nI nw1) rw1), (oa wx cI 2 WX1), (oa wz cI 2 WY1), (oc6 dr (.ref dx) (.ref dy) (nI (nN (mn f0))) (rgK (kd f0).toInt)), (oa dx cI cd P1), (oa dy cI cd Q1), (oc0 br d5 d6 d7 d8), (oc0 bo e5 e6 e7 e8), (oc7 sh (.ref fa) (nI ft)), (oq fa cF 200 FA)] ++ va_pl L f) t.heap) 0 0 := by
  refine zInL (own := "ScaleShop") (loc := [(0, .ref x), (1, .int (nI f0)), (2, .int (nI kk)), (3, .int sx), (4, .int sy), (5, .int (nI rr))]) rfl rfl rfl rfl (fun p e s m below meth c hx hb hr hts hown hlocks hml hnm9 A hA hS hP hD hK hXL hXN hK3 Q9 hQ9 ls hl => ?_)
  obtain ⟨own, fe, cl, la, sp, SA, hG9, hH9, hft9⟩ := hB
  obtain ⟨hG, hM, hdT, hT5⟩ := M_0 hG9 hH9 hft9
  have h200 : ft ≤ 200 := hG.2.2.2.2.2.1.2.2.2.2.2
  have hFA9 := hG.2.2.2.2.2.2
  refine ex13 (sh_fc hG.1 hG.2.1 (Nat.le_refl _) hf0 htn) (fun lo5 lx5 ly5 ln5 LX5 LY5 we5 r5 rx5 ry5 cap5 X5 Y5 hc5 => ?_)
  have hc5 := fc_0 hc5
  have hb5 := hc5.2.2.1
  have hb6 := hc5.2.1
  have hlv : lvF ft st tn f0 := ⟨hf0, hst, htn⟩
  have hwf0 := hwf f0 hlv
  have hw1 := hwf0.2.1
  have hkn0 := hkn f0 hlv
  have hX5 := hc5.2.2.2.2.1
  have hkk9 : (nI kk).toInt = ((kk : Nat) : Int) := nI_toInt (by omega)
  have hrr9 : (nI rr).toInt = ((rr : Nat) : Int) := nI_toInt (by omega)
  have e_m200 : (-200 : Int32).toInt = -200 := (by decide)
  have e_200 : (200 : Int32).toInt = 200 := (by decide)
  have e_0 : (0 : Int32).toInt = 0 := (by decide)
  have e_20 : (20 : Int32).toInt = 20 := (by decide)
  have hc9_1 : inPl L f [(oc1 (fe f0) (rk f0) (wd f0) (tw f0) (pa f0) (pb f0) (.ref lo5) (.ref (la dn f0)) .null), (oc4 (la dn f0) (kd f0) (st f0) (.ref r5) (gb f0) (it f0) (nI we5)), (oc6 r5 (.ref rx5) (.ref ry5) (nI (nN (mn f0))) (rgK (kd f0).toInt)), (oa rx5 cI cap5 X5), (oa ry5 cI cap5 Y5), (oc6 lo5 (.ref lx5) (.ref ly5) (nI ln5) 0), (oa lx5 cI (cl f0) LX5), (oa ly5 cI (cl f0) LY5)] := ⟨ce_pl hc5.1.1, ce_pl hc5.1.2.1, ce_pl hc5.1.2.2.1.1, ce_pl hc5.1.2.2.1.2.1, ce_pl hc5.1.2.2.1.2.2.1, ce_pl hc5.1.2.2.2.1, ce_pl hc5.1.2.2.2.2.1, ce_pl hc5.1.2.2.2.2.2.1, trivial⟩
  have hD0_1 := hD
  obtain ⟨T_1, hT_1, hP, hD⟩ := pl_oT hP hD hc9_1 (pw8 hc5 (by omega))
  obtain ⟨hP, hD⟩ := zre (W2 := ([_, _, _, _, _, _, _, _, _, _, _, _, _, _, _, _, _, _, _, _, _, _, _, _] ++ va_pl T_1 f)) hP hD rfl
  refine lv_aload_n hx hb dX10_shift_0 rfl (lv_at hl 0 rfl) ?_
  refine va_get (D := (dC, dI)) (ci := 8) (v := .ref sh) (C := RX10) (T := TX10) (N := 13) hx hb hts inX10 hown hK hP 0 rfl rfl 0 (Nat.le_of_ble_eq_true rfl) (hts _ mw_309) (fun _ h9 => h9) rfl dX10_shift_1 ?_
  refine lv_iload_n hx hb dX10_shift_4 rfl (lv_at hl 1 rfl) ?_
  obtain ⟨hPc, hDc, hFc, hI1⟩ := zi_sub (wc := [_, _]) hP hD hS hA [14, 15] rfl rfl
  refine zcall (st1 := [.ref (fe f0)]) (va_runV (As := [.int (nI f0)]) (rest := []) ⟨hx, hb, hml, hown, hts⟩ (k_Sheet_find l dC dI cI cZ cF s.heap.size sh fa ft FA f0 (fe f0) (by first | with_reducible assumption | omega) (by first | with_reducible assumption | omega) (hFA9 f0 (by first | with_reducible assumption | omega))) (csV_94 hts rfl rfl ⟨Nat.le_of_ble_eq_true rfl, Nat.le_of_ble_eq_true rfl⟩) (zPV2 (q0 := 0) (ci := 7) hPc hDc hK3 hXN rfl rfl) rfl rfl hl.1 rfl (lv_room (Nat.le_of_ble_eq_true rfl)) dX10_shift_5 ⟨Nat.le_of_ble_eq_true rfl, Nat.le_of_ble_eq_true rfl⟩) hS hFc hFc rfl (fun t H locs ht hB hk1 hS => ?_)
  obtain ⟨hP1, hD1⟩ := hB
  rw [ht] at hP1
  replace hP := z0 hP hD hk1 hP1 hI1
  clear hk1 hPc hDc hFc hP1 hD1 ht hI1
  refine lv_astore (lv' := [(6, .ref (fe f0)), (0, .ref x), (1, .int (nI f0)), (2, .int (nI kk)), (3, .int sx), (4, .int sy), (5, .int (nI rr))]) hx hb dX10_shift_8 hl (Nat.le_of_ble_eq_true rfl) rfl (fun ls hl => ?_)
  refine lv_aload hx hb dX10_shift_10 (lv_at hl 0 rfl) ?_
  refine lv_ifnull hx hb dX10_shift_12 ?_
  refine lv_aload hx hb dX10_shift_15 (lv_at hl 0 rfl) ?_
  refine lv_iload_n hx hb dX10_shift_17 rfl (lv_at hl 3 rfl) ?_
  obtain ⟨hPc, hDc, hFc, hI1⟩ := zi_sub (wc := [_, _, _]) hP hD hS hA [16, 17, 18] rfl rfl
  refine zcall (st1 := [.int (pI (0 ≤ (nI kk).toInt ∧ (nI kk).toInt < (((nN (mn f0)) : Nat) : Int)))]) (va_runV (As := [.int (nI kk)]) (rest := []) ⟨hx, hb, hml, hown, hts⟩ (k_Feature_mayHaveCorner_r l dC dI cI cZ cF H.size (fe f0) lo5 (rk f0) (wd f0) (tw f0) (pa f0) (pb f0) (la dn f0) (kd f0) (st f0) (gb f0) (it f0) (nI we5) r5 rx5 ry5 (nN (mn f0)) (nI kk) (rgK (kd f0).toInt) (by first | with_reducible assumption | omega)) (csV_119 hts rfl rfl ⟨Nat.le_of_ble_eq_true rfl, Nat.le_of_ble_eq_true rfl⟩) (zPV2 (q0 := 0) (ci := 1) hPc hDc hK3 hXN rfl rfl) rfl rfl hl.1 rfl (lv_room (Nat.le_of_ble_eq_true rfl)) dX10_shift_18 ⟨Nat.le_of_ble_eq_true rfl, Nat.le_of_ble_eq_true rfl⟩) hS hFc hFc rfl (fun t H locs ht hB hk1 hS => ?_)
  obtain ⟨hP1, hD1⟩ := hB
  rw [ht] at hP1
  replace hP := z0 hP hD hk1 hP1 hI1
  clear hk1 hPc hDc hFc hP1 hD1 ht hI1
  refine lv_if_ne (tgt := 30) hx hb dX10_shift_21 rfl (fun c_1 => ?_) (fun c_1 => ?_)
  · have c_1 : 0 ≤ (nI kk).toInt ∧ (nI kk).toInt < (((nN (mn f0)) : Nat) : Int) := zp_1 c_1
    refine lv_aload hx hb dX10_shift_30 (lv_at hl 0 rfl) ?_
    refine va_get (D := (dC, dI)) (ci := 1) (v := .ref (la dn f0)) (C := RX2) (T := TX2) (N := 8) hx hb hts inX2 hown hK hP 16 rfl rfl 6 (Nat.le_of_ble_eq_true rfl) (hts _ mw_433) (fun _ h9 => h9) rfl dX10_shift_32 ?_
    refine va_get (D := (dC, dI)) (ci := 4) (v := .int (st f0)) (C := RX5) (T := TX5) (N := 6) hx hb hts inX5 hown hK hP 17 rfl rfl 1 (Nat.le_of_ble_eq_true rfl) (hts _ mw_385) (fun _ h9 => h9) rfl dX10_shift_35 ?_
    refine lv_iconst (v := 1) hx hb dX10_shift_38 rfl ?_
    refine lv_icmp_eq (tgt := 48) hx hb dX10_shift_39 rfl (fun c_2 => ?_) (fun c_2 => ?_)
    · have c_2 : (st f0).toInt = 1 := zc_eq rfl rfl c_2
      refine lv_iload_n hx hb dX10_shift_48 rfl (lv_at hl 4 rfl) ?_
      refine lv_sipush (v := (-200)) hx hb dX10_shift_49 rfl ?_
      refine lv_sipush (v := 200) hx hb dX10_shift_52 rfl ?_
      obtain ⟨hPc, hDc, hFc, hI1⟩ := zi_sub (wc := []) hP hD hS hA [] rfl rfl
      refine zcall (st1 := [.int (pI ((-200 : Int32).toInt ≤ sx.toInt ∧ sx.toInt ≤ (200 : Int32).toInt))]) (va_runS (As := [.int sx, .int (-200), .int 200]) (rest := []) ⟨hx, hb, hml, hown, hts⟩ (k_isWithin l dC dI cI cZ cF H.size sx (-200) 200 ) (csS_14 hts rfl rfl ⟨Nat.le_of_ble_eq_true rfl, Nat.le_of_ble_eq_true rfl⟩) (zPS2 hPc hDc hK3 hXN) rfl rfl hl.1 rfl (lv_room (Nat.le_of_ble_eq_true rfl)) dX10_shift_55 ⟨Nat.le_of_ble_eq_true rfl, Nat.le_of_ble_eq_true rfl⟩) hS hFc hFc rfl (fun t H locs ht hB hk1 hS => ?_)
      obtain ⟨hP1, hD1⟩ := hB
      rw [ht] at hP1
      replace hP := z0 hP hD hk1 hP1 hI1
      clear hk1 hPc hDc hFc hP1 hD1 ht hI1
      refine lv_if_eq (tgt := 75) hx hb dX10_shift_58 rfl (fun c_3 => ?_) (fun c_3 => ?_)
      · have c_3 : ¬ ((-200 : Int32).toInt ≤ sx.toInt ∧ sx.toInt ≤ (200 : Int32).toInt) := zp_0 c_3
        exfalso; omega
      · have c_3 : (-200 : Int32).toInt ≤ sx.toInt ∧ sx.toInt ≤ (200 : Int32).toInt := zp_1 c_3
        refine lv_iload hx hb dX10_shift_61 (lv_at hl 5 rfl) ?_
        refine lv_sipush (v := (-200)) hx hb dX10_shift_63 rfl ?_
        refine lv_sipush (v := 200) hx hb dX10_shift_66 rfl ?_
        obtain ⟨hPc, hDc, hFc, hI1⟩ := zi_sub (wc := []) hP hD hS hA [] rfl rfl
        refine zcall (st1 := [.int (pI ((-200 : Int32).toInt ≤ sy.toInt ∧ sy.toInt ≤ (200 : Int32).toInt))]) (va_runS (As := [.int sy, .int (-200), .int 200]) (rest := []) ⟨hx, hb, hml, hown, hts⟩ (k_isWithin l dC dI cI cZ cF H.size sy (-200) 200 ) (csS_14 hts rfl rfl ⟨Nat.le_of_ble_eq_true rfl, Nat.le_of_ble_eq_true rfl⟩) (zPS2 hPc hDc hK3 hXN) rfl rfl hl.1 rfl (lv_room (Nat.le_of_ble_eq_true rfl)) dX10_shift_69 ⟨Nat.le_of_ble_eq_true rfl, Nat.le_of_ble_eq_true rfl⟩) hS hFc hFc rfl (fun t H locs ht hB hk1 hS => ?_)
        obtain ⟨hP1, hD1⟩ := hB
        rw [ht] at hP1
        replace hP := z0 hP hD hk1 hP1 hI1
        clear hk1 hPc hDc hFc hP1 hD1 ht hI1
        refine lv_if_ne (tgt := 81) hx hb dX10_shift_72 rfl (fun c_4 => ?_) (fun c_4 => ?_)
        · have c_4 : (-200 : Int32).toInt ≤ sy.toInt ∧ sy.toInt ≤ (200 : Int32).toInt := zp_1 c_4
          refine lv_iload hx hb dX10_shift_81 (lv_at hl 6 rfl) ?_
          refine lv_iconst (v := 0) hx hb dX10_shift_83 rfl ?_
          refine lv_bipush (v := 20) hx hb dX10_shift_84 rfl ?_
          obtain ⟨hPc, hDc, hFc, hI1⟩ := zi_sub (wc := []) hP hD hS hA [] rfl rfl
          refine zcall (st1 := [.int (pI ((0 : Int32).toInt ≤ (nI rr).toInt ∧ (nI rr).toInt ≤ (20 : Int32).toInt))]) (va_runS (As := [.int (nI rr), .int 0, .int 20]) (rest := []) ⟨hx, hb, hml, hown, hts⟩ (k_isWithin l dC dI cI cZ cF H.size (nI rr) 0 20 ) (csS_14 hts rfl rfl ⟨Nat.le_of_ble_eq_true rfl, Nat.le_of_ble_eq_true rfl⟩) (zPS2 hPc hDc hK3 hXN) rfl rfl hl.1 rfl (lv_room (Nat.le_of_ble_eq_true rfl)) dX10_shift_86 ⟨Nat.le_of_ble_eq_true rfl, Nat.le_of_ble_eq_true rfl⟩) hS hFc hFc rfl (fun t H locs ht hB hk1 hS => ?_)
          obtain ⟨hP1, hD1⟩ := hB
          rw [ht] at hP1
          replace hP := z0 hP hD hk1 hP1 hI1
          clear hk1 hPc hDc hFc hP1 hD1 ht hI1
          refine lv_if_ne (tgt := 98) hx hb dX10_shift_89 rfl (fun c_5 => ?_) (fun c_5 => ?_)
          · have c_5 : (0 : Int32).toInt ≤ (nI rr).toInt ∧ (nI rr).toInt ≤ (20 : Int32).toInt := zp_1 c_5
            refine lv_aload hx hb dX10_shift_98 (lv_at hl 0 rfl) ?_
            refine va_get (D := (dC, dI)) (ci := 1) (v := .ref (la dn f0)) (C := RX2) (T := TX2) (N := 8) hx hb hts inX2 hown hK hP 16 rfl rfl 6 (Nat.le_of_ble_eq_true rfl) (hts _ mw_433) (fun _ h9 => h9) rfl dX10_shift_100 ?_
            refine va_get (D := (dC, dI)) (ci := 4) (v := .ref r5) (C := RX5) (T := TX5) (N := 6) hx hb hts inX5 hown hK hP 17 rfl rfl 2 (Nat.le_of_ble_eq_true rfl) (hts _ mw_391) (fun _ h9 => h9) rfl dX10_shift_103 ?_
            refine lv_astore (lv' := [(7, .ref r5), (6, .ref (fe f0)), (0, .ref x), (1, .int (nI f0)), (2, .int (nI kk)), (3, .int sx), (4, .int sy), (5, .int (nI rr))]) hx hb dX10_shift_106 hl (Nat.le_of_ble_eq_true rfl) rfl (fun ls hl => ?_)
            refine lv_aload hx hb dX10_shift_108 (lv_at hl 0 rfl) ?_
            refine lv_ifnonnull (tgt := 119) hx hb dX10_shift_110 rfl ?_
            refine lv_aload_n hx hb dX10_shift_119 rfl (lv_at hl 2 rfl) ?_
            refine va_get (D := (dC, dI)) (ci := 8) (v := .ref lw) (C := RX10) (T := TX10) (N := 13) hx hb hts inX10 hown hK hP 0 rfl rfl 1 (Nat.le_of_ble_eq_true rfl) (hts _ mw_310) (fun _ h9 => h9) rfl dX10_shift_120 ?_
            refine va_get (D := (dC, dI)) (ci := 3) (v := .ref dr) (C := RX4) (T := TX4) (N := 6) hx hb hts inX4 hown hK hP 2 rfl rfl 0 (Nat.le_of_ble_eq_true rfl) (hts _ mw_220) (fun _ h9 => h9) rfl dX10_shift_123 ?_
            refine lv_aload hx hb dX10_shift_126 (lv_at hl 0 rfl) ?_
            obtain ⟨hPc, hDc, hFc⟩ := zo_sub (wc := [_, _, _, _, _, _]) hP hD hS hA [9, 10, 11, 18, 19, 20] (by decide +kernel) rfl
            refine zcall (st1 := []) (va_runV (As := [.ref r5]) (rest := []) ⟨hx, hb, hml, hown, hts⟩ (k_Row_copyFrom l dC dI cI cZ cF H.size dr dx dy nd cd P Q rd r5 rx5 ry5 (nN (mn f0)) cap5 X5 Y5 (rgK (kd f0).toInt) (by first | with_reducible assumption | omega) (by first | with_reducible assumption | omega) (by first | with_reducible assumption | omega) (by first | with_reducible assumption | omega) (rgK_01 _)) (csV_120 hts rfl rfl ⟨Nat.le_of_ble_eq_true rfl, Nat.le_of_ble_eq_true rfl⟩) (zPV2 (q0 := 0) (ci := 6) hPc hDc hK3 hXN rfl rfl) rfl rfl hl.1 rfl (lv_room (Nat.le_of_ble_eq_true rfl)) dX10_shift_128 ⟨Nat.le_of_ble_eq_true rfl, Nat.le_of_ble_eq_true rfl⟩) hS hFc hFc rfl (fun t H locs ht hB hk1 hS => ?_)
            obtain ⟨P6, Q6, hcp7, hP1, hD1⟩ := hB
            rw [ht] at hP1
            obtain ⟨hP, hD⟩ := znQ (W2 := [_, _, _, _, _, _, _, _, _, (oc6 dr (.ref dx) (.ref dy) (nI (nN (mn f0))) (rgK (kd f0).toInt)), (oa dx cI cd P6), (oa dy cI cd Q6), _, _, _, _, _, _, _, _, _, _, _, _]) hP hD hk1 hFc hP1 hD1 [9, 10, 11, 18, 19, 20] zl_77 zl_77 [9, 10, 11, 18, 19, 20] (by decide +kernel) rfl rfl rfl rfl rfl
            clear hk1 hPc hDc hFc hP1 hD1 ht
            refine lv_aload hx hb dX10_shift_131 (lv_at hl 1 rfl) ?_
            obtain ⟨hPc, hDc, hFc, hI1⟩ := zi_sub (wc := [_, _]) hP hD hS hA [16, 17] rfl rfl
            refine zcall (st1 := [.int (pI (1 ≤ (kd f0).toInt ∧ (kd f0).toInt ≤ 5))]) (va_runV (As := []) (rest := []) ⟨hx, hb, hml, hown, hts⟩ (k_Feature_bends_r l dC dI cI cZ cF H.size (fe f0) lo5 (rk f0) (wd f0) (tw f0) (pa f0) (pb f0) (la dn f0) (kd f0) (st f0) (gb f0) (it f0) (nI we5) r5 ) (csV_97 hts rfl rfl ⟨Nat.le_of_ble_eq_true rfl, Nat.le_of_ble_eq_true rfl⟩) (zPV2 (q0 := 0) (ci := 1) hPc hDc hK3 hXN rfl rfl) rfl rfl hl.1 rfl (lv_room (Nat.le_of_ble_eq_true rfl)) dX10_shift_133 ⟨Nat.le_of_ble_eq_true rfl, Nat.le_of_ble_eq_true rfl⟩) hS hFc hFc rfl (fun t H locs ht hB hk1 hS => ?_)
            obtain ⟨hP1, hD1⟩ := hB
            rw [ht] at hP1
            replace hP := z0 hP hD hk1 hP1 hI1
            clear hk1 hPc hDc hFc hP1 hD1 ht hI1
            refine lv_if_eq (tgt := 158) hx hb dX10_shift_136 rfl (fun c_6 => ?_) (fun c_6 => ?_)
            · have c_6 : ¬ (1 ≤ (kd f0).toInt ∧ (kd f0).toInt ≤ 5) := zp_0 c_6
              refine lv_aload_n hx hb dX10_shift_158 rfl (lv_at hl 2 rfl) ?_
              refine va_get (D := (dC, dI)) (ci := 8) (v := .ref lw) (C := RX10) (T := TX10) (N := 13) hx hb hts inX10 hown hK hP 0 rfl rfl 1 (Nat.le_of_ble_eq_true rfl) (hts _ mw_310) (fun _ h9 => h9) rfl dX10_shift_159 ?_
              refine va_get (D := (dC, dI)) (ci := 3) (v := .ref dr) (C := RX4) (T := TX4) (N := 6) hx hb hts inX4 hown hK hP 2 rfl rfl 0 (Nat.le_of_ble_eq_true rfl) (hts _ mw_220) (fun _ h9 => h9) rfl dX10_shift_162 ?_
              refine lv_iload_n hx hb dX10_shift_165 rfl (lv_at hl 5 rfl) ?_
              refine lv_iload hx hb dX10_shift_166 (lv_at hl 6 rfl) ?_
              obtain ⟨hPc, hDc, hFc⟩ := zo_sub (wc := [_, _, _]) hP hD hS hA [9, 10, 11] rfl rfl
              refine zcall (st1 := []) (va_runV (As := [.int sx, .int sy]) (rest := []) ⟨hx, hb, hml, hown, hts⟩ (k_Row_carry l dC dI cI cZ cF H.size dr dx dy (nN (mn f0)) cd P6 Q6 (rgK (kd f0).toInt) sx sy (by first | with_reducible assumption | omega) (by first | with_reducible assumption | omega)) (csV_143 hts rfl rfl ⟨Nat.le_of_ble_eq_true rfl, Nat.le_of_ble_eq_true rfl⟩) (zPV2 (q0 := 0) (ci := 6) hPc hDc hK3 hXN rfl rfl) rfl rfl hl.1 rfl (lv_room (Nat.le_of_ble_eq_true rfl)) dX10_shift_168 ⟨Nat.le_of_ble_eq_true rfl, Nat.le_of_ble_eq_true rfl⟩) hS hFc hFc rfl (fun t H locs ht hB hk1 hS => ?_)
              obtain ⟨P7, Q7, hall7, hP1, hD1⟩ := hB
              rw [ht] at hP1
              obtain ⟨hP, hD⟩ := znQ (W2 := [_, _, _, _, _, _, _, _, _, _, (oa dx cI cd P7), (oa dy cI cd Q7), _, _, _, _, _, _, _, _, _, _, _, _]) hP hD hk1 hFc hP1 hD1 [9, 10, 11] zl_82 zl_82 [9, 10, 11] (by decide +kernel) rfl rfl rfl rfl rfl
              clear hk1 hPc hDc hFc hP1 hD1 ht
              have hv7 : ∀ k, k < nN (mn f0) → P7 k = (fun i => cF40 cx f0 i + sx) k ∧ Q7 k = (fun i => cF40 cy f0 i + sy) k := fun k hk => by rw [(hall7 k hk).1, (hall7 k hk).2, (hcp7 k hk).1, (hcp7 k hk).2, (hX5 k hk).1, (hX5 k hk).2]; exact ⟨rfl, rfl⟩
              refine lv_aload_n hx hb dX10_shift_171 rfl (lv_at hl 2 rfl) ?_
              refine lv_aload hx hb dX10_shift_172 (lv_at hl 1 rfl) ?_
              refine lv_iload_n hx hb dX10_shift_174 rfl (lv_at hl 3 rfl) ?_
              refine lv_iconst (v := 3) hx hb dX10_shift_175 rfl ?_
              obtain ⟨hPc, hDc, hFc⟩ := zo_part (cx := [_, _, _, _, _, _, _, _, _, _, _, _, _, _, _, _, _, _, _, _, _, _, _, _]) hP hD hS hA [0, 1, 2, 3, 4, 5, 6, 7, 8, 9, 10, 11, 12, 13, 16, 17, 18, 19, 20, 21, 22, 23, 14, 15] (by decide +kernel) rfl
              refine zcall (st1 := [.int 0]) (va_runV (As := [.ref (fe f0), .int (nI f0), .int 3]) (rest := []) ⟨hx, hb, hml, hown, hts⟩ (k_moveTo_w_r l dC dI cI cZ cF H.size cO e0 mi x sh lw ro bq bp dq dp lv sl sd ul su ea mc9 fa FA bs dn T ft FT V VX VY tn rk wd tw pa pb wh of9 we kd st gb it mn cx cy T_1 f L f0 own fe cl la sp SA lo5 lx5 ly5 ln5 LX5 LY5 we5 r5 rx5 ry5 cap5 X5 Y5 dr tg wy br bo aa tx ty nt TX TY rt wx wz nw WX WY rw dx dy cd P7 Q7 b1 b2 b3 b4 b5 b6 b7 b8 3 (hG9) (hH9) (hft9) (hc5) (hT_1) (by first | with_reducible assumption | assumption) (by first | with_reducible assumption | assumption) (hst) (hwf) (hkn) (by first | with_reducible assumption | omega) (by have := hkn0; have := hsm.1; omega) (fun h => hbad ⟨((alW_cx hw1.1 hX5).trans (by have hn9 : nN (mn f0) = 1 := hsm.1 (by first | with_reducible assumption | omega); rw [hn9] at hv7 ⊢; exact alW_lw (VX := fun i => cF40 cx f0 i + sx) (VY := fun i => cF40 cy f0 i + sy) (by first | with_reducible assumption | omega) hv7 hwf hkn)).mp h.1, Classical.byContradiction fun g => h.2 ((mv_alk hv7 hX5).mpr g)⟩)) (csV_117 hts rfl rfl ⟨Nat.le_of_ble_eq_true rfl, Nat.le_of_ble_eq_true rfl⟩) (zPVL (q0 := 0) (ci := 8) hPc hDc hK hXL hS hFc rfl rfl) rfl rfl hl.1 rfl (lv_room (Nat.le_of_ble_eq_true rfl)) dX10_shift_176 ⟨Nat.le_of_ble_eq_true rfl, Nat.le_of_ble_eq_true rfl⟩) hS hFc hFc rfl (fun t H locs ht hB hk1 hS => ?_)
              refine ex18 hB (fun ul8 su8 nt8 TX8 TY8 rt8 nw8 WX8 WY8 rw8 g08 g18 g28 g38 g48 g58 g68 g78 hB0 => ?_)
              clear hB
              obtain ⟨hul8, hP1, hD1⟩ := hB0
              rw [ht] at hP1
              obtain ⟨hP, hD⟩ := znP (W2 := [(oc8 x (.ref sh) (.ref lw) (.ref ro) (.ref bq) (.ref bp) (.ref dq) (.ref dp) (.ref lv) (.ref sl) (nI dn) sd ul8 su8), _, _, (oc6 tg (.ref tx) (.ref ty) (nI nt8) rt8), (oa tx cI 3 TX8), (oa ty cI 3 TY8), (oc6 wy (.ref wx) (.ref wz) (nI nw8) rw8), (oa wx cI 2 WX8), (oa wz cI 2 WY8), _, _, _, (oc0 br g08 g18 g28 g38), (oc0 bo g48 g58 g68 g78), _, _, _, _, _, _, _, _, _, _]) hP hD hk1 hFc hP1 hD1 zl_78 [] zl_81 zl_78 (by decide +kernel) rfl rfl rfl rfl rfl
              clear hk1 hPc hDc hFc hP1 hD1 ht
              obtain ⟨hP, hD⟩ := pl_bk (X := [_, _, _, _, _, _, _, _, _, _, _, _, _, _, _, _]) hT_1 hP rfl hc9_1 hD0_1 rfl
              obtain ⟨hP9, hD9⟩ := zu_part (cx := [_, _, _, _, _, _, _, _, _, _, _, _, _, _, _, _]) hP hD [true, true, true, true, true, true, true, true, true, true, true, true, true, true, true, true] rfl rfl
              rw [hQ9]
              exact W.zret (ty := .boolean) (v := 0) hx hb hr (rfl) (fun t ht hW => ⟨⟨rfl, ul8, su8, nt8, TX8, TY8, rt8, nw8, WX8, WY8, rw8, g08, g18, g28, g38, g48, g58, g68, g78, P7, Q7, (⟨fun h => hul8.1 (((alW_cx hw1.1 hX5).trans (by have hn9 : nN (mn f0) = 1 := hsm.1 (by omega); rw [hn9] at hv7 ⊢; exact alW_lw (VX := fun i => cF40 cx f0 i + sx) (VY := fun i => cF40 cy f0 i + sy) (by omega) hv7 hwf hkn)).mpr h), fun h => hul8.2 (fun g => h (((alW_cx hw1.1 hX5).trans (by have hn9 : nN (mn f0) = 1 := hsm.1 (by omega); rw [hn9] at hv7 ⊢; exact alW_lw (VX := fun i => cF40 cx f0 i + sx) (VY := fun i => cF40 cy f0 i + sy) (by omega) hv7 hwf hkn)).mp g))⟩), by rw [ht]; exact hP9, hD9⟩, hS.F ht⟩) hS.2.2 dX10_shift_179
            · have c_6 : 1 ≤ (kd f0).toInt ∧ (kd f0).toInt ≤ 5 := zp_1 c_6
              exfalso; omega
          · have c_5 : ¬ ((0 : Int32).toInt ≤ (nI rr).toInt ∧ (nI rr).toInt ≤ (20 : Int32).toInt) := zp_0 c_5
            exfalso; omega
        · have c_4 : ¬ ((-200 : Int32).toInt ≤ sy.toInt ∧ sy.toInt ≤ (200 : Int32).toInt) := zp_0 c_4
          exfalso; omega
    · have c_2 : ¬ (st f0).toInt = 1 := zc_ne rfl rfl c_2
      exfalso; omega
  · have c_1 : ¬ (0 ≤ (nI kk).toInt ∧ (nI kk).toInt < (((nN (mn f0)) : Nat) : Int)) := zp_0 c_1
    exfalso; omega
end
section
set_option maxHeartbeats 4000000 in
set_option maxRecDepth 100000 in
theorem k_square_4 (l : Launch) (dC : Nat → ClassId) (dI : Nat → Nat → Nat) (cI cZ cF : ClassId) (sz : Nat) (cO : ClassId) (e0 : Nat) (mi : Nat) (x : Nat) (sh : Nat) (lw : Nat) (ro : Nat) (bq : Nat) (bp : Nat) (dq : Nat) (dp : Nat) (lv : Nat) (sl : Nat) (sd : Int32) (ul : Int32) (su : Int32) (ea : Nat) (mc9 : Int32) (fa : Nat) (FA : Nat → Option Nat) (bs : Nat) (dn : Nat) (T : Nat) (ft : Nat) (FT : Nat → Nat) (V : Nat → Nat → Nat → Int32) (VX : Nat → Nat → Int32) (VY : Nat → Nat → Int32) (tn : Nat → Int32) (rk : Nat → Int32) (wd : Nat → Int32) (tw : Nat → Int32) (pa : Nat → Int32) (pb : Nat → Int32) (wh : Nat → Int32) (of9 : Nat → Int32) (we : Nat → Int32) (kd : Nat → Int32) (st : Nat → Int32) (gb : Nat → Int32) (it : Nat → Int32) (mn : Nat → Int32) (cx : Nat → Int32) (cy : Nat → Int32) (L : List Nat) (f : Nat → va_E) (f0 : Nat) (dr : Nat) (tg : Nat) (wy : Nat) (br : Nat) (bo : Nat) (aa : Nat) (tx : Nat) (ty : Nat) (nt : Nat) (TX : Nat → Int32) (TY : Nat → Int32) (rt : Int32) (wx : Nat) (wz : Nat) (nw : Nat) (WX : Nat → Int32) (WY : Nat → Int32) (rw : Int32) (dx : Nat) (dy : Nat) (nd : Nat) (cd : Nat) (P : Nat → Int32) (Q : Nat → Int32) (rd : Int32) (b1 : Int32) (b2 : Int32) (b3 : Int32) (b4 : Int32) (b5 : Int32) (b6 : Int32) (b7 : Int32) (b8 : Int32) (c1 : Int32) (c2 : Int32) (c3 : Int32) (c4 : Int32) (ms : Int32) (hB : shB cI cO L f e0 FA ea bs dn T ft FT V VX VY tn rk wd tw pa pb wh of9 we kd st gb it mn cx cy) (hf0 : f0 < ft) (htn : (tn f0).toInt = 0) (hst : (st f0).toInt = 1) (hkd5 : (kd f0).toInt = 5) (hms : 0 ≤ ms.toInt) (hwf : ∀ q, lvF ft st tn q → wfM mn cx cy q) (hkn : okN ft st tn kd mn) (hsm : mSm (kd f0).toInt (nN (mn f0)) (cF40 cx f0) (cF40 cy f0)) (hcd : 40 ≤ cd ∧ cd ≤ 1000) (hdf : ms.toInt < dfB (nN (mn f0)) (cF40 cx f0) (cF40 cy f0)) : zML l yX10_square cX10_square 5 (some .boolean) ({ frames := 3, cells := 0, slots := 0, locals := 65 } : Room) [.ref x, .int (nI f0), .int ms] (dC, dI) (zTyO cI cZ cF cO) e0 mi ([(oc8 x (.ref sh) (.ref lw) (.ref ro) (.ref bq) (.ref bp) (.ref dq) (.ref dp) (.ref lv) (.ref sl) (nI dn) sd ul su), (oc10 sl mc9 (.ref ea) (nI T)), (oc3 lw (.ref dr) (.ref tg) (.ref wy) (.ref br) (.ref bo) (.ref aa)), (oc6 tg (.ref tx) (.ref ty) (nI nt) rt), (oa tx cI 3 TX), (oa ty cI 3 TY), (oc6 wy (.ref wx) (.ref wz) (nI nw) rw), (oa wx cI 2 WX), (oa wz cI 2 WY), (oc6 dr (.ref dx) (.ref dy) (nI nd) rd), (oa dx cI cd P), (oa dy cI cd Q), (oc0 br b1 b2 b3 b4), (oc0 bo b5 b6 b7 b8), (oc0 bq c1 c2 c3 c4), (oc7 sh (.ref fa) (nI ft)), (oq fa cF 200 FA)] ++ va_pl L f) sz (some (.int 0)) (fun A t => ∃ (P1 : Nat → Int32), ∃ (Q1 : Nat → Int32), ∃ (c5 : Int32), ∃ (c6 : Int32), ∃ (c7 : Int32), ∃ (c8 : Int32), zPD (dC, dI) classes A ([(oc8 x (.ref sh) (.ref lw) (.ref ro) (.ref bq) (.ref bp) (.ref dq) (.ref dp) (.ref lv) (.ref sl) (nI dn) sd ul 4), (oc10 sl mc9 (.ref ea) (nI T)), (oc3 lw (.ref dr) (.ref tg) (.ref wy) (.ref br) (.ref bo) (.ref aa)), (oc6 tg (.ref tx) (.ref ty) (nI nt) rt), (oa tx cI 3 TX), (oa ty cI 3 TY), (oc6 wy (.ref wx) (.ref wz) (nI nw) rw), (oa wx cI 2 WX), (oa wz cI 2 WY), (oc6 dr (.ref dx) (.ref dy) (nI 4) 1), (oa dx cI cd P1), (oa dy cI cd Q1), (oc0 br b1 b2 b3 b4), (oc0 bo b5 b6 b7 b8), (oc0 bq c5 c6 c7 c8), (oc7 sh (.ref fa) (nI ft)), (oq fa cF 200 FA)] ++ va_pl L f) t.heap) 0 0 := by
  refine zInL (own := "ScaleShop") (loc := [(0, .ref x), (1, .int (nI f0)), (2, .int ms)]) rfl rfl rfl rfl (fun p e s m below meth c hx hb hr hts hown hlocks hml hnm9 A hA hS hP hD hK hXL hXN hK3 Q9 hQ9 ls hl => ?_)
  obtain ⟨own, fe, cl, la, sp, SA, hG9, hH9, hft9⟩ := hB
  obtain ⟨hG, hM, hdT, hT5⟩ := M_0 hG9 hH9 hft9
  have h200 : ft ≤ 200 := hG.2.2.2.2.2.1.2.2.2.2.2
  have hFA9 := hG.2.2.2.2.2.2
  refine ex13 (sh_fc hG.1 hG.2.1 (Nat.le_refl _) hf0 htn) (fun lo5 lx5 ly5 ln5 LX5 LY5 we5 r5 rx5 ry5 cap5 X5 Y5 hc5 => ?_)
  have hc5 := fc_0 hc5
  have hb5 := hc5.2.2.1
  have hb6 := hc5.2.1
  have hlv : lvF ft st tn f0 := ⟨hf0, hst, htn⟩
  have hwf0 := hwf f0 hlv
  have hw1 := hwf0.2.1
  have hkn0 := hkn f0 hlv
  have hX5 := hc5.2.2.2.2.1
  have hp5 := (pls_cg hX5).mpr hwf0.2.2
  have hc9_1 : inPl L f [(oc1 (fe f0) (rk f0) (wd f0) (tw f0) (pa f0) (pb f0) (.ref lo5) (.ref (la dn f0)) .null), (oc4 (la dn f0) (kd f0) (st f0) (.ref r5) (gb f0) (it f0) (nI we5)), (oc6 r5 (.ref rx5) (.ref ry5) (nI (nN (mn f0))) (rgK (kd f0).toInt)), (oa rx5 cI cap5 X5), (oa ry5 cI cap5 Y5), (oc6 lo5 (.ref lx5) (.ref ly5) (nI ln5) 0), (oa lx5 cI (cl f0) LX5), (oa ly5 cI (cl f0) LY5)] := ⟨ce_pl hc5.1.1, ce_pl hc5.1.2.1, ce_pl hc5.1.2.2.1.1, ce_pl hc5.1.2.2.1.2.1, ce_pl hc5.1.2.2.1.2.2.1, ce_pl hc5.1.2.2.2.1, ce_pl hc5.1.2.2.2.2.1, ce_pl hc5.1.2.2.2.2.2.1, trivial⟩
  have hD0_1 := hD
  obtain ⟨T_1, hT_1, hP, hD⟩ := pl_oT hP hD hc9_1 (pw8 hc5 (by omega))
  obtain ⟨hP, hD⟩ := zre (W2 := ([_, _, _, _, _, _, _, _, _, _, _, _, _, _, _, _, _, _, _, _, _, _, _, _, _] ++ va_pl T_1 f)) hP hD rfl
  refine lv_aload_n hx hb dX10_square_0 rfl (lv_at hl 0 rfl) ?_
  refine va_get (D := (dC, dI)) (ci := 8) (v := .ref sh) (C := RX10) (T := TX10) (N := 13) hx hb hts inX10 hown hK hP 0 rfl rfl 0 (Nat.le_of_ble_eq_true rfl) (hts _ mw_309) (fun _ h9 => h9) rfl dX10_square_1 ?_
  refine lv_iload_n hx hb dX10_square_4 rfl (lv_at hl 1 rfl) ?_
  obtain ⟨hPc, hDc, hFc, hI1⟩ := zi_sub (wc := [_, _]) hP hD hS hA [15, 16] rfl rfl
  refine zcall (st1 := [.ref (fe f0)]) (va_runV (As := [.int (nI f0)]) (rest := []) ⟨hx, hb, hml, hown, hts⟩ (k_Sheet_find l dC dI cI cZ cF s.heap.size sh fa ft FA f0 (fe f0) (by first | with_reducible assumption | omega) (by first | with_reducible assumption | omega) (hFA9 f0 (by first | with_reducible assumption | omega))) (csV_94 hts rfl rfl ⟨Nat.le_of_ble_eq_true rfl, Nat.le_of_ble_eq_true rfl⟩) (zPV2 (q0 := 0) (ci := 7) hPc hDc hK3 hXN rfl rfl) rfl rfl hl.1 rfl (lv_room (Nat.le_of_ble_eq_true rfl)) dX10_square_5 ⟨Nat.le_of_ble_eq_true rfl, Nat.le_of_ble_eq_true rfl⟩) hS hFc hFc rfl (fun t H locs ht hB hk1 hS => ?_)
  obtain ⟨hP1, hD1⟩ := hB
  rw [ht] at hP1
  replace hP := z0 hP hD hk1 hP1 hI1
  clear hk1 hPc hDc hFc hP1 hD1 ht hI1
  refine lv_astore_n (lv' := [(3, .ref (fe f0)), (0, .ref x), (1, .int (nI f0)), (2, .int ms)]) hx hb dX10_square_8 rfl hl (Nat.le_of_ble_eq_true rfl) rfl (fun ls hl => ?_)
  refine lv_aload_n hx hb dX10_square_9 rfl (lv_at hl 0 rfl) ?_
  refine lv_ifnonnull (tgt := 19) hx hb dX10_square_10 rfl ?_
  refine lv_aload_n hx hb dX10_square_19 rfl (lv_at hl 0 rfl) ?_
  refine va_get (D := (dC, dI)) (ci := 1) (v := .ref (la dn f0)) (C := RX2) (T := TX2) (N := 8) hx hb hts inX2 hown hK hP 17 rfl rfl 6 (Nat.le_of_ble_eq_true rfl) (hts _ mw_433) (fun _ h9 => h9) rfl dX10_square_20 ?_
  refine va_get (D := (dC, dI)) (ci := 4) (v := .int (st f0)) (C := RX5) (T := TX5) (N := 6) hx hb hts inX5 hown hK hP 18 rfl rfl 1 (Nat.le_of_ble_eq_true rfl) (hts _ mw_385) (fun _ h9 => h9) rfl dX10_square_23 ?_
  refine lv_iconst (v := 1) hx hb dX10_square_26 rfl ?_
  refine lv_icmp_eq (tgt := 36) hx hb dX10_square_27 rfl (fun c_1 => ?_) (fun c_1 => ?_)
  · have c_1 : (st f0).toInt = 1 := zc_eq rfl rfl c_1
    refine lv_aload_n hx hb dX10_square_36 rfl (lv_at hl 0 rfl) ?_
    refine va_get (D := (dC, dI)) (ci := 1) (v := .ref (la dn f0)) (C := RX2) (T := TX2) (N := 8) hx hb hts inX2 hown hK hP 17 rfl rfl 6 (Nat.le_of_ble_eq_true rfl) (hts _ mw_433) (fun _ h9 => h9) rfl dX10_square_37 ?_
    refine va_get (D := (dC, dI)) (ci := 4) (v := .int (kd f0)) (C := RX5) (T := TX5) (N := 6) hx hb hts inX5 hown hK hP 18 rfl rfl 0 (Nat.le_of_ble_eq_true rfl) (hts _ mw_381) (fun _ h9 => h9) rfl dX10_square_40 ?_
    refine lv_iconst (v := 5) hx hb dX10_square_43 rfl ?_
    refine lv_icmp_eq (tgt := 53) hx hb dX10_square_44 rfl (fun c_2 => ?_) (fun c_2 => ?_)
    · have c_2 : (kd f0).toInt = 5 := zc_eq rfl rfl c_2
      refine lv_iload_n hx hb dX10_square_53 rfl (lv_at hl 3 rfl) ?_
      refine lv_if_ge (tgt := 63) hx hb dX10_square_54 rfl (fun c_3 => ?_) (fun c_3 => ?_)
      · have c_3 : 0 ≤ ms.toInt := zc_le rfl rfl c_3
        refine lv_aload_n hx hb dX10_square_63 rfl (lv_at hl 0 rfl) ?_
        refine va_get (D := (dC, dI)) (ci := 1) (v := .ref (la dn f0)) (C := RX2) (T := TX2) (N := 8) hx hb hts inX2 hown hK hP 17 rfl rfl 6 (Nat.le_of_ble_eq_true rfl) (hts _ mw_433) (fun _ h9 => h9) rfl dX10_square_64 ?_
        refine va_get (D := (dC, dI)) (ci := 4) (v := .ref r5) (C := RX5) (T := TX5) (N := 6) hx hb hts inX5 hown hK hP 18 rfl rfl 2 (Nat.le_of_ble_eq_true rfl) (hts _ mw_391) (fun _ h9 => h9) rfl dX10_square_67 ?_
        refine lv_astore (lv' := [(4, .ref r5), (3, .ref (fe f0)), (0, .ref x), (1, .int (nI f0)), (2, .int ms)]) hx hb dX10_square_70 hl (Nat.le_of_ble_eq_true rfl) rfl (fun ls hl => ?_)
        refine lv_aload hx hb dX10_square_72 (lv_at hl 0 rfl) ?_
        refine lv_ifnonnull (tgt := 83) hx hb dX10_square_74 rfl ?_
        refine lv_aload_n hx hb dX10_square_83 rfl (lv_at hl 2 rfl) ?_
        refine va_get (D := (dC, dI)) (ci := 8) (v := .ref bq) (C := RX10) (T := TX10) (N := 13) hx hb hts inX10 hown hK hP 0 rfl rfl 3 (Nat.le_of_ble_eq_true rfl) (hts _ mw_312) (fun _ h9 => h9) rfl dX10_square_84 ?_
        refine lv_aload hx hb dX10_square_87 (lv_at hl 0 rfl) ?_
        obtain ⟨hPc, hDc, hFc⟩ := zo_sub (wc := [_, _, _, _]) hP hD hS hA [14, 19, 20, 21] (by decide +kernel) rfl
        refine zcall (st1 := []) (va_runV (As := [.ref r5]) (rest := []) ⟨hx, hb, hml, hown, hts⟩ (k_Box_cover l dC dI cI cZ cF H.size bq c1 c2 c3 c4 r5 rx5 ry5 (nN (mn f0)) cap5 X5 Y5 (rgK (kd f0).toInt) (by first | with_reducible assumption | omega) (by first | with_reducible assumption | omega) ((pls_nr hp5).1) ((pls_nr hp5).2) (by first | with_reducible assumption | omega)) (csV_129 hts rfl rfl ⟨Nat.le_of_ble_eq_true rfl, Nat.le_of_ble_eq_true rfl⟩) (zPV2 (q0 := 0) (ci := 0) hPc hDc hK3 hXN rfl rfl) rfl rfl hl.1 rfl (lv_room (Nat.le_of_ble_eq_true rfl)) dX10_square_89 ⟨Nat.le_of_ble_eq_true rfl, Nat.le_of_ble_eq_true rfl⟩) hS hFc hFc rfl (fun t H locs ht hB hk1 hS => ?_)
        obtain ⟨hP1, hD1⟩ := hB
        rw [ht] at hP1
        obtain ⟨hP, hD⟩ := znQ (W2 := [_, _, _, _, _, _, _, _, _, _, _, _, _, _, (oc0 bq (iI (mnI (X5 0).toInt X5 (nN (mn f0)))) (iI (mnI (Y5 0).toInt Y5 (nN (mn f0)))) (iI (mxI (X5 0).toInt X5 (nN (mn f0)))) (iI (mxI (Y5 0).toInt Y5 (nN (mn f0))))), _, _, _, _, _, _, _, _, _, _]) hP hD hk1 hFc hP1 hD1 [14, 19, 20, 21] zl_115 zl_115 [14, 19, 20, 21] (by decide +kernel) rfl rfl rfl rfl rfl
        clear hk1 hPc hDc hFc hP1 hD1 ht
        refine lv_aload_n hx hb dX10_square_92 rfl (lv_at hl 2 rfl) ?_
        refine va_get (D := (dC, dI)) (ci := 8) (v := .ref lw) (C := RX10) (T := TX10) (N := 13) hx hb hts inX10 hown hK hP 0 rfl rfl 1 (Nat.le_of_ble_eq_true rfl) (hts _ mw_310) (fun _ h9 => h9) rfl dX10_square_93 ?_
        refine va_get (D := (dC, dI)) (ci := 3) (v := .ref dr) (C := RX4) (T := TX4) (N := 6) hx hb hts inX4 hown hK hP 2 rfl rfl 0 (Nat.le_of_ble_eq_true rfl) (hts _ mw_220) (fun _ h9 => h9) rfl dX10_square_96 ?_
        refine lv_aload_n hx hb dX10_square_99 rfl (lv_at hl 2 rfl) ?_
        refine va_get (D := (dC, dI)) (ci := 8) (v := .ref bq) (C := RX10) (T := TX10) (N := 13) hx hb hts inX10 hown hK hP 0 rfl rfl 3 (Nat.le_of_ble_eq_true rfl) (hts _ mw_312) (fun _ h9 => h9) rfl dX10_square_100 ?_
        obtain ⟨hPc, hDc, hFc⟩ := zo_sub (wc := [_, _, _, _]) hP hD hS hA [9, 10, 11, 14] (by decide +kernel) rfl
        refine zcall (st1 := []) (va_runV (As := [.ref bq]) (rest := []) ⟨hx, hb, hml, hown, hts⟩ (k_Row_boxFrom l dC dI cI cZ cF H.size dr dx dy nd cd P Q rd bq (iI (mnI (X5 0).toInt X5 (nN (mn f0)))) (iI (mnI (Y5 0).toInt Y5 (nN (mn f0)))) (iI (mxI (X5 0).toInt X5 (nN (mn f0)))) (iI (mxI (Y5 0).toInt Y5 (nN (mn f0)))) (by first | with_reducible assumption | omega) (by first | with_reducible assumption | omega)) (csV_131 hts rfl rfl ⟨Nat.le_of_ble_eq_true rfl, Nat.le_of_ble_eq_true rfl⟩) (zPV2 (q0 := 0) (ci := 6) hPc hDc hK3 hXN rfl rfl) rfl rfl hl.1 rfl (lv_room (Nat.le_of_ble_eq_true rfl)) dX10_square_103 ⟨Nat.le_of_ble_eq_true rfl, Nat.le_of_ble_eq_true rfl⟩) hS hFc hFc rfl (fun t H locs ht hB hk1 hS => ?_)
        obtain ⟨hP1, hD1⟩ := hB
        rw [ht] at hP1
        obtain ⟨hP, hD⟩ := znQ (W2 := [_, _, _, _, _, _, _, _, _, (oc6 dr (.ref dx) (.ref dy) (nI 4) 1), (oa dx cI cd (upd (upd (upd (upd P 0 (iI (mnI (X5 0).toInt X5 (nN (mn f0))))) 1 (iI (mxI (X5 0).toInt X5 (nN (mn f0))))) 2 (iI (mxI (X5 0).toInt X5 (nN (mn f0))))) 3 (iI (mnI (X5 0).toInt X5 (nN (mn f0)))))), (oa dy cI cd (upd (upd (upd (upd Q 0 (iI (mnI (Y5 0).toInt Y5 (nN (mn f0))))) 1 (iI (mnI (Y5 0).toInt Y5 (nN (mn f0))))) 2 (iI (mxI (Y5 0).toInt Y5 (nN (mn f0))))) 3 (iI (mxI (Y5 0).toInt Y5 (nN (mn f0)))))), _, _, _, _, _, _, _, _, _, _, _, _, _]) hP hD hk1 hFc hP1 hD1 [9, 10, 11, 14] zl_116 zl_116 [9, 10, 11, 14] (by decide +kernel) rfl rfl rfl rfl rfl
        clear hk1 hPc hDc hFc hP1 hD1 ht
        obtain ⟨P7, hP7⟩ : ∃ z9 : Nat → Int32, z9 = upd (upd (upd (upd P 0 (iI (mnI (X5 0).toInt X5 (nN (mn f0))))) 1 (iI (mxI (X5 0).toInt X5 (nN (mn f0))))) 2 (iI (mxI (X5 0).toInt X5 (nN (mn f0))))) 3 (iI (mnI (X5 0).toInt X5 (nN (mn f0)))) := ⟨_, rfl⟩
        rw [← hP7] at hP hD
        obtain ⟨Q7, hQ7⟩ : ∃ z9 : Nat → Int32, z9 = upd (upd (upd (upd Q 0 (iI (mnI (Y5 0).toInt Y5 (nN (mn f0))))) 1 (iI (mnI (Y5 0).toInt Y5 (nN (mn f0))))) 2 (iI (mxI (Y5 0).toInt Y5 (nN (mn f0))))) 3 (iI (mxI (Y5 0).toInt Y5 (nN (mn f0)))) := ⟨_, rfl⟩
        rw [← hQ7] at hP hD
        obtain ⟨hP, hD⟩ := zre (W2 := ([_, _, _, _, _, _, _, _, _, _, _, _, _, _, _, _, _, _, _, _, _, _, _, _, _] ++ va_pl T_1 f)) hP hD rfl
        have hp0 : P7 0 = iI (mnI (X5 0).toInt X5 (nN (mn f0))) ∧ P7 1 = iI (mxI (X5 0).toInt X5 (nN (mn f0))) ∧ P7 2 = iI (mxI (X5 0).toInt X5 (nN (mn f0))) ∧ P7 3 = iI (mnI (X5 0).toInt X5 (nN (mn f0))) := (by rw [hP7]; exact bx_4)
        have hq0 : Q7 0 = iI (mnI (Y5 0).toInt Y5 (nN (mn f0))) ∧ Q7 1 = iI (mnI (Y5 0).toInt Y5 (nN (mn f0))) ∧ Q7 2 = iI (mxI (Y5 0).toInt Y5 (nN (mn f0))) ∧ Q7 3 = iI (mxI (Y5 0).toInt Y5 (nN (mn f0))) := (by rw [hQ7]; exact bx_5)
        obtain ⟨hp47, hdf7, ha47, han7⟩ := bx_sq hp5 (by omega) hp0 hq0
        have hdf8 : dfB (nN (mn f0)) X5 Y5 = dfB (nN (mn f0)) (cF40 cx f0) (cF40 cy f0) := (by have e1 := mnI_cg (z := (X5 0).toInt) (fun j hj => (hX5 j hj).1) _ (Nat.le_refl _); have e2 := mnI_cg (z := (Y5 0).toInt) (fun j hj => (hX5 j hj).2) _ (Nat.le_refl _); rw [dfB_eq, dfB_eq, e1.1, e1.2, e2.1, e2.2, ar2_cg hX5 _ (Nat.le_refl _), (hX5 0 (by omega)).1, (hX5 0 (by omega)).2])
        have hmn8 : ∀ j, iI (mnI (X5 0).toInt X5 (nN (mn f0))) = iI (bL (cF40 cx f0) (nN (mn f0))) ∧ iI (mxI (X5 0).toInt X5 (nN (mn f0))) = iI (bH (cF40 cx f0) (nN (mn f0))) ∧ iI (mnI (Y5 0).toInt Y5 (nN (mn f0))) = iI (bL (cF40 cy f0) (nN (mn f0))) ∧ iI (mxI (Y5 0).toInt Y5 (nN (mn f0))) = iI (bH (cF40 cy f0) (nN (mn f0))) := fun (_ : Nat) => (by have e1 := mnI_cg (z := (X5 0).toInt) (fun j hj => (hX5 j hj).1) _ (Nat.le_refl _); have e2 := mnI_cg (z := (Y5 0).toInt) (fun j hj => (hX5 j hj).2) _ (Nat.le_refl _); rw [e1.1, e1.2, e2.1, e2.2, (hX5 0 (by omega)).1, (hX5 0 (by omega)).2]; exact ⟨rfl, rfl, rfl, rfl⟩)
        have hm8 := hmn8 0
        have hlS : ((pls 4 P7 Q7 ∧ ((∀ i, i < edg 4 (1 : Int32) → eFr 4 P7 Q7 (1 : Int32) i (i + 1)) ∧ (¬ (6 : Int32).toInt = 6 ∨ ∀ k, k < 4 → eRt 4 P7 Q7 k)) ∧ ∀ q, q < ft → (q ≠ f0 → lvF ft st tn q → (apB (mnI (mnI (X5 0).toInt X5 (nN (mn f0))) P7 4) (mnI (mnI (Y5 0).toInt Y5 (nN (mn f0))) Q7 4) (mxI (mxI (X5 0).toInt X5 (nN (mn f0))) P7 4) (mxI (mxI (Y5 0).toInt Y5 (nN (mn f0))) Q7 4) (nN (mn q)) (cF40 cx q) (cF40 cy q) ∨ (asb (nN (mn f0)) X5 Y5 (rgK (kd f0).toInt) 4 P7 Q7 (1 : Int32) (nN (mn q)) (cF40 cx q) (cF40 cy q) (rgK (kd q).toInt)))))) ↔ lwS ft st tn kd mn cx cy f0 (nN (mn f0)) := (alB_cx (rg := rgK (kd f0).toInt) (rd := (1 : Int32)) hw1.1 hX5).trans (by rw [hkd5]; exact alB_lw (by have h9 := (hsm.2 (by omega)).1; unfold mnc at h9; rw [if_pos (by omega)] at h9; omega) hkd5 ⟨hp0.1.trans hm8.1, hq0.1.trans hm8.2.2.1⟩ ⟨hp0.2.1.trans hm8.2.1, hq0.2.1.trans hm8.2.2.1⟩ ⟨hp0.2.2.1.trans hm8.2.1, hq0.2.2.1.trans hm8.2.2.2⟩ ⟨hp0.2.2.2.trans hm8.1, hq0.2.2.2.trans hm8.2.2.2⟩ hwf hkn)
        refine lv_aload_n hx hb dX10_square_106 rfl (lv_at hl 2 rfl) ?_
        refine va_get (D := (dC, dI)) (ci := 8) (v := .ref lw) (C := RX10) (T := TX10) (N := 13) hx hb hts inX10 hown hK hP 0 rfl rfl 1 (Nat.le_of_ble_eq_true rfl) (hts _ mw_310) (fun _ h9 => h9) rfl dX10_square_107 ?_
        refine va_get (D := (dC, dI)) (ci := 3) (v := .ref dr) (C := RX4) (T := TX4) (N := 6) hx hb hts inX4 hown hK hP 2 rfl rfl 0 (Nat.le_of_ble_eq_true rfl) (hts _ mw_220) (fun _ h9 => h9) rfl dX10_square_110 ?_
        obtain ⟨hPc, hDc, hFc, hI1⟩ := zi_sub (wc := [_, _, _]) hP hD hS hA [9, 10, 11] rfl rfl
        refine zcall (st1 := [.int (nI (Int.natAbs (ar2 4 P7 Q7 4)))]) (va_runV (As := []) (rest := []) ⟨hx, hb, hml, hown, hts⟩ (k_Row_doubleArea l dC dI cI cZ cF H.size dr dx dy 4 cd P7 Q7 1 (by first | with_reducible assumption | omega) (by first | with_reducible assumption | omega) (hp47)) (csV_123 hts rfl rfl ⟨Nat.le_of_ble_eq_true rfl, Nat.le_of_ble_eq_true rfl⟩) (zPV2 (q0 := 0) (ci := 6) hPc hDc hK3 hXN rfl rfl) rfl rfl hl.1 rfl (lv_room (Nat.le_of_ble_eq_true rfl)) dX10_square_113 ⟨Nat.le_of_ble_eq_true rfl, Nat.le_of_ble_eq_true rfl⟩) hS hFc hFc rfl (fun t H locs ht hB hk1 hS => ?_)
        obtain ⟨hP1, hD1⟩ := hB
        rw [ht] at hP1
        replace hP := z0 hP hD hk1 hP1 hI1
        clear hk1 hPc hDc hFc hP1 hD1 ht hI1
        refine lv_aload hx hb dX10_square_116 (lv_at hl 0 rfl) ?_
        obtain ⟨hPc, hDc, hFc, hI1⟩ := zi_sub (wc := [_, _, _]) hP hD hS hA [19, 20, 21] rfl rfl
        refine zcall (st1 := [.int (nI (Int.natAbs (ar2 (nN (mn f0)) X5 Y5 (nN (mn f0))))), .int (nI (Int.natAbs (ar2 4 P7 Q7 4)))]) (va_runV (As := []) (rest := [.int (nI (Int.natAbs (ar2 4 P7 Q7 4)))]) ⟨hx, hb, hml, hown, hts⟩ (k_Row_doubleArea l dC dI cI cZ cF H.size r5 rx5 ry5 (nN (mn f0)) cap5 X5 Y5 (rgK (kd f0).toInt) (by first | with_reducible assumption | omega) (by first | with_reducible assumption | omega) (hp5)) (csV_123 hts rfl rfl ⟨Nat.le_of_ble_eq_true rfl, Nat.le_of_ble_eq_true rfl⟩) (zPV2 (q0 := 0) (ci := 6) hPc hDc hK3 hXN rfl rfl) rfl rfl hl.1 rfl (lv_room (Nat.le_of_ble_eq_true rfl)) dX10_square_118 ⟨Nat.le_of_ble_eq_true rfl, Nat.le_of_ble_eq_true rfl⟩) hS hFc hFc rfl (fun t H locs ht hB hk1 hS => ?_)
        obtain ⟨hP1, hD1⟩ := hB
        rw [ht] at hP1
        replace hP := z0 hP hD hk1 hP1 hI1
        clear hk1 hPc hDc hFc hP1 hD1 ht hI1
        refine lv_isub hx hb dX10_square_121 ?_
        refine zz_i (v := iI (((Int.natAbs (ar2 4 P7 Q7 4) : Nat) : Int) - ((Int.natAbs (ar2 (nN (mn f0)) X5 Y5 (nN (mn f0))) : Nat) : Int))) (nn_sub (by omega) (by omega)) ?_
        refine lv_iload_n hx hb dX10_square_122 rfl (lv_at hl 4 rfl) ?_
        refine lv_icmp_le (tgt := 132) hx hb dX10_square_123 rfl (fun c_4 => ?_) (fun c_4 => ?_)
        · have c_4 : (((Int.natAbs (ar2 4 P7 Q7 4) : Nat) : Int) - ((Int.natAbs (ar2 (nN (mn f0)) X5 Y5 (nN (mn f0))) : Nat) : Int)) ≤ ms.toInt := zc_le (iI_toInt (by omega)) rfl c_4
          exfalso; omega
        · have c_4 : ms.toInt < (((Int.natAbs (ar2 4 P7 Q7 4) : Nat) : Int) - ((Int.natAbs (ar2 (nN (mn f0)) X5 Y5 (nN (mn f0))) : Nat) : Int)) := zc_nle (iI_toInt (by omega)) rfl c_4
          refine lv_aload_n hx hb dX10_square_126 rfl (lv_at hl 2 rfl) ?_
          refine lv_iconst (v := 4) hx hb dX10_square_127 rfl ?_
          obtain ⟨hPc, hDc, hFc⟩ := zo_sub (wc := [_]) hP hD hS hA [0] rfl rfl
          refine zcall (st1 := [.int 0]) (va_runV (As := [.int 4]) (rest := []) ⟨hx, hb, hml, hown, hts⟩ (k_deny_4 l dC dI cI cZ cF H.size x sh lw ro bq bp dq dp lv sl sd ul su (nI dn) ) (csV_96 hts rfl rfl ⟨Nat.le_of_ble_eq_true rfl, Nat.le_of_ble_eq_true rfl⟩) (zPV2 (q0 := 0) (ci := 8) hPc hDc hK3 hXN rfl rfl) rfl rfl hl.1 rfl (lv_room (Nat.le_of_ble_eq_true rfl)) dX10_square_128 ⟨Nat.le_of_ble_eq_true rfl, Nat.le_of_ble_eq_true rfl⟩) hS hFc hFc rfl (fun t H locs ht hB hk1 hS => ?_)
          obtain ⟨hP1, hD1⟩ := hB
          rw [ht] at hP1
          obtain ⟨hP, hD⟩ := znQ (W2 := [(oc8 x (.ref sh) (.ref lw) (.ref ro) (.ref bq) (.ref bp) (.ref dq) (.ref dp) (.ref lv) (.ref sl) (nI dn) sd ul 4), _, _, _, _, _, _, _, _, _, _, _, _, _, _, _, _, _, _, _, _, _, _, _, _]) hP hD hk1 hFc hP1 hD1 [0] zl_68 zl_68 [0] (by decide +kernel) rfl rfl rfl rfl rfl
          clear hk1 hPc hDc hFc hP1 hD1 ht
          obtain ⟨hP, hD⟩ := pl_bk (X := [_, _, _, _, _, _, _, _, _, _, _, _, _, _, _, _, _]) hT_1 hP rfl hc9_1 hD0_1 rfl
          obtain ⟨hP9, hD9⟩ := zu_part (cx := [_, _, _, _, _, _, _, _, _, _, _, _, _, _, _, _, _]) hP hD [true, true, true, true, true, true, true, true, true, true, true, true, true, true, true, true, true] rfl rfl
          rw [hQ9]
          exact W.zret (ty := .boolean) (v := 0) hx hb hr (rfl) (fun t ht hW => ⟨⟨rfl, P7, Q7, (iI (mnI (X5 0).toInt X5 (nN (mn f0)))), (iI (mnI (Y5 0).toInt Y5 (nN (mn f0)))), (iI (mxI (X5 0).toInt X5 (nN (mn f0)))), (iI (mxI (Y5 0).toInt Y5 (nN (mn f0)))), by rw [ht]; exact hP9, hD9⟩, hS.F ht⟩) hS.2.2 dX10_square_131
      · have c_3 : ms.toInt < 0 := zc_nle rfl rfl c_3
        exfalso; omega
    · have c_2 : ¬ (kd f0).toInt = 5 := zc_ne rfl rfl c_2
      exfalso; omega
  · have c_1 : ¬ (st f0).toInt = 1 := zc_ne rfl rfl c_1
    exfalso; omega
set_option maxHeartbeats 4000000 in
set_option maxRecDepth 100000 in
theorem k_square_n (l : Launch) (dC : Nat → ClassId) (dI : Nat → Nat → Nat) (cI cZ cF : ClassId) (sz : Nat) (cO : ClassId) (e0 : Nat) (mi : Nat) (x : Nat) (sh : Nat) (lw : Nat) (ro : Nat) (bq : Nat) (bp : Nat) (dq : Nat) (dp : Nat) (lv : Nat) (sl : Nat) (sd : Int32) (ul : Int32) (su : Int32) (ea : Nat) (mc9 : Int32) (fa : Nat) (FA : Nat → Option Nat) (bs : Nat) (dn : Nat) (T : Nat) (ft : Nat) (FT : Nat → Nat) (V : Nat → Nat → Nat → Int32) (VX : Nat → Nat → Int32) (VY : Nat → Nat → Int32) (tn : Nat → Int32) (rk : Nat → Int32) (wd : Nat → Int32) (tw : Nat → Int32) (pa : Nat → Int32) (pb : Nat → Int32) (wh : Nat → Int32) (of9 : Nat → Int32) (we : Nat → Int32) (kd : Nat → Int32) (st : Nat → Int32) (gb : Nat → Int32) (it : Nat → Int32) (mn : Nat → Int32) (cx : Nat → Int32) (cy : Nat → Int32) (L : List Nat) (f : Nat → va_E) (f0 : Nat) (dr : Nat) (tg : Nat) (wy : Nat) (br : Nat) (bo : Nat) (aa : Nat) (tx : Nat) (ty : Nat) (nt : Nat) (TX : Nat → Int32) (TY : Nat → Int32) (rt : Int32) (wx : Nat) (wz : Nat) (nw : Nat) (WX : Nat → Int32) (WY : Nat → Int32) (rw : Int32) (dx : Nat) (dy : Nat) (nd : Nat) (cd : Nat) (P : Nat → Int32) (Q : Nat → Int32) (rd : Int32) (b1 : Int32) (b2 : Int32) (b3 : Int32) (b4 : Int32) (b5 : Int32) (b6 : Int32) (b7 : Int32) (b8 : Int32) (c1 : Int32) (c2 : Int32) (c3 : Int32) (c4 : Int32) (ms : Int32) (hB : shB cI cO L f e0 FA ea bs dn T ft FT V VX VY tn rk wd tw pa pb wh of9 we kd st gb it mn cx cy) (hf0 : f0 < ft) (htn : (tn f0).toInt = 0) (hst : (st f0).toInt = 1) (hkd5 : (kd f0).toInt = 5) (hms : 0 ≤ ms.toInt) (hwf : ∀ q, lvF ft st tn q → wfM mn cx cy q) (hkn : okN ft st tn kd mn) (hsm : mSm (kd f0).toInt (nN (mn f0)) (cF40 cx f0) (cF40 cy f0)) (hcd : 40 ≤ cd ∧ cd ≤ 1000) (hdf : dfB (nN (mn f0)) (cF40 cx f0) (cF40 cy f0) ≤ ms.toInt) (hlaw : ¬ lwS ft st tn kd mn cx cy f0 (nN (mn f0))) : zML l yX10_square cX10_square 5 (some .boolean) ({ frames := 5, cells := 0, slots := 0, locals := 116 } : Room) [.ref x, .int (nI f0), .int ms] (dC, dI) (zTyO cI cZ cF cO) e0 mi ([(oc8 x (.ref sh) (.ref lw) (.ref ro) (.ref bq) (.ref bp) (.ref dq) (.ref dp) (.ref lv) (.ref sl) (nI dn) sd ul su), (oc10 sl mc9 (.ref ea) (nI T)), (oc3 lw (.ref dr) (.ref tg) (.ref wy) (.ref br) (.ref bo) (.ref aa)), (oc6 tg (.ref tx) (.ref ty) (nI nt) rt), (oa tx cI 3 TX), (oa ty cI 3 TY), (oc6 wy (.ref wx) (.ref wz) (nI nw) rw), (oa wx cI 2 WX), (oa wz cI 2 WY), (oc6 dr (.ref dx) (.ref dy) (nI nd) rd), (oa dx cI cd P), (oa dy cI cd Q), (oc0 br b1 b2 b3 b4), (oc0 bo b5 b6 b7 b8), (oc0 bq c1 c2 c3 c4), (oc7 sh (.ref fa) (nI ft)), (oq fa cF 200 FA)] ++ va_pl L f) sz (some (.int 0)) (fun A t => ∃ (su1 : Int32), ∃ (nt1 : Nat), ∃ (TX1 : Nat → Int32), ∃ (TY1 : Nat → Int32), ∃ (rt1 : Int32), ∃ (nw1 : Nat), ∃ (WX1 : Nat → Int32), ∃ (WY1 : Nat → Int32), ∃ (rw1 : Int32), ∃ (d5 : Int32), ∃ (d6 : Int32), ∃ (d7 : Int32), ∃ (d8 : Int32), ∃ (e5 : Int32), ∃ (e6 : Int32), ∃ (e7 : Int32), ∃ (e8 : Int32), ∃ (P1 : Nat → Int32), ∃ (Q1 : Nat → Int32), ∃ (c5 : Int32), ∃ (c6 : Int32), ∃ (c7 : Int32), ∃ (c8 : Int32), zPD (dC, dI) classes A ([(oc8 x (.ref sh) (.ref lw) (.ref ro) (.ref bq) (.ref bp) (.ref dq) (.ref dp) (.ref lv) (.ref sl) (nI dn) sd (ul + 1) su1), (oc10 sl mc9 (.ref ea) (nI T)), (oc3 lw (.ref dr) (.ref tg) (.ref wy) (.ref br) (.ref bo) (.ref aa)), (oc6 tg (.ref tx) (.ref ty) (nI nt1) rt1), (oa tx cI 3 TX1), (oa ty cI 3 TY1), (oc6 wy (.ref wx) (.ref wz) (nI nw1) rw1), (oa wx cI 2 WX1), (oa wz cI 2 WY1), (oc6 dr (.ref dx) (.ref dy) (nI 4) 1), (oa dx cI cd P1), (oa dy cI cd Q1), (oc0 br d5 d6 d7 d8), (oc0 bo e5 e6 e7 e8), (oc0 bq c5 c6 c7 c8), (oc7 sh (.ref fa) (nI ft)), (oq fa cF 200 FA)] ++ va_pl L f) t.heap) 0 0 := by
  refine zInL (own := "ScaleShop") (loc := [(0, .ref x), (1, .int (nI f0)), (2, .int ms)]) rfl rfl rfl rfl (fun p e s m below meth c hx hb hr hts hown hlocks hml hnm9 A hA hS hP hD hK hXL hXN hK3 Q9 hQ9 ls hl => ?_)
  obtain ⟨own, fe, cl, la, sp, SA, hG9, hH9, hft9⟩ := hB
  obtain ⟨hG, hM, hdT, hT5⟩ := M_0 hG9 hH9 hft9
  have h200 : ft ≤ 200 := hG.2.2.2.2.2.1.2.2.2.2.2
  have hFA9 := hG.2.2.2.2.2.2
  refine ex13 (sh_fc hG.1 hG.2.1 (Nat.le_refl _) hf0 htn) (fun lo5 lx5 ly5 ln5 LX5 LY5 we5 r5 rx5 ry5 cap5 X5 Y5 hc5 => ?_)
  have hc5 := fc_0 hc5
  have hb5 := hc5.2.2.1
  have hb6 := hc5.2.1
  have hlv : lvF ft st tn f0 := ⟨hf0, hst, htn⟩
  have hwf0 := hwf f0 hlv
  have hw1 := hwf0.2.1
  have hkn0 := hkn f0 hlv
  have hX5 := hc5.2.2.2.2.1
  have hp5 := (pls_cg hX5).mpr hwf0.2.2
  have hc9_1 : inPl L f [(oc1 (fe f0) (rk f0) (wd f0) (tw f0) (pa f0) (pb f0) (.ref lo5) (.ref (la dn f0)) .null), (oc4 (la dn f0) (kd f0) (st f0) (.ref r5) (gb f0) (it f0) (nI we5)), (oc6 r5 (.ref rx5) (.ref ry5) (nI (nN (mn f0))) (rgK (kd f0).toInt)), (oa rx5 cI cap5 X5), (oa ry5 cI cap5 Y5), (oc6 lo5 (.ref lx5) (.ref ly5) (nI ln5) 0), (oa lx5 cI (cl f0) LX5), (oa ly5 cI (cl f0) LY5)] := ⟨ce_pl hc5.1.1, ce_pl hc5.1.2.1, ce_pl hc5.1.2.2.1.1, ce_pl hc5.1.2.2.1.2.1, ce_pl hc5.1.2.2.1.2.2.1, ce_pl hc5.1.2.2.2.1, ce_pl hc5.1.2.2.2.2.1, ce_pl hc5.1.2.2.2.2.2.1, trivial⟩
  have hD0_1 := hD
  obtain ⟨T_1, hT_1, hP, hD⟩ := pl_oT hP hD hc9_1 (pw8 hc5 (by omega))
  obtain ⟨hP, hD⟩ := zre (W2 := ([_, _, _, _, _, _, _, _, _, _, _, _, _, _, _, _, _, _, _, _, _, _, _, _, _] ++ va_pl T_1 f)) hP hD rfl
  refine lv_aload_n hx hb dX10_square_0 rfl (lv_at hl 0 rfl) ?_
  refine va_get (D := (dC, dI)) (ci := 8) (v := .ref sh) (C := RX10) (T := TX10) (N := 13) hx hb hts inX10 hown hK hP 0 rfl rfl 0 (Nat.le_of_ble_eq_true rfl) (hts _ mw_309) (fun _ h9 => h9) rfl dX10_square_1 ?_
  refine lv_iload_n hx hb dX10_square_4 rfl (lv_at hl 1 rfl) ?_
  obtain ⟨hPc, hDc, hFc, hI1⟩ := zi_sub (wc := [_, _]) hP hD hS hA [15, 16] rfl rfl
  refine zcall (st1 := [.ref (fe f0)]) (va_runV (As := [.int (nI f0)]) (rest := []) ⟨hx, hb, hml, hown, hts⟩ (k_Sheet_find l dC dI cI cZ cF s.heap.size sh fa ft FA f0 (fe f0) (by first | with_reducible assumption | omega) (by first | with_reducible assumption | omega) (hFA9 f0 (by first | with_reducible assumption | omega))) (csV_94 hts rfl rfl ⟨Nat.le_of_ble_eq_true rfl, Nat.le_of_ble_eq_true rfl⟩) (zPV2 (q0 := 0) (ci := 7) hPc hDc hK3 hXN rfl rfl) rfl rfl hl.1 rfl (lv_room (Nat.le_of_ble_eq_true rfl)) dX10_square_5 ⟨Nat.le_of_ble_eq_true rfl, Nat.le_of_ble_eq_true rfl⟩) hS hFc hFc rfl (fun t H locs ht hB hk1 hS => ?_)
  obtain ⟨hP1, hD1⟩ := hB
  rw [ht] at hP1
  replace hP := z0 hP hD hk1 hP1 hI1
  clear hk1 hPc hDc hFc hP1 hD1 ht hI1
  refine lv_astore_n (lv' := [(3, .ref (fe f0)), (0, .ref x), (1, .int (nI f0)), (2, .int ms)]) hx hb dX10_square_8 rfl hl (Nat.le_of_ble_eq_true rfl) rfl (fun ls hl => ?_)
  refine lv_aload_n hx hb dX10_square_9 rfl (lv_at hl 0 rfl) ?_
  refine lv_ifnonnull (tgt := 19) hx hb dX10_square_10 rfl ?_
  refine lv_aload_n hx hb dX10_square_19 rfl (lv_at hl 0 rfl) ?_
  refine va_get (D := (dC, dI)) (ci := 1) (v := .ref (la dn f0)) (C := RX2) (T := TX2) (N := 8) hx hb hts inX2 hown hK hP 17 rfl rfl 6 (Nat.le_of_ble_eq_true rfl) (hts _ mw_433) (fun _ h9 => h9) rfl dX10_square_20 ?_
  refine va_get (D := (dC, dI)) (ci := 4) (v := .int (st f0)) (C := RX5) (T := TX5) (N := 6) hx hb hts inX5 hown hK hP 18 rfl rfl 1 (Nat.le_of_ble_eq_true rfl) (hts _ mw_385) (fun _ h9 => h9) rfl dX10_square_23 ?_
  refine lv_iconst (v := 1) hx hb dX10_square_26 rfl ?_
  refine lv_icmp_eq (tgt := 36) hx hb dX10_square_27 rfl (fun c_1 => ?_) (fun c_1 => ?_)
  · have c_1 : (st f0).toInt = 1 := zc_eq rfl rfl c_1
    refine lv_aload_n hx hb dX10_square_36 rfl (lv_at hl 0 rfl) ?_
    refine va_get (D := (dC, dI)) (ci := 1) (v := .ref (la dn f0)) (C := RX2) (T := TX2) (N := 8) hx hb hts inX2 hown hK hP 17 rfl rfl 6 (Nat.le_of_ble_eq_true rfl) (hts _ mw_433) (fun _ h9 => h9) rfl dX10_square_37 ?_
    refine va_get (D := (dC, dI)) (ci := 4) (v := .int (kd f0)) (C := RX5) (T := TX5) (N := 6) hx hb hts inX5 hown hK hP 18 rfl rfl 0 (Nat.le_of_ble_eq_true rfl) (hts _ mw_381) (fun _ h9 => h9) rfl dX10_square_40 ?_
    refine lv_iconst (v := 5) hx hb dX10_square_43 rfl ?_
    refine lv_icmp_eq (tgt := 53) hx hb dX10_square_44 rfl (fun c_2 => ?_) (fun c_2 => ?_)
    · have c_2 : (kd f0).toInt = 5 := zc_eq rfl rfl c_2
      refine lv_iload_n hx hb dX10_square_53 rfl (lv_at hl 3 rfl) ?_
      refine lv_if_ge (tgt := 63) hx hb dX10_square_54 rfl (fun c_3 => ?_) (fun c_3 => ?_)
      · have c_3 : 0 ≤ ms.toInt := zc_le rfl rfl c_3
        refine lv_aload_n hx hb dX10_square_63 rfl (lv_at hl 0 rfl) ?_
        refine va_get (D := (dC, dI)) (ci := 1) (v := .ref (la dn f0)) (C := RX2) (T := TX2) (N := 8) hx hb hts inX2 hown hK hP 17 rfl rfl 6 (Nat.le_of_ble_eq_true rfl) (hts _ mw_433) (fun _ h9 => h9) rfl dX10_square_64 ?_
        refine va_get (D := (dC, dI)) (ci := 4) (v := .ref r5) (C := RX5) (T := TX5) (N := 6) hx hb hts inX5 hown hK hP 18 rfl rfl 2 (Nat.le_of_ble_eq_true rfl) (hts _ mw_391) (fun _ h9 => h9) rfl dX10_square_67 ?_
        refine lv_astore (lv' := [(4, .ref r5), (3, .ref (fe f0)), (0, .ref x), (1, .int (nI f0)), (2, .int ms)]) hx hb dX10_square_70 hl (Nat.le_of_ble_eq_true rfl) rfl (fun ls hl => ?_)
        refine lv_aload hx hb dX10_square_72 (lv_at hl 0 rfl) ?_
        refine lv_ifnonnull (tgt := 83) hx hb dX10_square_74 rfl ?_
        refine lv_aload_n hx hb dX10_square_83 rfl (lv_at hl 2 rfl) ?_
        refine va_get (D := (dC, dI)) (ci := 8) (v := .ref bq) (C := RX10) (T := TX10) (N := 13) hx hb hts inX10 hown hK hP 0 rfl rfl 3 (Nat.le_of_ble_eq_true rfl) (hts _ mw_312) (fun _ h9 => h9) rfl dX10_square_84 ?_
        refine lv_aload hx hb dX10_square_87 (lv_at hl 0 rfl) ?_
        obtain ⟨hPc, hDc, hFc⟩ := zo_sub (wc := [_, _, _, _]) hP hD hS hA [14, 19, 20, 21] (by decide +kernel) rfl
        refine zcall (st1 := []) (va_runV (As := [.ref r5]) (rest := []) ⟨hx, hb, hml, hown, hts⟩ (k_Box_cover l dC dI cI cZ cF H.size bq c1 c2 c3 c4 r5 rx5 ry5 (nN (mn f0)) cap5 X5 Y5 (rgK (kd f0).toInt) (by first | with_reducible assumption | omega) (by first | with_reducible assumption | omega) ((pls_nr hp5).1) ((pls_nr hp5).2) (by first | with_reducible assumption | omega)) (csV_129 hts rfl rfl ⟨Nat.le_of_ble_eq_true rfl, Nat.le_of_ble_eq_true rfl⟩) (zPV2 (q0 := 0) (ci := 0) hPc hDc hK3 hXN rfl rfl) rfl rfl hl.1 rfl (lv_room (Nat.le_of_ble_eq_true rfl)) dX10_square_89 ⟨Nat.le_of_ble_eq_true rfl, Nat.le_of_ble_eq_true rfl⟩) hS hFc hFc rfl (fun t H locs ht hB hk1 hS => ?_)
        obtain ⟨hP1, hD1⟩ := hB
        rw [ht] at hP1
        obtain ⟨hP, hD⟩ := znQ (W2 := [_, _, _, _, _, _, _, _, _, _, _, _, _, _, (oc0 bq (iI (mnI (X5 0).toInt X5 (nN (mn f0)))) (iI (mnI (Y5 0).toInt Y5 (nN (mn f0)))) (iI (mxI (X5 0).toInt X5 (nN (mn f0)))) (iI (mxI (Y5 0).toInt Y5 (nN (mn f0))))), _, _, _, _, _, _, _, _, _, _]) hP hD hk1 hFc hP1 hD1 [14, 19, 20, 21] zl_115 zl_115 [14, 19, 20, 21] (by decide +kernel) rfl rfl rfl rfl rfl
        clear hk1 hPc hDc hFc hP1 hD1 ht
        refine lv_aload_n hx hb dX10_square_92 rfl (lv_at hl 2 rfl) ?_
        refine va_get (D := (dC, dI)) (ci := 8) (v := .ref lw) (C := RX10) (T := TX10) (N := 13) hx hb hts inX10 hown hK hP 0 rfl rfl 1 (Nat.le_of_ble_eq_true rfl) (hts _ mw_310) (fun _ h9 => h9) rfl dX10_square_93 ?_
        refine va_get (D := (dC, dI)) (ci := 3) (v := .ref dr) (C := RX4) (T := TX4) (N := 6) hx hb hts inX4 hown hK hP 2 rfl rfl 0 (Nat.le_of_ble_eq_true rfl) (hts _ mw_220) (fun _ h9 => h9) rfl dX10_square_96 ?_
        refine lv_aload_n hx hb dX10_square_99 rfl (lv_at hl 2 rfl) ?_
        refine va_get (D := (dC, dI)) (ci := 8) (v := .ref bq) (C := RX10) (T := TX10) (N := 13) hx hb hts inX10 hown hK hP 0 rfl rfl 3 (Nat.le_of_ble_eq_true rfl) (hts _ mw_312) (fun _ h9 => h9) rfl dX10_square_100 ?_
        obtain ⟨hPc, hDc, hFc⟩ := zo_sub (wc := [_, _, _, _]) hP hD hS hA [9, 10, 11, 14] (by decide +kernel) rfl
        refine zcall (st1 := []) (va_runV (As := [.ref bq]) (rest := []) ⟨hx, hb, hml, hown, hts⟩ (k_Row_boxFrom l dC dI cI cZ cF H.size dr dx dy nd cd P Q rd bq (iI (mnI (X5 0).toInt X5 (nN (mn f0)))) (iI (mnI (Y5 0).toInt Y5 (nN (mn f0)))) (iI (mxI (X5 0).toInt X5 (nN (mn f0)))) (iI (mxI (Y5 0).toInt Y5 (nN (mn f0)))) (by first | with_reducible assumption | omega) (by first | with_reducible assumption | omega)) (csV_131 hts rfl rfl ⟨Nat.le_of_ble_eq_true rfl, Nat.le_of_ble_eq_true rfl⟩) (zPV2 (q0 := 0) (ci := 6) hPc hDc hK3 hXN rfl rfl) rfl rfl hl.1 rfl (lv_room (Nat.le_of_ble_eq_true rfl)) dX10_square_103 ⟨Nat.le_of_ble_eq_true rfl, Nat.le_of_ble_eq_true rfl⟩) hS hFc hFc rfl (fun t H locs ht hB hk1 hS => ?_)
        obtain ⟨hP1, hD1⟩ := hB
        rw [ht] at hP1
        obtain ⟨hP, hD⟩ := znQ (W2 := [_, _, _, _, _, _, _, _, _, (oc6 dr (.ref dx) (.ref dy) (nI 4) 1), (oa dx cI cd (upd (upd (upd (upd P 0 (iI (mnI (X5 0).toInt X5 (nN (mn f0))))) 1 (iI (mxI (X5 0).toInt X5 (nN (mn f0))))) 2 (iI (mxI (X5 0).toInt X5 (nN (mn f0))))) 3 (iI (mnI (X5 0).toInt X5 (nN (mn f0)))))), (oa dy cI cd (upd (upd (upd (upd Q 0 (iI (mnI (Y5 0).toInt Y5 (nN (mn f0))))) 1 (iI (mnI (Y5 0).toInt Y5 (nN (mn f0))))) 2 (iI (mxI (Y5 0).toInt Y5 (nN (mn f0))))) 3 (iI (mxI (Y5 0).toInt Y5 (nN (mn f0)))))), _, _, _, _, _, _, _, _, _, _, _, _, _]) hP hD hk1 hFc hP1 hD1 [9, 10, 11, 14] zl_116 zl_116 [9, 10, 11, 14] (by decide +kernel) rfl rfl rfl rfl rfl
        clear hk1 hPc hDc hFc hP1 hD1 ht
        obtain ⟨P7, hP7⟩ : ∃ z9 : Nat → Int32, z9 = upd (upd (upd (upd P 0 (iI (mnI (X5 0).toInt X5 (nN (mn f0))))) 1 (iI (mxI (X5 0).toInt X5 (nN (mn f0))))) 2 (iI (mxI (X5 0).toInt X5 (nN (mn f0))))) 3 (iI (mnI (X5 0).toInt X5 (nN (mn f0)))) := ⟨_, rfl⟩
        rw [← hP7] at hP hD
        obtain ⟨Q7, hQ7⟩ : ∃ z9 : Nat → Int32, z9 = upd (upd (upd (upd Q 0 (iI (mnI (Y5 0).toInt Y5 (nN (mn f0))))) 1 (iI (mnI (Y5 0).toInt Y5 (nN (mn f0))))) 2 (iI (mxI (Y5 0).toInt Y5 (nN (mn f0))))) 3 (iI (mxI (Y5 0).toInt Y5 (nN (mn f0)))) := ⟨_, rfl⟩
        rw [← hQ7] at hP hD
        obtain ⟨hP, hD⟩ := zre (W2 := ([_, _, _, _, _, _, _, _, _, _, _, _, _, _, _, _, _, _, _, _, _, _, _, _, _] ++ va_pl T_1 f)) hP hD rfl
        have hp0 : P7 0 = iI (mnI (X5 0).toInt X5 (nN (mn f0))) ∧ P7 1 = iI (mxI (X5 0).toInt X5 (nN (mn f0))) ∧ P7 2 = iI (mxI (X5 0).toInt X5 (nN (mn f0))) ∧ P7 3 = iI (mnI (X5 0).toInt X5 (nN (mn f0))) := (by rw [hP7]; exact bx_4)
        have hq0 : Q7 0 = iI (mnI (Y5 0).toInt Y5 (nN (mn f0))) ∧ Q7 1 = iI (mnI (Y5 0).toInt Y5 (nN (mn f0))) ∧ Q7 2 = iI (mxI (Y5 0).toInt Y5 (nN (mn f0))) ∧ Q7 3 = iI (mxI (Y5 0).toInt Y5 (nN (mn f0))) := (by rw [hQ7]; exact bx_5)
        obtain ⟨hp47, hdf7, ha47, han7⟩ := bx_sq hp5 (by omega) hp0 hq0
        have hdf8 : dfB (nN (mn f0)) X5 Y5 = dfB (nN (mn f0)) (cF40 cx f0) (cF40 cy f0) := (by have e1 := mnI_cg (z := (X5 0).toInt) (fun j hj => (hX5 j hj).1) _ (Nat.le_refl _); have e2 := mnI_cg (z := (Y5 0).toInt) (fun j hj => (hX5 j hj).2) _ (Nat.le_refl _); rw [dfB_eq, dfB_eq, e1.1, e1.2, e2.1, e2.2, ar2_cg hX5 _ (Nat.le_refl _), (hX5 0 (by omega)).1, (hX5 0 (by omega)).2])
        have hmn8 : ∀ j, iI (mnI (X5 0).toInt X5 (nN (mn f0))) = iI (bL (cF40 cx f0) (nN (mn f0))) ∧ iI (mxI (X5 0).toInt X5 (nN (mn f0))) = iI (bH (cF40 cx f0) (nN (mn f0))) ∧ iI (mnI (Y5 0).toInt Y5 (nN (mn f0))) = iI (bL (cF40 cy f0) (nN (mn f0))) ∧ iI (mxI (Y5 0).toInt Y5 (nN (mn f0))) = iI (bH (cF40 cy f0) (nN (mn f0))) := fun (_ : Nat) => (by have e1 := mnI_cg (z := (X5 0).toInt) (fun j hj => (hX5 j hj).1) _ (Nat.le_refl _); have e2 := mnI_cg (z := (Y5 0).toInt) (fun j hj => (hX5 j hj).2) _ (Nat.le_refl _); rw [e1.1, e1.2, e2.1, e2.2, (hX5 0 (by omega)).1, (hX5 0 (by omega)).2]; exact ⟨rfl, rfl, rfl, rfl⟩)
        have hm8 := hmn8 0
        have hlS : ((pls 4 P7 Q7 ∧ ((∀ i, i < edg 4 (1 : Int32) → eFr 4 P7 Q7 (1 : Int32) i (i + 1)) ∧ (¬ (6 : Int32).toInt = 6 ∨ ∀ k, k < 4 → eRt 4 P7 Q7 k)) ∧ ∀ q, q < ft → (q ≠ f0 → lvF ft st tn q → (apB (mnI (mnI (X5 0).toInt X5 (nN (mn f0))) P7 4) (mnI (mnI (Y5 0).toInt Y5 (nN (mn f0))) Q7 4) (mxI (mxI (X5 0).toInt X5 (nN (mn f0))) P7 4) (mxI (mxI (Y5 0).toInt Y5 (nN (mn f0))) Q7 4) (nN (mn q)) (cF40 cx q) (cF40 cy q) ∨ (asb (nN (mn f0)) X5 Y5 (rgK (kd f0).toInt) 4 P7 Q7 (1 : Int32) (nN (mn q)) (cF40 cx q) (cF40 cy q) (rgK (kd q).toInt)))))) ↔ lwS ft st tn kd mn cx cy f0 (nN (mn f0)) := (alB_cx (rg := rgK (kd f0).toInt) (rd := (1 : Int32)) hw1.1 hX5).trans (by rw [hkd5]; exact alB_lw (by have h9 := (hsm.2 (by omega)).1; unfold mnc at h9; rw [if_pos (by omega)] at h9; omega) hkd5 ⟨hp0.1.trans hm8.1, hq0.1.trans hm8.2.2.1⟩ ⟨hp0.2.1.trans hm8.2.1, hq0.2.1.trans hm8.2.2.1⟩ ⟨hp0.2.2.1.trans hm8.2.1, hq0.2.2.1.trans hm8.2.2.2⟩ ⟨hp0.2.2.2.trans hm8.1, hq0.2.2.2.trans hm8.2.2.2⟩ hwf hkn)
        refine lv_aload_n hx hb dX10_square_106 rfl (lv_at hl 2 rfl) ?_
        refine va_get (D := (dC, dI)) (ci := 8) (v := .ref lw) (C := RX10) (T := TX10) (N := 13) hx hb hts inX10 hown hK hP 0 rfl rfl 1 (Nat.le_of_ble_eq_true rfl) (hts _ mw_310) (fun _ h9 => h9) rfl dX10_square_107 ?_
        refine va_get (D := (dC, dI)) (ci := 3) (v := .ref dr) (C := RX4) (T := TX4) (N := 6) hx hb hts inX4 hown hK hP 2 rfl rfl 0 (Nat.le_of_ble_eq_true rfl) (hts _ mw_220) (fun _ h9 => h9) rfl dX10_square_110 ?_
        obtain ⟨hPc, hDc, hFc, hI1⟩ := zi_sub (wc := [_, _, _]) hP hD hS hA [9, 10, 11] rfl rfl
        refine zcall (st1 := [.int (nI (Int.natAbs (ar2 4 P7 Q7 4)))]) (va_runV (As := []) (rest := []) ⟨hx, hb, hml, hown, hts⟩ (k_Row_doubleArea l dC dI cI cZ cF H.size dr dx dy 4 cd P7 Q7 1 (by first | with_reducible assumption | omega) (by first | with_reducible assumption | omega) (hp47)) (csV_123 hts rfl rfl ⟨Nat.le_of_ble_eq_true rfl, Nat.le_of_ble_eq_true rfl⟩) (zPV2 (q0 := 0) (ci := 6) hPc hDc hK3 hXN rfl rfl) rfl rfl hl.1 rfl (lv_room (Nat.le_of_ble_eq_true rfl)) dX10_square_113 ⟨Nat.le_of_ble_eq_true rfl, Nat.le_of_ble_eq_true rfl⟩) hS hFc hFc rfl (fun t H locs ht hB hk1 hS => ?_)
        obtain ⟨hP1, hD1⟩ := hB
        rw [ht] at hP1
        replace hP := z0 hP hD hk1 hP1 hI1
        clear hk1 hPc hDc hFc hP1 hD1 ht hI1
        refine lv_aload hx hb dX10_square_116 (lv_at hl 0 rfl) ?_
        obtain ⟨hPc, hDc, hFc, hI1⟩ := zi_sub (wc := [_, _, _]) hP hD hS hA [19, 20, 21] rfl rfl
        refine zcall (st1 := [.int (nI (Int.natAbs (ar2 (nN (mn f0)) X5 Y5 (nN (mn f0))))), .int (nI (Int.natAbs (ar2 4 P7 Q7 4)))]) (va_runV (As := []) (rest := [.int (nI (Int.natAbs (ar2 4 P7 Q7 4)))]) ⟨hx, hb, hml, hown, hts⟩ (k_Row_doubleArea l dC dI cI cZ cF H.size r5 rx5 ry5 (nN (mn f0)) cap5 X5 Y5 (rgK (kd f0).toInt) (by first | with_reducible assumption | omega) (by first | with_reducible assumption | omega) (hp5)) (csV_123 hts rfl rfl ⟨Nat.le_of_ble_eq_true rfl, Nat.le_of_ble_eq_true rfl⟩) (zPV2 (q0 := 0) (ci := 6) hPc hDc hK3 hXN rfl rfl) rfl rfl hl.1 rfl (lv_room (Nat.le_of_ble_eq_true rfl)) dX10_square_118 ⟨Nat.le_of_ble_eq_true rfl, Nat.le_of_ble_eq_true rfl⟩) hS hFc hFc rfl (fun t H locs ht hB hk1 hS => ?_)
        obtain ⟨hP1, hD1⟩ := hB
        rw [ht] at hP1
        replace hP := z0 hP hD hk1 hP1 hI1
        clear hk1 hPc hDc hFc hP1 hD1 ht hI1
        refine lv_isub hx hb dX10_square_121 ?_
        refine zz_i (v := iI (((Int.natAbs (ar2 4 P7 Q7 4) : Nat) : Int) - ((Int.natAbs (ar2 (nN (mn f0)) X5 Y5 (nN (mn f0))) : Nat) : Int))) (nn_sub (by omega) (by omega)) ?_
        refine lv_iload_n hx hb dX10_square_122 rfl (lv_at hl 4 rfl) ?_
        refine lv_icmp_le (tgt := 132) hx hb dX10_square_123 rfl (fun c_4 => ?_) (fun c_4 => ?_)
        · have c_4 : (((Int.natAbs (ar2 4 P7 Q7 4) : Nat) : Int) - ((Int.natAbs (ar2 (nN (mn f0)) X5 Y5 (nN (mn f0))) : Nat) : Int)) ≤ ms.toInt := zc_le (iI_toInt (by omega)) rfl c_4
          refine lv_aload_n hx hb dX10_square_132 rfl (lv_at hl 2 rfl) ?_
          refine va_get (D := (dC, dI)) (ci := 8) (v := .ref lw) (C := RX10) (T := TX10) (N := 13) hx hb hts inX10 hown hK hP 0 rfl rfl 1 (Nat.le_of_ble_eq_true rfl) (hts _ mw_310) (fun _ h9 => h9) rfl dX10_square_133 ?_
          refine lv_aload_n hx hb dX10_square_136 rfl (lv_at hl 2 rfl) ?_
          refine va_get (D := (dC, dI)) (ci := 8) (v := .ref sh) (C := RX10) (T := TX10) (N := 13) hx hb hts inX10 hown hK hP 0 rfl rfl 0 (Nat.le_of_ble_eq_true rfl) (hts _ mw_309) (fun _ h9 => h9) rfl dX10_square_137 ?_
          refine lv_aload_n hx hb dX10_square_140 rfl (lv_at hl 1 rfl) ?_
          refine lv_bipush (v := (-2)) hx hb dX10_square_141 rfl ?_
          obtain ⟨hPc, hDc, hFc⟩ := zo_part (cx := [_, _, _, _, _, _, _, _, _, _, _, _, _, _, _, _, _, _, _]) hP hD hS hA [2, 3, 4, 5, 6, 7, 8, 9, 10, 11, 12, 13, 15, 16, 17, 18, 19, 20, 21] (by decide +kernel) rfl
          refine zcall (st1 := [.int (pI (pls 4 P7 Q7 ∧ ((∀ i, i < edg 4 (1 : Int32) → eFr 4 P7 Q7 (1 : Int32) i (i + 1)) ∧ (¬ (6 : Int32).toInt = 6 ∨ ∀ k, k < 4 → eRt 4 P7 Q7 k)) ∧ ∀ q, q < ft → (q ≠ f0 → lvF ft st tn q → (apB (mnI (mnI (X5 0).toInt X5 (nN (mn f0))) P7 4) (mnI (mnI (Y5 0).toInt Y5 (nN (mn f0))) Q7 4) (mxI (mxI (X5 0).toInt X5 (nN (mn f0))) P7 4) (mxI (mxI (Y5 0).toInt Y5 (nN (mn f0))) Q7 4) (nN (mn q)) (cF40 cx q) (cF40 cy q) ∨ (asb (nN (mn f0)) X5 Y5 (rgK (kd f0).toInt) 4 P7 Q7 (1 : Int32) (nN (mn q)) (cF40 cx q) (cF40 cy q) (rgK (kd q).toInt))))))]) (va_runV (As := [.ref sh, .ref (fe f0), .int (-2)]) (rest := []) ⟨hx, hb, hml, hown, hts⟩ (k_Law_allows_b l dC dI cI cZ cF H.size lw dr tg wy br bo aa tx ty nt TX TY rt wx wz nw WX WY rw dx dy 4 cd P7 Q7 1 b1 b2 b3 b4 b5 b6 b7 b8 sh fa ft FA (fe f0) lo5 (rk f0) (wd f0) (tw f0) (pa f0) (pb f0) (la dn f0) (kd f0) (st f0) (gb f0) (it f0) (nI we5) r5 rx5 ry5 (nN (mn f0)) cap5 X5 Y5 (rgK (kd f0).toInt) f0 (.null) T_1 f kd st tn mn cx cy (by first | with_reducible assumption | omega) (by first | with_reducible assumption | omega) (hFA9 f0 (by first | with_reducible assumption | omega)) (hst) (by rw [← hT_1]; exact fc_vw hc5 (by first | with_reducible assumption | omega) (by first | with_reducible assumption | omega) hG.1 hG.2.1 hFA9 (Nat.le_refl _)) (hwf) (hkn) (by first | with_reducible assumption | omega) (by first | with_reducible assumption | omega) (by first | with_reducible assumption | omega) (by first | with_reducible assumption | omega) (hp5) (by first | with_reducible assumption | omega) (by first | with_reducible assumption | omega) (by have h9 := (hsm.2 (by first | with_reducible assumption | omega)).1; unfold mnc at h9; rw [if_pos (by first | with_reducible assumption | omega)] at h9; omega)) (csV_109 hts rfl rfl ⟨Nat.le_of_ble_eq_true rfl, Nat.le_of_ble_eq_true rfl⟩) (zPV2 (q0 := 0) (ci := 3) hPc hDc hK3 hXN rfl rfl) rfl rfl hl.1 rfl (lv_room (Nat.le_of_ble_eq_true rfl)) dX10_square_143 ⟨Nat.le_of_ble_eq_true rfl, Nat.le_of_ble_eq_true rfl⟩) hS hFc hFc rfl (fun t H locs ht hB hk1 hS => ?_)
          refine ex16 hB (fun nt8 TX8 TY8 rt8 nw8 WX8 WY8 rw8 g08 g18 g28 g38 g48 g58 g68 g78 hB0 => ?_)
          clear hB
          obtain ⟨hP1, hD1⟩ := hB0
          rw [ht] at hP1
          obtain ⟨hP, hD⟩ := znP (W2 := [_, _, _, (oc6 tg (.ref tx) (.ref ty) (nI nt8) rt8), (oa tx cI 3 TX8), (oa ty cI 3 TY8), (oc6 wy (.ref wx) (.ref wz) (nI nw8) rw8), (oa wx cI 2 WX8), (oa wz cI 2 WY8), _, _, _, (oc0 br g08 g18 g28 g38), (oc0 bo g48 g58 g68 g78), _, _, _, _, _, _, _, _, _, _, _]) hP hD hk1 hFc hP1 hD1 zl_117 zl_118 zl_118 zl_117 (by decide +kernel) rfl rfl rfl rfl rfl
          clear hk1 hPc hDc hFc hP1 hD1 ht
          refine lv_if_ne (tgt := 156) hx hb dX10_square_146 rfl (fun c_5 => ?_) (fun c_5 => ?_)
          · have c_5 : pls 4 P7 Q7 ∧ ((∀ i, i < edg 4 (1 : Int32) → eFr 4 P7 Q7 (1 : Int32) i (i + 1)) ∧ (¬ (6 : Int32).toInt = 6 ∨ ∀ k, k < 4 → eRt 4 P7 Q7 k)) ∧ ∀ q, q < ft → (q ≠ f0 → lvF ft st tn q → (apB (mnI (mnI (X5 0).toInt X5 (nN (mn f0))) P7 4) (mnI (mnI (Y5 0).toInt Y5 (nN (mn f0))) Q7 4) (mxI (mxI (X5 0).toInt X5 (nN (mn f0))) P7 4) (mxI (mxI (Y5 0).toInt Y5 (nN (mn f0))) Q7 4) (nN (mn q)) (cF40 cx q) (cF40 cy q) ∨ (asb (nN (mn f0)) X5 Y5 (rgK (kd f0).toInt) 4 P7 Q7 (1 : Int32) (nN (mn q)) (cF40 cx q) (cF40 cy q) (rgK (kd q).toInt)))) := zp_1 c_5
            exfalso; exact absurd (hlS.mp (by first | with_reducible assumption | assumption)) hlaw
          · have c_5 : ¬ (pls 4 P7 Q7 ∧ ((∀ i, i < edg 4 (1 : Int32) → eFr 4 P7 Q7 (1 : Int32) i (i + 1)) ∧ (¬ (6 : Int32).toInt = 6 ∨ ∀ k, k < 4 → eRt 4 P7 Q7 k)) ∧ ∀ q, q < ft → (q ≠ f0 → lvF ft st tn q → (apB (mnI (mnI (X5 0).toInt X5 (nN (mn f0))) P7 4) (mnI (mnI (Y5 0).toInt Y5 (nN (mn f0))) Q7 4) (mxI (mxI (X5 0).toInt X5 (nN (mn f0))) P7 4) (mxI (mxI (Y5 0).toInt Y5 (nN (mn f0))) Q7 4) (nN (mn q)) (cF40 cx q) (cF40 cy q) ∨ (asb (nN (mn f0)) X5 Y5 (rgK (kd f0).toInt) 4 P7 Q7 (1 : Int32) (nN (mn q)) (cF40 cx q) (cF40 cy q) (rgK (kd q).toInt))))) := zp_0 c_5
            refine lv_aload_n hx hb dX10_square_149 rfl (lv_at hl 2 rfl) ?_
            refine lv_bipush (v := 7) hx hb dX10_square_150 rfl ?_
            obtain ⟨hPc, hDc, hFc⟩ := zo_sub (wc := [_]) hP hD hS hA [0] rfl rfl
            refine zcall (st1 := [.int 0]) (va_runV (As := [.int 7]) (rest := []) ⟨hx, hb, hml, hown, hts⟩ (k_deny_7 l dC dI cI cZ cF H.size x sh lw ro bq bp dq dp lv sl sd ul su (nI dn) ) (csV_96 hts rfl rfl ⟨Nat.le_of_ble_eq_true rfl, Nat.le_of_ble_eq_true rfl⟩) (zPV2 (q0 := 0) (ci := 8) hPc hDc hK3 hXN rfl rfl) rfl rfl hl.1 rfl (lv_room (Nat.le_of_ble_eq_true rfl)) dX10_square_152 ⟨Nat.le_of_ble_eq_true rfl, Nat.le_of_ble_eq_true rfl⟩) hS hFc hFc rfl (fun t H locs ht hB hk1 hS => ?_)
            obtain ⟨hP1, hD1⟩ := hB
            rw [ht] at hP1
            obtain ⟨hP, hD⟩ := znQ (W2 := [(oc8 x (.ref sh) (.ref lw) (.ref ro) (.ref bq) (.ref bp) (.ref dq) (.ref dp) (.ref lv) (.ref sl) (nI dn) sd (ul + 1) 7), _, _, _, _, _, _, _, _, _, _, _, _, _, _, _, _, _, _, _, _, _, _, _, _]) hP hD hk1 hFc hP1 hD1 [0] zl_68 zl_68 [0] (by decide +kernel) rfl rfl rfl rfl rfl
            clear hk1 hPc hDc hFc hP1 hD1 ht
            obtain ⟨hP, hD⟩ := pl_bk (X := [_, _, _, _, _, _, _, _, _, _, _, _, _, _, _, _, _]) hT_1 hP rfl hc9_1 hD0_1 rfl
            obtain ⟨hP9, hD9⟩ := zu_part (cx := [_, _, _, _, _, _, _, _, _, _, _, _, _, _, _, _, _]) hP hD [true, true, true, true, true, true, true, true, true, true, true, true, true, true, true, true, true] rfl rfl
            rw [hQ9]
            exact W.zret (ty := .boolean) (v := 0) hx hb hr (rfl) (fun t ht hW => ⟨⟨rfl, 7, nt8, TX8, TY8, rt8, nw8, WX8, WY8, rw8, g08, g18, g28, g38, g48, g58, g68, g78, P7, Q7, (iI (mnI (X5 0).toInt X5 (nN (mn f0)))), (iI (mnI (Y5 0).toInt Y5 (nN (mn f0)))), (iI (mxI (X5 0).toInt X5 (nN (mn f0)))), (iI (mxI (Y5 0).toInt Y5 (nN (mn f0)))), by rw [ht]; exact hP9, hD9⟩, hS.F ht⟩) hS.2.2 dX10_square_155
        · have c_4 : ms.toInt < (((Int.natAbs (ar2 4 P7 Q7 4) : Nat) : Int) - ((Int.natAbs (ar2 (nN (mn f0)) X5 Y5 (nN (mn f0))) : Nat) : Int)) := zc_nle (iI_toInt (by omega)) rfl c_4
          exfalso; omega
      · have c_3 : ms.toInt < 0 := zc_nle rfl rfl c_3
        exfalso; omega
    · have c_2 : ¬ (kd f0).toInt = 5 := zc_ne rfl rfl c_2
      exfalso; omega
  · have c_1 : ¬ (st f0).toInt = 1 := zc_ne rfl rfl c_1
    exfalso; omega
set_option maxHeartbeats 4000000 in
set_option maxRecDepth 100000 in
theorem k_square_y (l : Launch) (dC : Nat → ClassId) (dI : Nat → Nat → Nat) (cI cZ cF : ClassId) (sz : Nat) (cO : ClassId) (e0 : Nat) (mi : Nat) (x : Nat) (sh : Nat) (lw : Nat) (ro : Nat) (bq : Nat) (bp : Nat) (dq : Nat) (dp : Nat) (lv : Nat) (sl : Nat) (sd : Int32) (ul : Int32) (su : Int32) (ea : Nat) (mc9 : Int32) (fa : Nat) (FA : Nat → Option Nat) (bs : Nat) (dn : Nat) (T : Nat) (ft : Nat) (FT : Nat → Nat) (V : Nat → Nat → Nat → Int32) (VX : Nat → Nat → Int32) (VY : Nat → Nat → Int32) (tn : Nat → Int32) (rk : Nat → Int32) (wd : Nat → Int32) (tw : Nat → Int32) (pa : Nat → Int32) (pb : Nat → Int32) (wh : Nat → Int32) (of9 : Nat → Int32) (we : Nat → Int32) (kd : Nat → Int32) (st : Nat → Int32) (gb : Nat → Int32) (it : Nat → Int32) (mn : Nat → Int32) (cx : Nat → Int32) (cy : Nat → Int32) (L : List Nat) (f : Nat → va_E) (f0 : Nat) (dr : Nat) (tg : Nat) (wy : Nat) (br : Nat) (bo : Nat) (aa : Nat) (tx : Nat) (ty : Nat) (nt : Nat) (TX : Nat → Int32) (TY : Nat → Int32) (rt : Int32) (wx : Nat) (wz : Nat) (nw : Nat) (WX : Nat → Int32) (WY : Nat → Int32) (rw : Int32) (dx : Nat) (dy : Nat) (nd : Nat) (cd : Nat) (P : Nat → Int32) (Q : Nat → Int32) (rd : Int32) (b1 : Int32) (b2 : Int32) (b3 : Int32) (b4 : Int32) (b5 : Int32) (b6 : Int32) (b7 : Int32) (b8 : Int32) (c1 : Int32) (c2 : Int32) (c3 : Int32) (c4 : Int32) (ms : Int32) (z1 : Int32) (z2 : Int32) (z3 : Int32) (z4 : Int32) (hB : shB cI cO L f e0 FA ea bs dn T ft FT V VX VY tn rk wd tw pa pb wh of9 we kd st gb it mn cx cy) (hd5 : dn + 1 ≤ 512) (hf0 : f0 < ft) (htn : (tn f0).toInt = 0) (hst : (st f0).toInt = 1) (hkd5 : (kd f0).toInt = 5) (hms : 0 ≤ ms.toInt) (hwf : ∀ q, lvF ft st tn q → wfM mn cx cy q) (hkn : okN ft st tn kd mn) (hsm : mSm (kd f0).toInt (nN (mn f0)) (cF40 cx f0) (cF40 cy f0)) (hcd : 40 ≤ cd ∧ cd ≤ 1000) (hdf : dfB (nN (mn f0)) (cF40 cx f0) (cF40 cy f0) ≤ ms.toInt) (hlaw : lwS ft st tn kd mn cx cy f0 (nN (mn f0))) (hz1 : z1 = iI (bL (cF40 cx f0) (nN (mn f0)))) (hz2 : z2 = iI (bL (cF40 cy f0) (nN (mn f0)))) (hz3 : z3 = iI (bH (cF40 cx f0) (nN (mn f0)))) (hz4 : z4 = iI (bH (cF40 cy f0) (nN (mn f0)))) : zML l yX10_square cX10_square 5 (some .boolean) ({ frames := 8, cells := ft + 6, slots := 4 * ft + 830, locals := 182 } : Room) [.ref x, .int (nI f0), .int ms] (dC, dI) (zTyO cI cZ cF cO) e0 mi ([(oc8 x (.ref sh) (.ref lw) (.ref ro) (.ref bq) (.ref bp) (.ref dq) (.ref dp) (.ref lv) (.ref sl) (nI dn) sd ul su), (oc10 sl mc9 (.ref ea) (nI T)), (oc3 lw (.ref dr) (.ref tg) (.ref wy) (.ref br) (.ref bo) (.ref aa)), (oc6 tg (.ref tx) (.ref ty) (nI nt) rt), (oa tx cI 3 TX), (oa ty cI 3 TY), (oc6 wy (.ref wx) (.ref wz) (nI nw) rw), (oa wx cI 2 WX), (oa wz cI 2 WY), (oc6 dr (.ref dx) (.ref dy) (nI nd) rd), (oa dx cI cd P), (oa dy cI cd Q), (oc0 br b1 b2 b3 b4), (oc0 bo b5 b6 b7 b8), (oc0 bq c1 c2 c3 c4), (oc7 sh (.ref fa) (nI ft)), (oq fa cF 200 FA)] ++ va_pl L f) sz (some (.int 1)) (fun A t => ∃ (mc1 : Int32), ∃ (L1 : List Nat), ∃ (f1 : Nat → va_E), ∃ (ea1 : Nat), ∃ (nt1 : Nat), ∃ (TX1 : Nat → Int32), ∃ (TY1 : Nat → Int32), ∃ (rt1 : Int32), ∃ (nw1 : Nat), ∃ (WX1 : Nat → Int32), ∃ (WY1 : Nat → Int32), ∃ (rw1 : Int32), ∃ (d5 : Int32), ∃ (d6 : Int32), ∃ (d7 : Int32), ∃ (d8 : Int32), ∃ (e5 : Int32), ∃ (e6 : Int32), ∃ (e7 : Int32), ∃ (e8 : Int32), ∃ (P1 : Nat → Int32), ∃ (Q1 : Nat → Int32), ∃ (c5 : Int32), ∃ (c6 : Int32), ∃ (c7 : Int32), ∃ (c8 : Int32), (shB cI cO L1 f1 e0 FA ea1 bs (dn + 1) (dn + 1) ft (upN FT (dn + 1) ft) (upN V (dn + 1) (vC (upd kd f0 6) st gb it (upd mn f0 4))) (upN VX (dn + 1) (bxX f0 z1 z3 4 cx)) (upN VY (dn + 1) (bxY f0 z2 z4 4 cy)) tn rk wd tw pa pb (upd wh (dn + 1) (5 : Int32)) (upd of9 (dn + 1) (nI f0)) (upd we (dn + 1) (0 : Int32)) (upd kd f0 6) st gb it (upd mn f0 4) (bxX f0 z1 z3 4 cx) (bxY f0 z2 z4 4 cy)) ∧ zPD (dC, dI) classes A ([(oc8 x (.ref sh) (.ref lw) (.ref ro) (.ref bq) (.ref bp) (.ref dq) (.ref dp) (.ref lv) (.ref sl) (nI (dn + 1)) sd ul 0), (oc10 sl mc1 (.ref ea1) (nI (dn + 1))), (oc3 lw (.ref dr) (.ref tg) (.ref wy) (.ref br) (.ref bo) (.ref aa)), (oc6 tg (.ref tx) (.ref ty) (nI nt1) rt1), (oa tx cI 3 TX1), (oa ty cI 3 TY1), (oc6 wy (.ref wx) (.ref wz) (nI nw1) rw1), (oa wx cI 2 WX1), (oa wz cI 2 WY1), (oc6 dr (.ref dx) (.ref dy) (nI 4) 1), (oa dx cI cd P1), (oa dy cI cd Q1), (oc0 br d5 d6 d7 d8), (oc0 bo e5 e6 e7 e8), (oc0 bq c5 c6 c7 c8), (oc7 sh (.ref fa) (nI ft)), (oq fa cF 200 FA)] ++ va_pl L1 f1) t.heap) (ft + 6) (4 * ft + 830) := by
  refine zInL (own := "ScaleShop") (loc := [(0, .ref x), (1, .int (nI f0)), (2, .int ms)]) rfl rfl rfl rfl (fun p e s m below meth c hx hb hr hts hown hlocks hml hnm9 A hA hS hP hD hK hXL hXN hK3 Q9 hQ9 ls hl => ?_)
  obtain ⟨own, fe, cl, la, sp, SA, hG9, hH9, hft9⟩ := hB
  obtain ⟨hG, hM, hdT, hT5⟩ := M_0 hG9 hH9 hft9
  have h200 : ft ≤ 200 := hG.2.2.2.2.2.1.2.2.2.2.2
  have hFA9 := hG.2.2.2.2.2.2
  refine ex13 (sh_fc hG.1 hG.2.1 (Nat.le_refl _) hf0 htn) (fun lo5 lx5 ly5 ln5 LX5 LY5 we5 r5 rx5 ry5 cap5 X5 Y5 hc5 => ?_)
  have hc5 := fc_0 hc5
  have hb5 := hc5.2.2.1
  have hb6 := hc5.2.1
  have hlv : lvF ft st tn f0 := ⟨hf0, hst, htn⟩
  have hwf0 := hwf f0 hlv
  have hw1 := hwf0.2.1
  have hkn0 := hkn f0 hlv
  have hX5 := hc5.2.2.2.2.1
  have hp5 := (pls_cg hX5).mpr hwf0.2.2
  have hc9_1 : inPl L f [(oc1 (fe f0) (rk f0) (wd f0) (tw f0) (pa f0) (pb f0) (.ref lo5) (.ref (la dn f0)) .null), (oc4 (la dn f0) (kd f0) (st f0) (.ref r5) (gb f0) (it f0) (nI we5)), (oc6 r5 (.ref rx5) (.ref ry5) (nI (nN (mn f0))) (rgK (kd f0).toInt)), (oa rx5 cI cap5 X5), (oa ry5 cI cap5 Y5), (oc6 lo5 (.ref lx5) (.ref ly5) (nI ln5) 0), (oa lx5 cI (cl f0) LX5), (oa ly5 cI (cl f0) LY5)] := ⟨ce_pl hc5.1.1, ce_pl hc5.1.2.1, ce_pl hc5.1.2.2.1.1, ce_pl hc5.1.2.2.1.2.1, ce_pl hc5.1.2.2.1.2.2.1, ce_pl hc5.1.2.2.2.1, ce_pl hc5.1.2.2.2.2.1, ce_pl hc5.1.2.2.2.2.2.1, trivial⟩
  have hD0_1 := hD
  obtain ⟨T_1, hT_1, hP, hD⟩ := pl_oT hP hD hc9_1 (pw8 hc5 (by omega))
  obtain ⟨hP, hD⟩ := zre (W2 := ([_, _, _, _, _, _, _, _, _, _, _, _, _, _, _, _, _, _, _, _, _, _, _, _, _] ++ va_pl T_1 f)) hP hD rfl
  refine lv_aload_n hx hb dX10_square_0 rfl (lv_at hl 0 rfl) ?_
  refine va_get (D := (dC, dI)) (ci := 8) (v := .ref sh) (C := RX10) (T := TX10) (N := 13) hx hb hts inX10 hown hK hP 0 rfl rfl 0 (Nat.le_of_ble_eq_true rfl) (hts _ mw_309) (fun _ h9 => h9) rfl dX10_square_1 ?_
  refine lv_iload_n hx hb dX10_square_4 rfl (lv_at hl 1 rfl) ?_
  obtain ⟨hPc, hDc, hFc, hI1⟩ := zi_sub (wc := [_, _]) hP hD hS hA [15, 16] rfl rfl
  refine zcall (st1 := [.ref (fe f0)]) (va_runV (As := [.int (nI f0)]) (rest := []) ⟨hx, hb, hml, hown, hts⟩ (k_Sheet_find l dC dI cI cZ cF s.heap.size sh fa ft FA f0 (fe f0) (by first | with_reducible assumption | omega) (by first | with_reducible assumption | omega) (hFA9 f0 (by first | with_reducible assumption | omega))) (csV_94 hts rfl rfl ⟨Nat.le_of_ble_eq_true rfl, Nat.le_of_ble_eq_true rfl⟩) (zPV2 (q0 := 0) (ci := 7) hPc hDc hK3 hXN rfl rfl) rfl rfl hl.1 rfl (lv_room (Nat.le_of_ble_eq_true rfl)) dX10_square_5 ⟨Nat.zero_le _, Nat.zero_le _⟩) hS hFc hFc rfl (fun t H locs ht hB hk1 hS => ?_)
  obtain ⟨hP1, hD1⟩ := hB
  rw [ht] at hP1
  replace hP := z0 hP hD hk1 hP1 hI1
  clear hk1 hPc hDc hFc hP1 hD1 ht hI1
  refine lv_astore_n (lv' := [(3, .ref (fe f0)), (0, .ref x), (1, .int (nI f0)), (2, .int ms)]) hx hb dX10_square_8 rfl hl (Nat.le_of_ble_eq_true rfl) rfl (fun ls hl => ?_)
  refine lv_aload_n hx hb dX10_square_9 rfl (lv_at hl 0 rfl) ?_
  refine lv_ifnonnull (tgt := 19) hx hb dX10_square_10 rfl ?_
  refine lv_aload_n hx hb dX10_square_19 rfl (lv_at hl 0 rfl) ?_
  refine va_get (D := (dC, dI)) (ci := 1) (v := .ref (la dn f0)) (C := RX2) (T := TX2) (N := 8) hx hb hts inX2 hown hK hP 17 rfl rfl 6 (Nat.le_of_ble_eq_true rfl) (hts _ mw_433) (fun _ h9 => h9) rfl dX10_square_20 ?_
  refine va_get (D := (dC, dI)) (ci := 4) (v := .int (st f0)) (C := RX5) (T := TX5) (N := 6) hx hb hts inX5 hown hK hP 18 rfl rfl 1 (Nat.le_of_ble_eq_true rfl) (hts _ mw_385) (fun _ h9 => h9) rfl dX10_square_23 ?_
  refine lv_iconst (v := 1) hx hb dX10_square_26 rfl ?_
  refine lv_icmp_eq (tgt := 36) hx hb dX10_square_27 rfl (fun c_1 => ?_) (fun c_1 => ?_)
  · have c_1 : (st f0).toInt = 1 := zc_eq rfl rfl c_1
    refine lv_aload_n hx hb dX10_square_36 rfl (lv_at hl 0 rfl) ?_
    refine va_get (D := (dC, dI)) (ci := 1) (v := .ref (la dn f0)) (C := RX2) (T := TX2) (N := 8) hx hb hts inX2 hown hK hP 17 rfl rfl 6 (Nat.le_of_ble_eq_true rfl) (hts _ mw_433) (fun _ h9 => h9) rfl dX10_square_37 ?_
    refine va_get (D := (dC, dI)) (ci := 4) (v := .int (kd f0)) (C := RX5) (T := TX5) (N := 6) hx hb hts inX5 hown hK hP 18 rfl rfl 0 (Nat.le_of_ble_eq_true rfl) (hts _ mw_381) (fun _ h9 => h9) rfl dX10_square_40 ?_
    refine lv_iconst (v := 5) hx hb dX10_square_43 rfl ?_
    refine lv_icmp_eq (tgt := 53) hx hb dX10_square_44 rfl (fun c_2 => ?_) (fun c_2 => ?_)
    · have c_2 : (kd f0).toInt = 5 := zc_eq rfl rfl c_2
      refine lv_iload_n hx hb dX10_square_53 rfl (lv_at hl 3 rfl) ?_
      refine lv_if_ge (tgt := 63) hx hb dX10_square_54 rfl (fun c_3 => ?_) (fun c_3 => ?_)
      · have c_3 : 0 ≤ ms.toInt := zc_le rfl rfl c_3
        refine lv_aload_n hx hb dX10_square_63 rfl (lv_at hl 0 rfl) ?_
        refine va_get (D := (dC, dI)) (ci := 1) (v := .ref (la dn f0)) (C := RX2) (T := TX2) (N := 8) hx hb hts inX2 hown hK hP 17 rfl rfl 6 (Nat.le_of_ble_eq_true rfl) (hts _ mw_433) (fun _ h9 => h9) rfl dX10_square_64 ?_
        refine va_get (D := (dC, dI)) (ci := 4) (v := .ref r5) (C := RX5) (T := TX5) (N := 6) hx hb hts inX5 hown hK hP 18 rfl rfl 2 (Nat.le_of_ble_eq_true rfl) (hts _ mw_391) (fun _ h9 => h9) rfl dX10_square_67 ?_
        refine lv_astore (lv' := [(4, .ref r5), (3, .ref (fe f0)), (0, .ref x), (1, .int (nI f0)), (2, .int ms)]) hx hb dX10_square_70 hl (Nat.le_of_ble_eq_true rfl) rfl (fun ls hl => ?_)
        refine lv_aload hx hb dX10_square_72 (lv_at hl 0 rfl) ?_
        refine lv_ifnonnull (tgt := 83) hx hb dX10_square_74 rfl ?_
        refine lv_aload_n hx hb dX10_square_83 rfl (lv_at hl 2 rfl) ?_
        refine va_get (D := (dC, dI)) (ci := 8) (v := .ref bq) (C := RX10) (T := TX10) (N := 13) hx hb hts inX10 hown hK hP 0 rfl rfl 3 (Nat.le_of_ble_eq_true rfl) (hts _ mw_312) (fun _ h9 => h9) rfl dX10_square_84 ?_
        refine lv_aload hx hb dX10_square_87 (lv_at hl 0 rfl) ?_
        obtain ⟨hPc, hDc, hFc⟩ := zo_sub (wc := [_, _, _, _]) hP hD hS hA [14, 19, 20, 21] (by decide +kernel) rfl
        refine zcall (st1 := []) (va_runV (As := [.ref r5]) (rest := []) ⟨hx, hb, hml, hown, hts⟩ (k_Box_cover l dC dI cI cZ cF H.size bq c1 c2 c3 c4 r5 rx5 ry5 (nN (mn f0)) cap5 X5 Y5 (rgK (kd f0).toInt) (by first | with_reducible assumption | omega) (by first | with_reducible assumption | omega) ((pls_nr hp5).1) ((pls_nr hp5).2) (by first | with_reducible assumption | omega)) (csV_129 hts rfl rfl ⟨Nat.le_of_ble_eq_true rfl, Nat.le_of_ble_eq_true rfl⟩) (zPV2 (q0 := 0) (ci := 0) hPc hDc hK3 hXN rfl rfl) rfl rfl hl.1 rfl (lv_room (Nat.le_of_ble_eq_true rfl)) dX10_square_89 ⟨Nat.zero_le _, Nat.zero_le _⟩) hS hFc hFc rfl (fun t H locs ht hB hk1 hS => ?_)
        obtain ⟨hP1, hD1⟩ := hB
        rw [ht] at hP1
        obtain ⟨hP, hD⟩ := znQ (W2 := [_, _, _, _, _, _, _, _, _, _, _, _, _, _, (oc0 bq (iI (mnI (X5 0).toInt X5 (nN (mn f0)))) (iI (mnI (Y5 0).toInt Y5 (nN (mn f0)))) (iI (mxI (X5 0).toInt X5 (nN (mn f0)))) (iI (mxI (Y5 0).toInt Y5 (nN (mn f0))))), _, _, _, _, _, _, _, _, _, _]) hP hD hk1 hFc hP1 hD1 [14, 19, 20, 21] zl_115 zl_115 [14, 19, 20, 21] (by decide +kernel) rfl rfl rfl rfl rfl
        clear hk1 hPc hDc hFc hP1 hD1 ht
        refine lv_aload_n hx hb dX10_square_92 rfl (lv_at hl 2 rfl) ?_
        refine va_get (D := (dC, dI)) (ci := 8) (v := .ref lw) (C := RX10) (T := TX10) (N := 13) hx hb hts inX10 hown hK hP 0 rfl rfl 1 (Nat.le_of_ble_eq_true rfl) (hts _ mw_310) (fun _ h9 => h9) rfl dX10_square_93 ?_
        refine va_get (D := (dC, dI)) (ci := 3) (v := .ref dr) (C := RX4) (T := TX4) (N := 6) hx hb hts inX4 hown hK hP 2 rfl rfl 0 (Nat.le_of_ble_eq_true rfl) (hts _ mw_220) (fun _ h9 => h9) rfl dX10_square_96 ?_
        refine lv_aload_n hx hb dX10_square_99 rfl (lv_at hl 2 rfl) ?_
        refine va_get (D := (dC, dI)) (ci := 8) (v := .ref bq) (C := RX10) (T := TX10) (N := 13) hx hb hts inX10 hown hK hP 0 rfl rfl 3 (Nat.le_of_ble_eq_true rfl) (hts _ mw_312) (fun _ h9 => h9) rfl dX10_square_100 ?_
        obtain ⟨hPc, hDc, hFc⟩ := zo_sub (wc := [_, _, _, _]) hP hD hS hA [9, 10, 11, 14] (by decide +kernel) rfl
        refine zcall (st1 := []) (va_runV (As := [.ref bq]) (rest := []) ⟨hx, hb, hml, hown, hts⟩ (k_Row_boxFrom l dC dI cI cZ cF H.size dr dx dy nd cd P Q rd bq (iI (mnI (X5 0).toInt X5 (nN (mn f0)))) (iI (mnI (Y5 0).toInt Y5 (nN (mn f0)))) (iI (mxI (X5 0).toInt X5 (nN (mn f0)))) (iI (mxI (Y5 0).toInt Y5 (nN (mn f0)))) (by first | with_reducible assumption | omega) (by first | with_reducible assumption | omega)) (csV_131 hts rfl rfl ⟨Nat.le_of_ble_eq_true rfl, Nat.le_of_ble_eq_true rfl⟩) (zPV2 (q0 := 0) (ci := 6) hPc hDc hK3 hXN rfl rfl) rfl rfl hl.1 rfl (lv_room (Nat.le_of_ble_eq_true rfl)) dX10_square_103 ⟨Nat.zero_le _, Nat.zero_le _⟩) hS hFc hFc rfl (fun t H locs ht hB hk1 hS => ?_)
        obtain ⟨hP1, hD1⟩ := hB
        rw [ht] at hP1
        obtain ⟨hP, hD⟩ := znQ (W2 := [_, _, _, _, _, _, _, _, _, (oc6 dr (.ref dx) (.ref dy) (nI 4) 1), (oa dx cI cd (upd (upd (upd (upd P 0 (iI (mnI (X5 0).toInt X5 (nN (mn f0))))) 1 (iI (mxI (X5 0).toInt X5 (nN (mn f0))))) 2 (iI (mxI (X5 0).toInt X5 (nN (mn f0))))) 3 (iI (mnI (X5 0).toInt X5 (nN (mn f0)))))), (oa dy cI cd (upd (upd (upd (upd Q 0 (iI (mnI (Y5 0).toInt Y5 (nN (mn f0))))) 1 (iI (mnI (Y5 0).toInt Y5 (nN (mn f0))))) 2 (iI (mxI (Y5 0).toInt Y5 (nN (mn f0))))) 3 (iI (mxI (Y5 0).toInt Y5 (nN (mn f0)))))), _, _, _, _, _, _, _, _, _, _, _, _, _]) hP hD hk1 hFc hP1 hD1 [9, 10, 11, 14] zl_116 zl_116 [9, 10, 11, 14] (by decide +kernel) rfl rfl rfl rfl rfl
        clear hk1 hPc hDc hFc hP1 hD1 ht
        obtain ⟨P7, hP7⟩ : ∃ z9 : Nat → Int32, z9 = upd (upd (upd (upd P 0 (iI (mnI (X5 0).toInt X5 (nN (mn f0))))) 1 (iI (mxI (X5 0).toInt X5 (nN (mn f0))))) 2 (iI (mxI (X5 0).toInt X5 (nN (mn f0))))) 3 (iI (mnI (X5 0).toInt X5 (nN (mn f0)))) := ⟨_, rfl⟩
        rw [← hP7] at hP hD
        obtain ⟨Q7, hQ7⟩ : ∃ z9 : Nat → Int32, z9 = upd (upd (upd (upd Q 0 (iI (mnI (Y5 0).toInt Y5 (nN (mn f0))))) 1 (iI (mnI (Y5 0).toInt Y5 (nN (mn f0))))) 2 (iI (mxI (Y5 0).toInt Y5 (nN (mn f0))))) 3 (iI (mxI (Y5 0).toInt Y5 (nN (mn f0)))) := ⟨_, rfl⟩
        rw [← hQ7] at hP hD
        obtain ⟨hP, hD⟩ := zre (W2 := ([_, _, _, _, _, _, _, _, _, _, _, _, _, _, _, _, _, _, _, _, _, _, _, _, _] ++ va_pl T_1 f)) hP hD rfl
        have hp0 : P7 0 = iI (mnI (X5 0).toInt X5 (nN (mn f0))) ∧ P7 1 = iI (mxI (X5 0).toInt X5 (nN (mn f0))) ∧ P7 2 = iI (mxI (X5 0).toInt X5 (nN (mn f0))) ∧ P7 3 = iI (mnI (X5 0).toInt X5 (nN (mn f0))) := (by rw [hP7]; exact bx_4)
        have hq0 : Q7 0 = iI (mnI (Y5 0).toInt Y5 (nN (mn f0))) ∧ Q7 1 = iI (mnI (Y5 0).toInt Y5 (nN (mn f0))) ∧ Q7 2 = iI (mxI (Y5 0).toInt Y5 (nN (mn f0))) ∧ Q7 3 = iI (mxI (Y5 0).toInt Y5 (nN (mn f0))) := (by rw [hQ7]; exact bx_5)
        obtain ⟨hp47, hdf7, ha47, han7⟩ := bx_sq hp5 (by omega) hp0 hq0
        have hdf8 : dfB (nN (mn f0)) X5 Y5 = dfB (nN (mn f0)) (cF40 cx f0) (cF40 cy f0) := (by have e1 := mnI_cg (z := (X5 0).toInt) (fun j hj => (hX5 j hj).1) _ (Nat.le_refl _); have e2 := mnI_cg (z := (Y5 0).toInt) (fun j hj => (hX5 j hj).2) _ (Nat.le_refl _); rw [dfB_eq, dfB_eq, e1.1, e1.2, e2.1, e2.2, ar2_cg hX5 _ (Nat.le_refl _), (hX5 0 (by omega)).1, (hX5 0 (by omega)).2])
        have hmn8 : ∀ j, iI (mnI (X5 0).toInt X5 (nN (mn f0))) = iI (bL (cF40 cx f0) (nN (mn f0))) ∧ iI (mxI (X5 0).toInt X5 (nN (mn f0))) = iI (bH (cF40 cx f0) (nN (mn f0))) ∧ iI (mnI (Y5 0).toInt Y5 (nN (mn f0))) = iI (bL (cF40 cy f0) (nN (mn f0))) ∧ iI (mxI (Y5 0).toInt Y5 (nN (mn f0))) = iI (bH (cF40 cy f0) (nN (mn f0))) := fun (_ : Nat) => (by have e1 := mnI_cg (z := (X5 0).toInt) (fun j hj => (hX5 j hj).1) _ (Nat.le_refl _); have e2 := mnI_cg (z := (Y5 0).toInt) (fun j hj => (hX5 j hj).2) _ (Nat.le_refl _); rw [e1.1, e1.2, e2.1, e2.2, (hX5 0 (by omega)).1, (hX5 0 (by omega)).2]; exact ⟨rfl, rfl, rfl, rfl⟩)
        have hm8 := hmn8 0
        have hlS : ((pls 4 P7 Q7 ∧ ((∀ i, i < edg 4 (1 : Int32) → eFr 4 P7 Q7 (1 : Int32) i (i + 1)) ∧ (¬ (6 : Int32).toInt = 6 ∨ ∀ k, k < 4 → eRt 4 P7 Q7 k)) ∧ ∀ q, q < ft → (q ≠ f0 → lvF ft st tn q → (apB (mnI (mnI (X5 0).toInt X5 (nN (mn f0))) P7 4) (mnI (mnI (Y5 0).toInt Y5 (nN (mn f0))) Q7 4) (mxI (mxI (X5 0).toInt X5 (nN (mn f0))) P7 4) (mxI (mxI (Y5 0).toInt Y5 (nN (mn f0))) Q7 4) (nN (mn q)) (cF40 cx q) (cF40 cy q) ∨ (asb (nN (mn f0)) X5 Y5 (rgK (kd f0).toInt) 4 P7 Q7 (1 : Int32) (nN (mn q)) (cF40 cx q) (cF40 cy q) (rgK (kd q).toInt)))))) ↔ lwS ft st tn kd mn cx cy f0 (nN (mn f0)) := (alB_cx (rg := rgK (kd f0).toInt) (rd := (1 : Int32)) hw1.1 hX5).trans (by rw [hkd5]; exact alB_lw (by have h9 := (hsm.2 (by omega)).1; unfold mnc at h9; rw [if_pos (by omega)] at h9; omega) hkd5 ⟨hp0.1.trans hm8.1, hq0.1.trans hm8.2.2.1⟩ ⟨hp0.2.1.trans hm8.2.1, hq0.2.1.trans hm8.2.2.1⟩ ⟨hp0.2.2.1.trans hm8.2.1, hq0.2.2.1.trans hm8.2.2.2⟩ ⟨hp0.2.2.2.trans hm8.1, hq0.2.2.2.trans hm8.2.2.2⟩ hwf hkn)
        refine lv_aload_n hx hb dX10_square_106 rfl (lv_at hl 2 rfl) ?_
        refine va_get (D := (dC, dI)) (ci := 8) (v := .ref lw) (C := RX10) (T := TX10) (N := 13) hx hb hts inX10 hown hK hP 0 rfl rfl 1 (Nat.le_of_ble_eq_true rfl) (hts _ mw_310) (fun _ h9 => h9) rfl dX10_square_107 ?_
        refine va_get (D := (dC, dI)) (ci := 3) (v := .ref dr) (C := RX4) (T := TX4) (N := 6) hx hb hts inX4 hown hK hP 2 rfl rfl 0 (Nat.le_of_ble_eq_true rfl) (hts _ mw_220) (fun _ h9 => h9) rfl dX10_square_110 ?_
        obtain ⟨hPc, hDc, hFc, hI1⟩ := zi_sub (wc := [_, _, _]) hP hD hS hA [9, 10, 11] rfl rfl
        refine zcall (st1 := [.int (nI (Int.natAbs (ar2 4 P7 Q7 4)))]) (va_runV (As := []) (rest := []) ⟨hx, hb, hml, hown, hts⟩ (k_Row_doubleArea l dC dI cI cZ cF H.size dr dx dy 4 cd P7 Q7 1 (by first | with_reducible assumption | omega) (by first | with_reducible assumption | omega) (hp47)) (csV_123 hts rfl rfl ⟨Nat.le_of_ble_eq_true rfl, Nat.le_of_ble_eq_true rfl⟩) (zPV2 (q0 := 0) (ci := 6) hPc hDc hK3 hXN rfl rfl) rfl rfl hl.1 rfl (lv_room (Nat.le_of_ble_eq_true rfl)) dX10_square_113 ⟨Nat.zero_le _, Nat.zero_le _⟩) hS hFc hFc rfl (fun t H locs ht hB hk1 hS => ?_)
        obtain ⟨hP1, hD1⟩ := hB
        rw [ht] at hP1
        replace hP := z0 hP hD hk1 hP1 hI1
        clear hk1 hPc hDc hFc hP1 hD1 ht hI1
        refine lv_aload hx hb dX10_square_116 (lv_at hl 0 rfl) ?_
        obtain ⟨hPc, hDc, hFc, hI1⟩ := zi_sub (wc := [_, _, _]) hP hD hS hA [19, 20, 21] rfl rfl
        refine zcall (st1 := [.int (nI (Int.natAbs (ar2 (nN (mn f0)) X5 Y5 (nN (mn f0))))), .int (nI (Int.natAbs (ar2 4 P7 Q7 4)))]) (va_runV (As := []) (rest := [.int (nI (Int.natAbs (ar2 4 P7 Q7 4)))]) ⟨hx, hb, hml, hown, hts⟩ (k_Row_doubleArea l dC dI cI cZ cF H.size r5 rx5 ry5 (nN (mn f0)) cap5 X5 Y5 (rgK (kd f0).toInt) (by first | with_reducible assumption | omega) (by first | with_reducible assumption | omega) (hp5)) (csV_123 hts rfl rfl ⟨Nat.le_of_ble_eq_true rfl, Nat.le_of_ble_eq_true rfl⟩) (zPV2 (q0 := 0) (ci := 6) hPc hDc hK3 hXN rfl rfl) rfl rfl hl.1 rfl (lv_room (Nat.le_of_ble_eq_true rfl)) dX10_square_118 ⟨Nat.zero_le _, Nat.zero_le _⟩) hS hFc hFc rfl (fun t H locs ht hB hk1 hS => ?_)
        obtain ⟨hP1, hD1⟩ := hB
        rw [ht] at hP1
        replace hP := z0 hP hD hk1 hP1 hI1
        clear hk1 hPc hDc hFc hP1 hD1 ht hI1
        refine lv_isub hx hb dX10_square_121 ?_
        refine zz_i (v := iI (((Int.natAbs (ar2 4 P7 Q7 4) : Nat) : Int) - ((Int.natAbs (ar2 (nN (mn f0)) X5 Y5 (nN (mn f0))) : Nat) : Int))) (nn_sub (by omega) (by omega)) ?_
        refine lv_iload_n hx hb dX10_square_122 rfl (lv_at hl 4 rfl) ?_
        refine lv_icmp_le (tgt := 132) hx hb dX10_square_123 rfl (fun c_4 => ?_) (fun c_4 => ?_)
        · have c_4 : (((Int.natAbs (ar2 4 P7 Q7 4) : Nat) : Int) - ((Int.natAbs (ar2 (nN (mn f0)) X5 Y5 (nN (mn f0))) : Nat) : Int)) ≤ ms.toInt := zc_le (iI_toInt (by omega)) rfl c_4
          refine lv_aload_n hx hb dX10_square_132 rfl (lv_at hl 2 rfl) ?_
          refine va_get (D := (dC, dI)) (ci := 8) (v := .ref lw) (C := RX10) (T := TX10) (N := 13) hx hb hts inX10 hown hK hP 0 rfl rfl 1 (Nat.le_of_ble_eq_true rfl) (hts _ mw_310) (fun _ h9 => h9) rfl dX10_square_133 ?_
          refine lv_aload_n hx hb dX10_square_136 rfl (lv_at hl 2 rfl) ?_
          refine va_get (D := (dC, dI)) (ci := 8) (v := .ref sh) (C := RX10) (T := TX10) (N := 13) hx hb hts inX10 hown hK hP 0 rfl rfl 0 (Nat.le_of_ble_eq_true rfl) (hts _ mw_309) (fun _ h9 => h9) rfl dX10_square_137 ?_
          refine lv_aload_n hx hb dX10_square_140 rfl (lv_at hl 1 rfl) ?_
          refine lv_bipush (v := (-2)) hx hb dX10_square_141 rfl ?_
          obtain ⟨hPc, hDc, hFc⟩ := zo_part (cx := [_, _, _, _, _, _, _, _, _, _, _, _, _, _, _, _, _, _, _]) hP hD hS hA [2, 3, 4, 5, 6, 7, 8, 9, 10, 11, 12, 13, 15, 16, 17, 18, 19, 20, 21] (by decide +kernel) rfl
          refine zcall (st1 := [.int (pI (pls 4 P7 Q7 ∧ ((∀ i, i < edg 4 (1 : Int32) → eFr 4 P7 Q7 (1 : Int32) i (i + 1)) ∧ (¬ (6 : Int32).toInt = 6 ∨ ∀ k, k < 4 → eRt 4 P7 Q7 k)) ∧ ∀ q, q < ft → (q ≠ f0 → lvF ft st tn q → (apB (mnI (mnI (X5 0).toInt X5 (nN (mn f0))) P7 4) (mnI (mnI (Y5 0).toInt Y5 (nN (mn f0))) Q7 4) (mxI (mxI (X5 0).toInt X5 (nN (mn f0))) P7 4) (mxI (mxI (Y5 0).toInt Y5 (nN (mn f0))) Q7 4) (nN (mn q)) (cF40 cx q) (cF40 cy q) ∨ (asb (nN (mn f0)) X5 Y5 (rgK (kd f0).toInt) 4 P7 Q7 (1 : Int32) (nN (mn q)) (cF40 cx q) (cF40 cy q) (rgK (kd q).toInt))))))]) (va_runV (As := [.ref sh, .ref (fe f0), .int (-2)]) (rest := []) ⟨hx, hb, hml, hown, hts⟩ (k_Law_allows_b l dC dI cI cZ cF H.size lw dr tg wy br bo aa tx ty nt TX TY rt wx wz nw WX WY rw dx dy 4 cd P7 Q7 1 b1 b2 b3 b4 b5 b6 b7 b8 sh fa ft FA (fe f0) lo5 (rk f0) (wd f0) (tw f0) (pa f0) (pb f0) (la dn f0) (kd f0) (st f0) (gb f0) (it f0) (nI we5) r5 rx5 ry5 (nN (mn f0)) cap5 X5 Y5 (rgK (kd f0).toInt) f0 (.null) T_1 f kd st tn mn cx cy (by first | with_reducible assumption | omega) (by first | with_reducible assumption | omega) (hFA9 f0 (by first | with_reducible assumption | omega)) (hst) (by rw [← hT_1]; exact fc_vw hc5 (by first | with_reducible assumption | omega) (by first | with_reducible assumption | omega) hG.1 hG.2.1 hFA9 (Nat.le_refl _)) (hwf) (hkn) (by first | with_reducible assumption | omega) (by first | with_reducible assumption | omega) (by first | with_reducible assumption | omega) (by first | with_reducible assumption | omega) (hp5) (by first | with_reducible assumption | omega) (by first | with_reducible assumption | omega) (by have h9 := (hsm.2 (by first | with_reducible assumption | omega)).1; unfold mnc at h9; rw [if_pos (by first | with_reducible assumption | omega)] at h9; omega)) (csV_109 hts rfl rfl ⟨Nat.le_of_ble_eq_true rfl, Nat.le_of_ble_eq_true rfl⟩) (zPV2 (q0 := 0) (ci := 3) hPc hDc hK3 hXN rfl rfl) rfl rfl hl.1 rfl (lv_room (Nat.le_of_ble_eq_true rfl)) dX10_square_143 ⟨Nat.zero_le _, Nat.zero_le _⟩) hS hFc hFc rfl (fun t H locs ht hB hk1 hS => ?_)
          refine ex16 hB (fun nt8 TX8 TY8 rt8 nw8 WX8 WY8 rw8 g08 g18 g28 g38 g48 g58 g68 g78 hB0 => ?_)
          clear hB
          obtain ⟨hP1, hD1⟩ := hB0
          rw [ht] at hP1
          obtain ⟨hP, hD⟩ := znP (W2 := [_, _, _, (oc6 tg (.ref tx) (.ref ty) (nI nt8) rt8), (oa tx cI 3 TX8), (oa ty cI 3 TY8), (oc6 wy (.ref wx) (.ref wz) (nI nw8) rw8), (oa wx cI 2 WX8), (oa wz cI 2 WY8), _, _, _, (oc0 br g08 g18 g28 g38), (oc0 bo g48 g58 g68 g78), _, _, _, _, _, _, _, _, _, _, _]) hP hD hk1 hFc hP1 hD1 zl_117 zl_118 zl_118 zl_117 (by decide +kernel) rfl rfl rfl rfl rfl
          clear hk1 hPc hDc hFc hP1 hD1 ht
          refine lv_if_ne (tgt := 156) hx hb dX10_square_146 rfl (fun c_5 => ?_) (fun c_5 => ?_)
          · have c_5 : pls 4 P7 Q7 ∧ ((∀ i, i < edg 4 (1 : Int32) → eFr 4 P7 Q7 (1 : Int32) i (i + 1)) ∧ (¬ (6 : Int32).toInt = 6 ∨ ∀ k, k < 4 → eRt 4 P7 Q7 k)) ∧ ∀ q, q < ft → (q ≠ f0 → lvF ft st tn q → (apB (mnI (mnI (X5 0).toInt X5 (nN (mn f0))) P7 4) (mnI (mnI (Y5 0).toInt Y5 (nN (mn f0))) Q7 4) (mxI (mxI (X5 0).toInt X5 (nN (mn f0))) P7 4) (mxI (mxI (Y5 0).toInt Y5 (nN (mn f0))) Q7 4) (nN (mn q)) (cF40 cx q) (cF40 cy q) ∨ (asb (nN (mn f0)) X5 Y5 (rgK (kd f0).toInt) 4 P7 Q7 (1 : Int32) (nN (mn q)) (cF40 cx q) (cF40 cy q) (rgK (kd q).toInt)))) := zp_1 c_5
            refine lv_aload_n hx hb dX10_square_156 rfl (lv_at hl 1 rfl) ?_
            refine lv_aload_n hx hb dX10_square_157 rfl (lv_at hl 2 rfl) ?_
            refine va_get (D := (dC, dI)) (ci := 8) (v := .ref lw) (C := RX10) (T := TX10) (N := 13) hx hb hts inX10 hown hK hP 0 rfl rfl 1 (Nat.le_of_ble_eq_true rfl) (hts _ mw_310) (fun _ h9 => h9) rfl dX10_square_158 ?_
            refine va_get (D := (dC, dI)) (ci := 3) (v := .ref dr) (C := RX4) (T := TX4) (N := 6) hx hb hts inX4 hown hK hP 2 rfl rfl 0 (Nat.le_of_ble_eq_true rfl) (hts _ mw_220) (fun _ h9 => h9) rfl dX10_square_161 ?_
            obtain ⟨hPc, hDc, hFc⟩ := zo_sub (wc := [_, _, _, _, _]) hP hD hS hA [17, 18, 9, 10, 11] (by decide +kernel) rfl
            refine zcall (st1 := []) (va_runV (As := [.ref dr]) (rest := []) ⟨hx, hb, hml, hown, hts⟩ (k_Feature_reshape l dC dI cI cZ cF H.size (fe f0) lo5 (rk f0) (wd f0) (tw f0) (pa f0) (pb f0) (la dn f0) (kd f0) (st f0) (gb f0) (it f0) (nI we5) r5 dr dx dy 4 cd P7 Q7 1 (by first | with_reducible assumption | omega) (by first | with_reducible assumption | omega) (Or.inr rfl)) (csV_111 hts rfl rfl ⟨Nat.le_of_ble_eq_true rfl, Nat.le_of_ble_eq_true rfl⟩) (zPV2 (q0 := 0) (ci := 1) hPc hDc hK3 hXN rfl rfl) rfl rfl hl.1 rfl (lv_room (Nat.le_of_ble_eq_true rfl)) dX10_square_164 ⟨show (0 + 4) ≤ ft + 6 by omega, show (0 + (2 * 4 + 10)) ≤ 4 * ft + 830 by omega⟩) hS hFc hFc rfl (fun t H locs ht hB hk1 hS => ?_)
            refine ex6 hB (fun q7 w7 wx7 wy7 X7 Y7 hB0 => ?_)
            clear hB
            obtain ⟨hall7, hP1, hD1⟩ := hB0
            rw [ht] at hP1
            obtain ⟨hP, hD⟩ := znQ (W2 := [_, _, _, _, _, _, _, _, _, _, _, _, _, _, _, _, _, _, _, _, (oc1 (fe f0) (rk f0) (wd f0) (tw f0) (pa f0) (pb f0) (.ref lo5) (.ref q7) (.ref (la dn f0))), (oc4 (la dn f0) (kd f0) (st f0) (.ref r5) (gb f0) (it f0) (nI we5)), (oc4 q7 (kd f0) (st f0) (.ref w7) (gb f0) (it f0) (nI we5)), (oc6 dr (.ref dx) (.ref dy) (nI 4) 1), (oa dx cI cd P7), (oa dy cI cd Q7), (oc6 w7 (.ref wx7) (.ref wy7) (nI 4) 1), (oa wx7 cI 4 X7), (oa wy7 cI 4 Y7)]) hP hD hk1 hFc hP1 hD1 [17, 18, 9, 10, 11] zl_119 zl_120 zl_121 (by decide +kernel) rfl rfl rfl rfl rfl
            clear hk1 hPc hDc hFc hP1 hD1 ht
            refine lv_aload_n hx hb dX10_square_167 rfl (lv_at hl 1 rfl) ?_
            refine va_get (D := (dC, dI)) (ci := 1) (v := .ref q7) (C := RX2) (T := TX2) (N := 8) hx hb hts inX2 hown hK hP 20 rfl rfl 6 (Nat.le_of_ble_eq_true rfl) (hts _ mw_433) (fun _ h9 => h9) rfl dX10_square_168 ?_
            refine lv_bipush (v := 6) hx hb dX10_square_171 rfl ?_
            refine va_put (D := (dC, dI)) (ci := 4) (v := .int 6) (ty := .int) (C := RX5) (T := TX5) (N := 6) hx hb hts inX5 tyX5 tyX5_ok nmX5 hown hK hP hD hS 22 rfl rfl 0 (by decide) (hts _ mw_381) (fun _ h9 => h9) rfl (by decide +kernel) rfl rfl (Nat.le_of_ble_eq_true rfl) dX10_square_173 (fun H locs hP hD hS => ?_)
            obtain ⟨hP, hD⟩ := zre (W2 := ([_, _, _, _, _, _, _, _, _, _, _, _, _, _, _, _, _, _, _, _, _, _, (oc4 q7 6 (st f0) (.ref w7) (gb f0) (it f0) (nI we5)), _, _, _, _, _, _] ++ va_pl T_1 f)) hP hD rfl
            obtain ⟨hP, hD⟩ := zq_part (cx := [_, _, _, _, _, _, _, _, _, _, _, _, _, _, _, _, _, _, _, _, _, _, _, _, _, _, _, _, _]) hP hD [0, 1, 2, 3, 4, 5, 6, 7, 8, 9, 10, 11, 12, 13, 23, 24, 25, 20, 21, 14, 15, 16, 17, 18, 19, 22, 26, 27, 28] rfl rfl
            obtain ⟨Lp1, fp1, hP, hD, hpin_1⟩ := pl_pn (X := [_, _, _, _, _, _, _, _, _, _, _, _, _, _, _, _, _]) (old := [_, _, _, _, _, _, _, _]) (new := [_, _, _, _]) (cs1 := [_, _, _, _, _, _, _, _, _, _, _, _]) (L := L) (cs := [(oc1 (fe f0) (rk f0) (wd f0) (tw f0) (pa f0) (pb f0) (.ref lo5) (.ref (la dn f0)) .null), (oc4 (la dn f0) (kd f0) (st f0) (.ref r5) (gb f0) (it f0) (nI we5)), (oc6 r5 (.ref rx5) (.ref ry5) (nI (nN (mn f0))) (rgK (kd f0).toInt)), (oa rx5 cI cap5 X5), (oa ry5 cI cap5 Y5), (oc6 lo5 (.ref lx5) (.ref ly5) (nI ln5) 0), (oa lx5 cI (cl f0) LX5), (oa ly5 cI (cl f0) LY5)]) hT_1 hP hD rfl rfl rfl
            obtain ⟨hfr_1, hkp_1, hce_1, hsx_1, hpw_1⟩ := id hpin_1
            obtain ⟨own1, nw1, md1, fm1, hG1, hM1, hmd1⟩ := M_resh (kd1 := upd kd f0 6) (st1 := st) (gb1 := gb) (it1 := it) (mn1 := upd mn f0 4) (cx1 := bxX f0 z1 z3 4 cx) (cy1 := bxY f0 z2 z4 4 cy) hG hM rfl hf0 (by rw [← hft9]; exact hf0) (by omega) (by omega) htn hc5 ⟨rfl, rfl, rfl, rfl⟩ hpin_1 (fun p hp => ⟨if_neg hp, rfl, rfl, rfl, if_neg hp, fun k hk => ⟨bxX_o (by omega), bxY_o (by omega)⟩⟩) (up_at _ _ _) rfl rfl rfl rfl (by rw [up_at]; decide) (fun k hk => by have e9 := bx_f (f := f0) (cx := cx) (cy := cy) (P := P7) (Q := Q7) ⟨hp0.1.trans (hm8.1.trans hz1.symm), hq0.1.trans (hm8.2.2.1.trans hz2.symm)⟩ ⟨hp0.2.1.trans (hm8.2.1.trans hz3.symm), hq0.2.1.trans (hm8.2.2.1.trans hz2.symm)⟩ ⟨hp0.2.2.1.trans (hm8.2.1.trans hz3.symm), hq0.2.2.1.trans (hm8.2.2.2.trans hz4.symm)⟩ ⟨hp0.2.2.2.trans (hm8.1.trans hz1.symm), hq0.2.2.2.trans (hm8.2.2.2.trans hz4.symm)⟩ k hk; rw [(hall7 k hk).1, (hall7 k hk).2]; exact ⟨e9.1.symm, e9.2.symm⟩) (by omega) (by omega) (fun g => absurd g.2 (by decide))
            refine lv_aload_n hx hb dX10_square_176 rfl (lv_at hl 2 rfl) ?_
            refine lv_iconst (v := 5) hx hb dX10_square_177 rfl ?_
            refine lv_iload_n hx hb dX10_square_178 rfl (lv_at hl 3 rfl) ?_
            refine lv_iconst (v := 0) hx hb dX10_square_179 rfl ?_
            refine lv_null hx hb dX10_square_180 ?_
            obtain ⟨hPc, hDc, hFc⟩ := zo_part (cx := [_, _, _, _]) hP hD hS hA [0, 1, 12, 13] (by decide +kernel) rfl
            refine zcall (st1 := [.int 1]) (va_runV (As := [.int 5, .int (nI f0), .int 0, .null]) (rest := []) ⟨hx, hb, hml, hown, hts⟩ (k_book_n l dC dI cI cZ cF H.size cO e0 mi x sh lw ro bq bp dq dp lv sl sd ul su sl ea T mc9 fa FA own1 fe cl la nw1 md1 sp fm1 SA bs dn ft FT V VX VY tn rk wd tw pa pb wh of9 we (upd kd f0 6) st gb it (upd mn f0 4) (bxX f0 z1 z3 4 cx) (bxY f0 z2 z4 4 cy) 5 (nI f0) 0 Lp1 fp1 (hG1) (hM1) (hdT) (hT5) (by first | with_reducible assumption | omega) (fun q h1 h2 => by omega) (hft9)) (csV_101 hts rfl rfl ⟨Nat.le_of_ble_eq_true rfl, Nat.le_of_ble_eq_true rfl⟩) (zPVL (q0 := 0) (ci := 8) hPc hDc hK hXL hS hFc rfl rfl) rfl rfl hl.1 rfl (lv_room (Nat.le_of_ble_eq_true rfl)) dX10_square_181 ⟨show ((0 + 4) + (ft + 2)) ≤ ft + 6 by omega, show ((0 + (2 * 4 + 10)) + (4 * ft + 805)) ≤ 4 * ft + 830 by omega⟩) hS hFc hFc rfl (fun t H locs ht hB hk1 hS => ?_)
            obtain ⟨mc6, L6, f6, ea6, hB6, hP1, hD1⟩ := hB
            rw [ht] at hP1
            obtain ⟨hP, hD⟩ := znP (W2 := [(oc8 x (.ref sh) (.ref lw) (.ref ro) (.ref bq) (.ref bp) (.ref dq) (.ref dp) (.ref lv) (.ref sl) (nI (dn + 1)) sd ul 0), (oc10 sl mc6 (.ref ea6) (nI (dn + 1))), _, _, _, _, _, _, _, _, _, _, _, _, _, _, _]) hP hD hk1 hFc hP1 hD1 [0, 1, 12, 13] zl_122 zl_122 [0, 1, 12, 13] (by decide +kernel) rfl rfl rfl rfl rfl
            clear hk1 hPc hDc hFc hP1 hD1 ht
            obtain ⟨hP9, hD9⟩ := zq_part (cx := [_, _, _, _, _, _, _, _, _, _, _, _, _, _, _, _, _]) hP hD [0, 1, 2, 3, 4, 5, 6, 7, 8, 14, 15, 16, 9, 10, 11, 12, 13] rfl rfl
            refine W.widen (k := ft + 6) (n := 4 * ft + 830) (by omega) (by omega) ?_
            rw [hQ9]
            exact W.zret (ty := .boolean) (v := 1) hx hb hr (rfl) (fun t ht hW => ⟨⟨rfl, mc6, L6, f6, ea6, nt8, TX8, TY8, rt8, nw8, WX8, WY8, rw8, g08, g18, g28, g38, g48, g58, g68, g78, P7, Q7, (iI (mnI (X5 0).toInt X5 (nN (mn f0)))), (iI (mnI (Y5 0).toInt Y5 (nN (mn f0)))), (iI (mxI (X5 0).toInt X5 (nN (mn f0)))), (iI (mxI (Y5 0).toInt Y5 (nN (mn f0)))), (hB6), by rw [ht]; exact hP9, hD9⟩, hS.F ht⟩) hS.2.2 dX10_square_184
          · have c_5 : ¬ (pls 4 P7 Q7 ∧ ((∀ i, i < edg 4 (1 : Int32) → eFr 4 P7 Q7 (1 : Int32) i (i + 1)) ∧ (¬ (6 : Int32).toInt = 6 ∨ ∀ k, k < 4 → eRt 4 P7 Q7 k)) ∧ ∀ q, q < ft → (q ≠ f0 → lvF ft st tn q → (apB (mnI (mnI (X5 0).toInt X5 (nN (mn f0))) P7 4) (mnI (mnI (Y5 0).toInt Y5 (nN (mn f0))) Q7 4) (mxI (mxI (X5 0).toInt X5 (nN (mn f0))) P7 4) (mxI (mxI (Y5 0).toInt Y5 (nN (mn f0))) Q7 4) (nN (mn q)) (cF40 cx q) (cF40 cy q) ∨ (asb (nN (mn f0)) X5 Y5 (rgK (kd f0).toInt) 4 P7 Q7 (1 : Int32) (nN (mn q)) (cF40 cx q) (cF40 cy q) (rgK (kd q).toInt))))) := zp_0 c_5
            exfalso; exact absurd (hlS.mpr hlaw) (by first | with_reducible assumption | assumption)
        · have c_4 : ms.toInt < (((Int.natAbs (ar2 4 P7 Q7 4) : Nat) : Int) - ((Int.natAbs (ar2 (nN (mn f0)) X5 Y5 (nN (mn f0))) : Nat) : Int)) := zc_nle (iI_toInt (by omega)) rfl c_4
          exfalso; omega
      · have c_3 : ms.toInt < 0 := zc_nle rfl rfl c_3
        exfalso; omega
    · have c_2 : ¬ (kd f0).toInt = 5 := zc_ne rfl rfl c_2
      exfalso; omega
  · have c_1 : ¬ (st f0).toInt = 1 := zc_ne rfl rfl c_1
    exfalso; omega
end
section
set_option maxHeartbeats 4000000 in
set_option maxRecDepth 100000 in
theorem k_run_0 (l : Launch) (dC : Nat → ClassId) (dI : Nat → Nat → Nat) (cI cZ cF : ClassId) (sz : Nat) (cO : ClassId) (e0 : Nat) (mi : Nat) (x : Nat) (sh : Nat) (lw : Nat) (ro : Nat) (bq : Nat) (bp : Nat) (dq : Nat) (dp : Nat) (lv : Nat) (sl : Nat) (sd : Int32) (ul : Int32) (su : Int32) (ea : Nat) (mc9 : Int32) (fa : Nat) (FA : Nat → Option Nat) (bs : Nat) (dn : Nat) (T : Nat) (ft : Nat) (FT : Nat → Nat) (V : Nat → Nat → Nat → Int32) (VX : Nat → Nat → Int32) (VY : Nat → Nat → Int32) (tn : Nat → Int32) (rk : Nat → Int32) (wd : Nat → Int32) (tw : Nat → Int32) (pa : Nat → Int32) (pb : Nat → Int32) (wh : Nat → Int32) (of9 : Nat → Int32) (we : Nat → Int32) (kd : Nat → Int32) (st : Nat → Int32) (gb : Nat → Int32) (it : Nat → Int32) (mn : Nat → Int32) (cx : Nat → Int32) (cy : Nat → Int32) (L : List Nat) (f : Nat → va_E) (dr : Nat) (tg : Nat) (wy : Nat) (br : Nat) (bo : Nat) (aa : Nat) (tx : Nat) (ty : Nat) (nt : Nat) (TX : Nat → Int32) (TY : Nat → Int32) (rt : Int32) (wx : Nat) (wz : Nat) (nw : Nat) (WX : Nat → Int32) (WY : Nat → Int32) (rw : Int32) (dx : Nat) (dy : Nat) (nd : Nat) (cd : Nat) (P : Nat → Int32) (Q : Nat → Int32) (rd : Int32) (b1 : Int32) (b2 : Int32) (b3 : Int32) (b4 : Int32) (b5 : Int32) (b6 : Int32) (b7 : Int32) (b8 : Int32) (AR : Nat → Int32) (LM : Nat) (lim : Int32) (hB : shB cI cO L f e0 FA ea bs dn T ft FT V VX VY tn rk wd tw pa pb wh of9 we kd st gb it mn cx cy) (hok : okA ft st tn kd mn cx cy) (hL : lim.toInt = ((LM : Nat) : Int)) (hcd : 40 ≤ cd ∧ cd ≤ 1000) (hno : ∀ q, lvF ft st tn q → (1 ≤ (kd q).toInt ∧ (kd q).toInt ≤ 5) → plN ft st tn kd q LM 0 mn cx cy (nN (mn q)) mn cx cy (nN (mn q))) : zML l yX10_run cX10_run 7 (some .int) ({ frames := 7, cells := 0, slots := 0, locals := 182 } : Room) [.ref x, .int lim] (dC, dI) (zTyO cI cZ cF cO) e0 mi ([(oc8 x (.ref sh) (.ref lw) (.ref ro) (.ref bq) (.ref bp) (.ref dq) (.ref dp) (.ref lv) (.ref sl) (nI dn) sd ul su), (oc10 sl mc9 (.ref ea) (nI T)), (oc3 lw (.ref dr) (.ref tg) (.ref wy) (.ref br) (.ref bo) (.ref aa)), (oc6 tg (.ref tx) (.ref ty) (nI nt) rt), (oa tx cI 3 TX), (oa ty cI 3 TY), (oc6 wy (.ref wx) (.ref wz) (nI nw) rw), (oa wx cI 2 WX), (oa wz cI 2 WY), (oc6 dr (.ref dx) (.ref dy) (nI nd) rd), (oa dx cI cd P), (oa dy cI cd Q), (oc0 br b1 b2 b3 b4), (oc0 bo b5 b6 b7 b8), (oa aa cI 40 AR), (oc7 sh (.ref fa) (nI ft)), (oq fa cF 200 FA)] ++ va_pl L f) sz (some (.int (-1))) (fun A t => ∃ (nt1 : Nat), ∃ (TX1 : Nat → Int32), ∃ (TY1 : Nat → Int32), ∃ (rt1 : Int32), ∃ (nw1 : Nat), ∃ (WX1 : Nat → Int32), ∃ (WY1 : Nat → Int32), ∃ (rw1 : Int32), ∃ (nd1 : Nat), ∃ (P1 : Nat → Int32), ∃ (Q1 : Nat → Int32), ∃ (rd1 : Int32), ∃ (d5 : Int32), ∃ (d6 : Int32), ∃ (d7 : Int32), ∃ (d8 : Int32), ∃ (e5 : Int32), ∃ (e6 : Int32), ∃ (e7 : Int32), ∃ (e8 : Int32), ∃ (AR1 : Nat → Int32), zPD (dC, dI) classes A ([(oc8 x (.ref sh) (.ref lw) (.ref ro) (.ref bq) (.ref bp) (.ref dq) (.ref dp) (.ref lv) (.ref sl) (nI dn) sd ul 8), (oc10 sl mc9 (.ref ea) (nI T)), (oc3 lw (.ref dr) (.ref tg) (.ref wy) (.ref br) (.ref bo) (.ref aa)), (oc6 tg (.ref tx) (.ref ty) (nI nt1) rt1), (oa tx cI 3 TX1), (oa ty cI 3 TY1), (oc6 wy (.ref wx) (.ref wz) (nI nw1) rw1), (oa wx cI 2 WX1), (oa wz cI 2 WY1), (oc6 dr (.ref dx) (.ref dy) (nI nd1) rd1), (oa dx cI cd P1), (oa dy cI cd Q1), (oc0 br d5 d6 d7 d8), (oc0 bo e5 e6 e7 e8), (oa aa cI 40 AR1), (oc7 sh (.ref fa) (nI ft)), (oq fa cF 200 FA)] ++ va_pl L f) t.heap) 0 0 := by
  refine zInL (own := "ScaleShop") (loc := [(0, .ref x), (1, .int lim)]) rfl rfl rfl rfl (fun p e s m below meth c hx hb hr hts hown hlocks hml hnm9 A hA hS hP hD hK hXL hXN hK3 Q9 hQ9 ls hl => ?_)
  have hB9 := hB
  obtain ⟨own, fe, cl, la, sp, SA, hG9, hH9, hft9⟩ := hB
  obtain ⟨hG, hM, hdT, hT5⟩ := M_0 hG9 hH9 hft9
  have h200 : ft ≤ 200 := hG.2.2.2.2.2.1.2.2.2.2.2
  have hFA9 := hG.2.2.2.2.2.2
  refine lv_iload_n hx hb dX10_run_0 rfl (lv_at hl 1 rfl) ?_
  refine lv_if_ge (tgt := 10) hx hb dX10_run_1 rfl (fun c_1 => ?_) (fun c_1 => ?_)
  · have c_1 : 0 ≤ lim.toInt := zc_le rfl rfl c_1
    refine lv_iconst (v := 0) hx hb dX10_run_10 rfl ?_
    refine lv_istore_n (lv' := [(2, .int 0), (0, .ref x), (1, .int lim)]) hx hb dX10_run_11 rfl hl (Nat.le_of_ble_eq_true rfl) rfl (fun ls hl => ?_)
    refine lv_iconst (v := 0) hx hb dX10_run_12 rfl ?_
    refine lv_istore_n (lv' := [(3, .int 0), (2, .int 0), (0, .ref x), (1, .int lim)]) hx hb dX10_run_13 rfl hl (Nat.le_of_ble_eq_true rfl) rfl (fun ls hl => ?_)
    refine lv_iload_n hx hb dX10_run_14 rfl (lv_at hl 0 rfl) ?_
    refine lv_sipush (v := 8001) hx hb dX10_run_15 rfl ?_
    refine lv_icmp_ge (tgt := 106) hx hb dX10_run_18 rfl (fun c_2 => ?_) (fun c_2 => ?_)
    · exact absurd c_2 (by decide)
    · refine lv_iload_n hx hb dX10_run_21 rfl (lv_at hl 1 rfl) ?_
      refine lv_istore (lv' := [(4, .int 0), (3, .int 0), (2, .int 0), (0, .ref x), (1, .int lim)]) hx hb dX10_run_22 hl (Nat.le_of_ble_eq_true rfl) rfl (fun ls hl => ?_)
      refine lv_iconst (v := 0) hx hb dX10_run_24 rfl ?_
      refine lv_istore (lv' := [(5, .int 0), (4, .int 0), (3, .int 0), (2, .int 0), (0, .ref x), (1, .int lim)]) hx hb dX10_run_25 hl (Nat.le_of_ble_eq_true rfl) rfl (fun ls hl => ?_)
      have hl_27 : ∀ (n9 : Nat) (g5 : Nat) (nt1 : Nat) (TX1 : Nat → Int32) (TY1 : Nat → Int32) (rt1 : Int32) (nw1 : Nat) (WX1 : Nat → Int32) (WY1 : Nat → Int32) (rw1 : Int32) (nd1 : Nat) (P1 : Nat → Int32) (Q1 : Nat → Int32) (rd1 : Int32) (d5 : Int32) (d6 : Int32) (d7 : Int32) (d8 : Int32) (e5 : Int32) (e6 : Int32) (e7 : Int32) (e8 : Int32) (AR1 : Nat → Int32) (H : Heap) (locs : List Loc) (ls : Array Slot), ft - g5 < n9 → (g5 ≤ ft) → va_P (dC, dI) classes ([(oc8 x (.ref sh) (.ref lw) (.ref ro) (.ref bq) (.ref bp) (.ref dq) (.ref dp) (.ref lv) (.ref sl) (nI dn) sd ul su), (oc10 sl mc9 (.ref ea) (nI T)), (oc3 lw (.ref dr) (.ref tg) (.ref wy) (.ref br) (.ref bo) (.ref aa)), (oc6 tg (.ref tx) (.ref ty) (nI nt1) rt1), (oa tx cI 3 TX1), (oa ty cI 3 TY1), (oc6 wy (.ref wx) (.ref wz) (nI nw1) rw1), (oa wx cI 2 WX1), (oa wz cI 2 WY1), (oc6 dr (.ref dx) (.ref dy) (nI nd1) rd1), (oa dx cI cd P1), (oa dy cI cd Q1), (oc0 br d5 d6 d7 d8), (oc0 bo e5 e6 e7 e8), (oa aa cI 40 AR1), (oc7 sh (.ref fa) (nI ft)), (oq fa cF 200 FA)] ++ va_pl L f) H → va_D A ([(oc8 x (.ref sh) (.ref lw) (.ref ro) (.ref bq) (.ref bp) (.ref dq) (.ref dp) (.ref lv) (.ref sl) (nI dn) sd ul su), (oc10 sl mc9 (.ref ea) (nI T)), (oc3 lw (.ref dr) (.ref tg) (.ref wy) (.ref br) (.ref bo) (.ref aa)), (oc6 tg (.ref tx) (.ref ty) (nI nt1) rt1), (oa tx cI 3 TX1), (oa ty cI 3 TY1), (oc6 wy (.ref wx) (.ref wz) (nI nw1) rw1), (oa wx cI 2 WX1), (oa wz cI 2 WY1), (oc6 dr (.ref dx) (.ref dy) (nI nd1) rd1), (oa dx cI cd P1), (oa dy cI cd Q1), (oc0 br d5 d6 d7 d8), (oc0 bo e5 e6 e7 e8), (oa aa cI 40 AR1), (oc7 sh (.ref fa) (nI ft)), (oq fa cF 200 FA)] ++ va_pl L f) → va_S A s.heap H locs → lv_has ls 7 [(5, .int (nI g5)), (4, .int 0), (3, .int 0), (2, .int 0), (0, .ref x), (1, .int lim)] → W p l e ({ frames := 7, cells := 0, slots := 0, locals := 182 } : Room) s m ([.ref x, .int lim] : List Value).toArray below meth c H locs 0 0 Q9 (F0 m 27 ls []) := by
        intro n9
        induction n9 with
        | zero => intro g5 nt1 TX1 TY1 rt1 nw1 WX1 WY1 rw1 nd1 P1 Q1 rd1 d5 d6 d7 d8 e5 e6 e7 e8 AR1 H locs ls hm; exact absurd hm (Nat.not_lt_zero _)
        | succ n9 ih_27 =>
          intro g5 nt1 TX1 TY1 rt1 nw1 WX1 WY1 rw1 nd1 P1 Q1 rd1 d5 d6 d7 d8 e5 e6 e7 e8 AR1 H locs ls hm hg5 hP hD hS hl
          refine lv_iload hx hb dX10_run_27 (lv_at hl 0 rfl) ?_
          refine lv_aload_n hx hb dX10_run_29 rfl (lv_at hl 4 rfl) ?_
          refine va_get (D := (dC, dI)) (ci := 8) (v := .ref sh) (C := RX10) (T := TX10) (N := 13) hx hb hts inX10 hown hK hP 0 rfl rfl 0 (Nat.le_of_ble_eq_true rfl) (hts _ mw_309) (fun _ h9 => h9) rfl dX10_run_30 ?_
          refine va_get (D := (dC, dI)) (ci := 7) (v := .int (nI ft)) (C := RX8) (T := TX8) (N := 2) hx hb hts inX8 hown hK hP 15 rfl rfl 1 (Nat.le_of_ble_eq_true rfl) (hts _ mw_140) (fun _ h9 => h9) rfl dX10_run_33 ?_
          have b9_4 : zlt (g5) := show g5 < 2147483648 by omega
          have b9_5 : zlt (ft) := show ft < 2147483648 by omega
          refine lv_icmp_ge (tgt := 91) hx hb dX10_run_36 rfl (fun c_3 => ?_) (fun c_3 => ?_)
          · have c_3 : ((ft : Nat) : Int) ≤ ((g5 : Nat) : Int) := zc_le (nI_toInt b9_5) (nI_toInt b9_4) c_3
            refine lv_iload_n hx hb dX10_run_91 rfl (lv_at hl 3 rfl) ?_
            refine lv_iload hx hb dX10_run_92 (lv_at hl 1 rfl) ?_
            refine lv_icmp_ne (tgt := 100) hx hb dX10_run_94 rfl (fun c_6 => ?_) (fun c_6 => ?_)
            · exact absurd (by decide) c_6
            · refine lv_goto (tgt := 106) hx hb dX10_run_97 rfl ?_
              refine lv_iload_n hx hb dX10_run_106 rfl (lv_at hl 3 rfl) ?_
              refine lv_if_ne (tgt := 117) hx hb dX10_run_107 rfl (fun c_7 => ?_) (fun c_7 => ?_)
              · exact absurd (by decide) c_7
              · refine lv_aload_n hx hb dX10_run_110 rfl (lv_at hl 4 rfl) ?_
                refine lv_bipush (v := 8) hx hb dX10_run_111 rfl ?_
                obtain ⟨hPc, hDc, hFc⟩ := zo_sub (wc := [_]) hP hD hS hA [0] rfl rfl
                refine zcall (st1 := [.int (-1)]) (va_runV (As := [.int 8]) (rest := []) ⟨hx, hb, hml, hown, hts⟩ (k_refuse_8 l dC dI cI cZ cF H.size x sh lw ro bq bp dq dp lv sl sd ul su (nI dn) ) (csV_95 hts rfl rfl ⟨Nat.le_of_ble_eq_true rfl, Nat.le_of_ble_eq_true rfl⟩) (zPV2 (q0 := 0) (ci := 8) hPc hDc hK3 hXN rfl rfl) rfl rfl hl.1 rfl (lv_room (Nat.le_of_ble_eq_true rfl)) dX10_run_113 ⟨Nat.le_of_ble_eq_true rfl, Nat.le_of_ble_eq_true rfl⟩) hS hFc hFc rfl (fun t H locs ht hB hk1 hS => ?_)
                obtain ⟨hP1, hD1⟩ := hB
                rw [ht] at hP1
                obtain ⟨hP, hD⟩ := znQ (W2 := [(oc8 x (.ref sh) (.ref lw) (.ref ro) (.ref bq) (.ref bp) (.ref dq) (.ref dp) (.ref lv) (.ref sl) (nI dn) sd ul 8), _, _, _, _, _, _, _, _, _, _, _, _, _, _, _, _]) hP hD hk1 hFc hP1 hD1 [0] zl_123 zl_123 [0] (by decide +kernel) rfl rfl rfl rfl rfl
                clear hk1 hPc hDc hFc hP1 hD1 ht
                obtain ⟨hP9, hD9⟩ := zu_part (cx := [_, _, _, _, _, _, _, _, _, _, _, _, _, _, _, _, _]) hP hD [true, true, true, true, true, true, true, true, true, true, true, true, true, true, true, true, true] rfl rfl
                rw [hQ9]
                exact W.iret (v := (-1)) hx hb hr (fun t ht hW => ⟨⟨rfl, nt1, TX1, TY1, rt1, nw1, WX1, WY1, rw1, nd1, P1, Q1, rd1, d5, d6, d7, d8, e5, e6, e7, e8, AR1, by rw [ht]; exact hP9, hD9⟩, hS.F ht⟩) hS.2.2 dX10_run_116
          · have c_3 : ((g5 : Nat) : Int) < ((ft : Nat) : Int) := zc_nle (nI_toInt b9_5) (nI_toInt b9_4) c_3
            rcases run_c (shB_vw hB9) (show g5 < ft by omega) with ⟨ht2, hvt⟩ | ⟨ht2, hA2, hvl⟩ | ⟨hlv, hbd9⟩
            · skip
              obtain ⟨fe2, lk2, lo2, rk2, wd2, tw2, pa2, pb2, gb2, jt2, we2, fm2, hFA2, hfe2, hlk2⟩ := hvt
              have hc9_1 : inPl L f [(oc1 fe2 rk2 wd2 tw2 pa2 pb2 (.ref lo2) (.ref lk2) fm2), (oc4 lk2 (kd g5) (st g5) .null gb2 jt2 we2)] := ⟨hfe2, hlk2, trivial⟩
              have hD0_1 := hD
              obtain ⟨T_1, hT_1, hP, hD⟩ := pl_oT hP hD hc9_1 (pwF hfe2.2 hlk2.2)
              obtain ⟨hP, hD⟩ := zre (W2 := ([_, _, _, _, _, _, _, _, _, _, _, _, _, _, _, _, _, _, _] ++ va_pl T_1 f)) hP hD rfl
              refine lv_aload_n hx hb dX10_run_39 rfl (lv_at hl 4 rfl) ?_
              refine va_get (D := (dC, dI)) (ci := 8) (v := .ref sh) (C := RX10) (T := TX10) (N := 13) hx hb hts inX10 hown hK hP 0 rfl rfl 0 (Nat.le_of_ble_eq_true rfl) (hts _ mw_309) (fun _ h9 => h9) rfl dX10_run_40 ?_
              refine lv_iload hx hb dX10_run_43 (lv_at hl 0 rfl) ?_
              obtain ⟨hPc, hDc, hFc, hI1⟩ := zi_sub (wc := [_, _]) hP hD hS hA [15, 16] rfl rfl
              refine zcall (st1 := [.ref fe2]) (va_runV (As := [.int (nI g5)]) (rest := []) ⟨hx, hb, hml, hown, hts⟩ (k_Sheet_find l dC dI cI cZ cF H.size sh fa ft FA g5 fe2 (by first | with_reducible assumption | omega) (by first | with_reducible assumption | omega) (by first | exact hFA2 | exact hFA9 g5 (by first | with_reducible assumption | omega))) (csV_94 hts rfl rfl ⟨Nat.le_of_ble_eq_true rfl, Nat.le_of_ble_eq_true rfl⟩) (zPV2 (q0 := 0) (ci := 7) hPc hDc hK3 hXN rfl rfl) rfl rfl hl.1 rfl (lv_room (Nat.le_of_ble_eq_true rfl)) dX10_run_45 ⟨Nat.le_of_ble_eq_true rfl, Nat.le_of_ble_eq_true rfl⟩) hS hFc hFc rfl (fun t H locs ht hB hk1 hS => ?_)
              obtain ⟨hP1, hD1⟩ := hB
              rw [ht] at hP1
              replace hP := z0 hP hD hk1 hP1 hI1
              clear hk1 hPc hDc hFc hP1 hD1 ht hI1
              refine lv_astore (lv' := [(6, .ref fe2), (5, .int (nI g5)), (4, .int 0), (3, .int 0), (2, .int 0), (0, .ref x), (1, .int lim)]) hx hb dX10_run_48 hl (Nat.le_of_ble_eq_true rfl) rfl (fun ls hl => ?_)
              refine lv_aload hx hb dX10_run_50 (lv_at hl 0 rfl) ?_
              refine lv_ifnull hx hb dX10_run_52 ?_
              refine lv_aload hx hb dX10_run_55 (lv_at hl 0 rfl) ?_
              obtain ⟨hPc, hDc, hFc, hI1⟩ := zi_sub (wc := [_, _]) hP hD hS hA [17, 18] rfl rfl
              refine zcall (st1 := [.int (pI (1 ≤ (kd g5).toInt ∧ (kd g5).toInt ≤ 5))]) (va_runV (As := []) (rest := []) ⟨hx, hb, hml, hown, hts⟩ (k_Feature_bends_v l dC dI cI cZ cF H.size fe2 lo2 rk2 wd2 tw2 pa2 pb2 lk2 (kd g5) (st g5) gb2 jt2 we2 fm2 (.null) ) (csV_97 hts rfl rfl ⟨Nat.le_of_ble_eq_true rfl, Nat.le_of_ble_eq_true rfl⟩) (zPV2 (q0 := 0) (ci := 1) hPc hDc hK3 hXN rfl rfl) rfl rfl hl.1 rfl (lv_room (Nat.le_of_ble_eq_true rfl)) dX10_run_57 ⟨Nat.le_of_ble_eq_true rfl, Nat.le_of_ble_eq_true rfl⟩) hS hFc hFc rfl (fun t H locs ht hB hk1 hS => ?_)
              obtain ⟨hP1, hD1⟩ := hB
              rw [ht] at hP1
              replace hP := z0 hP hD hk1 hP1 hI1
              clear hk1 hPc hDc hFc hP1 hD1 ht hI1
              refine lv_if_eq (tgt := 85) hx hb dX10_run_60 rfl (fun c_8 => ?_) (fun c_8 => ?_)
              · have c_8 : ¬ (1 ≤ (kd g5).toInt ∧ (kd g5).toInt ≤ 5) := zp_0 c_8
                obtain ⟨hP, hD⟩ := pl_bk (X := [_, _, _, _, _, _, _, _, _, _, _, _, _, _, _, _, _]) hT_1 hP rfl hc9_1 hD0_1 rfl
                refine lv_iinc (v := nI (g5 + 1)) (lv' := [(5, .int (nI (g5 + 1))), (6, .ref fe2), (4, .int 0), (3, .int 0), (2, .int 0), (0, .ref x), (1, .int lim)]) hx hb dX10_run_85 hl (k := 1) rfl (nI_add g5 1) (Nat.le_of_ble_eq_true rfl) rfl (fun ls hl => ?_)
                refine lv_goto (tgt := 27) hx hb dX10_run_88 rfl ?_
                exact ih_27 (g5 + 1) nt1 TX1 TY1 rt1 nw1 WX1 WY1 rw1 nd1 P1 Q1 rd1 d5 d6 d7 d8 e5 e6 e7 e8 AR1 H locs ls (by first | with_reducible assumption | omega) (by first | with_reducible assumption | omega) hP hD hS (lv_sub hl [0, 2, 3, 4, 5, 6] rfl)
              · have c_8 : 1 ≤ (kd g5).toInt ∧ (kd g5).toInt ≤ 5 := zp_1 c_8
                refine lv_aload_n hx hb dX10_run_63 rfl (lv_at hl 5 rfl) ?_
                refine va_get (D := (dC, dI)) (ci := 8) (v := .ref sh) (C := RX10) (T := TX10) (N := 13) hx hb hts inX10 hown hK hP 0 rfl rfl 0 (Nat.le_of_ble_eq_true rfl) (hts _ mw_309) (fun _ h9 => h9) rfl dX10_run_64 ?_
                refine lv_iload hx hb dX10_run_67 (lv_at hl 1 rfl) ?_
                obtain ⟨hPc, hDc, hFc, hI1⟩ := zi_sub (wc := [_, _, _, _]) hP hD hS hA [15, 16, 17, 18] (by decide +kernel) rfl
                refine zcall (st1 := [.null]) (va_runV (As := [.int (nI g5)]) (rest := []) ⟨hx, hb, hml, hown, hts⟩ (k_Sheet_rowThere_tv l dC dI cI cZ cF H.size sh fa ft FA g5 fe2 lo2 rk2 wd2 tw2 pa2 pb2 lk2 (kd g5) (st g5) gb2 jt2 we2 fm2 (by first | with_reducible assumption | omega) (by first | with_reducible assumption | omega) (by first | exact hFA2 | exact hFA9 g5 (by first | with_reducible assumption | omega))) (csV_144 hts rfl rfl ⟨Nat.le_of_ble_eq_true rfl, Nat.le_of_ble_eq_true rfl⟩) (zPV2 (q0 := 0) (ci := 7) hPc hDc hK3 hXN rfl rfl) rfl rfl hl.1 rfl (lv_room (Nat.le_of_ble_eq_true rfl)) dX10_run_69 ⟨Nat.le_of_ble_eq_true rfl, Nat.le_of_ble_eq_true rfl⟩) hS hFc hFc rfl (fun t H locs ht hB hk1 hS => ?_)
                obtain ⟨hP1, hD1⟩ := hB
                rw [ht] at hP1
                replace hP := z0 hP hD hk1 hP1 hI1
                clear hk1 hPc hDc hFc hP1 hD1 ht hI1
                refine lv_ifnullN (tgt := 85) hx hb dX10_run_72 rfl ?_
                obtain ⟨hP, hD⟩ := pl_bk (X := [_, _, _, _, _, _, _, _, _, _, _, _, _, _, _, _, _]) hT_1 hP rfl hc9_1 hD0_1 rfl
                refine lv_iinc (v := nI (g5 + 1)) (lv' := [(5, .int (nI (g5 + 1))), (6, .ref fe2), (4, .int 0), (3, .int 0), (2, .int 0), (0, .ref x), (1, .int lim)]) hx hb dX10_run_85 hl (k := 1) rfl (nI_add g5 1) (Nat.le_of_ble_eq_true rfl) rfl (fun ls hl => ?_)
                refine lv_goto (tgt := 27) hx hb dX10_run_88 rfl ?_
                exact ih_27 (g5 + 1) nt1 TX1 TY1 rt1 nw1 WX1 WY1 rw1 nd1 P1 Q1 rd1 d5 d6 d7 d8 e5 e6 e7 e8 AR1 H locs ls (by first | with_reducible assumption | omega) (by first | with_reducible assumption | omega) hP hD hS (lv_sub hl [0, 2, 3, 4, 5, 6] rfl)
            · skip
              obtain ⟨fe2, lk2, lo2, rk2, wd2, tw2, pa2, pb2, gb2, jt2, we2, fm2, r2, rx2, ry2, cap2, U2, V2, rg2, hFA2, hfe2, hlk2, ⟨hr2, hrx2, hry2, hne2⟩, hrr2⟩ := hvl
              have hc9_1 : inPl L f [(oc1 fe2 rk2 wd2 tw2 pa2 pb2 (.ref lo2) (.ref lk2) fm2), (oc4 lk2 (kd g5) (st g5) (.ref r2) gb2 jt2 we2), (oc6 r2 (.ref rx2) (.ref ry2) (nI (nN (mn g5))) rg2), (oa rx2 cI cap2 U2), (oa ry2 cI cap2 V2)] := ⟨hfe2, hlk2, hr2, hrx2, hry2, trivial⟩
              have hD0_1 := hD
              obtain ⟨T_1, hT_1, hP, hD⟩ := pl_oT hP hD hc9_1 (pwR hfe2.2 hlk2.2 hr2.2 hrx2.2 hry2.2 hne2)
              obtain ⟨hP, hD⟩ := zre (W2 := ([_, _, _, _, _, _, _, _, _, _, _, _, _, _, _, _, _, _, _, _, _, _] ++ va_pl T_1 f)) hP hD rfl
              refine lv_aload_n hx hb dX10_run_39 rfl (lv_at hl 4 rfl) ?_
              refine va_get (D := (dC, dI)) (ci := 8) (v := .ref sh) (C := RX10) (T := TX10) (N := 13) hx hb hts inX10 hown hK hP 0 rfl rfl 0 (Nat.le_of_ble_eq_true rfl) (hts _ mw_309) (fun _ h9 => h9) rfl dX10_run_40 ?_
              refine lv_iload hx hb dX10_run_43 (lv_at hl 0 rfl) ?_
              obtain ⟨hPc, hDc, hFc, hI1⟩ := zi_sub (wc := [_, _]) hP hD hS hA [15, 16] rfl rfl
              refine zcall (st1 := [.ref fe2]) (va_runV (As := [.int (nI g5)]) (rest := []) ⟨hx, hb, hml, hown, hts⟩ (k_Sheet_find l dC dI cI cZ cF H.size sh fa ft FA g5 fe2 (by first | with_reducible assumption | omega) (by first | with_reducible assumption | omega) (by first | exact hFA2 | exact hFA9 g5 (by first | with_reducible assumption | omega))) (csV_94 hts rfl rfl ⟨Nat.le_of_ble_eq_true rfl, Nat.le_of_ble_eq_true rfl⟩) (zPV2 (q0 := 0) (ci := 7) hPc hDc hK3 hXN rfl rfl) rfl rfl hl.1 rfl (lv_room (Nat.le_of_ble_eq_true rfl)) dX10_run_45 ⟨Nat.le_of_ble_eq_true rfl, Nat.le_of_ble_eq_true rfl⟩) hS hFc hFc rfl (fun t H locs ht hB hk1 hS => ?_)
              obtain ⟨hP1, hD1⟩ := hB
              rw [ht] at hP1
              replace hP := z0 hP hD hk1 hP1 hI1
              clear hk1 hPc hDc hFc hP1 hD1 ht hI1
              refine lv_astore (lv' := [(6, .ref fe2), (5, .int (nI g5)), (4, .int 0), (3, .int 0), (2, .int 0), (0, .ref x), (1, .int lim)]) hx hb dX10_run_48 hl (Nat.le_of_ble_eq_true rfl) rfl (fun ls hl => ?_)
              refine lv_aload hx hb dX10_run_50 (lv_at hl 0 rfl) ?_
              refine lv_ifnull hx hb dX10_run_52 ?_
              refine lv_aload hx hb dX10_run_55 (lv_at hl 0 rfl) ?_
              obtain ⟨hPc, hDc, hFc, hI1⟩ := zi_sub (wc := [_, _]) hP hD hS hA [17, 18] rfl rfl
              refine zcall (st1 := [.int (pI (1 ≤ (kd g5).toInt ∧ (kd g5).toInt ≤ 5))]) (va_runV (As := []) (rest := []) ⟨hx, hb, hml, hown, hts⟩ (k_Feature_bends_v l dC dI cI cZ cF H.size fe2 lo2 rk2 wd2 tw2 pa2 pb2 lk2 (kd g5) (st g5) gb2 jt2 we2 fm2 (.ref r2) ) (csV_97 hts rfl rfl ⟨Nat.le_of_ble_eq_true rfl, Nat.le_of_ble_eq_true rfl⟩) (zPV2 (q0 := 0) (ci := 1) hPc hDc hK3 hXN rfl rfl) rfl rfl hl.1 rfl (lv_room (Nat.le_of_ble_eq_true rfl)) dX10_run_57 ⟨Nat.le_of_ble_eq_true rfl, Nat.le_of_ble_eq_true rfl⟩) hS hFc hFc rfl (fun t H locs ht hB hk1 hS => ?_)
              obtain ⟨hP1, hD1⟩ := hB
              rw [ht] at hP1
              replace hP := z0 hP hD hk1 hP1 hI1
              clear hk1 hPc hDc hFc hP1 hD1 ht hI1
              refine lv_if_eq (tgt := 85) hx hb dX10_run_60 rfl (fun c_9 => ?_) (fun c_9 => ?_)
              · have c_9 : ¬ (1 ≤ (kd g5).toInt ∧ (kd g5).toInt ≤ 5) := zp_0 c_9
                obtain ⟨hP, hD⟩ := pl_bk (X := [_, _, _, _, _, _, _, _, _, _, _, _, _, _, _, _, _]) hT_1 hP rfl hc9_1 hD0_1 rfl
                refine lv_iinc (v := nI (g5 + 1)) (lv' := [(5, .int (nI (g5 + 1))), (6, .ref fe2), (4, .int 0), (3, .int 0), (2, .int 0), (0, .ref x), (1, .int lim)]) hx hb dX10_run_85 hl (k := 1) rfl (nI_add g5 1) (Nat.le_of_ble_eq_true rfl) rfl (fun ls hl => ?_)
                refine lv_goto (tgt := 27) hx hb dX10_run_88 rfl ?_
                exact ih_27 (g5 + 1) nt1 TX1 TY1 rt1 nw1 WX1 WY1 rw1 nd1 P1 Q1 rd1 d5 d6 d7 d8 e5 e6 e7 e8 AR1 H locs ls (by first | with_reducible assumption | omega) (by first | with_reducible assumption | omega) hP hD hS (lv_sub hl [0, 2, 3, 4, 5, 6] rfl)
              · have c_9 : 1 ≤ (kd g5).toInt ∧ (kd g5).toInt ≤ 5 := zp_1 c_9
                refine lv_aload_n hx hb dX10_run_63 rfl (lv_at hl 5 rfl) ?_
                refine va_get (D := (dC, dI)) (ci := 8) (v := .ref sh) (C := RX10) (T := TX10) (N := 13) hx hb hts inX10 hown hK hP 0 rfl rfl 0 (Nat.le_of_ble_eq_true rfl) (hts _ mw_309) (fun _ h9 => h9) rfl dX10_run_64 ?_
                refine lv_iload hx hb dX10_run_67 (lv_at hl 1 rfl) ?_
                obtain ⟨hPc, hDc, hFc, hI1⟩ := zi_sub (wc := [_, _, _, _]) hP hD hS hA [15, 16, 17, 18] (by decide +kernel) rfl
                refine zcall (st1 := [.null]) (va_runV (As := [.int (nI g5)]) (rest := []) ⟨hx, hb, hml, hown, hts⟩ (k_Sheet_rowThere_sv l dC dI cI cZ cF H.size sh fa ft FA g5 fe2 lo2 rk2 wd2 tw2 pa2 pb2 lk2 (kd g5) (st g5) gb2 jt2 we2 fm2 (.ref r2) (by first | with_reducible assumption | omega) (by first | with_reducible assumption | omega) (by first | exact hFA2 | exact hFA9 g5 (by first | with_reducible assumption | omega)) (by first | exact hlv.2.1 | omega)) (csV_144 hts rfl rfl ⟨Nat.le_of_ble_eq_true rfl, Nat.le_of_ble_eq_true rfl⟩) (zPV2 (q0 := 0) (ci := 7) hPc hDc hK3 hXN rfl rfl) rfl rfl hl.1 rfl (lv_room (Nat.le_of_ble_eq_true rfl)) dX10_run_69 ⟨Nat.le_of_ble_eq_true rfl, Nat.le_of_ble_eq_true rfl⟩) hS hFc hFc rfl (fun t H locs ht hB hk1 hS => ?_)
                obtain ⟨hP1, hD1⟩ := hB
                rw [ht] at hP1
                replace hP := z0 hP hD hk1 hP1 hI1
                clear hk1 hPc hDc hFc hP1 hD1 ht hI1
                refine lv_ifnullN (tgt := 85) hx hb dX10_run_72 rfl ?_
                obtain ⟨hP, hD⟩ := pl_bk (X := [_, _, _, _, _, _, _, _, _, _, _, _, _, _, _, _, _]) hT_1 hP rfl hc9_1 hD0_1 rfl
                refine lv_iinc (v := nI (g5 + 1)) (lv' := [(5, .int (nI (g5 + 1))), (6, .ref fe2), (4, .int 0), (3, .int 0), (2, .int 0), (0, .ref x), (1, .int lim)]) hx hb dX10_run_85 hl (k := 1) rfl (nI_add g5 1) (Nat.le_of_ble_eq_true rfl) rfl (fun ls hl => ?_)
                refine lv_goto (tgt := 27) hx hb dX10_run_88 rfl ?_
                exact ih_27 (g5 + 1) nt1 TX1 TY1 rt1 nw1 WX1 WY1 rw1 nd1 P1 Q1 rd1 d5 d6 d7 d8 e5 e6 e7 e8 AR1 H locs ls (by first | with_reducible assumption | omega) (by first | with_reducible assumption | omega) hP hD hS (lv_sub hl [0, 2, 3, 4, 5, 6] rfl)
            · skip
              refine ex13 (sh_fc hG.1 hG.2.1 (Nat.le_refl _) (show g5 < ft by omega) hlv.2.2) (fun lo5 lx5 ly5 ln5 LX5 LY5 we5 r5 rx5 ry5 cap5 X5 Y5 hc5 => ?_)
              have hc5 := fc_0 hc5
              have hb5 := hc5.2.2.1
              have hI5 := okA_th hok hlv hbd9
              have hc9_1 : inPl L f [(oc1 (fe g5) (rk g5) (wd g5) (tw g5) (pa g5) (pb g5) (.ref lo5) (.ref (la dn g5)) .null), (oc4 (la dn g5) (kd g5) (st g5) (.ref r5) (gb g5) (it g5) (nI we5)), (oc6 r5 (.ref rx5) (.ref ry5) (nI (nN (mn g5))) (rgK (kd g5).toInt)), (oa rx5 cI cap5 X5), (oa ry5 cI cap5 Y5), (oc6 lo5 (.ref lx5) (.ref ly5) (nI ln5) 0), (oa lx5 cI (cl g5) LX5), (oa ly5 cI (cl g5) LY5)] := ⟨ce_pl hc5.1.1, ce_pl hc5.1.2.1, ce_pl hc5.1.2.2.1.1, ce_pl hc5.1.2.2.1.2.1, ce_pl hc5.1.2.2.1.2.2.1, ce_pl hc5.1.2.2.2.1, ce_pl hc5.1.2.2.2.2.1, ce_pl hc5.1.2.2.2.2.2.1, trivial⟩
              have hD0_1 := hD
              obtain ⟨T_1, hT_1, hP, hD⟩ := pl_oT hP hD hc9_1 (pw8 hc5 (by omega))
              obtain ⟨hP, hD⟩ := zre (W2 := ([_, _, _, _, _, _, _, _, _, _, _, _, _, _, _, _, _, _, _, _, _, _, _, _, _] ++ va_pl T_1 f)) hP hD rfl
              refine lv_aload_n hx hb dX10_run_39 rfl (lv_at hl 4 rfl) ?_
              refine va_get (D := (dC, dI)) (ci := 8) (v := .ref sh) (C := RX10) (T := TX10) (N := 13) hx hb hts inX10 hown hK hP 0 rfl rfl 0 (Nat.le_of_ble_eq_true rfl) (hts _ mw_309) (fun _ h9 => h9) rfl dX10_run_40 ?_
              refine lv_iload hx hb dX10_run_43 (lv_at hl 0 rfl) ?_
              obtain ⟨hPc, hDc, hFc, hI1⟩ := zi_sub (wc := [_, _]) hP hD hS hA [15, 16] rfl rfl
              refine zcall (st1 := [.ref (fe g5)]) (va_runV (As := [.int (nI g5)]) (rest := []) ⟨hx, hb, hml, hown, hts⟩ (k_Sheet_find l dC dI cI cZ cF H.size sh fa ft FA g5 (fe g5) (by first | with_reducible assumption | omega) (by first | with_reducible assumption | omega) (by first | exact hFA2 | exact hFA9 g5 (by first | with_reducible assumption | omega))) (csV_94 hts rfl rfl ⟨Nat.le_of_ble_eq_true rfl, Nat.le_of_ble_eq_true rfl⟩) (zPV2 (q0 := 0) (ci := 7) hPc hDc hK3 hXN rfl rfl) rfl rfl hl.1 rfl (lv_room (Nat.le_of_ble_eq_true rfl)) dX10_run_45 ⟨Nat.le_of_ble_eq_true rfl, Nat.le_of_ble_eq_true rfl⟩) hS hFc hFc rfl (fun t H locs ht hB hk1 hS => ?_)
              obtain ⟨hP1, hD1⟩ := hB
              rw [ht] at hP1
              replace hP := z0 hP hD hk1 hP1 hI1
              clear hk1 hPc hDc hFc hP1 hD1 ht hI1
              refine lv_astore (lv' := [(6, .ref (fe g5)), (5, .int (nI g5)), (4, .int 0), (3, .int 0), (2, .int 0), (0, .ref x), (1, .int lim)]) hx hb dX10_run_48 hl (Nat.le_of_ble_eq_true rfl) rfl (fun ls hl => ?_)
              refine lv_aload hx hb dX10_run_50 (lv_at hl 0 rfl) ?_
              refine lv_ifnull hx hb dX10_run_52 ?_
              refine lv_aload hx hb dX10_run_55 (lv_at hl 0 rfl) ?_
              obtain ⟨hPc, hDc, hFc, hI1⟩ := zi_sub (wc := [_, _]) hP hD hS hA [17, 18] rfl rfl
              refine zcall (st1 := [.int (pI (1 ≤ (kd g5).toInt ∧ (kd g5).toInt ≤ 5))]) (va_runV (As := []) (rest := []) ⟨hx, hb, hml, hown, hts⟩ (k_Feature_bends_r l dC dI cI cZ cF H.size (fe g5) lo5 (rk g5) (wd g5) (tw g5) (pa g5) (pb g5) (la dn g5) (kd g5) (st g5) (gb g5) (it g5) (nI we5) r5 ) (csV_97 hts rfl rfl ⟨Nat.le_of_ble_eq_true rfl, Nat.le_of_ble_eq_true rfl⟩) (zPV2 (q0 := 0) (ci := 1) hPc hDc hK3 hXN rfl rfl) rfl rfl hl.1 rfl (lv_room (Nat.le_of_ble_eq_true rfl)) dX10_run_57 ⟨Nat.le_of_ble_eq_true rfl, Nat.le_of_ble_eq_true rfl⟩) hS hFc hFc rfl (fun t H locs ht hB hk1 hS => ?_)
              obtain ⟨hP1, hD1⟩ := hB
              rw [ht] at hP1
              replace hP := z0 hP hD hk1 hP1 hI1
              clear hk1 hPc hDc hFc hP1 hD1 ht hI1
              refine lv_if_eq (tgt := 85) hx hb dX10_run_60 rfl (fun c_10 => ?_) (fun c_10 => ?_)
              · have c_10 : ¬ (1 ≤ (kd g5).toInt ∧ (kd g5).toInt ≤ 5) := zp_0 c_10
                obtain ⟨hP, hD⟩ := pl_bk (X := [_, _, _, _, _, _, _, _, _, _, _, _, _, _, _, _, _]) hT_1 hP rfl hc9_1 hD0_1 rfl
                refine lv_iinc (v := nI (g5 + 1)) (lv' := [(5, .int (nI (g5 + 1))), (6, .ref (fe g5)), (4, .int 0), (3, .int 0), (2, .int 0), (0, .ref x), (1, .int lim)]) hx hb dX10_run_85 hl (k := 1) rfl (nI_add g5 1) (Nat.le_of_ble_eq_true rfl) rfl (fun ls hl => ?_)
                refine lv_goto (tgt := 27) hx hb dX10_run_88 rfl ?_
                exact ih_27 (g5 + 1) nt1 TX1 TY1 rt1 nw1 WX1 WY1 rw1 nd1 P1 Q1 rd1 d5 d6 d7 d8 e5 e6 e7 e8 AR1 H locs ls (by first | with_reducible assumption | omega) (by first | with_reducible assumption | omega) hP hD hS (lv_sub hl [0, 2, 3, 4, 5, 6] rfl)
              · have c_10 : 1 ≤ (kd g5).toInt ∧ (kd g5).toInt ≤ 5 := zp_1 c_10
                refine lv_aload_n hx hb dX10_run_63 rfl (lv_at hl 5 rfl) ?_
                refine va_get (D := (dC, dI)) (ci := 8) (v := .ref sh) (C := RX10) (T := TX10) (N := 13) hx hb hts inX10 hown hK hP 0 rfl rfl 0 (Nat.le_of_ble_eq_true rfl) (hts _ mw_309) (fun _ h9 => h9) rfl dX10_run_64 ?_
                refine lv_iload hx hb dX10_run_67 (lv_at hl 1 rfl) ?_
                obtain ⟨hPc, hDc, hFc, hI1⟩ := zi_sub (wc := [_, _, _, _]) hP hD hS hA [15, 16, 17, 18] (by decide +kernel) rfl
                refine zcall (st1 := [.ref r5]) (va_runV (As := [.int (nI g5)]) (rest := []) ⟨hx, hb, hml, hown, hts⟩ (k_Sheet_rowThere_yv l dC dI cI cZ cF H.size sh fa ft FA g5 (fe g5) lo5 (rk g5) (wd g5) (tw g5) (pa g5) (pb g5) (la dn g5) (kd g5) (st g5) (gb g5) (it g5) (nI we5) r5 (.null) (by first | with_reducible assumption | omega) (by first | with_reducible assumption | omega) (by first | exact hFA2 | exact hFA9 g5 (by first | with_reducible assumption | omega)) (by first | exact hlv.2.1 | omega)) (csV_144 hts rfl rfl ⟨Nat.le_of_ble_eq_true rfl, Nat.le_of_ble_eq_true rfl⟩) (zPV2 (q0 := 0) (ci := 7) hPc hDc hK3 hXN rfl rfl) rfl rfl hl.1 rfl (lv_room (Nat.le_of_ble_eq_true rfl)) dX10_run_69 ⟨Nat.le_of_ble_eq_true rfl, Nat.le_of_ble_eq_true rfl⟩) hS hFc hFc rfl (fun t H locs ht hB hk1 hS => ?_)
                obtain ⟨hP1, hD1⟩ := hB
                rw [ht] at hP1
                replace hP := z0 hP hD hk1 hP1 hI1
                clear hk1 hPc hDc hFc hP1 hD1 ht hI1
                refine lv_ifnull hx hb dX10_run_72 ?_
                refine lv_iload_n hx hb dX10_run_75 rfl (lv_at hl 4 rfl) ?_
                refine lv_aload_n hx hb dX10_run_76 rfl (lv_at hl 5 rfl) ?_
                refine lv_aload hx hb dX10_run_77 (lv_at hl 0 rfl) ?_
                refine lv_iload_n hx hb dX10_run_79 rfl (lv_at hl 6 rfl) ?_
                obtain ⟨hPc, hDc, hFc⟩ := zo_part (cx := [_, _, _, _, _, _, _, _, _, _, _, _, _, _, _, _, _, _, _, _, _]) hP hD hS hA [0, 2, 3, 4, 5, 6, 7, 8, 9, 10, 11, 12, 13, 14, 15, 16, 17, 18, 19, 20, 21] (by decide +kernel) rfl
                refine zcall (st1 := [.int 0, .int 0]) (va_runV (As := [.ref (fe g5), .int lim]) (rest := [.int 0]) ⟨hx, hb, hml, hown, hts⟩ (k_thin_z l dC dI cI cZ cF H.size x ro bq bp dq dp lv sl (nI dn) sd ul su lw dr tg wy br bo aa tx ty nt1 TX1 TY1 rt1 wx wz nw1 WX1 WY1 rw1 dx dy nd1 cd P1 Q1 rd1 d5 d6 d7 d8 e5 e6 e7 e8 AR1 sh fa ft FA (fe g5) lo5 (rk g5) (wd g5) (tw g5) (pa g5) (pb g5) (la dn g5) (gb g5) (it g5) r5 rx5 ry5 (nN (mn g5)) cap5 X5 Y5 g5 we5 LM 0 (nN (mn g5)) T_1 f kd st tn mn cx cy mn cx cy lim (.null) (by first | with_reducible assumption | omega) (by first | with_reducible assumption | omega) (hFA9 g5 (by first | with_reducible assumption | omega)) (by rw [← hT_1]; exact fc_vw hc5 (by first | with_reducible assumption | omega) (by first | with_reducible assumption | omega) hG.1 hG.2.1 hFA9 (Nat.le_refl _)) (hI5) (hno g5 hlv hbd9) (hL) (hc5.2.2.2.2.1) (by first | with_reducible assumption | omega) (by first | with_reducible assumption | omega) (rfl)) (csV_108 hts rfl rfl ⟨Nat.le_of_ble_eq_true rfl, Nat.le_of_ble_eq_true rfl⟩) (zPV2 (q0 := 0) (ci := 8) hPc hDc hK3 hXN rfl rfl) rfl rfl hl.1 rfl (lv_room (Nat.le_of_ble_eq_true rfl)) dX10_run_80 ⟨Nat.le_of_ble_eq_true rfl, Nat.le_of_ble_eq_true rfl⟩) hS hFc hFc rfl (fun t H locs ht hB hk1 hS => ?_)
                refine ex21 hB (fun nt6 TX6 TY6 rt6 nw6 WX6 WY6 rw6 nd6 P6 Q6 rd6 g06 g16 g26 g36 g46 g56 g66 g76 AR6 hB0 => ?_)
                clear hB
                obtain ⟨hP1, hD1⟩ := hB0
                rw [ht] at hP1
                obtain ⟨hP, hD⟩ := znP (W2 := [_, _, _, (oc6 tg (.ref tx) (.ref ty) (nI nt6) rt6), (oa tx cI 3 TX6), (oa ty cI 3 TY6), (oc6 wy (.ref wx) (.ref wz) (nI nw6) rw6), (oa wx cI 2 WX6), (oa wz cI 2 WY6), (oc6 dr (.ref dx) (.ref dy) (nI nd6) rd6), (oa dx cI cd P6), (oa dy cI cd Q6), (oc0 br g06 g16 g26 g36), (oc0 bo g46 g56 g66 g76), (oa aa cI 40 AR6), _, _, _, _, _, _, _, _, _, _]) hP hD hk1 hFc hP1 hD1 zl_66 zl_67 zl_67 zl_66 (by decide +kernel) rfl rfl rfl rfl rfl
                clear hk1 hPc hDc hFc hP1 hD1 ht
                refine lv_iadd hx hb dX10_run_83 ?_
                refine zz_i (v := 0) (by decide) ?_
                refine lv_istore_n (lv' := [(2, .int 0), (6, .ref (fe g5)), (5, .int (nI g5)), (4, .int 0), (3, .int 0), (0, .ref x), (1, .int lim)]) hx hb dX10_run_84 rfl hl (Nat.le_of_ble_eq_true rfl) rfl (fun ls hl => ?_)
                obtain ⟨hP, hD⟩ := pl_bk (X := [_, _, _, _, _, _, _, _, _, _, _, _, _, _, _, _, _]) hT_1 hP rfl hc9_1 hD0_1 rfl
                refine lv_iinc (v := nI (g5 + 1)) (lv' := [(5, .int (nI (g5 + 1))), (2, .int 0), (6, .ref (fe g5)), (4, .int 0), (3, .int 0), (0, .ref x), (1, .int lim)]) hx hb dX10_run_85 hl (k := 2) rfl (nI_add g5 1) (Nat.le_of_ble_eq_true rfl) rfl (fun ls hl => ?_)
                refine lv_goto (tgt := 27) hx hb dX10_run_88 rfl ?_
                exact ih_27 (g5 + 1) nt6 TX6 TY6 rt6 nw6 WX6 WY6 rw6 nd6 P6 Q6 rd6 g06 g16 g26 g36 g46 g56 g66 g76 AR6 H locs ls (by first | with_reducible assumption | omega) (by first | with_reducible assumption | omega) hP hD hS (lv_sub hl [0, 3, 4, 1, 5, 6] rfl)
      exact hl_27 _ 0 nt TX TY rt nw WX WY rw nd P Q rd b1 b2 b3 b4 b5 b6 b7 b8 AR s.heap [] ls (Nat.lt_succ_self _) (by first | with_reducible assumption | omega) hP hD hS (lv_sub hl [0, 1, 2, 3, 4, 5] rfl)
  · have c_1 : lim.toInt < 0 := zc_nle rfl rfl c_1
    exfalso; omega
end
section
set_option maxHeartbeats 4000000 in
set_option maxRecDepth 100000 in
theorem k_run_y (l : Launch) (dC : Nat → ClassId) (dI : Nat → Nat → Nat) (cI cZ cF : ClassId) (sz : Nat) (cO : ClassId) (e0 : Nat) (mi : Nat) (x : Nat) (sh : Nat) (lw : Nat) (ro : Nat) (bq : Nat) (bp : Nat) (dq : Nat) (dp : Nat) (lv : Nat) (sl : Nat) (sd : Int32) (ul : Int32) (su : Int32) (ea : Nat) (mc9 : Int32) (fa : Nat) (FA : Nat → Option Nat) (bs : Nat) (dn : Nat) (T : Nat) (ft : Nat) (FT : Nat → Nat) (V : Nat → Nat → Nat → Int32) (VX : Nat → Nat → Int32) (VY : Nat → Nat → Int32) (tn : Nat → Int32) (rk : Nat → Int32) (wd : Nat → Int32) (tw : Nat → Int32) (pa : Nat → Int32) (pb : Nat → Int32) (wh : Nat → Int32) (of9 : Nat → Int32) (we : Nat → Int32) (kd : Nat → Int32) (st : Nat → Int32) (gb : Nat → Int32) (it : Nat → Int32) (mn : Nat → Int32) (cx : Nat → Int32) (cy : Nat → Int32) (L : List Nat) (f : Nat → va_E) (dr : Nat) (tg : Nat) (wy : Nat) (br : Nat) (bo : Nat) (aa : Nat) (tx : Nat) (ty : Nat) (nt : Nat) (TX : Nat → Int32) (TY : Nat → Int32) (rt : Int32) (wx : Nat) (wz : Nat) (nw : Nat) (WX : Nat → Int32) (WY : Nat → Int32) (rw : Int32) (dx : Nat) (dy : Nat) (nd : Nat) (cd : Nat) (P : Nat → Int32) (Q : Nat → Int32) (rd : Int32) (b1 : Int32) (b2 : Int32) (b3 : Int32) (b4 : Int32) (b5 : Int32) (b6 : Int32) (b7 : Int32) (b8 : Int32) (AR : Nat → Int32) (LM : Nat) (TT : Nat) (P9 : Nat) (mn1 : Nat → Int32) (cx1 : Nat → Int32) (cy1 : Nat → Int32) (lim : Int32) (hB : shB cI cO L f e0 FA ea bs dn T ft FT V VX VY tn rk wd tw pa pb wh of9 we kd st gb it mn cx cy) (hd5 : dn + 1 ≤ 512) (hok : okA ft st tn kd mn cx cy) (hL : lim.toInt = ((LM : Nat) : Int)) (hcd : 40 ≤ cd ∧ cd ≤ 1000) (hkr : ∀ q, q < ft → 0 ≤ (kd q).toInt ∧ (kd q).toInt ≤ 6) (hrun : rnA ft st tn kd LM P9 mn cx cy TT mn1 cx1 cy1) (hT1 : 1 ≤ TT ∧ TT ≤ 8000) : zML l yX10_run cX10_run 7 (some .int) ({ frames := 8, cells := 5 * ft + 2, slots := smd (fun _ => 1) (fun q => nN (mn q)) ft + 4 * ft + 805, locals := 182 } : Room) [.ref x, .int lim] (dC, dI) (zTyO cI cZ cF cO) e0 mi ([(oc8 x (.ref sh) (.ref lw) (.ref ro) (.ref bq) (.ref bp) (.ref dq) (.ref dp) (.ref lv) (.ref sl) (nI dn) sd ul su), (oc10 sl mc9 (.ref ea) (nI T)), (oc3 lw (.ref dr) (.ref tg) (.ref wy) (.ref br) (.ref bo) (.ref aa)), (oc6 tg (.ref tx) (.ref ty) (nI nt) rt), (oa tx cI 3 TX), (oa ty cI 3 TY), (oc6 wy (.ref wx) (.ref wz) (nI nw) rw), (oa wx cI 2 WX), (oa wz cI 2 WY), (oc6 dr (.ref dx) (.ref dy) (nI nd) rd), (oa dx cI cd P), (oa dy cI cd Q), (oc0 br b1 b2 b3 b4), (oc0 bo b5 b6 b7 b8), (oa aa cI 40 AR), (oc7 sh (.ref fa) (nI ft)), (oq fa cF 200 FA)] ++ va_pl L f) sz (some (.int (nI TT))) (fun A t => ∃ (mc1 : Int32), ∃ (L1 : List Nat), ∃ (f1 : Nat → va_E), ∃ (ea1 : Nat), ∃ (nt1 : Nat), ∃ (TX1 : Nat → Int32), ∃ (TY1 : Nat → Int32), ∃ (rt1 : Int32), ∃ (nw1 : Nat), ∃ (WX1 : Nat → Int32), ∃ (WY1 : Nat → Int32), ∃ (rw1 : Int32), ∃ (nd1 : Nat), ∃ (P1 : Nat → Int32), ∃ (Q1 : Nat → Int32), ∃ (rd1 : Int32), ∃ (d5 : Int32), ∃ (d6 : Int32), ∃ (d7 : Int32), ∃ (d8 : Int32), ∃ (e5 : Int32), ∃ (e6 : Int32), ∃ (e7 : Int32), ∃ (e8 : Int32), ∃ (AR1 : Nat → Int32), (shB cI cO L1 f1 e0 FA ea1 bs (dn + 1) (dn + 1) ft (upN FT (dn + 1) ft) (upN V (dn + 1) (vC kd st gb it mn1)) (upN VX (dn + 1) cx1) (upN VY (dn + 1) cy1) tn rk wd tw pa pb (upd wh (dn + 1) (10 : Int32)) (upd of9 (dn + 1) (-1 : Int32)) (upd we (dn + 1) (nI TT)) kd st gb it mn1 cx1 cy1) ∧ zPD (dC, dI) classes A ([(oc8 x (.ref sh) (.ref lw) (.ref ro) (.ref bq) (.ref bp) (.ref dq) (.ref dp) (.ref lv) (.ref sl) (nI (dn + 1)) sd ul 0), (oc10 sl mc1 (.ref ea1) (nI (dn + 1))), (oc3 lw (.ref dr) (.ref tg) (.ref wy) (.ref br) (.ref bo) (.ref aa)), (oc6 tg (.ref tx) (.ref ty) (nI nt1) rt1), (oa tx cI 3 TX1), (oa ty cI 3 TY1), (oc6 wy (.ref wx) (.ref wz) (nI nw1) rw1), (oa wx cI 2 WX1), (oa wz cI 2 WY1), (oc6 dr (.ref dx) (.ref dy) (nI nd1) rd1), (oa dx cI cd P1), (oa dy cI cd Q1), (oc0 br d5 d6 d7 d8), (oc0 bo e5 e6 e7 e8), (oa aa cI 40 AR1), (oc7 sh (.ref fa) (nI ft)), (oq fa cF 200 FA)] ++ va_pl L1 f1) t.heap) (5 * ft + 2) (smd (fun _ => 1) (fun q => nN (mn q)) ft + 4 * ft + 805) := by
  refine zInL (own := "ScaleShop") (loc := [(0, .ref x), (1, .int lim)]) rfl rfl rfl rfl (fun p e s m below meth c hx hb hr hts hown hlocks hml hnm9 A hA hS hP hD hK hXL hXN hK3 Q9 hQ9 ls hl => ?_)
  obtain ⟨own, fe, cl, la, sp, SA, hG9, hH9, hft9⟩ := hB
  obtain ⟨hG, hM, hdT, hT5⟩ := M_0 hG9 hH9 hft9
  have h200 : ft ≤ 200 := hG.2.2.2.2.2.1.2.2.2.2.2
  have hFA9 := hG.2.2.2.2.2.2
  have hcm0 : ∀ k, cmd (fun _ => 0) k = 0 := (by intro k; induction k with | zero => rfl | succ k ih => exact ih)
  have hsm0 : ∀ k, smd (fun _ => 0) (fun q => nN (mn q)) k = 0 := (by intro k; induction k with | zero => rfl | succ k ih => exact ih)
  have hc00 := hcm0 ft
  have hs00 := hsm0 ft
  refine lv_iload_n hx hb dX10_run_0 rfl (lv_at hl 1 rfl) ?_
  refine lv_if_ge (tgt := 10) hx hb dX10_run_1 rfl (fun c_1 => ?_) (fun c_1 => ?_)
  · have c_1 : 0 ≤ lim.toInt := zc_le rfl rfl c_1
    refine lv_iconst (v := 0) hx hb dX10_run_10 rfl ?_
    refine lv_istore_n (lv' := [(2, .int 0), (0, .ref x), (1, .int lim)]) hx hb dX10_run_11 rfl hl (Nat.le_of_ble_eq_true rfl) rfl (fun ls hl => ?_)
    refine lv_iconst (v := 0) hx hb dX10_run_12 rfl ?_
    refine lv_istore_n (lv' := [(3, .int 0), (2, .int 0), (0, .ref x), (1, .int lim)]) hx hb dX10_run_13 rfl hl (Nat.le_of_ble_eq_true rfl) rfl (fun ls hl => ?_)
    have hl_14 : ∀ (n9 : Nat) (ps5 : Nat) (tc5 : Nat) (pr5 : Nat) (L5 : List Nat) (f5 : Nat → va_E) (own5 : Nat → Nat) (nw5 : Nat → Nat) (md5 : Nat → Nat) (fm5 : Nat → Value) (mnj : Nat → Int32) (cxj : Nat → Int32) (cyj : Nat → Int32) (nt1 : Nat) (TX1 : Nat → Int32) (TY1 : Nat → Int32) (rt1 : Int32) (nw1 : Nat) (WX1 : Nat → Int32) (WY1 : Nat → Int32) (rw1 : Int32) (nd1 : Nat) (P1 : Nat → Int32) (Q1 : Nat → Int32) (rd1 : Int32) (d5 : Int32) (d6 : Int32) (d7 : Int32) (d8 : Int32) (e5 : Int32) (e6 : Int32) (e7 : Int32) (e8 : Int32) (AR1 : Nat → Int32) (H : Heap) (locs : List Loc) (ls : Array Slot), TT - tc5 < n9 → (ps5 ≤ tc5) → ((shG cI cO L5 f5 e0 FA ea T own5 fe cl la nw5 md5 sp fm5 SA bs dn dn ft ft FT V VX VY tn rk wd tw pa pb wh of9 we kd st gb it mnj cxj cyj) ∧ (mdA dn ft FT la nw5 md5 fm5 V kd st gb it) ∧ (∀ q, md5 q ≤ 1) ∧ okA ft st tn kd mnj cxj cyj ∧ (∀ q, md5 q = 0 → mnj q = mn q)) → (rnM ft st tn kd LM TT mn1 cx1 cy1 1 pr5 tc5 mnj cxj cyj) → va_P (dC, dI) classes ([(oc8 x (.ref sh) (.ref lw) (.ref ro) (.ref bq) (.ref bp) (.ref dq) (.ref dp) (.ref lv) (.ref sl) (nI dn) sd ul su), (oc10 sl mc9 (.ref ea) (nI T)), (oc3 lw (.ref dr) (.ref tg) (.ref wy) (.ref br) (.ref bo) (.ref aa)), (oc6 tg (.ref tx) (.ref ty) (nI nt1) rt1), (oa tx cI 3 TX1), (oa ty cI 3 TY1), (oc6 wy (.ref wx) (.ref wz) (nI nw1) rw1), (oa wx cI 2 WX1), (oa wz cI 2 WY1), (oc6 dr (.ref dx) (.ref dy) (nI nd1) rd1), (oa dx cI cd P1), (oa dy cI cd Q1), (oc0 br d5 d6 d7 d8), (oc0 bo e5 e6 e7 e8), (oa aa cI 40 AR1), (oc7 sh (.ref fa) (nI ft)), (oq fa cF 200 FA)] ++ va_pl L5 f5) H → va_D A ([(oc8 x (.ref sh) (.ref lw) (.ref ro) (.ref bq) (.ref bp) (.ref dq) (.ref dp) (.ref lv) (.ref sl) (nI dn) sd ul su), (oc10 sl mc9 (.ref ea) (nI T)), (oc3 lw (.ref dr) (.ref tg) (.ref wy) (.ref br) (.ref bo) (.ref aa)), (oc6 tg (.ref tx) (.ref ty) (nI nt1) rt1), (oa tx cI 3 TX1), (oa ty cI 3 TY1), (oc6 wy (.ref wx) (.ref wz) (nI nw1) rw1), (oa wx cI 2 WX1), (oa wz cI 2 WY1), (oc6 dr (.ref dx) (.ref dy) (nI nd1) rd1), (oa dx cI cd P1), (oa dy cI cd Q1), (oc0 br d5 d6 d7 d8), (oc0 bo e5 e6 e7 e8), (oa aa cI 40 AR1), (oc7 sh (.ref fa) (nI ft)), (oq fa cF 200 FA)] ++ va_pl L5 f5) → va_S A s.heap H locs → lv_has ls 7 [(3, .int (nI ps5)), (2, .int (nI tc5)), (0, .ref x), (1, .int lim)] → W p l e ({ frames := 8, cells := 5 * ft + 2, slots := smd (fun _ => 1) (fun q => nN (mn q)) ft + 4 * ft + 805, locals := 182 } : Room) s m ([.ref x, .int lim] : List Value).toArray below meth c H locs (4 * cmd md5 ft) (smd md5 (fun q => nN (mn q)) ft) Q9 (F0 m 14 ls []) := by
      intro n9
      induction n9 with
      | zero => intro ps5 tc5 pr5 L5 f5 own5 nw5 md5 fm5 mnj cxj cyj nt1 TX1 TY1 rt1 nw1 WX1 WY1 rw1 nd1 P1 Q1 rd1 d5 d6 d7 d8 e5 e6 e7 e8 AR1 H locs ls hm; exact absurd hm (Nat.not_lt_zero _)
      | succ n9 ih_14 =>
        intro ps5 tc5 pr5 L5 f5 own5 nw5 md5 fm5 mnj cxj cyj nt1 TX1 TY1 rt1 nw1 WX1 WY1 rw1 nd1 P1 Q1 rd1 d5 d6 d7 d8 e5 e6 e7 e8 AR1 H locs ls hm hps hJ5 hrm5 hP hD hS hl
        have hle5 := rnM_le hrm5
        have hcl5 := cmd_le md5 ft
        have hsl5 := smd_le md5 (fun q => nN (mn q)) ft
        refine lv_iload_n hx hb dX10_run_14 rfl (lv_at hl 0 rfl) ?_
        refine lv_sipush (v := 8001) hx hb dX10_run_15 rfl ?_
        have b9_3 : zlt (ps5) := show ps5 < 2147483648 by omega
        refine lv_icmp_ge (tgt := 106) hx hb dX10_run_18 rfl (fun c_2 => ?_) (fun c_2 => ?_)
        · have c_2 : 8001 ≤ ((ps5 : Nat) : Int) := zc_le rfl (nI_toInt b9_3) c_2
          exfalso; omega
        · have c_2 : ((ps5 : Nat) : Int) < 8001 := zc_nle rfl (nI_toInt b9_3) c_2
          obtain ⟨p5, tp5, mn2, cx2, cy2, hpp5, hrP0, hz05, hz15, htp5⟩ := rnM_s hrm5 (by decide)
          refine lv_iload_n hx hb dX10_run_21 rfl (lv_at hl 1 rfl) ?_
          refine lv_istore (lv' := [(4, .int (nI tc5)), (3, .int (nI ps5)), (2, .int (nI tc5)), (0, .ref x), (1, .int lim)]) hx hb dX10_run_22 hl (Nat.le_of_ble_eq_true rfl) rfl (fun ls hl => ?_)
          refine lv_iconst (v := 0) hx hb dX10_run_24 rfl ?_
          refine lv_istore (lv' := [(5, .int 0), (4, .int (nI tc5)), (3, .int (nI ps5)), (2, .int (nI tc5)), (0, .ref x), (1, .int lim)]) hx hb dX10_run_25 hl (Nat.le_of_ble_eq_true rfl) rfl (fun ls hl => ?_)
          have hl_27 : ∀ (n9 : Nat) (g5 : Nat) (tc6 : Nat) (tr6 : Nat) (L6 : List Nat) (f6 : Nat → va_E) (own6 : Nat → Nat) (nw6 : Nat → Nat) (md6 : Nat → Nat) (fm6 : Nat → Value) (mnk : Nat → Int32) (cxk : Nat → Int32) (cyk : Nat → Int32) (nt19 : Nat) (TX19 : Nat → Int32) (TY19 : Nat → Int32) (rt19 : Int32) (nw19 : Nat) (WX19 : Nat → Int32) (WY19 : Nat → Int32) (rw19 : Int32) (nd19 : Nat) (P19 : Nat → Int32) (Q19 : Nat → Int32) (rd19 : Int32) (d59 : Int32) (d69 : Int32) (d79 : Int32) (d89 : Int32) (e59 : Int32) (e69 : Int32) (e79 : Int32) (e89 : Int32) (AR19 : Nat → Int32) (H : Heap) (locs : List Loc) (ls : Array Slot), ft - g5 < n9 → (g5 ≤ ft) → ((shG cI cO L6 f6 e0 FA ea T own6 fe cl la nw6 md6 sp fm6 SA bs dn dn ft ft FT V VX VY tn rk wd tw pa pb wh of9 we kd st gb it mnk cxk cyk) ∧ (mdA dn ft FT la nw6 md6 fm6 V kd st gb it) ∧ (∀ q, md6 q ≤ 1) ∧ okA ft st tn kd mnk cxk cyk ∧ (∀ q, md6 q = 0 → mnk q = mn q)) → (rnP ft st tn kd LM (ft - g5) mnk cxk cyk tr6 mn2 cx2 cy2) → (tc6 + tr6 = tc5 + tp5) → va_P (dC, dI) classes ([(oc8 x (.ref sh) (.ref lw) (.ref ro) (.ref bq) (.ref bp) (.ref dq) (.ref dp) (.ref lv) (.ref sl) (nI dn) sd ul su), (oc10 sl mc9 (.ref ea) (nI T)), (oc3 lw (.ref dr) (.ref tg) (.ref wy) (.ref br) (.ref bo) (.ref aa)), (oc6 tg (.ref tx) (.ref ty) (nI nt19) rt19), (oa tx cI 3 TX19), (oa ty cI 3 TY19), (oc6 wy (.ref wx) (.ref wz) (nI nw19) rw19), (oa wx cI 2 WX19), (oa wz cI 2 WY19), (oc6 dr (.ref dx) (.ref dy) (nI nd19) rd19), (oa dx cI cd P19), (oa dy cI cd Q19), (oc0 br d59 d69 d79 d89), (oc0 bo e59 e69 e79 e89), (oa aa cI 40 AR19), (oc7 sh (.ref fa) (nI ft)), (oq fa cF 200 FA)] ++ va_pl L6 f6) H → va_D A ([(oc8 x (.ref sh) (.ref lw) (.ref ro) (.ref bq) (.ref bp) (.ref dq) (.ref dp) (.ref lv) (.ref sl) (nI dn) sd ul su), (oc10 sl mc9 (.ref ea) (nI T)), (oc3 lw (.ref dr) (.ref tg) (.ref wy) (.ref br) (.ref bo) (.ref aa)), (oc6 tg (.ref tx) (.ref ty) (nI nt19) rt19), (oa tx cI 3 TX19), (oa ty cI 3 TY19), (oc6 wy (.ref wx) (.ref wz) (nI nw19) rw19), (oa wx cI 2 WX19), (oa wz cI 2 WY19), (oc6 dr (.ref dx) (.ref dy) (nI nd19) rd19), (oa dx cI cd P19), (oa dy cI cd Q19), (oc0 br d59 d69 d79 d89), (oc0 bo e59 e69 e79 e89), (oa aa cI 40 AR19), (oc7 sh (.ref fa) (nI ft)), (oq fa cF 200 FA)] ++ va_pl L6 f6) → va_S A s.heap H locs → lv_has ls 7 [(5, .int (nI g5)), (4, .int (nI tc5)), (3, .int (nI ps5)), (2, .int (nI tc6)), (0, .ref x), (1, .int lim)] → W p l e ({ frames := 8, cells := 5 * ft + 2, slots := smd (fun _ => 1) (fun q => nN (mn q)) ft + 4 * ft + 805, locals := 182 } : Room) s m ([.ref x, .int lim] : List Value).toArray below meth c H locs (4 * cmd md6 ft) (smd md6 (fun q => nN (mn q)) ft) Q9 (F0 m 27 ls []) := by
            intro n9
            induction n9 with
            | zero => intro g5 tc6 tr6 L6 f6 own6 nw6 md6 fm6 mnk cxk cyk nt19 TX19 TY19 rt19 nw19 WX19 WY19 rw19 nd19 P19 Q19 rd19 d59 d69 d79 d89 e59 e69 e79 e89 AR19 H locs ls hm; exact absurd hm (Nat.not_lt_zero _)
            | succ n9 ih_27 =>
              intro g5 tc6 tr6 L6 f6 own6 nw6 md6 fm6 mnk cxk cyk nt19 TX19 TY19 rt19 nw19 WX19 WY19 rw19 nd19 P19 Q19 rd19 d59 d69 d79 d89 e59 e69 e79 e89 AR19 H locs ls hm hg5 hJ6 hrp6 htc6 hP hD hS hl
              have hcl6 := cmd_le md6 ft
              have hsl6 := smd_le md6 (fun q => nN (mn q)) ft
              refine lv_iload hx hb dX10_run_27 (lv_at hl 0 rfl) ?_
              refine lv_aload_n hx hb dX10_run_29 rfl (lv_at hl 4 rfl) ?_
              refine va_get (D := (dC, dI)) (ci := 8) (v := .ref sh) (C := RX10) (T := TX10) (N := 13) hx hb hts inX10 hown hK hP 0 rfl rfl 0 (Nat.le_of_ble_eq_true rfl) (hts _ mw_309) (fun _ h9 => h9) rfl dX10_run_30 ?_
              refine va_get (D := (dC, dI)) (ci := 7) (v := .int (nI ft)) (C := RX8) (T := TX8) (N := 2) hx hb hts inX8 hown hK hP 15 rfl rfl 1 (Nat.le_of_ble_eq_true rfl) (hts _ mw_140) (fun _ h9 => h9) rfl dX10_run_33 ?_
              have b9_5 : zlt (g5) := show g5 < 2147483648 by omega
              have b9_6 : zlt (ft) := show ft < 2147483648 by omega
              refine lv_icmp_ge (tgt := 91) hx hb dX10_run_36 rfl (fun c_4 => ?_) (fun c_4 => ?_)
              · have c_4 : ((ft : Nat) : Int) ≤ ((g5 : Nat) : Int) := zc_le (nI_toInt b9_6) (nI_toInt b9_5) c_4
                obtain ⟨ez, e2, e3, e4⟩ := rnP_z (show ft - g5 = 0 by omega) hrp6
                refine lv_iload_n hx hb dX10_run_91 rfl (lv_at hl 3 rfl) ?_
                refine lv_iload hx hb dX10_run_92 (lv_at hl 1 rfl) ?_
                have b9_8 : zlt (tc6) := show tc6 < 2147483648 by omega
                have b9_9 : zlt (tc5) := show tc5 < 2147483648 by omega
                refine lv_icmp_ne (tgt := 100) hx hb dX10_run_94 rfl (fun c_7 => ?_) (fun c_7 => ?_)
                · have c_7 : ¬ ((tc6 : Nat) : Int) = ((tc5 : Nat) : Int) := zc_ne (nI_toInt b9_8) (nI_toInt b9_9) c_7
                  have hrm6 : rnM ft st tn kd LM TT mn1 cx1 cy1 1 p5 tc6 mnk cxk cyk := (by have h9 := hz15 (by omega); rw [e2, e3, e4] at h9; rw [show tc6 = tc5 + tp5 by omega]; exact h9)
                  refine lv_iinc (v := nI (ps5 + 1)) (lv' := [(3, .int (nI (ps5 + 1))), (5, .int (nI g5)), (4, .int (nI tc5)), (2, .int (nI tc6)), (0, .ref x), (1, .int lim)]) hx hb dX10_run_100 hl (k := 2) rfl (nI_add ps5 1) (Nat.le_of_ble_eq_true rfl) rfl (fun ls hl => ?_)
                  refine lv_goto (tgt := 14) hx hb dX10_run_103 rfl ?_
                  refine W.widen (k := 4 * cmd md6 ft) (n := smd md6 (fun q => nN (mn q)) ft) (by omega) (by omega) ?_
                  exact ih_14 (ps5 + 1) tc6 p5 L6 f6 own6 nw6 md6 fm6 mnk cxk cyk nt19 TX19 TY19 rt19 nw19 WX19 WY19 rw19 nd19 P19 Q19 rd19 d59 d69 d79 d89 e59 e69 e79 e89 AR19 H locs ls (by have := rnM_le hrm6; omega) (by first | with_reducible assumption | omega) (hJ6) (hrm6) hP hD hS (lv_sub hl [0, 3, 4, 5] rfl)
                · have c_7 : ((tc6 : Nat) : Int) = ((tc5 : Nat) : Int) := zc_eq (nI_toInt b9_8) (nI_toInt b9_9) c_7
                  refine lv_goto (tgt := 106) hx hb dX10_run_97 rfl ?_
                  obtain ⟨z1, z2, z3, z4⟩ := rnM_z (hz05 (by omega)) (by decide)
                  rw [e2] at z1
                  rw [e3] at z2
                  rw [e4] at z3
                  have hJf := hJ6
                  rw [← z1, ← z2, ← z3] at hJf
                  obtain ⟨hG1, hM1, hmd1, hok1, hmq1⟩ := hJf
                  have hcl6 := cmd_le md6 ft
                  have hsl6 := smd_le md6 (fun q => nN (mn q)) ft
                  refine lv_iload_n hx hb dX10_run_106 rfl (lv_at hl 3 rfl) ?_
                  refine lv_if_ne (tgt := 117) hx hb dX10_run_107 rfl (fun c_10 => ?_) (fun c_10 => ?_)
                  · have c_10 : ¬ ((tc6 : Nat) : Int) = 0 := zc_ne (nI_toInt b9_8) rfl c_10
                    refine lv_aload_n hx hb dX10_run_117 rfl (lv_at hl 4 rfl) ?_
                    refine lv_bipush (v := 10) hx hb dX10_run_118 rfl ?_
                    refine lv_iconst (v := (-1)) hx hb dX10_run_120 rfl ?_
                    refine lv_iload_n hx hb dX10_run_121 rfl (lv_at hl 3 rfl) ?_
                    refine zz_i (v := nI TT) (zn_eq (by omega)) ?_
                    refine lv_null hx hb dX10_run_122 ?_
                    obtain ⟨hPc, hDc, hFc⟩ := zo_part (cx := [_, _, _, _]) hP hD hS hA [0, 1, 15, 16] (by decide +kernel) rfl
                    refine zcall (st1 := [.int 1]) (va_runV (As := [.int 10, .int (-1), .int (nI TT), .null]) (rest := []) ⟨hx, hb, hml, hown, hts⟩ (k_book_n l dC dI cI cZ cF H.size cO e0 mi x sh lw ro bq bp dq dp lv sl sd ul su sl ea T mc9 fa FA own6 fe cl la nw6 md6 sp fm6 SA bs dn ft FT V VX VY tn rk wd tw pa pb wh of9 we kd st gb it mn1 cx1 cy1 10 (-1) (nI TT) L6 f6 (hG1) (hM1) (hdT) (hT5) (by first | with_reducible assumption | omega) (fun q h1 h2 => by omega) (hft9)) (csV_101 hts rfl rfl ⟨Nat.le_of_ble_eq_true rfl, Nat.le_of_ble_eq_true rfl⟩) (zPVL (q0 := 0) (ci := 8) hPc hDc hK hXL hS hFc rfl rfl) rfl rfl hl.1 rfl (lv_room (Nat.le_of_ble_eq_true rfl)) dX10_run_123 ⟨show (4 * cmd md6 ft + (ft + 2)) ≤ 5 * ft + 2 by omega, show (smd md6 (fun q => nN (mn q)) ft + (4 * ft + 805)) ≤ smd (fun _ => 1) (fun q => nN (mn q)) ft + 4 * ft + 805 by omega⟩) hS hFc hFc rfl (fun t H locs ht hB hk1 hS => ?_)
                    obtain ⟨mc6, L8, f8, ea6, hB6, hP1, hD1⟩ := hB
                    rw [ht] at hP1
                    obtain ⟨hP, hD⟩ := znP (W2 := [(oc8 x (.ref sh) (.ref lw) (.ref ro) (.ref bq) (.ref bp) (.ref dq) (.ref dp) (.ref lv) (.ref sl) (nI (dn + 1)) sd ul 0), (oc10 sl mc6 (.ref ea6) (nI (dn + 1))), _, _, _, _, _, _, _, _, _, _, _, _, _, _, _]) hP hD hk1 hFc hP1 hD1 [0, 1, 15, 16] zl_64 zl_65 [0, 1, 15, 16] (by decide +kernel) rfl rfl rfl rfl rfl
                    clear hk1 hPc hDc hFc hP1 hD1 ht
                    refine lv_pop hx hb dX10_run_126 rfl ?_
                    refine lv_iload_n hx hb dX10_run_127 rfl (lv_at hl 3 rfl) ?_
                    obtain ⟨hP9, hD9⟩ := zu_part (cx := [_, _, _, _, _, _, _, _, _, _, _, _, _, _, _, _, _]) hP hD [true, true, true, true, true, true, true, true, true, true, true, true, true, true, true, true, true] rfl rfl
                    refine W.widen (k := 5 * ft + 2) (n := smd (fun _ => 1) (fun q => nN (mn q)) ft + 4 * ft + 805) (by omega) (by omega) ?_
                    rw [hQ9]
                    exact W.iret (v := nI tc6) hx hb hr (fun t ht hW => ⟨⟨congrArg (fun z => Outcome.returned (some (Value.int z))) (show (nI tc6 : Int32) = nI TT from zn_eq (by omega)), mc6, L8, f8, ea6, nt19, TX19, TY19, rt19, nw19, WX19, WY19, rw19, nd19, P19, Q19, rd19, d59, d69, d79, d89, e59, e69, e79, e89, AR19, (hB6), by rw [ht]; exact hP9, hD9⟩, hS.F ht⟩) hS.2.2 dX10_run_128
                  · have c_10 : ((tc6 : Nat) : Int) = 0 := zc_eq (nI_toInt b9_8) rfl c_10
                    exfalso; omega
              · have c_4 : ((g5 : Nat) : Int) < ((ft : Nat) : Int) := zc_nle (nI_toInt b9_6) (nI_toInt b9_5) c_4
                skip
                · skip
                  obtain ⟨m5, mn6, cx6, cy6, t6, hr15, hrP6, ht6⟩ := rnP_s (show g5 < ft by omega) hrp6
                  obtain ⟨hG6, hM6, hmd6, hok6, hmn6⟩ := id hJ6
                  refine lv_aload_n hx hb dX10_run_39 rfl (lv_at hl 4 rfl) ?_
                  refine va_get (D := (dC, dI)) (ci := 8) (v := .ref sh) (C := RX10) (T := TX10) (N := 13) hx hb hts inX10 hown hK hP 0 rfl rfl 0 (Nat.le_of_ble_eq_true rfl) (hts _ mw_309) (fun _ h9 => h9) rfl dX10_run_40 ?_
                  refine lv_iload hx hb dX10_run_43 (lv_at hl 0 rfl) ?_
                  rcases run_c6 (m := m5) (md := md6) (fun q hq => by have h9 := sh_vw (cs := []) hG6.1 hG6.2.1 hFA9 (Nat.le_refl _) hq (fun c hc => by cases hc); rw [outPl_nil] at h9; exact h9) (show g5 < ft by omega) (hmd6 g5) with ⟨ht2, hvt⟩ | ⟨ht2, hA2, hvl⟩ | ⟨⟨hlv, hbd9⟩, hm0, hm6⟩ | ⟨⟨hlv, hbd9⟩, hm0, hm6⟩ | ⟨⟨hlv, hbd9⟩, hm1, hm6⟩ | ⟨⟨hlv, hbd9⟩, hm1, hm6⟩
                  · skip
                    obtain ⟨fe2, lk2, lo2, rk2, wd2, tw2, pa2, pb2, gb2, jt2, we2, fm2, hFA2, hfe2, hlk2⟩ := hvt
                    have hc9_1 : inPl L6 f6 [(oc1 fe2 rk2 wd2 tw2 pa2 pb2 (.ref lo2) (.ref lk2) fm2), (oc4 lk2 (kd g5) (st g5) .null gb2 jt2 we2)] := ⟨hfe2, hlk2, trivial⟩
                    have hD0_1 := hD
                    obtain ⟨T_1, hT_1, hP, hD⟩ := pl_oT hP hD hc9_1 (pwF hfe2.2 hlk2.2)
                    obtain ⟨hP, hD⟩ := zre (W2 := ([_, _, _, _, _, _, _, _, _, _, _, _, _, _, _, _, _, _, _] ++ va_pl T_1 f6)) hP hD rfl
                    obtain ⟨hPc, hDc, hFc, hI1⟩ := zi_sub (wc := [_, _]) hP hD hS hA [15, 16] rfl rfl
                    refine zcall (st1 := [.ref fe2]) (va_runV (As := [.int (nI g5)]) (rest := []) ⟨hx, hb, hml, hown, hts⟩ (k_Sheet_find l dC dI cI cZ cF H.size sh fa ft FA g5 fe2 (by first | with_reducible assumption | omega) (by first | with_reducible assumption | omega) (by first | exact hFA2 | exact hFA9 g5 (by first | with_reducible assumption | omega))) (csV_94 hts rfl rfl ⟨Nat.le_of_ble_eq_true rfl, Nat.le_of_ble_eq_true rfl⟩) (zPV2 (q0 := 0) (ci := 7) hPc hDc hK3 hXN rfl rfl) rfl rfl hl.1 rfl (lv_room (Nat.le_of_ble_eq_true rfl)) dX10_run_45 ⟨show 4 * cmd md6 ft ≤ 5 * ft + 2 by omega, show smd md6 (fun q => nN (mn q)) ft ≤ smd (fun _ => 1) (fun q => nN (mn q)) ft + 4 * ft + 805 by omega⟩) hS hFc hFc rfl (fun t H locs ht hB hk1 hS => ?_)
                    obtain ⟨hP1, hD1⟩ := hB
                    rw [ht] at hP1
                    replace hP := z0 hP hD hk1 hP1 hI1
                    clear hk1 hPc hDc hFc hP1 hD1 ht hI1
                    refine lv_astore (lv' := [(6, .ref fe2), (5, .int (nI g5)), (4, .int (nI tc5)), (3, .int (nI ps5)), (2, .int (nI tc6)), (0, .ref x), (1, .int lim)]) hx hb dX10_run_48 hl (Nat.le_of_ble_eq_true rfl) rfl (fun ls hl => ?_)
                    refine lv_aload hx hb dX10_run_50 (lv_at hl 0 rfl) ?_
                    refine lv_ifnull hx hb dX10_run_52 ?_
                    refine lv_aload hx hb dX10_run_55 (lv_at hl 0 rfl) ?_
                    obtain ⟨hPc, hDc, hFc, hI1⟩ := zi_sub (wc := [_, _]) hP hD hS hA [17, 18] rfl rfl
                    refine zcall (st1 := [.int (pI (1 ≤ (kd g5).toInt ∧ (kd g5).toInt ≤ 5))]) (va_runV (As := []) (rest := []) ⟨hx, hb, hml, hown, hts⟩ (k_Feature_bends_v l dC dI cI cZ cF H.size fe2 lo2 rk2 wd2 tw2 pa2 pb2 lk2 (kd g5) (st g5) gb2 jt2 we2 fm2 (.null) ) (csV_97 hts rfl rfl ⟨Nat.le_of_ble_eq_true rfl, Nat.le_of_ble_eq_true rfl⟩) (zPV2 (q0 := 0) (ci := 1) hPc hDc hK3 hXN rfl rfl) rfl rfl hl.1 rfl (lv_room (Nat.le_of_ble_eq_true rfl)) dX10_run_57 ⟨show 4 * cmd md6 ft ≤ 5 * ft + 2 by omega, show smd md6 (fun q => nN (mn q)) ft ≤ smd (fun _ => 1) (fun q => nN (mn q)) ft + 4 * ft + 805 by omega⟩) hS hFc hFc rfl (fun t H locs ht hB hk1 hS => ?_)
                    obtain ⟨hP1, hD1⟩ := hB
                    rw [ht] at hP1
                    replace hP := z0 hP hD hk1 hP1 hI1
                    clear hk1 hPc hDc hFc hP1 hD1 ht hI1
                    refine lv_if_eq (tgt := 85) hx hb dX10_run_60 rfl (fun c_11 => ?_) (fun c_11 => ?_)
                    · have c_11 : ¬ (1 ≤ (kd g5).toInt ∧ (kd g5).toInt ≤ 5) := zp_0 c_11
                      obtain ⟨hP, hD⟩ := pl_bk (X := [_, _, _, _, _, _, _, _, _, _, _, _, _, _, _, _, _]) hT_1 hP rfl hc9_1 hD0_1 rfl
                      obtain ⟨e1, e2, e3, e4⟩ := hr15.2 (fun h => by exact absurd h.1.2.2 ht2)
                      rw [e2, e3, e4] at hrP6
                      have hJ7 := hJ6
                      refine lv_iinc (v := nI (g5 + 1)) (lv' := [(5, .int (nI (g5 + 1))), (6, .ref fe2), (4, .int (nI tc5)), (3, .int (nI ps5)), (2, .int (nI tc6)), (0, .ref x), (1, .int lim)]) hx hb dX10_run_85 hl (k := 1) rfl (nI_add g5 1) (Nat.le_of_ble_eq_true rfl) rfl (fun ls hl => ?_)
                      refine lv_goto (tgt := 27) hx hb dX10_run_88 rfl ?_
                      refine W.widen (k := 4 * cmd md6 ft) (n := smd md6 (fun q => nN (mn q)) ft) (by omega) (by omega) ?_
                      exact ih_27 (g5 + 1) tc6 t6 L6 f6 own6 nw6 md6 fm6 mnk cxk cyk nt19 TX19 TY19 rt19 nw19 WX19 WY19 rw19 nd19 P19 Q19 rd19 d59 d69 d79 d89 e59 e69 e79 e89 AR19 H locs ls (by first | with_reducible assumption | omega) (by first | with_reducible assumption | omega) (hJ7) (hrP6) (by first | with_reducible assumption | omega) hP hD hS (lv_sub hl [0, 2, 3, 4, 5, 6] rfl)
                    · have c_11 : 1 ≤ (kd g5).toInt ∧ (kd g5).toInt ≤ 5 := zp_1 c_11
                      refine lv_aload_n hx hb dX10_run_63 rfl (lv_at hl 5 rfl) ?_
                      refine va_get (D := (dC, dI)) (ci := 8) (v := .ref sh) (C := RX10) (T := TX10) (N := 13) hx hb hts inX10 hown hK hP 0 rfl rfl 0 (Nat.le_of_ble_eq_true rfl) (hts _ mw_309) (fun _ h9 => h9) rfl dX10_run_64 ?_
                      refine lv_iload hx hb dX10_run_67 (lv_at hl 1 rfl) ?_
                      obtain ⟨hPc, hDc, hFc, hI1⟩ := zi_sub (wc := [_, _, _, _]) hP hD hS hA [15, 16, 17, 18] (by decide +kernel) rfl
                      refine zcall (st1 := [.null]) (va_runV (As := [.int (nI g5)]) (rest := []) ⟨hx, hb, hml, hown, hts⟩ (k_Sheet_rowThere_tv l dC dI cI cZ cF H.size sh fa ft FA g5 fe2 lo2 rk2 wd2 tw2 pa2 pb2 lk2 (kd g5) (st g5) gb2 jt2 we2 fm2 (by first | with_reducible assumption | omega) (by first | with_reducible assumption | omega) (by first | exact hFA2 | exact hFA9 g5 (by first | with_reducible assumption | omega))) (csV_144 hts rfl rfl ⟨Nat.le_of_ble_eq_true rfl, Nat.le_of_ble_eq_true rfl⟩) (zPV2 (q0 := 0) (ci := 7) hPc hDc hK3 hXN rfl rfl) rfl rfl hl.1 rfl (lv_room (Nat.le_of_ble_eq_true rfl)) dX10_run_69 ⟨show 4 * cmd md6 ft ≤ 5 * ft + 2 by omega, show smd md6 (fun q => nN (mn q)) ft ≤ smd (fun _ => 1) (fun q => nN (mn q)) ft + 4 * ft + 805 by omega⟩) hS hFc hFc rfl (fun t H locs ht hB hk1 hS => ?_)
                      obtain ⟨hP1, hD1⟩ := hB
                      rw [ht] at hP1
                      replace hP := z0 hP hD hk1 hP1 hI1
                      clear hk1 hPc hDc hFc hP1 hD1 ht hI1
                      refine lv_ifnullN (tgt := 85) hx hb dX10_run_72 rfl ?_
                      obtain ⟨hP, hD⟩ := pl_bk (X := [_, _, _, _, _, _, _, _, _, _, _, _, _, _, _, _, _]) hT_1 hP rfl hc9_1 hD0_1 rfl
                      obtain ⟨e1, e2, e3, e4⟩ := hr15.2 (fun h => by exact absurd h.1.2.2 ht2)
                      rw [e2, e3, e4] at hrP6
                      have hJ7 := hJ6
                      refine lv_iinc (v := nI (g5 + 1)) (lv' := [(5, .int (nI (g5 + 1))), (6, .ref fe2), (4, .int (nI tc5)), (3, .int (nI ps5)), (2, .int (nI tc6)), (0, .ref x), (1, .int lim)]) hx hb dX10_run_85 hl (k := 1) rfl (nI_add g5 1) (Nat.le_of_ble_eq_true rfl) rfl (fun ls hl => ?_)
                      refine lv_goto (tgt := 27) hx hb dX10_run_88 rfl ?_
                      refine W.widen (k := 4 * cmd md6 ft) (n := smd md6 (fun q => nN (mn q)) ft) (by omega) (by omega) ?_
                      exact ih_27 (g5 + 1) tc6 t6 L6 f6 own6 nw6 md6 fm6 mnk cxk cyk nt19 TX19 TY19 rt19 nw19 WX19 WY19 rw19 nd19 P19 Q19 rd19 d59 d69 d79 d89 e59 e69 e79 e89 AR19 H locs ls (by first | with_reducible assumption | omega) (by first | with_reducible assumption | omega) (hJ7) (hrP6) (by first | with_reducible assumption | omega) hP hD hS (lv_sub hl [0, 2, 3, 4, 5, 6] rfl)
                  · skip
                    obtain ⟨fe2, lk2, lo2, rk2, wd2, tw2, pa2, pb2, gb2, jt2, we2, fm2, r2, rx2, ry2, cap2, U2, V2, rg2, hFA2, hfe2, hlk2, ⟨hr2, hrx2, hry2, hne2⟩, hrr2⟩ := hvl
                    have hc9_1 : inPl L6 f6 [(oc1 fe2 rk2 wd2 tw2 pa2 pb2 (.ref lo2) (.ref lk2) fm2), (oc4 lk2 (kd g5) (st g5) (.ref r2) gb2 jt2 we2), (oc6 r2 (.ref rx2) (.ref ry2) (nI (nN (mnk g5))) rg2), (oa rx2 cI cap2 U2), (oa ry2 cI cap2 V2)] := ⟨hfe2, hlk2, hr2, hrx2, hry2, trivial⟩
                    have hD0_1 := hD
                    obtain ⟨T_1, hT_1, hP, hD⟩ := pl_oT hP hD hc9_1 (pwR hfe2.2 hlk2.2 hr2.2 hrx2.2 hry2.2 hne2)
                    obtain ⟨hP, hD⟩ := zre (W2 := ([_, _, _, _, _, _, _, _, _, _, _, _, _, _, _, _, _, _, _, _, _, _] ++ va_pl T_1 f6)) hP hD rfl
                    obtain ⟨hPc, hDc, hFc, hI1⟩ := zi_sub (wc := [_, _]) hP hD hS hA [15, 16] rfl rfl
                    refine zcall (st1 := [.ref fe2]) (va_runV (As := [.int (nI g5)]) (rest := []) ⟨hx, hb, hml, hown, hts⟩ (k_Sheet_find l dC dI cI cZ cF H.size sh fa ft FA g5 fe2 (by first | with_reducible assumption | omega) (by first | with_reducible assumption | omega) (by first | exact hFA2 | exact hFA9 g5 (by first | with_reducible assumption | omega))) (csV_94 hts rfl rfl ⟨Nat.le_of_ble_eq_true rfl, Nat.le_of_ble_eq_true rfl⟩) (zPV2 (q0 := 0) (ci := 7) hPc hDc hK3 hXN rfl rfl) rfl rfl hl.1 rfl (lv_room (Nat.le_of_ble_eq_true rfl)) dX10_run_45 ⟨show 4 * cmd md6 ft ≤ 5 * ft + 2 by omega, show smd md6 (fun q => nN (mn q)) ft ≤ smd (fun _ => 1) (fun q => nN (mn q)) ft + 4 * ft + 805 by omega⟩) hS hFc hFc rfl (fun t H locs ht hB hk1 hS => ?_)
                    obtain ⟨hP1, hD1⟩ := hB
                    rw [ht] at hP1
                    replace hP := z0 hP hD hk1 hP1 hI1
                    clear hk1 hPc hDc hFc hP1 hD1 ht hI1
                    refine lv_astore (lv' := [(6, .ref fe2), (5, .int (nI g5)), (4, .int (nI tc5)), (3, .int (nI ps5)), (2, .int (nI tc6)), (0, .ref x), (1, .int lim)]) hx hb dX10_run_48 hl (Nat.le_of_ble_eq_true rfl) rfl (fun ls hl => ?_)
                    refine lv_aload hx hb dX10_run_50 (lv_at hl 0 rfl) ?_
                    refine lv_ifnull hx hb dX10_run_52 ?_
                    refine lv_aload hx hb dX10_run_55 (lv_at hl 0 rfl) ?_
                    obtain ⟨hPc, hDc, hFc, hI1⟩ := zi_sub (wc := [_, _]) hP hD hS hA [17, 18] rfl rfl
                    refine zcall (st1 := [.int (pI (1 ≤ (kd g5).toInt ∧ (kd g5).toInt ≤ 5))]) (va_runV (As := []) (rest := []) ⟨hx, hb, hml, hown, hts⟩ (k_Feature_bends_v l dC dI cI cZ cF H.size fe2 lo2 rk2 wd2 tw2 pa2 pb2 lk2 (kd g5) (st g5) gb2 jt2 we2 fm2 (.ref r2) ) (csV_97 hts rfl rfl ⟨Nat.le_of_ble_eq_true rfl, Nat.le_of_ble_eq_true rfl⟩) (zPV2 (q0 := 0) (ci := 1) hPc hDc hK3 hXN rfl rfl) rfl rfl hl.1 rfl (lv_room (Nat.le_of_ble_eq_true rfl)) dX10_run_57 ⟨show 4 * cmd md6 ft ≤ 5 * ft + 2 by omega, show smd md6 (fun q => nN (mn q)) ft ≤ smd (fun _ => 1) (fun q => nN (mn q)) ft + 4 * ft + 805 by omega⟩) hS hFc hFc rfl (fun t H locs ht hB hk1 hS => ?_)
                    obtain ⟨hP1, hD1⟩ := hB
                    rw [ht] at hP1
                    replace hP := z0 hP hD hk1 hP1 hI1
                    clear hk1 hPc hDc hFc hP1 hD1 ht hI1
                    refine lv_if_eq (tgt := 85) hx hb dX10_run_60 rfl (fun c_12 => ?_) (fun c_12 => ?_)
                    · have c_12 : ¬ (1 ≤ (kd g5).toInt ∧ (kd g5).toInt ≤ 5) := zp_0 c_12
                      obtain ⟨hP, hD⟩ := pl_bk (X := [_, _, _, _, _, _, _, _, _, _, _, _, _, _, _, _, _]) hT_1 hP rfl hc9_1 hD0_1 rfl
                      obtain ⟨e1, e2, e3, e4⟩ := hr15.2 (fun h => by have h1 := h.1.2.1; have h2 := h.2; have h3 := hkr g5 h.1.1; omega)
                      rw [e2, e3, e4] at hrP6
                      have hJ7 := hJ6
                      refine lv_iinc (v := nI (g5 + 1)) (lv' := [(5, .int (nI (g5 + 1))), (6, .ref fe2), (4, .int (nI tc5)), (3, .int (nI ps5)), (2, .int (nI tc6)), (0, .ref x), (1, .int lim)]) hx hb dX10_run_85 hl (k := 1) rfl (nI_add g5 1) (Nat.le_of_ble_eq_true rfl) rfl (fun ls hl => ?_)
                      refine lv_goto (tgt := 27) hx hb dX10_run_88 rfl ?_
                      refine W.widen (k := 4 * cmd md6 ft) (n := smd md6 (fun q => nN (mn q)) ft) (by omega) (by omega) ?_
                      exact ih_27 (g5 + 1) tc6 t6 L6 f6 own6 nw6 md6 fm6 mnk cxk cyk nt19 TX19 TY19 rt19 nw19 WX19 WY19 rw19 nd19 P19 Q19 rd19 d59 d69 d79 d89 e59 e69 e79 e89 AR19 H locs ls (by first | with_reducible assumption | omega) (by first | with_reducible assumption | omega) (hJ7) (hrP6) (by first | with_reducible assumption | omega) hP hD hS (lv_sub hl [0, 2, 3, 4, 5, 6] rfl)
                    · have c_12 : 1 ≤ (kd g5).toInt ∧ (kd g5).toInt ≤ 5 := zp_1 c_12
                      refine lv_aload_n hx hb dX10_run_63 rfl (lv_at hl 5 rfl) ?_
                      refine va_get (D := (dC, dI)) (ci := 8) (v := .ref sh) (C := RX10) (T := TX10) (N := 13) hx hb hts inX10 hown hK hP 0 rfl rfl 0 (Nat.le_of_ble_eq_true rfl) (hts _ mw_309) (fun _ h9 => h9) rfl dX10_run_64 ?_
                      refine lv_iload hx hb dX10_run_67 (lv_at hl 1 rfl) ?_
                      obtain ⟨hPc, hDc, hFc, hI1⟩ := zi_sub (wc := [_, _, _, _]) hP hD hS hA [15, 16, 17, 18] (by decide +kernel) rfl
                      refine zcall (st1 := [.null]) (va_runV (As := [.int (nI g5)]) (rest := []) ⟨hx, hb, hml, hown, hts⟩ (k_Sheet_rowThere_sv l dC dI cI cZ cF H.size sh fa ft FA g5 fe2 lo2 rk2 wd2 tw2 pa2 pb2 lk2 (kd g5) (st g5) gb2 jt2 we2 fm2 (.ref r2) (by first | with_reducible assumption | omega) (by first | with_reducible assumption | omega) (by first | exact hFA2 | exact hFA9 g5 (by first | with_reducible assumption | omega)) (by first | exact hlv.2.1 | omega)) (csV_144 hts rfl rfl ⟨Nat.le_of_ble_eq_true rfl, Nat.le_of_ble_eq_true rfl⟩) (zPV2 (q0 := 0) (ci := 7) hPc hDc hK3 hXN rfl rfl) rfl rfl hl.1 rfl (lv_room (Nat.le_of_ble_eq_true rfl)) dX10_run_69 ⟨show 4 * cmd md6 ft ≤ 5 * ft + 2 by omega, show smd md6 (fun q => nN (mn q)) ft ≤ smd (fun _ => 1) (fun q => nN (mn q)) ft + 4 * ft + 805 by omega⟩) hS hFc hFc rfl (fun t H locs ht hB hk1 hS => ?_)
                      obtain ⟨hP1, hD1⟩ := hB
                      rw [ht] at hP1
                      replace hP := z0 hP hD hk1 hP1 hI1
                      clear hk1 hPc hDc hFc hP1 hD1 ht hI1
                      refine lv_ifnullN (tgt := 85) hx hb dX10_run_72 rfl ?_
                      obtain ⟨hP, hD⟩ := pl_bk (X := [_, _, _, _, _, _, _, _, _, _, _, _, _, _, _, _, _]) hT_1 hP rfl hc9_1 hD0_1 rfl
                      obtain ⟨e1, e2, e3, e4⟩ := hr15.2 (fun h => by have h1 := h.1.2.1; have h2 := h.2; have h3 := hkr g5 h.1.1; omega)
                      rw [e2, e3, e4] at hrP6
                      have hJ7 := hJ6
                      refine lv_iinc (v := nI (g5 + 1)) (lv' := [(5, .int (nI (g5 + 1))), (6, .ref fe2), (4, .int (nI tc5)), (3, .int (nI ps5)), (2, .int (nI tc6)), (0, .ref x), (1, .int lim)]) hx hb dX10_run_85 hl (k := 1) rfl (nI_add g5 1) (Nat.le_of_ble_eq_true rfl) rfl (fun ls hl => ?_)
                      refine lv_goto (tgt := 27) hx hb dX10_run_88 rfl ?_
                      refine W.widen (k := 4 * cmd md6 ft) (n := smd md6 (fun q => nN (mn q)) ft) (by omega) (by omega) ?_
                      exact ih_27 (g5 + 1) tc6 t6 L6 f6 own6 nw6 md6 fm6 mnk cxk cyk nt19 TX19 TY19 rt19 nw19 WX19 WY19 rw19 nd19 P19 Q19 rd19 d59 d69 d79 d89 e59 e69 e79 e89 AR19 H locs ls (by first | with_reducible assumption | omega) (by first | with_reducible assumption | omega) (hJ7) (hrP6) (by first | with_reducible assumption | omega) hP hD hS (lv_sub hl [0, 2, 3, 4, 5, 6] rfl)
                  · skip
                    obtain ⟨n5, hpl5⟩ := hr15.1 ⟨hlv, by omega, by omega⟩
                    have hI5 := okA_th hok6 hlv hbd9
                    have hpe5 := plN_end _ _ _ _ _ _ _ _ _ hI5.1 hpl5
                    have hok7 := okA_s hok6 hlv hbd9 hpl5
                    refine ex13 (sh_fc hG6.1 hG6.2.1 (Nat.le_refl _) (show g5 < ft by omega) hlv.2.2) (fun lo5 lx5 ly5 ln5 LX5 LY5 we5 r5 rx5 ry5 cap5 X5 Y5 hc5 => ?_)
                    rw [((hM6 g5 (by omega)).1 hm6).1, hm6] at hc5
                    have hc5 := fc_0 hc5
                    have hmnq0 := hmn6 g5 hm6
                    have hmnN0 : nN (mnk g5) = nN (mn g5) := (by rw [hmnq0])
                    have hcu : cmd md6 ft + 1 ≤ ft := (by have h9 := cmd_le (upN md6 g5 1) ft; rw [cmd_s ft (by omega), if_pos hm6] at h9; exact h9)
                    have hsu : smd md6 (fun q => nN (mn q)) ft + (2 * nN (mn g5) + 10) ≤ smd (fun _ => 1) (fun q => nN (mn q)) ft := (by have h9 := smd_le (upN md6 g5 1) (fun q => nN (mn q)) ft; rw [smd_s ft (by omega), if_pos hm6] at h9; exact h9)
                    have hb5 := hc5.2.2.1
                    have hbd := hc5.2.2.2.2.2 hbd9
                    have hn40 := hI5.1.2.1
                    have hc9_1 : inPl L6 f6 [(oc1 (fe g5) (rk g5) (wd g5) (tw g5) (pa g5) (pb g5) (.ref lo5) (.ref (nw6 g5)) .null), (oc4 (nw6 g5) (kd g5) (st g5) (.ref r5) (gb g5) (it g5) (nI we5)), (oc6 r5 (.ref rx5) (.ref ry5) (nI (nN (mnk g5))) (rgK (kd g5).toInt)), (oa rx5 cI cap5 X5), (oa ry5 cI cap5 Y5), (oc6 lo5 (.ref lx5) (.ref ly5) (nI ln5) 0), (oa lx5 cI (cl g5) LX5), (oa ly5 cI (cl g5) LY5)] := ⟨ce_pl hc5.1.1, ce_pl hc5.1.2.1, ce_pl hc5.1.2.2.1.1, ce_pl hc5.1.2.2.1.2.1, ce_pl hc5.1.2.2.1.2.2.1, ce_pl hc5.1.2.2.2.1, ce_pl hc5.1.2.2.2.2.1, ce_pl hc5.1.2.2.2.2.2.1, trivial⟩
                    have hD0_1 := hD
                    obtain ⟨T_1, hT_1, hP, hD⟩ := pl_oT hP hD hc9_1 (pw8 hc5 (by omega))
                    obtain ⟨hP, hD⟩ := zre (W2 := ([_, _, _, _, _, _, _, _, _, _, _, _, _, _, _, _, _, _, _, _, _, _, _, _, _] ++ va_pl T_1 f6)) hP hD rfl
                    obtain ⟨hPc, hDc, hFc, hI1⟩ := zi_sub (wc := [_, _]) hP hD hS hA [15, 16] rfl rfl
                    refine zcall (st1 := [.ref (fe g5)]) (va_runV (As := [.int (nI g5)]) (rest := []) ⟨hx, hb, hml, hown, hts⟩ (k_Sheet_find l dC dI cI cZ cF H.size sh fa ft FA g5 (fe g5) (by first | with_reducible assumption | omega) (by first | with_reducible assumption | omega) (by first | exact hFA2 | exact hFA9 g5 (by first | with_reducible assumption | omega))) (csV_94 hts rfl rfl ⟨Nat.le_of_ble_eq_true rfl, Nat.le_of_ble_eq_true rfl⟩) (zPV2 (q0 := 0) (ci := 7) hPc hDc hK3 hXN rfl rfl) rfl rfl hl.1 rfl (lv_room (Nat.le_of_ble_eq_true rfl)) dX10_run_45 ⟨show 4 * cmd md6 ft ≤ 5 * ft + 2 by omega, show smd md6 (fun q => nN (mn q)) ft ≤ smd (fun _ => 1) (fun q => nN (mn q)) ft + 4 * ft + 805 by omega⟩) hS hFc hFc rfl (fun t H locs ht hB hk1 hS => ?_)
                    obtain ⟨hP1, hD1⟩ := hB
                    rw [ht] at hP1
                    replace hP := z0 hP hD hk1 hP1 hI1
                    clear hk1 hPc hDc hFc hP1 hD1 ht hI1
                    refine lv_astore (lv' := [(6, .ref (fe g5)), (5, .int (nI g5)), (4, .int (nI tc5)), (3, .int (nI ps5)), (2, .int (nI tc6)), (0, .ref x), (1, .int lim)]) hx hb dX10_run_48 hl (Nat.le_of_ble_eq_true rfl) rfl (fun ls hl => ?_)
                    refine lv_aload hx hb dX10_run_50 (lv_at hl 0 rfl) ?_
                    refine lv_ifnull hx hb dX10_run_52 ?_
                    refine lv_aload hx hb dX10_run_55 (lv_at hl 0 rfl) ?_
                    obtain ⟨hPc, hDc, hFc, hI1⟩ := zi_sub (wc := [_, _]) hP hD hS hA [17, 18] rfl rfl
                    refine zcall (st1 := [.int (pI (1 ≤ (kd g5).toInt ∧ (kd g5).toInt ≤ 5))]) (va_runV (As := []) (rest := []) ⟨hx, hb, hml, hown, hts⟩ (k_Feature_bends_r l dC dI cI cZ cF H.size (fe g5) lo5 (rk g5) (wd g5) (tw g5) (pa g5) (pb g5) (nw6 g5) (kd g5) (st g5) (gb g5) (it g5) (nI we5) r5 ) (csV_97 hts rfl rfl ⟨Nat.le_of_ble_eq_true rfl, Nat.le_of_ble_eq_true rfl⟩) (zPV2 (q0 := 0) (ci := 1) hPc hDc hK3 hXN rfl rfl) rfl rfl hl.1 rfl (lv_room (Nat.le_of_ble_eq_true rfl)) dX10_run_57 ⟨show 4 * cmd md6 ft ≤ 5 * ft + 2 by omega, show smd md6 (fun q => nN (mn q)) ft ≤ smd (fun _ => 1) (fun q => nN (mn q)) ft + 4 * ft + 805 by omega⟩) hS hFc hFc rfl (fun t H locs ht hB hk1 hS => ?_)
                    obtain ⟨hP1, hD1⟩ := hB
                    rw [ht] at hP1
                    replace hP := z0 hP hD hk1 hP1 hI1
                    clear hk1 hPc hDc hFc hP1 hD1 ht hI1
                    refine lv_if_eq (tgt := 85) hx hb dX10_run_60 rfl (fun c_13 => ?_) (fun c_13 => ?_)
                    · have c_13 : ¬ (1 ≤ (kd g5).toInt ∧ (kd g5).toInt ≤ 5) := zp_0 c_13
                      exfalso; exact absurd hbd9 (by first | with_reducible assumption | assumption)
                    · have c_13 : 1 ≤ (kd g5).toInt ∧ (kd g5).toInt ≤ 5 := zp_1 c_13
                      refine lv_aload_n hx hb dX10_run_63 rfl (lv_at hl 5 rfl) ?_
                      refine va_get (D := (dC, dI)) (ci := 8) (v := .ref sh) (C := RX10) (T := TX10) (N := 13) hx hb hts inX10 hown hK hP 0 rfl rfl 0 (Nat.le_of_ble_eq_true rfl) (hts _ mw_309) (fun _ h9 => h9) rfl dX10_run_64 ?_
                      refine lv_iload hx hb dX10_run_67 (lv_at hl 1 rfl) ?_
                      obtain ⟨hPc, hDc, hFc, hI1⟩ := zi_sub (wc := [_, _, _, _]) hP hD hS hA [15, 16, 17, 18] (by decide +kernel) rfl
                      refine zcall (st1 := [.ref r5]) (va_runV (As := [.int (nI g5)]) (rest := []) ⟨hx, hb, hml, hown, hts⟩ (k_Sheet_rowThere_yv l dC dI cI cZ cF H.size sh fa ft FA g5 (fe g5) lo5 (rk g5) (wd g5) (tw g5) (pa g5) (pb g5) (nw6 g5) (kd g5) (st g5) (gb g5) (it g5) (nI we5) r5 (.null) (by first | with_reducible assumption | omega) (by first | with_reducible assumption | omega) (by first | exact hFA2 | exact hFA9 g5 (by first | with_reducible assumption | omega)) (by first | exact hlv.2.1 | omega)) (csV_144 hts rfl rfl ⟨Nat.le_of_ble_eq_true rfl, Nat.le_of_ble_eq_true rfl⟩) (zPV2 (q0 := 0) (ci := 7) hPc hDc hK3 hXN rfl rfl) rfl rfl hl.1 rfl (lv_room (Nat.le_of_ble_eq_true rfl)) dX10_run_69 ⟨show 4 * cmd md6 ft ≤ 5 * ft + 2 by omega, show smd md6 (fun q => nN (mn q)) ft ≤ smd (fun _ => 1) (fun q => nN (mn q)) ft + 4 * ft + 805 by omega⟩) hS hFc hFc rfl (fun t H locs ht hB hk1 hS => ?_)
                      obtain ⟨hP1, hD1⟩ := hB
                      rw [ht] at hP1
                      replace hP := z0 hP hD hk1 hP1 hI1
                      clear hk1 hPc hDc hFc hP1 hD1 ht hI1
                      refine lv_ifnull hx hb dX10_run_72 ?_
                      refine lv_iload_n hx hb dX10_run_75 rfl (lv_at hl 4 rfl) ?_
                      refine lv_aload_n hx hb dX10_run_76 rfl (lv_at hl 5 rfl) ?_
                      refine lv_aload hx hb dX10_run_77 (lv_at hl 0 rfl) ?_
                      refine lv_iload_n hx hb dX10_run_79 rfl (lv_at hl 6 rfl) ?_
                      obtain ⟨hPc, hDc, hFc⟩ := zo_part (cx := [_, _, _, _, _, _, _, _, _, _, _, _, _, _, _, _, _, _, _, _, _]) hP hD hS hA [0, 2, 3, 4, 5, 6, 7, 8, 9, 10, 11, 12, 13, 14, 15, 16, 17, 18, 19, 20, 21] (by decide +kernel) rfl
                      refine zcall (st1 := [.int 0, .int (nI tc6)]) (va_runV (As := [.ref (fe g5), .int lim]) (rest := [.int (nI tc6)]) ⟨hx, hb, hml, hown, hts⟩ (k_thin_z l dC dI cI cZ cF H.size x ro bq bp dq dp lv sl (nI dn) sd ul su lw dr tg wy br bo aa tx ty nt19 TX19 TY19 rt19 wx wz nw19 WX19 WY19 rw19 dx dy nd19 cd P19 Q19 rd19 d59 d69 d79 d89 e59 e69 e79 e89 AR19 sh fa ft FA (fe g5) lo5 (rk g5) (wd g5) (tw g5) (pa g5) (pb g5) (nw6 g5) (gb g5) (it g5) r5 rx5 ry5 (nN (mnk g5)) cap5 X5 Y5 g5 we5 LM 0 n5 T_1 f6 kd st tn mnk cxk cyk mn6 cx6 cy6 lim (.null) (by first | with_reducible assumption | omega) (by first | with_reducible assumption | omega) (hFA9 g5 (by first | with_reducible assumption | omega)) (by rw [← hT_1]; exact fc_vw hc5 (by first | with_reducible assumption | omega) (by first | with_reducible assumption | omega) hG6.1 hG6.2.1 hFA9 (Nat.le_refl _)) (hI5) (by first | exact hpl5 | (rw [hm0] at hpl5; exact hpl5)) (hL) (hc5.2.2.2.2.1) (by first | with_reducible assumption | omega) (by first | with_reducible assumption | omega) (rfl)) (csV_108 hts rfl rfl ⟨Nat.le_of_ble_eq_true rfl, Nat.le_of_ble_eq_true rfl⟩) (zPV2 (q0 := 0) (ci := 8) hPc hDc hK3 hXN rfl rfl) rfl rfl hl.1 rfl (lv_room (Nat.le_of_ble_eq_true rfl)) dX10_run_80 ⟨show 4 * cmd md6 ft ≤ 5 * ft + 2 by omega, show smd md6 (fun q => nN (mn q)) ft ≤ smd (fun _ => 1) (fun q => nN (mn q)) ft + 4 * ft + 805 by omega⟩) hS hFc hFc rfl (fun t H locs ht hB hk1 hS => ?_)
                      refine ex21 hB (fun nt66 TX66 TY66 rt66 nw66 WX66 WY66 rw66 nd66 P66 Q66 rd66 g066 g166 g266 g366 g466 g566 g666 g766 AR66 hB0 => ?_)
                      clear hB
                      obtain ⟨hP1, hD1⟩ := hB0
                      rw [ht] at hP1
                      obtain ⟨hP, hD⟩ := znP (W2 := [_, _, _, (oc6 tg (.ref tx) (.ref ty) (nI nt66) rt66), (oa tx cI 3 TX66), (oa ty cI 3 TY66), (oc6 wy (.ref wx) (.ref wz) (nI nw66) rw66), (oa wx cI 2 WX66), (oa wz cI 2 WY66), (oc6 dr (.ref dx) (.ref dy) (nI nd66) rd66), (oa dx cI cd P66), (oa dy cI cd Q66), (oc0 br g066 g166 g266 g366), (oc0 bo g466 g566 g666 g766), (oa aa cI 40 AR66), _, _, _, _, _, _, _, _, _, _]) hP hD hk1 hFc hP1 hD1 zl_66 zl_67 zl_67 zl_66 (by decide +kernel) rfl rfl rfl rfl rfl
                      clear hk1 hPc hDc hFc hP1 hD1 ht
                      refine lv_iadd hx hb dX10_run_83 ?_
                      refine zz_i (v := nI (tc6 + 0)) (nI_add tc6 0) ?_
                      refine lv_istore_n (lv' := [(2, .int (nI (tc6 + 0))), (6, .ref (fe g5)), (5, .int (nI g5)), (4, .int (nI tc5)), (3, .int (nI ps5)), (0, .ref x), (1, .int lim)]) hx hb dX10_run_84 rfl hl (Nat.le_of_ble_eq_true rfl) rfl (fun ls hl => ?_)
                      obtain ⟨hP, hD⟩ := pl_bk (X := [_, _, _, _, _, _, _, _, _, _, _, _, _, _, _, _, _]) hT_1 hP rfl hc9_1 hD0_1 rfl
                      obtain ⟨e2, e3, e4, e5, e6⟩ := plN_z hm0 hpl5
                      rw [e2, e3, e4] at hrP6
                      have hJ7 := hJ6
                      refine lv_iinc (v := nI (g5 + 1)) (lv' := [(5, .int (nI (g5 + 1))), (2, .int (nI (tc6 + 0))), (6, .ref (fe g5)), (4, .int (nI tc5)), (3, .int (nI ps5)), (0, .ref x), (1, .int lim)]) hx hb dX10_run_85 hl (k := 2) rfl (nI_add g5 1) (Nat.le_of_ble_eq_true rfl) rfl (fun ls hl => ?_)
                      refine lv_goto (tgt := 27) hx hb dX10_run_88 rfl ?_
                      refine W.widen (k := 4 * cmd md6 ft) (n := smd md6 (fun q => nN (mn q)) ft) (by omega) (by omega) ?_
                      exact ih_27 (g5 + 1) (tc6 + 0) t6 L6 f6 own6 nw6 md6 fm6 mnk cxk cyk nt66 TX66 TY66 rt66 nw66 WX66 WY66 rw66 nd66 P66 Q66 rd66 g066 g166 g266 g366 g466 g566 g666 g766 AR66 H locs ls (by first | with_reducible assumption | omega) (by first | with_reducible assumption | omega) (hJ7) (hrP6) (by first | with_reducible assumption | omega) hP hD hS (lv_sub hl [0, 3, 4, 1, 5, 6] rfl)
                  · skip
                    obtain ⟨n5, hpl5⟩ := hr15.1 ⟨hlv, by omega, by omega⟩
                    have hI5 := okA_th hok6 hlv hbd9
                    have hpe5 := plN_end _ _ _ _ _ _ _ _ _ hI5.1 hpl5
                    have hok7 := okA_s hok6 hlv hbd9 hpl5
                    refine ex13 (sh_fc hG6.1 hG6.2.1 (Nat.le_refl _) (show g5 < ft by omega) hlv.2.2) (fun lo5 lx5 ly5 ln5 LX5 LY5 we5 r5 rx5 ry5 cap5 X5 Y5 hc5 => ?_)
                    rw [((hM6 g5 (by omega)).2 (by omega)).1] at hc5
                    have hc5 := fc_1 hm6 hc5
                    have hb5 := hc5.2.2.1
                    have hbd := hc5.2.2.2.2.2 hbd9
                    have hn40 := hI5.1.2.1
                    have hc9_1 : inPl L6 f6 [(oc1 (fe g5) (rk g5) (wd g5) (tw g5) (pa g5) (pb g5) (.ref lo5) (.ref (nw6 g5)) (.ref (la dn g5))), (oc4 (nw6 g5) (kd g5) (st g5) (.ref r5) (gb g5) (it g5) (nI we5)), (oc6 r5 (.ref rx5) (.ref ry5) (nI (nN (mnk g5))) (rgK (kd g5).toInt)), (oa rx5 cI cap5 X5), (oa ry5 cI cap5 Y5), (oc6 lo5 (.ref lx5) (.ref ly5) (nI ln5) 0), (oa lx5 cI (cl g5) LX5), (oa ly5 cI (cl g5) LY5)] := ⟨ce_pl hc5.1.1, ce_pl hc5.1.2.1, ce_pl hc5.1.2.2.1.1, ce_pl hc5.1.2.2.1.2.1, ce_pl hc5.1.2.2.1.2.2.1, ce_pl hc5.1.2.2.2.1, ce_pl hc5.1.2.2.2.2.1, ce_pl hc5.1.2.2.2.2.2.1, trivial⟩
                    have hD0_1 := hD
                    obtain ⟨T_1, hT_1, hP, hD⟩ := pl_oT hP hD hc9_1 (pw8 hc5 (by omega))
                    obtain ⟨hP, hD⟩ := zre (W2 := ([_, _, _, _, _, _, _, _, _, _, _, _, _, _, _, _, _, _, _, _, _, _, _, _, _] ++ va_pl T_1 f6)) hP hD rfl
                    obtain ⟨hPc, hDc, hFc, hI1⟩ := zi_sub (wc := [_, _]) hP hD hS hA [15, 16] rfl rfl
                    refine zcall (st1 := [.ref (fe g5)]) (va_runV (As := [.int (nI g5)]) (rest := []) ⟨hx, hb, hml, hown, hts⟩ (k_Sheet_find l dC dI cI cZ cF H.size sh fa ft FA g5 (fe g5) (by first | with_reducible assumption | omega) (by first | with_reducible assumption | omega) (by first | exact hFA2 | exact hFA9 g5 (by first | with_reducible assumption | omega))) (csV_94 hts rfl rfl ⟨Nat.le_of_ble_eq_true rfl, Nat.le_of_ble_eq_true rfl⟩) (zPV2 (q0 := 0) (ci := 7) hPc hDc hK3 hXN rfl rfl) rfl rfl hl.1 rfl (lv_room (Nat.le_of_ble_eq_true rfl)) dX10_run_45 ⟨show 4 * cmd md6 ft ≤ 5 * ft + 2 by omega, show smd md6 (fun q => nN (mn q)) ft ≤ smd (fun _ => 1) (fun q => nN (mn q)) ft + 4 * ft + 805 by omega⟩) hS hFc hFc rfl (fun t H locs ht hB hk1 hS => ?_)
                    obtain ⟨hP1, hD1⟩ := hB
                    rw [ht] at hP1
                    replace hP := z0 hP hD hk1 hP1 hI1
                    clear hk1 hPc hDc hFc hP1 hD1 ht hI1
                    refine lv_astore (lv' := [(6, .ref (fe g5)), (5, .int (nI g5)), (4, .int (nI tc5)), (3, .int (nI ps5)), (2, .int (nI tc6)), (0, .ref x), (1, .int lim)]) hx hb dX10_run_48 hl (Nat.le_of_ble_eq_true rfl) rfl (fun ls hl => ?_)
                    refine lv_aload hx hb dX10_run_50 (lv_at hl 0 rfl) ?_
                    refine lv_ifnull hx hb dX10_run_52 ?_
                    refine lv_aload hx hb dX10_run_55 (lv_at hl 0 rfl) ?_
                    obtain ⟨hPc, hDc, hFc, hI1⟩ := zi_sub (wc := [_, _]) hP hD hS hA [17, 18] rfl rfl
                    refine zcall (st1 := [.int (pI (1 ≤ (kd g5).toInt ∧ (kd g5).toInt ≤ 5))]) (va_runV (As := []) (rest := []) ⟨hx, hb, hml, hown, hts⟩ (k_Feature_bends_f_r l dC dI cI cZ cF H.size (fe g5) lo5 (rk g5) (wd g5) (tw g5) (pa g5) (pb g5) (nw6 g5) (kd g5) (st g5) (gb g5) (it g5) (nI we5) r5 (la dn g5) ) (csV_97 hts rfl rfl ⟨Nat.le_of_ble_eq_true rfl, Nat.le_of_ble_eq_true rfl⟩) (zPV2 (q0 := 0) (ci := 1) hPc hDc hK3 hXN rfl rfl) rfl rfl hl.1 rfl (lv_room (Nat.le_of_ble_eq_true rfl)) dX10_run_57 ⟨show 4 * cmd md6 ft ≤ 5 * ft + 2 by omega, show smd md6 (fun q => nN (mn q)) ft ≤ smd (fun _ => 1) (fun q => nN (mn q)) ft + 4 * ft + 805 by omega⟩) hS hFc hFc rfl (fun t H locs ht hB hk1 hS => ?_)
                    obtain ⟨hP1, hD1⟩ := hB
                    rw [ht] at hP1
                    replace hP := z0 hP hD hk1 hP1 hI1
                    clear hk1 hPc hDc hFc hP1 hD1 ht hI1
                    refine lv_if_eq (tgt := 85) hx hb dX10_run_60 rfl (fun c_14 => ?_) (fun c_14 => ?_)
                    · have c_14 : ¬ (1 ≤ (kd g5).toInt ∧ (kd g5).toInt ≤ 5) := zp_0 c_14
                      exfalso; exact absurd hbd9 (by first | with_reducible assumption | assumption)
                    · have c_14 : 1 ≤ (kd g5).toInt ∧ (kd g5).toInt ≤ 5 := zp_1 c_14
                      refine lv_aload_n hx hb dX10_run_63 rfl (lv_at hl 5 rfl) ?_
                      refine va_get (D := (dC, dI)) (ci := 8) (v := .ref sh) (C := RX10) (T := TX10) (N := 13) hx hb hts inX10 hown hK hP 0 rfl rfl 0 (Nat.le_of_ble_eq_true rfl) (hts _ mw_309) (fun _ h9 => h9) rfl dX10_run_64 ?_
                      refine lv_iload hx hb dX10_run_67 (lv_at hl 1 rfl) ?_
                      obtain ⟨hPc, hDc, hFc, hI1⟩ := zi_sub (wc := [_, _, _, _]) hP hD hS hA [15, 16, 17, 18] (by decide +kernel) rfl
                      refine zcall (st1 := [.ref r5]) (va_runV (As := [.int (nI g5)]) (rest := []) ⟨hx, hb, hml, hown, hts⟩ (k_Sheet_rowThere_yv l dC dI cI cZ cF H.size sh fa ft FA g5 (fe g5) lo5 (rk g5) (wd g5) (tw g5) (pa g5) (pb g5) (nw6 g5) (kd g5) (st g5) (gb g5) (it g5) (nI we5) r5 (.ref (la dn g5)) (by first | with_reducible assumption | omega) (by first | with_reducible assumption | omega) (by first | exact hFA2 | exact hFA9 g5 (by first | with_reducible assumption | omega)) (by first | exact hlv.2.1 | omega)) (csV_144 hts rfl rfl ⟨Nat.le_of_ble_eq_true rfl, Nat.le_of_ble_eq_true rfl⟩) (zPV2 (q0 := 0) (ci := 7) hPc hDc hK3 hXN rfl rfl) rfl rfl hl.1 rfl (lv_room (Nat.le_of_ble_eq_true rfl)) dX10_run_69 ⟨show 4 * cmd md6 ft ≤ 5 * ft + 2 by omega, show smd md6 (fun q => nN (mn q)) ft ≤ smd (fun _ => 1) (fun q => nN (mn q)) ft + 4 * ft + 805 by omega⟩) hS hFc hFc rfl (fun t H locs ht hB hk1 hS => ?_)
                      obtain ⟨hP1, hD1⟩ := hB
                      rw [ht] at hP1
                      replace hP := z0 hP hD hk1 hP1 hI1
                      clear hk1 hPc hDc hFc hP1 hD1 ht hI1
                      refine lv_ifnull hx hb dX10_run_72 ?_
                      refine lv_iload_n hx hb dX10_run_75 rfl (lv_at hl 4 rfl) ?_
                      refine lv_aload_n hx hb dX10_run_76 rfl (lv_at hl 5 rfl) ?_
                      refine lv_aload hx hb dX10_run_77 (lv_at hl 0 rfl) ?_
                      refine lv_iload_n hx hb dX10_run_79 rfl (lv_at hl 6 rfl) ?_
                      obtain ⟨hPc, hDc, hFc⟩ := zo_part (cx := [_, _, _, _, _, _, _, _, _, _, _, _, _, _, _, _, _, _, _, _, _]) hP hD hS hA [0, 2, 3, 4, 5, 6, 7, 8, 9, 10, 11, 12, 13, 14, 15, 16, 17, 18, 19, 20, 21] (by decide +kernel) rfl
                      refine zcall (st1 := [.int 0, .int (nI tc6)]) (va_runV (As := [.ref (fe g5), .int lim]) (rest := [.int (nI tc6)]) ⟨hx, hb, hml, hown, hts⟩ (k_thin_z l dC dI cI cZ cF H.size x ro bq bp dq dp lv sl (nI dn) sd ul su lw dr tg wy br bo aa tx ty nt19 TX19 TY19 rt19 wx wz nw19 WX19 WY19 rw19 dx dy nd19 cd P19 Q19 rd19 d59 d69 d79 d89 e59 e69 e79 e89 AR19 sh fa ft FA (fe g5) lo5 (rk g5) (wd g5) (tw g5) (pa g5) (pb g5) (nw6 g5) (gb g5) (it g5) r5 rx5 ry5 (nN (mnk g5)) cap5 X5 Y5 g5 we5 LM 0 n5 T_1 f6 kd st tn mnk cxk cyk mn6 cx6 cy6 lim (.ref (la dn g5)) (by first | with_reducible assumption | omega) (by first | with_reducible assumption | omega) (hFA9 g5 (by first | with_reducible assumption | omega)) (by rw [← hT_1]; exact fc_vw hc5 (by first | with_reducible assumption | omega) (by first | with_reducible assumption | omega) hG6.1 hG6.2.1 hFA9 (Nat.le_refl _)) (hI5) (by first | exact hpl5 | (rw [hm0] at hpl5; exact hpl5)) (hL) (hc5.2.2.2.2.1) (by first | with_reducible assumption | omega) (by first | with_reducible assumption | omega) (rfl)) (csV_108 hts rfl rfl ⟨Nat.le_of_ble_eq_true rfl, Nat.le_of_ble_eq_true rfl⟩) (zPV2 (q0 := 0) (ci := 8) hPc hDc hK3 hXN rfl rfl) rfl rfl hl.1 rfl (lv_room (Nat.le_of_ble_eq_true rfl)) dX10_run_80 ⟨show 4 * cmd md6 ft ≤ 5 * ft + 2 by omega, show smd md6 (fun q => nN (mn q)) ft ≤ smd (fun _ => 1) (fun q => nN (mn q)) ft + 4 * ft + 805 by omega⟩) hS hFc hFc rfl (fun t H locs ht hB hk1 hS => ?_)
                      refine ex21 hB (fun nt66 TX66 TY66 rt66 nw66 WX66 WY66 rw66 nd66 P66 Q66 rd66 g066 g166 g266 g366 g466 g566 g666 g766 AR66 hB0 => ?_)
                      clear hB
                      obtain ⟨hP1, hD1⟩ := hB0
                      rw [ht] at hP1
                      obtain ⟨hP, hD⟩ := znP (W2 := [_, _, _, (oc6 tg (.ref tx) (.ref ty) (nI nt66) rt66), (oa tx cI 3 TX66), (oa ty cI 3 TY66), (oc6 wy (.ref wx) (.ref wz) (nI nw66) rw66), (oa wx cI 2 WX66), (oa wz cI 2 WY66), (oc6 dr (.ref dx) (.ref dy) (nI nd66) rd66), (oa dx cI cd P66), (oa dy cI cd Q66), (oc0 br g066 g166 g266 g366), (oc0 bo g466 g566 g666 g766), (oa aa cI 40 AR66), _, _, _, _, _, _, _, _, _, _]) hP hD hk1 hFc hP1 hD1 zl_66 zl_67 zl_67 zl_66 (by decide +kernel) rfl rfl rfl rfl rfl
                      clear hk1 hPc hDc hFc hP1 hD1 ht
                      refine lv_iadd hx hb dX10_run_83 ?_
                      refine zz_i (v := nI (tc6 + 0)) (nI_add tc6 0) ?_
                      refine lv_istore_n (lv' := [(2, .int (nI (tc6 + 0))), (6, .ref (fe g5)), (5, .int (nI g5)), (4, .int (nI tc5)), (3, .int (nI ps5)), (0, .ref x), (1, .int lim)]) hx hb dX10_run_84 rfl hl (Nat.le_of_ble_eq_true rfl) rfl (fun ls hl => ?_)
                      obtain ⟨hP, hD⟩ := pl_bk (X := [_, _, _, _, _, _, _, _, _, _, _, _, _, _, _, _, _]) hT_1 hP rfl hc9_1 hD0_1 rfl
                      obtain ⟨e2, e3, e4, e5, e6⟩ := plN_z hm0 hpl5
                      rw [e2, e3, e4] at hrP6
                      have hJ7 := hJ6
                      refine lv_iinc (v := nI (g5 + 1)) (lv' := [(5, .int (nI (g5 + 1))), (2, .int (nI (tc6 + 0))), (6, .ref (fe g5)), (4, .int (nI tc5)), (3, .int (nI ps5)), (0, .ref x), (1, .int lim)]) hx hb dX10_run_85 hl (k := 2) rfl (nI_add g5 1) (Nat.le_of_ble_eq_true rfl) rfl (fun ls hl => ?_)
                      refine lv_goto (tgt := 27) hx hb dX10_run_88 rfl ?_
                      refine W.widen (k := 4 * cmd md6 ft) (n := smd md6 (fun q => nN (mn q)) ft) (by omega) (by omega) ?_
                      exact ih_27 (g5 + 1) (tc6 + 0) t6 L6 f6 own6 nw6 md6 fm6 mnk cxk cyk nt66 TX66 TY66 rt66 nw66 WX66 WY66 rw66 nd66 P66 Q66 rd66 g066 g166 g266 g366 g466 g566 g666 g766 AR66 H locs ls (by first | with_reducible assumption | omega) (by first | with_reducible assumption | omega) (hJ7) (hrP6) (by first | with_reducible assumption | omega) hP hD hS (lv_sub hl [0, 3, 4, 1, 5, 6] rfl)
                  · skip
                    obtain ⟨n5, hpl5⟩ := hr15.1 ⟨hlv, by omega, by omega⟩
                    have hI5 := okA_th hok6 hlv hbd9
                    have hpe5 := plN_end _ _ _ _ _ _ _ _ _ hI5.1 hpl5
                    have hok7 := okA_s hok6 hlv hbd9 hpl5
                    refine ex13 (sh_fc hG6.1 hG6.2.1 (Nat.le_refl _) (show g5 < ft by omega) hlv.2.2) (fun lo5 lx5 ly5 ln5 LX5 LY5 we5 r5 rx5 ry5 cap5 X5 Y5 hc5 => ?_)
                    rw [((hM6 g5 (by omega)).1 hm6).1, hm6] at hc5
                    have hc5 := fc_0 hc5
                    have hmnq0 := hmn6 g5 hm6
                    have hmnN0 : nN (mnk g5) = nN (mn g5) := (by rw [hmnq0])
                    have hcu : cmd md6 ft + 1 ≤ ft := (by have h9 := cmd_le (upN md6 g5 1) ft; rw [cmd_s ft (by omega), if_pos hm6] at h9; exact h9)
                    have hsu : smd md6 (fun q => nN (mn q)) ft + (2 * nN (mn g5) + 10) ≤ smd (fun _ => 1) (fun q => nN (mn q)) ft := (by have h9 := smd_le (upN md6 g5 1) (fun q => nN (mn q)) ft; rw [smd_s ft (by omega), if_pos hm6] at h9; exact h9)
                    have hb5 := hc5.2.2.1
                    have hbd := hc5.2.2.2.2.2 hbd9
                    have hn40 := hI5.1.2.1
                    have hc9_1 : inPl L6 f6 [(oc1 (fe g5) (rk g5) (wd g5) (tw g5) (pa g5) (pb g5) (.ref lo5) (.ref (nw6 g5)) .null), (oc4 (nw6 g5) (kd g5) (st g5) (.ref r5) (gb g5) (it g5) (nI we5)), (oc6 r5 (.ref rx5) (.ref ry5) (nI (nN (mnk g5))) (rgK (kd g5).toInt)), (oa rx5 cI cap5 X5), (oa ry5 cI cap5 Y5), (oc6 lo5 (.ref lx5) (.ref ly5) (nI ln5) 0), (oa lx5 cI (cl g5) LX5), (oa ly5 cI (cl g5) LY5)] := ⟨ce_pl hc5.1.1, ce_pl hc5.1.2.1, ce_pl hc5.1.2.2.1.1, ce_pl hc5.1.2.2.1.2.1, ce_pl hc5.1.2.2.1.2.2.1, ce_pl hc5.1.2.2.2.1, ce_pl hc5.1.2.2.2.2.1, ce_pl hc5.1.2.2.2.2.2.1, trivial⟩
                    have hD0_1 := hD
                    obtain ⟨T_1, hT_1, hP, hD⟩ := pl_oT hP hD hc9_1 (pw8 hc5 (by omega))
                    obtain ⟨hP, hD⟩ := zre (W2 := ([_, _, _, _, _, _, _, _, _, _, _, _, _, _, _, _, _, _, _, _, _, _, _, _, _] ++ va_pl T_1 f6)) hP hD rfl
                    obtain ⟨hPc, hDc, hFc, hI1⟩ := zi_sub (wc := [_, _]) hP hD hS hA [15, 16] rfl rfl
                    refine zcall (st1 := [.ref (fe g5)]) (va_runV (As := [.int (nI g5)]) (rest := []) ⟨hx, hb, hml, hown, hts⟩ (k_Sheet_find l dC dI cI cZ cF H.size sh fa ft FA g5 (fe g5) (by first | with_reducible assumption | omega) (by first | with_reducible assumption | omega) (by first | exact hFA2 | exact hFA9 g5 (by first | with_reducible assumption | omega))) (csV_94 hts rfl rfl ⟨Nat.le_of_ble_eq_true rfl, Nat.le_of_ble_eq_true rfl⟩) (zPV2 (q0 := 0) (ci := 7) hPc hDc hK3 hXN rfl rfl) rfl rfl hl.1 rfl (lv_room (Nat.le_of_ble_eq_true rfl)) dX10_run_45 ⟨show 4 * cmd md6 ft ≤ 5 * ft + 2 by omega, show smd md6 (fun q => nN (mn q)) ft ≤ smd (fun _ => 1) (fun q => nN (mn q)) ft + 4 * ft + 805 by omega⟩) hS hFc hFc rfl (fun t H locs ht hB hk1 hS => ?_)
                    obtain ⟨hP1, hD1⟩ := hB
                    rw [ht] at hP1
                    replace hP := z0 hP hD hk1 hP1 hI1
                    clear hk1 hPc hDc hFc hP1 hD1 ht hI1
                    refine lv_astore (lv' := [(6, .ref (fe g5)), (5, .int (nI g5)), (4, .int (nI tc5)), (3, .int (nI ps5)), (2, .int (nI tc6)), (0, .ref x), (1, .int lim)]) hx hb dX10_run_48 hl (Nat.le_of_ble_eq_true rfl) rfl (fun ls hl => ?_)
                    refine lv_aload hx hb dX10_run_50 (lv_at hl 0 rfl) ?_
                    refine lv_ifnull hx hb dX10_run_52 ?_
                    refine lv_aload hx hb dX10_run_55 (lv_at hl 0 rfl) ?_
                    obtain ⟨hPc, hDc, hFc, hI1⟩ := zi_sub (wc := [_, _]) hP hD hS hA [17, 18] rfl rfl
                    refine zcall (st1 := [.int (pI (1 ≤ (kd g5).toInt ∧ (kd g5).toInt ≤ 5))]) (va_runV (As := []) (rest := []) ⟨hx, hb, hml, hown, hts⟩ (k_Feature_bends_r l dC dI cI cZ cF H.size (fe g5) lo5 (rk g5) (wd g5) (tw g5) (pa g5) (pb g5) (nw6 g5) (kd g5) (st g5) (gb g5) (it g5) (nI we5) r5 ) (csV_97 hts rfl rfl ⟨Nat.le_of_ble_eq_true rfl, Nat.le_of_ble_eq_true rfl⟩) (zPV2 (q0 := 0) (ci := 1) hPc hDc hK3 hXN rfl rfl) rfl rfl hl.1 rfl (lv_room (Nat.le_of_ble_eq_true rfl)) dX10_run_57 ⟨show 4 * cmd md6 ft ≤ 5 * ft + 2 by omega, show smd md6 (fun q => nN (mn q)) ft ≤ smd (fun _ => 1) (fun q => nN (mn q)) ft + 4 * ft + 805 by omega⟩) hS hFc hFc rfl (fun t H locs ht hB hk1 hS => ?_)
                    obtain ⟨hP1, hD1⟩ := hB
                    rw [ht] at hP1
                    replace hP := z0 hP hD hk1 hP1 hI1
                    clear hk1 hPc hDc hFc hP1 hD1 ht hI1
                    refine lv_if_eq (tgt := 85) hx hb dX10_run_60 rfl (fun c_15 => ?_) (fun c_15 => ?_)
                    · have c_15 : ¬ (1 ≤ (kd g5).toInt ∧ (kd g5).toInt ≤ 5) := zp_0 c_15
                      exfalso; exact absurd hbd9 (by first | with_reducible assumption | assumption)
                    · have c_15 : 1 ≤ (kd g5).toInt ∧ (kd g5).toInt ≤ 5 := zp_1 c_15
                      refine lv_aload_n hx hb dX10_run_63 rfl (lv_at hl 5 rfl) ?_
                      refine va_get (D := (dC, dI)) (ci := 8) (v := .ref sh) (C := RX10) (T := TX10) (N := 13) hx hb hts inX10 hown hK hP 0 rfl rfl 0 (Nat.le_of_ble_eq_true rfl) (hts _ mw_309) (fun _ h9 => h9) rfl dX10_run_64 ?_
                      refine lv_iload hx hb dX10_run_67 (lv_at hl 1 rfl) ?_
                      obtain ⟨hPc, hDc, hFc, hI1⟩ := zi_sub (wc := [_, _, _, _]) hP hD hS hA [15, 16, 17, 18] (by decide +kernel) rfl
                      refine zcall (st1 := [.ref r5]) (va_runV (As := [.int (nI g5)]) (rest := []) ⟨hx, hb, hml, hown, hts⟩ (k_Sheet_rowThere_yv l dC dI cI cZ cF H.size sh fa ft FA g5 (fe g5) lo5 (rk g5) (wd g5) (tw g5) (pa g5) (pb g5) (nw6 g5) (kd g5) (st g5) (gb g5) (it g5) (nI we5) r5 (.null) (by first | with_reducible assumption | omega) (by first | with_reducible assumption | omega) (by first | exact hFA2 | exact hFA9 g5 (by first | with_reducible assumption | omega)) (by first | exact hlv.2.1 | omega)) (csV_144 hts rfl rfl ⟨Nat.le_of_ble_eq_true rfl, Nat.le_of_ble_eq_true rfl⟩) (zPV2 (q0 := 0) (ci := 7) hPc hDc hK3 hXN rfl rfl) rfl rfl hl.1 rfl (lv_room (Nat.le_of_ble_eq_true rfl)) dX10_run_69 ⟨show 4 * cmd md6 ft ≤ 5 * ft + 2 by omega, show smd md6 (fun q => nN (mn q)) ft ≤ smd (fun _ => 1) (fun q => nN (mn q)) ft + 4 * ft + 805 by omega⟩) hS hFc hFc rfl (fun t H locs ht hB hk1 hS => ?_)
                      obtain ⟨hP1, hD1⟩ := hB
                      rw [ht] at hP1
                      replace hP := z0 hP hD hk1 hP1 hI1
                      clear hk1 hPc hDc hFc hP1 hD1 ht hI1
                      refine lv_ifnull hx hb dX10_run_72 ?_
                      refine lv_iload_n hx hb dX10_run_75 rfl (lv_at hl 4 rfl) ?_
                      refine lv_aload_n hx hb dX10_run_76 rfl (lv_at hl 5 rfl) ?_
                      refine lv_aload hx hb dX10_run_77 (lv_at hl 0 rfl) ?_
                      refine lv_iload_n hx hb dX10_run_79 rfl (lv_at hl 6 rfl) ?_
                      obtain ⟨hPc, hDc, hFc⟩ := zo_part (cx := [_, _, _, _, _, _, _, _, _, _, _, _, _, _, _, _, _, _, _, _, _, _, _, _]) hP hD hS hA [0, 2, 3, 4, 5, 6, 7, 8, 9, 10, 11, 12, 13, 14, 15, 16, 17, 18, 19, 20, 21, 22, 23, 24] (by decide +kernel) rfl
                      refine zcall (st1 := [.int (nI m5), .int (nI tc6)]) (va_runV (As := [.ref (fe g5), .int lim]) (rest := [.int (nI tc6)]) ⟨hx, hb, hml, hown, hts⟩ (k_thin_y l dC dI cI cZ cF H.size x ro bq bp dq dp lv sl (nI dn) sd ul su lw dr tg wy br bo aa tx ty nt19 TX19 TY19 rt19 wx wz nw19 WX19 WY19 rw19 dx dy nd19 cd P19 Q19 rd19 d59 d69 d79 d89 e59 e69 e79 e89 AR19 sh fa ft FA (fe g5) lo5 (rk g5) (wd g5) (tw g5) (pa g5) (pb g5) (nw6 g5) (gb g5) (it g5) r5 rx5 ry5 (nN (mnk g5)) cap5 X5 Y5 ln5 (cl g5) lx5 ly5 LX5 LY5 g5 we5 LM m5 n5 T_1 f6 kd st tn mnk cxk cyk mn6 cx6 cy6 lim (by first | with_reducible assumption | omega) (by first | with_reducible assumption | omega) (hFA9 g5 (by first | with_reducible assumption | omega)) (by rw [← hT_1]; exact fc_vw hc5 (by first | with_reducible assumption | omega) (by first | with_reducible assumption | omega) hG6.1 hG6.2.1 hFA9 (Nat.le_refl _)) (hI5) (by first | exact hpl5 | (rw [hm0] at hpl5; exact hpl5)) (hL) (hc5.2.2.2.2.1) (by first | with_reducible assumption | omega) (by first | with_reducible assumption | omega) (by first | with_reducible assumption | omega) (by first | with_reducible assumption | assumption)) (csV_108 hts rfl rfl ⟨Nat.le_of_ble_eq_true rfl, Nat.le_of_ble_eq_true rfl⟩) (zPV2 (q0 := 0) (ci := 8) hPc hDc hK3 hXN rfl rfl) rfl rfl hl.1 rfl (lv_room (Nat.le_of_ble_eq_true rfl)) dX10_run_80 ⟨show (4 * cmd md6 ft + 4) ≤ 5 * ft + 2 by omega, show (smd md6 (fun q => nN (mn q)) ft + (2 * (nN (mnk g5)) + 10)) ≤ smd (fun _ => 1) (fun q => nN (mn q)) ft + 4 * ft + 805 by omega⟩) hS hFc hFc rfl (fun t H locs ht hB hk1 hS => ?_)
                      refine ex30 hB (fun q7 w7 wx7 wy7 nt66 TX66 TY66 rt66 nw66 WX66 WY66 rw66 nd66 P66 Q66 rd66 g066 g166 g266 g366 g466 g566 g666 g766 AR66 X7 Y7 LX7 LY7 lc7 hB0 => ?_)
                      clear hB
                      obtain ⟨hXo7, hlc7, hP1, hD1⟩ := hB0
                      rw [ht] at hP1
                      obtain ⟨hP, hD⟩ := znP (W2 := [_, (oc8 x (.ref sh) (.ref lw) (.ref ro) (.ref bq) (.ref bp) (.ref dq) (.ref dp) (.ref lv) (.ref sl) (nI dn) sd ul su), (oc3 lw (.ref dr) (.ref tg) (.ref wy) (.ref br) (.ref bo) (.ref aa)), (oc6 tg (.ref tx) (.ref ty) (nI nt66) rt66), (oa tx cI 3 TX66), (oa ty cI 3 TY66), (oc6 wy (.ref wx) (.ref wz) (nI nw66) rw66), (oa wx cI 2 WX66), (oa wz cI 2 WY66), (oc6 dr (.ref dx) (.ref dy) (nI nd66) rd66), (oa dx cI cd P66), (oa dy cI cd Q66), (oc0 br g066 g166 g266 g366), (oc0 bo g466 g566 g666 g766), (oa aa cI 40 AR66), (oc7 sh (.ref fa) (nI ft)), (oq fa cF 200 FA), (oc1 (fe g5) (rk g5) (wd g5) (tw g5) (pa g5) (pb g5) (.ref lo5) (.ref q7) (.ref (nw6 g5))), (oc4 (nw6 g5) (kd g5) (st g5) (.ref r5) (gb g5) (it g5) (nI we5)), (oc6 r5 (.ref rx5) (.ref ry5) (nI (nN (mnk g5))) (rgK (kd g5).toInt)), (oa rx5 cI cap5 X5), (oa ry5 cI cap5 Y5), (oc4 q7 (kd g5) (st g5) (.ref w7) (gb g5) (it g5) (nI (we5 + m5))), (oc6 w7 (.ref wx7) (.ref wy7) (nI n5) (rgK (kd g5).toInt)), (oa wx7 cI (nN (mnk g5)) X7), (oa wy7 cI (nN (mnk g5)) Y7), (oc6 lo5 (.ref lx5) (.ref ly5) (nI lc7) 0), (oa lx5 cI (cl g5) LX7), (oa ly5 cI (cl g5) LY7)]) hP hD hk1 hFc hP1 hD1 zl_61 [false, true] zl_62 zl_63 (by decide +kernel) rfl rfl rfl rfl rfl
                      clear hk1 hPc hDc hFc hP1 hD1 ht
                      refine lv_iadd hx hb dX10_run_83 ?_
                      refine zz_i (v := nI (tc6 + m5)) (nI_add tc6 m5) ?_
                      refine lv_istore_n (lv' := [(2, .int (nI (tc6 + m5))), (6, .ref (fe g5)), (5, .int (nI g5)), (4, .int (nI tc5)), (3, .int (nI ps5)), (0, .ref x), (1, .int lim)]) hx hb dX10_run_84 rfl hl (Nat.le_of_ble_eq_true rfl) rfl (fun ls hl => ?_)
                      obtain ⟨hP, hD⟩ := zq_part (cx := [_, _, _, _, _, _, _, _, _, _, _, _, _, _, _, _, _, _, _, _, _, _, _, _, _, _, _, _, _]) hP hD [0, 1, 2, 3, 4, 5, 6, 7, 8, 9, 10, 11, 12, 13, 14, 15, 16, 17, 18, 19, 20, 21, 26, 27, 28, 22, 23, 24, 25] rfl rfl
                      obtain ⟨Lp1, fp1, hP, hD, hpin_1⟩ := pl_pn (X := [_, _, _, _, _, _, _, _, _, _, _, _, _, _, _, _, _]) (old := [_, _, _, _, _, _, _, _]) (new := [_, _, _, _]) (cs1 := [_, _, _, _, _, _, _, _, _, _, _, _]) (L := L6) (cs := [(oc1 (fe g5) (rk g5) (wd g5) (tw g5) (pa g5) (pb g5) (.ref lo5) (.ref (nw6 g5)) .null), (oc4 (nw6 g5) (kd g5) (st g5) (.ref r5) (gb g5) (it g5) (nI we5)), (oc6 r5 (.ref rx5) (.ref ry5) (nI (nN (mnk g5))) (rgK (kd g5).toInt)), (oa rx5 cI cap5 X5), (oa ry5 cI cap5 Y5), (oc6 lo5 (.ref lx5) (.ref ly5) (nI ln5) 0), (oa lx5 cI (cl g5) LX5), (oa ly5 cI (cl g5) LY5)]) hT_1 hP hD rfl rfl rfl
                      obtain ⟨hfr_1, hkp_1, hce_1, hsx_1, hpw_1⟩ := id hpin_1
                      obtain ⟨own7, nw7, md7, fm7, hG7, hM7, hmd7⟩ := M_resh (kd1 := kd) (st1 := st) (gb1 := gb) (it1 := it) (mn1 := mn6) (cx1 := cx6) (cy1 := cy6) hG6 hM6 hm6 (by omega) (by rw [← hft9]; omega) (by have := hlv.2.1; omega) (by have := hlv.2.1; omega) hlv.2.2 hc5 ⟨rfl, rfl, rfl, rfl⟩ hpin_1 (fun p hp => ⟨rfl, rfl, rfl, rfl, hpe5.2.2.1 p hp, fun k hk => hpe5.2.2.2.1 (40 * p + k) (by omega)⟩) rfl rfl rfl rfl rfl (by rw [hpe5.1.1]; exact nN_n9 (by have := hpe5.1.2.1; omega)) hXo7 (by omega) hlc7 (fun g => ⟨g, by omega⟩)
                      have hcl7 := cmd_le md7 ft
                      have hsl7 := smd_le md7 (fun q => nN (mn q)) ft
                      have hcm7 := cmd_s (md := md6) (q := g5) ft (by omega)
                      have hsm7 := smd_s (md := md6) (n0 := (fun q => nN (mn q))) (q := g5) ft (by omega)
                      rw [← hmd7, if_pos hm6] at hcm7 hsm7
                      have hmnq := hmn6 g5 hm6
                      have hmnN : nN (mnk g5) = nN (mn g5) := (by rw [hmnq])
                      have hsm7 : smd md7 (fun q => nN (mn q)) ft = smd md6 (fun q => nN (mn q)) ft + (2 * nN (mn g5) + 10) := hsm7
                      have hJ7 : (shG cI cO Lp1 fp1 e0 FA ea T own7 fe cl la nw7 md7 sp fm7 SA bs dn dn ft ft FT V VX VY tn rk wd tw pa pb wh of9 we kd st gb it mn6 cx6 cy6) ∧ (mdA dn ft FT la nw7 md7 fm7 V kd st gb it) ∧ (∀ q, md7 q ≤ 1) ∧ okA ft st tn kd mn6 cx6 cy6 ∧ (∀ q, md7 q = 0 → mn6 q = mn q) := ⟨hG7, hM7, fun q => by rw [hmd7]; by_cases e : q = g5; (rw [e, upN_at]; decide); (rw [upN_o e]; exact hmd6 q), hok7, fun q hq => by rw [hmd7] at hq; by_cases e : q = g5; (rw [e, upN_at] at hq; exact absurd hq (by decide)); (rw [upN_o e] at hq; rw [hpe5.2.2.1 q e]; exact hmn6 q hq)⟩
                      refine lv_iinc (v := nI (g5 + 1)) (lv' := [(5, .int (nI (g5 + 1))), (2, .int (nI (tc6 + m5))), (6, .ref (fe g5)), (4, .int (nI tc5)), (3, .int (nI ps5)), (0, .ref x), (1, .int lim)]) hx hb dX10_run_85 hl (k := 2) rfl (nI_add g5 1) (Nat.le_of_ble_eq_true rfl) rfl (fun ls hl => ?_)
                      refine lv_goto (tgt := 27) hx hb dX10_run_88 rfl ?_
                      obtain ⟨hP, hD⟩ := zq_part (cx := [_, _, _, _, _, _, _, _, _, _, _, _, _, _, _, _, _]) hP hD [1, 0, 2, 3, 4, 5, 6, 7, 8, 9, 10, 11, 12, 13, 14, 15, 16] rfl rfl
                      refine W.widen (k := 4 * cmd md7 ft) (n := smd md7 (fun q => nN (mn q)) ft) (by omega) (by omega) ?_
                      exact ih_27 (g5 + 1) (tc6 + m5) t6 Lp1 fp1 own7 nw7 md7 fm7 mn6 cx6 cy6 nt66 TX66 TY66 rt66 nw66 WX66 WY66 rw66 nd66 P66 Q66 rd66 g066 g166 g266 g366 g466 g566 g666 g766 AR66 H locs ls (by first | with_reducible assumption | omega) (by first | with_reducible assumption | omega) (hJ7) (hrP6) (by first | with_reducible assumption | omega) hP hD hS (lv_sub hl [0, 3, 4, 1, 5, 6] rfl)
                  · skip
                    obtain ⟨n5, hpl5⟩ := hr15.1 ⟨hlv, by omega, by omega⟩
                    have hI5 := okA_th hok6 hlv hbd9
                    have hpe5 := plN_end _ _ _ _ _ _ _ _ _ hI5.1 hpl5
                    have hok7 := okA_s hok6 hlv hbd9 hpl5
                    refine ex13 (sh_fc hG6.1 hG6.2.1 (Nat.le_refl _) (show g5 < ft by omega) hlv.2.2) (fun lo5 lx5 ly5 ln5 LX5 LY5 we5 r5 rx5 ry5 cap5 X5 Y5 hc5 => ?_)
                    rw [((hM6 g5 (by omega)).2 (by omega)).1] at hc5
                    have hc5 := fc_1 hm6 hc5
                    have hb5 := hc5.2.2.1
                    have hbd := hc5.2.2.2.2.2 hbd9
                    have hn40 := hI5.1.2.1
                    have hc9_1 : inPl L6 f6 [(oc1 (fe g5) (rk g5) (wd g5) (tw g5) (pa g5) (pb g5) (.ref lo5) (.ref (nw6 g5)) (.ref (la dn g5))), (oc4 (nw6 g5) (kd g5) (st g5) (.ref r5) (gb g5) (it g5) (nI we5)), (oc6 r5 (.ref rx5) (.ref ry5) (nI (nN (mnk g5))) (rgK (kd g5).toInt)), (oa rx5 cI cap5 X5), (oa ry5 cI cap5 Y5), (oc6 lo5 (.ref lx5) (.ref ly5) (nI ln5) 0), (oa lx5 cI (cl g5) LX5), (oa ly5 cI (cl g5) LY5)] := ⟨ce_pl hc5.1.1, ce_pl hc5.1.2.1, ce_pl hc5.1.2.2.1.1, ce_pl hc5.1.2.2.1.2.1, ce_pl hc5.1.2.2.1.2.2.1, ce_pl hc5.1.2.2.2.1, ce_pl hc5.1.2.2.2.2.1, ce_pl hc5.1.2.2.2.2.2.1, trivial⟩
                    have hD0_1 := hD
                    obtain ⟨T_1, hT_1, hP, hD⟩ := pl_oT hP hD hc9_1 (pw8 hc5 (by omega))
                    obtain ⟨hP, hD⟩ := zre (W2 := ([_, _, _, _, _, _, _, _, _, _, _, _, _, _, _, _, _, _, _, _, _, _, _, _, _] ++ va_pl T_1 f6)) hP hD rfl
                    obtain ⟨hPc, hDc, hFc, hI1⟩ := zi_sub (wc := [_, _]) hP hD hS hA [15, 16] rfl rfl
                    refine zcall (st1 := [.ref (fe g5)]) (va_runV (As := [.int (nI g5)]) (rest := []) ⟨hx, hb, hml, hown, hts⟩ (k_Sheet_find l dC dI cI cZ cF H.size sh fa ft FA g5 (fe g5) (by first | with_reducible assumption | omega) (by first | with_reducible assumption | omega) (by first | exact hFA2 | exact hFA9 g5 (by first | with_reducible assumption | omega))) (csV_94 hts rfl rfl ⟨Nat.le_of_ble_eq_true rfl, Nat.le_of_ble_eq_true rfl⟩) (zPV2 (q0 := 0) (ci := 7) hPc hDc hK3 hXN rfl rfl) rfl rfl hl.1 rfl (lv_room (Nat.le_of_ble_eq_true rfl)) dX10_run_45 ⟨show 4 * cmd md6 ft ≤ 5 * ft + 2 by omega, show smd md6 (fun q => nN (mn q)) ft ≤ smd (fun _ => 1) (fun q => nN (mn q)) ft + 4 * ft + 805 by omega⟩) hS hFc hFc rfl (fun t H locs ht hB hk1 hS => ?_)
                    obtain ⟨hP1, hD1⟩ := hB
                    rw [ht] at hP1
                    replace hP := z0 hP hD hk1 hP1 hI1
                    clear hk1 hPc hDc hFc hP1 hD1 ht hI1
                    refine lv_astore (lv' := [(6, .ref (fe g5)), (5, .int (nI g5)), (4, .int (nI tc5)), (3, .int (nI ps5)), (2, .int (nI tc6)), (0, .ref x), (1, .int lim)]) hx hb dX10_run_48 hl (Nat.le_of_ble_eq_true rfl) rfl (fun ls hl => ?_)
                    refine lv_aload hx hb dX10_run_50 (lv_at hl 0 rfl) ?_
                    refine lv_ifnull hx hb dX10_run_52 ?_
                    refine lv_aload hx hb dX10_run_55 (lv_at hl 0 rfl) ?_
                    obtain ⟨hPc, hDc, hFc, hI1⟩ := zi_sub (wc := [_, _]) hP hD hS hA [17, 18] rfl rfl
                    refine zcall (st1 := [.int (pI (1 ≤ (kd g5).toInt ∧ (kd g5).toInt ≤ 5))]) (va_runV (As := []) (rest := []) ⟨hx, hb, hml, hown, hts⟩ (k_Feature_bends_f_r l dC dI cI cZ cF H.size (fe g5) lo5 (rk g5) (wd g5) (tw g5) (pa g5) (pb g5) (nw6 g5) (kd g5) (st g5) (gb g5) (it g5) (nI we5) r5 (la dn g5) ) (csV_97 hts rfl rfl ⟨Nat.le_of_ble_eq_true rfl, Nat.le_of_ble_eq_true rfl⟩) (zPV2 (q0 := 0) (ci := 1) hPc hDc hK3 hXN rfl rfl) rfl rfl hl.1 rfl (lv_room (Nat.le_of_ble_eq_true rfl)) dX10_run_57 ⟨show 4 * cmd md6 ft ≤ 5 * ft + 2 by omega, show smd md6 (fun q => nN (mn q)) ft ≤ smd (fun _ => 1) (fun q => nN (mn q)) ft + 4 * ft + 805 by omega⟩) hS hFc hFc rfl (fun t H locs ht hB hk1 hS => ?_)
                    obtain ⟨hP1, hD1⟩ := hB
                    rw [ht] at hP1
                    replace hP := z0 hP hD hk1 hP1 hI1
                    clear hk1 hPc hDc hFc hP1 hD1 ht hI1
                    refine lv_if_eq (tgt := 85) hx hb dX10_run_60 rfl (fun c_16 => ?_) (fun c_16 => ?_)
                    · have c_16 : ¬ (1 ≤ (kd g5).toInt ∧ (kd g5).toInt ≤ 5) := zp_0 c_16
                      exfalso; exact absurd hbd9 (by first | with_reducible assumption | assumption)
                    · have c_16 : 1 ≤ (kd g5).toInt ∧ (kd g5).toInt ≤ 5 := zp_1 c_16
                      refine lv_aload_n hx hb dX10_run_63 rfl (lv_at hl 5 rfl) ?_
                      refine va_get (D := (dC, dI)) (ci := 8) (v := .ref sh) (C := RX10) (T := TX10) (N := 13) hx hb hts inX10 hown hK hP 0 rfl rfl 0 (Nat.le_of_ble_eq_true rfl) (hts _ mw_309) (fun _ h9 => h9) rfl dX10_run_64 ?_
                      refine lv_iload hx hb dX10_run_67 (lv_at hl 1 rfl) ?_
                      obtain ⟨hPc, hDc, hFc, hI1⟩ := zi_sub (wc := [_, _, _, _]) hP hD hS hA [15, 16, 17, 18] (by decide +kernel) rfl
                      refine zcall (st1 := [.ref r5]) (va_runV (As := [.int (nI g5)]) (rest := []) ⟨hx, hb, hml, hown, hts⟩ (k_Sheet_rowThere_yv l dC dI cI cZ cF H.size sh fa ft FA g5 (fe g5) lo5 (rk g5) (wd g5) (tw g5) (pa g5) (pb g5) (nw6 g5) (kd g5) (st g5) (gb g5) (it g5) (nI we5) r5 (.ref (la dn g5)) (by first | with_reducible assumption | omega) (by first | with_reducible assumption | omega) (by first | exact hFA2 | exact hFA9 g5 (by first | with_reducible assumption | omega)) (by first | exact hlv.2.1 | omega)) (csV_144 hts rfl rfl ⟨Nat.le_of_ble_eq_true rfl, Nat.le_of_ble_eq_true rfl⟩) (zPV2 (q0 := 0) (ci := 7) hPc hDc hK3 hXN rfl rfl) rfl rfl hl.1 rfl (lv_room (Nat.le_of_ble_eq_true rfl)) dX10_run_69 ⟨show 4 * cmd md6 ft ≤ 5 * ft + 2 by omega, show smd md6 (fun q => nN (mn q)) ft ≤ smd (fun _ => 1) (fun q => nN (mn q)) ft + 4 * ft + 805 by omega⟩) hS hFc hFc rfl (fun t H locs ht hB hk1 hS => ?_)
                      obtain ⟨hP1, hD1⟩ := hB
                      rw [ht] at hP1
                      replace hP := z0 hP hD hk1 hP1 hI1
                      clear hk1 hPc hDc hFc hP1 hD1 ht hI1
                      refine lv_ifnull hx hb dX10_run_72 ?_
                      refine lv_iload_n hx hb dX10_run_75 rfl (lv_at hl 4 rfl) ?_
                      refine lv_aload_n hx hb dX10_run_76 rfl (lv_at hl 5 rfl) ?_
                      refine lv_aload hx hb dX10_run_77 (lv_at hl 0 rfl) ?_
                      refine lv_iload_n hx hb dX10_run_79 rfl (lv_at hl 6 rfl) ?_
                      obtain ⟨hPc, hDc, hFc⟩ := zo_part (cx := [_, _, _, _, _, _, _, _, _, _, _, _, _, _, _, _, _, _, _, _, _, _, _, _]) hP hD hS hA [0, 2, 3, 4, 5, 6, 7, 8, 9, 10, 11, 12, 13, 14, 15, 16, 17, 18, 19, 20, 21, 22, 23, 24] (by decide +kernel) rfl
                      refine zcall (st1 := [.int (nI m5), .int (nI tc6)]) (va_runV (As := [.ref (fe g5), .int lim]) (rest := [.int (nI tc6)]) ⟨hx, hb, hml, hown, hts⟩ (k_thin_f l dC dI cI cZ cF H.size x ro bq bp dq dp lv sl (nI dn) sd ul su lw dr tg wy br bo aa tx ty nt19 TX19 TY19 rt19 wx wz nw19 WX19 WY19 rw19 dx dy nd19 cd P19 Q19 rd19 d59 d69 d79 d89 e59 e69 e79 e89 AR19 sh fa ft FA (fe g5) lo5 (rk g5) (wd g5) (tw g5) (pa g5) (pb g5) (nw6 g5) (gb g5) (it g5) r5 rx5 ry5 (nN (mnk g5)) cap5 X5 Y5 ln5 (cl g5) lx5 ly5 LX5 LY5 g5 we5 LM m5 n5 T_1 f6 kd st tn mnk cxk cyk mn6 cx6 cy6 lim (la dn g5) (by first | with_reducible assumption | omega) (by first | with_reducible assumption | omega) (hFA9 g5 (by first | with_reducible assumption | omega)) (by rw [← hT_1]; exact fc_vw hc5 (by first | with_reducible assumption | omega) (by first | with_reducible assumption | omega) hG6.1 hG6.2.1 hFA9 (Nat.le_refl _)) (hI5) (by first | exact hpl5 | (rw [hm0] at hpl5; exact hpl5)) (hL) (hc5.2.2.2.2.1) (by first | with_reducible assumption | omega) (by first | with_reducible assumption | omega) (by first | with_reducible assumption | omega) ((pls_cg hc5.2.2.2.2.1).mpr hI5.1.2.2.1) (hc5.2.1.1)) (csV_108 hts rfl rfl ⟨Nat.le_of_ble_eq_true rfl, Nat.le_of_ble_eq_true rfl⟩) (zPV2 (q0 := 0) (ci := 8) hPc hDc hK3 hXN rfl rfl) rfl rfl hl.1 rfl (lv_room (Nat.le_of_ble_eq_true rfl)) dX10_run_80 ⟨show 4 * cmd md6 ft ≤ 5 * ft + 2 by omega, show smd md6 (fun q => nN (mn q)) ft ≤ smd (fun _ => 1) (fun q => nN (mn q)) ft + 4 * ft + 805 by omega⟩) hS hFc hFc rfl (fun t H locs ht hB hk1 hS => ?_)
                      refine ex26 hB (fun nt66 TX66 TY66 rt66 nw66 WX66 WY66 rw66 nd66 P66 Q66 rd66 g066 g166 g266 g366 g466 g566 g666 g766 AR66 X7 Y7 LX7 LY7 lc7 hB0 => ?_)
                      clear hB
                      obtain ⟨hXo7, hlc7, hP1, hD1⟩ := hB0
                      rw [ht] at hP1
                      obtain ⟨hP, hD⟩ := znP (W2 := [_, _, _, (oc6 tg (.ref tx) (.ref ty) (nI nt66) rt66), (oa tx cI 3 TX66), (oa ty cI 3 TY66), (oc6 wy (.ref wx) (.ref wz) (nI nw66) rw66), (oa wx cI 2 WX66), (oa wz cI 2 WY66), (oc6 dr (.ref dx) (.ref dy) (nI nd66) rd66), (oa dx cI cd P66), (oa dy cI cd Q66), (oc0 br g066 g166 g266 g366), (oc0 bo g466 g566 g666 g766), (oa aa cI 40 AR66), _, _, _, (oc4 (nw6 g5) (kd g5) (st g5) (.ref r5) (gb g5) (it g5) (nI (we5 + m5))), (oc6 r5 (.ref rx5) (.ref ry5) (nI n5) (rgK (kd g5).toInt)), (oa rx5 cI cap5 X7), (oa ry5 cI cap5 Y7), (oc6 lo5 (.ref lx5) (.ref ly5) (nI lc7) 0), (oa lx5 cI (cl g5) LX7), (oa ly5 cI (cl g5) LY7)]) hP hD hk1 hFc hP1 hD1 zl_61 [false, true] zl_124 zl_61 (by decide +kernel) rfl rfl rfl rfl rfl
                      clear hk1 hPc hDc hFc hP1 hD1 ht
                      refine lv_iadd hx hb dX10_run_83 ?_
                      refine zz_i (v := nI (tc6 + m5)) (nI_add tc6 m5) ?_
                      refine lv_istore_n (lv' := [(2, .int (nI (tc6 + m5))), (6, .ref (fe g5)), (5, .int (nI g5)), (4, .int (nI tc5)), (3, .int (nI ps5)), (0, .ref x), (1, .int lim)]) hx hb dX10_run_84 rfl hl (Nat.le_of_ble_eq_true rfl) rfl (fun ls hl => ?_)
                      obtain ⟨Lp1, fp1, hP, hD, hpin_1⟩ := pl_pn (X := [_, _, _, _, _, _, _, _, _, _, _, _, _, _, _, _, _]) (old := [_, _, _, _, _, _, _, _]) (new := []) (cs1 := [_, _, _, _, _, _, _, _]) (L := L6) (cs := [(oc1 (fe g5) (rk g5) (wd g5) (tw g5) (pa g5) (pb g5) (.ref lo5) (.ref (nw6 g5)) (.ref (la dn g5))), (oc4 (nw6 g5) (kd g5) (st g5) (.ref r5) (gb g5) (it g5) (nI we5)), (oc6 r5 (.ref rx5) (.ref ry5) (nI (nN (mnk g5))) (rgK (kd g5).toInt)), (oa rx5 cI cap5 X5), (oa ry5 cI cap5 Y5), (oc6 lo5 (.ref lx5) (.ref ly5) (nI ln5) 0), (oa lx5 cI (cl g5) LX5), (oa ly5 cI (cl g5) LY5)]) hT_1 hP hD rfl rfl rfl
                      obtain ⟨hfr_1, hkp_1, hce_1, hsx_1, hpw_1⟩ := id hpin_1
                      obtain ⟨own7, nw7, md7, fm7, hG7, hM7, hmd7⟩ := M_thf (mn1 := mn6) (cx1 := cx6) (cy1 := cy6) hG6 hM6 hm6 (by omega) hlv.2.2 hbd9 hc5 hpin_1 (fun p hp => ⟨rfl, rfl, rfl, rfl, hpe5.2.2.1 p hp, fun k hk => hpe5.2.2.2.1 (40 * p + k) (by omega)⟩) (by rw [hpe5.1.1]; exact nN_n9 (by have := hpe5.1.2.1; omega)) hXo7 (by omega) hlc7
                      have hcl7 := cmd_le md7 ft
                      have hsl7 := smd_le md7 (fun q => nN (mn q)) ft
                      have hcm7 := cmd_s (md := md6) (q := g5) ft (by omega)
                      have hsm7 := smd_s (md := md6) (n0 := (fun q => nN (mn q))) (q := g5) ft (by omega)
                      rw [← hmd7, if_neg (by omega)] at hcm7 hsm7
                      have hJ7 : (shG cI cO Lp1 fp1 e0 FA ea T own7 fe cl la nw7 md7 sp fm7 SA bs dn dn ft ft FT V VX VY tn rk wd tw pa pb wh of9 we kd st gb it mn6 cx6 cy6) ∧ (mdA dn ft FT la nw7 md7 fm7 V kd st gb it) ∧ (∀ q, md7 q ≤ 1) ∧ okA ft st tn kd mn6 cx6 cy6 ∧ (∀ q, md7 q = 0 → mn6 q = mn q) := ⟨hG7, hM7, fun q => by rw [hmd7]; by_cases e : q = g5; (rw [e, upN_at]; decide); (rw [upN_o e]; exact hmd6 q), hok7, fun q hq => by rw [hmd7] at hq; by_cases e : q = g5; (rw [e, upN_at] at hq; exact absurd hq (by decide)); (rw [upN_o e] at hq; rw [hpe5.2.2.1 q e]; exact hmn6 q hq)⟩
                      refine lv_iinc (v := nI (g5 + 1)) (lv' := [(5, .int (nI (g5 + 1))), (2, .int (nI (tc6 + m5))), (6, .ref (fe g5)), (4, .int (nI tc5)), (3, .int (nI ps5)), (0, .ref x), (1, .int lim)]) hx hb dX10_run_85 hl (k := 2) rfl (nI_add g5 1) (Nat.le_of_ble_eq_true rfl) rfl (fun ls hl => ?_)
                      refine lv_goto (tgt := 27) hx hb dX10_run_88 rfl ?_
                      refine W.widen (k := 4 * cmd md7 ft) (n := smd md7 (fun q => nN (mn q)) ft) (by omega) (by omega) ?_
                      exact ih_27 (g5 + 1) (tc6 + m5) t6 Lp1 fp1 own7 nw7 md7 fm7 mn6 cx6 cy6 nt66 TX66 TY66 rt66 nw66 WX66 WY66 rw66 nd66 P66 Q66 rd66 g066 g166 g266 g366 g466 g566 g666 g766 AR66 H locs ls (by first | with_reducible assumption | omega) (by first | with_reducible assumption | omega) (hJ7) (hrP6) (by first | with_reducible assumption | omega) hP hD hS (lv_sub hl [0, 3, 4, 1, 5, 6] rfl)
          refine W.widen (k := 4 * cmd md5 ft) (n := smd md5 (fun q => nN (mn q)) ft) (by omega) (by omega) ?_
          exact hl_27 _ 0 tc5 tp5 L5 f5 own5 nw5 md5 fm5 mnj cxj cyj nt1 TX1 TY1 rt1 nw1 WX1 WY1 rw1 nd1 P1 Q1 rd1 d5 d6 d7 d8 e5 e6 e7 e8 AR1 H locs ls (Nat.lt_succ_self _) (by first | with_reducible assumption | omega) (hJ5) (hrP0) (by first | with_reducible assumption | omega) hP hD hS (lv_sub hl [0, 1, 2, 3, 4, 5] rfl)
    refine W.widen (k := 4 * cmd (fun _ => 0) ft) (n := smd (fun _ => 0) (fun q => nN (mn q)) ft) (by omega) (by omega) ?_
    exact hl_14 _ 0 0 P9 L f own (la dn) (fun _ => 0) (fun _ => Value.null) mn cx cy nt TX TY rt nw WX WY rw nd P Q rd b1 b2 b3 b4 b5 b6 b7 b8 AR s.heap [] ls (Nat.lt_succ_self _) (by first | with_reducible assumption | omega) (⟨hG, hM, fun _ => Nat.zero_le _, hok, fun _ _ => rfl⟩) (Or.inl ⟨rfl, TT, hrun, by omega⟩) hP hD hS (lv_sub hl [0, 1, 2, 3] rfl)
  · have c_1 : lim.toInt < 0 := zc_nle rfl rfl c_1
    exfalso; omega
end
section
set_option maxHeartbeats 4000000 in
set_option maxRecDepth 100000 in
theorem k_done_r (l : Launch) (dC : Nat → ClassId) (dI : Nat → Nat → Nat) (cI cZ cF : ClassId) (sz : Nat) (x : Nat) (sh : Nat) (lw : Nat) (ro : Nat) (bq : Nat) (bp : Nat) (dq : Nat) (dp : Nat) (lv : Nat) (sl : Nat) (sd : Int32) (ul : Int32) (su : Int32) (ds : Int32) (fa : Nat) (ft : Nat) (FA : Nat → Option Nat) (f0 : Nat) (L : List Nat) (f : Nat → va_E) (kd : Nat → Int32) (st : Nat → Int32) (tn : Nat → Int32) (mn : Nat → Int32) (cx : Nat → Int32) (cy : Nat → Int32) (h200 : ft ≤ 200) (hf0 : f0 < ft) (hvw : ∀ q, q < ft → vwO cI L f FA kd st tn mn cx cy q) (hn1 : (kd f0).toInt = 0 → nN (mn f0) ≤ 1) (hpl : (tn f0).toInt = 0 → pls (nN (mn f0)) (cF40 cx f0) (cF40 cy f0)) (hbad : ¬ ((st f0).toInt = 0 ∧ (tn f0).toInt = 0 ∧ mSm (kd f0).toInt (nN (mn f0)) (cF40 cx f0) (cF40 cy f0))) : zM l yX10_done cX10_done 4 (some .boolean) ({ frames := 3, cells := 0, slots := 0, locals := 83 } : Room) [.ref x, .int (nI f0)] (dC, dI) (zTy cI cZ cF) ([(oc8 x (.ref sh) (.ref lw) (.ref ro) (.ref bq) (.ref bp) (.ref dq) (.ref dp) (.ref lv) (.ref sl) ds sd ul su), (oc7 sh (.ref fa) (nI ft)), (oq fa cF 200 FA)] ++ va_pl L f) sz (some (.int 0)) (fun A t => ∃ (su1 : Int32), zPD (dC, dI) classes A ([(oc8 x (.ref sh) (.ref lw) (.ref ro) (.ref bq) (.ref bp) (.ref dq) (.ref dp) (.ref lv) (.ref sl) ds sd ul su1), (oc7 sh (.ref fa) (nI ft)), (oq fa cF 200 FA)] ++ va_pl L f) t.heap) 0 0 := by
  refine zIn (own := "ScaleShop") (loc := [(0, .ref x), (1, .int (nI f0))]) rfl rfl rfl rfl (fun p e s m below meth c hx hb hr hts hown hlocks hml hnm9 A hA hS hP hD hK hXN Q9 hQ9 ls hl => ?_)
  have hfw9 : (if (kd f0).toInt = 0 then 1 else if (kd f0).toInt < 5 then 2 else 3) ≤ 3 := (by split; omega; split <;> omega)
  rcases vw2 (hvw f0 (show f0 < ft by omega)) with ⟨ht2, fe2, lk2, lo2, rk2, wd2, tw2, pa2, pb2, gb2, jt2, we2, fm2, hFA2, hfe2, hlk2⟩ | ⟨ht2, fe2, lk2, lo2, rk2, wd2, tw2, pa2, pb2, gb2, jt2, we2, fm2, r2, rx2, ry2, cap2, U2, V2, rg2, hFA2, hfe2, hlk2, ⟨hr2, hrx2, hry2, hne2⟩, hrr2⟩
  · skip
    have hc9_1 : inPl L f [(oc1 fe2 rk2 wd2 tw2 pa2 pb2 (.ref lo2) (.ref lk2) fm2), (oc4 lk2 (kd f0) (st f0) .null gb2 jt2 we2)] := ⟨hfe2, hlk2, trivial⟩
    have hD0_1 := hD
    obtain ⟨T_1, hT_1, hP, hD⟩ := pl_oT hP hD hc9_1 (pwF hfe2.2 hlk2.2)
    obtain ⟨hP, hD⟩ := zre (W2 := ([_, _, _, _, _] ++ va_pl T_1 f)) hP hD rfl
    refine lv_aload_n hx hb dX10_done_0 rfl (lv_at hl 0 rfl) ?_
    refine va_get (D := (dC, dI)) (ci := 8) (v := .ref sh) (C := RX10) (T := TX10) (N := 13) hx hb hts inX10 hown hK hP 0 rfl rfl 0 (Nat.le_of_ble_eq_true rfl) (hts _ mw_309) (fun _ h9 => h9) rfl dX10_done_1 ?_
    refine lv_iload_n hx hb dX10_done_4 rfl (lv_at hl 1 rfl) ?_
    obtain ⟨hPc, hDc, hFc, hI1⟩ := zi_sub (wc := [_, _]) hP hD hS hA [1, 2] rfl rfl
    refine zcall (st1 := [.ref fe2]) (va_runV (As := [.int (nI f0)]) (rest := []) ⟨hx, hb, hml, hown, hts⟩ (k_Sheet_find l dC dI cI cZ cF s.heap.size sh fa ft FA f0 fe2 (by first | with_reducible assumption | omega) (by first | with_reducible assumption | omega) (hFA2)) (csV_94 hts rfl rfl ⟨Nat.le_of_ble_eq_true rfl, Nat.le_of_ble_eq_true rfl⟩) (zPV2 (q0 := 0) (ci := 7) hPc hDc hK hXN rfl rfl) rfl rfl hl.1 rfl (lv_room (Nat.le_of_ble_eq_true rfl)) dX10_done_5 ⟨Nat.le_of_ble_eq_true rfl, Nat.le_of_ble_eq_true rfl⟩) hS hFc hFc rfl (fun t H locs ht hB hk1 hS => ?_)
    obtain ⟨hP1, hD1⟩ := hB
    rw [ht] at hP1
    replace hP := z0 hP hD hk1 hP1 hI1
    clear hk1 hPc hDc hFc hP1 hD1 ht hI1
    refine lv_astore_n (lv' := [(2, .ref fe2), (0, .ref x), (1, .int (nI f0))]) hx hb dX10_done_8 rfl hl (Nat.le_of_ble_eq_true rfl) rfl (fun ls hl => ?_)
    refine lv_aload_n hx hb dX10_done_9 rfl (lv_at hl 0 rfl) ?_
    refine lv_ifnonnull (tgt := 19) hx hb dX10_done_10 rfl ?_
    refine lv_aload_n hx hb dX10_done_19 rfl (lv_at hl 0 rfl) ?_
    refine va_get (D := (dC, dI)) (ci := 1) (v := .ref lk2) (C := RX2) (T := TX2) (N := 8) hx hb hts inX2 hown hK hP 3 rfl rfl 6 (Nat.le_of_ble_eq_true rfl) (hts _ mw_433) (fun _ h9 => h9) rfl dX10_done_20 ?_
    refine va_get (D := (dC, dI)) (ci := 4) (v := .int (st f0)) (C := RX5) (T := TX5) (N := 6) hx hb hts inX5 hown hK hP 4 rfl rfl 1 (Nat.le_of_ble_eq_true rfl) (hts _ mw_385) (fun _ h9 => h9) rfl dX10_done_23 ?_
    refine lv_if_eq (tgt := 35) hx hb dX10_done_26 rfl (fun c_1 => ?_) (fun c_1 => ?_)
    · have c_1 : (st f0).toInt = 0 := zc_eq rfl rfl c_1
      refine lv_aload_n hx hb dX10_done_35 rfl (lv_at hl 0 rfl) ?_
      refine va_get (D := (dC, dI)) (ci := 1) (v := .ref lk2) (C := RX2) (T := TX2) (N := 8) hx hb hts inX2 hown hK hP 3 rfl rfl 6 (Nat.le_of_ble_eq_true rfl) (hts _ mw_433) (fun _ h9 => h9) rfl dX10_done_36 ?_
      refine va_get (D := (dC, dI)) (ci := 4) (v := .null) (C := RX5) (T := TX5) (N := 6) hx hb hts inX5 hown hK hP 4 rfl rfl 2 (Nat.le_of_ble_eq_true rfl) (hts _ mw_391) (fun _ h9 => h9) rfl dX10_done_39 ?_
      refine lv_astore_nN (lv' := [(3, .null), (2, .ref fe2), (0, .ref x), (1, .int (nI f0))]) hx hb dX10_done_42 rfl hl (Nat.le_of_ble_eq_true rfl) rfl (fun ls hl => ?_)
      refine lv_aload_nN hx hb dX10_done_43 rfl (lv_at hl 0 rfl) ?_
      refine lv_ifnonnullN hx hb dX10_done_44 ?_
      refine lv_aload_n hx hb dX10_done_47 rfl (lv_at hl 2 rfl) ?_
      refine lv_iconst (v := 5) hx hb dX10_done_48 rfl ?_
      obtain ⟨hPc, hDc, hFc⟩ := zo_sub (wc := [_]) hP hD hS hA [0] rfl rfl
      refine zcall (st1 := [.int 0]) (va_runV (As := [.int 5]) (rest := []) ⟨hx, hb, hml, hown, hts⟩ (k_deny_5 l dC dI cI cZ cF H.size x sh lw ro bq bp dq dp lv sl sd ul su ds ) (csV_96 hts rfl rfl ⟨Nat.le_of_ble_eq_true rfl, Nat.le_of_ble_eq_true rfl⟩) (zPV2 (q0 := 0) (ci := 8) hPc hDc hK hXN rfl rfl) rfl rfl hl.1 rfl (lv_room (Nat.le_of_ble_eq_true rfl)) dX10_done_49 ⟨Nat.le_of_ble_eq_true rfl, Nat.le_of_ble_eq_true rfl⟩) hS hFc hFc rfl (fun t H locs ht hB hk1 hS => ?_)
      obtain ⟨hP1, hD1⟩ := hB
      rw [ht] at hP1
      obtain ⟨hP, hD⟩ := znQ (W2 := [(oc8 x (.ref sh) (.ref lw) (.ref ro) (.ref bq) (.ref bp) (.ref dq) (.ref dp) (.ref lv) (.ref sl) ds sd ul 5), _, _, _, _]) hP hD hk1 hFc hP1 hD1 [0] [false, true, true, true, true] [false, true, true, true, true] [0] (by decide +kernel) rfl rfl rfl rfl rfl
      clear hk1 hPc hDc hFc hP1 hD1 ht
      obtain ⟨hP, hD⟩ := pl_bk (X := [_, _, _]) hT_1 hP rfl hc9_1 hD0_1 rfl
      obtain ⟨hP9, hD9⟩ := zu_part (cx := [_, _, _]) hP hD [true, true, true] rfl rfl
      rw [hQ9]
      exact W.zret (ty := .boolean) (v := 0) hx hb hr (rfl) (fun t ht hW => ⟨⟨rfl, 5, by rw [ht]; exact hP9, hD9⟩, hS.F ht⟩) hS.2.2 dX10_done_52
    · have c_1 : ¬ (st f0).toInt = 0 := zc_ne rfl rfl c_1
      refine lv_aload_n hx hb dX10_done_29 rfl (lv_at hl 1 rfl) ?_
      refine lv_iconst (v := 2) hx hb dX10_done_30 rfl ?_
      obtain ⟨hPc, hDc, hFc⟩ := zo_sub (wc := [_]) hP hD hS hA [0] rfl rfl
      refine zcall (st1 := [.int 0]) (va_runV (As := [.int 2]) (rest := []) ⟨hx, hb, hml, hown, hts⟩ (k_deny_2 l dC dI cI cZ cF H.size x sh lw ro bq bp dq dp lv sl sd ul su ds ) (csV_96 hts rfl rfl ⟨Nat.le_of_ble_eq_true rfl, Nat.le_of_ble_eq_true rfl⟩) (zPV2 (q0 := 0) (ci := 8) hPc hDc hK hXN rfl rfl) rfl rfl hl.1 rfl (lv_room (Nat.le_of_ble_eq_true rfl)) dX10_done_31 ⟨Nat.le_of_ble_eq_true rfl, Nat.le_of_ble_eq_true rfl⟩) hS hFc hFc rfl (fun t H locs ht hB hk1 hS => ?_)
      obtain ⟨hP1, hD1⟩ := hB
      rw [ht] at hP1
      obtain ⟨hP, hD⟩ := znQ (W2 := [(oc8 x (.ref sh) (.ref lw) (.ref ro) (.ref bq) (.ref bp) (.ref dq) (.ref dp) (.ref lv) (.ref sl) ds sd ul 2), _, _, _, _]) hP hD hk1 hFc hP1 hD1 [0] [false, true, true, true, true] [false, true, true, true, true] [0] (by decide +kernel) rfl rfl rfl rfl rfl
      clear hk1 hPc hDc hFc hP1 hD1 ht
      obtain ⟨hP, hD⟩ := pl_bk (X := [_, _, _]) hT_1 hP rfl hc9_1 hD0_1 rfl
      obtain ⟨hP9, hD9⟩ := zu_part (cx := [_, _, _]) hP hD [true, true, true] rfl rfl
      rw [hQ9]
      exact W.zret (ty := .boolean) (v := 0) hx hb hr (rfl) (fun t ht hW => ⟨⟨rfl, 2, by rw [ht]; exact hP9, hD9⟩, hS.F ht⟩) hS.2.2 dX10_done_34
  · skip
    have hcap2 := hrr2.1
    have hcap3 := hrr2.2.1
    have hc9_1 : inPl L f [(oc1 fe2 rk2 wd2 tw2 pa2 pb2 (.ref lo2) (.ref lk2) fm2), (oc4 lk2 (kd f0) (st f0) (.ref r2) gb2 jt2 we2), (oc6 r2 (.ref rx2) (.ref ry2) (nI (nN (mn f0))) rg2), (oa rx2 cI cap2 U2), (oa ry2 cI cap2 V2)] := ⟨hfe2, hlk2, hr2, hrx2, hry2, trivial⟩
    have hD0_1 := hD
    obtain ⟨T_1, hT_1, hP, hD⟩ := pl_oT hP hD hc9_1 (pwR hfe2.2 hlk2.2 hr2.2 hrx2.2 hry2.2 hne2)
    obtain ⟨hP, hD⟩ := zre (W2 := ([_, _, _, _, _, _, _, _] ++ va_pl T_1 f)) hP hD rfl
    refine lv_aload_n hx hb dX10_done_0 rfl (lv_at hl 0 rfl) ?_
    refine va_get (D := (dC, dI)) (ci := 8) (v := .ref sh) (C := RX10) (T := TX10) (N := 13) hx hb hts inX10 hown hK hP 0 rfl rfl 0 (Nat.le_of_ble_eq_true rfl) (hts _ mw_309) (fun _ h9 => h9) rfl dX10_done_1 ?_
    refine lv_iload_n hx hb dX10_done_4 rfl (lv_at hl 1 rfl) ?_
    obtain ⟨hPc, hDc, hFc, hI1⟩ := zi_sub (wc := [_, _]) hP hD hS hA [1, 2] rfl rfl
    refine zcall (st1 := [.ref fe2]) (va_runV (As := [.int (nI f0)]) (rest := []) ⟨hx, hb, hml, hown, hts⟩ (k_Sheet_find l dC dI cI cZ cF s.heap.size sh fa ft FA f0 fe2 (by first | with_reducible assumption | omega) (by first | with_reducible assumption | omega) (hFA2)) (csV_94 hts rfl rfl ⟨Nat.le_of_ble_eq_true rfl, Nat.le_of_ble_eq_true rfl⟩) (zPV2 (q0 := 0) (ci := 7) hPc hDc hK hXN rfl rfl) rfl rfl hl.1 rfl (lv_room (Nat.le_of_ble_eq_true rfl)) dX10_done_5 ⟨Nat.le_of_ble_eq_true rfl, Nat.le_of_ble_eq_true rfl⟩) hS hFc hFc rfl (fun t H locs ht hB hk1 hS => ?_)
    obtain ⟨hP1, hD1⟩ := hB
    rw [ht] at hP1
    replace hP := z0 hP hD hk1 hP1 hI1
    clear hk1 hPc hDc hFc hP1 hD1 ht hI1
    refine lv_astore_n (lv' := [(2, .ref fe2), (0, .ref x), (1, .int (nI f0))]) hx hb dX10_done_8 rfl hl (Nat.le_of_ble_eq_true rfl) rfl (fun ls hl => ?_)
    refine lv_aload_n hx hb dX10_done_9 rfl (lv_at hl 0 rfl) ?_
    refine lv_ifnonnull (tgt := 19) hx hb dX10_done_10 rfl ?_
    refine lv_aload_n hx hb dX10_done_19 rfl (lv_at hl 0 rfl) ?_
    refine va_get (D := (dC, dI)) (ci := 1) (v := .ref lk2) (C := RX2) (T := TX2) (N := 8) hx hb hts inX2 hown hK hP 3 rfl rfl 6 (Nat.le_of_ble_eq_true rfl) (hts _ mw_433) (fun _ h9 => h9) rfl dX10_done_20 ?_
    refine va_get (D := (dC, dI)) (ci := 4) (v := .int (st f0)) (C := RX5) (T := TX5) (N := 6) hx hb hts inX5 hown hK hP 4 rfl rfl 1 (Nat.le_of_ble_eq_true rfl) (hts _ mw_385) (fun _ h9 => h9) rfl dX10_done_23 ?_
    refine lv_if_eq (tgt := 35) hx hb dX10_done_26 rfl (fun c_2 => ?_) (fun c_2 => ?_)
    · have c_2 : (st f0).toInt = 0 := zc_eq rfl rfl c_2
      refine lv_aload_n hx hb dX10_done_35 rfl (lv_at hl 0 rfl) ?_
      refine va_get (D := (dC, dI)) (ci := 1) (v := .ref lk2) (C := RX2) (T := TX2) (N := 8) hx hb hts inX2 hown hK hP 3 rfl rfl 6 (Nat.le_of_ble_eq_true rfl) (hts _ mw_433) (fun _ h9 => h9) rfl dX10_done_36 ?_
      refine va_get (D := (dC, dI)) (ci := 4) (v := .ref r2) (C := RX5) (T := TX5) (N := 6) hx hb hts inX5 hown hK hP 4 rfl rfl 2 (Nat.le_of_ble_eq_true rfl) (hts _ mw_391) (fun _ h9 => h9) rfl dX10_done_39 ?_
      refine lv_astore_n (lv' := [(3, .ref r2), (2, .ref fe2), (0, .ref x), (1, .int (nI f0))]) hx hb dX10_done_42 rfl hl (Nat.le_of_ble_eq_true rfl) rfl (fun ls hl => ?_)
      refine lv_aload_n hx hb dX10_done_43 rfl (lv_at hl 0 rfl) ?_
      refine lv_ifnonnull (tgt := 53) hx hb dX10_done_44 rfl ?_
      refine lv_aload_n hx hb dX10_done_53 rfl (lv_at hl 0 rfl) ?_
      refine va_get (D := (dC, dI)) (ci := 6) (v := .int (nI (nN (mn f0)))) (C := RX7) (T := TX7) (N := 4) hx hb hts inX7 hown hK hP 5 rfl rfl 2 (Nat.le_of_ble_eq_true rfl) (hts _ mw_179) (fun _ h9 => h9) rfl dX10_done_54 ?_
      refine lv_aload_n hx hb dX10_done_57 rfl (lv_at hl 1 rfl) ?_
      refine va_get (D := (dC, dI)) (ci := 1) (v := .ref lk2) (C := RX2) (T := TX2) (N := 8) hx hb hts inX2 hown hK hP 3 rfl rfl 6 (Nat.le_of_ble_eq_true rfl) (hts _ mw_433) (fun _ h9 => h9) rfl dX10_done_58 ?_
      refine va_get (D := (dC, dI)) (ci := 4) (v := .int (kd f0)) (C := RX5) (T := TX5) (N := 6) hx hb hts inX5 hown hK hP 4 rfl rfl 0 (Nat.le_of_ble_eq_true rfl) (hts _ mw_381) (fun _ h9 => h9) rfl dX10_done_61 ?_
      obtain ⟨hPc, hDc, hFc, hI1⟩ := zi_sub (wc := []) hP hD hS hA [] rfl rfl
      refine zcall (st1 := [.int (nI (if (kd f0).toInt = 0 then 1 else if (kd f0).toInt < 5 then 2 else 3)), .int (nI (nN (mn f0)))]) (va_runS (As := [.int (kd f0)]) (rest := [.int (nI (nN (mn f0)))]) ⟨hx, hb, hml, hown, hts⟩ (k_fewestCorners l dC dI cI cZ cF H.size (kd f0) ) (csS_107 hts rfl rfl ⟨Nat.le_of_ble_eq_true rfl, Nat.le_of_ble_eq_true rfl⟩) (zPS2 hPc hDc hK hXN) rfl rfl hl.1 rfl (lv_room (Nat.le_of_ble_eq_true rfl)) dX10_done_64 ⟨Nat.le_of_ble_eq_true rfl, Nat.le_of_ble_eq_true rfl⟩) hS hFc hFc rfl (fun t H locs ht hB hk1 hS => ?_)
      obtain ⟨hP1, hD1⟩ := hB
      rw [ht] at hP1
      replace hP := z0 hP hD hk1 hP1 hI1
      clear hk1 hPc hDc hFc hP1 hD1 ht hI1
      have b9_4 : zlt ((nN (mn f0))) := show (nN (mn f0)) < 2147483648 by omega
      have b9_5 : zlt ((if (kd f0).toInt = 0 then 1 else if (kd f0).toInt < 5 then 2 else 3)) := show (if (kd f0).toInt = 0 then 1 else if (kd f0).toInt < 5 then 2 else 3) < 2147483648 by omega
      refine lv_icmp_lt (tgt := 84) hx hb dX10_done_67 rfl (fun c_3 => ?_) (fun c_3 => ?_)
      · have c_3 : ((nN (mn f0) : Nat) : Int) < ((if (kd f0).toInt = 0 then 1 else if (kd f0).toInt < 5 then 2 else 3 : Nat) : Int) := zc_lt (nI_toInt b9_4) (nI_toInt b9_5) c_3
        refine lv_aload_n hx hb dX10_done_84 rfl (lv_at hl 2 rfl) ?_
        refine lv_bipush (v := 6) hx hb dX10_done_85 rfl ?_
        obtain ⟨hPc, hDc, hFc⟩ := zo_sub (wc := [_]) hP hD hS hA [0] rfl rfl
        refine zcall (st1 := [.int 0]) (va_runV (As := [.int 6]) (rest := []) ⟨hx, hb, hml, hown, hts⟩ (k_deny_6 l dC dI cI cZ cF H.size x sh lw ro bq bp dq dp lv sl sd ul su ds ) (csV_96 hts rfl rfl ⟨Nat.le_of_ble_eq_true rfl, Nat.le_of_ble_eq_true rfl⟩) (zPV2 (q0 := 0) (ci := 8) hPc hDc hK hXN rfl rfl) rfl rfl hl.1 rfl (lv_room (Nat.le_of_ble_eq_true rfl)) dX10_done_87 ⟨Nat.le_of_ble_eq_true rfl, Nat.le_of_ble_eq_true rfl⟩) hS hFc hFc rfl (fun t H locs ht hB hk1 hS => ?_)
        obtain ⟨hP1, hD1⟩ := hB
        rw [ht] at hP1
        obtain ⟨hP, hD⟩ := znQ (W2 := [(oc8 x (.ref sh) (.ref lw) (.ref ro) (.ref bq) (.ref bp) (.ref dq) (.ref dp) (.ref lv) (.ref sl) ds sd ul 6), _, _, _, _, _, _, _]) hP hD hk1 hFc hP1 hD1 [0] zl_54 zl_54 [0] (by decide +kernel) rfl rfl rfl rfl rfl
        clear hk1 hPc hDc hFc hP1 hD1 ht
        obtain ⟨hP, hD⟩ := pl_bk (X := [_, _, _]) hT_1 hP rfl hc9_1 hD0_1 rfl
        obtain ⟨hP9, hD9⟩ := zu_part (cx := [_, _, _]) hP hD [true, true, true] rfl rfl
        rw [hQ9]
        exact W.zret (ty := .boolean) (v := 0) hx hb hr (rfl) (fun t ht hW => ⟨⟨rfl, 6, by rw [ht]; exact hP9, hD9⟩, hS.F ht⟩) hS.2.2 dX10_done_90
      · have c_3 : ((if (kd f0).toInt = 0 then 1 else if (kd f0).toInt < 5 then 2 else 3 : Nat) : Int) ≤ ((nN (mn f0) : Nat) : Int) := zc_nlt (nI_toInt b9_4) (nI_toInt b9_5) c_3
        refine lv_aload_n hx hb dX10_done_70 rfl (lv_at hl 0 rfl) ?_
        refine lv_aload_n hx hb dX10_done_71 rfl (lv_at hl 1 rfl) ?_
        refine va_get (D := (dC, dI)) (ci := 1) (v := .ref lk2) (C := RX2) (T := TX2) (N := 8) hx hb hts inX2 hown hK hP 3 rfl rfl 6 (Nat.le_of_ble_eq_true rfl) (hts _ mw_433) (fun _ h9 => h9) rfl dX10_done_72 ?_
        refine va_get (D := (dC, dI)) (ci := 4) (v := .int (kd f0)) (C := RX5) (T := TX5) (N := 6) hx hb hts inX5 hown hK hP 4 rfl rfl 0 (Nat.le_of_ble_eq_true rfl) (hts _ mw_381) (fun _ h9 => h9) rfl dX10_done_75 ?_
        obtain ⟨hPc, hDc, hFc, hI1⟩ := zi_sub (wc := [_, _, _]) hP hD hS hA [5, 6, 7] rfl rfl
        refine zcall (st1 := [.int (pI ((∀ i, i < edg (nN (mn f0)) rg2 → eFr (nN (mn f0)) U2 V2 rg2 i (i + 1)) ∧ (¬ (kd f0).toInt = 6 ∨ ∀ k, k < (nN (mn f0)) → eRt (nN (mn f0)) U2 V2 k)))]) (va_runV (As := [.int (kd f0)]) (rest := []) ⟨hx, hb, hml, hown, hts⟩ (k_Row_isSound l dC dI cI cZ cF H.size r2 rx2 ry2 (nN (mn f0)) cap2 U2 V2 rg2 (kd f0) (by first | with_reducible assumption | omega) (by first | with_reducible assumption | omega) ((pls_cg hrr2.2.2.2.2).mpr (hpl ht2))) (csV_103 hts rfl rfl ⟨Nat.le_of_ble_eq_true rfl, Nat.le_of_ble_eq_true rfl⟩) (zPV2 (q0 := 0) (ci := 6) hPc hDc hK hXN rfl rfl) rfl rfl hl.1 rfl (lv_room (Nat.le_of_ble_eq_true rfl)) dX10_done_78 ⟨Nat.le_of_ble_eq_true rfl, Nat.le_of_ble_eq_true rfl⟩) hS hFc hFc rfl (fun t H locs ht hB hk1 hS => ?_)
        obtain ⟨hP1, hD1⟩ := hB
        rw [ht] at hP1
        replace hP := z0 hP hD hk1 hP1 hI1
        clear hk1 hPc hDc hFc hP1 hD1 ht hI1
        refine lv_if_ne (tgt := 91) hx hb dX10_done_81 rfl (fun c_6 => ?_) (fun c_6 => ?_)
        · have c_6 : (∀ i, i < edg (nN (mn f0)) rg2 → eFr (nN (mn f0)) U2 V2 rg2 i (i + 1)) ∧ (¬ (kd f0).toInt = 6 ∨ ∀ k, k < (nN (mn f0)) → eRt (nN (mn f0)) U2 V2 k) := zp_1 c_6
          exact absurd ⟨by omega, by omega, snd_n hrr2.2.2.2.1 hrr2.2.2.2.2 (by omega) hn1 (by first | with_reducible assumption | assumption)⟩ hbad
        · have c_6 : ¬ ((∀ i, i < edg (nN (mn f0)) rg2 → eFr (nN (mn f0)) U2 V2 rg2 i (i + 1)) ∧ (¬ (kd f0).toInt = 6 ∨ ∀ k, k < (nN (mn f0)) → eRt (nN (mn f0)) U2 V2 k)) := zp_0 c_6
          refine lv_aload_n hx hb dX10_done_84 rfl (lv_at hl 2 rfl) ?_
          refine lv_bipush (v := 6) hx hb dX10_done_85 rfl ?_
          obtain ⟨hPc, hDc, hFc⟩ := zo_sub (wc := [_]) hP hD hS hA [0] rfl rfl
          refine zcall (st1 := [.int 0]) (va_runV (As := [.int 6]) (rest := []) ⟨hx, hb, hml, hown, hts⟩ (k_deny_6 l dC dI cI cZ cF H.size x sh lw ro bq bp dq dp lv sl sd ul su ds ) (csV_96 hts rfl rfl ⟨Nat.le_of_ble_eq_true rfl, Nat.le_of_ble_eq_true rfl⟩) (zPV2 (q0 := 0) (ci := 8) hPc hDc hK hXN rfl rfl) rfl rfl hl.1 rfl (lv_room (Nat.le_of_ble_eq_true rfl)) dX10_done_87 ⟨Nat.le_of_ble_eq_true rfl, Nat.le_of_ble_eq_true rfl⟩) hS hFc hFc rfl (fun t H locs ht hB hk1 hS => ?_)
          obtain ⟨hP1, hD1⟩ := hB
          rw [ht] at hP1
          obtain ⟨hP, hD⟩ := znQ (W2 := [(oc8 x (.ref sh) (.ref lw) (.ref ro) (.ref bq) (.ref bp) (.ref dq) (.ref dp) (.ref lv) (.ref sl) ds sd ul 6), _, _, _, _, _, _, _]) hP hD hk1 hFc hP1 hD1 [0] zl_54 zl_54 [0] (by decide +kernel) rfl rfl rfl rfl rfl
          clear hk1 hPc hDc hFc hP1 hD1 ht
          obtain ⟨hP, hD⟩ := pl_bk (X := [_, _, _]) hT_1 hP rfl hc9_1 hD0_1 rfl
          obtain ⟨hP9, hD9⟩ := zu_part (cx := [_, _, _]) hP hD [true, true, true] rfl rfl
          rw [hQ9]
          exact W.zret (ty := .boolean) (v := 0) hx hb hr (rfl) (fun t ht hW => ⟨⟨rfl, 6, by rw [ht]; exact hP9, hD9⟩, hS.F ht⟩) hS.2.2 dX10_done_90
    · have c_2 : ¬ (st f0).toInt = 0 := zc_ne rfl rfl c_2
      refine lv_aload_n hx hb dX10_done_29 rfl (lv_at hl 1 rfl) ?_
      refine lv_iconst (v := 2) hx hb dX10_done_30 rfl ?_
      obtain ⟨hPc, hDc, hFc⟩ := zo_sub (wc := [_]) hP hD hS hA [0] rfl rfl
      refine zcall (st1 := [.int 0]) (va_runV (As := [.int 2]) (rest := []) ⟨hx, hb, hml, hown, hts⟩ (k_deny_2 l dC dI cI cZ cF H.size x sh lw ro bq bp dq dp lv sl sd ul su ds ) (csV_96 hts rfl rfl ⟨Nat.le_of_ble_eq_true rfl, Nat.le_of_ble_eq_true rfl⟩) (zPV2 (q0 := 0) (ci := 8) hPc hDc hK hXN rfl rfl) rfl rfl hl.1 rfl (lv_room (Nat.le_of_ble_eq_true rfl)) dX10_done_31 ⟨Nat.le_of_ble_eq_true rfl, Nat.le_of_ble_eq_true rfl⟩) hS hFc hFc rfl (fun t H locs ht hB hk1 hS => ?_)
      obtain ⟨hP1, hD1⟩ := hB
      rw [ht] at hP1
      obtain ⟨hP, hD⟩ := znQ (W2 := [(oc8 x (.ref sh) (.ref lw) (.ref ro) (.ref bq) (.ref bp) (.ref dq) (.ref dp) (.ref lv) (.ref sl) ds sd ul 2), _, _, _, _, _, _, _]) hP hD hk1 hFc hP1 hD1 [0] zl_54 zl_54 [0] (by decide +kernel) rfl rfl rfl rfl rfl
      clear hk1 hPc hDc hFc hP1 hD1 ht
      obtain ⟨hP, hD⟩ := pl_bk (X := [_, _, _]) hT_1 hP rfl hc9_1 hD0_1 rfl
      obtain ⟨hP9, hD9⟩ := zu_part (cx := [_, _, _]) hP hD [true, true, true] rfl rfl
      rw [hQ9]
      exact W.zret (ty := .boolean) (v := 0) hx hb hr (rfl) (fun t ht hW => ⟨⟨rfl, 2, by rw [ht]; exact hP9, hD9⟩, hS.F ht⟩) hS.2.2 dX10_done_34
set_option maxHeartbeats 4000000 in
set_option maxRecDepth 100000 in
theorem k_shift_x (l : Launch) (dC : Nat → ClassId) (dI : Nat → Nat → Nat) (cI cZ cF : ClassId) (sz : Nat) (x : Nat) (sh : Nat) (lw : Nat) (ro : Nat) (bq : Nat) (bp : Nat) (dq : Nat) (dp : Nat) (lv : Nat) (sl : Nat) (sd : Int32) (ul : Int32) (su : Int32) (ds : Int32) (fa : Nat) (ft : Nat) (FA : Nat → Option Nat) (v : Int32) (kv : Int32) (dx : Int32) (dy : Int32) (nv : Int32) (h200 : ft ≤ 200) (hv : ¬ (0 ≤ v.toInt ∧ v.toInt < ((ft : Nat) : Int))) : zM l yX10_shift cX10_shift 8 (some .boolean) ({ frames := 2, cells := 0, slots := 0, locals := 42 } : Room) [.ref x, .int v, .int kv, .int dx, .int dy, .int nv] (dC, dI) (zTy cI cZ cF) [(oc8 x (.ref sh) (.ref lw) (.ref ro) (.ref bq) (.ref bp) (.ref dq) (.ref dp) (.ref lv) (.ref sl) ds sd ul su), (oc7 sh (.ref fa) (nI ft)), (oq fa cF 200 FA)] sz (some (.int 0)) (fun A t => ∃ (su1 : Int32), zPD (dC, dI) classes A [(oc8 x (.ref sh) (.ref lw) (.ref ro) (.ref bq) (.ref bp) (.ref dq) (.ref dp) (.ref lv) (.ref sl) ds sd ul su1), (oc7 sh (.ref fa) (nI ft)), (oq fa cF 200 FA)] t.heap) 0 0 := by
  refine zIn (own := "ScaleShop") (loc := [(0, .ref x), (1, .int v), (2, .int kv), (3, .int dx), (4, .int dy), (5, .int nv)]) rfl rfl rfl rfl (fun p e s m below meth c hx hb hr hts hown hlocks hml hnm9 A hA hS hP hD hK hXN Q9 hQ9 ls hl => ?_)
  refine lv_aload_n hx hb dX10_shift_0 rfl (lv_at hl 0 rfl) ?_
  refine va_get (D := (dC, dI)) (ci := 8) (v := .ref sh) (C := RX10) (T := TX10) (N := 13) hx hb hts inX10 hown hK hP 0 rfl rfl 0 (Nat.le_of_ble_eq_true rfl) (hts _ mw_309) (fun _ h9 => h9) rfl dX10_shift_1 ?_
  refine lv_iload_n hx hb dX10_shift_4 rfl (lv_at hl 1 rfl) ?_
  obtain ⟨hPc, hDc, hFc, hI1⟩ := zi_sub (wc := [_, _]) hP hD hS hA [1, 2] rfl rfl
  refine zcall (st1 := [.null]) (va_runV (As := [.int v]) (rest := []) ⟨hx, hb, hml, hown, hts⟩ (k_Sheet_find_n l dC dI cI cZ cF s.heap.size sh fa ft FA v (by first | with_reducible assumption | omega) (by first | with_reducible assumption | assumption)) (csV_94 hts rfl rfl ⟨Nat.le_of_ble_eq_true rfl, Nat.le_of_ble_eq_true rfl⟩) (zPV2 (q0 := 0) (ci := 7) hPc hDc hK hXN rfl rfl) rfl rfl hl.1 rfl (lv_room (Nat.le_of_ble_eq_true rfl)) dX10_shift_5 ⟨Nat.le_of_ble_eq_true rfl, Nat.le_of_ble_eq_true rfl⟩) hS hFc hFc rfl (fun t H locs ht hB hk1 hS => ?_)
  obtain ⟨hP1, hD1⟩ := hB
  rw [ht] at hP1
  replace hP := z0 hP hD hk1 hP1 hI1
  clear hk1 hPc hDc hFc hP1 hD1 ht hI1
  refine lv_astoreN (lv' := [(6, .null), (0, .ref x), (1, .int v), (2, .int kv), (3, .int dx), (4, .int dy), (5, .int nv)]) hx hb dX10_shift_8 hl (Nat.le_of_ble_eq_true rfl) rfl (fun ls hl => ?_)
  refine lv_aloadN hx hb dX10_shift_10 (lv_at hl 0 rfl) ?_
  refine lv_ifnullN (tgt := 24) hx hb dX10_shift_12 rfl ?_
  refine lv_aload_n hx hb dX10_shift_24 rfl (lv_at hl 1 rfl) ?_
  refine lv_iconst (v := 1) hx hb dX10_shift_25 rfl ?_
  obtain ⟨hPc, hDc, hFc⟩ := zo_sub (wc := [_]) hP hD hS hA [0] rfl rfl
  refine zcall (st1 := [.int 0]) (va_runV (As := [.int 1]) (rest := []) ⟨hx, hb, hml, hown, hts⟩ (k_deny_1 l dC dI cI cZ cF H.size x sh lw ro bq bp dq dp lv sl sd ul su ds ) (csV_96 hts rfl rfl ⟨Nat.le_of_ble_eq_true rfl, Nat.le_of_ble_eq_true rfl⟩) (zPV2 (q0 := 0) (ci := 8) hPc hDc hK hXN rfl rfl) rfl rfl hl.1 rfl (lv_room (Nat.le_of_ble_eq_true rfl)) dX10_shift_26 ⟨Nat.le_of_ble_eq_true rfl, Nat.le_of_ble_eq_true rfl⟩) hS hFc hFc rfl (fun t H locs ht hB hk1 hS => ?_)
  obtain ⟨hP1, hD1⟩ := hB
  rw [ht] at hP1
  obtain ⟨hP, hD⟩ := zn (W2 := [(oc8 x (.ref sh) (.ref lw) (.ref ro) (.ref bq) (.ref bp) (.ref dq) (.ref dp) (.ref lv) (.ref sl) ds sd ul 1), _, _]) hP hD hk1 hFc hP1 hD1 [0] [false, true, true] [false, true, true] [0] (by decide +kernel) rfl rfl rfl rfl rfl
  clear hk1 hPc hDc hFc hP1 hD1 ht
  obtain ⟨hP9, hD9⟩ := zu_sub (wc := [_, _, _]) hP hD [true, true, true] rfl rfl
  rw [hQ9]
  exact W.zret (ty := .boolean) (v := 0) hx hb hr (rfl) (fun t ht hW => ⟨⟨rfl, 1, by rw [ht]; exact hP9, hD9⟩, hS.F ht⟩) hS.2.2 dX10_shift_29
set_option maxHeartbeats 4000000 in
set_option maxRecDepth 100000 in
theorem k_shift_r (l : Launch) (dC : Nat → ClassId) (dI : Nat → Nat → Nat) (cI cZ cF : ClassId) (sz : Nat) (x : Nat) (sh : Nat) (lw : Nat) (ro : Nat) (bq : Nat) (bp : Nat) (dq : Nat) (dp : Nat) (lv : Nat) (sl : Nat) (sd : Int32) (ul : Int32) (su : Int32) (ds : Int32) (fa : Nat) (ft : Nat) (FA : Nat → Option Nat) (f0 : Nat) (L : List Nat) (f : Nat → va_E) (kd : Nat → Int32) (st : Nat → Int32) (tn : Nat → Int32) (mn : Nat → Int32) (cx : Nat → Int32) (cy : Nat → Int32) (kv : Int32) (dx : Int32) (dy : Int32) (nv : Int32) (h200 : ft ≤ 200) (hf0 : f0 < ft) (hvw : ∀ q, q < ft → vwO cI L f FA kd st tn mn cx cy q) (hbad : ¬ (0 ≤ kv.toInt ∧ kv.toInt < ((nN (mn f0) : Nat) : Int) ∧ (st f0).toInt = 1 ∧ -200 ≤ dx.toInt ∧ dx.toInt ≤ 200 ∧ -200 ≤ dy.toInt ∧ dy.toInt ≤ 200 ∧ 0 ≤ nv.toInt ∧ nv.toInt ≤ 20 ∧ (tn f0).toInt = 0)) : zM l yX10_shift cX10_shift 8 (some .boolean) ({ frames := 2, cells := 0, slots := 0, locals := 42 } : Room) [.ref x, .int (nI f0), .int kv, .int dx, .int dy, .int nv] (dC, dI) (zTy cI cZ cF) ([(oc8 x (.ref sh) (.ref lw) (.ref ro) (.ref bq) (.ref bp) (.ref dq) (.ref dp) (.ref lv) (.ref sl) ds sd ul su), (oc7 sh (.ref fa) (nI ft)), (oq fa cF 200 FA)] ++ va_pl L f) sz (some (.int 0)) (fun A t => ∃ (su1 : Int32), zPD (dC, dI) classes A ([(oc8 x (.ref sh) (.ref lw) (.ref ro) (.ref bq) (.ref bp) (.ref dq) (.ref dp) (.ref lv) (.ref sl) ds sd ul su1), (oc7 sh (.ref fa) (nI ft)), (oq fa cF 200 FA)] ++ va_pl L f) t.heap) 0 0 := by
  refine zIn (own := "ScaleShop") (loc := [(0, .ref x), (1, .int (nI f0)), (2, .int kv), (3, .int dx), (4, .int dy), (5, .int nv)]) rfl rfl rfl rfl (fun p e s m below meth c hx hb hr hts hown hlocks hml hnm9 A hA hS hP hD hK hXN Q9 hQ9 ls hl => ?_)
  have e_m200 : (-200 : Int32).toInt = -200 := (by decide)
  have e_200 : (200 : Int32).toInt = 200 := (by decide)
  have e_0 : (0 : Int32).toInt = 0 := (by decide)
  have e_20 : (20 : Int32).toInt = 20 := (by decide)
  rcases vw2 (hvw f0 (show f0 < ft by omega)) with ⟨ht2, fe2, lk2, lo2, rk2, wd2, tw2, pa2, pb2, gb2, jt2, we2, fm2, hFA2, hfe2, hlk2⟩ | ⟨ht2, fe2, lk2, lo2, rk2, wd2, tw2, pa2, pb2, gb2, jt2, we2, fm2, r2, rx2, ry2, cap2, U2, V2, rg2, hFA2, hfe2, hlk2, ⟨hr2, hrx2, hry2, hne2⟩, hrr2⟩
  · skip
    have hc9_1 : inPl L f [(oc1 fe2 rk2 wd2 tw2 pa2 pb2 (.ref lo2) (.ref lk2) fm2), (oc4 lk2 (kd f0) (st f0) .null gb2 jt2 we2)] := ⟨hfe2, hlk2, trivial⟩
    have hD0_1 := hD
    obtain ⟨T_1, hT_1, hP, hD⟩ := pl_oT hP hD hc9_1 (pwF hfe2.2 hlk2.2)
    obtain ⟨hP, hD⟩ := zre (W2 := ([_, _, _, _, _] ++ va_pl T_1 f)) hP hD rfl
    refine lv_aload_n hx hb dX10_shift_0 rfl (lv_at hl 0 rfl) ?_
    refine va_get (D := (dC, dI)) (ci := 8) (v := .ref sh) (C := RX10) (T := TX10) (N := 13) hx hb hts inX10 hown hK hP 0 rfl rfl 0 (Nat.le_of_ble_eq_true rfl) (hts _ mw_309) (fun _ h9 => h9) rfl dX10_shift_1 ?_
    refine lv_iload_n hx hb dX10_shift_4 rfl (lv_at hl 1 rfl) ?_
    obtain ⟨hPc, hDc, hFc, hI1⟩ := zi_sub (wc := [_, _]) hP hD hS hA [1, 2] rfl rfl
    refine zcall (st1 := [.ref fe2]) (va_runV (As := [.int (nI f0)]) (rest := []) ⟨hx, hb, hml, hown, hts⟩ (k_Sheet_find l dC dI cI cZ cF s.heap.size sh fa ft FA f0 fe2 (by first | with_reducible assumption | omega) (by first | with_reducible assumption | omega) (hFA2)) (csV_94 hts rfl rfl ⟨Nat.le_of_ble_eq_true rfl, Nat.le_of_ble_eq_true rfl⟩) (zPV2 (q0 := 0) (ci := 7) hPc hDc hK hXN rfl rfl) rfl rfl hl.1 rfl (lv_room (Nat.le_of_ble_eq_true rfl)) dX10_shift_5 ⟨Nat.le_of_ble_eq_true rfl, Nat.le_of_ble_eq_true rfl⟩) hS hFc hFc rfl (fun t H locs ht hB hk1 hS => ?_)
    obtain ⟨hP1, hD1⟩ := hB
    rw [ht] at hP1
    replace hP := z0 hP hD hk1 hP1 hI1
    clear hk1 hPc hDc hFc hP1 hD1 ht hI1
    refine lv_astore (lv' := [(6, .ref fe2), (0, .ref x), (1, .int (nI f0)), (2, .int kv), (3, .int dx), (4, .int dy), (5, .int nv)]) hx hb dX10_shift_8 hl (Nat.le_of_ble_eq_true rfl) rfl (fun ls hl => ?_)
    refine lv_aload hx hb dX10_shift_10 (lv_at hl 0 rfl) ?_
    refine lv_ifnull hx hb dX10_shift_12 ?_
    refine lv_aload hx hb dX10_shift_15 (lv_at hl 0 rfl) ?_
    refine lv_iload_n hx hb dX10_shift_17 rfl (lv_at hl 3 rfl) ?_
    obtain ⟨hPc, hDc, hFc, hI1⟩ := zi_sub (wc := [_, _]) hP hD hS hA [3, 4] rfl rfl
    refine zcall (st1 := [.int (pI (0 ≤ kv.toInt))]) (va_runV (As := [.int kv]) (rest := []) ⟨hx, hb, hml, hown, hts⟩ (k_Feature_mayHaveCorner_vn l dC dI cI cZ cF H.size fe2 lo2 rk2 wd2 tw2 pa2 pb2 lk2 (kd f0) (st f0) gb2 jt2 we2 fm2 kv ) (csV_119 hts rfl rfl ⟨Nat.le_of_ble_eq_true rfl, Nat.le_of_ble_eq_true rfl⟩) (zPV2 (q0 := 0) (ci := 1) hPc hDc hK hXN rfl rfl) rfl rfl hl.1 rfl (lv_room (Nat.le_of_ble_eq_true rfl)) dX10_shift_18 ⟨Nat.le_of_ble_eq_true rfl, Nat.le_of_ble_eq_true rfl⟩) hS hFc hFc rfl (fun t H locs ht hB hk1 hS => ?_)
    obtain ⟨hP1, hD1⟩ := hB
    rw [ht] at hP1
    replace hP := z0 hP hD hk1 hP1 hI1
    clear hk1 hPc hDc hFc hP1 hD1 ht hI1
    refine lv_if_ne (tgt := 30) hx hb dX10_shift_21 rfl (fun c_1 => ?_) (fun c_1 => ?_)
    · have c_1 : 0 ≤ kv.toInt := zp_1 c_1
      refine lv_aload hx hb dX10_shift_30 (lv_at hl 0 rfl) ?_
      refine va_get (D := (dC, dI)) (ci := 1) (v := .ref lk2) (C := RX2) (T := TX2) (N := 8) hx hb hts inX2 hown hK hP 3 rfl rfl 6 (Nat.le_of_ble_eq_true rfl) (hts _ mw_433) (fun _ h9 => h9) rfl dX10_shift_32 ?_
      refine va_get (D := (dC, dI)) (ci := 4) (v := .int (st f0)) (C := RX5) (T := TX5) (N := 6) hx hb hts inX5 hown hK hP 4 rfl rfl 1 (Nat.le_of_ble_eq_true rfl) (hts _ mw_385) (fun _ h9 => h9) rfl dX10_shift_35 ?_
      refine lv_iconst (v := 1) hx hb dX10_shift_38 rfl ?_
      refine lv_icmp_eq (tgt := 48) hx hb dX10_shift_39 rfl (fun c_2 => ?_) (fun c_2 => ?_)
      · have c_2 : (st f0).toInt = 1 := zc_eq rfl rfl c_2
        refine lv_iload_n hx hb dX10_shift_48 rfl (lv_at hl 4 rfl) ?_
        refine lv_sipush (v := (-200)) hx hb dX10_shift_49 rfl ?_
        refine lv_sipush (v := 200) hx hb dX10_shift_52 rfl ?_
        obtain ⟨hPc, hDc, hFc, hI1⟩ := zi_sub (wc := []) hP hD hS hA [] rfl rfl
        refine zcall (st1 := [.int (pI ((-200 : Int32).toInt ≤ dx.toInt ∧ dx.toInt ≤ (200 : Int32).toInt))]) (va_runS (As := [.int dx, .int (-200), .int 200]) (rest := []) ⟨hx, hb, hml, hown, hts⟩ (k_isWithin l dC dI cI cZ cF H.size dx (-200) 200 ) (csS_14 hts rfl rfl ⟨Nat.le_of_ble_eq_true rfl, Nat.le_of_ble_eq_true rfl⟩) (zPS2 hPc hDc hK hXN) rfl rfl hl.1 rfl (lv_room (Nat.le_of_ble_eq_true rfl)) dX10_shift_55 ⟨Nat.le_of_ble_eq_true rfl, Nat.le_of_ble_eq_true rfl⟩) hS hFc hFc rfl (fun t H locs ht hB hk1 hS => ?_)
        obtain ⟨hP1, hD1⟩ := hB
        rw [ht] at hP1
        replace hP := z0 hP hD hk1 hP1 hI1
        clear hk1 hPc hDc hFc hP1 hD1 ht hI1
        refine lv_if_eq (tgt := 75) hx hb dX10_shift_58 rfl (fun c_3 => ?_) (fun c_3 => ?_)
        · have c_3 : ¬ ((-200 : Int32).toInt ≤ dx.toInt ∧ dx.toInt ≤ (200 : Int32).toInt) := zp_0 c_3
          refine lv_aload_n hx hb dX10_shift_75 rfl (lv_at hl 1 rfl) ?_
          refine lv_iconst (v := 4) hx hb dX10_shift_76 rfl ?_
          obtain ⟨hPc, hDc, hFc⟩ := zo_sub (wc := [_]) hP hD hS hA [0] rfl rfl
          refine zcall (st1 := [.int 0]) (va_runV (As := [.int 4]) (rest := []) ⟨hx, hb, hml, hown, hts⟩ (k_deny_4 l dC dI cI cZ cF H.size x sh lw ro bq bp dq dp lv sl sd ul su ds ) (csV_96 hts rfl rfl ⟨Nat.le_of_ble_eq_true rfl, Nat.le_of_ble_eq_true rfl⟩) (zPV2 (q0 := 0) (ci := 8) hPc hDc hK hXN rfl rfl) rfl rfl hl.1 rfl (lv_room (Nat.le_of_ble_eq_true rfl)) dX10_shift_77 ⟨Nat.le_of_ble_eq_true rfl, Nat.le_of_ble_eq_true rfl⟩) hS hFc hFc rfl (fun t H locs ht hB hk1 hS => ?_)
          obtain ⟨hP1, hD1⟩ := hB
          rw [ht] at hP1
          obtain ⟨hP, hD⟩ := znQ (W2 := [(oc8 x (.ref sh) (.ref lw) (.ref ro) (.ref bq) (.ref bp) (.ref dq) (.ref dp) (.ref lv) (.ref sl) ds sd ul 4), _, _, _, _]) hP hD hk1 hFc hP1 hD1 [0] [false, true, true, true, true] [false, true, true, true, true] [0] (by decide +kernel) rfl rfl rfl rfl rfl
          clear hk1 hPc hDc hFc hP1 hD1 ht
          obtain ⟨hP, hD⟩ := pl_bk (X := [_, _, _]) hT_1 hP rfl hc9_1 hD0_1 rfl
          obtain ⟨hP9, hD9⟩ := zu_part (cx := [_, _, _]) hP hD [true, true, true] rfl rfl
          rw [hQ9]
          exact W.zret (ty := .boolean) (v := 0) hx hb hr (rfl) (fun t ht hW => ⟨⟨rfl, 4, by rw [ht]; exact hP9, hD9⟩, hS.F ht⟩) hS.2.2 dX10_shift_80
        · have c_3 : (-200 : Int32).toInt ≤ dx.toInt ∧ dx.toInt ≤ (200 : Int32).toInt := zp_1 c_3
          refine lv_iload hx hb dX10_shift_61 (lv_at hl 5 rfl) ?_
          refine lv_sipush (v := (-200)) hx hb dX10_shift_63 rfl ?_
          refine lv_sipush (v := 200) hx hb dX10_shift_66 rfl ?_
          obtain ⟨hPc, hDc, hFc, hI1⟩ := zi_sub (wc := []) hP hD hS hA [] rfl rfl
          refine zcall (st1 := [.int (pI ((-200 : Int32).toInt ≤ dy.toInt ∧ dy.toInt ≤ (200 : Int32).toInt))]) (va_runS (As := [.int dy, .int (-200), .int 200]) (rest := []) ⟨hx, hb, hml, hown, hts⟩ (k_isWithin l dC dI cI cZ cF H.size dy (-200) 200 ) (csS_14 hts rfl rfl ⟨Nat.le_of_ble_eq_true rfl, Nat.le_of_ble_eq_true rfl⟩) (zPS2 hPc hDc hK hXN) rfl rfl hl.1 rfl (lv_room (Nat.le_of_ble_eq_true rfl)) dX10_shift_69 ⟨Nat.le_of_ble_eq_true rfl, Nat.le_of_ble_eq_true rfl⟩) hS hFc hFc rfl (fun t H locs ht hB hk1 hS => ?_)
          obtain ⟨hP1, hD1⟩ := hB
          rw [ht] at hP1
          replace hP := z0 hP hD hk1 hP1 hI1
          clear hk1 hPc hDc hFc hP1 hD1 ht hI1
          refine lv_if_ne (tgt := 81) hx hb dX10_shift_72 rfl (fun c_4 => ?_) (fun c_4 => ?_)
          · have c_4 : (-200 : Int32).toInt ≤ dy.toInt ∧ dy.toInt ≤ (200 : Int32).toInt := zp_1 c_4
            refine lv_iload hx hb dX10_shift_81 (lv_at hl 6 rfl) ?_
            refine lv_iconst (v := 0) hx hb dX10_shift_83 rfl ?_
            refine lv_bipush (v := 20) hx hb dX10_shift_84 rfl ?_
            obtain ⟨hPc, hDc, hFc, hI1⟩ := zi_sub (wc := []) hP hD hS hA [] rfl rfl
            refine zcall (st1 := [.int (pI ((0 : Int32).toInt ≤ nv.toInt ∧ nv.toInt ≤ (20 : Int32).toInt))]) (va_runS (As := [.int nv, .int 0, .int 20]) (rest := []) ⟨hx, hb, hml, hown, hts⟩ (k_isWithin l dC dI cI cZ cF H.size nv 0 20 ) (csS_14 hts rfl rfl ⟨Nat.le_of_ble_eq_true rfl, Nat.le_of_ble_eq_true rfl⟩) (zPS2 hPc hDc hK hXN) rfl rfl hl.1 rfl (lv_room (Nat.le_of_ble_eq_true rfl)) dX10_shift_86 ⟨Nat.le_of_ble_eq_true rfl, Nat.le_of_ble_eq_true rfl⟩) hS hFc hFc rfl (fun t H locs ht hB hk1 hS => ?_)
            obtain ⟨hP1, hD1⟩ := hB
            rw [ht] at hP1
            replace hP := z0 hP hD hk1 hP1 hI1
            clear hk1 hPc hDc hFc hP1 hD1 ht hI1
            refine lv_if_ne (tgt := 98) hx hb dX10_shift_89 rfl (fun c_5 => ?_) (fun c_5 => ?_)
            · have c_5 : (0 : Int32).toInt ≤ nv.toInt ∧ nv.toInt ≤ (20 : Int32).toInt := zp_1 c_5
              refine lv_aload hx hb dX10_shift_98 (lv_at hl 0 rfl) ?_
              refine va_get (D := (dC, dI)) (ci := 1) (v := .ref lk2) (C := RX2) (T := TX2) (N := 8) hx hb hts inX2 hown hK hP 3 rfl rfl 6 (Nat.le_of_ble_eq_true rfl) (hts _ mw_433) (fun _ h9 => h9) rfl dX10_shift_100 ?_
              refine va_get (D := (dC, dI)) (ci := 4) (v := .null) (C := RX5) (T := TX5) (N := 6) hx hb hts inX5 hown hK hP 4 rfl rfl 2 (Nat.le_of_ble_eq_true rfl) (hts _ mw_391) (fun _ h9 => h9) rfl dX10_shift_103 ?_
              refine lv_astoreN (lv' := [(7, .null), (6, .ref fe2), (0, .ref x), (1, .int (nI f0)), (2, .int kv), (3, .int dx), (4, .int dy), (5, .int nv)]) hx hb dX10_shift_106 hl (Nat.le_of_ble_eq_true rfl) rfl (fun ls hl => ?_)
              refine lv_aloadN hx hb dX10_shift_108 (lv_at hl 0 rfl) ?_
              refine lv_ifnonnullN hx hb dX10_shift_110 ?_
              refine lv_aload_n hx hb dX10_shift_113 rfl (lv_at hl 2 rfl) ?_
              refine lv_iconst (v := 5) hx hb dX10_shift_114 rfl ?_
              obtain ⟨hPc, hDc, hFc⟩ := zo_sub (wc := [_]) hP hD hS hA [0] rfl rfl
              refine zcall (st1 := [.int 0]) (va_runV (As := [.int 5]) (rest := []) ⟨hx, hb, hml, hown, hts⟩ (k_deny_5 l dC dI cI cZ cF H.size x sh lw ro bq bp dq dp lv sl sd ul su ds ) (csV_96 hts rfl rfl ⟨Nat.le_of_ble_eq_true rfl, Nat.le_of_ble_eq_true rfl⟩) (zPV2 (q0 := 0) (ci := 8) hPc hDc hK hXN rfl rfl) rfl rfl hl.1 rfl (lv_room (Nat.le_of_ble_eq_true rfl)) dX10_shift_115 ⟨Nat.le_of_ble_eq_true rfl, Nat.le_of_ble_eq_true rfl⟩) hS hFc hFc rfl (fun t H locs ht hB hk1 hS => ?_)
              obtain ⟨hP1, hD1⟩ := hB
              rw [ht] at hP1
              obtain ⟨hP, hD⟩ := znQ (W2 := [(oc8 x (.ref sh) (.ref lw) (.ref ro) (.ref bq) (.ref bp) (.ref dq) (.ref dp) (.ref lv) (.ref sl) ds sd ul 5), _, _, _, _]) hP hD hk1 hFc hP1 hD1 [0] [false, true, true, true, true] [false, true, true, true, true] [0] (by decide +kernel) rfl rfl rfl rfl rfl
              clear hk1 hPc hDc hFc hP1 hD1 ht
              obtain ⟨hP, hD⟩ := pl_bk (X := [_, _, _]) hT_1 hP rfl hc9_1 hD0_1 rfl
              obtain ⟨hP9, hD9⟩ := zu_part (cx := [_, _, _]) hP hD [true, true, true] rfl rfl
              rw [hQ9]
              exact W.zret (ty := .boolean) (v := 0) hx hb hr (rfl) (fun t ht hW => ⟨⟨rfl, 5, by rw [ht]; exact hP9, hD9⟩, hS.F ht⟩) hS.2.2 dX10_shift_118
            · have c_5 : ¬ ((0 : Int32).toInt ≤ nv.toInt ∧ nv.toInt ≤ (20 : Int32).toInt) := zp_0 c_5
              refine lv_aload_n hx hb dX10_shift_92 rfl (lv_at hl 1 rfl) ?_
              refine lv_iconst (v := 4) hx hb dX10_shift_93 rfl ?_
              obtain ⟨hPc, hDc, hFc⟩ := zo_sub (wc := [_]) hP hD hS hA [0] rfl rfl
              refine zcall (st1 := [.int 0]) (va_runV (As := [.int 4]) (rest := []) ⟨hx, hb, hml, hown, hts⟩ (k_deny_4 l dC dI cI cZ cF H.size x sh lw ro bq bp dq dp lv sl sd ul su ds ) (csV_96 hts rfl rfl ⟨Nat.le_of_ble_eq_true rfl, Nat.le_of_ble_eq_true rfl⟩) (zPV2 (q0 := 0) (ci := 8) hPc hDc hK hXN rfl rfl) rfl rfl hl.1 rfl (lv_room (Nat.le_of_ble_eq_true rfl)) dX10_shift_94 ⟨Nat.le_of_ble_eq_true rfl, Nat.le_of_ble_eq_true rfl⟩) hS hFc hFc rfl (fun t H locs ht hB hk1 hS => ?_)
              obtain ⟨hP1, hD1⟩ := hB
              rw [ht] at hP1
              obtain ⟨hP, hD⟩ := znQ (W2 := [(oc8 x (.ref sh) (.ref lw) (.ref ro) (.ref bq) (.ref bp) (.ref dq) (.ref dp) (.ref lv) (.ref sl) ds sd ul 4), _, _, _, _]) hP hD hk1 hFc hP1 hD1 [0] [false, true, true, true, true] [false, true, true, true, true] [0] (by decide +kernel) rfl rfl rfl rfl rfl
              clear hk1 hPc hDc hFc hP1 hD1 ht
              obtain ⟨hP, hD⟩ := pl_bk (X := [_, _, _]) hT_1 hP rfl hc9_1 hD0_1 rfl
              obtain ⟨hP9, hD9⟩ := zu_part (cx := [_, _, _]) hP hD [true, true, true] rfl rfl
              rw [hQ9]
              exact W.zret (ty := .boolean) (v := 0) hx hb hr (rfl) (fun t ht hW => ⟨⟨rfl, 4, by rw [ht]; exact hP9, hD9⟩, hS.F ht⟩) hS.2.2 dX10_shift_97
          · have c_4 : ¬ ((-200 : Int32).toInt ≤ dy.toInt ∧ dy.toInt ≤ (200 : Int32).toInt) := zp_0 c_4
            refine lv_aload_n hx hb dX10_shift_75 rfl (lv_at hl 1 rfl) ?_
            refine lv_iconst (v := 4) hx hb dX10_shift_76 rfl ?_
            obtain ⟨hPc, hDc, hFc⟩ := zo_sub (wc := [_]) hP hD hS hA [0] rfl rfl
            refine zcall (st1 := [.int 0]) (va_runV (As := [.int 4]) (rest := []) ⟨hx, hb, hml, hown, hts⟩ (k_deny_4 l dC dI cI cZ cF H.size x sh lw ro bq bp dq dp lv sl sd ul su ds ) (csV_96 hts rfl rfl ⟨Nat.le_of_ble_eq_true rfl, Nat.le_of_ble_eq_true rfl⟩) (zPV2 (q0 := 0) (ci := 8) hPc hDc hK hXN rfl rfl) rfl rfl hl.1 rfl (lv_room (Nat.le_of_ble_eq_true rfl)) dX10_shift_77 ⟨Nat.le_of_ble_eq_true rfl, Nat.le_of_ble_eq_true rfl⟩) hS hFc hFc rfl (fun t H locs ht hB hk1 hS => ?_)
            obtain ⟨hP1, hD1⟩ := hB
            rw [ht] at hP1
            obtain ⟨hP, hD⟩ := znQ (W2 := [(oc8 x (.ref sh) (.ref lw) (.ref ro) (.ref bq) (.ref bp) (.ref dq) (.ref dp) (.ref lv) (.ref sl) ds sd ul 4), _, _, _, _]) hP hD hk1 hFc hP1 hD1 [0] [false, true, true, true, true] [false, true, true, true, true] [0] (by decide +kernel) rfl rfl rfl rfl rfl
            clear hk1 hPc hDc hFc hP1 hD1 ht
            obtain ⟨hP, hD⟩ := pl_bk (X := [_, _, _]) hT_1 hP rfl hc9_1 hD0_1 rfl
            obtain ⟨hP9, hD9⟩ := zu_part (cx := [_, _, _]) hP hD [true, true, true] rfl rfl
            rw [hQ9]
            exact W.zret (ty := .boolean) (v := 0) hx hb hr (rfl) (fun t ht hW => ⟨⟨rfl, 4, by rw [ht]; exact hP9, hD9⟩, hS.F ht⟩) hS.2.2 dX10_shift_80
      · have c_2 : ¬ (st f0).toInt = 1 := zc_ne rfl rfl c_2
        refine lv_aload_n hx hb dX10_shift_42 rfl (lv_at hl 1 rfl) ?_
        refine lv_iconst (v := 2) hx hb dX10_shift_43 rfl ?_
        obtain ⟨hPc, hDc, hFc⟩ := zo_sub (wc := [_]) hP hD hS hA [0] rfl rfl
        refine zcall (st1 := [.int 0]) (va_runV (As := [.int 2]) (rest := []) ⟨hx, hb, hml, hown, hts⟩ (k_deny_2 l dC dI cI cZ cF H.size x sh lw ro bq bp dq dp lv sl sd ul su ds ) (csV_96 hts rfl rfl ⟨Nat.le_of_ble_eq_true rfl, Nat.le_of_ble_eq_true rfl⟩) (zPV2 (q0 := 0) (ci := 8) hPc hDc hK hXN rfl rfl) rfl rfl hl.1 rfl (lv_room (Nat.le_of_ble_eq_true rfl)) dX10_shift_44 ⟨Nat.le_of_ble_eq_true rfl, Nat.le_of_ble_eq_true rfl⟩) hS hFc hFc rfl (fun t H locs ht hB hk1 hS => ?_)
        obtain ⟨hP1, hD1⟩ := hB
        rw [ht] at hP1
        obtain ⟨hP, hD⟩ := znQ (W2 := [(oc8 x (.ref sh) (.ref lw) (.ref ro) (.ref bq) (.ref bp) (.ref dq) (.ref dp) (.ref lv) (.ref sl) ds sd ul 2), _, _, _, _]) hP hD hk1 hFc hP1 hD1 [0] [false, true, true, true, true] [false, true, true, true, true] [0] (by decide +kernel) rfl rfl rfl rfl rfl
        clear hk1 hPc hDc hFc hP1 hD1 ht
        obtain ⟨hP, hD⟩ := pl_bk (X := [_, _, _]) hT_1 hP rfl hc9_1 hD0_1 rfl
        obtain ⟨hP9, hD9⟩ := zu_part (cx := [_, _, _]) hP hD [true, true, true] rfl rfl
        rw [hQ9]
        exact W.zret (ty := .boolean) (v := 0) hx hb hr (rfl) (fun t ht hW => ⟨⟨rfl, 2, by rw [ht]; exact hP9, hD9⟩, hS.F ht⟩) hS.2.2 dX10_shift_47
    · have c_1 : ¬ (0 ≤ kv.toInt) := zp_0 c_1
      refine lv_aload_n hx hb dX10_shift_24 rfl (lv_at hl 1 rfl) ?_
      refine lv_iconst (v := 1) hx hb dX10_shift_25 rfl ?_
      obtain ⟨hPc, hDc, hFc⟩ := zo_sub (wc := [_]) hP hD hS hA [0] rfl rfl
      refine zcall (st1 := [.int 0]) (va_runV (As := [.int 1]) (rest := []) ⟨hx, hb, hml, hown, hts⟩ (k_deny_1 l dC dI cI cZ cF H.size x sh lw ro bq bp dq dp lv sl sd ul su ds ) (csV_96 hts rfl rfl ⟨Nat.le_of_ble_eq_true rfl, Nat.le_of_ble_eq_true rfl⟩) (zPV2 (q0 := 0) (ci := 8) hPc hDc hK hXN rfl rfl) rfl rfl hl.1 rfl (lv_room (Nat.le_of_ble_eq_true rfl)) dX10_shift_26 ⟨Nat.le_of_ble_eq_true rfl, Nat.le_of_ble_eq_true rfl⟩) hS hFc hFc rfl (fun t H locs ht hB hk1 hS => ?_)
      obtain ⟨hP1, hD1⟩ := hB
      rw [ht] at hP1
      obtain ⟨hP, hD⟩ := znQ (W2 := [(oc8 x (.ref sh) (.ref lw) (.ref ro) (.ref bq) (.ref bp) (.ref dq) (.ref dp) (.ref lv) (.ref sl) ds sd ul 1), _, _, _, _]) hP hD hk1 hFc hP1 hD1 [0] [false, true, true, true, true] [false, true, true, true, true] [0] (by decide +kernel) rfl rfl rfl rfl rfl
      clear hk1 hPc hDc hFc hP1 hD1 ht
      obtain ⟨hP, hD⟩ := pl_bk (X := [_, _, _]) hT_1 hP rfl hc9_1 hD0_1 rfl
      obtain ⟨hP9, hD9⟩ := zu_part (cx := [_, _, _]) hP hD [true, true, true] rfl rfl
      rw [hQ9]
      exact W.zret (ty := .boolean) (v := 0) hx hb hr (rfl) (fun t ht hW => ⟨⟨rfl, 1, by rw [ht]; exact hP9, hD9⟩, hS.F ht⟩) hS.2.2 dX10_shift_29
  · skip
    have hcap2 := hrr2.1
    have hcap3 := hrr2.2.1
    have hc9_1 : inPl L f [(oc1 fe2 rk2 wd2 tw2 pa2 pb2 (.ref lo2) (.ref lk2) fm2), (oc4 lk2 (kd f0) (st f0) (.ref r2) gb2 jt2 we2), (oc6 r2 (.ref rx2) (.ref ry2) (nI (nN (mn f0))) rg2), (oa rx2 cI cap2 U2), (oa ry2 cI cap2 V2)] := ⟨hfe2, hlk2, hr2, hrx2, hry2, trivial⟩
    have hD0_1 := hD
    obtain ⟨T_1, hT_1, hP, hD⟩ := pl_oT hP hD hc9_1 (pwR hfe2.2 hlk2.2 hr2.2 hrx2.2 hry2.2 hne2)
    obtain ⟨hP, hD⟩ := zre (W2 := ([_, _, _, _, _, _, _, _] ++ va_pl T_1 f)) hP hD rfl
    refine lv_aload_n hx hb dX10_shift_0 rfl (lv_at hl 0 rfl) ?_
    refine va_get (D := (dC, dI)) (ci := 8) (v := .ref sh) (C := RX10) (T := TX10) (N := 13) hx hb hts inX10 hown hK hP 0 rfl rfl 0 (Nat.le_of_ble_eq_true rfl) (hts _ mw_309) (fun _ h9 => h9) rfl dX10_shift_1 ?_
    refine lv_iload_n hx hb dX10_shift_4 rfl (lv_at hl 1 rfl) ?_
    obtain ⟨hPc, hDc, hFc, hI1⟩ := zi_sub (wc := [_, _]) hP hD hS hA [1, 2] rfl rfl
    refine zcall (st1 := [.ref fe2]) (va_runV (As := [.int (nI f0)]) (rest := []) ⟨hx, hb, hml, hown, hts⟩ (k_Sheet_find l dC dI cI cZ cF s.heap.size sh fa ft FA f0 fe2 (by first | with_reducible assumption | omega) (by first | with_reducible assumption | omega) (hFA2)) (csV_94 hts rfl rfl ⟨Nat.le_of_ble_eq_true rfl, Nat.le_of_ble_eq_true rfl⟩) (zPV2 (q0 := 0) (ci := 7) hPc hDc hK hXN rfl rfl) rfl rfl hl.1 rfl (lv_room (Nat.le_of_ble_eq_true rfl)) dX10_shift_5 ⟨Nat.le_of_ble_eq_true rfl, Nat.le_of_ble_eq_true rfl⟩) hS hFc hFc rfl (fun t H locs ht hB hk1 hS => ?_)
    obtain ⟨hP1, hD1⟩ := hB
    rw [ht] at hP1
    replace hP := z0 hP hD hk1 hP1 hI1
    clear hk1 hPc hDc hFc hP1 hD1 ht hI1
    refine lv_astore (lv' := [(6, .ref fe2), (0, .ref x), (1, .int (nI f0)), (2, .int kv), (3, .int dx), (4, .int dy), (5, .int nv)]) hx hb dX10_shift_8 hl (Nat.le_of_ble_eq_true rfl) rfl (fun ls hl => ?_)
    refine lv_aload hx hb dX10_shift_10 (lv_at hl 0 rfl) ?_
    refine lv_ifnull hx hb dX10_shift_12 ?_
    refine lv_aload hx hb dX10_shift_15 (lv_at hl 0 rfl) ?_
    refine lv_iload_n hx hb dX10_shift_17 rfl (lv_at hl 3 rfl) ?_
    obtain ⟨hPc, hDc, hFc, hI1⟩ := zi_sub (wc := [_, _, _]) hP hD hS hA [3, 4, 5] rfl rfl
    refine zcall (st1 := [.int (pI (0 ≤ kv.toInt ∧ kv.toInt < (((nN (mn f0)) : Nat) : Int)))]) (va_runV (As := [.int kv]) (rest := []) ⟨hx, hb, hml, hown, hts⟩ (k_Feature_mayHaveCorner_vr l dC dI cI cZ cF H.size fe2 lo2 rk2 wd2 tw2 pa2 pb2 lk2 (kd f0) (st f0) gb2 jt2 we2 r2 rx2 ry2 (nN (mn f0)) fm2 kv rg2 (by first | with_reducible assumption | omega)) (csV_119 hts rfl rfl ⟨Nat.le_of_ble_eq_true rfl, Nat.le_of_ble_eq_true rfl⟩) (zPV2 (q0 := 0) (ci := 1) hPc hDc hK hXN rfl rfl) rfl rfl hl.1 rfl (lv_room (Nat.le_of_ble_eq_true rfl)) dX10_shift_18 ⟨Nat.le_of_ble_eq_true rfl, Nat.le_of_ble_eq_true rfl⟩) hS hFc hFc rfl (fun t H locs ht hB hk1 hS => ?_)
    obtain ⟨hP1, hD1⟩ := hB
    rw [ht] at hP1
    replace hP := z0 hP hD hk1 hP1 hI1
    clear hk1 hPc hDc hFc hP1 hD1 ht hI1
    refine lv_if_ne (tgt := 30) hx hb dX10_shift_21 rfl (fun c_6 => ?_) (fun c_6 => ?_)
    · have c_6 : 0 ≤ kv.toInt ∧ kv.toInt < (((nN (mn f0)) : Nat) : Int) := zp_1 c_6
      refine lv_aload hx hb dX10_shift_30 (lv_at hl 0 rfl) ?_
      refine va_get (D := (dC, dI)) (ci := 1) (v := .ref lk2) (C := RX2) (T := TX2) (N := 8) hx hb hts inX2 hown hK hP 3 rfl rfl 6 (Nat.le_of_ble_eq_true rfl) (hts _ mw_433) (fun _ h9 => h9) rfl dX10_shift_32 ?_
      refine va_get (D := (dC, dI)) (ci := 4) (v := .int (st f0)) (C := RX5) (T := TX5) (N := 6) hx hb hts inX5 hown hK hP 4 rfl rfl 1 (Nat.le_of_ble_eq_true rfl) (hts _ mw_385) (fun _ h9 => h9) rfl dX10_shift_35 ?_
      refine lv_iconst (v := 1) hx hb dX10_shift_38 rfl ?_
      refine lv_icmp_eq (tgt := 48) hx hb dX10_shift_39 rfl (fun c_7 => ?_) (fun c_7 => ?_)
      · have c_7 : (st f0).toInt = 1 := zc_eq rfl rfl c_7
        refine lv_iload_n hx hb dX10_shift_48 rfl (lv_at hl 4 rfl) ?_
        refine lv_sipush (v := (-200)) hx hb dX10_shift_49 rfl ?_
        refine lv_sipush (v := 200) hx hb dX10_shift_52 rfl ?_
        obtain ⟨hPc, hDc, hFc, hI1⟩ := zi_sub (wc := []) hP hD hS hA [] rfl rfl
        refine zcall (st1 := [.int (pI ((-200 : Int32).toInt ≤ dx.toInt ∧ dx.toInt ≤ (200 : Int32).toInt))]) (va_runS (As := [.int dx, .int (-200), .int 200]) (rest := []) ⟨hx, hb, hml, hown, hts⟩ (k_isWithin l dC dI cI cZ cF H.size dx (-200) 200 ) (csS_14 hts rfl rfl ⟨Nat.le_of_ble_eq_true rfl, Nat.le_of_ble_eq_true rfl⟩) (zPS2 hPc hDc hK hXN) rfl rfl hl.1 rfl (lv_room (Nat.le_of_ble_eq_true rfl)) dX10_shift_55 ⟨Nat.le_of_ble_eq_true rfl, Nat.le_of_ble_eq_true rfl⟩) hS hFc hFc rfl (fun t H locs ht hB hk1 hS => ?_)
        obtain ⟨hP1, hD1⟩ := hB
        rw [ht] at hP1
        replace hP := z0 hP hD hk1 hP1 hI1
        clear hk1 hPc hDc hFc hP1 hD1 ht hI1
        refine lv_if_eq (tgt := 75) hx hb dX10_shift_58 rfl (fun c_8 => ?_) (fun c_8 => ?_)
        · have c_8 : ¬ ((-200 : Int32).toInt ≤ dx.toInt ∧ dx.toInt ≤ (200 : Int32).toInt) := zp_0 c_8
          refine lv_aload_n hx hb dX10_shift_75 rfl (lv_at hl 1 rfl) ?_
          refine lv_iconst (v := 4) hx hb dX10_shift_76 rfl ?_
          obtain ⟨hPc, hDc, hFc⟩ := zo_sub (wc := [_]) hP hD hS hA [0] rfl rfl
          refine zcall (st1 := [.int 0]) (va_runV (As := [.int 4]) (rest := []) ⟨hx, hb, hml, hown, hts⟩ (k_deny_4 l dC dI cI cZ cF H.size x sh lw ro bq bp dq dp lv sl sd ul su ds ) (csV_96 hts rfl rfl ⟨Nat.le_of_ble_eq_true rfl, Nat.le_of_ble_eq_true rfl⟩) (zPV2 (q0 := 0) (ci := 8) hPc hDc hK hXN rfl rfl) rfl rfl hl.1 rfl (lv_room (Nat.le_of_ble_eq_true rfl)) dX10_shift_77 ⟨Nat.le_of_ble_eq_true rfl, Nat.le_of_ble_eq_true rfl⟩) hS hFc hFc rfl (fun t H locs ht hB hk1 hS => ?_)
          obtain ⟨hP1, hD1⟩ := hB
          rw [ht] at hP1
          obtain ⟨hP, hD⟩ := znQ (W2 := [(oc8 x (.ref sh) (.ref lw) (.ref ro) (.ref bq) (.ref bp) (.ref dq) (.ref dp) (.ref lv) (.ref sl) ds sd ul 4), _, _, _, _, _, _, _]) hP hD hk1 hFc hP1 hD1 [0] zl_54 zl_54 [0] (by decide +kernel) rfl rfl rfl rfl rfl
          clear hk1 hPc hDc hFc hP1 hD1 ht
          obtain ⟨hP, hD⟩ := pl_bk (X := [_, _, _]) hT_1 hP rfl hc9_1 hD0_1 rfl
          obtain ⟨hP9, hD9⟩ := zu_part (cx := [_, _, _]) hP hD [true, true, true] rfl rfl
          rw [hQ9]
          exact W.zret (ty := .boolean) (v := 0) hx hb hr (rfl) (fun t ht hW => ⟨⟨rfl, 4, by rw [ht]; exact hP9, hD9⟩, hS.F ht⟩) hS.2.2 dX10_shift_80
        · have c_8 : (-200 : Int32).toInt ≤ dx.toInt ∧ dx.toInt ≤ (200 : Int32).toInt := zp_1 c_8
          refine lv_iload hx hb dX10_shift_61 (lv_at hl 5 rfl) ?_
          refine lv_sipush (v := (-200)) hx hb dX10_shift_63 rfl ?_
          refine lv_sipush (v := 200) hx hb dX10_shift_66 rfl ?_
          obtain ⟨hPc, hDc, hFc, hI1⟩ := zi_sub (wc := []) hP hD hS hA [] rfl rfl
          refine zcall (st1 := [.int (pI ((-200 : Int32).toInt ≤ dy.toInt ∧ dy.toInt ≤ (200 : Int32).toInt))]) (va_runS (As := [.int dy, .int (-200), .int 200]) (rest := []) ⟨hx, hb, hml, hown, hts⟩ (k_isWithin l dC dI cI cZ cF H.size dy (-200) 200 ) (csS_14 hts rfl rfl ⟨Nat.le_of_ble_eq_true rfl, Nat.le_of_ble_eq_true rfl⟩) (zPS2 hPc hDc hK hXN) rfl rfl hl.1 rfl (lv_room (Nat.le_of_ble_eq_true rfl)) dX10_shift_69 ⟨Nat.le_of_ble_eq_true rfl, Nat.le_of_ble_eq_true rfl⟩) hS hFc hFc rfl (fun t H locs ht hB hk1 hS => ?_)
          obtain ⟨hP1, hD1⟩ := hB
          rw [ht] at hP1
          replace hP := z0 hP hD hk1 hP1 hI1
          clear hk1 hPc hDc hFc hP1 hD1 ht hI1
          refine lv_if_ne (tgt := 81) hx hb dX10_shift_72 rfl (fun c_9 => ?_) (fun c_9 => ?_)
          · have c_9 : (-200 : Int32).toInt ≤ dy.toInt ∧ dy.toInt ≤ (200 : Int32).toInt := zp_1 c_9
            refine lv_iload hx hb dX10_shift_81 (lv_at hl 6 rfl) ?_
            refine lv_iconst (v := 0) hx hb dX10_shift_83 rfl ?_
            refine lv_bipush (v := 20) hx hb dX10_shift_84 rfl ?_
            obtain ⟨hPc, hDc, hFc, hI1⟩ := zi_sub (wc := []) hP hD hS hA [] rfl rfl
            refine zcall (st1 := [.int (pI ((0 : Int32).toInt ≤ nv.toInt ∧ nv.toInt ≤ (20 : Int32).toInt))]) (va_runS (As := [.int nv, .int 0, .int 20]) (rest := []) ⟨hx, hb, hml, hown, hts⟩ (k_isWithin l dC dI cI cZ cF H.size nv 0 20 ) (csS_14 hts rfl rfl ⟨Nat.le_of_ble_eq_true rfl, Nat.le_of_ble_eq_true rfl⟩) (zPS2 hPc hDc hK hXN) rfl rfl hl.1 rfl (lv_room (Nat.le_of_ble_eq_true rfl)) dX10_shift_86 ⟨Nat.le_of_ble_eq_true rfl, Nat.le_of_ble_eq_true rfl⟩) hS hFc hFc rfl (fun t H locs ht hB hk1 hS => ?_)
            obtain ⟨hP1, hD1⟩ := hB
            rw [ht] at hP1
            replace hP := z0 hP hD hk1 hP1 hI1
            clear hk1 hPc hDc hFc hP1 hD1 ht hI1
            refine lv_if_ne (tgt := 98) hx hb dX10_shift_89 rfl (fun c_10 => ?_) (fun c_10 => ?_)
            · have c_10 : (0 : Int32).toInt ≤ nv.toInt ∧ nv.toInt ≤ (20 : Int32).toInt := zp_1 c_10
              refine lv_aload hx hb dX10_shift_98 (lv_at hl 0 rfl) ?_
              refine va_get (D := (dC, dI)) (ci := 1) (v := .ref lk2) (C := RX2) (T := TX2) (N := 8) hx hb hts inX2 hown hK hP 3 rfl rfl 6 (Nat.le_of_ble_eq_true rfl) (hts _ mw_433) (fun _ h9 => h9) rfl dX10_shift_100 ?_
              refine va_get (D := (dC, dI)) (ci := 4) (v := .ref r2) (C := RX5) (T := TX5) (N := 6) hx hb hts inX5 hown hK hP 4 rfl rfl 2 (Nat.le_of_ble_eq_true rfl) (hts _ mw_391) (fun _ h9 => h9) rfl dX10_shift_103 ?_
              refine lv_astore (lv' := [(7, .ref r2), (6, .ref fe2), (0, .ref x), (1, .int (nI f0)), (2, .int kv), (3, .int dx), (4, .int dy), (5, .int nv)]) hx hb dX10_shift_106 hl (Nat.le_of_ble_eq_true rfl) rfl (fun ls hl => ?_)
              refine lv_aload hx hb dX10_shift_108 (lv_at hl 0 rfl) ?_
              refine lv_ifnonnull (tgt := 119) hx hb dX10_shift_110 rfl ?_
              exfalso; omega
            · have c_10 : ¬ ((0 : Int32).toInt ≤ nv.toInt ∧ nv.toInt ≤ (20 : Int32).toInt) := zp_0 c_10
              refine lv_aload_n hx hb dX10_shift_92 rfl (lv_at hl 1 rfl) ?_
              refine lv_iconst (v := 4) hx hb dX10_shift_93 rfl ?_
              obtain ⟨hPc, hDc, hFc⟩ := zo_sub (wc := [_]) hP hD hS hA [0] rfl rfl
              refine zcall (st1 := [.int 0]) (va_runV (As := [.int 4]) (rest := []) ⟨hx, hb, hml, hown, hts⟩ (k_deny_4 l dC dI cI cZ cF H.size x sh lw ro bq bp dq dp lv sl sd ul su ds ) (csV_96 hts rfl rfl ⟨Nat.le_of_ble_eq_true rfl, Nat.le_of_ble_eq_true rfl⟩) (zPV2 (q0 := 0) (ci := 8) hPc hDc hK hXN rfl rfl) rfl rfl hl.1 rfl (lv_room (Nat.le_of_ble_eq_true rfl)) dX10_shift_94 ⟨Nat.le_of_ble_eq_true rfl, Nat.le_of_ble_eq_true rfl⟩) hS hFc hFc rfl (fun t H locs ht hB hk1 hS => ?_)
              obtain ⟨hP1, hD1⟩ := hB
              rw [ht] at hP1
              obtain ⟨hP, hD⟩ := znQ (W2 := [(oc8 x (.ref sh) (.ref lw) (.ref ro) (.ref bq) (.ref bp) (.ref dq) (.ref dp) (.ref lv) (.ref sl) ds sd ul 4), _, _, _, _, _, _, _]) hP hD hk1 hFc hP1 hD1 [0] zl_54 zl_54 [0] (by decide +kernel) rfl rfl rfl rfl rfl
              clear hk1 hPc hDc hFc hP1 hD1 ht
              obtain ⟨hP, hD⟩ := pl_bk (X := [_, _, _]) hT_1 hP rfl hc9_1 hD0_1 rfl
              obtain ⟨hP9, hD9⟩ := zu_part (cx := [_, _, _]) hP hD [true, true, true] rfl rfl
              rw [hQ9]
              exact W.zret (ty := .boolean) (v := 0) hx hb hr (rfl) (fun t ht hW => ⟨⟨rfl, 4, by rw [ht]; exact hP9, hD9⟩, hS.F ht⟩) hS.2.2 dX10_shift_97
          · have c_9 : ¬ ((-200 : Int32).toInt ≤ dy.toInt ∧ dy.toInt ≤ (200 : Int32).toInt) := zp_0 c_9
            refine lv_aload_n hx hb dX10_shift_75 rfl (lv_at hl 1 rfl) ?_
            refine lv_iconst (v := 4) hx hb dX10_shift_76 rfl ?_
            obtain ⟨hPc, hDc, hFc⟩ := zo_sub (wc := [_]) hP hD hS hA [0] rfl rfl
            refine zcall (st1 := [.int 0]) (va_runV (As := [.int 4]) (rest := []) ⟨hx, hb, hml, hown, hts⟩ (k_deny_4 l dC dI cI cZ cF H.size x sh lw ro bq bp dq dp lv sl sd ul su ds ) (csV_96 hts rfl rfl ⟨Nat.le_of_ble_eq_true rfl, Nat.le_of_ble_eq_true rfl⟩) (zPV2 (q0 := 0) (ci := 8) hPc hDc hK hXN rfl rfl) rfl rfl hl.1 rfl (lv_room (Nat.le_of_ble_eq_true rfl)) dX10_shift_77 ⟨Nat.le_of_ble_eq_true rfl, Nat.le_of_ble_eq_true rfl⟩) hS hFc hFc rfl (fun t H locs ht hB hk1 hS => ?_)
            obtain ⟨hP1, hD1⟩ := hB
            rw [ht] at hP1
            obtain ⟨hP, hD⟩ := znQ (W2 := [(oc8 x (.ref sh) (.ref lw) (.ref ro) (.ref bq) (.ref bp) (.ref dq) (.ref dp) (.ref lv) (.ref sl) ds sd ul 4), _, _, _, _, _, _, _]) hP hD hk1 hFc hP1 hD1 [0] zl_54 zl_54 [0] (by decide +kernel) rfl rfl rfl rfl rfl
            clear hk1 hPc hDc hFc hP1 hD1 ht
            obtain ⟨hP, hD⟩ := pl_bk (X := [_, _, _]) hT_1 hP rfl hc9_1 hD0_1 rfl
            obtain ⟨hP9, hD9⟩ := zu_part (cx := [_, _, _]) hP hD [true, true, true] rfl rfl
            rw [hQ9]
            exact W.zret (ty := .boolean) (v := 0) hx hb hr (rfl) (fun t ht hW => ⟨⟨rfl, 4, by rw [ht]; exact hP9, hD9⟩, hS.F ht⟩) hS.2.2 dX10_shift_80
      · have c_7 : ¬ (st f0).toInt = 1 := zc_ne rfl rfl c_7
        refine lv_aload_n hx hb dX10_shift_42 rfl (lv_at hl 1 rfl) ?_
        refine lv_iconst (v := 2) hx hb dX10_shift_43 rfl ?_
        obtain ⟨hPc, hDc, hFc⟩ := zo_sub (wc := [_]) hP hD hS hA [0] rfl rfl
        refine zcall (st1 := [.int 0]) (va_runV (As := [.int 2]) (rest := []) ⟨hx, hb, hml, hown, hts⟩ (k_deny_2 l dC dI cI cZ cF H.size x sh lw ro bq bp dq dp lv sl sd ul su ds ) (csV_96 hts rfl rfl ⟨Nat.le_of_ble_eq_true rfl, Nat.le_of_ble_eq_true rfl⟩) (zPV2 (q0 := 0) (ci := 8) hPc hDc hK hXN rfl rfl) rfl rfl hl.1 rfl (lv_room (Nat.le_of_ble_eq_true rfl)) dX10_shift_44 ⟨Nat.le_of_ble_eq_true rfl, Nat.le_of_ble_eq_true rfl⟩) hS hFc hFc rfl (fun t H locs ht hB hk1 hS => ?_)
        obtain ⟨hP1, hD1⟩ := hB
        rw [ht] at hP1
        obtain ⟨hP, hD⟩ := znQ (W2 := [(oc8 x (.ref sh) (.ref lw) (.ref ro) (.ref bq) (.ref bp) (.ref dq) (.ref dp) (.ref lv) (.ref sl) ds sd ul 2), _, _, _, _, _, _, _]) hP hD hk1 hFc hP1 hD1 [0] zl_54 zl_54 [0] (by decide +kernel) rfl rfl rfl rfl rfl
        clear hk1 hPc hDc hFc hP1 hD1 ht
        obtain ⟨hP, hD⟩ := pl_bk (X := [_, _, _]) hT_1 hP rfl hc9_1 hD0_1 rfl
        obtain ⟨hP9, hD9⟩ := zu_part (cx := [_, _, _]) hP hD [true, true, true] rfl rfl
        rw [hQ9]
        exact W.zret (ty := .boolean) (v := 0) hx hb hr (rfl) (fun t ht hW => ⟨⟨rfl, 2, by rw [ht]; exact hP9, hD9⟩, hS.F ht⟩) hS.2.2 dX10_shift_47
    · have c_6 : ¬ (0 ≤ kv.toInt ∧ kv.toInt < (((nN (mn f0)) : Nat) : Int)) := zp_0 c_6
      refine lv_aload_n hx hb dX10_shift_24 rfl (lv_at hl 1 rfl) ?_
      refine lv_iconst (v := 1) hx hb dX10_shift_25 rfl ?_
      obtain ⟨hPc, hDc, hFc⟩ := zo_sub (wc := [_]) hP hD hS hA [0] rfl rfl
      refine zcall (st1 := [.int 0]) (va_runV (As := [.int 1]) (rest := []) ⟨hx, hb, hml, hown, hts⟩ (k_deny_1 l dC dI cI cZ cF H.size x sh lw ro bq bp dq dp lv sl sd ul su ds ) (csV_96 hts rfl rfl ⟨Nat.le_of_ble_eq_true rfl, Nat.le_of_ble_eq_true rfl⟩) (zPV2 (q0 := 0) (ci := 8) hPc hDc hK hXN rfl rfl) rfl rfl hl.1 rfl (lv_room (Nat.le_of_ble_eq_true rfl)) dX10_shift_26 ⟨Nat.le_of_ble_eq_true rfl, Nat.le_of_ble_eq_true rfl⟩) hS hFc hFc rfl (fun t H locs ht hB hk1 hS => ?_)
      obtain ⟨hP1, hD1⟩ := hB
      rw [ht] at hP1
      obtain ⟨hP, hD⟩ := znQ (W2 := [(oc8 x (.ref sh) (.ref lw) (.ref ro) (.ref bq) (.ref bp) (.ref dq) (.ref dp) (.ref lv) (.ref sl) ds sd ul 1), _, _, _, _, _, _, _]) hP hD hk1 hFc hP1 hD1 [0] zl_54 zl_54 [0] (by decide +kernel) rfl rfl rfl rfl rfl
      clear hk1 hPc hDc hFc hP1 hD1 ht
      obtain ⟨hP, hD⟩ := pl_bk (X := [_, _, _]) hT_1 hP rfl hc9_1 hD0_1 rfl
      obtain ⟨hP9, hD9⟩ := zu_part (cx := [_, _, _]) hP hD [true, true, true] rfl rfl
      rw [hQ9]
      exact W.zret (ty := .boolean) (v := 0) hx hb hr (rfl) (fun t ht hW => ⟨⟨rfl, 1, by rw [ht]; exact hP9, hD9⟩, hS.F ht⟩) hS.2.2 dX10_shift_29
set_option maxHeartbeats 4000000 in
set_option maxRecDepth 100000 in
theorem k_step_x (l : Launch) (dC : Nat → ClassId) (dI : Nat → Nat → Nat) (cI cZ cF : ClassId) (sz : Nat) (cO : ClassId) (e0 : Nat) (mi : Nat) (x : Nat) (sh : Nat) (lw : Nat) (ro : Nat) (bq : Nat) (bp : Nat) (dq : Nat) (dp : Nat) (lv : Nat) (sl : Nat) (sd : Int32) (ul : Int32) (su : Int32) (ea : Nat) (dn : Nat) (T : Nat) (mc9 : Int32) (v : Int32) (w : Int32) (hT5 : T ≤ 512) (hv : ¬ (1 ≤ v.toInt ∧ v.toInt ≤ ((T : Nat) : Int))) : zML l yX10_step cX10_step 4 (some .int) ({ frames := 1, cells := 0, slots := 0, locals := 20 } : Room) [.ref x, .int v, .int w] (dC, dI) (zTyO cI cZ cF cO) e0 mi [(oc8 x (.ref sh) (.ref lw) (.ref ro) (.ref bq) (.ref bp) (.ref dq) (.ref dp) (.ref lv) (.ref sl) (nI dn) sd ul su), (oc10 sl mc9 (.ref ea) (nI T))] sz (some (.int (-1))) (fun A t => zPD (dC, dI) classes A [(oc8 x (.ref sh) (.ref lw) (.ref ro) (.ref bq) (.ref bp) (.ref dq) (.ref dp) (.ref lv) (.ref sl) (nI dn) sd ul su), (oc10 sl mc9 (.ref ea) (nI T))] t.heap) 0 0 := by
  refine zInL (own := "ScaleShop") (loc := [(0, .ref x), (1, .int v), (2, .int w)]) rfl rfl rfl rfl (fun p e s m below meth c hx hb hr hts hown hlocks hml hnm9 A hA hS hP hD hK hXL hXN hK3 Q9 hQ9 ls hl => ?_)
  refine lv_iload_n hx hb dX10_step_0 rfl (lv_at hl 1 rfl) ?_
  refine lv_iconst (v := 1) hx hb dX10_step_1 rfl ?_
  refine lv_icmp_lt (tgt := 16) hx hb dX10_step_2 rfl (fun c_1 => ?_) (fun c_1 => ?_)
  · have c_1 : v.toInt < 1 := zc_lt rfl rfl c_1
    refine lv_iconst (v := (-1)) hx hb dX10_step_16 rfl ?_
    obtain ⟨hP9, hD9⟩ := zu_sub (wc := [_, _]) hP hD [true, true] rfl rfl
    rw [hQ9]
    exact W.iret (v := (-1)) hx hb hr (fun t ht hW => ⟨⟨rfl, by rw [ht]; exact hP9, hD9⟩, hS.F ht⟩) hS.2.2 dX10_step_17
  · have c_1 : 1 ≤ v.toInt := zc_nlt rfl rfl c_1
    refine lv_iload_n hx hb dX10_step_5 rfl (lv_at hl 1 rfl) ?_
    refine lv_aload_n hx hb dX10_step_6 rfl (lv_at hl 0 rfl) ?_
    refine va_get (D := (dC, dI)) (ci := 8) (v := .ref sl) (C := RX10) (T := TX10) (N := 13) hx hb hts inX10 hown hK hP 0 rfl rfl 8 (Nat.le_of_ble_eq_true rfl) (hts _ mw_317) (fun _ h9 => h9) rfl dX10_step_7 ?_
    obtain ⟨hPc, hDc, hFc, hI1⟩ := zi_sub (wc := [_]) hP hD hS hA [1] rfl rfl
    refine zcall (st1 := [.int (nI T), .int v]) (va_runV (As := []) (rest := [.int v]) ⟨hx, hb, hml, hown, hts⟩ (k_AL_size l dC dI cI cZ cF s.heap.size sl ea T mc9 ) (csV_90 hts rfl rfl ⟨Nat.le_of_ble_eq_true rfl, Nat.le_of_ble_eq_true rfl⟩) (zPV2 (q0 := 0) (ci := 10) hPc hDc hK3 hXN rfl rfl) rfl rfl hl.1 rfl (lv_room (Nat.le_of_ble_eq_true rfl)) dX10_step_10 ⟨Nat.le_of_ble_eq_true rfl, Nat.le_of_ble_eq_true rfl⟩) hS hFc hFc rfl (fun t H locs ht hB hk1 hS => ?_)
    obtain ⟨hP1, hD1⟩ := hB
    rw [ht] at hP1
    replace hP := z0 hP hD hk1 hP1 hI1
    clear hk1 hPc hDc hFc hP1 hD1 ht hI1
    have b9_3 : zlt (T) := show T < 2147483648 by omega
    refine lv_icmp_le (tgt := 18) hx hb dX10_step_13 rfl (fun c_2 => ?_) (fun c_2 => ?_)
    · have c_2 : v.toInt ≤ ((T : Nat) : Int) := zc_le rfl (nI_toInt b9_3) c_2
      exfalso; omega
    · have c_2 : ((T : Nat) : Int) < v.toInt := zc_nle rfl (nI_toInt b9_3) c_2
      refine lv_iconst (v := (-1)) hx hb dX10_step_16 rfl ?_
      obtain ⟨hP9, hD9⟩ := zu_sub (wc := [_, _]) hP hD [true, true] rfl rfl
      rw [hQ9]
      exact W.iret (v := (-1)) hx hb hr (fun t ht hW => ⟨⟨rfl, by rw [ht]; exact hP9, hD9⟩, hS.F ht⟩) hS.2.2 dX10_step_17
end
section
set_option maxHeartbeats 4000000 in
set_option maxRecDepth 100000 in
theorem k_at_x (l : Launch) (dC : Nat → ClassId) (dI : Nat → Nat → Nat) (cI cZ cF : ClassId) (sz : Nat) (x : Nat) (sh : Nat) (lw : Nat) (ro : Nat) (bq : Nat) (bp : Nat) (dq : Nat) (dp : Nat) (lv : Nat) (sl : Nat) (sd : Int32) (ul : Int32) (su : Int32) (ds : Int32) (fa : Nat) (ft : Nat) (FA : Nat → Option Nat) (v : Int32) (kv : Int32) (w : Int32) (h200 : ft ≤ 200) (hv : ¬ (0 ≤ v.toInt ∧ v.toInt < ((ft : Nat) : Int))) : zM l yX10_at cX10_at 6 (some .int) ({ frames := 1, cells := 0, slots := 0, locals := 21 } : Room) [.ref x, .int v, .int kv, .int w] (dC, dI) (zTy cI cZ cF) [(oc8 x (.ref sh) (.ref lw) (.ref ro) (.ref bq) (.ref bp) (.ref dq) (.ref dp) (.ref lv) (.ref sl) ds sd ul su), (oc7 sh (.ref fa) (nI ft)), (oq fa cF 200 FA)] sz (some (.int (-1))) (fun A t => zPD (dC, dI) classes A [(oc8 x (.ref sh) (.ref lw) (.ref ro) (.ref bq) (.ref bp) (.ref dq) (.ref dp) (.ref lv) (.ref sl) ds sd ul su), (oc7 sh (.ref fa) (nI ft)), (oq fa cF 200 FA)] t.heap) 0 0 := by
  refine zIn (own := "ScaleShop") (loc := [(0, .ref x), (1, .int v), (2, .int kv), (3, .int w)]) rfl rfl rfl rfl (fun p e s m below meth c hx hb hr hts hown hlocks hml hnm9 A hA hS hP hD hK hXN Q9 hQ9 ls hl => ?_)
  refine lv_aload_n hx hb dX10_at_0 rfl (lv_at hl 0 rfl) ?_
  refine va_get (D := (dC, dI)) (ci := 8) (v := .ref sh) (C := RX10) (T := TX10) (N := 13) hx hb hts inX10 hown hK hP 0 rfl rfl 0 (Nat.le_of_ble_eq_true rfl) (hts _ mw_309) (fun _ h9 => h9) rfl dX10_at_1 ?_
  refine lv_iload_n hx hb dX10_at_4 rfl (lv_at hl 1 rfl) ?_
  obtain ⟨hPc, hDc, hFc, hI1⟩ := zi_sub (wc := [_, _]) hP hD hS hA [1, 2] rfl rfl
  refine zcall (st1 := [.null]) (va_runV (As := [.int v]) (rest := []) ⟨hx, hb, hml, hown, hts⟩ (k_Sheet_find_n l dC dI cI cZ cF s.heap.size sh fa ft FA v (by first | with_reducible assumption | omega) (by first | with_reducible assumption | assumption)) (csV_94 hts rfl rfl ⟨Nat.le_of_ble_eq_true rfl, Nat.le_of_ble_eq_true rfl⟩) (zPV2 (q0 := 0) (ci := 7) hPc hDc hK hXN rfl rfl) rfl rfl hl.1 rfl (lv_room (Nat.le_of_ble_eq_true rfl)) dX10_at_5 ⟨Nat.le_of_ble_eq_true rfl, Nat.le_of_ble_eq_true rfl⟩) hS hFc hFc rfl (fun t H locs ht hB hk1 hS => ?_)
  obtain ⟨hP1, hD1⟩ := hB
  rw [ht] at hP1
  replace hP := z0 hP hD hk1 hP1 hI1
  clear hk1 hPc hDc hFc hP1 hD1 ht hI1
  refine lv_astoreN (lv' := [(4, .null), (0, .ref x), (1, .int v), (2, .int kv), (3, .int w)]) hx hb dX10_at_8 hl (Nat.le_of_ble_eq_true rfl) rfl (fun ls hl => ?_)
  refine lv_aloadN hx hb dX10_at_10 (lv_at hl 0 rfl) ?_
  refine lv_ifnullN (tgt := 24) hx hb dX10_at_12 rfl ?_
  refine lv_iconst (v := (-1)) hx hb dX10_at_24 rfl ?_
  obtain ⟨hP9, hD9⟩ := zu_sub (wc := [_, _, _]) hP hD [true, true, true] rfl rfl
  rw [hQ9]
  exact W.iret (v := (-1)) hx hb hr (fun t ht hW => ⟨⟨rfl, by rw [ht]; exact hP9, hD9⟩, hS.F ht⟩) hS.2.2 dX10_at_25
set_option maxHeartbeats 4000000 in
set_option maxRecDepth 100000 in
theorem k_status (l : Launch) (dC : Nat → ClassId) (dI : Nat → Nat → Nat) (cI cZ cF : ClassId) (sz : Nat) (x : Nat) (sh : Nat) (lw : Nat) (ro : Nat) (bq : Nat) (bp : Nat) (dq : Nat) (dp : Nat) (lv : Nat) (sl : Nat) (sd : Int32) (ul : Int32) (su : Int32) (ds : Int32) : zM l yX10_status cX10_status 1 (some .int) ({ frames := 0, cells := 0, slots := 0, locals := 0 } : Room) [.ref x] (dC, dI) (zTy cI cZ cF) [(oc8 x (.ref sh) (.ref lw) (.ref ro) (.ref bq) (.ref bp) (.ref dq) (.ref dp) (.ref lv) (.ref sl) ds sd ul su)] sz (some (.int su)) (fun A t => zPD (dC, dI) classes A [(oc8 x (.ref sh) (.ref lw) (.ref ro) (.ref bq) (.ref bp) (.ref dq) (.ref dp) (.ref lv) (.ref sl) ds sd ul su)] t.heap) 0 0 := by
  refine zIn (own := "ScaleShop") (loc := [(0, .ref x)]) rfl rfl rfl rfl (fun p e s m below meth c hx hb hr hts hown hlocks hml hnm9 A hA hS hP hD hK hXN Q9 hQ9 ls hl => ?_)
  refine lv_aload_n hx hb dX10_status_0 rfl (lv_at hl 0 rfl) ?_
  refine va_get (D := (dC, dI)) (ci := 8) (v := .int su) (C := RX10) (T := TX10) (N := 13) hx hb hts inX10 hown hK hP 0 rfl rfl 12 (Nat.le_of_ble_eq_true rfl) (hts _ mw_321) (fun _ h9 => h9) rfl dX10_status_1 ?_
  obtain ⟨hP9, hD9⟩ := zu_sub (wc := [_]) hP hD [true] rfl rfl
  rw [hQ9]
  exact W.iret (v := su) hx hb hr (fun t ht hW => ⟨⟨rfl, by rw [ht]; exact hP9, hD9⟩, hS.F ht⟩) hS.2.2 dX10_status_4
set_option maxHeartbeats 4000000 in
set_option maxRecDepth 100000 in
theorem k_Sheet_inState (l : Launch) (dC : Nat → ClassId) (dI : Nat → Nat → Nat) (cI cZ cF : ClassId) (sz : Nat) (sh : Nat) (fa : Nat) (ft : Nat) (FA : Nat → Option Nat) (L : List Nat) (f : Nat → va_E) (kd : Nat → Int32) (st : Nat → Int32) (tn : Nat → Int32) (mn : Nat → Int32) (cx : Nat → Int32) (cy : Nat → Int32) (rk : Nat → Int32) (wd : Nat → Int32) (tw : Nat → Int32) (pa : Nat → Int32) (pb : Nat → Int32) (gb : Nat → Int32) (it : Nat → Int32) (sv : Int32) (h200 : ft ≤ 200) (hva : ∀ q, q < ft → vwA cI L f FA rk wd tw pa pb kd st gb it tn mn cx cy q) : zM l yX8_inState cX8_inState 5 (some .int) ({ frames := 1, cells := 0, slots := 0, locals := 21 } : Room) [.ref sh, .int sv] (dC, dI) (zTy cI cZ cF) ([(oc7 sh (.ref fa) (nI ft)), (oq fa cF 200 FA)] ++ va_pl L f) sz (some (.int (nI (cntP (fun g => (st g).toInt = sv.toInt) ft)))) (fun A t => zPD (dC, dI) classes A ([(oc7 sh (.ref fa) (nI ft)), (oq fa cF 200 FA)] ++ va_pl L f) t.heap) 0 0 := by
  refine zIn (own := "ScaleShop$Sheet") (loc := [(0, .ref sh), (1, .int sv)]) rfl rfl rfl rfl (fun p e s m below meth c hx hb hr hts hown hlocks hml hnm9 A hA hS hP hD hK hXN Q9 hQ9 ls hl => ?_)
  refine lv_iconst (v := 0) hx hb dX8_inState_0 rfl ?_
  refine lv_istore_n (lv' := [(2, .int 0), (0, .ref sh), (1, .int sv)]) hx hb dX8_inState_1 rfl hl (Nat.le_of_ble_eq_true rfl) rfl (fun ls hl => ?_)
  refine lv_iconst (v := 0) hx hb dX8_inState_2 rfl ?_
  refine lv_istore_n (lv' := [(3, .int 0), (2, .int 0), (0, .ref sh), (1, .int sv)]) hx hb dX8_inState_3 rfl hl (Nat.le_of_ble_eq_true rfl) rfl (fun ls hl => ?_)
  have hl_4 : ∀ (n9 : Nat) (g5 : Nat) (H : Heap) (locs : List Loc) (ls : Array Slot), ft - g5 < n9 → (g5 ≤ ft) → va_P (dC, dI) classes ([(oc7 sh (.ref fa) (nI ft)), (oq fa cF 200 FA)] ++ va_pl L f) H → va_D A ([(oc7 sh (.ref fa) (nI ft)), (oq fa cF 200 FA)] ++ va_pl L f) → va_S A s.heap H locs → lv_has ls 5 [(3, .int (nI g5)), (2, .int (nI (cntP (fun g => (st g).toInt = sv.toInt) g5))), (0, .ref sh), (1, .int sv)] → W p l e ({ frames := 1, cells := 0, slots := 0, locals := 21 } : Room) s m ([.ref sh, .int sv] : List Value).toArray below meth c H locs 0 0 Q9 (F0 m 4 ls []) := by
    intro n9
    induction n9 with
    | zero => intro g5 H locs ls hm; exact absurd hm (Nat.not_lt_zero _)
    | succ n9 ih_4 =>
      intro g5 H locs ls hm hg5 hP hD hS hl
      have hcb := cntP_b (fun g => (st g).toInt = sv.toInt) g5
      refine lv_iload_n hx hb dX8_inState_4 rfl (lv_at hl 0 rfl) ?_
      refine lv_aload_n hx hb dX8_inState_5 rfl (lv_at hl 2 rfl) ?_
      refine va_get (D := (dC, dI)) (ci := 7) (v := .int (nI ft)) (C := RX8) (T := TX8) (N := 2) hx hb hts inX8 hown hK hP 0 rfl rfl 1 (Nat.le_of_ble_eq_true rfl) (hts _ mw_137) (fun _ h9 => h9) rfl dX8_inState_6 ?_
      have b9_2 : zlt (g5) := show g5 < 2147483648 by omega
      have b9_3 : zlt (ft) := show ft < 2147483648 by omega
      refine lv_icmp_ge (tgt := 45) hx hb dX8_inState_9 rfl (fun c_1 => ?_) (fun c_1 => ?_)
      · have c_1 : ((ft : Nat) : Int) ≤ ((g5 : Nat) : Int) := zc_le (nI_toInt b9_3) (nI_toInt b9_2) c_1
        refine lv_iload_n hx hb dX8_inState_45 rfl (lv_at hl 1 rfl) ?_
        obtain ⟨hP9, hD9⟩ := zu_part (cx := [_, _]) hP hD [true, true] rfl rfl
        rw [hQ9]
        exact W.iret (v := nI (cntP (fun g => (st g).toInt = sv.toInt) g5)) hx hb hr (fun t ht hW => ⟨⟨congrArg (fun z => Outcome.returned (some (Value.int z))) (show (nI (cntP (fun g => (st g).toInt = sv.toInt) g5) : Int32) = nI (cntP (fun g => (st g).toInt = sv.toInt) ft) from zn_eq (by rw [show g5 = ft by omega])), by rw [ht]; exact hP9, hD9⟩, hS.F ht⟩) hS.2.2 dX8_inState_46
      · have c_1 : ((g5 : Nat) : Int) < ((ft : Nat) : Int) := zc_nle (nI_toInt b9_3) (nI_toInt b9_2) c_1
        rcases vwA_2 (hva g5 (by omega)) with ⟨ht2, fe2, lk2, lo2, we2, fm2, hFA2, hfe2, hlk2⟩ | ⟨ht2, fe2, lk2, lo2, we2, fm2, r2, rx2, ry2, cap2, U2, V2, rg2, hFA2, hfe2, hlk2, ⟨hr2, hrx2, hry2, hne2⟩, hrr2⟩
        · skip
          have hc9_1 : inPl L f [(oc1 fe2 (rk g5) (wd g5) (tw g5) (pa g5) (pb g5) (.ref lo2) (.ref lk2) fm2), (oc4 lk2 (kd g5) (st g5) .null (gb g5) (it g5) we2)] := ⟨hfe2, hlk2, trivial⟩
          have hD0_1 := hD
          obtain ⟨T_1, hT_1, hP, hD⟩ := pl_oT hP hD hc9_1 (pwF hfe2.2 hlk2.2)
          obtain ⟨hP, hD⟩ := zre (W2 := ([_, _, _, _] ++ va_pl T_1 f)) hP hD rfl
          refine lv_aload_n hx hb dX8_inState_12 rfl (lv_at hl 2 rfl) ?_
          refine lv_iload_n hx hb dX8_inState_13 rfl (lv_at hl 0 rfl) ?_
          obtain ⟨hPc, hDc, hFc, hI1⟩ := zi_sub (wc := [_, _]) hP hD hS hA [0, 1] rfl rfl
          refine zcall (st1 := [.ref fe2]) (va_runV (As := [.int (nI g5)]) (rest := []) ⟨hx, hb, hml, hown, hts⟩ (k_Sheet_find l dC dI cI cZ cF H.size sh fa ft FA g5 fe2 (by first | with_reducible assumption | omega) (by first | with_reducible assumption | omega) (hFA2)) (csV_36 hts rfl rfl ⟨Nat.le_of_ble_eq_true rfl, Nat.le_of_ble_eq_true rfl⟩) (zPV2 (q0 := 0) (ci := 7) hPc hDc hK hXN rfl rfl) rfl rfl hl.1 rfl (lv_room (Nat.le_of_ble_eq_true rfl)) dX8_inState_14 ⟨Nat.le_of_ble_eq_true rfl, Nat.le_of_ble_eq_true rfl⟩) hS hFc hFc rfl (fun t H locs ht hB hk1 hS => ?_)
          obtain ⟨hP1, hD1⟩ := hB
          rw [ht] at hP1
          replace hP := z0 hP hD hk1 hP1 hI1
          clear hk1 hPc hDc hFc hP1 hD1 ht hI1
          refine lv_astore (lv' := [(4, .ref fe2), (3, .int (nI g5)), (2, .int (nI (cntP (fun g => (st g).toInt = sv.toInt) g5))), (0, .ref sh), (1, .int sv)]) hx hb dX8_inState_17 hl (Nat.le_of_ble_eq_true rfl) rfl (fun ls hl => ?_)
          refine lv_aload hx hb dX8_inState_19 (lv_at hl 0 rfl) ?_
          refine lv_ifnull hx hb dX8_inState_21 ?_
          refine lv_aload hx hb dX8_inState_24 (lv_at hl 0 rfl) ?_
          refine va_get (D := (dC, dI)) (ci := 1) (v := .ref lk2) (C := RX2) (T := TX2) (N := 8) hx hb hts inX2 hown hK hP 2 rfl rfl 6 (Nat.le_of_ble_eq_true rfl) (hts _ mw_434) (fun _ h9 => h9) rfl dX8_inState_26 ?_
          refine va_get (D := (dC, dI)) (ci := 4) (v := .int (st g5)) (C := RX5) (T := TX5) (N := 6) hx hb hts inX5 hown hK hP 3 rfl rfl 1 (Nat.le_of_ble_eq_true rfl) (hts _ mw_387) (fun _ h9 => h9) rfl dX8_inState_29 ?_
          refine lv_iload_n hx hb dX8_inState_32 rfl (lv_at hl 4 rfl) ?_
          refine lv_icmp_ne (tgt := 39) hx hb dX8_inState_33 rfl (fun c_4 => ?_) (fun c_4 => ?_)
          · have c_4 : ¬ (st g5).toInt = sv.toInt := zc_ne rfl rfl c_4
            obtain ⟨hP, hD⟩ := pl_bk (X := [_, _]) hT_1 hP rfl hc9_1 hD0_1 rfl
            refine lv_iinc (v := nI (g5 + 1)) (lv' := [(3, .int (nI (g5 + 1))), (4, .ref fe2), (2, .int (nI (cntP (fun g => (st g).toInt = sv.toInt) g5))), (0, .ref sh), (1, .int sv)]) hx hb dX8_inState_39 hl (k := 1) rfl (nI_add g5 1) (Nat.le_of_ble_eq_true rfl) rfl (fun ls hl => ?_)
            refine lv_goto (tgt := 4) hx hb dX8_inState_42 rfl ?_
            have hl9 := lv_sub hl [0, 2, 3, 4] rfl
            have e9_2 : nI (cntP (fun g => (st g).toInt = sv.toInt) (g5 + 1)) = (nI (cntP (fun g => (st g).toInt = sv.toInt) g5) : Int32) := by first | exact congrArg nI (cntP_y (P := fun g => (st g).toInt = sv.toInt) (show (st g5).toInt = sv.toInt by omega)) | exact congrArg nI (cntP_n0 (P := fun g => (st g).toInt = sv.toInt) (show ¬ (st g5).toInt = sv.toInt by omega))
            have hl9 : lv_has ls 5 [(3, .int (nI (g5 + 1))), (2, .int (nI (cntP (fun g => (st g).toInt = sv.toInt) (g5 + 1)))), (0, .ref sh), (1, .int sv)] := by rw [e9_2]; exact hl9
            exact ih_4 (g5 + 1) H locs ls (by first | with_reducible assumption | omega) (by first | with_reducible assumption | omega) hP hD hS hl9
          · have c_4 : (st g5).toInt = sv.toInt := zc_eq rfl rfl c_4
            refine lv_iinc (v := nI ((cntP (fun g => (st g).toInt = sv.toInt) g5) + 1)) (lv' := [(2, .int (nI ((cntP (fun g => (st g).toInt = sv.toInt) g5) + 1))), (4, .ref fe2), (3, .int (nI g5)), (0, .ref sh), (1, .int sv)]) hx hb dX8_inState_36 hl (k := 2) rfl (nI_add (cntP (fun g => (st g).toInt = sv.toInt) g5) 1) (Nat.le_of_ble_eq_true rfl) rfl (fun ls hl => ?_)
            obtain ⟨hP, hD⟩ := pl_bk (X := [_, _]) hT_1 hP rfl hc9_1 hD0_1 rfl
            refine lv_iinc (v := nI (g5 + 1)) (lv' := [(3, .int (nI (g5 + 1))), (2, .int (nI ((cntP (fun g => (st g).toInt = sv.toInt) g5) + 1))), (4, .ref fe2), (0, .ref sh), (1, .int sv)]) hx hb dX8_inState_39 hl (k := 2) rfl (nI_add g5 1) (Nat.le_of_ble_eq_true rfl) rfl (fun ls hl => ?_)
            refine lv_goto (tgt := 4) hx hb dX8_inState_42 rfl ?_
            have hl9 := lv_sub hl [0, 1, 3, 4] rfl
            have e9_2 : nI (cntP (fun g => (st g).toInt = sv.toInt) (g5 + 1)) = (nI ((cntP (fun g => (st g).toInt = sv.toInt) g5) + 1) : Int32) := by first | exact congrArg nI (cntP_y (P := fun g => (st g).toInt = sv.toInt) (show (st g5).toInt = sv.toInt by omega)) | exact congrArg nI (cntP_n0 (P := fun g => (st g).toInt = sv.toInt) (show ¬ (st g5).toInt = sv.toInt by omega))
            have hl9 : lv_has ls 5 [(3, .int (nI (g5 + 1))), (2, .int (nI (cntP (fun g => (st g).toInt = sv.toInt) (g5 + 1)))), (0, .ref sh), (1, .int sv)] := by rw [e9_2]; exact hl9
            exact ih_4 (g5 + 1) H locs ls (by first | with_reducible assumption | omega) (by first | with_reducible assumption | omega) hP hD hS hl9
        · skip
          have hcap2 := hrr2.1
          have hcap3 := hrr2.2.1
          have hc9_1 : inPl L f [(oc1 fe2 (rk g5) (wd g5) (tw g5) (pa g5) (pb g5) (.ref lo2) (.ref lk2) fm2), (oc4 lk2 (kd g5) (st g5) (.ref r2) (gb g5) (it g5) we2), (oc6 r2 (.ref rx2) (.ref ry2) (nI (nN (mn g5))) rg2), (oa rx2 cI cap2 U2), (oa ry2 cI cap2 V2)] := ⟨hfe2, hlk2, hr2, hrx2, hry2, trivial⟩
          have hD0_1 := hD
          obtain ⟨T_1, hT_1, hP, hD⟩ := pl_oT hP hD hc9_1 (pwR hfe2.2 hlk2.2 hr2.2 hrx2.2 hry2.2 hne2)
          obtain ⟨hP, hD⟩ := zre (W2 := ([_, _, _, _, _, _, _] ++ va_pl T_1 f)) hP hD rfl
          refine lv_aload_n hx hb dX8_inState_12 rfl (lv_at hl 2 rfl) ?_
          refine lv_iload_n hx hb dX8_inState_13 rfl (lv_at hl 0 rfl) ?_
          obtain ⟨hPc, hDc, hFc, hI1⟩ := zi_sub (wc := [_, _]) hP hD hS hA [0, 1] rfl rfl
          refine zcall (st1 := [.ref fe2]) (va_runV (As := [.int (nI g5)]) (rest := []) ⟨hx, hb, hml, hown, hts⟩ (k_Sheet_find l dC dI cI cZ cF H.size sh fa ft FA g5 fe2 (by first | with_reducible assumption | omega) (by first | with_reducible assumption | omega) (hFA2)) (csV_36 hts rfl rfl ⟨Nat.le_of_ble_eq_true rfl, Nat.le_of_ble_eq_true rfl⟩) (zPV2 (q0 := 0) (ci := 7) hPc hDc hK hXN rfl rfl) rfl rfl hl.1 rfl (lv_room (Nat.le_of_ble_eq_true rfl)) dX8_inState_14 ⟨Nat.le_of_ble_eq_true rfl, Nat.le_of_ble_eq_true rfl⟩) hS hFc hFc rfl (fun t H locs ht hB hk1 hS => ?_)
          obtain ⟨hP1, hD1⟩ := hB
          rw [ht] at hP1
          replace hP := z0 hP hD hk1 hP1 hI1
          clear hk1 hPc hDc hFc hP1 hD1 ht hI1
          refine lv_astore (lv' := [(4, .ref fe2), (3, .int (nI g5)), (2, .int (nI (cntP (fun g => (st g).toInt = sv.toInt) g5))), (0, .ref sh), (1, .int sv)]) hx hb dX8_inState_17 hl (Nat.le_of_ble_eq_true rfl) rfl (fun ls hl => ?_)
          refine lv_aload hx hb dX8_inState_19 (lv_at hl 0 rfl) ?_
          refine lv_ifnull hx hb dX8_inState_21 ?_
          refine lv_aload hx hb dX8_inState_24 (lv_at hl 0 rfl) ?_
          refine va_get (D := (dC, dI)) (ci := 1) (v := .ref lk2) (C := RX2) (T := TX2) (N := 8) hx hb hts inX2 hown hK hP 2 rfl rfl 6 (Nat.le_of_ble_eq_true rfl) (hts _ mw_434) (fun _ h9 => h9) rfl dX8_inState_26 ?_
          refine va_get (D := (dC, dI)) (ci := 4) (v := .int (st g5)) (C := RX5) (T := TX5) (N := 6) hx hb hts inX5 hown hK hP 3 rfl rfl 1 (Nat.le_of_ble_eq_true rfl) (hts _ mw_387) (fun _ h9 => h9) rfl dX8_inState_29 ?_
          refine lv_iload_n hx hb dX8_inState_32 rfl (lv_at hl 4 rfl) ?_
          refine lv_icmp_ne (tgt := 39) hx hb dX8_inState_33 rfl (fun c_5 => ?_) (fun c_5 => ?_)
          · have c_5 : ¬ (st g5).toInt = sv.toInt := zc_ne rfl rfl c_5
            obtain ⟨hP, hD⟩ := pl_bk (X := [_, _]) hT_1 hP rfl hc9_1 hD0_1 rfl
            refine lv_iinc (v := nI (g5 + 1)) (lv' := [(3, .int (nI (g5 + 1))), (4, .ref fe2), (2, .int (nI (cntP (fun g => (st g).toInt = sv.toInt) g5))), (0, .ref sh), (1, .int sv)]) hx hb dX8_inState_39 hl (k := 1) rfl (nI_add g5 1) (Nat.le_of_ble_eq_true rfl) rfl (fun ls hl => ?_)
            refine lv_goto (tgt := 4) hx hb dX8_inState_42 rfl ?_
            have hl9 := lv_sub hl [0, 2, 3, 4] rfl
            have e9_2 : nI (cntP (fun g => (st g).toInt = sv.toInt) (g5 + 1)) = (nI (cntP (fun g => (st g).toInt = sv.toInt) g5) : Int32) := by first | exact congrArg nI (cntP_y (P := fun g => (st g).toInt = sv.toInt) (show (st g5).toInt = sv.toInt by omega)) | exact congrArg nI (cntP_n0 (P := fun g => (st g).toInt = sv.toInt) (show ¬ (st g5).toInt = sv.toInt by omega))
            have hl9 : lv_has ls 5 [(3, .int (nI (g5 + 1))), (2, .int (nI (cntP (fun g => (st g).toInt = sv.toInt) (g5 + 1)))), (0, .ref sh), (1, .int sv)] := by rw [e9_2]; exact hl9
            exact ih_4 (g5 + 1) H locs ls (by first | with_reducible assumption | omega) (by first | with_reducible assumption | omega) hP hD hS hl9
          · have c_5 : (st g5).toInt = sv.toInt := zc_eq rfl rfl c_5
            refine lv_iinc (v := nI ((cntP (fun g => (st g).toInt = sv.toInt) g5) + 1)) (lv' := [(2, .int (nI ((cntP (fun g => (st g).toInt = sv.toInt) g5) + 1))), (4, .ref fe2), (3, .int (nI g5)), (0, .ref sh), (1, .int sv)]) hx hb dX8_inState_36 hl (k := 2) rfl (nI_add (cntP (fun g => (st g).toInt = sv.toInt) g5) 1) (Nat.le_of_ble_eq_true rfl) rfl (fun ls hl => ?_)
            obtain ⟨hP, hD⟩ := pl_bk (X := [_, _]) hT_1 hP rfl hc9_1 hD0_1 rfl
            refine lv_iinc (v := nI (g5 + 1)) (lv' := [(3, .int (nI (g5 + 1))), (2, .int (nI ((cntP (fun g => (st g).toInt = sv.toInt) g5) + 1))), (4, .ref fe2), (0, .ref sh), (1, .int sv)]) hx hb dX8_inState_39 hl (k := 2) rfl (nI_add g5 1) (Nat.le_of_ble_eq_true rfl) rfl (fun ls hl => ?_)
            refine lv_goto (tgt := 4) hx hb dX8_inState_42 rfl ?_
            have hl9 := lv_sub hl [0, 1, 3, 4] rfl
            have e9_2 : nI (cntP (fun g => (st g).toInt = sv.toInt) (g5 + 1)) = (nI ((cntP (fun g => (st g).toInt = sv.toInt) g5) + 1) : Int32) := by first | exact congrArg nI (cntP_y (P := fun g => (st g).toInt = sv.toInt) (show (st g5).toInt = sv.toInt by omega)) | exact congrArg nI (cntP_n0 (P := fun g => (st g).toInt = sv.toInt) (show ¬ (st g5).toInt = sv.toInt by omega))
            have hl9 : lv_has ls 5 [(3, .int (nI (g5 + 1))), (2, .int (nI (cntP (fun g => (st g).toInt = sv.toInt) (g5 + 1)))), (0, .ref sh), (1, .int sv)] := by rw [e9_2]; exact hl9
            exact ih_4 (g5 + 1) H locs ls (by first | with_reducible assumption | omega) (by first | with_reducible assumption | omega) hP hD hS hl9
  have e9_2 : nI (cntP (fun g => (st g).toInt = sv.toInt) 0) = (0 : Int32) := by rfl
  have hl9 : lv_has ls 5 [(3, .int (nI 0)), (2, .int (nI (cntP (fun g => (st g).toInt = sv.toInt) 0))), (0, .ref sh), (1, .int sv)] := by rw [e9_2]; exact lv_sub hl [0, 1, 2, 3] rfl
  exact hl_4 _ 0 s.heap [] ls (Nat.lt_succ_self _) (by first | with_reducible assumption | omega) hP hD hS hl9
set_option maxHeartbeats 4000000 in
set_option maxRecDepth 100000 in
theorem k_Sheet_torn (l : Launch) (dC : Nat → ClassId) (dI : Nat → Nat → Nat) (cI cZ cF : ClassId) (sz : Nat) (sh : Nat) (fa : Nat) (ft : Nat) (FA : Nat → Option Nat) (L : List Nat) (f : Nat → va_E) (kd : Nat → Int32) (st : Nat → Int32) (tn : Nat → Int32) (mn : Nat → Int32) (cx : Nat → Int32) (cy : Nat → Int32) (rk : Nat → Int32) (wd : Nat → Int32) (tw : Nat → Int32) (pa : Nat → Int32) (pb : Nat → Int32) (gb : Nat → Int32) (it : Nat → Int32) (h200 : ft ≤ 200) (hva : ∀ q, q < ft → vwA cI L f FA rk wd tw pa pb kd st gb it tn mn cx cy q) : zM l yX8_torn cX8_torn 4 (some .int) ({ frames := 1, cells := 0, slots := 0, locals := 21 } : Room) [.ref sh] (dC, dI) (zTy cI cZ cF) ([(oc7 sh (.ref fa) (nI ft)), (oq fa cF 200 FA)] ++ va_pl L f) sz (some (.int (nI (cntP (fun g => ¬ (tn g).toInt = 0) ft)))) (fun A t => zPD (dC, dI) classes A ([(oc7 sh (.ref fa) (nI ft)), (oq fa cF 200 FA)] ++ va_pl L f) t.heap) 0 0 := by
  refine zIn (own := "ScaleShop$Sheet") (loc := [(0, .ref sh)]) rfl rfl rfl rfl (fun p e s m below meth c hx hb hr hts hown hlocks hml hnm9 A hA hS hP hD hK hXN Q9 hQ9 ls hl => ?_)
  refine lv_iconst (v := 0) hx hb dX8_torn_0 rfl ?_
  refine lv_istore_n (lv' := [(1, .int 0), (0, .ref sh)]) hx hb dX8_torn_1 rfl hl (Nat.le_of_ble_eq_true rfl) rfl (fun ls hl => ?_)
  refine lv_iconst (v := 0) hx hb dX8_torn_2 rfl ?_
  refine lv_istore_n (lv' := [(2, .int 0), (1, .int 0), (0, .ref sh)]) hx hb dX8_torn_3 rfl hl (Nat.le_of_ble_eq_true rfl) rfl (fun ls hl => ?_)
  have hl_4 : ∀ (n9 : Nat) (g5 : Nat) (H : Heap) (locs : List Loc) (ls : Array Slot), ft - g5 < n9 → (g5 ≤ ft) → va_P (dC, dI) classes ([(oc7 sh (.ref fa) (nI ft)), (oq fa cF 200 FA)] ++ va_pl L f) H → va_D A ([(oc7 sh (.ref fa) (nI ft)), (oq fa cF 200 FA)] ++ va_pl L f) → va_S A s.heap H locs → lv_has ls 4 [(2, .int (nI g5)), (1, .int (nI (cntP (fun g => ¬ (tn g).toInt = 0) g5))), (0, .ref sh)] → W p l e ({ frames := 1, cells := 0, slots := 0, locals := 21 } : Room) s m ([.ref sh] : List Value).toArray below meth c H locs 0 0 Q9 (F0 m 4 ls []) := by
    intro n9
    induction n9 with
    | zero => intro g5 H locs ls hm; exact absurd hm (Nat.not_lt_zero _)
    | succ n9 ih_4 =>
      intro g5 H locs ls hm hg5 hP hD hS hl
      have hcb := cntP_b (fun g => ¬ (tn g).toInt = 0) g5
      refine lv_iload_n hx hb dX8_torn_4 rfl (lv_at hl 0 rfl) ?_
      refine lv_aload_n hx hb dX8_torn_5 rfl (lv_at hl 2 rfl) ?_
      refine va_get (D := (dC, dI)) (ci := 7) (v := .int (nI ft)) (C := RX8) (T := TX8) (N := 2) hx hb hts inX8 hown hK hP 0 rfl rfl 1 (Nat.le_of_ble_eq_true rfl) (hts _ mw_137) (fun _ h9 => h9) rfl dX8_torn_6 ?_
      have b9_2 : zlt (g5) := show g5 < 2147483648 by omega
      have b9_3 : zlt (ft) := show ft < 2147483648 by omega
      refine lv_icmp_ge (tgt := 41) hx hb dX8_torn_9 rfl (fun c_1 => ?_) (fun c_1 => ?_)
      · have c_1 : ((ft : Nat) : Int) ≤ ((g5 : Nat) : Int) := zc_le (nI_toInt b9_3) (nI_toInt b9_2) c_1
        refine lv_iload_n hx hb dX8_torn_41 rfl (lv_at hl 1 rfl) ?_
        obtain ⟨hP9, hD9⟩ := zu_part (cx := [_, _]) hP hD [true, true] rfl rfl
        rw [hQ9]
        exact W.iret (v := nI (cntP (fun g => ¬ (tn g).toInt = 0) g5)) hx hb hr (fun t ht hW => ⟨⟨congrArg (fun z => Outcome.returned (some (Value.int z))) (show (nI (cntP (fun g => ¬ (tn g).toInt = 0) g5) : Int32) = nI (cntP (fun g => ¬ (tn g).toInt = 0) ft) from zn_eq (by rw [show g5 = ft by omega])), by rw [ht]; exact hP9, hD9⟩, hS.F ht⟩) hS.2.2 dX8_torn_42
      · have c_1 : ((g5 : Nat) : Int) < ((ft : Nat) : Int) := zc_nle (nI_toInt b9_3) (nI_toInt b9_2) c_1
        rcases vwA_2 (hva g5 (by omega)) with ⟨ht2, fe2, lk2, lo2, we2, fm2, hFA2, hfe2, hlk2⟩ | ⟨ht2, fe2, lk2, lo2, we2, fm2, r2, rx2, ry2, cap2, U2, V2, rg2, hFA2, hfe2, hlk2, ⟨hr2, hrx2, hry2, hne2⟩, hrr2⟩
        · skip
          have hc9_1 : inPl L f [(oc1 fe2 (rk g5) (wd g5) (tw g5) (pa g5) (pb g5) (.ref lo2) (.ref lk2) fm2), (oc4 lk2 (kd g5) (st g5) .null (gb g5) (it g5) we2)] := ⟨hfe2, hlk2, trivial⟩
          have hD0_1 := hD
          obtain ⟨T_1, hT_1, hP, hD⟩ := pl_oT hP hD hc9_1 (pwF hfe2.2 hlk2.2)
          obtain ⟨hP, hD⟩ := zre (W2 := ([_, _, _, _] ++ va_pl T_1 f)) hP hD rfl
          refine lv_aload_n hx hb dX8_torn_12 rfl (lv_at hl 2 rfl) ?_
          refine lv_iload_n hx hb dX8_torn_13 rfl (lv_at hl 0 rfl) ?_
          obtain ⟨hPc, hDc, hFc, hI1⟩ := zi_sub (wc := [_, _]) hP hD hS hA [0, 1] rfl rfl
          refine zcall (st1 := [.ref fe2]) (va_runV (As := [.int (nI g5)]) (rest := []) ⟨hx, hb, hml, hown, hts⟩ (k_Sheet_find l dC dI cI cZ cF H.size sh fa ft FA g5 fe2 (by first | with_reducible assumption | omega) (by first | with_reducible assumption | omega) (hFA2)) (csV_36 hts rfl rfl ⟨Nat.le_of_ble_eq_true rfl, Nat.le_of_ble_eq_true rfl⟩) (zPV2 (q0 := 0) (ci := 7) hPc hDc hK hXN rfl rfl) rfl rfl hl.1 rfl (lv_room (Nat.le_of_ble_eq_true rfl)) dX8_torn_14 ⟨Nat.le_of_ble_eq_true rfl, Nat.le_of_ble_eq_true rfl⟩) hS hFc hFc rfl (fun t H locs ht hB hk1 hS => ?_)
          obtain ⟨hP1, hD1⟩ := hB
          rw [ht] at hP1
          replace hP := z0 hP hD hk1 hP1 hI1
          clear hk1 hPc hDc hFc hP1 hD1 ht hI1
          refine lv_astore_n (lv' := [(3, .ref fe2), (2, .int (nI g5)), (1, .int (nI (cntP (fun g => ¬ (tn g).toInt = 0) g5))), (0, .ref sh)]) hx hb dX8_torn_17 rfl hl (Nat.le_of_ble_eq_true rfl) rfl (fun ls hl => ?_)
          refine lv_aload_n hx hb dX8_torn_18 rfl (lv_at hl 0 rfl) ?_
          refine lv_ifnull hx hb dX8_torn_19 ?_
          refine lv_aload_n hx hb dX8_torn_22 rfl (lv_at hl 0 rfl) ?_
          refine va_get (D := (dC, dI)) (ci := 1) (v := .ref lk2) (C := RX2) (T := TX2) (N := 8) hx hb hts inX2 hown hK hP 2 rfl rfl 6 (Nat.le_of_ble_eq_true rfl) (hts _ mw_434) (fun _ h9 => h9) rfl dX8_torn_23 ?_
          refine va_get (D := (dC, dI)) (ci := 4) (v := .null) (C := RX5) (T := TX5) (N := 6) hx hb hts inX5 hown hK hP 3 rfl rfl 2 (Nat.le_of_ble_eq_true rfl) (hts _ mw_393) (fun _ h9 => h9) rfl dX8_torn_26 ?_
          refine lv_ifnonnullN hx hb dX8_torn_29 ?_
          refine lv_iinc (v := nI ((cntP (fun g => ¬ (tn g).toInt = 0) g5) + 1)) (lv' := [(1, .int (nI ((cntP (fun g => ¬ (tn g).toInt = 0) g5) + 1))), (3, .ref fe2), (2, .int (nI g5)), (0, .ref sh)]) hx hb dX8_torn_32 hl (k := 2) rfl (nI_add (cntP (fun g => ¬ (tn g).toInt = 0) g5) 1) (Nat.le_of_ble_eq_true rfl) rfl (fun ls hl => ?_)
          obtain ⟨hP, hD⟩ := pl_bk (X := [_, _]) hT_1 hP rfl hc9_1 hD0_1 rfl
          refine lv_iinc (v := nI (g5 + 1)) (lv' := [(2, .int (nI (g5 + 1))), (1, .int (nI ((cntP (fun g => ¬ (tn g).toInt = 0) g5) + 1))), (3, .ref fe2), (0, .ref sh)]) hx hb dX8_torn_35 hl (k := 2) rfl (nI_add g5 1) (Nat.le_of_ble_eq_true rfl) rfl (fun ls hl => ?_)
          refine lv_goto (tgt := 4) hx hb dX8_torn_38 rfl ?_
          have hl9 := lv_sub hl [0, 1, 3] rfl
          have e9_1 : nI (cntP (fun g => ¬ (tn g).toInt = 0) (g5 + 1)) = (nI ((cntP (fun g => ¬ (tn g).toInt = 0) g5) + 1) : Int32) := by first | exact congrArg nI (cntP_y (P := fun g => ¬ (tn g).toInt = 0) (ht2)) | exact congrArg nI (cntP_n0 (P := fun g => ¬ (tn g).toInt = 0) (fun h => h ht2))
          have hl9 : lv_has ls 4 [(2, .int (nI (g5 + 1))), (1, .int (nI (cntP (fun g => ¬ (tn g).toInt = 0) (g5 + 1)))), (0, .ref sh)] := by rw [e9_1]; exact hl9
          exact ih_4 (g5 + 1) H locs ls (by first | with_reducible assumption | omega) (by first | with_reducible assumption | omega) hP hD hS hl9
        · skip
          have hcap2 := hrr2.1
          have hcap3 := hrr2.2.1
          have hc9_1 : inPl L f [(oc1 fe2 (rk g5) (wd g5) (tw g5) (pa g5) (pb g5) (.ref lo2) (.ref lk2) fm2), (oc4 lk2 (kd g5) (st g5) (.ref r2) (gb g5) (it g5) we2), (oc6 r2 (.ref rx2) (.ref ry2) (nI (nN (mn g5))) rg2), (oa rx2 cI cap2 U2), (oa ry2 cI cap2 V2)] := ⟨hfe2, hlk2, hr2, hrx2, hry2, trivial⟩
          have hD0_1 := hD
          obtain ⟨T_1, hT_1, hP, hD⟩ := pl_oT hP hD hc9_1 (pwR hfe2.2 hlk2.2 hr2.2 hrx2.2 hry2.2 hne2)
          obtain ⟨hP, hD⟩ := zre (W2 := ([_, _, _, _, _, _, _] ++ va_pl T_1 f)) hP hD rfl
          refine lv_aload_n hx hb dX8_torn_12 rfl (lv_at hl 2 rfl) ?_
          refine lv_iload_n hx hb dX8_torn_13 rfl (lv_at hl 0 rfl) ?_
          obtain ⟨hPc, hDc, hFc, hI1⟩ := zi_sub (wc := [_, _]) hP hD hS hA [0, 1] rfl rfl
          refine zcall (st1 := [.ref fe2]) (va_runV (As := [.int (nI g5)]) (rest := []) ⟨hx, hb, hml, hown, hts⟩ (k_Sheet_find l dC dI cI cZ cF H.size sh fa ft FA g5 fe2 (by first | with_reducible assumption | omega) (by first | with_reducible assumption | omega) (hFA2)) (csV_36 hts rfl rfl ⟨Nat.le_of_ble_eq_true rfl, Nat.le_of_ble_eq_true rfl⟩) (zPV2 (q0 := 0) (ci := 7) hPc hDc hK hXN rfl rfl) rfl rfl hl.1 rfl (lv_room (Nat.le_of_ble_eq_true rfl)) dX8_torn_14 ⟨Nat.le_of_ble_eq_true rfl, Nat.le_of_ble_eq_true rfl⟩) hS hFc hFc rfl (fun t H locs ht hB hk1 hS => ?_)
          obtain ⟨hP1, hD1⟩ := hB
          rw [ht] at hP1
          replace hP := z0 hP hD hk1 hP1 hI1
          clear hk1 hPc hDc hFc hP1 hD1 ht hI1
          refine lv_astore_n (lv' := [(3, .ref fe2), (2, .int (nI g5)), (1, .int (nI (cntP (fun g => ¬ (tn g).toInt = 0) g5))), (0, .ref sh)]) hx hb dX8_torn_17 rfl hl (Nat.le_of_ble_eq_true rfl) rfl (fun ls hl => ?_)
          refine lv_aload_n hx hb dX8_torn_18 rfl (lv_at hl 0 rfl) ?_
          refine lv_ifnull hx hb dX8_torn_19 ?_
          refine lv_aload_n hx hb dX8_torn_22 rfl (lv_at hl 0 rfl) ?_
          refine va_get (D := (dC, dI)) (ci := 1) (v := .ref lk2) (C := RX2) (T := TX2) (N := 8) hx hb hts inX2 hown hK hP 2 rfl rfl 6 (Nat.le_of_ble_eq_true rfl) (hts _ mw_434) (fun _ h9 => h9) rfl dX8_torn_23 ?_
          refine va_get (D := (dC, dI)) (ci := 4) (v := .ref r2) (C := RX5) (T := TX5) (N := 6) hx hb hts inX5 hown hK hP 3 rfl rfl 2 (Nat.le_of_ble_eq_true rfl) (hts _ mw_393) (fun _ h9 => h9) rfl dX8_torn_26 ?_
          refine lv_ifnonnull (tgt := 35) hx hb dX8_torn_29 rfl ?_
          obtain ⟨hP, hD⟩ := pl_bk (X := [_, _]) hT_1 hP rfl hc9_1 hD0_1 rfl
          refine lv_iinc (v := nI (g5 + 1)) (lv' := [(2, .int (nI (g5 + 1))), (3, .ref fe2), (1, .int (nI (cntP (fun g => ¬ (tn g).toInt = 0) g5))), (0, .ref sh)]) hx hb dX8_torn_35 hl (k := 1) rfl (nI_add g5 1) (Nat.le_of_ble_eq_true rfl) rfl (fun ls hl => ?_)
          refine lv_goto (tgt := 4) hx hb dX8_torn_38 rfl ?_
          have hl9 := lv_sub hl [0, 2, 3] rfl
          have e9_1 : nI (cntP (fun g => ¬ (tn g).toInt = 0) (g5 + 1)) = (nI (cntP (fun g => ¬ (tn g).toInt = 0) g5) : Int32) := by first | exact congrArg nI (cntP_y (P := fun g => ¬ (tn g).toInt = 0) (ht2)) | exact congrArg nI (cntP_n0 (P := fun g => ¬ (tn g).toInt = 0) (fun h => h ht2))
          have hl9 : lv_has ls 4 [(2, .int (nI (g5 + 1))), (1, .int (nI (cntP (fun g => ¬ (tn g).toInt = 0) (g5 + 1)))), (0, .ref sh)] := by rw [e9_1]; exact hl9
          exact ih_4 (g5 + 1) H locs ls (by first | with_reducible assumption | omega) (by first | with_reducible assumption | omega) hP hD hS hl9
  have e9_1 : nI (cntP (fun g => ¬ (tn g).toInt = 0) 0) = (0 : Int32) := by rfl
  have hl9 : lv_has ls 4 [(2, .int (nI 0)), (1, .int (nI (cntP (fun g => ¬ (tn g).toInt = 0) 0))), (0, .ref sh)] := by rw [e9_1]; exact lv_sub hl [0, 1, 2] rfl
  exact hl_4 _ 0 s.heap [] ls (Nat.lt_succ_self _) (by first | with_reducible assumption | omega) hP hD hS hl9
set_option maxHeartbeats 4000000 in
set_option maxRecDepth 100000 in
theorem k_Sheet_cornersThere (l : Launch) (dC : Nat → ClassId) (dI : Nat → Nat → Nat) (cI cZ cF : ClassId) (sz : Nat) (sh : Nat) (fa : Nat) (ft : Nat) (FA : Nat → Option Nat) (L : List Nat) (f : Nat → va_E) (kd : Nat → Int32) (st : Nat → Int32) (tn : Nat → Int32) (mn : Nat → Int32) (cx : Nat → Int32) (cy : Nat → Int32) (rk : Nat → Int32) (wd : Nat → Int32) (tw : Nat → Int32) (pa : Nat → Int32) (pb : Nat → Int32) (gb : Nat → Int32) (it : Nat → Int32) (h200 : ft ≤ 200) (hva : ∀ q, q < ft → vwA cI L f FA rk wd tw pa pb kd st gb it tn mn cx cy q) : zM l yX8_cornersThere cX8_cornersThere 4 (some .int) ({ frames := 2, cells := 0, slots := 0, locals := 43 } : Room) [.ref sh] (dC, dI) (zTy cI cZ cF) ([(oc7 sh (.ref fa) (nI ft)), (oq fa cF 200 FA)] ++ va_pl L f) sz (some (.int (nI (smP (lvF ft st tn) (fun g => nN (mn g)) ft)))) (fun A t => zPD (dC, dI) classes A ([(oc7 sh (.ref fa) (nI ft)), (oq fa cF 200 FA)] ++ va_pl L f) t.heap) 0 0 := by
  refine zIn (own := "ScaleShop$Sheet") (loc := [(0, .ref sh)]) rfl rfl rfl rfl (fun p e s m below meth c hx hb hr hts hown hlocks hml hnm9 A hA hS hP hD hK hXN Q9 hQ9 ls hl => ?_)
  refine lv_iconst (v := 0) hx hb dX8_cornersThere_0 rfl ?_
  refine lv_istore_n (lv' := [(1, .int 0), (0, .ref sh)]) hx hb dX8_cornersThere_1 rfl hl (Nat.le_of_ble_eq_true rfl) rfl (fun ls hl => ?_)
  refine lv_iconst (v := 0) hx hb dX8_cornersThere_2 rfl ?_
  refine lv_istore_n (lv' := [(2, .int 0), (1, .int 0), (0, .ref sh)]) hx hb dX8_cornersThere_3 rfl hl (Nat.le_of_ble_eq_true rfl) rfl (fun ls hl => ?_)
  have hl_4 : ∀ (n9 : Nat) (g5 : Nat) (H : Heap) (locs : List Loc) (ls : Array Slot), ft - g5 < n9 → (g5 ≤ ft) → (smP (lvF ft st tn) (fun g => nN (mn g)) g5 ≤ 40 * g5) → va_P (dC, dI) classes ([(oc7 sh (.ref fa) (nI ft)), (oq fa cF 200 FA)] ++ va_pl L f) H → va_D A ([(oc7 sh (.ref fa) (nI ft)), (oq fa cF 200 FA)] ++ va_pl L f) → va_S A s.heap H locs → lv_has ls 4 [(2, .int (nI g5)), (1, .int (nI (smP (lvF ft st tn) (fun g => nN (mn g)) g5))), (0, .ref sh)] → W p l e ({ frames := 2, cells := 0, slots := 0, locals := 43 } : Room) s m ([.ref sh] : List Value).toArray below meth c H locs 0 0 Q9 (F0 m 4 ls []) := by
    intro n9
    induction n9 with
    | zero => intro g5 H locs ls hm; exact absurd hm (Nat.not_lt_zero _)
    | succ n9 ih_4 =>
      intro g5 H locs ls hm hg5 hsb hP hD hS hl
      refine lv_iload_n hx hb dX8_cornersThere_4 rfl (lv_at hl 0 rfl) ?_
      refine lv_aload_n hx hb dX8_cornersThere_5 rfl (lv_at hl 2 rfl) ?_
      refine va_get (D := (dC, dI)) (ci := 7) (v := .int (nI ft)) (C := RX8) (T := TX8) (N := 2) hx hb hts inX8 hown hK hP 0 rfl rfl 1 (Nat.le_of_ble_eq_true rfl) (hts _ mw_137) (fun _ h9 => h9) rfl dX8_cornersThere_6 ?_
      have b9_2 : zlt (g5) := show g5 < 2147483648 by omega
      have b9_3 : zlt (ft) := show ft < 2147483648 by omega
      refine lv_icmp_ge (tgt := 39) hx hb dX8_cornersThere_9 rfl (fun c_1 => ?_) (fun c_1 => ?_)
      · have c_1 : ((ft : Nat) : Int) ≤ ((g5 : Nat) : Int) := zc_le (nI_toInt b9_3) (nI_toInt b9_2) c_1
        refine lv_iload_n hx hb dX8_cornersThere_39 rfl (lv_at hl 1 rfl) ?_
        obtain ⟨hP9, hD9⟩ := zu_part (cx := [_, _]) hP hD [true, true] rfl rfl
        rw [hQ9]
        exact W.iret (v := nI (smP (lvF ft st tn) (fun g => nN (mn g)) g5)) hx hb hr (fun t ht hW => ⟨⟨congrArg (fun z => Outcome.returned (some (Value.int z))) (show (nI (smP (lvF ft st tn) (fun g => nN (mn g)) g5) : Int32) = nI (smP (lvF ft st tn) (fun g => nN (mn g)) ft) from zn_eq (by rw [show g5 = ft by omega])), by rw [ht]; exact hP9, hD9⟩, hS.F ht⟩) hS.2.2 dX8_cornersThere_40
      · have c_1 : ((g5 : Nat) : Int) < ((ft : Nat) : Int) := zc_nle (nI_toInt b9_3) (nI_toInt b9_2) c_1
        rcases vwA_3 (P9 := ((st g5).toInt = 1)) (hva g5 (by omega)) with ⟨ht2, fe2, lk2, lo2, we2, fm2, hFA2, hfe2, hlk2⟩ | ⟨ht2, hA2, fe2, lk2, lo2, we2, fm2, r2, rx2, ry2, cap2, U2, V2, rg2, hFA2, hfe2, hlk2, ⟨hr2, hrx2, hry2, hne2⟩, hrr2⟩ | ⟨ht2, hA2, fe2, lk2, lo2, we2, fm2, r2, rx2, ry2, cap2, U2, V2, rg2, hFA2, hfe2, hlk2, ⟨hr2, hrx2, hry2, hne2⟩, hrr2⟩
        · skip
          have hnl2 : ¬ lvF ft st tn g5 := fun h => ht2 h.2.2
          have hc9_1 : inPl L f [(oc1 fe2 (rk g5) (wd g5) (tw g5) (pa g5) (pb g5) (.ref lo2) (.ref lk2) fm2), (oc4 lk2 (kd g5) (st g5) .null (gb g5) (it g5) we2)] := ⟨hfe2, hlk2, trivial⟩
          have hD0_1 := hD
          obtain ⟨T_1, hT_1, hP, hD⟩ := pl_oT hP hD hc9_1 (pwF hfe2.2 hlk2.2)
          obtain ⟨hP, hD⟩ := zre (W2 := ([_, _, _, _] ++ va_pl T_1 f)) hP hD rfl
          refine lv_aload_n hx hb dX8_cornersThere_12 rfl (lv_at hl 2 rfl) ?_
          refine lv_iload_n hx hb dX8_cornersThere_13 rfl (lv_at hl 0 rfl) ?_
          obtain ⟨hPc, hDc, hFc, hI1⟩ := zi_sub (wc := [_, _, _, _]) hP hD hS hA [0, 1, 2, 3] (by decide +kernel) rfl
          refine zcall (st1 := [.null]) (va_runV (As := [.int (nI g5)]) (rest := []) ⟨hx, hb, hml, hown, hts⟩ (k_Sheet_rowThere_tv l dC dI cI cZ cF H.size sh fa ft FA g5 fe2 lo2 (rk g5) (wd g5) (tw g5) (pa g5) (pb g5) lk2 (kd g5) (st g5) (gb g5) (it g5) we2 fm2 (by first | with_reducible assumption | omega) (by first | with_reducible assumption | omega) (hFA2)) (csV_37 hts rfl rfl ⟨Nat.le_of_ble_eq_true rfl, Nat.le_of_ble_eq_true rfl⟩) (zPV2 (q0 := 0) (ci := 7) hPc hDc hK hXN rfl rfl) rfl rfl hl.1 rfl (lv_room (Nat.le_of_ble_eq_true rfl)) dX8_cornersThere_14 ⟨Nat.le_of_ble_eq_true rfl, Nat.le_of_ble_eq_true rfl⟩) hS hFc hFc rfl (fun t H locs ht hB hk1 hS => ?_)
          obtain ⟨hP1, hD1⟩ := hB
          rw [ht] at hP1
          replace hP := z0 hP hD hk1 hP1 hI1
          clear hk1 hPc hDc hFc hP1 hD1 ht hI1
          refine lv_astore_nN (lv' := [(3, .null), (2, .int (nI g5)), (1, .int (nI (smP (lvF ft st tn) (fun g => nN (mn g)) g5))), (0, .ref sh)]) hx hb dX8_cornersThere_17 rfl hl (Nat.le_of_ble_eq_true rfl) rfl (fun ls hl => ?_)
          refine lv_iload_n hx hb dX8_cornersThere_18 rfl (lv_at hl 2 rfl) ?_
          refine lv_aload_nN hx hb dX8_cornersThere_19 rfl (lv_at hl 0 rfl) ?_
          refine lv_ifnonnullN hx hb dX8_cornersThere_20 ?_
          refine lv_iconst (v := 0) hx hb dX8_cornersThere_23 rfl ?_
          refine lv_goto (tgt := 31) hx hb dX8_cornersThere_24 rfl ?_
          obtain ⟨hP, hD⟩ := pl_bk (X := [_, _]) hT_1 hP rfl hc9_1 hD0_1 rfl
          refine lv_iadd hx hb dX8_cornersThere_31 ?_
          refine zz_i (v := nI ((smP (lvF ft st tn) (fun g => nN (mn g)) g5) + 0)) (nI_add (smP (lvF ft st tn) (fun g => nN (mn g)) g5) 0) ?_
          refine lv_istore_n (lv' := [(1, .int (nI ((smP (lvF ft st tn) (fun g => nN (mn g)) g5) + 0))), (3, .null), (2, .int (nI g5)), (0, .ref sh)]) hx hb dX8_cornersThere_32 rfl hl (Nat.le_of_ble_eq_true rfl) rfl (fun ls hl => ?_)
          refine lv_iinc (v := nI (g5 + 1)) (lv' := [(2, .int (nI (g5 + 1))), (1, .int (nI ((smP (lvF ft st tn) (fun g => nN (mn g)) g5) + 0))), (3, .null), (0, .ref sh)]) hx hb dX8_cornersThere_33 hl (k := 2) rfl (nI_add g5 1) (Nat.le_of_ble_eq_true rfl) rfl (fun ls hl => ?_)
          refine lv_goto (tgt := 4) hx hb dX8_cornersThere_36 rfl ?_
          have hl9 := lv_sub hl [0, 1, 3] rfl
          have e9_1 : nI (smP (lvF ft st tn) (fun g => nN (mn g)) (g5 + 1)) = (nI ((smP (lvF ft st tn) (fun g => nN (mn g)) g5) + 0) : Int32) := by first | exact zn_eq ((smP_y (P := lvF ft st tn) hlv2).symm) | exact congrArg nI (smP_y (P := lvF ft st tn) hlv2) | exact congrArg nI (smP_n (P := lvF ft st tn) hnl2)
          have hl9 : lv_has ls 4 [(2, .int (nI (g5 + 1))), (1, .int (nI (smP (lvF ft st tn) (fun g => nN (mn g)) (g5 + 1)))), (0, .ref sh)] := by rw [e9_1]; exact hl9
          exact ih_4 (g5 + 1) H locs ls (by first | with_reducible assumption | omega) (by first | with_reducible assumption | omega) (by first | (have e9 := smP_y (P := lvF ft st tn) (c := fun g => nN (mn g)) hlv2; omega) | (have e9 := smP_n (P := lvF ft st tn) (c := fun g => nN (mn g)) hnl2; omega)) hP hD hS hl9
        · skip
          have hcap2 := hrr2.1
          have hcap3 := hrr2.2.1
          have hlv2 : lvF ft st tn g5 := ⟨by omega, hA2, ht2⟩
          have hc9_1 : inPl L f [(oc1 fe2 (rk g5) (wd g5) (tw g5) (pa g5) (pb g5) (.ref lo2) (.ref lk2) fm2), (oc4 lk2 (kd g5) (st g5) (.ref r2) (gb g5) (it g5) we2), (oc6 r2 (.ref rx2) (.ref ry2) (nI (nN (mn g5))) rg2), (oa rx2 cI cap2 U2), (oa ry2 cI cap2 V2)] := ⟨hfe2, hlk2, hr2, hrx2, hry2, trivial⟩
          have hD0_1 := hD
          obtain ⟨T_1, hT_1, hP, hD⟩ := pl_oT hP hD hc9_1 (pwR hfe2.2 hlk2.2 hr2.2 hrx2.2 hry2.2 hne2)
          obtain ⟨hP, hD⟩ := zre (W2 := ([_, _, _, _, _, _, _] ++ va_pl T_1 f)) hP hD rfl
          refine lv_aload_n hx hb dX8_cornersThere_12 rfl (lv_at hl 2 rfl) ?_
          refine lv_iload_n hx hb dX8_cornersThere_13 rfl (lv_at hl 0 rfl) ?_
          obtain ⟨hPc, hDc, hFc, hI1⟩ := zi_sub (wc := [_, _, _, _]) hP hD hS hA [0, 1, 2, 3] (by decide +kernel) rfl
          refine zcall (st1 := [.ref r2]) (va_runV (As := [.int (nI g5)]) (rest := []) ⟨hx, hb, hml, hown, hts⟩ (k_Sheet_rowThere_yv l dC dI cI cZ cF H.size sh fa ft FA g5 fe2 lo2 (rk g5) (wd g5) (tw g5) (pa g5) (pb g5) lk2 (kd g5) (st g5) (gb g5) (it g5) we2 r2 fm2 (by first | with_reducible assumption | omega) (by first | with_reducible assumption | omega) (hFA2) (by first | exact hA2 | omega)) (csV_37 hts rfl rfl ⟨Nat.le_of_ble_eq_true rfl, Nat.le_of_ble_eq_true rfl⟩) (zPV2 (q0 := 0) (ci := 7) hPc hDc hK hXN rfl rfl) rfl rfl hl.1 rfl (lv_room (Nat.le_of_ble_eq_true rfl)) dX8_cornersThere_14 ⟨Nat.le_of_ble_eq_true rfl, Nat.le_of_ble_eq_true rfl⟩) hS hFc hFc rfl (fun t H locs ht hB hk1 hS => ?_)
          obtain ⟨hP1, hD1⟩ := hB
          rw [ht] at hP1
          replace hP := z0 hP hD hk1 hP1 hI1
          clear hk1 hPc hDc hFc hP1 hD1 ht hI1
          refine lv_astore_n (lv' := [(3, .ref r2), (2, .int (nI g5)), (1, .int (nI (smP (lvF ft st tn) (fun g => nN (mn g)) g5))), (0, .ref sh)]) hx hb dX8_cornersThere_17 rfl hl (Nat.le_of_ble_eq_true rfl) rfl (fun ls hl => ?_)
          refine lv_iload_n hx hb dX8_cornersThere_18 rfl (lv_at hl 2 rfl) ?_
          refine lv_aload_n hx hb dX8_cornersThere_19 rfl (lv_at hl 0 rfl) ?_
          refine lv_ifnonnull (tgt := 27) hx hb dX8_cornersThere_20 rfl ?_
          refine lv_aload_n hx hb dX8_cornersThere_27 rfl (lv_at hl 0 rfl) ?_
          refine va_get (D := (dC, dI)) (ci := 6) (v := .int (nI (nN (mn g5)))) (C := RX7) (T := TX7) (N := 4) hx hb hts inX7 hown hK hP 4 rfl rfl 2 (Nat.le_of_ble_eq_true rfl) (hts _ mw_182) (fun _ h9 => h9) rfl dX8_cornersThere_28 ?_
          obtain ⟨hP, hD⟩ := pl_bk (X := [_, _]) hT_1 hP rfl hc9_1 hD0_1 rfl
          refine lv_iadd hx hb dX8_cornersThere_31 ?_
          refine zz_i (v := nI ((smP (lvF ft st tn) (fun g => nN (mn g)) g5) + (nN (mn g5)))) (nI_add (smP (lvF ft st tn) (fun g => nN (mn g)) g5) (nN (mn g5))) ?_
          refine lv_istore_n (lv' := [(1, .int (nI ((smP (lvF ft st tn) (fun g => nN (mn g)) g5) + (nN (mn g5))))), (3, .ref r2), (2, .int (nI g5)), (0, .ref sh)]) hx hb dX8_cornersThere_32 rfl hl (Nat.le_of_ble_eq_true rfl) rfl (fun ls hl => ?_)
          refine lv_iinc (v := nI (g5 + 1)) (lv' := [(2, .int (nI (g5 + 1))), (1, .int (nI ((smP (lvF ft st tn) (fun g => nN (mn g)) g5) + (nN (mn g5))))), (3, .ref r2), (0, .ref sh)]) hx hb dX8_cornersThere_33 hl (k := 2) rfl (nI_add g5 1) (Nat.le_of_ble_eq_true rfl) rfl (fun ls hl => ?_)
          refine lv_goto (tgt := 4) hx hb dX8_cornersThere_36 rfl ?_
          have hl9 := lv_sub hl [0, 1, 3] rfl
          have e9_1 : nI (smP (lvF ft st tn) (fun g => nN (mn g)) (g5 + 1)) = (nI ((smP (lvF ft st tn) (fun g => nN (mn g)) g5) + (nN (mn g5))) : Int32) := by first | exact zn_eq ((smP_y (P := lvF ft st tn) hlv2).symm) | exact congrArg nI (smP_y (P := lvF ft st tn) hlv2) | exact congrArg nI (smP_n (P := lvF ft st tn) hnl2)
          have hl9 : lv_has ls 4 [(2, .int (nI (g5 + 1))), (1, .int (nI (smP (lvF ft st tn) (fun g => nN (mn g)) (g5 + 1)))), (0, .ref sh)] := by rw [e9_1]; exact hl9
          exact ih_4 (g5 + 1) H locs ls (by first | with_reducible assumption | omega) (by first | with_reducible assumption | omega) (by first | (have e9 := smP_y (P := lvF ft st tn) (c := fun g => nN (mn g)) hlv2; omega) | (have e9 := smP_n (P := lvF ft st tn) (c := fun g => nN (mn g)) hnl2; omega)) hP hD hS hl9
        · skip
          have hcap2 := hrr2.1
          have hcap3 := hrr2.2.1
          have hnl2 : ¬ lvF ft st tn g5 := fun h => hA2 h.2.1
          have hc9_1 : inPl L f [(oc1 fe2 (rk g5) (wd g5) (tw g5) (pa g5) (pb g5) (.ref lo2) (.ref lk2) fm2), (oc4 lk2 (kd g5) (st g5) (.ref r2) (gb g5) (it g5) we2), (oc6 r2 (.ref rx2) (.ref ry2) (nI (nN (mn g5))) rg2), (oa rx2 cI cap2 U2), (oa ry2 cI cap2 V2)] := ⟨hfe2, hlk2, hr2, hrx2, hry2, trivial⟩
          have hD0_1 := hD
          obtain ⟨T_1, hT_1, hP, hD⟩ := pl_oT hP hD hc9_1 (pwR hfe2.2 hlk2.2 hr2.2 hrx2.2 hry2.2 hne2)
          obtain ⟨hP, hD⟩ := zre (W2 := ([_, _, _, _, _, _, _] ++ va_pl T_1 f)) hP hD rfl
          refine lv_aload_n hx hb dX8_cornersThere_12 rfl (lv_at hl 2 rfl) ?_
          refine lv_iload_n hx hb dX8_cornersThere_13 rfl (lv_at hl 0 rfl) ?_
          obtain ⟨hPc, hDc, hFc, hI1⟩ := zi_sub (wc := [_, _, _, _]) hP hD hS hA [0, 1, 2, 3] (by decide +kernel) rfl
          refine zcall (st1 := [.null]) (va_runV (As := [.int (nI g5)]) (rest := []) ⟨hx, hb, hml, hown, hts⟩ (k_Sheet_rowThere_sv l dC dI cI cZ cF H.size sh fa ft FA g5 fe2 lo2 (rk g5) (wd g5) (tw g5) (pa g5) (pb g5) lk2 (kd g5) (st g5) (gb g5) (it g5) we2 fm2 (.ref r2) (by first | with_reducible assumption | omega) (by first | with_reducible assumption | omega) (hFA2) (by first | exact hA2 | omega)) (csV_37 hts rfl rfl ⟨Nat.le_of_ble_eq_true rfl, Nat.le_of_ble_eq_true rfl⟩) (zPV2 (q0 := 0) (ci := 7) hPc hDc hK hXN rfl rfl) rfl rfl hl.1 rfl (lv_room (Nat.le_of_ble_eq_true rfl)) dX8_cornersThere_14 ⟨Nat.le_of_ble_eq_true rfl, Nat.le_of_ble_eq_true rfl⟩) hS hFc hFc rfl (fun t H locs ht hB hk1 hS => ?_)
          obtain ⟨hP1, hD1⟩ := hB
          rw [ht] at hP1
          replace hP := z0 hP hD hk1 hP1 hI1
          clear hk1 hPc hDc hFc hP1 hD1 ht hI1
          refine lv_astore_nN (lv' := [(3, .null), (2, .int (nI g5)), (1, .int (nI (smP (lvF ft st tn) (fun g => nN (mn g)) g5))), (0, .ref sh)]) hx hb dX8_cornersThere_17 rfl hl (Nat.le_of_ble_eq_true rfl) rfl (fun ls hl => ?_)
          refine lv_iload_n hx hb dX8_cornersThere_18 rfl (lv_at hl 2 rfl) ?_
          refine lv_aload_nN hx hb dX8_cornersThere_19 rfl (lv_at hl 0 rfl) ?_
          refine lv_ifnonnullN hx hb dX8_cornersThere_20 ?_
          refine lv_iconst (v := 0) hx hb dX8_cornersThere_23 rfl ?_
          refine lv_goto (tgt := 31) hx hb dX8_cornersThere_24 rfl ?_
          obtain ⟨hP, hD⟩ := pl_bk (X := [_, _]) hT_1 hP rfl hc9_1 hD0_1 rfl
          refine lv_iadd hx hb dX8_cornersThere_31 ?_
          refine zz_i (v := nI ((smP (lvF ft st tn) (fun g => nN (mn g)) g5) + 0)) (nI_add (smP (lvF ft st tn) (fun g => nN (mn g)) g5) 0) ?_
          refine lv_istore_n (lv' := [(1, .int (nI ((smP (lvF ft st tn) (fun g => nN (mn g)) g5) + 0))), (3, .null), (2, .int (nI g5)), (0, .ref sh)]) hx hb dX8_cornersThere_32 rfl hl (Nat.le_of_ble_eq_true rfl) rfl (fun ls hl => ?_)
          refine lv_iinc (v := nI (g5 + 1)) (lv' := [(2, .int (nI (g5 + 1))), (1, .int (nI ((smP (lvF ft st tn) (fun g => nN (mn g)) g5) + 0))), (3, .null), (0, .ref sh)]) hx hb dX8_cornersThere_33 hl (k := 2) rfl (nI_add g5 1) (Nat.le_of_ble_eq_true rfl) rfl (fun ls hl => ?_)
          refine lv_goto (tgt := 4) hx hb dX8_cornersThere_36 rfl ?_
          have hl9 := lv_sub hl [0, 1, 3] rfl
          have e9_1 : nI (smP (lvF ft st tn) (fun g => nN (mn g)) (g5 + 1)) = (nI ((smP (lvF ft st tn) (fun g => nN (mn g)) g5) + 0) : Int32) := by first | exact zn_eq ((smP_y (P := lvF ft st tn) hlv2).symm) | exact congrArg nI (smP_y (P := lvF ft st tn) hlv2) | exact congrArg nI (smP_n (P := lvF ft st tn) hnl2)
          have hl9 : lv_has ls 4 [(2, .int (nI (g5 + 1))), (1, .int (nI (smP (lvF ft st tn) (fun g => nN (mn g)) (g5 + 1)))), (0, .ref sh)] := by rw [e9_1]; exact hl9
          exact ih_4 (g5 + 1) H locs ls (by first | with_reducible assumption | omega) (by first | with_reducible assumption | omega) (by first | (have e9 := smP_y (P := lvF ft st tn) (c := fun g => nN (mn g)) hlv2; omega) | (have e9 := smP_n (P := lvF ft st tn) (c := fun g => nN (mn g)) hnl2; omega)) hP hD hS hl9
  have e9_1 : nI (smP (lvF ft st tn) (fun g => nN (mn g)) 0) = (0 : Int32) := by rfl
  have hl9 : lv_has ls 4 [(2, .int (nI 0)), (1, .int (nI (smP (lvF ft st tn) (fun g => nN (mn g)) 0))), (0, .ref sh)] := by rw [e9_1]; exact lv_sub hl [0, 1, 2] rfl
  exact hl_4 _ 0 s.heap [] ls (Nat.lt_succ_self _) (by first | with_reducible assumption | omega) (Nat.le_refl 0) hP hD hS hl9
set_option maxHeartbeats 4000000 in
set_option maxRecDepth 100000 in
theorem k_count_0 (l : Launch) (dC : Nat → ClassId) (dI : Nat → Nat → Nat) (cI cZ cF : ClassId) (sz : Nat) (x : Nat) (sh : Nat) (lw : Nat) (ro : Nat) (bq : Nat) (bp : Nat) (dq : Nat) (dp : Nat) (lv : Nat) (sl : Nat) (sd : Int32) (ul : Int32) (su : Int32) (ds : Int32) (fa : Nat) (ft : Nat) (FA : Nat → Option Nat) (L : List Nat) (f : Nat → va_E) (kd : Nat → Int32) (st : Nat → Int32) (tn : Nat → Int32) (mn : Nat → Int32) (cx : Nat → Int32) (cy : Nat → Int32) (rk : Nat → Int32) (wd : Nat → Int32) (tw : Nat → Int32) (pa : Nat → Int32) (pb : Nat → Int32) (gb : Nat → Int32) (it : Nat → Int32) (h200 : ft ≤ 200) (hva : ∀ q, q < ft → vwA cI L f FA rk wd tw pa pb kd st gb it tn mn cx cy q) : zM l yX10_count cX10_count 2 (some .int) ({ frames := 0, cells := 0, slots := 0, locals := 0 } : Room) [.ref x, .int 0] (dC, dI) (zTy cI cZ cF) ([(oc8 x (.ref sh) (.ref lw) (.ref ro) (.ref bq) (.ref bp) (.ref dq) (.ref dp) (.ref lv) (.ref sl) ds sd ul su), (oc7 sh (.ref fa) (nI ft)), (oq fa cF 200 FA)] ++ va_pl L f) sz (some (.int (nI ft))) (fun A t => zPD (dC, dI) classes A ([(oc8 x (.ref sh) (.ref lw) (.ref ro) (.ref bq) (.ref bp) (.ref dq) (.ref dp) (.ref lv) (.ref sl) ds sd ul su), (oc7 sh (.ref fa) (nI ft)), (oq fa cF 200 FA)] ++ va_pl L f) t.heap) 0 0 := by
  refine zIn (own := "ScaleShop") (loc := [(0, .ref x), (1, .int 0)]) rfl rfl rfl rfl (fun p e s m below meth c hx hb hr hts hown hlocks hml hnm9 A hA hS hP hD hK hXN Q9 hQ9 ls hl => ?_)
  refine lv_iload_n hx hb dX10_count_0 rfl (lv_at hl 1 rfl) ?_
  refine lv_tableIn (tgt := 48) (off := 47) hx hb dX10_count_1 (by decide) (by decide) (by decide) (by decide) ?_
  refine lv_aload_n hx hb dX10_count_48 rfl (lv_at hl 0 rfl) ?_
  refine va_get (D := (dC, dI)) (ci := 8) (v := .ref sh) (C := RX10) (T := TX10) (N := 13) hx hb hts inX10 hown hK hP 0 rfl rfl 0 (Nat.le_of_ble_eq_true rfl) (hts _ mw_309) (fun _ h9 => h9) rfl dX10_count_49 ?_
  refine va_get (D := (dC, dI)) (ci := 7) (v := .int (nI ft)) (C := RX8) (T := TX8) (N := 2) hx hb hts inX8 hown hK hP 1 rfl rfl 1 (Nat.le_of_ble_eq_true rfl) (hts _ mw_140) (fun _ h9 => h9) rfl dX10_count_52 ?_
  obtain ⟨hP9, hD9⟩ := zu_part (cx := [_, _, _]) hP hD [true, true, true] rfl rfl
  rw [hQ9]
  exact W.iret (v := nI ft) hx hb hr (fun t ht hW => ⟨⟨rfl, by rw [ht]; exact hP9, hD9⟩, hS.F ht⟩) hS.2.2 dX10_count_55
set_option maxHeartbeats 4000000 in
set_option maxRecDepth 100000 in
theorem k_count_1 (l : Launch) (dC : Nat → ClassId) (dI : Nat → Nat → Nat) (cI cZ cF : ClassId) (sz : Nat) (x : Nat) (sh : Nat) (lw : Nat) (ro : Nat) (bq : Nat) (bp : Nat) (dq : Nat) (dp : Nat) (lv : Nat) (sl : Nat) (sd : Int32) (ul : Int32) (su : Int32) (ds : Int32) (fa : Nat) (ft : Nat) (FA : Nat → Option Nat) (L : List Nat) (f : Nat → va_E) (kd : Nat → Int32) (st : Nat → Int32) (tn : Nat → Int32) (mn : Nat → Int32) (cx : Nat → Int32) (cy : Nat → Int32) (rk : Nat → Int32) (wd : Nat → Int32) (tw : Nat → Int32) (pa : Nat → Int32) (pb : Nat → Int32) (gb : Nat → Int32) (it : Nat → Int32) (h200 : ft ≤ 200) (hva : ∀ q, q < ft → vwA cI L f FA rk wd tw pa pb kd st gb it tn mn cx cy q) : zM l yX10_count cX10_count 2 (some .int) ({ frames := 2, cells := 0, slots := 0, locals := 45 } : Room) [.ref x, .int 1] (dC, dI) (zTy cI cZ cF) ([(oc8 x (.ref sh) (.ref lw) (.ref ro) (.ref bq) (.ref bp) (.ref dq) (.ref dp) (.ref lv) (.ref sl) ds sd ul su), (oc7 sh (.ref fa) (nI ft)), (oq fa cF 200 FA)] ++ va_pl L f) sz (some (.int (nI (cntP (fun g => (st g).toInt = 1) ft)))) (fun A t => zPD (dC, dI) classes A ([(oc8 x (.ref sh) (.ref lw) (.ref ro) (.ref bq) (.ref bp) (.ref dq) (.ref dp) (.ref lv) (.ref sl) ds sd ul su), (oc7 sh (.ref fa) (nI ft)), (oq fa cF 200 FA)] ++ va_pl L f) t.heap) 0 0 := by
  refine zIn (own := "ScaleShop") (loc := [(0, .ref x), (1, .int 1)]) rfl rfl rfl rfl (fun p e s m below meth c hx hb hr hts hown hlocks hml hnm9 A hA hS hP hD hK hXN Q9 hQ9 ls hl => ?_)
  refine lv_iload_n hx hb dX10_count_0 rfl (lv_at hl 1 rfl) ?_
  refine lv_tableIn (tgt := 56) (off := 55) hx hb dX10_count_1 (by decide) (by decide) (by decide) (by decide) ?_
  refine lv_aload_n hx hb dX10_count_56 rfl (lv_at hl 0 rfl) ?_
  refine va_get (D := (dC, dI)) (ci := 8) (v := .ref sh) (C := RX10) (T := TX10) (N := 13) hx hb hts inX10 hown hK hP 0 rfl rfl 0 (Nat.le_of_ble_eq_true rfl) (hts _ mw_309) (fun _ h9 => h9) rfl dX10_count_57 ?_
  refine lv_iconst (v := 1) hx hb dX10_count_60 rfl ?_
  obtain ⟨hPc, hDc, hFc, hI1⟩ := zi_part (cx := [_, _]) hP hD hS hA [1, 2] rfl rfl
  refine zcall (st1 := [.int (nI (cntP (fun g => (st g).toInt = (1 : Int32).toInt) ft))]) (va_runV (As := [.int 1]) (rest := []) ⟨hx, hb, hml, hown, hts⟩ (k_Sheet_inState l dC dI cI cZ cF s.heap.size sh fa ft FA L f kd st tn mn cx cy rk wd tw pa pb gb it 1 (by first | with_reducible assumption | omega) (by first | with_reducible assumption | assumption)) (csV_147 hts rfl rfl ⟨Nat.le_of_ble_eq_true rfl, Nat.le_of_ble_eq_true rfl⟩) (zPV2 (q0 := 0) (ci := 7) hPc hDc hK hXN rfl rfl) rfl rfl hl.1 rfl (lv_room (Nat.le_of_ble_eq_true rfl)) dX10_count_61 ⟨Nat.le_of_ble_eq_true rfl, Nat.le_of_ble_eq_true rfl⟩) hS hFc hFc rfl (fun t H locs ht hB hk1 hS => ?_)
  obtain ⟨hP1, hD1⟩ := hB
  rw [ht] at hP1
  replace hP := z0 hP hD hk1 hP1 hI1
  clear hk1 hPc hDc hFc hP1 hD1 ht hI1
  obtain ⟨hP9, hD9⟩ := zu_part (cx := [_, _, _]) hP hD [true, true, true] rfl rfl
  rw [hQ9]
  exact W.iret (v := nI (cntP (fun g => (st g).toInt = (1 : Int32).toInt) ft)) hx hb hr (fun t ht hW => ⟨⟨congrArg (fun z => Outcome.returned (some (Value.int z))) (show (nI (cntP (fun g => (st g).toInt = (1 : Int32).toInt) ft) : Int32) = nI (cntP (fun g => (st g).toInt = 1) ft) from by have e1 : (1 : Int32).toInt = 1 := (by decide); rw [e1]), by rw [ht]; exact hP9, hD9⟩, hS.F ht⟩) hS.2.2 dX10_count_64
set_option maxHeartbeats 4000000 in
set_option maxRecDepth 100000 in
theorem k_count_2 (l : Launch) (dC : Nat → ClassId) (dI : Nat → Nat → Nat) (cI cZ cF : ClassId) (sz : Nat) (x : Nat) (sh : Nat) (lw : Nat) (ro : Nat) (bq : Nat) (bp : Nat) (dq : Nat) (dp : Nat) (lv : Nat) (sl : Nat) (sd : Int32) (ul : Int32) (su : Int32) (ds : Int32) (fa : Nat) (ft : Nat) (FA : Nat → Option Nat) (L : List Nat) (f : Nat → va_E) (kd : Nat → Int32) (st : Nat → Int32) (tn : Nat → Int32) (mn : Nat → Int32) (cx : Nat → Int32) (cy : Nat → Int32) (rk : Nat → Int32) (wd : Nat → Int32) (tw : Nat → Int32) (pa : Nat → Int32) (pb : Nat → Int32) (gb : Nat → Int32) (it : Nat → Int32) (h200 : ft ≤ 200) (hva : ∀ q, q < ft → vwA cI L f FA rk wd tw pa pb kd st gb it tn mn cx cy q) : zM l yX10_count cX10_count 2 (some .int) ({ frames := 2, cells := 0, slots := 0, locals := 45 } : Room) [.ref x, .int 2] (dC, dI) (zTy cI cZ cF) ([(oc8 x (.ref sh) (.ref lw) (.ref ro) (.ref bq) (.ref bp) (.ref dq) (.ref dp) (.ref lv) (.ref sl) ds sd ul su), (oc7 sh (.ref fa) (nI ft)), (oq fa cF 200 FA)] ++ va_pl L f) sz (some (.int (nI (cntP (fun g => (st g).toInt = 2) ft)))) (fun A t => zPD (dC, dI) classes A ([(oc8 x (.ref sh) (.ref lw) (.ref ro) (.ref bq) (.ref bp) (.ref dq) (.ref dp) (.ref lv) (.ref sl) ds sd ul su), (oc7 sh (.ref fa) (nI ft)), (oq fa cF 200 FA)] ++ va_pl L f) t.heap) 0 0 := by
  refine zIn (own := "ScaleShop") (loc := [(0, .ref x), (1, .int 2)]) rfl rfl rfl rfl (fun p e s m below meth c hx hb hr hts hown hlocks hml hnm9 A hA hS hP hD hK hXN Q9 hQ9 ls hl => ?_)
  refine lv_iload_n hx hb dX10_count_0 rfl (lv_at hl 1 rfl) ?_
  refine lv_tableIn (tgt := 65) (off := 64) hx hb dX10_count_1 (by decide) (by decide) (by decide) (by decide) ?_
  refine lv_aload_n hx hb dX10_count_65 rfl (lv_at hl 0 rfl) ?_
  refine va_get (D := (dC, dI)) (ci := 8) (v := .ref sh) (C := RX10) (T := TX10) (N := 13) hx hb hts inX10 hown hK hP 0 rfl rfl 0 (Nat.le_of_ble_eq_true rfl) (hts _ mw_309) (fun _ h9 => h9) rfl dX10_count_66 ?_
  refine lv_iconst (v := 2) hx hb dX10_count_69 rfl ?_
  obtain ⟨hPc, hDc, hFc, hI1⟩ := zi_part (cx := [_, _]) hP hD hS hA [1, 2] rfl rfl
  refine zcall (st1 := [.int (nI (cntP (fun g => (st g).toInt = (2 : Int32).toInt) ft))]) (va_runV (As := [.int 2]) (rest := []) ⟨hx, hb, hml, hown, hts⟩ (k_Sheet_inState l dC dI cI cZ cF s.heap.size sh fa ft FA L f kd st tn mn cx cy rk wd tw pa pb gb it 2 (by first | with_reducible assumption | omega) (by first | with_reducible assumption | assumption)) (csV_147 hts rfl rfl ⟨Nat.le_of_ble_eq_true rfl, Nat.le_of_ble_eq_true rfl⟩) (zPV2 (q0 := 0) (ci := 7) hPc hDc hK hXN rfl rfl) rfl rfl hl.1 rfl (lv_room (Nat.le_of_ble_eq_true rfl)) dX10_count_70 ⟨Nat.le_of_ble_eq_true rfl, Nat.le_of_ble_eq_true rfl⟩) hS hFc hFc rfl (fun t H locs ht hB hk1 hS => ?_)
  obtain ⟨hP1, hD1⟩ := hB
  rw [ht] at hP1
  replace hP := z0 hP hD hk1 hP1 hI1
  clear hk1 hPc hDc hFc hP1 hD1 ht hI1
  obtain ⟨hP9, hD9⟩ := zu_part (cx := [_, _, _]) hP hD [true, true, true] rfl rfl
  rw [hQ9]
  exact W.iret (v := nI (cntP (fun g => (st g).toInt = (2 : Int32).toInt) ft)) hx hb hr (fun t ht hW => ⟨⟨congrArg (fun z => Outcome.returned (some (Value.int z))) (show (nI (cntP (fun g => (st g).toInt = (2 : Int32).toInt) ft) : Int32) = nI (cntP (fun g => (st g).toInt = 2) ft) from by have e1 : (2 : Int32).toInt = 2 := (by decide); rw [e1]), by rw [ht]; exact hP9, hD9⟩, hS.F ht⟩) hS.2.2 dX10_count_73
set_option maxHeartbeats 4000000 in
set_option maxRecDepth 100000 in
theorem k_count_3 (l : Launch) (dC : Nat → ClassId) (dI : Nat → Nat → Nat) (cI cZ cF : ClassId) (sz : Nat) (x : Nat) (sh : Nat) (lw : Nat) (ro : Nat) (bq : Nat) (bp : Nat) (dq : Nat) (dp : Nat) (lv : Nat) (sl : Nat) (sd : Int32) (ul : Int32) (su : Int32) (ds : Int32) (fa : Nat) (ft : Nat) (FA : Nat → Option Nat) (L : List Nat) (f : Nat → va_E) (kd : Nat → Int32) (st : Nat → Int32) (tn : Nat → Int32) (mn : Nat → Int32) (cx : Nat → Int32) (cy : Nat → Int32) (rk : Nat → Int32) (wd : Nat → Int32) (tw : Nat → Int32) (pa : Nat → Int32) (pb : Nat → Int32) (gb : Nat → Int32) (it : Nat → Int32) (h200 : ft ≤ 200) (hva : ∀ q, q < ft → vwA cI L f FA rk wd tw pa pb kd st gb it tn mn cx cy q) : zM l yX10_count cX10_count 2 (some .int) ({ frames := 2, cells := 0, slots := 0, locals := 44 } : Room) [.ref x, .int 3] (dC, dI) (zTy cI cZ cF) ([(oc8 x (.ref sh) (.ref lw) (.ref ro) (.ref bq) (.ref bp) (.ref dq) (.ref dp) (.ref lv) (.ref sl) ds sd ul su), (oc7 sh (.ref fa) (nI ft)), (oq fa cF 200 FA)] ++ va_pl L f) sz (some (.int (nI (cntP (fun g => ¬ (tn g).toInt = 0) ft)))) (fun A t => zPD (dC, dI) classes A ([(oc8 x (.ref sh) (.ref lw) (.ref ro) (.ref bq) (.ref bp) (.ref dq) (.ref dp) (.ref lv) (.ref sl) ds sd ul su), (oc7 sh (.ref fa) (nI ft)), (oq fa cF 200 FA)] ++ va_pl L f) t.heap) 0 0 := by
  refine zIn (own := "ScaleShop") (loc := [(0, .ref x), (1, .int 3)]) rfl rfl rfl rfl (fun p e s m below meth c hx hb hr hts hown hlocks hml hnm9 A hA hS hP hD hK hXN Q9 hQ9 ls hl => ?_)
  refine lv_iload_n hx hb dX10_count_0 rfl (lv_at hl 1 rfl) ?_
  refine lv_tableIn (tgt := 74) (off := 73) hx hb dX10_count_1 (by decide) (by decide) (by decide) (by decide) ?_
  refine lv_aload_n hx hb dX10_count_74 rfl (lv_at hl 0 rfl) ?_
  refine va_get (D := (dC, dI)) (ci := 8) (v := .ref sh) (C := RX10) (T := TX10) (N := 13) hx hb hts inX10 hown hK hP 0 rfl rfl 0 (Nat.le_of_ble_eq_true rfl) (hts _ mw_309) (fun _ h9 => h9) rfl dX10_count_75 ?_
  obtain ⟨hPc, hDc, hFc, hI1⟩ := zi_part (cx := [_, _]) hP hD hS hA [1, 2] rfl rfl
  refine zcall (st1 := [.int (nI (cntP (fun g => ¬ (tn g).toInt = 0) ft))]) (va_runV (As := []) (rest := []) ⟨hx, hb, hml, hown, hts⟩ (k_Sheet_torn l dC dI cI cZ cF s.heap.size sh fa ft FA L f kd st tn mn cx cy rk wd tw pa pb gb it (by first | with_reducible assumption | omega) (by first | with_reducible assumption | assumption)) (csV_148 hts rfl rfl ⟨Nat.le_of_ble_eq_true rfl, Nat.le_of_ble_eq_true rfl⟩) (zPV2 (q0 := 0) (ci := 7) hPc hDc hK hXN rfl rfl) rfl rfl hl.1 rfl (lv_room (Nat.le_of_ble_eq_true rfl)) dX10_count_78 ⟨Nat.le_of_ble_eq_true rfl, Nat.le_of_ble_eq_true rfl⟩) hS hFc hFc rfl (fun t H locs ht hB hk1 hS => ?_)
  obtain ⟨hP1, hD1⟩ := hB
  rw [ht] at hP1
  replace hP := z0 hP hD hk1 hP1 hI1
  clear hk1 hPc hDc hFc hP1 hD1 ht hI1
  obtain ⟨hP9, hD9⟩ := zu_part (cx := [_, _, _]) hP hD [true, true, true] rfl rfl
  rw [hQ9]
  exact W.iret (v := nI (cntP (fun g => ¬ (tn g).toInt = 0) ft)) hx hb hr (fun t ht hW => ⟨⟨rfl, by rw [ht]; exact hP9, hD9⟩, hS.F ht⟩) hS.2.2 dX10_count_81
set_option maxHeartbeats 4000000 in
set_option maxRecDepth 100000 in
theorem k_count_4 (l : Launch) (dC : Nat → ClassId) (dI : Nat → Nat → Nat) (cI cZ cF : ClassId) (sz : Nat) (x : Nat) (sh : Nat) (lw : Nat) (ro : Nat) (bq : Nat) (bp : Nat) (dq : Nat) (dp : Nat) (lv : Nat) (sl : Nat) (sd : Int32) (ul : Int32) (su : Int32) (ds : Int32) (fa : Nat) (ft : Nat) (FA : Nat → Option Nat) (L : List Nat) (f : Nat → va_E) (kd : Nat → Int32) (st : Nat → Int32) (tn : Nat → Int32) (mn : Nat → Int32) (cx : Nat → Int32) (cy : Nat → Int32) (rk : Nat → Int32) (wd : Nat → Int32) (tw : Nat → Int32) (pa : Nat → Int32) (pb : Nat → Int32) (gb : Nat → Int32) (it : Nat → Int32) (h200 : ft ≤ 200) (hva : ∀ q, q < ft → vwA cI L f FA rk wd tw pa pb kd st gb it tn mn cx cy q) : zM l yX10_count cX10_count 2 (some .int) ({ frames := 3, cells := 0, slots := 0, locals := 66 } : Room) [.ref x, .int 4] (dC, dI) (zTy cI cZ cF) ([(oc8 x (.ref sh) (.ref lw) (.ref ro) (.ref bq) (.ref bp) (.ref dq) (.ref dp) (.ref lv) (.ref sl) ds sd ul su), (oc7 sh (.ref fa) (nI ft)), (oq fa cF 200 FA)] ++ va_pl L f) sz (some (.int (nI (smP (lvF ft st tn) (fun g => nN (mn g)) ft)))) (fun A t => zPD (dC, dI) classes A ([(oc8 x (.ref sh) (.ref lw) (.ref ro) (.ref bq) (.ref bp) (.ref dq) (.ref dp) (.ref lv) (.ref sl) ds sd ul su), (oc7 sh (.ref fa) (nI ft)), (oq fa cF 200 FA)] ++ va_pl L f) t.heap) 0 0 := by
  refine zIn (own := "ScaleShop") (loc := [(0, .ref x), (1, .int 4)]) rfl rfl rfl rfl (fun p e s m below meth c hx hb hr hts hown hlocks hml hnm9 A hA hS hP hD hK hXN Q9 hQ9 ls hl => ?_)
  refine lv_iload_n hx hb dX10_count_0 rfl (lv_at hl 1 rfl) ?_
  refine lv_tableIn (tgt := 82) (off := 81) hx hb dX10_count_1 (by decide) (by decide) (by decide) (by decide) ?_
  refine lv_aload_n hx hb dX10_count_82 rfl (lv_at hl 0 rfl) ?_
  refine va_get (D := (dC, dI)) (ci := 8) (v := .ref sh) (C := RX10) (T := TX10) (N := 13) hx hb hts inX10 hown hK hP 0 rfl rfl 0 (Nat.le_of_ble_eq_true rfl) (hts _ mw_309) (fun _ h9 => h9) rfl dX10_count_83 ?_
  obtain ⟨hPc, hDc, hFc, hI1⟩ := zi_part (cx := [_, _]) hP hD hS hA [1, 2] rfl rfl
  refine zcall (st1 := [.int (nI (smP (lvF ft st tn) (fun g => nN (mn g)) ft))]) (va_runV (As := []) (rest := []) ⟨hx, hb, hml, hown, hts⟩ (k_Sheet_cornersThere l dC dI cI cZ cF s.heap.size sh fa ft FA L f kd st tn mn cx cy rk wd tw pa pb gb it (by first | with_reducible assumption | omega) (by first | with_reducible assumption | assumption)) (csV_149 hts rfl rfl ⟨Nat.le_of_ble_eq_true rfl, Nat.le_of_ble_eq_true rfl⟩) (zPV2 (q0 := 0) (ci := 7) hPc hDc hK hXN rfl rfl) rfl rfl hl.1 rfl (lv_room (Nat.le_of_ble_eq_true rfl)) dX10_count_86 ⟨Nat.le_of_ble_eq_true rfl, Nat.le_of_ble_eq_true rfl⟩) hS hFc hFc rfl (fun t H locs ht hB hk1 hS => ?_)
  obtain ⟨hP1, hD1⟩ := hB
  rw [ht] at hP1
  replace hP := z0 hP hD hk1 hP1 hI1
  clear hk1 hPc hDc hFc hP1 hD1 ht hI1
  obtain ⟨hP9, hD9⟩ := zu_part (cx := [_, _, _]) hP hD [true, true, true] rfl rfl
  rw [hQ9]
  exact W.iret (v := nI (smP (lvF ft st tn) (fun g => nN (mn g)) ft)) hx hb hr (fun t ht hW => ⟨⟨rfl, by rw [ht]; exact hP9, hD9⟩, hS.F ht⟩) hS.2.2 dX10_count_89
set_option maxHeartbeats 4000000 in
set_option maxRecDepth 100000 in
theorem k_count_5 (l : Launch) (dC : Nat → ClassId) (dI : Nat → Nat → Nat) (cI cZ cF : ClassId) (sz : Nat) (x : Nat) (sh : Nat) (lw : Nat) (ro : Nat) (bq : Nat) (bp : Nat) (dq : Nat) (dp : Nat) (lv : Nat) (sl : Nat) (sd : Int32) (ul : Int32) (su : Int32) (ds : Int32) (fa : Nat) (ft : Nat) (FA : Nat → Option Nat) (L : List Nat) (f : Nat → va_E) (kd : Nat → Int32) (st : Nat → Int32) (tn : Nat → Int32) (mn : Nat → Int32) (cx : Nat → Int32) (cy : Nat → Int32) (rk : Nat → Int32) (wd : Nat → Int32) (tw : Nat → Int32) (pa : Nat → Int32) (pb : Nat → Int32) (gb : Nat → Int32) (it : Nat → Int32) (h200 : ft ≤ 200) (hva : ∀ q, q < ft → vwA cI L f FA rk wd tw pa pb kd st gb it tn mn cx cy q) : zM l yX10_count cX10_count 2 (some .int) ({ frames := 0, cells := 0, slots := 0, locals := 0 } : Room) [.ref x, .int 5] (dC, dI) (zTy cI cZ cF) ([(oc8 x (.ref sh) (.ref lw) (.ref ro) (.ref bq) (.ref bp) (.ref dq) (.ref dp) (.ref lv) (.ref sl) ds sd ul su), (oc7 sh (.ref fa) (nI ft)), (oq fa cF 200 FA)] ++ va_pl L f) sz (some (.int ds)) (fun A t => zPD (dC, dI) classes A ([(oc8 x (.ref sh) (.ref lw) (.ref ro) (.ref bq) (.ref bp) (.ref dq) (.ref dp) (.ref lv) (.ref sl) ds sd ul su), (oc7 sh (.ref fa) (nI ft)), (oq fa cF 200 FA)] ++ va_pl L f) t.heap) 0 0 := by
  refine zIn (own := "ScaleShop") (loc := [(0, .ref x), (1, .int 5)]) rfl rfl rfl rfl (fun p e s m below meth c hx hb hr hts hown hlocks hml hnm9 A hA hS hP hD hK hXN Q9 hQ9 ls hl => ?_)
  refine lv_iload_n hx hb dX10_count_0 rfl (lv_at hl 1 rfl) ?_
  refine lv_tableIn (tgt := 90) (off := 89) hx hb dX10_count_1 (by decide) (by decide) (by decide) (by decide) ?_
  refine lv_aload_n hx hb dX10_count_90 rfl (lv_at hl 0 rfl) ?_
  refine va_get (D := (dC, dI)) (ci := 8) (v := .int ds) (C := RX10) (T := TX10) (N := 13) hx hb hts inX10 hown hK hP 0 rfl rfl 9 (Nat.le_of_ble_eq_true rfl) (hts _ mw_318) (fun _ h9 => h9) rfl dX10_count_91 ?_
  obtain ⟨hP9, hD9⟩ := zu_part (cx := [_, _, _]) hP hD [true, true, true] rfl rfl
  rw [hQ9]
  exact W.iret (v := ds) hx hb hr (fun t ht hW => ⟨⟨rfl, by rw [ht]; exact hP9, hD9⟩, hS.F ht⟩) hS.2.2 dX10_count_94
set_option maxHeartbeats 4000000 in
set_option maxRecDepth 100000 in
theorem k_count_7 (l : Launch) (dC : Nat → ClassId) (dI : Nat → Nat → Nat) (cI cZ cF : ClassId) (sz : Nat) (x : Nat) (sh : Nat) (lw : Nat) (ro : Nat) (bq : Nat) (bp : Nat) (dq : Nat) (dp : Nat) (lv : Nat) (sl : Nat) (sd : Int32) (ul : Int32) (su : Int32) (ds : Int32) (fa : Nat) (ft : Nat) (FA : Nat → Option Nat) (L : List Nat) (f : Nat → va_E) (kd : Nat → Int32) (st : Nat → Int32) (tn : Nat → Int32) (mn : Nat → Int32) (cx : Nat → Int32) (cy : Nat → Int32) (rk : Nat → Int32) (wd : Nat → Int32) (tw : Nat → Int32) (pa : Nat → Int32) (pb : Nat → Int32) (gb : Nat → Int32) (it : Nat → Int32) (h200 : ft ≤ 200) (hva : ∀ q, q < ft → vwA cI L f FA rk wd tw pa pb kd st gb it tn mn cx cy q) : zM l yX10_count cX10_count 2 (some .int) ({ frames := 0, cells := 0, slots := 0, locals := 0 } : Room) [.ref x, .int 7] (dC, dI) (zTy cI cZ cF) ([(oc8 x (.ref sh) (.ref lw) (.ref ro) (.ref bq) (.ref bp) (.ref dq) (.ref dp) (.ref lv) (.ref sl) ds sd ul su), (oc7 sh (.ref fa) (nI ft)), (oq fa cF 200 FA)] ++ va_pl L f) sz (some (.int ul)) (fun A t => zPD (dC, dI) classes A ([(oc8 x (.ref sh) (.ref lw) (.ref ro) (.ref bq) (.ref bp) (.ref dq) (.ref dp) (.ref lv) (.ref sl) ds sd ul su), (oc7 sh (.ref fa) (nI ft)), (oq fa cF 200 FA)] ++ va_pl L f) t.heap) 0 0 := by
  refine zIn (own := "ScaleShop") (loc := [(0, .ref x), (1, .int 7)]) rfl rfl rfl rfl (fun p e s m below meth c hx hb hr hts hown hlocks hml hnm9 A hA hS hP hD hK hXN Q9 hQ9 ls hl => ?_)
  refine lv_iload_n hx hb dX10_count_0 rfl (lv_at hl 1 rfl) ?_
  refine lv_tableIn (tgt := 108) (off := 107) hx hb dX10_count_1 (by decide) (by decide) (by decide) (by decide) ?_
  refine lv_aload_n hx hb dX10_count_108 rfl (lv_at hl 0 rfl) ?_
  refine va_get (D := (dC, dI)) (ci := 8) (v := .int ul) (C := RX10) (T := TX10) (N := 13) hx hb hts inX10 hown hK hP 0 rfl rfl 11 (Nat.le_of_ble_eq_true rfl) (hts _ mw_320) (fun _ h9 => h9) rfl dX10_count_109 ?_
  obtain ⟨hP9, hD9⟩ := zu_part (cx := [_, _, _]) hP hD [true, true, true] rfl rfl
  rw [hQ9]
  exact W.iret (v := ul) hx hb hr (fun t ht hW => ⟨⟨rfl, by rw [ht]; exact hP9, hD9⟩, hS.F ht⟩) hS.2.2 dX10_count_112
set_option maxHeartbeats 4000000 in
set_option maxRecDepth 100000 in
theorem k_count_d (l : Launch) (dC : Nat → ClassId) (dI : Nat → Nat → Nat) (cI cZ cF : ClassId) (sz : Nat) (x : Nat) (sh : Nat) (lw : Nat) (ro : Nat) (bq : Nat) (bp : Nat) (dq : Nat) (dp : Nat) (lv : Nat) (sl : Nat) (sd : Int32) (ul : Int32) (su : Int32) (ds : Int32) (w : Int32) (hw9 : w.toInt < 0 ∨ 7 < w.toInt) : zM l yX10_count cX10_count 2 (some .int) ({ frames := 0, cells := 0, slots := 0, locals := 0 } : Room) [.ref x, .int w] (dC, dI) (zTy cI cZ cF) [(oc8 x (.ref sh) (.ref lw) (.ref ro) (.ref bq) (.ref bp) (.ref dq) (.ref dp) (.ref lv) (.ref sl) ds sd ul su)] sz (some (.int (-1))) (fun A t => zPD (dC, dI) classes A [(oc8 x (.ref sh) (.ref lw) (.ref ro) (.ref bq) (.ref bp) (.ref dq) (.ref dp) (.ref lv) (.ref sl) ds sd ul su)] t.heap) 0 0 := by
  refine zIn (own := "ScaleShop") (loc := [(0, .ref x), (1, .int w)]) rfl rfl rfl rfl (fun p e s m below meth c hx hb hr hts hown hlocks hml hnm9 A hA hS hP hD hK hXN Q9 hQ9 ls hl => ?_)
  refine lv_iload_n hx hb dX10_count_0 rfl (lv_at hl 1 rfl) ?_
  refine lv_tableOut (tgt := 113) hx hb dX10_count_1 (hw9) (by decide) ?_
  refine lv_iconst (v := (-1)) hx hb dX10_count_113 rfl ?_
  obtain ⟨hP9, hD9⟩ := zu_sub (wc := [_]) hP hD [true] rfl rfl
  rw [hQ9]
  exact W.iret (v := (-1)) hx hb hr (fun t ht hW => ⟨⟨rfl, by rw [ht]; exact hP9, hD9⟩, hS.F ht⟩) hS.2.2 dX10_count_114
set_option maxHeartbeats 4000000 in
set_option maxRecDepth 100000 in
theorem k_count_6 (l : Launch) (dC : Nat → ClassId) (dI : Nat → Nat → Nat) (cI cZ cF : ClassId) (sz : Nat) (cO : ClassId) (e0 : Nat) (mi : Nat) (x : Nat) (sh : Nat) (lw : Nat) (ro : Nat) (bq : Nat) (bp : Nat) (dq : Nat) (dp : Nat) (lv : Nat) (sl : Nat) (sd : Int32) (ul : Int32) (su : Int32) (ea : Nat) (dn : Nat) (T : Nat) (mc9 : Int32) (hdT : dn ≤ T) (hT5 : T ≤ 512) : zML l yX10_count cX10_count 2 (some .int) ({ frames := 1, cells := 0, slots := 0, locals := 20 } : Room) [.ref x, .int 6] (dC, dI) (zTyO cI cZ cF cO) e0 mi [(oc8 x (.ref sh) (.ref lw) (.ref ro) (.ref bq) (.ref bp) (.ref dq) (.ref dp) (.ref lv) (.ref sl) (nI dn) sd ul su), (oc10 sl mc9 (.ref ea) (nI T))] sz (some (.int (nI (T - dn)))) (fun A t => zPD (dC, dI) classes A [(oc8 x (.ref sh) (.ref lw) (.ref ro) (.ref bq) (.ref bp) (.ref dq) (.ref dp) (.ref lv) (.ref sl) (nI dn) sd ul su), (oc10 sl mc9 (.ref ea) (nI T))] t.heap) 0 0 := by
  refine zInL (own := "ScaleShop") (loc := [(0, .ref x), (1, .int 6)]) rfl rfl rfl rfl (fun p e s m below meth c hx hb hr hts hown hlocks hml hnm9 A hA hS hP hD hK hXL hXN hK3 Q9 hQ9 ls hl => ?_)
  refine lv_iload_n hx hb dX10_count_0 rfl (lv_at hl 1 rfl) ?_
  refine lv_tableIn (tgt := 95) (off := 94) hx hb dX10_count_1 (by decide) (by decide) (by decide) (by decide) ?_
  refine lv_aload_n hx hb dX10_count_95 rfl (lv_at hl 0 rfl) ?_
  refine va_get (D := (dC, dI)) (ci := 8) (v := .ref sl) (C := RX10) (T := TX10) (N := 13) hx hb hts inX10 hown hK hP 0 rfl rfl 8 (Nat.le_of_ble_eq_true rfl) (hts _ mw_317) (fun _ h9 => h9) rfl dX10_count_96 ?_
  obtain ⟨hPc, hDc, hFc, hI1⟩ := zi_sub (wc := [_]) hP hD hS hA [1] rfl rfl
  refine zcall (st1 := [.int (nI T)]) (va_runV (As := []) (rest := []) ⟨hx, hb, hml, hown, hts⟩ (k_AL_size l dC dI cI cZ cF s.heap.size sl ea T mc9 ) (csV_90 hts rfl rfl ⟨Nat.le_of_ble_eq_true rfl, Nat.le_of_ble_eq_true rfl⟩) (zPV2 (q0 := 0) (ci := 10) hPc hDc hK3 hXN rfl rfl) rfl rfl hl.1 rfl (lv_room (Nat.le_of_ble_eq_true rfl)) dX10_count_99 ⟨Nat.le_of_ble_eq_true rfl, Nat.le_of_ble_eq_true rfl⟩) hS hFc hFc rfl (fun t H locs ht hB hk1 hS => ?_)
  obtain ⟨hP1, hD1⟩ := hB
  rw [ht] at hP1
  replace hP := z0 hP hD hk1 hP1 hI1
  clear hk1 hPc hDc hFc hP1 hD1 ht hI1
  refine lv_aload_n hx hb dX10_count_102 rfl (lv_at hl 0 rfl) ?_
  refine va_get (D := (dC, dI)) (ci := 8) (v := .int (nI dn)) (C := RX10) (T := TX10) (N := 13) hx hb hts inX10 hown hK hP 0 rfl rfl 9 (Nat.le_of_ble_eq_true rfl) (hts _ mw_318) (fun _ h9 => h9) rfl dX10_count_103 ?_
  refine lv_isub hx hb dX10_count_106 ?_
  refine zz_i (v := nI (T - dn)) (pk_sub (a := T) (b := dn) (by omega)) ?_
  obtain ⟨hP9, hD9⟩ := zu_sub (wc := [_, _]) hP hD [true, true] rfl rfl
  rw [hQ9]
  exact W.iret (v := nI (T - dn)) hx hb hr (fun t ht hW => ⟨⟨rfl, by rw [ht]; exact hP9, hD9⟩, hS.F ht⟩) hS.2.2 dX10_count_107
end
