section
set_option maxHeartbeats 4000000 in
set_option maxRecDepth 100000 in
theorem k_thin_z (l : Launch) (dC : Nat → ClassId) (dI : Nat → Nat → Nat) (cI cZ cF : ClassId) (sz : Nat) (x : Nat) (ro : Nat) (bq : Nat) (bp : Nat) (dq : Nat) (dp : Nat) (lv : Nat) (sl : Nat) (ds : Int32) (sd : Int32) (ul : Int32) (su : Int32) (lw : Nat) (dr : Nat) (tg : Nat) (wy : Nat) (br : Nat) (bo : Nat) (aa : Nat) (tx : Nat) (ty : Nat) (nt : Nat) (TX : Nat → Int32) (TY : Nat → Int32) (rt : Int32) (wx : Nat) (wz : Nat) (nw : Nat) (WX : Nat → Int32) (WY : Nat → Int32) (rw : Int32) (dx : Nat) (dy : Nat) (nd : Nat) (cd : Nat) (P : Nat → Int32) (Q : Nat → Int32) (rd : Int32) (b1 : Int32) (b2 : Int32) (b3 : Int32) (b4 : Int32) (b5 : Int32) (b6 : Int32) (b7 : Int32) (b8 : Int32) (AR : Nat → Int32) (sh : Nat) (fa : Nat) (ft : Nat) (FA : Nat → Option Nat) (fe : Nat) (lo : Nat) (rk9 : Int32) (wd9 : Int32) (tw9 : Int32) (pa9 : Int32) (pb9 : Int32) (lk : Nat) (gb9 : Int32) (jt9 : Int32) (r : Nat) (rx : Nat) (ry : Nat) (n : Nat) (cap : Nat) (X : Nat → Int32) (Y : Nat → Int32) (f0 : Nat) (wn : Nat) (LM : Nat) (m9 : Nat) (n1 : Nat) (L : List Nat) (f : Nat → va_E) (kd : Nat → Int32) (st : Nat → Int32) (tn : Nat → Int32) (mn : Nat → Int32) (cx : Nat → Int32) (cy : Nat → Int32) (mn1 : Nat → Int32) (cx1 : Nat → Int32) (cy1 : Nat → Int32) (lim : Int32) (fm9 : Value) (h200 : ft ≤ 200) (hf0 : f0 < ft) (hFA : FA f0 = some fe) (hvw : ∀ q, q < ft → q ≠ f0 → vwO cI L f FA kd st tn mn cx cy q) (hI : thI ft st tn kd f0 mn cx cy n) (hpl : plN ft st tn kd f0 LM m9 mn cx cy n mn1 cx1 cy1 n1) (hL : lim.toInt = ((LM : Nat) : Int)) (hX : ∀ j, j < n → X j = cF40 cx f0 j ∧ Y j = cF40 cy f0 j) (hn : n ≤ cap ∧ cap ≤ 40) (hcd : 40 ≤ cd ∧ cd ≤ 1000) (hm0 : m9 = 0) : zM l yX10_thin cX10_thin 6 (some .int) ({ frames := 6, cells := 0, slots := 0, locals := 157 } : Room) [.ref x, .ref fe, .int lim] (dC, dI) (zTy cI cZ cF) ([(oc8 x (.ref sh) (.ref lw) (.ref ro) (.ref bq) (.ref bp) (.ref dq) (.ref dp) (.ref lv) (.ref sl) ds sd ul su), (oc3 lw (.ref dr) (.ref tg) (.ref wy) (.ref br) (.ref bo) (.ref aa)), (oc6 tg (.ref tx) (.ref ty) (nI nt) rt), (oa tx cI 3 TX), (oa ty cI 3 TY), (oc6 wy (.ref wx) (.ref wz) (nI nw) rw), (oa wx cI 2 WX), (oa wz cI 2 WY), (oc6 dr (.ref dx) (.ref dy) (nI nd) rd), (oa dx cI cd P), (oa dy cI cd Q), (oc0 br b1 b2 b3 b4), (oc0 bo b5 b6 b7 b8), (oa aa cI 40 AR), (oc7 sh (.ref fa) (nI ft)), (oq fa cF 200 FA), (oc1 fe rk9 wd9 tw9 pa9 pb9 (.ref lo) (.ref lk) fm9), (oc4 lk (kd f0) (st f0) (.ref r) gb9 jt9 (nI wn)), (oc6 r (.ref rx) (.ref ry) (nI n) (rgK (kd f0).toInt)), (oa rx cI cap X), (oa ry cI cap Y)] ++ va_pl L f) sz (some (.int 0)) (fun A t => ∃ (nt1 : Nat), ∃ (TX1 : Nat → Int32), ∃ (TY1 : Nat → Int32), ∃ (rt1 : Int32), ∃ (nw1 : Nat), ∃ (WX1 : Nat → Int32), ∃ (WY1 : Nat → Int32), ∃ (rw1 : Int32), ∃ (nd1 : Nat), ∃ (P1 : Nat → Int32), ∃ (Q1 : Nat → Int32), ∃ (rd1 : Int32), ∃ (d5 : Int32), ∃ (d6 : Int32), ∃ (d7 : Int32), ∃ (d8 : Int32), ∃ (e5 : Int32), ∃ (e6 : Int32), ∃ (e7 : Int32), ∃ (e8 : Int32), ∃ (AR1 : Nat → Int32), zPD (dC, dI) classes A ([(oc8 x (.ref sh) (.ref lw) (.ref ro) (.ref bq) (.ref bp) (.ref dq) (.ref dp) (.ref lv) (.ref sl) ds sd ul su), (oc3 lw (.ref dr) (.ref tg) (.ref wy) (.ref br) (.ref bo) (.ref aa)), (oc6 tg (.ref tx) (.ref ty) (nI nt1) rt1), (oa tx cI 3 TX1), (oa ty cI 3 TY1), (oc6 wy (.ref wx) (.ref wz) (nI nw1) rw1), (oa wx cI 2 WX1), (oa wz cI 2 WY1), (oc6 dr (.ref dx) (.ref dy) (nI nd1) rd1), (oa dx cI cd P1), (oa dy cI cd Q1), (oc0 br d5 d6 d7 d8), (oc0 bo e5 e6 e7 e8), (oa aa cI 40 AR1), (oc7 sh (.ref fa) (nI ft)), (oq fa cF 200 FA), (oc1 fe rk9 wd9 tw9 pa9 pb9 (.ref lo) (.ref lk) fm9), (oc4 lk (kd f0) (st f0) (.ref r) gb9 jt9 (nI wn)), (oc6 r (.ref rx) (.ref ry) (nI n) (rgK (kd f0).toInt)), (oa rx cI cap X), (oa ry cI cap Y)] ++ va_pl L f) t.heap) 0 0 := by
  refine zIn (own := "ScaleShop") (loc := [(0, .ref x), (1, .ref fe), (2, .int lim)]) rfl rfl rfl rfl (fun p e s m below meth c hx hb hr hts hown hlocks hml hnm9 A hA hS hP hD hK hXN Q9 hQ9 ls hl => ?_)
  refine lv_iconst (v := 0) hx hb dX10_thin_0 rfl ?_
  refine lv_istore_n (lv' := [(3, .int 0), (0, .ref x), (1, .ref fe), (2, .int lim)]) hx hb dX10_thin_1 rfl hl (Nat.le_of_ble_eq_true rfl) rfl (fun ls hl => ?_)
  refine lv_iconst (v := 0) hx hb dX10_thin_2 rfl ?_
  refine lv_istore (lv' := [(4, .int 0), (3, .int 0), (0, .ref x), (1, .ref fe), (2, .int lim)]) hx hb dX10_thin_3 hl (Nat.le_of_ble_eq_true rfl) rfl (fun ls hl => ?_)
  refine lv_iload hx hb dX10_thin_5 (lv_at hl 0 rfl) ?_
  refine lv_bipush (v := 40) hx hb dX10_thin_7 rfl ?_
  refine lv_icmp_ge (tgt := 51) hx hb dX10_thin_9 rfl (fun c_1 => ?_) (fun c_1 => ?_)
  · exact absurd c_1 (by decide)
  · have hIj := hI
    have hplj := hpl
    have hXj := hX
    have hoj := othE_0 f0 mn cx cy
    have hvwj := hvw
    have hwfj := hI.1.2.2.2.1
    have hpj := hI.1.2.2.1
    have h2j := hI.2.2.2.2.1
    have hpx2 : pls n X Y := (pls_cg hX).mpr hpj
    refine lv_aload_n hx hb dX10_thin_12 rfl (lv_at hl 2 rfl) ?_
    refine va_get (D := (dC, dI)) (ci := 8) (v := .ref lw) (C := RX10) (T := TX10) (N := 13) hx hb hts inX10 hown hK hP 0 rfl rfl 1 (Nat.le_of_ble_eq_true rfl) (hts _ mw_310) (fun _ h9 => h9) rfl dX10_thin_13 ?_
    rcases th_r hIj with ⟨h3, hno3⟩ | ⟨h3, hr3⟩
    · skip
      refine lv_aload_n hx hb dX10_thin_16 rfl (lv_at hl 2 rfl) ?_
      refine va_get (D := (dC, dI)) (ci := 8) (v := .ref sh) (C := RX10) (T := TX10) (N := 13) hx hb hts inX10 hown hK hP 0 rfl rfl 0 (Nat.le_of_ble_eq_true rfl) (hts _ mw_309) (fun _ h9 => h9) rfl dX10_thin_17 ?_
      refine lv_aload_n hx hb dX10_thin_20 rfl (lv_at hl 3 rfl) ?_
      refine lv_iload_n hx hb dX10_thin_21 rfl (lv_at hl 4 rfl) ?_
      obtain ⟨hPc, hDc, hFc, hI1⟩ := zi_part (cx := [_, _, _, _, _, _, _, _, _, _, _, _, _, _, _, _, _, _, _, _]) hP hD hS hA [1, 2, 3, 4, 5, 6, 7, 8, 9, 10, 11, 12, 13, 14, 15, 16, 17, 18, 19, 20] (by decide +kernel) rfl
      refine zcall (st1 := [.int (-1)]) (va_runV (As := [.ref sh, .ref fe, .int lim]) (rest := []) ⟨hx, hb, hml, hown, hts⟩ (k_Law_cornerThatGoes_3 l dC dI cI cZ cF s.heap.size lw dr tg wy br bo aa tx ty nt TX TY rt wx wz nw WX WY rw dx dy nd cd P Q rd b1 b2 b3 b4 b5 b6 b7 b8 AR sh fa ft FA fe lo rk9 wd9 tw9 pa9 pb9 lk (kd f0) (st f0) gb9 jt9 (nI wn) r rx ry n cap X Y (rgK (kd f0).toInt) f0 fm9 L f kd st tn mn cx cy lim (by first | with_reducible assumption | omega) (by first | with_reducible assumption | omega) (hFA) (hIj.2.2.2.2.2.2.2.1) (hvwj) (hwfj) (hIj.2.2.1) (by first | with_reducible assumption | omega) (by first | with_reducible assumption | omega) (hpx2) (rgK_01 _) (by first | with_reducible assumption | omega) (by first | with_reducible assumption | omega) (h3)) (csV_78 hts rfl rfl ⟨Nat.le_of_ble_eq_true rfl, Nat.le_of_ble_eq_true rfl⟩) (zPV2 (q0 := 0) (ci := 3) hPc hDc hK hXN rfl rfl) rfl rfl hl.1 rfl (lv_room (Nat.le_of_ble_eq_true rfl)) dX10_thin_22 ⟨Nat.le_of_ble_eq_true rfl, Nat.le_of_ble_eq_true rfl⟩) hS hFc hFc rfl (fun t H locs ht hB hk1 hS => ?_)
      obtain ⟨hP1, hD1⟩ := hB
      rw [ht] at hP1
      replace hP := z0 hP hD hk1 hP1 hI1
      clear hk1 hPc hDc hFc hP1 hD1 ht hI1
      refine lv_istore (lv' := [(5, .int (-1)), (4, .int 0), (3, .int 0), (0, .ref x), (1, .ref fe), (2, .int lim)]) hx hb dX10_thin_25 hl (Nat.le_of_ble_eq_true rfl) rfl (fun ls hl => ?_)
      refine lv_iload hx hb dX10_thin_27 (lv_at hl 0 rfl) ?_
      refine lv_iconst (v := (-1)) hx hb dX10_thin_29 rfl ?_
      refine lv_icmp_ne (tgt := 36) hx hb dX10_thin_30 rfl (fun c_2 => ?_) (fun c_2 => ?_)
      · exact absurd (by decide) c_2
      · refine lv_goto (tgt := 51) hx hb dX10_thin_33 rfl ?_
        refine lv_iload_n hx hb dX10_thin_51 rfl (lv_at hl 2 rfl) ?_
        obtain ⟨hP9, hD9⟩ := zu_part (cx := [_, _, _, _, _, _, _, _, _, _, _, _, _, _, _, _, _, _, _, _, _]) hP hD [true, true, true, true, true, true, true, true, true, true, true, true, true, true, true, true, true, true, true, true, true] rfl rfl
        rw [hQ9]
        exact W.iret (v := 0) hx hb hr (fun t ht hW => ⟨⟨rfl, nt, TX, TY, rt, nw, WX, WY, rw, nd, P, Q, rd, b1, b2, b3, b4, b5, b6, b7, b8, AR, by rw [ht]; exact hP9, hD9⟩, hS.F ht⟩) hS.2.2 dX10_thin_52
    · skip
      refine lv_aload_n hx hb dX10_thin_16 rfl (lv_at hl 2 rfl) ?_
      refine va_get (D := (dC, dI)) (ci := 8) (v := .ref sh) (C := RX10) (T := TX10) (N := 13) hx hb hts inX10 hown hK hP 0 rfl rfl 0 (Nat.le_of_ble_eq_true rfl) (hts _ mw_309) (fun _ h9 => h9) rfl dX10_thin_17 ?_
      refine lv_aload_n hx hb dX10_thin_20 rfl (lv_at hl 3 rfl) ?_
      refine lv_iload_n hx hb dX10_thin_21 rfl (lv_at hl 4 rfl) ?_
      obtain ⟨hPc, hDc, hFc⟩ := zo_part (cx := [_, _, _, _, _, _, _, _, _, _, _, _, _, _, _, _, _, _, _, _]) hP hD hS hA [1, 2, 3, 4, 5, 6, 7, 8, 9, 10, 11, 12, 13, 14, 15, 16, 17, 18, 19, 20] (by decide +kernel) rfl
      refine zcalle (va_runV (As := [.ref sh, .ref fe, .int lim]) (rest := []) ⟨hx, hb, hml, hown, hts⟩ (k_Law_cornerThatGoes l dC dI cI cZ cF s.heap.size lw dr tg wy br bo aa tx ty nt TX TY rt wx wz nw WX WY rw dx dy nd cd P Q rd b1 b2 b3 b4 b5 b6 b7 b8 AR sh fa ft FA fe lo rk9 wd9 tw9 pa9 pb9 lk (kd f0) (st f0) gb9 jt9 (nI wn) r rx ry n cap X Y (rgK (kd f0).toInt) f0 fm9 L f kd st tn mn cx cy lim (by first | with_reducible assumption | omega) (by first | with_reducible assumption | omega) (hFA) (hIj.2.2.2.2.2.2.2.1) (hvwj) (hwfj) (hIj.2.2.1) (by first | with_reducible assumption | omega) (by first | with_reducible assumption | omega) (hpx2) (rgK_01 _) (by first | with_reducible assumption | omega) (by first | with_reducible assumption | omega) (h3)) (csV_78 hts rfl rfl ⟨Nat.le_of_ble_eq_true rfl, Nat.le_of_ble_eq_true rfl⟩) (zPV2 (q0 := 0) (ci := 3) hPc hDc hK hXN rfl rfl) rfl rfl hl.1 rfl (lv_room (Nat.le_of_ble_eq_true rfl)) dX10_thin_22 ⟨Nat.le_of_ble_eq_true rfl, Nat.le_of_ble_eq_true rfl⟩) hS hFc hFc (fun v9 t H locs ht hB hk1 hS => ?_)
      obtain ⟨zb5, nt6, TX6, TY6, rt6, nw6, WX6, WY6, rw6, nd6, P6, Q6, rd6, g06, g16, g26, g36, g46, g56, g66, g76, AR6, rfl, hbs5, hP1, hD1⟩ := hB
      refine W.eq (g2 := F0 m 25 ls [.int zb5]) rfl ?_
      rw [ht] at hP1
      obtain ⟨hP, hD⟩ := znP (W2 := [_, _, (oc6 tg (.ref tx) (.ref ty) (nI nt6) rt6), (oa tx cI 3 TX6), (oa ty cI 3 TY6), (oc6 wy (.ref wx) (.ref wz) (nI nw6) rw6), (oa wx cI 2 WX6), (oa wz cI 2 WY6), (oc6 dr (.ref dx) (.ref dy) (nI nd6) rd6), (oa dx cI cd P6), (oa dy cI cd Q6), (oc0 br g06 g16 g26 g36), (oc0 bo g46 g56 g66 g76), (oa aa cI 40 AR6), _, _, _, _, _, _, _]) hP hD hk1 hFc hP1 hD1 zl_41 [true] zl_46 zl_41 (by decide +kernel) rfl rfl rfl rfl rfl
      clear hk1 hPc hDc hFc hP1 hD1 ht
      refine lv_istore (lv' := [(5, .int zb5), (4, .int 0), (3, .int 0), (0, .ref x), (1, .ref fe), (2, .int lim)]) hx hb dX10_thin_25 hl (Nat.le_of_ble_eq_true rfl) rfl (fun ls hl => ?_)
      refine lv_iload hx hb dX10_thin_27 (lv_at hl 0 rfl) ?_
      refine lv_iconst (v := (-1)) hx hb dX10_thin_29 rfl ?_
      refine lv_icmp_ne (tgt := 36) hx hb dX10_thin_30 rfl (fun c_3 => ?_) (fun c_3 => ?_)
      · have c_3 : ¬ zb5.toInt = (-1) := zc_ne rfl rfl c_3
        obtain ⟨k5, hz5, hbest⟩ := (thB hIj (by omega) hL hXj hr3 hwfj hbs5).resolve_left (fun h9 => by omega)
        obtain ⟨m8, hm8, hplr⟩ := pl_go hplj hbest
        have hk5 := hbest.1
        exfalso; omega
      · have c_3 : zb5.toInt = (-1) := zc_eq rfl rfl c_3
        refine lv_goto (tgt := 51) hx hb dX10_thin_33 rfl ?_
        refine lv_iload_n hx hb dX10_thin_51 rfl (lv_at hl 2 rfl) ?_
        obtain ⟨hP9, hD9⟩ := zu_part (cx := [_, _, _, _, _, _, _, _, _, _, _, _, _, _, _, _, _, _, _, _, _]) hP hD [true, true, true, true, true, true, true, true, true, true, true, true, true, true, true, true, true, true, true, true, true] rfl rfl
        rw [hQ9]
        exact W.iret (v := 0) hx hb hr (fun t ht hW => ⟨⟨rfl, nt6, TX6, TY6, rt6, nw6, WX6, WY6, rw6, nd6, P6, Q6, rd6, g06, g16, g26, g36, g46, g56, g66, g76, AR6, by rw [ht]; exact hP9, hD9⟩, hS.F ht⟩) hS.2.2 dX10_thin_52
set_option maxHeartbeats 4000000 in
set_option maxRecDepth 100000 in
theorem k_thin_y (l : Launch) (dC : Nat → ClassId) (dI : Nat → Nat → Nat) (cI cZ cF : ClassId) (sz : Nat) (x : Nat) (ro : Nat) (bq : Nat) (bp : Nat) (dq : Nat) (dp : Nat) (lv : Nat) (sl : Nat) (ds : Int32) (sd : Int32) (ul : Int32) (su : Int32) (lw : Nat) (dr : Nat) (tg : Nat) (wy : Nat) (br : Nat) (bo : Nat) (aa : Nat) (tx : Nat) (ty : Nat) (nt : Nat) (TX : Nat → Int32) (TY : Nat → Int32) (rt : Int32) (wx : Nat) (wz : Nat) (nw : Nat) (WX : Nat → Int32) (WY : Nat → Int32) (rw : Int32) (dx : Nat) (dy : Nat) (nd : Nat) (cd : Nat) (P : Nat → Int32) (Q : Nat → Int32) (rd : Int32) (b1 : Int32) (b2 : Int32) (b3 : Int32) (b4 : Int32) (b5 : Int32) (b6 : Int32) (b7 : Int32) (b8 : Int32) (AR : Nat → Int32) (sh : Nat) (fa : Nat) (ft : Nat) (FA : Nat → Option Nat) (fe : Nat) (lo : Nat) (rk9 : Int32) (wd9 : Int32) (tw9 : Int32) (pa9 : Int32) (pb9 : Int32) (lk : Nat) (gb9 : Int32) (jt9 : Int32) (r : Nat) (rx : Nat) (ry : Nat) (n : Nat) (cap : Nat) (X : Nat → Int32) (Y : Nat → Int32) (ln9 : Nat) (cl9 : Nat) (lx : Nat) (ly : Nat) (LX : Nat → Int32) (LY : Nat → Int32) (f0 : Nat) (wn : Nat) (LM : Nat) (m9 : Nat) (n1 : Nat) (L : List Nat) (f : Nat → va_E) (kd : Nat → Int32) (st : Nat → Int32) (tn : Nat → Int32) (mn : Nat → Int32) (cx : Nat → Int32) (cy : Nat → Int32) (mn1 : Nat → Int32) (cx1 : Nat → Int32) (cy1 : Nat → Int32) (lim : Int32) (h200 : ft ≤ 200) (hf0 : f0 < ft) (hFA : FA f0 = some fe) (hvw : ∀ q, q < ft → q ≠ f0 → vwO cI L f FA kd st tn mn cx cy q) (hI : thI ft st tn kd f0 mn cx cy n) (hpl : plN ft st tn kd f0 LM m9 mn cx cy n mn1 cx1 cy1 n1) (hL : lim.toInt = ((LM : Nat) : Int)) (hX : ∀ j, j < n → X j = cF40 cx f0 j ∧ Y j = cF40 cy f0 j) (hn : n ≤ cap ∧ cap ≤ 40) (hcd : 40 ≤ cd ∧ cd ≤ 1000) (hwl : wn + n ≤ cl9 ∧ cl9 ≤ 1000) (hds : dsR n X Y) (hwln : wn ≤ ln9) (hm1 : 1 ≤ m9) : zM l yX10_thin cX10_thin 6 (some .int) ({ frames := 6, cells := 4, slots := 2 * n + 10, locals := 157 } : Room) [.ref x, .ref fe, .int lim] (dC, dI) (zTy cI cZ cF) ([(oc8 x (.ref sh) (.ref lw) (.ref ro) (.ref bq) (.ref bp) (.ref dq) (.ref dp) (.ref lv) (.ref sl) ds sd ul su), (oc3 lw (.ref dr) (.ref tg) (.ref wy) (.ref br) (.ref bo) (.ref aa)), (oc6 tg (.ref tx) (.ref ty) (nI nt) rt), (oa tx cI 3 TX), (oa ty cI 3 TY), (oc6 wy (.ref wx) (.ref wz) (nI nw) rw), (oa wx cI 2 WX), (oa wz cI 2 WY), (oc6 dr (.ref dx) (.ref dy) (nI nd) rd), (oa dx cI cd P), (oa dy cI cd Q), (oc0 br b1 b2 b3 b4), (oc0 bo b5 b6 b7 b8), (oa aa cI 40 AR), (oc7 sh (.ref fa) (nI ft)), (oq fa cF 200 FA), (oc1 fe rk9 wd9 tw9 pa9 pb9 (.ref lo) (.ref lk) .null), (oc4 lk (kd f0) (st f0) (.ref r) gb9 jt9 (nI wn)), (oc6 r (.ref rx) (.ref ry) (nI n) (rgK (kd f0).toInt)), (oa rx cI cap X), (oa ry cI cap Y), (oc6 lo (.ref lx) (.ref ly) (nI ln9) 0), (oa lx cI cl9 LX), (oa ly cI cl9 LY)] ++ va_pl L f) sz (some (.int (nI m9))) (fun A t => ∃ (q7 : Nat), ∃ (w7 : Nat), ∃ (wx7 : Nat), ∃ (wy7 : Nat), ∃ (nt1 : Nat), ∃ (TX1 : Nat → Int32), ∃ (TY1 : Nat → Int32), ∃ (rt1 : Int32), ∃ (nw1 : Nat), ∃ (WX1 : Nat → Int32), ∃ (WY1 : Nat → Int32), ∃ (rw1 : Int32), ∃ (nd1 : Nat), ∃ (P1 : Nat → Int32), ∃ (Q1 : Nat → Int32), ∃ (rd1 : Int32), ∃ (d5 : Int32), ∃ (d6 : Int32), ∃ (d7 : Int32), ∃ (d8 : Int32), ∃ (e5 : Int32), ∃ (e6 : Int32), ∃ (e7 : Int32), ∃ (e8 : Int32), ∃ (AR1 : Nat → Int32), ∃ (X2 : Nat → Int32), ∃ (Y2 : Nat → Int32), ∃ (LX2 : Nat → Int32), ∃ (LY2 : Nat → Int32), ∃ (lc2 : Nat), (∀ j, j < n1 → X2 j = cF40 cx1 f0 j ∧ Y2 j = cF40 cy1 f0 j) ∧ (lc2 ≤ cl9) ∧ (lsC wn (wn + m9) LX LY LX2 LY2 n (cF40 cx f0) (cF40 cy f0) n1 (cF40 cx1 f0) (cF40 cy1 f0)) ∧ (wn + m9 ≤ lc2) ∧ zPD (dC, dI) classes A ([(oc8 x (.ref sh) (.ref lw) (.ref ro) (.ref bq) (.ref bp) (.ref dq) (.ref dp) (.ref lv) (.ref sl) ds sd ul su), (oc3 lw (.ref dr) (.ref tg) (.ref wy) (.ref br) (.ref bo) (.ref aa)), (oc6 tg (.ref tx) (.ref ty) (nI nt1) rt1), (oa tx cI 3 TX1), (oa ty cI 3 TY1), (oc6 wy (.ref wx) (.ref wz) (nI nw1) rw1), (oa wx cI 2 WX1), (oa wz cI 2 WY1), (oc6 dr (.ref dx) (.ref dy) (nI nd1) rd1), (oa dx cI cd P1), (oa dy cI cd Q1), (oc0 br d5 d6 d7 d8), (oc0 bo e5 e6 e7 e8), (oa aa cI 40 AR1), (oc7 sh (.ref fa) (nI ft)), (oq fa cF 200 FA), (oc1 fe rk9 wd9 tw9 pa9 pb9 (.ref lo) (.ref q7) (.ref lk)), (oc4 lk (kd f0) (st f0) (.ref r) gb9 jt9 (nI wn)), (oc6 r (.ref rx) (.ref ry) (nI n) (rgK (kd f0).toInt)), (oa rx cI cap X), (oa ry cI cap Y), (oc4 q7 (kd f0) (st f0) (.ref w7) gb9 jt9 (nI (wn + m9))), (oc6 w7 (.ref wx7) (.ref wy7) (nI n1) (rgK (kd f0).toInt)), (oa wx7 cI n X2), (oa wy7 cI n Y2), (oc6 lo (.ref lx) (.ref ly) (nI lc2) 0), (oa lx cI cl9 LX2), (oa ly cI cl9 LY2)] ++ va_pl L f) t.heap) 4 (2 * n + 10) := by
  refine zIn (own := "ScaleShop") (loc := [(0, .ref x), (1, .ref fe), (2, .int lim)]) rfl rfl rfl rfl (fun p e s m below meth c hx hb hr hts hown hlocks hml hnm9 A hA hS hP hD hK hXN Q9 hQ9 ls hl => ?_)
  refine lv_iconst (v := 0) hx hb dX10_thin_0 rfl ?_
  refine lv_istore_n (lv' := [(3, .int 0), (0, .ref x), (1, .ref fe), (2, .int lim)]) hx hb dX10_thin_1 rfl hl (Nat.le_of_ble_eq_true rfl) rfl (fun ls hl => ?_)
  refine lv_iconst (v := 0) hx hb dX10_thin_2 rfl ?_
  refine lv_istore (lv' := [(4, .int 0), (3, .int 0), (0, .ref x), (1, .ref fe), (2, .int lim)]) hx hb dX10_thin_3 hl (Nat.le_of_ble_eq_true rfl) rfl (fun ls hl => ?_)
  refine lv_iload hx hb dX10_thin_5 (lv_at hl 0 rfl) ?_
  refine lv_bipush (v := 40) hx hb dX10_thin_7 rfl ?_
  refine lv_icmp_ge (tgt := 51) hx hb dX10_thin_9 rfl (fun c_1 => ?_) (fun c_1 => ?_)
  · exact absurd c_1 (by decide)
  · have hIj := hI
    have hplj := hpl
    have hXj := hX
    have hoj := othE_0 f0 mn cx cy
    have hvwj := hvw
    have hwfj := hI.1.2.2.2.1
    have hpj := hI.1.2.2.1
    have h2j := hI.2.2.2.2.1
    have hpx2 : pls n X Y := (pls_cg hX).mpr hpj
    have hlSj := lsC_0 (a := wn) (A := LX) (B := LY) hds
    refine lv_aload_n hx hb dX10_thin_12 rfl (lv_at hl 2 rfl) ?_
    refine va_get (D := (dC, dI)) (ci := 8) (v := .ref lw) (C := RX10) (T := TX10) (N := 13) hx hb hts inX10 hown hK hP 0 rfl rfl 1 (Nat.le_of_ble_eq_true rfl) (hts _ mw_310) (fun _ h9 => h9) rfl dX10_thin_13 ?_
    rcases th_r hIj with ⟨h3, hno3⟩ | ⟨h3, hr3⟩
    · skip
      refine lv_aload_n hx hb dX10_thin_16 rfl (lv_at hl 2 rfl) ?_
      refine va_get (D := (dC, dI)) (ci := 8) (v := .ref sh) (C := RX10) (T := TX10) (N := 13) hx hb hts inX10 hown hK hP 0 rfl rfl 0 (Nat.le_of_ble_eq_true rfl) (hts _ mw_309) (fun _ h9 => h9) rfl dX10_thin_17 ?_
      refine lv_aload_n hx hb dX10_thin_20 rfl (lv_at hl 3 rfl) ?_
      refine lv_iload_n hx hb dX10_thin_21 rfl (lv_at hl 4 rfl) ?_
      obtain ⟨hPc, hDc, hFc, hI1⟩ := zi_part (cx := [_, _, _, _, _, _, _, _, _, _, _, _, _, _, _, _, _, _, _, _]) hP hD hS hA [1, 2, 3, 4, 5, 6, 7, 8, 9, 10, 11, 12, 13, 14, 15, 16, 17, 18, 19, 20] (by decide +kernel) rfl
      refine zcall (st1 := [.int (-1)]) (va_runV (As := [.ref sh, .ref fe, .int lim]) (rest := []) ⟨hx, hb, hml, hown, hts⟩ (k_Law_cornerThatGoes_3 l dC dI cI cZ cF s.heap.size lw dr tg wy br bo aa tx ty nt TX TY rt wx wz nw WX WY rw dx dy nd cd P Q rd b1 b2 b3 b4 b5 b6 b7 b8 AR sh fa ft FA fe lo rk9 wd9 tw9 pa9 pb9 lk (kd f0) (st f0) gb9 jt9 (nI wn) r rx ry n cap X Y (rgK (kd f0).toInt) f0 (.null) L f kd st tn mn cx cy lim (by first | with_reducible assumption | omega) (by first | with_reducible assumption | omega) (hFA) (hIj.2.2.2.2.2.2.2.1) (hvwj) (hwfj) (hIj.2.2.1) (by first | with_reducible assumption | omega) (by first | with_reducible assumption | omega) (hpx2) (rgK_01 _) (by first | with_reducible assumption | omega) (by first | with_reducible assumption | omega) (h3)) (csV_78 hts rfl rfl ⟨Nat.le_of_ble_eq_true rfl, Nat.le_of_ble_eq_true rfl⟩) (zPV2 (q0 := 0) (ci := 3) hPc hDc hK hXN rfl rfl) rfl rfl hl.1 rfl (lv_room (Nat.le_of_ble_eq_true rfl)) dX10_thin_22 ⟨Nat.zero_le _, Nat.zero_le _⟩) hS hFc hFc rfl (fun t H locs ht hB hk1 hS => ?_)
      obtain ⟨hP1, hD1⟩ := hB
      rw [ht] at hP1
      replace hP := z0 hP hD hk1 hP1 hI1
      clear hk1 hPc hDc hFc hP1 hD1 ht hI1
      refine lv_istore (lv' := [(5, .int (-1)), (4, .int 0), (3, .int 0), (0, .ref x), (1, .ref fe), (2, .int lim)]) hx hb dX10_thin_25 hl (Nat.le_of_ble_eq_true rfl) rfl (fun ls hl => ?_)
      refine lv_iload hx hb dX10_thin_27 (lv_at hl 0 rfl) ?_
      refine lv_iconst (v := (-1)) hx hb dX10_thin_29 rfl ?_
      refine lv_icmp_ne (tgt := 36) hx hb dX10_thin_30 rfl (fun c_2 => ?_) (fun c_2 => ?_)
      · exact absurd (by decide) c_2
      · refine lv_goto (tgt := 51) hx hb dX10_thin_33 rfl ?_
        have hz9 := pl_no hplj (hno3 LM)
        exfalso; omega
    · skip
      refine lv_aload_n hx hb dX10_thin_16 rfl (lv_at hl 2 rfl) ?_
      refine va_get (D := (dC, dI)) (ci := 8) (v := .ref sh) (C := RX10) (T := TX10) (N := 13) hx hb hts inX10 hown hK hP 0 rfl rfl 0 (Nat.le_of_ble_eq_true rfl) (hts _ mw_309) (fun _ h9 => h9) rfl dX10_thin_17 ?_
      refine lv_aload_n hx hb dX10_thin_20 rfl (lv_at hl 3 rfl) ?_
      refine lv_iload_n hx hb dX10_thin_21 rfl (lv_at hl 4 rfl) ?_
      obtain ⟨hPc, hDc, hFc⟩ := zo_part (cx := [_, _, _, _, _, _, _, _, _, _, _, _, _, _, _, _, _, _, _, _]) hP hD hS hA [1, 2, 3, 4, 5, 6, 7, 8, 9, 10, 11, 12, 13, 14, 15, 16, 17, 18, 19, 20] (by decide +kernel) rfl
      refine zcalle (va_runV (As := [.ref sh, .ref fe, .int lim]) (rest := []) ⟨hx, hb, hml, hown, hts⟩ (k_Law_cornerThatGoes l dC dI cI cZ cF s.heap.size lw dr tg wy br bo aa tx ty nt TX TY rt wx wz nw WX WY rw dx dy nd cd P Q rd b1 b2 b3 b4 b5 b6 b7 b8 AR sh fa ft FA fe lo rk9 wd9 tw9 pa9 pb9 lk (kd f0) (st f0) gb9 jt9 (nI wn) r rx ry n cap X Y (rgK (kd f0).toInt) f0 (.null) L f kd st tn mn cx cy lim (by first | with_reducible assumption | omega) (by first | with_reducible assumption | omega) (hFA) (hIj.2.2.2.2.2.2.2.1) (hvwj) (hwfj) (hIj.2.2.1) (by first | with_reducible assumption | omega) (by first | with_reducible assumption | omega) (hpx2) (rgK_01 _) (by first | with_reducible assumption | omega) (by first | with_reducible assumption | omega) (h3)) (csV_78 hts rfl rfl ⟨Nat.le_of_ble_eq_true rfl, Nat.le_of_ble_eq_true rfl⟩) (zPV2 (q0 := 0) (ci := 3) hPc hDc hK hXN rfl rfl) rfl rfl hl.1 rfl (lv_room (Nat.le_of_ble_eq_true rfl)) dX10_thin_22 ⟨Nat.zero_le _, Nat.zero_le _⟩) hS hFc hFc (fun v9 t H locs ht hB hk1 hS => ?_)
      obtain ⟨zb5, nt6, TX6, TY6, rt6, nw6, WX6, WY6, rw6, nd6, P6, Q6, rd6, g06, g16, g26, g36, g46, g56, g66, g76, AR6, rfl, hbs5, hP1, hD1⟩ := hB
      refine W.eq (g2 := F0 m 25 ls [.int zb5]) rfl ?_
      rw [ht] at hP1
      obtain ⟨hP, hD⟩ := znP (W2 := [_, _, (oc6 tg (.ref tx) (.ref ty) (nI nt6) rt6), (oa tx cI 3 TX6), (oa ty cI 3 TY6), (oc6 wy (.ref wx) (.ref wz) (nI nw6) rw6), (oa wx cI 2 WX6), (oa wz cI 2 WY6), (oc6 dr (.ref dx) (.ref dy) (nI nd6) rd6), (oa dx cI cd P6), (oa dy cI cd Q6), (oc0 br g06 g16 g26 g36), (oc0 bo g46 g56 g66 g76), (oa aa cI 40 AR6), _, _, _, _, _, _, _, _, _, _]) hP hD hk1 hFc hP1 hD1 zl_41 zl_42 zl_42 zl_41 (by decide +kernel) rfl rfl rfl rfl rfl
      clear hk1 hPc hDc hFc hP1 hD1 ht
      refine lv_istore (lv' := [(5, .int zb5), (4, .int 0), (3, .int 0), (0, .ref x), (1, .ref fe), (2, .int lim)]) hx hb dX10_thin_25 hl (Nat.le_of_ble_eq_true rfl) rfl (fun ls hl => ?_)
      refine lv_iload hx hb dX10_thin_27 (lv_at hl 0 rfl) ?_
      refine lv_iconst (v := (-1)) hx hb dX10_thin_29 rfl ?_
      refine lv_icmp_ne (tgt := 36) hx hb dX10_thin_30 rfl (fun c_3 => ?_) (fun c_3 => ?_)
      · have c_3 : ¬ zb5.toInt = (-1) := zc_ne rfl rfl c_3
        obtain ⟨k5, hz5, hbest⟩ := (thB hIj (by omega) hL hXj hr3 hwfj hbs5).resolve_left (fun h9 => by omega)
        obtain ⟨m8, hm8, hplr⟩ := pl_go hplj hbest
        have hk5 := hbest.1
        refine lv_aload_n hx hb dX10_thin_36 rfl (lv_at hl 4 rfl) ?_
        refine lv_iload hx hb dX10_thin_37 (lv_at hl 0 rfl) ?_
        refine zz_i (v := nI k5) (hz5) ?_
        obtain ⟨hPc, hDc, hFc⟩ := zo_sub (wc := [_, _, _, _, _, _, _, _]) hP hD hS hA [16, 17, 18, 19, 20, 21, 22, 23] (by decide +kernel) rfl
        refine zcall (st1 := []) (va_runV (As := [.int (nI k5)]) (rest := []) ⟨hx, hb, hml, hown, hts⟩ (k_Feature_lose l dC dI cI cZ cF H.size fe lo rk9 wd9 tw9 pa9 pb9 lk (kd f0) (st f0) gb9 jt9 k5 wn r rx ry n cap X Y (rgK (kd f0).toInt) lx ly ln9 cl9 LX LY (by first | with_reducible assumption | omega) (by first | with_reducible assumption | omega) (by first | with_reducible assumption | omega) (by first | with_reducible assumption | omega) (by first | with_reducible assumption | omega) (rgK_01 _)) (csV_79 hts rfl rfl ⟨Nat.le_of_ble_eq_true rfl, Nat.le_of_ble_eq_true rfl⟩) (zPV2 (q0 := 0) (ci := 1) hPc hDc hK hXN rfl rfl) rfl rfl hl.1 rfl (lv_room (Nat.le_of_ble_eq_true rfl)) dX10_thin_39 ⟨show (0 + 4) ≤ 4 by omega, show (0 + (2 * n + 10)) ≤ 2 * n + 10 by omega⟩) hS hFc hFc rfl (fun t H locs ht hB hk1 hS => ?_)
        refine ex6 hB (fun q7 w7 wx7 wy7 X5 Y5 hB0 => ?_)
        clear hB
        obtain ⟨hlo5, hhi5, hP1, hD1⟩ := hB0
        rw [ht] at hP1
        obtain ⟨hP, hD⟩ := znQ (W2 := [_, _, _, _, _, _, _, _, _, _, _, _, _, _, _, _, (oc1 fe rk9 wd9 tw9 pa9 pb9 (.ref lo) (.ref q7) (.ref lk)), (oc4 lk (kd f0) (st f0) (.ref r) gb9 jt9 (nI wn)), (oc4 q7 (kd f0) (st f0) (.ref w7) gb9 jt9 (nI (wn + 1))), (oc6 r (.ref rx) (.ref ry) (nI n) (rgK (kd f0).toInt)), (oa rx cI cap X), (oa ry cI cap Y), (oc6 w7 (.ref wx7) (.ref wy7) (nI (n - 1)) (rgK (kd f0).toInt)), (oa wx7 cI n X5), (oa wy7 cI n Y5), (oc6 lo (.ref lx) (.ref ly) (nI (wn + 1)) 0), (oa lx cI cl9 (upd LX wn (X k5))), (oa ly cI cl9 (upd LY wn (Y k5)))]) hP hD hk1 hFc hP1 hD1 zl_43 zl_44 zl_47 zl_48 (by decide +kernel) rfl rfl rfl rfl rfl
        clear hk1 hPc hDc hFc hP1 hD1 ht
        refine lv_iinc (v := 1) (lv' := [(3, .int 1), (5, .int zb5), (4, .int 0), (0, .ref x), (1, .ref fe), (2, .int lim)]) hx hb dX10_thin_42 hl (k := 2) rfl (by decide) (Nat.le_of_ble_eq_true rfl) rfl (fun ls hl => ?_)
        refine lv_iinc (v := 1) (lv' := [(4, .int 1), (3, .int 1), (5, .int zb5), (0, .ref x), (1, .ref fe), (2, .int lim)]) hx hb dX10_thin_45 hl (k := 2) rfl (by decide) (Nat.le_of_ble_eq_true rfl) rfl (fun ls hl => ?_)
        refine lv_goto (tgt := 5) hx hb dX10_thin_48 rfl ?_
        have hl_5 : ∀ (n9 : Nat) (i5 : Nat) (w3 : Nat) (m2r : Nat) (n2 : Nat) (wn2 : Nat) (lc2 : Nat) (X2 : Nat → Int32) (Y2 : Nat → Int32) (LX2 : Nat → Int32) (LY2 : Nat → Int32) (mnj : Nat → Int32) (cxj : Nat → Int32) (cyj : Nat → Int32) (nt1 : Nat) (TX1 : Nat → Int32) (TY1 : Nat → Int32) (rt1 : Int32) (nw1 : Nat) (WX1 : Nat → Int32) (WY1 : Nat → Int32) (rw1 : Int32) (nd1 : Nat) (P1 : Nat → Int32) (Q1 : Nat → Int32) (rd1 : Int32) (d5 : Int32) (d6 : Int32) (d7 : Int32) (d8 : Int32) (e5 : Int32) (e6 : Int32) (e7 : Int32) (e8 : Int32) (AR1 : Nat → Int32) (H : Heap) (locs : List Loc) (ls : Array Slot), m2r < n9 → (thI ft st tn kd f0 mnj cxj cyj n2) → (plN ft st tn kd f0 LM m2r mnj cxj cyj n2 mn1 cx1 cy1 n1) → (∀ j, j < n2 → X2 j = cF40 cxj f0 j ∧ Y2 j = cF40 cyj f0 j) → (othE f0 mn cx cy mnj cxj cyj) → (i5 + n2 ≤ 40 ∧ n2 ≤ n ∧ wn2 + n2 ≤ cl9 ∧ n2 ≤ n) → (w3 + m2r = m9 ∧ wn2 + m2r = wn + m9) → (lc2 ≤ cl9 ∧ wn2 ≤ lc2) → (lsC wn wn2 LX LY LX2 LY2 n X Y n2 X2 Y2) → va_P (dC, dI) classes ([(oc8 x (.ref sh) (.ref lw) (.ref ro) (.ref bq) (.ref bp) (.ref dq) (.ref dp) (.ref lv) (.ref sl) ds sd ul su), (oc3 lw (.ref dr) (.ref tg) (.ref wy) (.ref br) (.ref bo) (.ref aa)), (oc6 tg (.ref tx) (.ref ty) (nI nt1) rt1), (oa tx cI 3 TX1), (oa ty cI 3 TY1), (oc6 wy (.ref wx) (.ref wz) (nI nw1) rw1), (oa wx cI 2 WX1), (oa wz cI 2 WY1), (oc6 dr (.ref dx) (.ref dy) (nI nd1) rd1), (oa dx cI cd P1), (oa dy cI cd Q1), (oc0 br d5 d6 d7 d8), (oc0 bo e5 e6 e7 e8), (oa aa cI 40 AR1), (oc7 sh (.ref fa) (nI ft)), (oq fa cF 200 FA), (oc1 fe rk9 wd9 tw9 pa9 pb9 (.ref lo) (.ref q7) (.ref lk)), (oc4 lk (kd f0) (st f0) (.ref r) gb9 jt9 (nI wn)), (oc4 q7 (kd f0) (st f0) (.ref w7) gb9 jt9 (nI wn2)), (oc6 r (.ref rx) (.ref ry) (nI n) (rgK (kd f0).toInt)), (oa rx cI cap X), (oa ry cI cap Y), (oc6 w7 (.ref wx7) (.ref wy7) (nI n2) (rgK (kd f0).toInt)), (oa wx7 cI n X2), (oa wy7 cI n Y2), (oc6 lo (.ref lx) (.ref ly) (nI lc2) 0), (oa lx cI cl9 LX2), (oa ly cI cl9 LY2)] ++ va_pl L f) H → va_D A ([(oc8 x (.ref sh) (.ref lw) (.ref ro) (.ref bq) (.ref bp) (.ref dq) (.ref dp) (.ref lv) (.ref sl) ds sd ul su), (oc3 lw (.ref dr) (.ref tg) (.ref wy) (.ref br) (.ref bo) (.ref aa)), (oc6 tg (.ref tx) (.ref ty) (nI nt1) rt1), (oa tx cI 3 TX1), (oa ty cI 3 TY1), (oc6 wy (.ref wx) (.ref wz) (nI nw1) rw1), (oa wx cI 2 WX1), (oa wz cI 2 WY1), (oc6 dr (.ref dx) (.ref dy) (nI nd1) rd1), (oa dx cI cd P1), (oa dy cI cd Q1), (oc0 br d5 d6 d7 d8), (oc0 bo e5 e6 e7 e8), (oa aa cI 40 AR1), (oc7 sh (.ref fa) (nI ft)), (oq fa cF 200 FA), (oc1 fe rk9 wd9 tw9 pa9 pb9 (.ref lo) (.ref q7) (.ref lk)), (oc4 lk (kd f0) (st f0) (.ref r) gb9 jt9 (nI wn)), (oc4 q7 (kd f0) (st f0) (.ref w7) gb9 jt9 (nI wn2)), (oc6 r (.ref rx) (.ref ry) (nI n) (rgK (kd f0).toInt)), (oa rx cI cap X), (oa ry cI cap Y), (oc6 w7 (.ref wx7) (.ref wy7) (nI n2) (rgK (kd f0).toInt)), (oa wx7 cI n X2), (oa wy7 cI n Y2), (oc6 lo (.ref lx) (.ref ly) (nI lc2) 0), (oa lx cI cl9 LX2), (oa ly cI cl9 LY2)] ++ va_pl L f) → va_S A s.heap H locs → lv_has ls 6 [(4, .int (nI i5)), (3, .int (nI w3)), (0, .ref x), (1, .ref fe), (2, .int lim)] → W p l e ({ frames := 6, cells := 4, slots := 2 * n + 10, locals := 157 } : Room) s m ([.ref x, .ref fe, .int lim] : List Value).toArray below meth c H locs (0 + 4) (0 + (2 * n + 10)) Q9 (F0 m 5 ls []) := by
          intro n9
          induction n9 with
          | zero => intro i5 w3 m2r n2 wn2 lc2 X2 Y2 LX2 LY2 mnj cxj cyj nt1 TX1 TY1 rt1 nw1 WX1 WY1 rw1 nd1 P1 Q1 rd1 d5 d6 d7 d8 e5 e6 e7 e8 AR1 H locs ls hm; exact absurd hm (Nat.not_lt_zero _)
          | succ n9 ih_5 =>
            intro i5 w3 m2r n2 wn2 lc2 X2 Y2 LX2 LY2 mnj cxj cyj nt1 TX1 TY1 rt1 nw1 WX1 WY1 rw1 nd1 P1 Q1 rd1 d5 d6 d7 d8 e5 e6 e7 e8 AR1 H locs ls hm hIj hplj hXj hoj hcn hwm hlc2 hlSj hP hD hS hl
            refine lv_iload hx hb dX10_thin_5 (lv_at hl 0 rfl) ?_
            refine lv_bipush (v := 40) hx hb dX10_thin_7 rfl ?_
            have b9_5 : zlt (i5) := show i5 < 2147483648 by omega
            refine lv_icmp_ge (tgt := 51) hx hb dX10_thin_9 rfl (fun c_4 => ?_) (fun c_4 => ?_)
            · have c_4 : 40 ≤ ((i5 : Nat) : Int) := zc_le rfl (nI_toInt b9_5) c_4
              exfalso; have h9 := hIj.2.2.2.2.1; omega
            · have c_4 : ((i5 : Nat) : Int) < 40 := zc_nle rfl (nI_toInt b9_5) c_4
              have hwfj := hIj.1.2.2.2.1
              have hpj := hIj.1.2.2.1
              have h2j := hIj.2.2.2.2.1
              have hvwj : ∀ q, q < ft → q ≠ f0 → vwO cI L f FA kd st tn mnj cxj cyj q := fun q h1 h2 => vwO_cg (hoj.1 q h2) (hoj.2 q h2) (hvw q h1 h2)
              have hpx2 : pls n2 X2 Y2 := (pls_cg hXj).mpr hpj
              refine lv_aload_n hx hb dX10_thin_12 rfl (lv_at hl 2 rfl) ?_
              refine va_get (D := (dC, dI)) (ci := 8) (v := .ref lw) (C := RX10) (T := TX10) (N := 13) hx hb hts inX10 hown hK hP 0 rfl rfl 1 (Nat.le_of_ble_eq_true rfl) (hts _ mw_310) (fun _ h9 => h9) rfl dX10_thin_13 ?_
              rcases th_r hIj with ⟨h3, hno3⟩ | ⟨h3, hr3⟩
              · skip
                refine lv_aload_n hx hb dX10_thin_16 rfl (lv_at hl 2 rfl) ?_
                refine va_get (D := (dC, dI)) (ci := 8) (v := .ref sh) (C := RX10) (T := TX10) (N := 13) hx hb hts inX10 hown hK hP 0 rfl rfl 0 (Nat.le_of_ble_eq_true rfl) (hts _ mw_309) (fun _ h9 => h9) rfl dX10_thin_17 ?_
                refine lv_aload_n hx hb dX10_thin_20 rfl (lv_at hl 3 rfl) ?_
                refine lv_iload_n hx hb dX10_thin_21 rfl (lv_at hl 4 rfl) ?_
                obtain ⟨hPc, hDc, hFc, hI1⟩ := zi_part (cx := [_, _, _, _, _, _, _, _, _, _, _, _, _, _, _, _, _, _, _, _]) hP hD hS hA [1, 2, 3, 4, 5, 6, 7, 8, 9, 10, 11, 12, 13, 14, 15, 16, 18, 22, 23, 24] (by decide +kernel) rfl
                refine zcall (st1 := [.int (-1)]) (va_runV (As := [.ref sh, .ref fe, .int lim]) (rest := []) ⟨hx, hb, hml, hown, hts⟩ (k_Law_cornerThatGoes_3 l dC dI cI cZ cF H.size lw dr tg wy br bo aa tx ty nt1 TX1 TY1 rt1 wx wz nw1 WX1 WY1 rw1 dx dy nd1 cd P1 Q1 rd1 d5 d6 d7 d8 e5 e6 e7 e8 AR1 sh fa ft FA fe lo rk9 wd9 tw9 pa9 pb9 q7 (kd f0) (st f0) gb9 jt9 (nI wn2) w7 wx7 wy7 n2 n X2 Y2 (rgK (kd f0).toInt) f0 (.ref lk) L f kd st tn mnj cxj cyj lim (by first | with_reducible assumption | omega) (by first | with_reducible assumption | omega) (hFA) (hIj.2.2.2.2.2.2.2.1) (hvwj) (hwfj) (hIj.2.2.1) (by first | with_reducible assumption | omega) (by first | with_reducible assumption | omega) (hpx2) (rgK_01 _) (by first | with_reducible assumption | omega) (by first | with_reducible assumption | omega) (h3)) (csV_78 hts rfl rfl ⟨Nat.le_of_ble_eq_true rfl, Nat.le_of_ble_eq_true rfl⟩) (zPV2 (q0 := 0) (ci := 3) hPc hDc hK hXN rfl rfl) rfl rfl hl.1 rfl (lv_room (Nat.le_of_ble_eq_true rfl)) dX10_thin_22 ⟨show (0 + 4) ≤ 4 by omega, show (0 + (2 * n + 10)) ≤ 2 * n + 10 by omega⟩) hS hFc hFc rfl (fun t H locs ht hB hk1 hS => ?_)
                obtain ⟨hP1, hD1⟩ := hB
                rw [ht] at hP1
                replace hP := z0 hP hD hk1 hP1 hI1
                clear hk1 hPc hDc hFc hP1 hD1 ht hI1
                refine lv_istore (lv' := [(5, .int (-1)), (4, .int (nI i5)), (3, .int (nI w3)), (0, .ref x), (1, .ref fe), (2, .int lim)]) hx hb dX10_thin_25 hl (Nat.le_of_ble_eq_true rfl) rfl (fun ls hl => ?_)
                refine lv_iload hx hb dX10_thin_27 (lv_at hl 0 rfl) ?_
                refine lv_iconst (v := (-1)) hx hb dX10_thin_29 rfl ?_
                refine lv_icmp_ne (tgt := 36) hx hb dX10_thin_30 rfl (fun c_6 => ?_) (fun c_6 => ?_)
                · exact absurd (by decide) c_6
                · refine lv_goto (tgt := 51) hx hb dX10_thin_33 rfl ?_
                  have hz9 := pl_no hplj (hno3 LM)
                  refine lv_iload_n hx hb dX10_thin_51 rfl (lv_at hl 2 rfl) ?_
                  obtain ⟨z0, z1, z2, z3, z4⟩ := hz9
                  obtain ⟨hP9, hD9⟩ := zq_part (cx := [(oc8 x (.ref sh) (.ref lw) (.ref ro) (.ref bq) (.ref bp) (.ref dq) (.ref dp) (.ref lv) (.ref sl) ds sd ul su), (oc3 lw (.ref dr) (.ref tg) (.ref wy) (.ref br) (.ref bo) (.ref aa)), (oc6 tg (.ref tx) (.ref ty) (nI nt1) rt1), (oa tx cI 3 TX1), (oa ty cI 3 TY1), (oc6 wy (.ref wx) (.ref wz) (nI nw1) rw1), (oa wx cI 2 WX1), (oa wz cI 2 WY1), (oc6 dr (.ref dx) (.ref dy) (nI nd1) rd1), (oa dx cI cd P1), (oa dy cI cd Q1), (oc0 br d5 d6 d7 d8), (oc0 bo e5 e6 e7 e8), (oa aa cI 40 AR1), (oc7 sh (.ref fa) (nI ft)), (oq fa cF 200 FA), (oc1 fe rk9 wd9 tw9 pa9 pb9 (.ref lo) (.ref q7) (.ref lk)), (oc4 lk (kd f0) (st f0) (.ref r) gb9 jt9 (nI wn)), (oc6 r (.ref rx) (.ref ry) (nI n) (rgK (kd f0).toInt)), (oa rx cI cap X), (oa ry cI cap Y), (oc4 q7 (kd f0) (st f0) (.ref w7) gb9 jt9 (nI wn2)), (oc6 w7 (.ref wx7) (.ref wy7) (nI n2) (rgK (kd f0).toInt)), (oa wx7 cI n X2), (oa wy7 cI n Y2), (oc6 lo (.ref lx) (.ref ly) (nI lc2) 0), (oa lx cI cl9 LX2), (oa ly cI cl9 LY2)]) hP hD [0, 1, 2, 3, 4, 5, 6, 7, 8, 9, 10, 11, 12, 13, 14, 15, 16, 17, 19, 20, 21, 18, 22, 23, 24, 25, 26, 27] rfl rfl
                  have hE9 : (([(oc8 x (.ref sh) (.ref lw) (.ref ro) (.ref bq) (.ref bp) (.ref dq) (.ref dp) (.ref lv) (.ref sl) ds sd ul su), (oc3 lw (.ref dr) (.ref tg) (.ref wy) (.ref br) (.ref bo) (.ref aa)), (oc6 tg (.ref tx) (.ref ty) (nI nt1) rt1), (oa tx cI 3 TX1), (oa ty cI 3 TY1), (oc6 wy (.ref wx) (.ref wz) (nI nw1) rw1), (oa wx cI 2 WX1), (oa wz cI 2 WY1), (oc6 dr (.ref dx) (.ref dy) (nI nd1) rd1), (oa dx cI cd P1), (oa dy cI cd Q1), (oc0 br d5 d6 d7 d8), (oc0 bo e5 e6 e7 e8), (oa aa cI 40 AR1), (oc7 sh (.ref fa) (nI ft)), (oq fa cF 200 FA), (oc1 fe rk9 wd9 tw9 pa9 pb9 (.ref lo) (.ref q7) (.ref lk)), (oc4 lk (kd f0) (st f0) (.ref r) gb9 jt9 (nI wn)), (oc6 r (.ref rx) (.ref ry) (nI n) (rgK (kd f0).toInt)), (oa rx cI cap X), (oa ry cI cap Y), (oc4 q7 (kd f0) (st f0) (.ref w7) gb9 jt9 (nI wn2)), (oc6 w7 (.ref wx7) (.ref wy7) (nI n2) (rgK (kd f0).toInt)), (oa wx7 cI n X2), (oa wy7 cI n Y2), (oc6 lo (.ref lx) (.ref ly) (nI lc2) 0), (oa lx cI cl9 LX2), (oa ly cI cl9 LY2)] ++ va_pl L f) : va_W) = ([(oc8 x (.ref sh) (.ref lw) (.ref ro) (.ref bq) (.ref bp) (.ref dq) (.ref dp) (.ref lv) (.ref sl) ds sd ul su), (oc3 lw (.ref dr) (.ref tg) (.ref wy) (.ref br) (.ref bo) (.ref aa)), (oc6 tg (.ref tx) (.ref ty) (nI nt1) rt1), (oa tx cI 3 TX1), (oa ty cI 3 TY1), (oc6 wy (.ref wx) (.ref wz) (nI nw1) rw1), (oa wx cI 2 WX1), (oa wz cI 2 WY1), (oc6 dr (.ref dx) (.ref dy) (nI nd1) rd1), (oa dx cI cd P1), (oa dy cI cd Q1), (oc0 br d5 d6 d7 d8), (oc0 bo e5 e6 e7 e8), (oa aa cI 40 AR1), (oc7 sh (.ref fa) (nI ft)), (oq fa cF 200 FA), (oc1 fe rk9 wd9 tw9 pa9 pb9 (.ref lo) (.ref q7) (.ref lk)), (oc4 lk (kd f0) (st f0) (.ref r) gb9 jt9 (nI wn)), (oc6 r (.ref rx) (.ref ry) (nI n) (rgK (kd f0).toInt)), (oa rx cI cap X), (oa ry cI cap Y), (oc4 q7 (kd f0) (st f0) (.ref w7) gb9 jt9 (nI (wn + m9))), (oc6 w7 (.ref wx7) (.ref wy7) (nI n1) (rgK (kd f0).toInt)), (oa wx7 cI n X2), (oa wy7 cI n Y2), (oc6 lo (.ref lx) (.ref ly) (nI lc2) 0), (oa lx cI cl9 LX2), (oa ly cI cl9 LY2)] ++ va_pl L f) := by rw [z4, show wn2 = wn + m9 by omega]
                  rw [hE9] at hP9 hD9
                  refine W.widen (k := 4) (n := 2 * n + 10) (by omega) (by omega) ?_
                  rw [hQ9]
                  exact W.iret (v := nI w3) hx hb hr (fun t ht hW => ⟨⟨congrArg (fun z => Outcome.returned (some (Value.int z))) (show (nI w3 : Int32) = nI m9 from zn_eq (by omega)), q7, w7, wx7, wy7, nt1, TX1, TY1, rt1, nw1, WX1, WY1, rw1, nd1, P1, Q1, rd1, d5, d6, d7, d8, e5, e6, e7, e8, AR1, X2, Y2, LX2, LY2, lc2, (fun j hj => by rw [z2, z3]; exact hXj j (by omega)), (by omega), (lsC_cg hX (fun j hj => by rw [z2, z3]; exact hXj j (by omega)) (by rw [z4, show wn + m9 = wn2 by omega]; exact hlSj)), (by omega), by rw [ht]; exact hP9, hD9⟩, hS.F ht⟩) hS.2.2 dX10_thin_52
              · skip
                refine lv_aload_n hx hb dX10_thin_16 rfl (lv_at hl 2 rfl) ?_
                refine va_get (D := (dC, dI)) (ci := 8) (v := .ref sh) (C := RX10) (T := TX10) (N := 13) hx hb hts inX10 hown hK hP 0 rfl rfl 0 (Nat.le_of_ble_eq_true rfl) (hts _ mw_309) (fun _ h9 => h9) rfl dX10_thin_17 ?_
                refine lv_aload_n hx hb dX10_thin_20 rfl (lv_at hl 3 rfl) ?_
                refine lv_iload_n hx hb dX10_thin_21 rfl (lv_at hl 4 rfl) ?_
                obtain ⟨hPc, hDc, hFc⟩ := zo_part (cx := [_, _, _, _, _, _, _, _, _, _, _, _, _, _, _, _, _, _, _, _]) hP hD hS hA [1, 2, 3, 4, 5, 6, 7, 8, 9, 10, 11, 12, 13, 14, 15, 16, 18, 22, 23, 24] (by decide +kernel) rfl
                refine zcalle (va_runV (As := [.ref sh, .ref fe, .int lim]) (rest := []) ⟨hx, hb, hml, hown, hts⟩ (k_Law_cornerThatGoes l dC dI cI cZ cF H.size lw dr tg wy br bo aa tx ty nt1 TX1 TY1 rt1 wx wz nw1 WX1 WY1 rw1 dx dy nd1 cd P1 Q1 rd1 d5 d6 d7 d8 e5 e6 e7 e8 AR1 sh fa ft FA fe lo rk9 wd9 tw9 pa9 pb9 q7 (kd f0) (st f0) gb9 jt9 (nI wn2) w7 wx7 wy7 n2 n X2 Y2 (rgK (kd f0).toInt) f0 (.ref lk) L f kd st tn mnj cxj cyj lim (by first | with_reducible assumption | omega) (by first | with_reducible assumption | omega) (hFA) (hIj.2.2.2.2.2.2.2.1) (hvwj) (hwfj) (hIj.2.2.1) (by first | with_reducible assumption | omega) (by first | with_reducible assumption | omega) (hpx2) (rgK_01 _) (by first | with_reducible assumption | omega) (by first | with_reducible assumption | omega) (h3)) (csV_78 hts rfl rfl ⟨Nat.le_of_ble_eq_true rfl, Nat.le_of_ble_eq_true rfl⟩) (zPV2 (q0 := 0) (ci := 3) hPc hDc hK hXN rfl rfl) rfl rfl hl.1 rfl (lv_room (Nat.le_of_ble_eq_true rfl)) dX10_thin_22 ⟨show (0 + 4) ≤ 4 by omega, show (0 + (2 * n + 10)) ≤ 2 * n + 10 by omega⟩) hS hFc hFc (fun v9 t H locs ht hB hk1 hS => ?_)
                obtain ⟨zb5, nt6, TX6, TY6, rt6, nw6, WX6, WY6, rw6, nd6, P6, Q6, rd6, g06, g16, g26, g36, g46, g56, g66, g76, AR6, rfl, hbs5, hP1, hD1⟩ := hB
                refine W.eq (g2 := F0 m 25 ls [.int zb5]) rfl ?_
                rw [ht] at hP1
                obtain ⟨hP, hD⟩ := znP (W2 := [_, _, (oc6 tg (.ref tx) (.ref ty) (nI nt6) rt6), (oa tx cI 3 TX6), (oa ty cI 3 TY6), (oc6 wy (.ref wx) (.ref wz) (nI nw6) rw6), (oa wx cI 2 WX6), (oa wz cI 2 WY6), (oc6 dr (.ref dx) (.ref dy) (nI nd6) rd6), (oa dx cI cd P6), (oa dy cI cd Q6), (oc0 br g06 g16 g26 g36), (oc0 bo g46 g56 g66 g76), (oa aa cI 40 AR6), _, _, _, _, _, _, _, _, _, _, _, _, _, _]) hP hD hk1 hFc hP1 hD1 zl_49 zl_50 zl_50 zl_49 (by decide +kernel) rfl rfl rfl rfl rfl
                clear hk1 hPc hDc hFc hP1 hD1 ht
                refine lv_istore (lv' := [(5, .int zb5), (4, .int (nI i5)), (3, .int (nI w3)), (0, .ref x), (1, .ref fe), (2, .int lim)]) hx hb dX10_thin_25 hl (Nat.le_of_ble_eq_true rfl) rfl (fun ls hl => ?_)
                refine lv_iload hx hb dX10_thin_27 (lv_at hl 0 rfl) ?_
                refine lv_iconst (v := (-1)) hx hb dX10_thin_29 rfl ?_
                refine lv_icmp_ne (tgt := 36) hx hb dX10_thin_30 rfl (fun c_7 => ?_) (fun c_7 => ?_)
                · have c_7 : ¬ zb5.toInt = (-1) := zc_ne rfl rfl c_7
                  obtain ⟨k5, hz5, hbest⟩ := (thB hIj (by omega) hL hXj hr3 hwfj hbs5).resolve_left (fun h9 => by omega)
                  obtain ⟨m8, hm8, hplr⟩ := pl_go hplj hbest
                  have hk5 := hbest.1
                  refine lv_aload_n hx hb dX10_thin_36 rfl (lv_at hl 4 rfl) ?_
                  refine lv_iload hx hb dX10_thin_37 (lv_at hl 0 rfl) ?_
                  refine zz_i (v := nI k5) (hz5) ?_
                  obtain ⟨hPc, hDc, hFc⟩ := zo_sub (wc := [_, _, _, _, _, _, _, _]) hP hD hS hA [16, 18, 22, 23, 24, 25, 26, 27] (by decide +kernel) rfl
                  refine zcall (st1 := []) (va_runV (As := [.int (nI k5)]) (rest := []) ⟨hx, hb, hml, hown, hts⟩ (k_Feature_losef l dC dI cI cZ cF H.size fe lo rk9 wd9 tw9 pa9 pb9 q7 (kd f0) (st f0) gb9 jt9 lk k5 wn2 w7 wx7 wy7 n2 n X2 Y2 (rgK (kd f0).toInt) lx ly lc2 cl9 LX2 LY2 (by first | with_reducible assumption | omega) (by first | with_reducible assumption | omega) (by first | with_reducible assumption | omega) (by first | with_reducible assumption | omega) (by first | with_reducible assumption | omega) (rgK_01 _)) (csV_79 hts rfl rfl ⟨Nat.le_of_ble_eq_true rfl, Nat.le_of_ble_eq_true rfl⟩) (zPV2 (q0 := 0) (ci := 1) hPc hDc hK hXN rfl rfl) rfl rfl hl.1 rfl (lv_room (Nat.le_of_ble_eq_true rfl)) dX10_thin_39 ⟨show (0 + 4) ≤ 4 by omega, show (0 + (2 * n + 10)) ≤ 2 * n + 10 by omega⟩) hS hFc hFc rfl (fun t H locs ht hB hk1 hS => ?_)
                  obtain ⟨X5, Y5, hlo5, hhi5, hP1, hD1⟩ := hB
                  rw [ht] at hP1
                  obtain ⟨hP, hD⟩ := znQ (W2 := [_, _, _, _, _, _, _, _, _, _, _, _, _, _, _, _, _, _, (oc4 q7 (kd f0) (st f0) (.ref w7) gb9 jt9 (nI (wn2 + 1))), _, _, _, (oc6 w7 (.ref wx7) (.ref wy7) (nI (n2 - 1)) (rgK (kd f0).toInt)), (oa wx7 cI n X5), (oa wy7 cI n Y5), (oc6 lo (.ref lx) (.ref ly) (nI (wn2 + 1)) 0), (oa lx cI cl9 (upd LX2 wn2 (X2 k5))), (oa ly cI cl9 (upd LY2 wn2 (Y2 k5)))]) hP hD hk1 hFc hP1 hD1 zl_51 zl_52 zl_53 zl_51 (by decide +kernel) rfl rfl rfl rfl rfl
                  clear hk1 hPc hDc hFc hP1 hD1 ht
                  refine lv_iinc (v := nI (w3 + 1)) (lv' := [(3, .int (nI (w3 + 1))), (5, .int zb5), (4, .int (nI i5)), (0, .ref x), (1, .ref fe), (2, .int lim)]) hx hb dX10_thin_42 hl (k := 2) rfl (nI_add w3 1) (Nat.le_of_ble_eq_true rfl) rfl (fun ls hl => ?_)
                  refine lv_iinc (v := nI (i5 + 1)) (lv' := [(4, .int (nI (i5 + 1))), (3, .int (nI (w3 + 1))), (5, .int zb5), (0, .ref x), (1, .ref fe), (2, .int lim)]) hx hb dX10_thin_45 hl (k := 2) rfl (nI_add i5 1) (Nat.le_of_ble_eq_true rfl) rfl (fun ls hl => ?_)
                  refine lv_goto (tgt := 5) hx hb dX10_thin_48 rfl ?_
                  exact ih_5 (i5 + 1) (w3 + 1) m8 (n2 - 1) (wn2 + 1) (wn2 + 1) X5 Y5 (upd LX2 wn2 (X2 k5)) (upd LY2 wn2 (Y2 k5)) (upd mnj f0 (nI (n2 - 1))) (shp f0 k5 (n2 - 1) cxj) (shp f0 k5 (n2 - 1) cyj) nt6 TX6 TY6 rt6 nw6 WX6 WY6 rw6 nd6 P6 Q6 rd6 g06 g16 g26 g36 g46 g56 g66 g76 AR6 H locs ls (by first | with_reducible assumption | omega) (thI_s hIj hbest) (hplr) (cut_row hXj hlo5 hhi5 hbest.1) (othE_s hoj (by first | with_reducible assumption | omega)) (by first | with_reducible assumption | omega) (by first | with_reducible assumption | omega) (by first | with_reducible assumption | omega) (lsC_s hlSj hbest.1 hlo5 hhi5 (fun i hi => ⟨if_neg (by first | with_reducible assumption | omega), if_neg (by first | with_reducible assumption | omega)⟩) (up_at _ _ _) (up_at _ _ _)) hP hD hS (lv_sub hl [0, 1, 3, 4, 5] rfl)
                · have c_7 : zb5.toInt = (-1) := zc_eq rfl rfl c_7
                  refine lv_goto (tgt := 51) hx hb dX10_thin_33 rfl ?_
                  have hz9 := pl_no hplj (by rcases thB hIj (by omega) hL hXj hr3 hwfj hbs5 with h9 | ⟨k9, h9, h8⟩; exact h9.2; exact absurd (show (zb5.toInt) = -1 by omega) (by rw [h9, nI_toInt (by have := h8.1; omega)]; omega))
                  refine lv_iload_n hx hb dX10_thin_51 rfl (lv_at hl 2 rfl) ?_
                  obtain ⟨z0, z1, z2, z3, z4⟩ := hz9
                  obtain ⟨hP9, hD9⟩ := zq_part (cx := [(oc8 x (.ref sh) (.ref lw) (.ref ro) (.ref bq) (.ref bp) (.ref dq) (.ref dp) (.ref lv) (.ref sl) ds sd ul su), (oc3 lw (.ref dr) (.ref tg) (.ref wy) (.ref br) (.ref bo) (.ref aa)), (oc6 tg (.ref tx) (.ref ty) (nI nt6) rt6), (oa tx cI 3 TX6), (oa ty cI 3 TY6), (oc6 wy (.ref wx) (.ref wz) (nI nw6) rw6), (oa wx cI 2 WX6), (oa wz cI 2 WY6), (oc6 dr (.ref dx) (.ref dy) (nI nd6) rd6), (oa dx cI cd P6), (oa dy cI cd Q6), (oc0 br g06 g16 g26 g36), (oc0 bo g46 g56 g66 g76), (oa aa cI 40 AR6), (oc7 sh (.ref fa) (nI ft)), (oq fa cF 200 FA), (oc1 fe rk9 wd9 tw9 pa9 pb9 (.ref lo) (.ref q7) (.ref lk)), (oc4 lk (kd f0) (st f0) (.ref r) gb9 jt9 (nI wn)), (oc6 r (.ref rx) (.ref ry) (nI n) (rgK (kd f0).toInt)), (oa rx cI cap X), (oa ry cI cap Y), (oc4 q7 (kd f0) (st f0) (.ref w7) gb9 jt9 (nI wn2)), (oc6 w7 (.ref wx7) (.ref wy7) (nI n2) (rgK (kd f0).toInt)), (oa wx7 cI n X2), (oa wy7 cI n Y2), (oc6 lo (.ref lx) (.ref ly) (nI lc2) 0), (oa lx cI cl9 LX2), (oa ly cI cl9 LY2)]) hP hD [0, 1, 2, 3, 4, 5, 6, 7, 8, 9, 10, 11, 12, 13, 14, 15, 16, 17, 19, 20, 21, 18, 22, 23, 24, 25, 26, 27] rfl rfl
                  have hE9 : (([(oc8 x (.ref sh) (.ref lw) (.ref ro) (.ref bq) (.ref bp) (.ref dq) (.ref dp) (.ref lv) (.ref sl) ds sd ul su), (oc3 lw (.ref dr) (.ref tg) (.ref wy) (.ref br) (.ref bo) (.ref aa)), (oc6 tg (.ref tx) (.ref ty) (nI nt6) rt6), (oa tx cI 3 TX6), (oa ty cI 3 TY6), (oc6 wy (.ref wx) (.ref wz) (nI nw6) rw6), (oa wx cI 2 WX6), (oa wz cI 2 WY6), (oc6 dr (.ref dx) (.ref dy) (nI nd6) rd6), (oa dx cI cd P6), (oa dy cI cd Q6), (oc0 br g06 g16 g26 g36), (oc0 bo g46 g56 g66 g76), (oa aa cI 40 AR6), (oc7 sh (.ref fa) (nI ft)), (oq fa cF 200 FA), (oc1 fe rk9 wd9 tw9 pa9 pb9 (.ref lo) (.ref q7) (.ref lk)), (oc4 lk (kd f0) (st f0) (.ref r) gb9 jt9 (nI wn)), (oc6 r (.ref rx) (.ref ry) (nI n) (rgK (kd f0).toInt)), (oa rx cI cap X), (oa ry cI cap Y), (oc4 q7 (kd f0) (st f0) (.ref w7) gb9 jt9 (nI wn2)), (oc6 w7 (.ref wx7) (.ref wy7) (nI n2) (rgK (kd f0).toInt)), (oa wx7 cI n X2), (oa wy7 cI n Y2), (oc6 lo (.ref lx) (.ref ly) (nI lc2) 0), (oa lx cI cl9 LX2), (oa ly cI cl9 LY2)] ++ va_pl L f) : va_W) = ([(oc8 x (.ref sh) (.ref lw) (.ref ro) (.ref bq) (.ref bp) (.ref dq) (.ref dp) (.ref lv) (.ref sl) ds sd ul su), (oc3 lw (.ref dr) (.ref tg) (.ref wy) (.ref br) (.ref bo) (.ref aa)), (oc6 tg (.ref tx) (.ref ty) (nI nt6) rt6), (oa tx cI 3 TX6), (oa ty cI 3 TY6), (oc6 wy (.ref wx) (.ref wz) (nI nw6) rw6), (oa wx cI 2 WX6), (oa wz cI 2 WY6), (oc6 dr (.ref dx) (.ref dy) (nI nd6) rd6), (oa dx cI cd P6), (oa dy cI cd Q6), (oc0 br g06 g16 g26 g36), (oc0 bo g46 g56 g66 g76), (oa aa cI 40 AR6), (oc7 sh (.ref fa) (nI ft)), (oq fa cF 200 FA), (oc1 fe rk9 wd9 tw9 pa9 pb9 (.ref lo) (.ref q7) (.ref lk)), (oc4 lk (kd f0) (st f0) (.ref r) gb9 jt9 (nI wn)), (oc6 r (.ref rx) (.ref ry) (nI n) (rgK (kd f0).toInt)), (oa rx cI cap X), (oa ry cI cap Y), (oc4 q7 (kd f0) (st f0) (.ref w7) gb9 jt9 (nI (wn + m9))), (oc6 w7 (.ref wx7) (.ref wy7) (nI n1) (rgK (kd f0).toInt)), (oa wx7 cI n X2), (oa wy7 cI n Y2), (oc6 lo (.ref lx) (.ref ly) (nI lc2) 0), (oa lx cI cl9 LX2), (oa ly cI cl9 LY2)] ++ va_pl L f) := by rw [z4, show wn2 = wn + m9 by omega]
                  rw [hE9] at hP9 hD9
                  refine W.widen (k := 4) (n := 2 * n + 10) (by omega) (by omega) ?_
                  rw [hQ9]
                  exact W.iret (v := nI w3) hx hb hr (fun t ht hW => ⟨⟨congrArg (fun z => Outcome.returned (some (Value.int z))) (show (nI w3 : Int32) = nI m9 from zn_eq (by omega)), q7, w7, wx7, wy7, nt6, TX6, TY6, rt6, nw6, WX6, WY6, rw6, nd6, P6, Q6, rd6, g06, g16, g26, g36, g46, g56, g66, g76, AR6, X2, Y2, LX2, LY2, lc2, (fun j hj => by rw [z2, z3]; exact hXj j (by omega)), (by omega), (lsC_cg hX (fun j hj => by rw [z2, z3]; exact hXj j (by omega)) (by rw [z4, show wn + m9 = wn2 by omega]; exact hlSj)), (by omega), by rw [ht]; exact hP9, hD9⟩, hS.F ht⟩) hS.2.2 dX10_thin_52
        exact hl_5 _ 1 1 m8 (n - 1) (wn + 1) (wn + 1) X5 Y5 (upd LX wn (X k5)) (upd LY wn (Y k5)) (upd mn f0 (nI (n - 1))) (shp f0 k5 (n - 1) cx) (shp f0 k5 (n - 1) cy) nt6 TX6 TY6 rt6 nw6 WX6 WY6 rw6 nd6 P6 Q6 rd6 g06 g16 g26 g36 g46 g56 g66 g76 AR6 H locs ls (Nat.lt_succ_self _) (thI_s hIj hbest) (hplr) (cut_row hXj hlo5 hhi5 hbest.1) (othE_s hoj (by first | with_reducible assumption | omega)) (by first | with_reducible assumption | omega) (by first | with_reducible assumption | omega) (by first | with_reducible assumption | omega) (lsC_s hlSj hbest.1 hlo5 hhi5 (fun i hi => ⟨if_neg (by first | with_reducible assumption | omega), if_neg (by first | with_reducible assumption | omega)⟩) (up_at _ _ _) (up_at _ _ _)) hP hD hS (lv_sub hl [0, 1, 3, 4, 5] rfl)
      · have c_3 : zb5.toInt = (-1) := zc_eq rfl rfl c_3
        refine lv_goto (tgt := 51) hx hb dX10_thin_33 rfl ?_
        have hz9 := pl_no hplj (by rcases thB hIj (by omega) hL hXj hr3 hwfj hbs5 with h9 | ⟨k9, h9, h8⟩; exact h9.2; exact absurd (show (zb5.toInt) = -1 by omega) (by rw [h9, nI_toInt (by have := h8.1; omega)]; omega))
        exfalso; omega
end
section
/-! one feature out of the pool, and back -/
section
variable {cI cO : ClassId} {L L1 : List Nat} {f f1 : Nat → va_E} {own own1 : Nat → Nat} {e0 ea n9 : Nat} {FA : Nat → Option Nat} {fe cl nw md sp : Nat → Nat} {la : Nat → Nat → Nat} {fm : Nat → Value} {SA : Nat → Option Nat} {bs dn T ft fN : Nat} {FT : Nat → Nat} {V : Nat → Nat → Nat → Int32} {VX VY : Nat → Nat → Int32} {tn rk wd tw pa pb wh of9 we kd st gb it mn cx cy kd1 st1 gb1 it1 mn1 cx1 cy1 : Nat → Int32}
variable {gh gh1 : Nat → Nat → Int32}
theorem M_0 (h : shG cI cO L f e0 FA ea T own fe cl la (la dn) (fun _ => 0) sp (fun _ => .null) SA bs dn T ft (FT T) FT V VX VY tn rk wd tw pa pb wh of9 we kd st gb it mn cx cy) (h8 : HiD dn ft V VX VY kd st gb it tn mn cx cy) (h9 : ft = FT dn) (hO : loG cI L f own fe (la dn) (fun _ => 0) la bs dn T ft (FT T) FT V (V dn)) :
    shG cI cO L f e0 FA ea T own fe cl la (la dn) (fun _ => 0) sp (fun _ => .null) SA bs dn dn ft ft FT V VX VY tn rk wd tw pa pb wh of9 we kd st gb it mn cx cy ∧ mdA dn ft FT la (la dn) (fun _ => 0) (fun _ => .null) V kd st gb it ∧ dn ≤ T ∧ T ≤ 512 ∧ loG cI L f own fe (la dn) (fun _ => 0) la bs dn dn ft ft FT V (V dn) := by
  obtain ⟨h1, h2, h3, h4, h5, ⟨m1, m2, m3, m4, m5, m6⟩, h7⟩ := h
  refine ⟨⟨fun q hq => h1 q (by omega), h2, fun t t1 t2 => h3 t t1 (by omega), StA_sub h4 m2 (by rw [h9]; exact StA_le h4 m1 m2 (Nat.le_refl _)), h5, ⟨m1, Nat.le_refl _, by omega, fun t t1 t2 => by rw [h9]; exact StA_le h4 t1 t2 m2, Nat.le_refl _, by omega⟩, h7⟩, fun q hq => ⟨fun _ => ⟨rfl, rfl, fun _ => ?_⟩, fun g => absurd rfl g⟩, m2, m3, lo_0 hO m5 m2⟩
  have := h8 q hq; exact ⟨this.1, this.2.1, this.2.2.1, this.2.2.2.1⟩
/-- a feature that is not torn: its cells; gl, gr: whose look and row are -/
def fcA (cI : ClassId) (L : List Nat) (f : Nat → va_E) (own : Nat → Nat) (q gl gr fq nq cq : Nat) (fv : Value) (rk wd tw pa pb kd st gb it : Int32) (n : Nat) (C D : Nat → Int32) (lo lx ly ln : Nat) (LX LY : Nat → Int32) (we r rx ry cap : Nat) (X Y : Nat → Int32) : Prop :=
  (ce L f own (8 * q) fq (.inr (1, [.int rk, .int wd, .int tw, .int pa, .int pb, .ref lo, .ref nq, fv])) ∧ ce L f own gl nq (.inr (4, [.int kd, .int st, .ref r, .int gb, .int it, .int (nI we)])) ∧ rwG cI L f own gr r rx ry n cap X Y (rgK kd.toInt) ∧ rwG cI L f own (8 * q + 1) lo lx ly ln cq LX LY 0) ∧
  (ln ≤ cq ∧ 1 ≤ cq ∧ cq ≤ 40) ∧ (n ≤ cap ∧ cap ≤ 40 ∧ we ≤ 40) ∧ (st.toInt = 0 → cap = (if kd.toInt = 0 then 1 else 40) ∧ we = 0) ∧ (∀ k, k < n → X k = C k ∧ Y k = D k) ∧ ((1 ≤ kd.toInt ∧ kd.toInt ≤ 5) → cq = 40 ∧ we + n ≤ 40)
theorem sh_fc {q : Nat} (hF : FeA cI L f own fN fe nw cl fm rk wd tw pa pb) (hN : NwA cI L f own ft nw cl md kd st gb it tn mn cx cy) (hf : ft ≤ fN) (hq : q < ft) (ht : (tn q).toInt = 0) : ∃ (lo lx ly ln : Nat) (LX LY : Nat → Int32) (we r rx ry cap : Nat) (X Y : Nat → Int32), fcA cI L f own q (glM (md q) q) (grM (md q) q) (fe q) (nw q) (cl q) (fm q) (rk q) (wd q) (tw q) (pa q) (pb q) (kd q) (st q) (gb q) (it q) (nN (mn q)) (cF40 cx q) (cF40 cy q) lo lx ly ln LX LY we r rx ry cap X Y := by
  obtain ⟨lo, lx, ly, ln, LX, LY, h1, h2, h3⟩ := hF q (by omega)
  obtain ⟨we, rv, n1, n2, n3, n4, n5⟩ := hN q hq
  obtain ⟨r, rx, ry, cap, X, Y, e, r1, r2, r3, r4, r5, r6⟩ := n5 ht
  subst e
  exact ⟨lo, lx, ly, ln, LX, LY, we, r, rx, ry, cap, X, Y, ⟨h1, n1, r1, h2⟩, h3, ⟨r2, r3, n2⟩, r4, r5, fun g => ⟨n3 g, r6 g⟩⟩
theorem fc_0 {q : Nat} {fq nq cq : Nat} {fv : Value} {rk wd tw pa pb kd st gb it : Int32} {n : Nat} {C D : Nat → Int32} {lo lx ly ln : Nat} {LX LY : Nat → Int32} {we r rx ry cap : Nat} {X Y : Nat → Int32} (h : fcA cI L f own q (glM 0 q) (grM 0 q) fq nq cq fv rk wd tw pa pb kd st gb it n C D lo lx ly ln LX LY we r rx ry cap X Y) : fcA cI L f own q (8 * q + 2) (8 * q + 3) fq nq cq fv rk wd tw pa pb kd st gb it n C D lo lx ly ln LX LY we r rx ry cap X Y := h
theorem fc_1 {q m : Nat} {fq nq cq : Nat} {fv : Value} {rk wd tw pa pb kd st gb it : Int32} {n : Nat} {C D : Nat → Int32} {lo lx ly ln : Nat} {LX LY : Nat → Int32} {we r rx ry cap : Nat} {X Y : Nat → Int32} (hm : m = 1) (h : fcA cI L f own q (glM m q) (grM m q) fq nq cq fv rk wd tw pa pb kd st gb it n C D lo lx ly ln LX LY we r rx ry cap X Y) : fcA cI L f own q (8 * q + 4) (8 * q + 5) fq nq cq fv rk wd tw pa pb kd st gb it n C D lo lx ly ln LX LY we r rx ry cap X Y := by subst hm; exact h
/-- the eight cells are apart -/
theorem pw8 {q gl gr fq nq cq : Nat} {fv : Value} {rk wd tw pa pb kd st gb it : Int32} {n : Nat} {C D : Nat → Int32} {lo lx ly ln : Nat} {LX LY : Nat → Int32} {we r rx ry cap : Nat} {X Y : Nat → Int32} {x1 x2 x3 x4 x5 x6 x7 x8 : va_E} (h : fcA cI L f own q gl gr fq nq cq fv rk wd tw pa pb kd st gb it n C D lo lx ly ln LX LY we r rx ry cap X Y) (hg : gr ≠ 8 * q + 1) :
    List.Pairwise (fun p q : Nat × va_E => p.1 ≠ q.1) [(fq, x1), (nq, x2), (r, x3), (rx, x4), (ry, x5), (lo, x6), (lx, x7), (ly, x8)] := by
  obtain ⟨⟨a1, a2, ⟨a3, a4, a5, a6⟩, ⟨a7, a8, a9, a10⟩⟩, _⟩ := h
  have b1 := cl_ne a1.2.1 a2.2.1 (by decide); have b2 := cl_ne a1.2.1 a3.2.1 (by decide); have b3 := ca_ne a1.2.1 a4.2.1; have b4 := ca_ne a1.2.1 a5.2.1; have b5 := cl_ne a1.2.1 a7.2.1 (by decide); have b6 := ca_ne a1.2.1 a8.2.1; have b7 := ca_ne a1.2.1 a9.2.1
  have c1 := cl_ne a2.2.1 a3.2.1 (by decide); have c2 := ca_ne a2.2.1 a4.2.1; have c3 := ca_ne a2.2.1 a5.2.1; have c4 := cl_ne a2.2.1 a7.2.1 (by decide); have c5 := ca_ne a2.2.1 a8.2.1; have c6 := ca_ne a2.2.1 a9.2.1
  have d1 := ca_ne a3.2.1 a4.2.1; have d2 := ca_ne a3.2.1 a5.2.1; have d3 := ce_ne a3 a7 hg; have d4 := ca_ne a3.2.1 a8.2.1; have d5 := ca_ne a3.2.1 a9.2.1
  have e1 := (ca_ne a7.2.1 a4.2.1).symm; have e2 := ce_ne a4 a8 hg; have e3 := ce_ne a4 a9 hg
  have g1 := (ca_ne a7.2.1 a5.2.1).symm; have g2 := ce_ne a5 a8 hg; have g3 := ce_ne a5 a9 hg
  have i1 := ca_ne a7.2.1 a8.2.1; have i2 := ca_ne a7.2.1 a9.2.1
  simp [b1, b2, b3, b4, b5, b6, b7, c1, c2, c3, c4, c5, c6, d1, d2, d3, d4, d5, a6, e1, e2, e3, g1, g2, g3, i1, i2, a10]
/-- others, seen while one feature is out -/
theorem fc_vw {q gl gr fq nq cq : Nat} {fv : Value} {rk9 wd9 tw9 pa9 pb9 kd9 st9 gb9 it9 : Int32} {n : Nat} {C D : Nat → Int32} {lo lx ly ln : Nat} {LX LY : Nat → Int32} {we9 r rx ry cap : Nat} {X Y : Nat → Int32} {x1 x2 x3 x4 x5 x6 x7 x8 : va_E} (h : fcA cI L f own q gl gr fq nq cq fv rk9 wd9 tw9 pa9 pb9 kd9 st9 gb9 it9 n C D lo lx ly ln LX LY we9 r rx ry cap X Y) (hgl : gl / 8 = q) (hgr : gr / 8 = q)
    (hF : FeA cI L f own fN fe nw cl fm rk wd tw pa pb) (hN : NwA cI L f own ft nw cl md kd st gb it tn mn cx cy) (hA : ∀ q, q < ft → FA q = some (fe q)) (hf : ft ≤ fN) : ∀ p, p < ft → p ≠ q → vwO cI (outPl L [(fq, x1), (nq, x2), (r, x3), (rx, x4), (ry, x5), (lo, x6), (lx, x7), (ly, x8)]) f FA kd st tn mn cx cy p := by
  obtain ⟨⟨a1, a2, ⟨a3, a4, a5, a6⟩, ⟨a7, a8, a9, a10⟩⟩, _⟩ := h
  intro p hp hpq
  refine sh_vw hF hN hA hf hp (fun c hc => ?_)
  simp only [List.mem_cons, List.not_mem_nil, or_false] at hc
  rcases hc with rfl | rfl | rfl | rfl | rfl | rfl | rfl | rfl
  · rw [a1.2.2]; omega
  · rw [a2.2.2, hgl]; omega
  · rw [a3.2.2, hgr]; omega
  · rw [a4.2.2, hgr]; omega
  · rw [a5.2.2, hgr]; omega
  · rw [a7.2.2]; omega
  · rw [a8.2.2]; omega
  · rw [a9.2.2]; omega
/-- one feature leaves, or takes a new look: its eight cells back, and what is new -/
theorem M_leave {q m : Nat} {fv : Value} {lo lx ly ln : Nat} {LX LY : Nat → Int32} {we9 r rx ry cap : Nat} {X Y : Nat → Int32} {Xw : va_W} {nq : Nat} {kq sq gq iq : Int32} {x2 x3 x4 x5 : va_E}
    (hG : shG cI cO L f e0 FA ea n9 own fe cl la nw md sp fm SA bs dn dn ft ft FT V VX VY tn rk wd tw pa pb wh of9 we kd st gb it mn cx cy) (hM : mdA dn ft FT la nw md fm V kd st gb it) (hm : md q = 0) (hq : q < ft) (hqd : q < FT dn) (hs : ¬ (st q).toInt = 0) (hs1 : ¬ (st1 q).toInt = 0) (ht : (tn q).toInt = 0)
    (hc : fcA cI L f own q (8 * q + 2) (8 * q + 3) (fe q) (nw q) (cl q) fv (rk q) (wd q) (tw q) (pa q) (pb q) (kd q) (st q) (gb q) (it q) (nN (mn q)) (cF40 cx q) (cF40 cy q) lo lx ly ln LX LY we9 r rx ry cap X Y)
    (hx : x2 = .inr (4, [.int (kd q), .int (st q), .ref r, .int (gb q), .int (it q), .int (nI we9)]) ∧ x3 = .inr (6, [.ref rx, .ref ry, .int (nI (nN (mn q))), .int (rgK (kd q).toInt)]) ∧ x4 = .inl (cI, cap, .inl X) ∧ x5 = .inl (cI, cap, .inl Y))
    (hp : pinD L f Xw [(fe q, .inr (1, [.int (rk q), .int (wd q), .int (tw q), .int (pa q), .int (pb q), .ref lo, .ref nq, .ref (nw q)])), (nw q, x2), (r, x3), (rx, x4), (ry, x5), (lo, .inr (6, [.ref lx, .ref ly, .int (nI ln), .int 0])), (lx, .inl (cI, cl q, .inl LX)), (ly, .inl (cI, cl q, .inl LY))] [(nq, .inr (4, [.int kq, .int sq, .ref r, .int gq, .int iq, .int (nI we9)]))]
      [(fe q, .inr (1, [.int (rk q), .int (wd q), .int (tw q), .int (pa q), .int (pb q), .ref lo, .ref nq, .ref (nw q)])), (nw q, x2), (r, x3), (rx, x4), (ry, x5), (lo, .inr (6, [.ref lx, .ref ly, .int (nI ln), .int 0])), (lx, .inl (cI, cl q, .inl LX)), (ly, .inl (cI, cl q, .inl LY)), (nq, .inr (4, [.int kq, .int sq, .ref r, .int gq, .int iq, .int (nI we9)]))] L1 f1)
    (ho : othS q kd st gb it mn cx cy kd1 st1 gb1 it1 mn cx cy) (hk1 : kd1 q = kq) (hst1 : st1 q = sq) (hgb1 : gb1 q = gq) (hit1 : it1 q = iq) (hkr : rgK kq.toInt = rgK (kd q).toInt) (hkb : (1 ≤ kq.toInt ∧ kq.toInt ≤ 5) → (1 ≤ (kd q).toInt ∧ (kd q).toInt ≤ 5)) (hO : loG cI L f own fe nw md la bs dn dn ft ft FT V gh) :
    ∃ (own1 nw1 md1 : Nat → Nat) (fm1 : Nat → Value), shG cI cO L1 f1 e0 FA ea n9 own1 fe cl la nw1 md1 sp fm1 SA bs dn dn ft ft FT V VX VY tn rk wd tw pa pb wh of9 we kd1 st1 gb1 it1 mn cx cy ∧ mdA dn ft FT la nw1 md1 fm1 V kd1 st1 gb1 it1 ∧ md1 = upN md q 2 ∧ loG cI L1 f1 own1 fe nw1 md1 la bs dn dn ft ft FT V gh := by
  obtain ⟨hfr, hkp, hce, hsx, hpw⟩ := hp
  obtain ⟨⟨a1, a2, ⟨a3, a4, a5, a6⟩, ⟨a7, a8, a9, a10⟩⟩, b1, b2, b3, b4, b5⟩ := hc
  obtain ⟨e2, e3, e4, e5⟩ := hx
  have hn : nq ∉ L := hfr _ (List.mem_singleton.mpr rfl)
  have how := ow_L (own := own) (g := 8 * q + 4) (fun _ _ => rfl) hn
  have hnL : ∀ a, a ∈ L → ow own nq (8 * q + 4) a = own a := how
  have hk := hkp own (ow own nq (8 * q + 4)) (notQ q) how ⟨fun _ h => absurd a1.2.2 h.1, fun _ _ => by rw [e2]; exact a2.2.1, fun _ _ => by rw [e3]; exact a3.2.1, fun _ _ => by rw [e4]; exact a4.2.1, fun _ _ => by rw [e5]; exact a5.2.1, fun _ h => absurd a7.2.2 h.2.1, fun _ h => absurd a8.2.2 h.2.1, fun _ h => absurd a9.2.2 h.2.1, trivial⟩
  have hla : nw q = la dn q := ((hM q hq).1 hm).2.1
  have hV := ((hM q hq).1 hm).2.2 hqd
  have hfe : feG cI L1 f1 (ow own nq (8 * q + 4)) q (fe q) nq (cl q) (.ref (la dn q)) (rk q) (wd q) (tw q) (pa q) (pb q) := ⟨lo, lx, ly, ln, LX, LY, by rw [← hla]; exact hce _ 0 _ _ _ rfl (by rw [how _ a1.1]; exact a1.2.2), ⟨hce _ 5 _ _ _ rfl (by rw [how _ a7.1]; exact a7.2.2), hce _ 6 _ _ _ rfl (by rw [how _ a8.1]; exact a8.2.2), hce _ 7 _ _ _ rfl (by rw [how _ a9.1]; exact a9.2.2), a10⟩, b1⟩
  have hlk : lkG cI L1 f1 (ow own nq (8 * q + 4)) (glM 2 q) (grM 2 q) nq (cl q) (kd1 q) (st1 q) (gb1 q) (it1 q) (tn q) (nN (mn q)) (cF40 cx q) (cF40 cy q) := by
    have hs2 : ¬ sq.toInt = 0 := by rw [← hst1]; exact hs1
    rw [hk1, hst1, hgb1, hit1]
    refine ⟨we9, .ref r, hce _ 8 _ _ _ rfl ow_at, b2.2.2, fun g => (b5 (hkb g)).1, fun g => absurd ht g, fun _ => ⟨r, rx, ry, cap, X, Y, rfl, ?_, b2.1, b2.2.1, fun g => absurd g hs2, b4, fun g => (b5 (hkb g)).2⟩⟩
    rw [hkr]; exact rwG_kp hk (show notQ q (8 * q + 3) from ⟨by omega, by omega, by omega, by omega⟩) ⟨a3, a4, a5, a6⟩
  have hres := M_new (m := 2) (nq := nq) hG hM hk hfe hlk ho (by decide) hq hqd (by rw [hV.2.1]; exact hs) hs1
  have hl0 : loQ cI L f own q (fe q) ln LX LY := ⟨_, _, _, _, _, _, _, lo, lx, ly, cl q, a1, ⟨a7, a8, a9, a10⟩, by omega⟩
  have hw0 : weQ L f own (glM (md q) q) (nw q) we9 := by rw [hm]; exact ⟨b2.2.2, _, _, _, _, _, a2⟩
  have hl1 : loQ cI L1 f1 (ow own nq (8 * q + 4)) q (fe q) ln LX LY := ⟨_, _, _, _, _, _, _, lo, lx, ly, cl q, hce _ 0 _ _ _ rfl (by rw [how _ a1.1]; exact a1.2.2), ⟨hce _ 5 _ _ _ rfl (by rw [how _ a7.1]; exact a7.2.2), hce _ 6 _ _ _ rfl (by rw [how _ a8.1]; exact a8.2.2), hce _ 7 _ _ _ rfl (by rw [how _ a9.1]; exact a9.2.2), a10⟩, by omega⟩
  have hw1 : weQ L1 f1 (ow own nq (8 * q + 4)) (glM 2 q) nq we9 := ⟨b2.2.2, _, _, _, _, _, hce _ 8 _ _ _ rfl ow_at⟩
  have hat := lo_at hO (Nat.le_refl _) hq a1 ⟨a7, a8, a9, a10⟩ (by omega) a2 b2.2.2
  exact ⟨_, _, _, _, hres.1, hres.2, rfl, loN (m := 2) (nq := nq) hO hk hl0 hw0 hl1 hw1 hat.1 (fun _ _ => ⟨rfl, rfl⟩) ⟨Nat.le_refl _, hat.2⟩ (fun _ _ _ => rfl) hq⟩
/-- a new look with a row of its own; what went may be written anew -/
theorem M_resh {q : Nat} {fv : Value} {lo lx ly ln ln1 : Nat} {LX LY LX1 LY1 : Nat → Int32} {we9 we1 r rx ry cap : Nat} {X Y : Nat → Int32} {Xw : va_W} {nq w wx wy n1 cap1 : Nat} {X1 Y1 : Nat → Int32} {kq sq gq iq rg1 : Int32} {x2 x3 x4 x5 : va_E}
    (hG : shG cI cO L f e0 FA ea n9 own fe cl la nw md sp fm SA bs dn dn ft ft FT V VX VY tn rk wd tw pa pb wh of9 we kd st gb it mn cx cy) (hM : mdA dn ft FT la nw md fm V kd st gb it) (hm : md q = 0) (hq : q < ft) (hqd : q < FT dn) (hs : ¬ (st q).toInt = 0) (hs1 : ¬ (st1 q).toInt = 0) (ht : (tn q).toInt = 0)
    (hc : fcA cI L f own q (8 * q + 2) (8 * q + 3) (fe q) (nw q) (cl q) fv (rk q) (wd q) (tw q) (pa q) (pb q) (kd q) (st q) (gb q) (it q) (nN (mn q)) (cF40 cx q) (cF40 cy q) lo lx ly ln LX LY we9 r rx ry cap X Y)
    (hx : x2 = .inr (4, [.int (kd q), .int (st q), .ref r, .int (gb q), .int (it q), .int (nI we9)]) ∧ x3 = .inr (6, [.ref rx, .ref ry, .int (nI (nN (mn q))), .int (rgK (kd q).toInt)]) ∧ x4 = .inl (cI, cap, .inl X) ∧ x5 = .inl (cI, cap, .inl Y))
    (hp : pinD L f Xw [(fe q, .inr (1, [.int (rk q), .int (wd q), .int (tw q), .int (pa q), .int (pb q), .ref lo, .ref nq, .ref (nw q)])), (nw q, x2), (r, x3), (rx, x4), (ry, x5), (lo, .inr (6, [.ref lx, .ref ly, .int (nI ln1), .int 0])), (lx, .inl (cI, cl q, .inl LX1)), (ly, .inl (cI, cl q, .inl LY1))] [(nq, .inr (4, [.int kq, .int sq, .ref w, .int gq, .int iq, .int (nI we1)])), (w, .inr (6, [.ref wx, .ref wy, .int (nI n1), .int rg1])), (wx, .inl (cI, cap1, .inl X1)), (wy, .inl (cI, cap1, .inl Y1))]
      [(fe q, .inr (1, [.int (rk q), .int (wd q), .int (tw q), .int (pa q), .int (pb q), .ref lo, .ref nq, .ref (nw q)])), (nw q, x2), (r, x3), (rx, x4), (ry, x5), (lo, .inr (6, [.ref lx, .ref ly, .int (nI ln1), .int 0])), (lx, .inl (cI, cl q, .inl LX1)), (ly, .inl (cI, cl q, .inl LY1)), (nq, .inr (4, [.int kq, .int sq, .ref w, .int gq, .int iq, .int (nI we1)])), (w, .inr (6, [.ref wx, .ref wy, .int (nI n1), .int rg1])), (wx, .inl (cI, cap1, .inl X1)), (wy, .inl (cI, cap1, .inl Y1))] L1 f1)
    (ho : othS q kd st gb it mn cx cy kd1 st1 gb1 it1 mn1 cx1 cy1) (hk1 : kd1 q = kq) (hst1 : st1 q = sq) (hgb1 : gb1 q = gq) (hit1 : it1 q = iq) (hrg : rg1 = rgK kq.toInt) (hn1 : nN (mn1 q) = n1) (hX1 : ∀ k, k < n1 → X1 k = cF40 cx1 q k ∧ Y1 k = cF40 cy1 q k) (hcap : n1 ≤ cap1 ∧ cap1 ≤ 40 ∧ we1 ≤ 40) (hln : ln1 ≤ cl q) (hkb : (1 ≤ kq.toInt ∧ kq.toInt ≤ 5) → (1 ≤ (kd q).toInt ∧ (kd q).toInt ≤ 5) ∧ we1 + n1 ≤ 40) (hO : loG cI L f own fe nw md la bs dn dn ft ft FT V gh) (hgl : ∀ i, i < we9 → LX1 i = LX i ∧ LY1 i = LY i) (hwl : we9 ≤ we1 ∧ we1 ≤ ln1) (hgE : gE LX1 LY1 we1 gh1 q) (hgo : ∀ p, p ≠ q → ∀ j, gh1 j p = gh j p) :
    ∃ (own1 nw1 md1 : Nat → Nat) (fm1 : Nat → Value), shG cI cO L1 f1 e0 FA ea n9 own1 fe cl la nw1 md1 sp fm1 SA bs dn dn ft ft FT V VX VY tn rk wd tw pa pb wh of9 we kd1 st1 gb1 it1 mn1 cx1 cy1 ∧ mdA dn ft FT la nw1 md1 fm1 V kd1 st1 gb1 it1 ∧ md1 = upN md q 1 ∧ loG cI L1 f1 own1 fe nw1 md1 la bs dn dn ft ft FT V gh1 := by
  obtain ⟨hfr, hkp, hce, hsx, hpw⟩ := hp
  obtain ⟨⟨a1, a2, ⟨a3, a4, a5, a6⟩, ⟨a7, a8, a9, a10⟩⟩, b1, b2, b3, b4, b5⟩ := hc
  obtain ⟨e2, e3, e4, e5⟩ := hx
  have hn : nq ∉ L := hfr _ (List.mem_cons_self ..)
  have hw : w ∉ L := hfr _ (List.mem_cons_of_mem _ (List.mem_cons_self ..))
  have hwx : wx ∉ L := hfr _ (List.mem_cons_of_mem _ (List.mem_cons_of_mem _ (List.mem_cons_self ..)))
  have hwy : wy ∉ L := hfr _ (List.mem_cons_of_mem _ (List.mem_cons_of_mem _ (List.mem_cons_of_mem _ (List.mem_cons_self ..))))
  have p1 : nq ≠ w := pwN hpw (i := 8) (j := 9) rfl rfl (by decide)
  have p2 : nq ≠ wx := pwN hpw (i := 8) (j := 10) rfl rfl (by decide)
  have p3 : nq ≠ wy := pwN hpw (i := 8) (j := 11) rfl rfl (by decide)
  have p4 : w ≠ wx := pwN hpw (i := 9) (j := 10) rfl rfl (by decide)
  have p5 : w ≠ wy := pwN hpw (i := 9) (j := 11) rfl rfl (by decide)
  have p6 : wx ≠ wy := pwN hpw (i := 10) (j := 11) rfl rfl (by decide)
  obtain ⟨o, ho9⟩ : ∃ o : Nat → Nat, o = ow (ow (ow (ow own nq (8 * q + 4)) w (8 * q + 5)) wx (8 * q + 5)) wy (8 * q + 5) := ⟨_, rfl⟩
  have how : ∀ a ∈ L, o a = own a := by rw [ho9]; exact ow_L (ow_L (ow_L (ow_L (fun _ _ => rfl) hn) hw) hwx) hwy
  have on : o nq = 8 * q + 4 := by rw [ho9, ow_o p3, ow_o p2, ow_o p1]; exact ow_at
  have o1 : o w = 8 * q + 5 := by rw [ho9, ow_o p5, ow_o p4]; exact ow_at
  have o2 : o wx = 8 * q + 5 := by rw [ho9, ow_o p6]; exact ow_at
  have o3 : o wy = 8 * q + 5 := by rw [ho9]; exact ow_at
  have hk := hkp own o (notQ q) how ⟨fun _ h => absurd a1.2.2 h.1, fun _ _ => by rw [e2]; exact a2.2.1, fun _ _ => by rw [e3]; exact a3.2.1, fun _ _ => by rw [e4]; exact a4.2.1, fun _ _ => by rw [e5]; exact a5.2.1, fun _ h => absurd a7.2.2 h.2.1, fun _ h => absurd a8.2.2 h.2.1, fun _ h => absurd a9.2.2 h.2.1, trivial⟩
  have hla : nw q = la dn q := ((hM q hq).1 hm).2.1
  have hV := ((hM q hq).1 hm).2.2 hqd
  have hfe : feG cI L1 f1 o q (fe q) nq (cl q) (.ref (la dn q)) (rk q) (wd q) (tw q) (pa q) (pb q) := ⟨lo, lx, ly, ln1, LX1, LY1, by rw [← hla]; exact hce _ 0 _ _ _ rfl (by rw [how _ a1.1]; exact a1.2.2), ⟨hce _ 5 _ _ _ rfl (by rw [how _ a7.1]; exact a7.2.2), hce _ 6 _ _ _ rfl (by rw [how _ a8.1]; exact a8.2.2), hce _ 7 _ _ _ rfl (by rw [how _ a9.1]; exact a9.2.2), a10⟩, hln, b1.2⟩
  have hlk : lkG cI L1 f1 o (glM 1 q) (grM 1 q) nq (cl q) (kd1 q) (st1 q) (gb1 q) (it1 q) (tn q) (nN (mn1 q)) (cF40 cx1 q) (cF40 cy1 q) := by
    have hs2 : ¬ sq.toInt = 0 := by rw [← hst1]; exact hs1
    rw [hk1, hst1, hgb1, hit1, hn1]
    exact ⟨we1, .ref w, hce _ 8 _ _ _ rfl on, hcap.2.2, fun g => (b5 (hkb g).1).1, fun g => absurd ht g, fun _ => ⟨w, wx, wy, cap1, X1, Y1, rfl, ⟨by rw [← hrg]; exact hce _ 9 _ _ _ rfl o1, hce _ 10 _ _ _ rfl o2, hce _ 11 _ _ _ rfl o3, p6⟩, hcap.1, hcap.2.1, fun g => absurd g hs2, hX1, fun g => (hkb g).2⟩⟩
  have hres := M_new (m := 1) (nq := nq) hG hM hk hfe hlk ho (by decide) hq hqd (by rw [hV.2.1]; exact hs) hs1
  have hl0 : loQ cI L f own q (fe q) ln LX LY := ⟨_, _, _, _, _, _, _, lo, lx, ly, cl q, a1, ⟨a7, a8, a9, a10⟩, by omega⟩
  have hw0 : weQ L f own (glM (md q) q) (nw q) we9 := by rw [hm]; exact ⟨b2.2.2, _, _, _, _, _, a2⟩
  have hl1 : loQ cI L1 f1 o q (fe q) ln1 LX1 LY1 := ⟨_, _, _, _, _, _, _, lo, lx, ly, cl q, hce _ 0 _ _ _ rfl (by rw [how _ a1.1]; exact a1.2.2), ⟨hce _ 5 _ _ _ rfl (by rw [how _ a7.1]; exact a7.2.2), hce _ 6 _ _ _ rfl (by rw [how _ a8.1]; exact a8.2.2), hce _ 7 _ _ _ rfl (by rw [how _ a9.1]; exact a9.2.2), a10⟩, by omega⟩
  have hw1 : weQ L1 f1 o (glM 1 q) nq we1 := ⟨hcap.2.2, _, _, _, _, _, hce _ 8 _ _ _ rfl on⟩
  exact ⟨_, _, _, _, hres.1, hres.2, rfl, loN (m := 1) (nq := nq) hO hk hl0 hw0 hl1 hw1 hgE hgl hwl hgo hq⟩
end
theorem vw2 {cI : ClassId} {L : List Nat} {f : Nat → va_E} {FA : Nat → Option Nat} {kd st tn mn cx cy : Nat → Int32} {i : Nat} (h : vwO cI L f FA kd st tn mn cx cy i) : (¬ (tn i).toInt = 0 ∧ vwT L f FA kd st i) ∨ ((tn i).toInt = 0 ∧ vwL cI L f FA kd st mn cx cy i) := by
  by_cases t0 : (tn i).toInt = 0
  · exact Or.inr ⟨t0, h.2.2 t0⟩
  · exact Or.inl ⟨t0, h.2.1 t0⟩
end
section
set_option maxHeartbeats 4000000 in
set_option maxRecDepth 100000 in
theorem k_refuse_1 (l : Launch) (dC : Nat → ClassId) (dI : Nat → Nat → Nat) (cI cZ cF : ClassId) (sz : Nat) (x : Nat) (sh : Nat) (lw : Nat) (ro : Nat) (bq : Nat) (bp : Nat) (dq : Nat) (dp : Nat) (lv : Nat) (sl : Nat) (sd : Int32) (ul : Int32) (su : Int32) (ds : Int32) : zM l yX10_refuse cX10_refuse 2 (some .int) ({ frames := 0, cells := 0, slots := 0, locals := 0 } : Room) [.ref x, .int 1] (dC, dI) (zTy cI cZ cF) [(oc8 x (.ref sh) (.ref lw) (.ref ro) (.ref bq) (.ref bp) (.ref dq) (.ref dp) (.ref lv) (.ref sl) ds sd ul su)] sz (some (.int (-1))) (fun A t => zPD (dC, dI) classes A [(oc8 x (.ref sh) (.ref lw) (.ref ro) (.ref bq) (.ref bp) (.ref dq) (.ref dp) (.ref lv) (.ref sl) ds sd ul 1)] t.heap) 0 0 := by
  refine zIn (own := "ScaleShop") (loc := [(0, .ref x), (1, .int 1)]) rfl rfl rfl rfl (fun p e s m below meth c hx hb hr hts hown hlocks hml hnm9 A hA hS hP hD hK hXN Q9 hQ9 ls hl => ?_)
  refine lv_aload_n hx hb dX10_refuse_0 rfl (lv_at hl 0 rfl) ?_
  refine lv_iload_n hx hb dX10_refuse_1 rfl (lv_at hl 1 rfl) ?_
  refine va_put (D := (dC, dI)) (ci := 8) (v := .int 1) (ty := .int) (C := RX10) (T := TX10) (N := 13) hx hb hts inX10 tyX10 tyX10_ok nmX10 hown hK hP hD hS 0 rfl rfl 12 (by decide) (hts _ mw_321) (fun _ h9 => h9) rfl (by decide +kernel) rfl rfl (Nat.le_of_ble_eq_true rfl) dX10_refuse_2 (fun H locs hP hD hS => ?_)
  obtain ⟨hP, hD⟩ := zre (W2 := [(oc8 x (.ref sh) (.ref lw) (.ref ro) (.ref bq) (.ref bp) (.ref dq) (.ref dp) (.ref lv) (.ref sl) ds sd ul 1)]) hP hD rfl
  refine lv_iload_n hx hb dX10_refuse_5 rfl (lv_at hl 1 rfl) ?_
  refine lv_bipush (v := 7) hx hb dX10_refuse_6 rfl ?_
  refine lv_icmp_ne (tgt := 21) hx hb dX10_refuse_8 rfl (fun c_1 => ?_) (fun c_1 => ?_)
  · refine lv_iconst (v := (-1)) hx hb dX10_refuse_21 rfl ?_
    obtain ⟨hP9, hD9⟩ := zu_sub (wc := [_]) hP hD [true] rfl rfl
    rw [hQ9]
    exact W.iret (v := (-1)) hx hb hr (fun t ht hW => ⟨⟨rfl, by rw [ht]; exact hP9, hD9⟩, hS.F ht⟩) hS.2.2 dX10_refuse_22
  · exact absurd c_1 (by decide)
set_option maxHeartbeats 4000000 in
set_option maxRecDepth 100000 in
theorem k_deny_1 (l : Launch) (dC : Nat → ClassId) (dI : Nat → Nat → Nat) (cI cZ cF : ClassId) (sz : Nat) (x : Nat) (sh : Nat) (lw : Nat) (ro : Nat) (bq : Nat) (bp : Nat) (dq : Nat) (dp : Nat) (lv : Nat) (sl : Nat) (sd : Int32) (ul : Int32) (su : Int32) (ds : Int32) : zM l yX10_deny cX10_deny 2 (some .boolean) ({ frames := 1, cells := 0, slots := 0, locals := 21 } : Room) [.ref x, .int 1] (dC, dI) (zTy cI cZ cF) [(oc8 x (.ref sh) (.ref lw) (.ref ro) (.ref bq) (.ref bp) (.ref dq) (.ref dp) (.ref lv) (.ref sl) ds sd ul su)] sz (some (.int 0)) (fun A t => zPD (dC, dI) classes A [(oc8 x (.ref sh) (.ref lw) (.ref ro) (.ref bq) (.ref bp) (.ref dq) (.ref dp) (.ref lv) (.ref sl) ds sd ul 1)] t.heap) 0 0 := by
  refine zIn (own := "ScaleShop") (loc := [(0, .ref x), (1, .int 1)]) rfl rfl rfl rfl (fun p e s m below meth c hx hb hr hts hown hlocks hml hnm9 A hA hS hP hD hK hXN Q9 hQ9 ls hl => ?_)
  refine lv_aload_n hx hb dX10_deny_0 rfl (lv_at hl 0 rfl) ?_
  refine lv_iload_n hx hb dX10_deny_1 rfl (lv_at hl 1 rfl) ?_
  obtain ⟨hPc, hDc, hFc⟩ := zo_sub (wc := [_]) hP hD hS hA [0] rfl rfl
  refine zcall (st1 := [.int (-1)]) (va_runV (As := [.int 1]) (rest := []) ⟨hx, hb, hml, hown, hts⟩ (k_refuse_1 l dC dI cI cZ cF s.heap.size x sh lw ro bq bp dq dp lv sl sd ul su ds ) (csV_95 hts rfl rfl ⟨Nat.le_of_ble_eq_true rfl, Nat.le_of_ble_eq_true rfl⟩) (zPV2 (q0 := 0) (ci := 8) hPc hDc hK hXN rfl rfl) rfl rfl hl.1 rfl (lv_room (Nat.le_of_ble_eq_true rfl)) dX10_deny_2 ⟨Nat.le_of_ble_eq_true rfl, Nat.le_of_ble_eq_true rfl⟩) hS hFc hFc rfl (fun t H locs ht hB hk1 hS => ?_)
  obtain ⟨hP1, hD1⟩ := hB
  rw [ht] at hP1
  obtain ⟨hP, hD⟩ := zn (W2 := [(oc8 x (.ref sh) (.ref lw) (.ref ro) (.ref bq) (.ref bp) (.ref dq) (.ref dp) (.ref lv) (.ref sl) ds sd ul 1)]) hP hD hk1 hFc hP1 hD1 [0] [] [false] [0] (by decide +kernel) rfl rfl rfl rfl rfl
  clear hk1 hPc hDc hFc hP1 hD1 ht
  refine lv_pop hx hb dX10_deny_5 rfl ?_
  refine lv_iconst (v := 0) hx hb dX10_deny_6 rfl ?_
  obtain ⟨hP9, hD9⟩ := zu_sub (wc := [_]) hP hD [true] rfl rfl
  rw [hQ9]
  exact W.zret (ty := .boolean) (v := 0) hx hb hr (rfl) (fun t ht hW => ⟨⟨rfl, by rw [ht]; exact hP9, hD9⟩, hS.F ht⟩) hS.2.2 dX10_deny_7
set_option maxHeartbeats 4000000 in
set_option maxRecDepth 100000 in
theorem k_refuse_2 (l : Launch) (dC : Nat → ClassId) (dI : Nat → Nat → Nat) (cI cZ cF : ClassId) (sz : Nat) (x : Nat) (sh : Nat) (lw : Nat) (ro : Nat) (bq : Nat) (bp : Nat) (dq : Nat) (dp : Nat) (lv : Nat) (sl : Nat) (sd : Int32) (ul : Int32) (su : Int32) (ds : Int32) : zM l yX10_refuse cX10_refuse 2 (some .int) ({ frames := 0, cells := 0, slots := 0, locals := 0 } : Room) [.ref x, .int 2] (dC, dI) (zTy cI cZ cF) [(oc8 x (.ref sh) (.ref lw) (.ref ro) (.ref bq) (.ref bp) (.ref dq) (.ref dp) (.ref lv) (.ref sl) ds sd ul su)] sz (some (.int (-1))) (fun A t => zPD (dC, dI) classes A [(oc8 x (.ref sh) (.ref lw) (.ref ro) (.ref bq) (.ref bp) (.ref dq) (.ref dp) (.ref lv) (.ref sl) ds sd ul 2)] t.heap) 0 0 := by
  refine zIn (own := "ScaleShop") (loc := [(0, .ref x), (1, .int 2)]) rfl rfl rfl rfl (fun p e s m below meth c hx hb hr hts hown hlocks hml hnm9 A hA hS hP hD hK hXN Q9 hQ9 ls hl => ?_)
  refine lv_aload_n hx hb dX10_refuse_0 rfl (lv_at hl 0 rfl) ?_
  refine lv_iload_n hx hb dX10_refuse_1 rfl (lv_at hl 1 rfl) ?_
  refine va_put (D := (dC, dI)) (ci := 8) (v := .int 2) (ty := .int) (C := RX10) (T := TX10) (N := 13) hx hb hts inX10 tyX10 tyX10_ok nmX10 hown hK hP hD hS 0 rfl rfl 12 (by decide) (hts _ mw_321) (fun _ h9 => h9) rfl (by decide +kernel) rfl rfl (Nat.le_of_ble_eq_true rfl) dX10_refuse_2 (fun H locs hP hD hS => ?_)
  obtain ⟨hP, hD⟩ := zre (W2 := [(oc8 x (.ref sh) (.ref lw) (.ref ro) (.ref bq) (.ref bp) (.ref dq) (.ref dp) (.ref lv) (.ref sl) ds sd ul 2)]) hP hD rfl
  refine lv_iload_n hx hb dX10_refuse_5 rfl (lv_at hl 1 rfl) ?_
  refine lv_bipush (v := 7) hx hb dX10_refuse_6 rfl ?_
  refine lv_icmp_ne (tgt := 21) hx hb dX10_refuse_8 rfl (fun c_1 => ?_) (fun c_1 => ?_)
  · refine lv_iconst (v := (-1)) hx hb dX10_refuse_21 rfl ?_
    obtain ⟨hP9, hD9⟩ := zu_sub (wc := [_]) hP hD [true] rfl rfl
    rw [hQ9]
    exact W.iret (v := (-1)) hx hb hr (fun t ht hW => ⟨⟨rfl, by rw [ht]; exact hP9, hD9⟩, hS.F ht⟩) hS.2.2 dX10_refuse_22
  · exact absurd c_1 (by decide)
set_option maxHeartbeats 4000000 in
set_option maxRecDepth 100000 in
theorem k_deny_2 (l : Launch) (dC : Nat → ClassId) (dI : Nat → Nat → Nat) (cI cZ cF : ClassId) (sz : Nat) (x : Nat) (sh : Nat) (lw : Nat) (ro : Nat) (bq : Nat) (bp : Nat) (dq : Nat) (dp : Nat) (lv : Nat) (sl : Nat) (sd : Int32) (ul : Int32) (su : Int32) (ds : Int32) : zM l yX10_deny cX10_deny 2 (some .boolean) ({ frames := 1, cells := 0, slots := 0, locals := 21 } : Room) [.ref x, .int 2] (dC, dI) (zTy cI cZ cF) [(oc8 x (.ref sh) (.ref lw) (.ref ro) (.ref bq) (.ref bp) (.ref dq) (.ref dp) (.ref lv) (.ref sl) ds sd ul su)] sz (some (.int 0)) (fun A t => zPD (dC, dI) classes A [(oc8 x (.ref sh) (.ref lw) (.ref ro) (.ref bq) (.ref bp) (.ref dq) (.ref dp) (.ref lv) (.ref sl) ds sd ul 2)] t.heap) 0 0 := by
  refine zIn (own := "ScaleShop") (loc := [(0, .ref x), (1, .int 2)]) rfl rfl rfl rfl (fun p e s m below meth c hx hb hr hts hown hlocks hml hnm9 A hA hS hP hD hK hXN Q9 hQ9 ls hl => ?_)
  refine lv_aload_n hx hb dX10_deny_0 rfl (lv_at hl 0 rfl) ?_
  refine lv_iload_n hx hb dX10_deny_1 rfl (lv_at hl 1 rfl) ?_
  obtain ⟨hPc, hDc, hFc⟩ := zo_sub (wc := [_]) hP hD hS hA [0] rfl rfl
  refine zcall (st1 := [.int (-1)]) (va_runV (As := [.int 2]) (rest := []) ⟨hx, hb, hml, hown, hts⟩ (k_refuse_2 l dC dI cI cZ cF s.heap.size x sh lw ro bq bp dq dp lv sl sd ul su ds ) (csV_95 hts rfl rfl ⟨Nat.le_of_ble_eq_true rfl, Nat.le_of_ble_eq_true rfl⟩) (zPV2 (q0 := 0) (ci := 8) hPc hDc hK hXN rfl rfl) rfl rfl hl.1 rfl (lv_room (Nat.le_of_ble_eq_true rfl)) dX10_deny_2 ⟨Nat.le_of_ble_eq_true rfl, Nat.le_of_ble_eq_true rfl⟩) hS hFc hFc rfl (fun t H locs ht hB hk1 hS => ?_)
  obtain ⟨hP1, hD1⟩ := hB
  rw [ht] at hP1
  obtain ⟨hP, hD⟩ := zn (W2 := [(oc8 x (.ref sh) (.ref lw) (.ref ro) (.ref bq) (.ref bp) (.ref dq) (.ref dp) (.ref lv) (.ref sl) ds sd ul 2)]) hP hD hk1 hFc hP1 hD1 [0] [] [false] [0] (by decide +kernel) rfl rfl rfl rfl rfl
  clear hk1 hPc hDc hFc hP1 hD1 ht
  refine lv_pop hx hb dX10_deny_5 rfl ?_
  refine lv_iconst (v := 0) hx hb dX10_deny_6 rfl ?_
  obtain ⟨hP9, hD9⟩ := zu_sub (wc := [_]) hP hD [true] rfl rfl
  rw [hQ9]
  exact W.zret (ty := .boolean) (v := 0) hx hb hr (rfl) (fun t ht hW => ⟨⟨rfl, by rw [ht]; exact hP9, hD9⟩, hS.F ht⟩) hS.2.2 dX10_deny_7
set_option maxHeartbeats 4000000 in
set_option maxRecDepth 100000 in
theorem k_refuse_3 (l : Launch) (dC : Nat → ClassId) (dI : Nat → Nat → Nat) (cI cZ cF : ClassId) (sz : Nat) (x : Nat) (sh : Nat) (lw : Nat) (ro : Nat) (bq : Nat) (bp : Nat) (dq : Nat) (dp : Nat) (lv : Nat) (sl : Nat) (sd : Int32) (ul : Int32) (su : Int32) (ds : Int32) : zM l yX10_refuse cX10_refuse 2 (some .int) ({ frames := 0, cells := 0, slots := 0, locals := 0 } : Room) [.ref x, .int 3] (dC, dI) (zTy cI cZ cF) [(oc8 x (.ref sh) (.ref lw) (.ref ro) (.ref bq) (.ref bp) (.ref dq) (.ref dp) (.ref lv) (.ref sl) ds sd ul su)] sz (some (.int (-1))) (fun A t => zPD (dC, dI) classes A [(oc8 x (.ref sh) (.ref lw) (.ref ro) (.ref bq) (.ref bp) (.ref dq) (.ref dp) (.ref lv) (.ref sl) ds sd ul 3)] t.heap) 0 0 := by
  refine zIn (own := "ScaleShop") (loc := [(0, .ref x), (1, .int 3)]) rfl rfl rfl rfl (fun p e s m below meth c hx hb hr hts hown hlocks hml hnm9 A hA hS hP hD hK hXN Q9 hQ9 ls hl => ?_)
  refine lv_aload_n hx hb dX10_refuse_0 rfl (lv_at hl 0 rfl) ?_
  refine lv_iload_n hx hb dX10_refuse_1 rfl (lv_at hl 1 rfl) ?_
  refine va_put (D := (dC, dI)) (ci := 8) (v := .int 3) (ty := .int) (C := RX10) (T := TX10) (N := 13) hx hb hts inX10 tyX10 tyX10_ok nmX10 hown hK hP hD hS 0 rfl rfl 12 (by decide) (hts _ mw_321) (fun _ h9 => h9) rfl (by decide +kernel) rfl rfl (Nat.le_of_ble_eq_true rfl) dX10_refuse_2 (fun H locs hP hD hS => ?_)
  obtain ⟨hP, hD⟩ := zre (W2 := [(oc8 x (.ref sh) (.ref lw) (.ref ro) (.ref bq) (.ref bp) (.ref dq) (.ref dp) (.ref lv) (.ref sl) ds sd ul 3)]) hP hD rfl
  refine lv_iload_n hx hb dX10_refuse_5 rfl (lv_at hl 1 rfl) ?_
  refine lv_bipush (v := 7) hx hb dX10_refuse_6 rfl ?_
  refine lv_icmp_ne (tgt := 21) hx hb dX10_refuse_8 rfl (fun c_1 => ?_) (fun c_1 => ?_)
  · refine lv_iconst (v := (-1)) hx hb dX10_refuse_21 rfl ?_
    obtain ⟨hP9, hD9⟩ := zu_sub (wc := [_]) hP hD [true] rfl rfl
    rw [hQ9]
    exact W.iret (v := (-1)) hx hb hr (fun t ht hW => ⟨⟨rfl, by rw [ht]; exact hP9, hD9⟩, hS.F ht⟩) hS.2.2 dX10_refuse_22
  · exact absurd c_1 (by decide)
set_option maxHeartbeats 4000000 in
set_option maxRecDepth 100000 in
theorem k_deny_3 (l : Launch) (dC : Nat → ClassId) (dI : Nat → Nat → Nat) (cI cZ cF : ClassId) (sz : Nat) (x : Nat) (sh : Nat) (lw : Nat) (ro : Nat) (bq : Nat) (bp : Nat) (dq : Nat) (dp : Nat) (lv : Nat) (sl : Nat) (sd : Int32) (ul : Int32) (su : Int32) (ds : Int32) : zM l yX10_deny cX10_deny 2 (some .boolean) ({ frames := 1, cells := 0, slots := 0, locals := 21 } : Room) [.ref x, .int 3] (dC, dI) (zTy cI cZ cF) [(oc8 x (.ref sh) (.ref lw) (.ref ro) (.ref bq) (.ref bp) (.ref dq) (.ref dp) (.ref lv) (.ref sl) ds sd ul su)] sz (some (.int 0)) (fun A t => zPD (dC, dI) classes A [(oc8 x (.ref sh) (.ref lw) (.ref ro) (.ref bq) (.ref bp) (.ref dq) (.ref dp) (.ref lv) (.ref sl) ds sd ul 3)] t.heap) 0 0 := by
  refine zIn (own := "ScaleShop") (loc := [(0, .ref x), (1, .int 3)]) rfl rfl rfl rfl (fun p e s m below meth c hx hb hr hts hown hlocks hml hnm9 A hA hS hP hD hK hXN Q9 hQ9 ls hl => ?_)
  refine lv_aload_n hx hb dX10_deny_0 rfl (lv_at hl 0 rfl) ?_
  refine lv_iload_n hx hb dX10_deny_1 rfl (lv_at hl 1 rfl) ?_
  obtain ⟨hPc, hDc, hFc⟩ := zo_sub (wc := [_]) hP hD hS hA [0] rfl rfl
  refine zcall (st1 := [.int (-1)]) (va_runV (As := [.int 3]) (rest := []) ⟨hx, hb, hml, hown, hts⟩ (k_refuse_3 l dC dI cI cZ cF s.heap.size x sh lw ro bq bp dq dp lv sl sd ul su ds ) (csV_95 hts rfl rfl ⟨Nat.le_of_ble_eq_true rfl, Nat.le_of_ble_eq_true rfl⟩) (zPV2 (q0 := 0) (ci := 8) hPc hDc hK hXN rfl rfl) rfl rfl hl.1 rfl (lv_room (Nat.le_of_ble_eq_true rfl)) dX10_deny_2 ⟨Nat.le_of_ble_eq_true rfl, Nat.le_of_ble_eq_true rfl⟩) hS hFc hFc rfl (fun t H locs ht hB hk1 hS => ?_)
  obtain ⟨hP1, hD1⟩ := hB
  rw [ht] at hP1
  obtain ⟨hP, hD⟩ := zn (W2 := [(oc8 x (.ref sh) (.ref lw) (.ref ro) (.ref bq) (.ref bp) (.ref dq) (.ref dp) (.ref lv) (.ref sl) ds sd ul 3)]) hP hD hk1 hFc hP1 hD1 [0] [] [false] [0] (by decide +kernel) rfl rfl rfl rfl rfl
  clear hk1 hPc hDc hFc hP1 hD1 ht
  refine lv_pop hx hb dX10_deny_5 rfl ?_
  refine lv_iconst (v := 0) hx hb dX10_deny_6 rfl ?_
  obtain ⟨hP9, hD9⟩ := zu_sub (wc := [_]) hP hD [true] rfl rfl
  rw [hQ9]
  exact W.zret (ty := .boolean) (v := 0) hx hb hr (rfl) (fun t ht hW => ⟨⟨rfl, by rw [ht]; exact hP9, hD9⟩, hS.F ht⟩) hS.2.2 dX10_deny_7
set_option maxHeartbeats 4000000 in
set_option maxRecDepth 100000 in
theorem k_refuse_4 (l : Launch) (dC : Nat → ClassId) (dI : Nat → Nat → Nat) (cI cZ cF : ClassId) (sz : Nat) (x : Nat) (sh : Nat) (lw : Nat) (ro : Nat) (bq : Nat) (bp : Nat) (dq : Nat) (dp : Nat) (lv : Nat) (sl : Nat) (sd : Int32) (ul : Int32) (su : Int32) (ds : Int32) : zM l yX10_refuse cX10_refuse 2 (some .int) ({ frames := 0, cells := 0, slots := 0, locals := 0 } : Room) [.ref x, .int 4] (dC, dI) (zTy cI cZ cF) [(oc8 x (.ref sh) (.ref lw) (.ref ro) (.ref bq) (.ref bp) (.ref dq) (.ref dp) (.ref lv) (.ref sl) ds sd ul su)] sz (some (.int (-1))) (fun A t => zPD (dC, dI) classes A [(oc8 x (.ref sh) (.ref lw) (.ref ro) (.ref bq) (.ref bp) (.ref dq) (.ref dp) (.ref lv) (.ref sl) ds sd ul 4)] t.heap) 0 0 := by
  refine zIn (own := "ScaleShop") (loc := [(0, .ref x), (1, .int 4)]) rfl rfl rfl rfl (fun p e s m below meth c hx hb hr hts hown hlocks hml hnm9 A hA hS hP hD hK hXN Q9 hQ9 ls hl => ?_)
  refine lv_aload_n hx hb dX10_refuse_0 rfl (lv_at hl 0 rfl) ?_
  refine lv_iload_n hx hb dX10_refuse_1 rfl (lv_at hl 1 rfl) ?_
  refine va_put (D := (dC, dI)) (ci := 8) (v := .int 4) (ty := .int) (C := RX10) (T := TX10) (N := 13) hx hb hts inX10 tyX10 tyX10_ok nmX10 hown hK hP hD hS 0 rfl rfl 12 (by decide) (hts _ mw_321) (fun _ h9 => h9) rfl (by decide +kernel) rfl rfl (Nat.le_of_ble_eq_true rfl) dX10_refuse_2 (fun H locs hP hD hS => ?_)
  obtain ⟨hP, hD⟩ := zre (W2 := [(oc8 x (.ref sh) (.ref lw) (.ref ro) (.ref bq) (.ref bp) (.ref dq) (.ref dp) (.ref lv) (.ref sl) ds sd ul 4)]) hP hD rfl
  refine lv_iload_n hx hb dX10_refuse_5 rfl (lv_at hl 1 rfl) ?_
  refine lv_bipush (v := 7) hx hb dX10_refuse_6 rfl ?_
  refine lv_icmp_ne (tgt := 21) hx hb dX10_refuse_8 rfl (fun c_1 => ?_) (fun c_1 => ?_)
  · refine lv_iconst (v := (-1)) hx hb dX10_refuse_21 rfl ?_
    obtain ⟨hP9, hD9⟩ := zu_sub (wc := [_]) hP hD [true] rfl rfl
    rw [hQ9]
    exact W.iret (v := (-1)) hx hb hr (fun t ht hW => ⟨⟨rfl, by rw [ht]; exact hP9, hD9⟩, hS.F ht⟩) hS.2.2 dX10_refuse_22
  · exact absurd c_1 (by decide)
set_option maxHeartbeats 4000000 in
set_option maxRecDepth 100000 in
theorem k_deny_4 (l : Launch) (dC : Nat → ClassId) (dI : Nat → Nat → Nat) (cI cZ cF : ClassId) (sz : Nat) (x : Nat) (sh : Nat) (lw : Nat) (ro : Nat) (bq : Nat) (bp : Nat) (dq : Nat) (dp : Nat) (lv : Nat) (sl : Nat) (sd : Int32) (ul : Int32) (su : Int32) (ds : Int32) : zM l yX10_deny cX10_deny 2 (some .boolean) ({ frames := 1, cells := 0, slots := 0, locals := 21 } : Room) [.ref x, .int 4] (dC, dI) (zTy cI cZ cF) [(oc8 x (.ref sh) (.ref lw) (.ref ro) (.ref bq) (.ref bp) (.ref dq) (.ref dp) (.ref lv) (.ref sl) ds sd ul su)] sz (some (.int 0)) (fun A t => zPD (dC, dI) classes A [(oc8 x (.ref sh) (.ref lw) (.ref ro) (.ref bq) (.ref bp) (.ref dq) (.ref dp) (.ref lv) (.ref sl) ds sd ul 4)] t.heap) 0 0 := by
  refine zIn (own := "ScaleShop") (loc := [(0, .ref x), (1, .int 4)]) rfl rfl rfl rfl (fun p e s m below meth c hx hb hr hts hown hlocks hml hnm9 A hA hS hP hD hK hXN Q9 hQ9 ls hl => ?_)
  refine lv_aload_n hx hb dX10_deny_0 rfl (lv_at hl 0 rfl) ?_
  refine lv_iload_n hx hb dX10_deny_1 rfl (lv_at hl 1 rfl) ?_
  obtain ⟨hPc, hDc, hFc⟩ := zo_sub (wc := [_]) hP hD hS hA [0] rfl rfl
  refine zcall (st1 := [.int (-1)]) (va_runV (As := [.int 4]) (rest := []) ⟨hx, hb, hml, hown, hts⟩ (k_refuse_4 l dC dI cI cZ cF s.heap.size x sh lw ro bq bp dq dp lv sl sd ul su ds ) (csV_95 hts rfl rfl ⟨Nat.le_of_ble_eq_true rfl, Nat.le_of_ble_eq_true rfl⟩) (zPV2 (q0 := 0) (ci := 8) hPc hDc hK hXN rfl rfl) rfl rfl hl.1 rfl (lv_room (Nat.le_of_ble_eq_true rfl)) dX10_deny_2 ⟨Nat.le_of_ble_eq_true rfl, Nat.le_of_ble_eq_true rfl⟩) hS hFc hFc rfl (fun t H locs ht hB hk1 hS => ?_)
  obtain ⟨hP1, hD1⟩ := hB
  rw [ht] at hP1
  obtain ⟨hP, hD⟩ := zn (W2 := [(oc8 x (.ref sh) (.ref lw) (.ref ro) (.ref bq) (.ref bp) (.ref dq) (.ref dp) (.ref lv) (.ref sl) ds sd ul 4)]) hP hD hk1 hFc hP1 hD1 [0] [] [false] [0] (by decide +kernel) rfl rfl rfl rfl rfl
  clear hk1 hPc hDc hFc hP1 hD1 ht
  refine lv_pop hx hb dX10_deny_5 rfl ?_
  refine lv_iconst (v := 0) hx hb dX10_deny_6 rfl ?_
  obtain ⟨hP9, hD9⟩ := zu_sub (wc := [_]) hP hD [true] rfl rfl
  rw [hQ9]
  exact W.zret (ty := .boolean) (v := 0) hx hb hr (rfl) (fun t ht hW => ⟨⟨rfl, by rw [ht]; exact hP9, hD9⟩, hS.F ht⟩) hS.2.2 dX10_deny_7
set_option maxHeartbeats 4000000 in
set_option maxRecDepth 100000 in
theorem k_refuse_5 (l : Launch) (dC : Nat → ClassId) (dI : Nat → Nat → Nat) (cI cZ cF : ClassId) (sz : Nat) (x : Nat) (sh : Nat) (lw : Nat) (ro : Nat) (bq : Nat) (bp : Nat) (dq : Nat) (dp : Nat) (lv : Nat) (sl : Nat) (sd : Int32) (ul : Int32) (su : Int32) (ds : Int32) : zM l yX10_refuse cX10_refuse 2 (some .int) ({ frames := 0, cells := 0, slots := 0, locals := 0 } : Room) [.ref x, .int 5] (dC, dI) (zTy cI cZ cF) [(oc8 x (.ref sh) (.ref lw) (.ref ro) (.ref bq) (.ref bp) (.ref dq) (.ref dp) (.ref lv) (.ref sl) ds sd ul su)] sz (some (.int (-1))) (fun A t => zPD (dC, dI) classes A [(oc8 x (.ref sh) (.ref lw) (.ref ro) (.ref bq) (.ref bp) (.ref dq) (.ref dp) (.ref lv) (.ref sl) ds sd ul 5)] t.heap) 0 0 := by
  refine zIn (own := "ScaleShop") (loc := [(0, .ref x), (1, .int 5)]) rfl rfl rfl rfl (fun p e s m below meth c hx hb hr hts hown hlocks hml hnm9 A hA hS hP hD hK hXN Q9 hQ9 ls hl => ?_)
  refine lv_aload_n hx hb dX10_refuse_0 rfl (lv_at hl 0 rfl) ?_
  refine lv_iload_n hx hb dX10_refuse_1 rfl (lv_at hl 1 rfl) ?_
  refine va_put (D := (dC, dI)) (ci := 8) (v := .int 5) (ty := .int) (C := RX10) (T := TX10) (N := 13) hx hb hts inX10 tyX10 tyX10_ok nmX10 hown hK hP hD hS 0 rfl rfl 12 (by decide) (hts _ mw_321) (fun _ h9 => h9) rfl (by decide +kernel) rfl rfl (Nat.le_of_ble_eq_true rfl) dX10_refuse_2 (fun H locs hP hD hS => ?_)
  obtain ⟨hP, hD⟩ := zre (W2 := [(oc8 x (.ref sh) (.ref lw) (.ref ro) (.ref bq) (.ref bp) (.ref dq) (.ref dp) (.ref lv) (.ref sl) ds sd ul 5)]) hP hD rfl
  refine lv_iload_n hx hb dX10_refuse_5 rfl (lv_at hl 1 rfl) ?_
  refine lv_bipush (v := 7) hx hb dX10_refuse_6 rfl ?_
  refine lv_icmp_ne (tgt := 21) hx hb dX10_refuse_8 rfl (fun c_1 => ?_) (fun c_1 => ?_)
  · refine lv_iconst (v := (-1)) hx hb dX10_refuse_21 rfl ?_
    obtain ⟨hP9, hD9⟩ := zu_sub (wc := [_]) hP hD [true] rfl rfl
    rw [hQ9]
    exact W.iret (v := (-1)) hx hb hr (fun t ht hW => ⟨⟨rfl, by rw [ht]; exact hP9, hD9⟩, hS.F ht⟩) hS.2.2 dX10_refuse_22
  · exact absurd c_1 (by decide)
set_option maxHeartbeats 4000000 in
set_option maxRecDepth 100000 in
theorem k_deny_5 (l : Launch) (dC : Nat → ClassId) (dI : Nat → Nat → Nat) (cI cZ cF : ClassId) (sz : Nat) (x : Nat) (sh : Nat) (lw : Nat) (ro : Nat) (bq : Nat) (bp : Nat) (dq : Nat) (dp : Nat) (lv : Nat) (sl : Nat) (sd : Int32) (ul : Int32) (su : Int32) (ds : Int32) : zM l yX10_deny cX10_deny 2 (some .boolean) ({ frames := 1, cells := 0, slots := 0, locals := 21 } : Room) [.ref x, .int 5] (dC, dI) (zTy cI cZ cF) [(oc8 x (.ref sh) (.ref lw) (.ref ro) (.ref bq) (.ref bp) (.ref dq) (.ref dp) (.ref lv) (.ref sl) ds sd ul su)] sz (some (.int 0)) (fun A t => zPD (dC, dI) classes A [(oc8 x (.ref sh) (.ref lw) (.ref ro) (.ref bq) (.ref bp) (.ref dq) (.ref dp) (.ref lv) (.ref sl) ds sd ul 5)] t.heap) 0 0 := by
  refine zIn (own := "ScaleShop") (loc := [(0, .ref x), (1, .int 5)]) rfl rfl rfl rfl (fun p e s m below meth c hx hb hr hts hown hlocks hml hnm9 A hA hS hP hD hK hXN Q9 hQ9 ls hl => ?_)
  refine lv_aload_n hx hb dX10_deny_0 rfl (lv_at hl 0 rfl) ?_
  refine lv_iload_n hx hb dX10_deny_1 rfl (lv_at hl 1 rfl) ?_
  obtain ⟨hPc, hDc, hFc⟩ := zo_sub (wc := [_]) hP hD hS hA [0] rfl rfl
  refine zcall (st1 := [.int (-1)]) (va_runV (As := [.int 5]) (rest := []) ⟨hx, hb, hml, hown, hts⟩ (k_refuse_5 l dC dI cI cZ cF s.heap.size x sh lw ro bq bp dq dp lv sl sd ul su ds ) (csV_95 hts rfl rfl ⟨Nat.le_of_ble_eq_true rfl, Nat.le_of_ble_eq_true rfl⟩) (zPV2 (q0 := 0) (ci := 8) hPc hDc hK hXN rfl rfl) rfl rfl hl.1 rfl (lv_room (Nat.le_of_ble_eq_true rfl)) dX10_deny_2 ⟨Nat.le_of_ble_eq_true rfl, Nat.le_of_ble_eq_true rfl⟩) hS hFc hFc rfl (fun t H locs ht hB hk1 hS => ?_)
  obtain ⟨hP1, hD1⟩ := hB
  rw [ht] at hP1
  obtain ⟨hP, hD⟩ := zn (W2 := [(oc8 x (.ref sh) (.ref lw) (.ref ro) (.ref bq) (.ref bp) (.ref dq) (.ref dp) (.ref lv) (.ref sl) ds sd ul 5)]) hP hD hk1 hFc hP1 hD1 [0] [] [false] [0] (by decide +kernel) rfl rfl rfl rfl rfl
  clear hk1 hPc hDc hFc hP1 hD1 ht
  refine lv_pop hx hb dX10_deny_5 rfl ?_
  refine lv_iconst (v := 0) hx hb dX10_deny_6 rfl ?_
  obtain ⟨hP9, hD9⟩ := zu_sub (wc := [_]) hP hD [true] rfl rfl
  rw [hQ9]
  exact W.zret (ty := .boolean) (v := 0) hx hb hr (rfl) (fun t ht hW => ⟨⟨rfl, by rw [ht]; exact hP9, hD9⟩, hS.F ht⟩) hS.2.2 dX10_deny_7
set_option maxHeartbeats 4000000 in
set_option maxRecDepth 100000 in
theorem k_refuse_6 (l : Launch) (dC : Nat → ClassId) (dI : Nat → Nat → Nat) (cI cZ cF : ClassId) (sz : Nat) (x : Nat) (sh : Nat) (lw : Nat) (ro : Nat) (bq : Nat) (bp : Nat) (dq : Nat) (dp : Nat) (lv : Nat) (sl : Nat) (sd : Int32) (ul : Int32) (su : Int32) (ds : Int32) : zM l yX10_refuse cX10_refuse 2 (some .int) ({ frames := 0, cells := 0, slots := 0, locals := 0 } : Room) [.ref x, .int 6] (dC, dI) (zTy cI cZ cF) [(oc8 x (.ref sh) (.ref lw) (.ref ro) (.ref bq) (.ref bp) (.ref dq) (.ref dp) (.ref lv) (.ref sl) ds sd ul su)] sz (some (.int (-1))) (fun A t => zPD (dC, dI) classes A [(oc8 x (.ref sh) (.ref lw) (.ref ro) (.ref bq) (.ref bp) (.ref dq) (.ref dp) (.ref lv) (.ref sl) ds sd ul 6)] t.heap) 0 0 := by
  refine zIn (own := "ScaleShop") (loc := [(0, .ref x), (1, .int 6)]) rfl rfl rfl rfl (fun p e s m below meth c hx hb hr hts hown hlocks hml hnm9 A hA hS hP hD hK hXN Q9 hQ9 ls hl => ?_)
  refine lv_aload_n hx hb dX10_refuse_0 rfl (lv_at hl 0 rfl) ?_
  refine lv_iload_n hx hb dX10_refuse_1 rfl (lv_at hl 1 rfl) ?_
  refine va_put (D := (dC, dI)) (ci := 8) (v := .int 6) (ty := .int) (C := RX10) (T := TX10) (N := 13) hx hb hts inX10 tyX10 tyX10_ok nmX10 hown hK hP hD hS 0 rfl rfl 12 (by decide) (hts _ mw_321) (fun _ h9 => h9) rfl (by decide +kernel) rfl rfl (Nat.le_of_ble_eq_true rfl) dX10_refuse_2 (fun H locs hP hD hS => ?_)
  obtain ⟨hP, hD⟩ := zre (W2 := [(oc8 x (.ref sh) (.ref lw) (.ref ro) (.ref bq) (.ref bp) (.ref dq) (.ref dp) (.ref lv) (.ref sl) ds sd ul 6)]) hP hD rfl
  refine lv_iload_n hx hb dX10_refuse_5 rfl (lv_at hl 1 rfl) ?_
  refine lv_bipush (v := 7) hx hb dX10_refuse_6 rfl ?_
  refine lv_icmp_ne (tgt := 21) hx hb dX10_refuse_8 rfl (fun c_1 => ?_) (fun c_1 => ?_)
  · refine lv_iconst (v := (-1)) hx hb dX10_refuse_21 rfl ?_
    obtain ⟨hP9, hD9⟩ := zu_sub (wc := [_]) hP hD [true] rfl rfl
    rw [hQ9]
    exact W.iret (v := (-1)) hx hb hr (fun t ht hW => ⟨⟨rfl, by rw [ht]; exact hP9, hD9⟩, hS.F ht⟩) hS.2.2 dX10_refuse_22
  · exact absurd c_1 (by decide)
set_option maxHeartbeats 4000000 in
set_option maxRecDepth 100000 in
theorem k_deny_6 (l : Launch) (dC : Nat → ClassId) (dI : Nat → Nat → Nat) (cI cZ cF : ClassId) (sz : Nat) (x : Nat) (sh : Nat) (lw : Nat) (ro : Nat) (bq : Nat) (bp : Nat) (dq : Nat) (dp : Nat) (lv : Nat) (sl : Nat) (sd : Int32) (ul : Int32) (su : Int32) (ds : Int32) : zM l yX10_deny cX10_deny 2 (some .boolean) ({ frames := 1, cells := 0, slots := 0, locals := 21 } : Room) [.ref x, .int 6] (dC, dI) (zTy cI cZ cF) [(oc8 x (.ref sh) (.ref lw) (.ref ro) (.ref bq) (.ref bp) (.ref dq) (.ref dp) (.ref lv) (.ref sl) ds sd ul su)] sz (some (.int 0)) (fun A t => zPD (dC, dI) classes A [(oc8 x (.ref sh) (.ref lw) (.ref ro) (.ref bq) (.ref bp) (.ref dq) (.ref dp) (.ref lv) (.ref sl) ds sd ul 6)] t.heap) 0 0 := by
  refine zIn (own := "ScaleShop") (loc := [(0, .ref x), (1, .int 6)]) rfl rfl rfl rfl (fun p e s m below meth c hx hb hr hts hown hlocks hml hnm9 A hA hS hP hD hK hXN Q9 hQ9 ls hl => ?_)
  refine lv_aload_n hx hb dX10_deny_0 rfl (lv_at hl 0 rfl) ?_
  refine lv_iload_n hx hb dX10_deny_1 rfl (lv_at hl 1 rfl) ?_
  obtain ⟨hPc, hDc, hFc⟩ := zo_sub (wc := [_]) hP hD hS hA [0] rfl rfl
  refine zcall (st1 := [.int (-1)]) (va_runV (As := [.int 6]) (rest := []) ⟨hx, hb, hml, hown, hts⟩ (k_refuse_6 l dC dI cI cZ cF s.heap.size x sh lw ro bq bp dq dp lv sl sd ul su ds ) (csV_95 hts rfl rfl ⟨Nat.le_of_ble_eq_true rfl, Nat.le_of_ble_eq_true rfl⟩) (zPV2 (q0 := 0) (ci := 8) hPc hDc hK hXN rfl rfl) rfl rfl hl.1 rfl (lv_room (Nat.le_of_ble_eq_true rfl)) dX10_deny_2 ⟨Nat.le_of_ble_eq_true rfl, Nat.le_of_ble_eq_true rfl⟩) hS hFc hFc rfl (fun t H locs ht hB hk1 hS => ?_)
  obtain ⟨hP1, hD1⟩ := hB
  rw [ht] at hP1
  obtain ⟨hP, hD⟩ := zn (W2 := [(oc8 x (.ref sh) (.ref lw) (.ref ro) (.ref bq) (.ref bp) (.ref dq) (.ref dp) (.ref lv) (.ref sl) ds sd ul 6)]) hP hD hk1 hFc hP1 hD1 [0] [] [false] [0] (by decide +kernel) rfl rfl rfl rfl rfl
  clear hk1 hPc hDc hFc hP1 hD1 ht
  refine lv_pop hx hb dX10_deny_5 rfl ?_
  refine lv_iconst (v := 0) hx hb dX10_deny_6 rfl ?_
  obtain ⟨hP9, hD9⟩ := zu_sub (wc := [_]) hP hD [true] rfl rfl
  rw [hQ9]
  exact W.zret (ty := .boolean) (v := 0) hx hb hr (rfl) (fun t ht hW => ⟨⟨rfl, by rw [ht]; exact hP9, hD9⟩, hS.F ht⟩) hS.2.2 dX10_deny_7
set_option maxHeartbeats 4000000 in
set_option maxRecDepth 100000 in
theorem k_refuse_7 (l : Launch) (dC : Nat → ClassId) (dI : Nat → Nat → Nat) (cI cZ cF : ClassId) (sz : Nat) (x : Nat) (sh : Nat) (lw : Nat) (ro : Nat) (bq : Nat) (bp : Nat) (dq : Nat) (dp : Nat) (lv : Nat) (sl : Nat) (sd : Int32) (ul : Int32) (su : Int32) (ds : Int32) : zM l yX10_refuse cX10_refuse 2 (some .int) ({ frames := 0, cells := 0, slots := 0, locals := 0 } : Room) [.ref x, .int 7] (dC, dI) (zTy cI cZ cF) [(oc8 x (.ref sh) (.ref lw) (.ref ro) (.ref bq) (.ref bp) (.ref dq) (.ref dp) (.ref lv) (.ref sl) ds sd ul su)] sz (some (.int (-1))) (fun A t => zPD (dC, dI) classes A [(oc8 x (.ref sh) (.ref lw) (.ref ro) (.ref bq) (.ref bp) (.ref dq) (.ref dp) (.ref lv) (.ref sl) ds sd (ul + 1) 7)] t.heap) 0 0 := by
  refine zIn (own := "ScaleShop") (loc := [(0, .ref x), (1, .int 7)]) rfl rfl rfl rfl (fun p e s m below meth c hx hb hr hts hown hlocks hml hnm9 A hA hS hP hD hK hXN Q9 hQ9 ls hl => ?_)
  refine lv_aload_n hx hb dX10_refuse_0 rfl (lv_at hl 0 rfl) ?_
  refine lv_iload_n hx hb dX10_refuse_1 rfl (lv_at hl 1 rfl) ?_
  refine va_put (D := (dC, dI)) (ci := 8) (v := .int 7) (ty := .int) (C := RX10) (T := TX10) (N := 13) hx hb hts inX10 tyX10 tyX10_ok nmX10 hown hK hP hD hS 0 rfl rfl 12 (by decide) (hts _ mw_321) (fun _ h9 => h9) rfl (by decide +kernel) rfl rfl (Nat.le_of_ble_eq_true rfl) dX10_refuse_2 (fun H locs hP hD hS => ?_)
  obtain ⟨hP, hD⟩ := zre (W2 := [(oc8 x (.ref sh) (.ref lw) (.ref ro) (.ref bq) (.ref bp) (.ref dq) (.ref dp) (.ref lv) (.ref sl) ds sd ul 7)]) hP hD rfl
  refine lv_iload_n hx hb dX10_refuse_5 rfl (lv_at hl 1 rfl) ?_
  refine lv_bipush (v := 7) hx hb dX10_refuse_6 rfl ?_
  refine lv_icmp_ne (tgt := 21) hx hb dX10_refuse_8 rfl (fun c_1 => ?_) (fun c_1 => ?_)
  · exact absurd (by decide) c_1
  · refine lv_aload_n hx hb dX10_refuse_11 rfl (lv_at hl 0 rfl) ?_
    refine lv_dup hx hb dX10_refuse_12 rfl ?_
    refine va_get (D := (dC, dI)) (ci := 8) (v := .int ul) (C := RX10) (T := TX10) (N := 13) hx hb hts inX10 hown hK hP 0 rfl rfl 11 (Nat.le_of_ble_eq_true rfl) (hts _ mw_320) (fun _ h9 => h9) rfl dX10_refuse_13 ?_
    refine lv_iconst (v := 1) hx hb dX10_refuse_16 rfl ?_
    refine lv_iadd hx hb dX10_refuse_17 ?_
    refine va_put (D := (dC, dI)) (ci := 8) (v := .int (ul + 1)) (ty := .int) (C := RX10) (T := TX10) (N := 13) hx hb hts inX10 tyX10 tyX10_ok nmX10 hown hK hP hD hS 0 rfl rfl 11 (by decide) (hts _ mw_320) (fun _ h9 => h9) rfl (by decide +kernel) rfl rfl (Nat.le_of_ble_eq_true rfl) dX10_refuse_18 (fun H locs hP hD hS => ?_)
    obtain ⟨hP, hD⟩ := zre (W2 := [(oc8 x (.ref sh) (.ref lw) (.ref ro) (.ref bq) (.ref bp) (.ref dq) (.ref dp) (.ref lv) (.ref sl) ds sd (ul + 1) 7)]) hP hD rfl
    refine lv_iconst (v := (-1)) hx hb dX10_refuse_21 rfl ?_
    obtain ⟨hP9, hD9⟩ := zu_sub (wc := [_]) hP hD [true] rfl rfl
    rw [hQ9]
    exact W.iret (v := (-1)) hx hb hr (fun t ht hW => ⟨⟨rfl, by rw [ht]; exact hP9, hD9⟩, hS.F ht⟩) hS.2.2 dX10_refuse_22
set_option maxHeartbeats 4000000 in
set_option maxRecDepth 100000 in
theorem k_deny_7 (l : Launch) (dC : Nat → ClassId) (dI : Nat → Nat → Nat) (cI cZ cF : ClassId) (sz : Nat) (x : Nat) (sh : Nat) (lw : Nat) (ro : Nat) (bq : Nat) (bp : Nat) (dq : Nat) (dp : Nat) (lv : Nat) (sl : Nat) (sd : Int32) (ul : Int32) (su : Int32) (ds : Int32) : zM l yX10_deny cX10_deny 2 (some .boolean) ({ frames := 1, cells := 0, slots := 0, locals := 21 } : Room) [.ref x, .int 7] (dC, dI) (zTy cI cZ cF) [(oc8 x (.ref sh) (.ref lw) (.ref ro) (.ref bq) (.ref bp) (.ref dq) (.ref dp) (.ref lv) (.ref sl) ds sd ul su)] sz (some (.int 0)) (fun A t => zPD (dC, dI) classes A [(oc8 x (.ref sh) (.ref lw) (.ref ro) (.ref bq) (.ref bp) (.ref dq) (.ref dp) (.ref lv) (.ref sl) ds sd (ul + 1) 7)] t.heap) 0 0 := by
  refine zIn (own := "ScaleShop") (loc := [(0, .ref x), (1, .int 7)]) rfl rfl rfl rfl (fun p e s m below meth c hx hb hr hts hown hlocks hml hnm9 A hA hS hP hD hK hXN Q9 hQ9 ls hl => ?_)
  refine lv_aload_n hx hb dX10_deny_0 rfl (lv_at hl 0 rfl) ?_
  refine lv_iload_n hx hb dX10_deny_1 rfl (lv_at hl 1 rfl) ?_
  obtain ⟨hPc, hDc, hFc⟩ := zo_sub (wc := [_]) hP hD hS hA [0] rfl rfl
  refine zcall (st1 := [.int (-1)]) (va_runV (As := [.int 7]) (rest := []) ⟨hx, hb, hml, hown, hts⟩ (k_refuse_7 l dC dI cI cZ cF s.heap.size x sh lw ro bq bp dq dp lv sl sd ul su ds ) (csV_95 hts rfl rfl ⟨Nat.le_of_ble_eq_true rfl, Nat.le_of_ble_eq_true rfl⟩) (zPV2 (q0 := 0) (ci := 8) hPc hDc hK hXN rfl rfl) rfl rfl hl.1 rfl (lv_room (Nat.le_of_ble_eq_true rfl)) dX10_deny_2 ⟨Nat.le_of_ble_eq_true rfl, Nat.le_of_ble_eq_true rfl⟩) hS hFc hFc rfl (fun t H locs ht hB hk1 hS => ?_)
  obtain ⟨hP1, hD1⟩ := hB
  rw [ht] at hP1
  obtain ⟨hP, hD⟩ := zn (W2 := [(oc8 x (.ref sh) (.ref lw) (.ref ro) (.ref bq) (.ref bp) (.ref dq) (.ref dp) (.ref lv) (.ref sl) ds sd (ul + 1) 7)]) hP hD hk1 hFc hP1 hD1 [0] [] [false] [0] (by decide +kernel) rfl rfl rfl rfl rfl
  clear hk1 hPc hDc hFc hP1 hD1 ht
  refine lv_pop hx hb dX10_deny_5 rfl ?_
  refine lv_iconst (v := 0) hx hb dX10_deny_6 rfl ?_
  obtain ⟨hP9, hD9⟩ := zu_sub (wc := [_]) hP hD [true] rfl rfl
  rw [hQ9]
  exact W.zret (ty := .boolean) (v := 0) hx hb hr (rfl) (fun t ht hW => ⟨⟨rfl, by rw [ht]; exact hP9, hD9⟩, hS.F ht⟩) hS.2.2 dX10_deny_7
set_option maxHeartbeats 4000000 in
set_option maxRecDepth 100000 in
theorem k_refuse_8 (l : Launch) (dC : Nat → ClassId) (dI : Nat → Nat → Nat) (cI cZ cF : ClassId) (sz : Nat) (x : Nat) (sh : Nat) (lw : Nat) (ro : Nat) (bq : Nat) (bp : Nat) (dq : Nat) (dp : Nat) (lv : Nat) (sl : Nat) (sd : Int32) (ul : Int32) (su : Int32) (ds : Int32) : zM l yX10_refuse cX10_refuse 2 (some .int) ({ frames := 0, cells := 0, slots := 0, locals := 0 } : Room) [.ref x, .int 8] (dC, dI) (zTy cI cZ cF) [(oc8 x (.ref sh) (.ref lw) (.ref ro) (.ref bq) (.ref bp) (.ref dq) (.ref dp) (.ref lv) (.ref sl) ds sd ul su)] sz (some (.int (-1))) (fun A t => zPD (dC, dI) classes A [(oc8 x (.ref sh) (.ref lw) (.ref ro) (.ref bq) (.ref bp) (.ref dq) (.ref dp) (.ref lv) (.ref sl) ds sd ul 8)] t.heap) 0 0 := by
  refine zIn (own := "ScaleShop") (loc := [(0, .ref x), (1, .int 8)]) rfl rfl rfl rfl (fun p e s m below meth c hx hb hr hts hown hlocks hml hnm9 A hA hS hP hD hK hXN Q9 hQ9 ls hl => ?_)
  refine lv_aload_n hx hb dX10_refuse_0 rfl (lv_at hl 0 rfl) ?_
  refine lv_iload_n hx hb dX10_refuse_1 rfl (lv_at hl 1 rfl) ?_
  refine va_put (D := (dC, dI)) (ci := 8) (v := .int 8) (ty := .int) (C := RX10) (T := TX10) (N := 13) hx hb hts inX10 tyX10 tyX10_ok nmX10 hown hK hP hD hS 0 rfl rfl 12 (by decide) (hts _ mw_321) (fun _ h9 => h9) rfl (by decide +kernel) rfl rfl (Nat.le_of_ble_eq_true rfl) dX10_refuse_2 (fun H locs hP hD hS => ?_)
  obtain ⟨hP, hD⟩ := zre (W2 := [(oc8 x (.ref sh) (.ref lw) (.ref ro) (.ref bq) (.ref bp) (.ref dq) (.ref dp) (.ref lv) (.ref sl) ds sd ul 8)]) hP hD rfl
  refine lv_iload_n hx hb dX10_refuse_5 rfl (lv_at hl 1 rfl) ?_
  refine lv_bipush (v := 7) hx hb dX10_refuse_6 rfl ?_
  refine lv_icmp_ne (tgt := 21) hx hb dX10_refuse_8 rfl (fun c_1 => ?_) (fun c_1 => ?_)
  · refine lv_iconst (v := (-1)) hx hb dX10_refuse_21 rfl ?_
    obtain ⟨hP9, hD9⟩ := zu_sub (wc := [_]) hP hD [true] rfl rfl
    rw [hQ9]
    exact W.iret (v := (-1)) hx hb hr (fun t ht hW => ⟨⟨rfl, by rw [ht]; exact hP9, hD9⟩, hS.F ht⟩) hS.2.2 dX10_refuse_22
  · exact absurd c_1 (by decide)
set_option maxHeartbeats 4000000 in
set_option maxRecDepth 100000 in
theorem k_deny_8 (l : Launch) (dC : Nat → ClassId) (dI : Nat → Nat → Nat) (cI cZ cF : ClassId) (sz : Nat) (x : Nat) (sh : Nat) (lw : Nat) (ro : Nat) (bq : Nat) (bp : Nat) (dq : Nat) (dp : Nat) (lv : Nat) (sl : Nat) (sd : Int32) (ul : Int32) (su : Int32) (ds : Int32) : zM l yX10_deny cX10_deny 2 (some .boolean) ({ frames := 1, cells := 0, slots := 0, locals := 21 } : Room) [.ref x, .int 8] (dC, dI) (zTy cI cZ cF) [(oc8 x (.ref sh) (.ref lw) (.ref ro) (.ref bq) (.ref bp) (.ref dq) (.ref dp) (.ref lv) (.ref sl) ds sd ul su)] sz (some (.int 0)) (fun A t => zPD (dC, dI) classes A [(oc8 x (.ref sh) (.ref lw) (.ref ro) (.ref bq) (.ref bp) (.ref dq) (.ref dp) (.ref lv) (.ref sl) ds sd ul 8)] t.heap) 0 0 := by
  refine zIn (own := "ScaleShop") (loc := [(0, .ref x), (1, .int 8)]) rfl rfl rfl rfl (fun p e s m below meth c hx hb hr hts hown hlocks hml hnm9 A hA hS hP hD hK hXN Q9 hQ9 ls hl => ?_)
  refine lv_aload_n hx hb dX10_deny_0 rfl (lv_at hl 0 rfl) ?_
  refine lv_iload_n hx hb dX10_deny_1 rfl (lv_at hl 1 rfl) ?_
  obtain ⟨hPc, hDc, hFc⟩ := zo_sub (wc := [_]) hP hD hS hA [0] rfl rfl
  refine zcall (st1 := [.int (-1)]) (va_runV (As := [.int 8]) (rest := []) ⟨hx, hb, hml, hown, hts⟩ (k_refuse_8 l dC dI cI cZ cF s.heap.size x sh lw ro bq bp dq dp lv sl sd ul su ds ) (csV_95 hts rfl rfl ⟨Nat.le_of_ble_eq_true rfl, Nat.le_of_ble_eq_true rfl⟩) (zPV2 (q0 := 0) (ci := 8) hPc hDc hK hXN rfl rfl) rfl rfl hl.1 rfl (lv_room (Nat.le_of_ble_eq_true rfl)) dX10_deny_2 ⟨Nat.le_of_ble_eq_true rfl, Nat.le_of_ble_eq_true rfl⟩) hS hFc hFc rfl (fun t H locs ht hB hk1 hS => ?_)
  obtain ⟨hP1, hD1⟩ := hB
  rw [ht] at hP1
  obtain ⟨hP, hD⟩ := zn (W2 := [(oc8 x (.ref sh) (.ref lw) (.ref ro) (.ref bq) (.ref bp) (.ref dq) (.ref dp) (.ref lv) (.ref sl) ds sd ul 8)]) hP hD hk1 hFc hP1 hD1 [0] [] [false] [0] (by decide +kernel) rfl rfl rfl rfl rfl
  clear hk1 hPc hDc hFc hP1 hD1 ht
  refine lv_pop hx hb dX10_deny_5 rfl ?_
  refine lv_iconst (v := 0) hx hb dX10_deny_6 rfl ?_
  obtain ⟨hP9, hD9⟩ := zu_sub (wc := [_]) hP hD [true] rfl rfl
  rw [hQ9]
  exact W.zret (ty := .boolean) (v := 0) hx hb hr (rfl) (fun t ht hW => ⟨⟨rfl, by rw [ht]; exact hP9, hD9⟩, hS.F ht⟩) hS.2.2 dX10_deny_7
set_option maxHeartbeats 4000000 in
set_option maxRecDepth 100000 in
theorem k_mostCorners (l : Launch) (dC : Nat → ClassId) (dI : Nat → Nat → Nat) (cI cZ cF : ClassId) (sz : Nat) (kd9 : Int32) : zM l yX10_mostCorners cX10_mostCorners 1 (some .int) ({ frames := 0, cells := 0, slots := 0, locals := 0 } : Room) [.int kd9] (dC, dI) (zTy cI cZ cF) [] sz (some (.int (nI (if kd9.toInt = 0 then 1 else 40)))) (fun A t => zPD (dC, dI) classes A [] t.heap) 0 0 := by
  refine zIn (own := "ScaleShop") (loc := [(0, .int kd9)]) rfl rfl rfl rfl (fun p e s m below meth c hx hb hr hts hown hlocks hml hnm9 A hA hS hP hD hK hXN Q9 hQ9 ls hl => ?_)
  refine lv_iload_n hx hb dX10_mostCorners_0 rfl (lv_at hl 0 rfl) ?_
  refine lv_if_ne (tgt := 8) hx hb dX10_mostCorners_1 rfl (fun c_1 => ?_) (fun c_1 => ?_)
  · have c_1 : ¬ kd9.toInt = 0 := zc_ne rfl rfl c_1
    refine lv_bipush (v := 40) hx hb dX10_mostCorners_8 rfl ?_
    obtain ⟨hP9, hD9⟩ := zu_sub (wc := []) hP hD [] rfl rfl
    rw [hQ9]
    exact W.iret (v := 40) hx hb hr (fun t ht hW => ⟨⟨congrArg (fun z => Outcome.returned (some (Value.int z))) (show (40 : Int32) = nI (if kd9.toInt = 0 then 1 else 40) from by first | (rw [if_pos (by omega)]; rfl) | (rw [if_neg (by omega)]; rfl)), by rw [ht]; exact hP9, hD9⟩, hS.F ht⟩) hS.2.2 dX10_mostCorners_10
  · have c_1 : kd9.toInt = 0 := zc_eq rfl rfl c_1
    refine lv_iconst (v := 1) hx hb dX10_mostCorners_4 rfl ?_
    refine lv_goto (tgt := 10) hx hb dX10_mostCorners_5 rfl ?_
    obtain ⟨hP9, hD9⟩ := zu_sub (wc := []) hP hD [] rfl rfl
    rw [hQ9]
    exact W.iret (v := 1) hx hb hr (fun t ht hW => ⟨⟨congrArg (fun z => Outcome.returned (some (Value.int z))) (show (1 : Int32) = nI (if kd9.toInt = 0 then 1 else 40) from by first | (rw [if_pos (by omega)]; rfl) | (rw [if_neg (by omega)]; rfl)), by rw [ht]; exact hP9, hD9⟩, hS.F ht⟩) hS.2.2 dX10_mostCorners_10
set_option maxHeartbeats 4000000 in
set_option maxRecDepth 100000 in
theorem k_fewestCorners (l : Launch) (dC : Nat → ClassId) (dI : Nat → Nat → Nat) (cI cZ cF : ClassId) (sz : Nat) (kd9 : Int32) : zM l yX10_fewestCorners cX10_fewestCorners 1 (some .int) ({ frames := 0, cells := 0, slots := 0, locals := 0 } : Room) [.int kd9] (dC, dI) (zTy cI cZ cF) [] sz (some (.int (nI (if kd9.toInt = 0 then 1 else if kd9.toInt < 5 then 2 else 3)))) (fun A t => zPD (dC, dI) classes A [] t.heap) 0 0 := by
  refine zIn (own := "ScaleShop") (loc := [(0, .int kd9)]) rfl rfl rfl rfl (fun p e s m below meth c hx hb hr hts hown hlocks hml hnm9 A hA hS hP hD hK hXN Q9 hQ9 ls hl => ?_)
  refine lv_iload_n hx hb dX10_fewestCorners_0 rfl (lv_at hl 0 rfl) ?_
  refine lv_if_ne (tgt := 6) hx hb dX10_fewestCorners_1 rfl (fun c_1 => ?_) (fun c_1 => ?_)
  · have c_1 : ¬ kd9.toInt = 0 := zc_ne rfl rfl c_1
    refine lv_iload_n hx hb dX10_fewestCorners_6 rfl (lv_at hl 0 rfl) ?_
    refine lv_iconst (v := 5) hx hb dX10_fewestCorners_7 rfl ?_
    refine lv_icmp_ge (tgt := 15) hx hb dX10_fewestCorners_8 rfl (fun c_2 => ?_) (fun c_2 => ?_)
    · have c_2 : 5 ≤ kd9.toInt := zc_le rfl rfl c_2
      refine lv_iconst (v := 3) hx hb dX10_fewestCorners_15 rfl ?_
      obtain ⟨hP9, hD9⟩ := zu_sub (wc := []) hP hD [] rfl rfl
      rw [hQ9]
      exact W.iret (v := 3) hx hb hr (fun t ht hW => ⟨⟨congrArg (fun z => Outcome.returned (some (Value.int z))) (show (3 : Int32) = nI (if kd9.toInt = 0 then 1 else if kd9.toInt < 5 then 2 else 3) from by first | (rw [if_pos (by omega)]; rfl) | (rw [if_neg (by omega), if_pos (by omega)]; rfl) | (rw [if_neg (by omega), if_neg (by omega)]; rfl)), by rw [ht]; exact hP9, hD9⟩, hS.F ht⟩) hS.2.2 dX10_fewestCorners_16
    · have c_2 : kd9.toInt < 5 := zc_nle rfl rfl c_2
      refine lv_iconst (v := 2) hx hb dX10_fewestCorners_11 rfl ?_
      refine lv_goto (tgt := 16) hx hb dX10_fewestCorners_12 rfl ?_
      obtain ⟨hP9, hD9⟩ := zu_sub (wc := []) hP hD [] rfl rfl
      rw [hQ9]
      exact W.iret (v := 2) hx hb hr (fun t ht hW => ⟨⟨congrArg (fun z => Outcome.returned (some (Value.int z))) (show (2 : Int32) = nI (if kd9.toInt = 0 then 1 else if kd9.toInt < 5 then 2 else 3) from by first | (rw [if_pos (by omega)]; rfl) | (rw [if_neg (by omega), if_pos (by omega)]; rfl) | (rw [if_neg (by omega), if_neg (by omega)]; rfl)), by rw [ht]; exact hP9, hD9⟩, hS.F ht⟩) hS.2.2 dX10_fewestCorners_16
  · have c_1 : kd9.toInt = 0 := zc_eq rfl rfl c_1
    refine lv_iconst (v := 1) hx hb dX10_fewestCorners_4 rfl ?_
    obtain ⟨hP9, hD9⟩ := zu_sub (wc := []) hP hD [] rfl rfl
    rw [hQ9]
    exact W.iret (v := 1) hx hb hr (fun t ht hW => ⟨⟨congrArg (fun z => Outcome.returned (some (Value.int z))) (show (1 : Int32) = nI (if kd9.toInt = 0 then 1 else if kd9.toInt < 5 then 2 else 3) from by first | (rw [if_pos (by omega)]; rfl) | (rw [if_neg (by omega), if_pos (by omega)]; rfl) | (rw [if_neg (by omega), if_neg (by omega)]; rfl)), by rw [ht]; exact hP9, hD9⟩, hS.F ht⟩) hS.2.2 dX10_fewestCorners_5
set_option maxHeartbeats 4000000 in
set_option maxRecDepth 100000 in
theorem k_drop_x (l : Launch) (dC : Nat → ClassId) (dI : Nat → Nat → Nat) (cI cZ cF : ClassId) (sz : Nat) (x : Nat) (sh : Nat) (lw : Nat) (ro : Nat) (bq : Nat) (bp : Nat) (dq : Nat) (dp : Nat) (lv : Nat) (sl : Nat) (sd : Int32) (ul : Int32) (su : Int32) (ds : Int32) (fa : Nat) (ft : Nat) (FA : Nat → Option Nat) (v : Int32) (h200 : ft ≤ 200) (hv : ¬ (0 ≤ v.toInt ∧ v.toInt < ((ft : Nat) : Int))) : zM l yX10_drop cX10_drop 3 (some .boolean) ({ frames := 2, cells := 0, slots := 0, locals := 42 } : Room) [.ref x, .int v] (dC, dI) (zTy cI cZ cF) [(oc8 x (.ref sh) (.ref lw) (.ref ro) (.ref bq) (.ref bp) (.ref dq) (.ref dp) (.ref lv) (.ref sl) ds sd ul su), (oc7 sh (.ref fa) (nI ft)), (oq fa cF 200 FA)] sz (some (.int 0)) (fun A t => ∃ (ul1 : Int32), ∃ (su1 : Int32), zPD (dC, dI) classes A [(oc8 x (.ref sh) (.ref lw) (.ref ro) (.ref bq) (.ref bp) (.ref dq) (.ref dp) (.ref lv) (.ref sl) ds sd ul1 su1), (oc7 sh (.ref fa) (nI ft)), (oq fa cF 200 FA)] t.heap) 0 0 := by
  refine zIn (own := "ScaleShop") (loc := [(0, .ref x), (1, .int v)]) rfl rfl rfl rfl (fun p e s m below meth c hx hb hr hts hown hlocks hml hnm9 A hA hS hP hD hK hXN Q9 hQ9 ls hl => ?_)
  refine lv_aload_n hx hb dX10_drop_0 rfl (lv_at hl 0 rfl) ?_
  refine va_get (D := (dC, dI)) (ci := 8) (v := .ref sh) (C := RX10) (T := TX10) (N := 13) hx hb hts inX10 hown hK hP 0 rfl rfl 0 (Nat.le_of_ble_eq_true rfl) (hts _ mw_309) (fun _ h9 => h9) rfl dX10_drop_1 ?_
  refine lv_iload_n hx hb dX10_drop_4 rfl (lv_at hl 1 rfl) ?_
  obtain ⟨hPc, hDc, hFc, hI1⟩ := zi_sub (wc := [_, _]) hP hD hS hA [1, 2] rfl rfl
  refine zcall (st1 := [.null]) (va_runV (As := [.int v]) (rest := []) ⟨hx, hb, hml, hown, hts⟩ (k_Sheet_find_n l dC dI cI cZ cF s.heap.size sh fa ft FA v (by first | with_reducible assumption | omega) (by first | with_reducible assumption | assumption)) (csV_94 hts rfl rfl ⟨Nat.le_of_ble_eq_true rfl, Nat.le_of_ble_eq_true rfl⟩) (zPV2 (q0 := 0) (ci := 7) hPc hDc hK hXN rfl rfl) rfl rfl hl.1 rfl (lv_room (Nat.le_of_ble_eq_true rfl)) dX10_drop_5 ⟨Nat.le_of_ble_eq_true rfl, Nat.le_of_ble_eq_true rfl⟩) hS hFc hFc rfl (fun t H locs ht hB hk1 hS => ?_)
  obtain ⟨hP1, hD1⟩ := hB
  rw [ht] at hP1
  replace hP := z0 hP hD hk1 hP1 hI1
  clear hk1 hPc hDc hFc hP1 hD1 ht hI1
  refine lv_astore_nN (lv' := [(2, .null), (0, .ref x), (1, .int v)]) hx hb dX10_drop_8 rfl hl (Nat.le_of_ble_eq_true rfl) rfl (fun ls hl => ?_)
  refine lv_aload_nN hx hb dX10_drop_9 rfl (lv_at hl 0 rfl) ?_
  refine lv_ifnonnullN hx hb dX10_drop_10 ?_
  refine lv_aload_n hx hb dX10_drop_13 rfl (lv_at hl 1 rfl) ?_
  refine lv_iconst (v := 1) hx hb dX10_drop_14 rfl ?_
  obtain ⟨hPc, hDc, hFc⟩ := zo_sub (wc := [_]) hP hD hS hA [0] rfl rfl
  refine zcall (st1 := [.int 0]) (va_runV (As := [.int 1]) (rest := []) ⟨hx, hb, hml, hown, hts⟩ (k_deny_1 l dC dI cI cZ cF H.size x sh lw ro bq bp dq dp lv sl sd ul su ds ) (csV_96 hts rfl rfl ⟨Nat.le_of_ble_eq_true rfl, Nat.le_of_ble_eq_true rfl⟩) (zPV2 (q0 := 0) (ci := 8) hPc hDc hK hXN rfl rfl) rfl rfl hl.1 rfl (lv_room (Nat.le_of_ble_eq_true rfl)) dX10_drop_15 ⟨Nat.le_of_ble_eq_true rfl, Nat.le_of_ble_eq_true rfl⟩) hS hFc hFc rfl (fun t H locs ht hB hk1 hS => ?_)
  obtain ⟨hP1, hD1⟩ := hB
  rw [ht] at hP1
  obtain ⟨hP, hD⟩ := zn (W2 := [(oc8 x (.ref sh) (.ref lw) (.ref ro) (.ref bq) (.ref bp) (.ref dq) (.ref dp) (.ref lv) (.ref sl) ds sd ul 1), _, _]) hP hD hk1 hFc hP1 hD1 [0] [false, true, true] [false, true, true] [0] (by decide +kernel) rfl rfl rfl rfl rfl
  clear hk1 hPc hDc hFc hP1 hD1 ht
  obtain ⟨hP9, hD9⟩ := zu_sub (wc := [_, _, _]) hP hD [true, true, true] rfl rfl
  rw [hQ9]
  exact W.zret (ty := .boolean) (v := 0) hx hb hr (rfl) (fun t ht hW => ⟨⟨rfl, ul, 1, by rw [ht]; exact hP9, hD9⟩, hS.F ht⟩) hS.2.2 dX10_drop_18
set_option maxHeartbeats 4000000 in
set_option maxRecDepth 100000 in
theorem k_tear_x (l : Launch) (dC : Nat → ClassId) (dI : Nat → Nat → Nat) (cI cZ cF : ClassId) (sz : Nat) (x : Nat) (sh : Nat) (lw : Nat) (ro : Nat) (bq : Nat) (bp : Nat) (dq : Nat) (dp : Nat) (lv : Nat) (sl : Nat) (sd : Int32) (ul : Int32) (su : Int32) (ds : Int32) (fa : Nat) (ft : Nat) (FA : Nat → Option Nat) (v : Int32) (h200 : ft ≤ 200) (hv : ¬ (0 ≤ v.toInt ∧ v.toInt < ((ft : Nat) : Int))) : zM l yX10_tear cX10_tear 3 (some .boolean) ({ frames := 2, cells := 0, slots := 0, locals := 42 } : Room) [.ref x, .int v] (dC, dI) (zTy cI cZ cF) [(oc8 x (.ref sh) (.ref lw) (.ref ro) (.ref bq) (.ref bp) (.ref dq) (.ref dp) (.ref lv) (.ref sl) ds sd ul su), (oc7 sh (.ref fa) (nI ft)), (oq fa cF 200 FA)] sz (some (.int 0)) (fun A t => ∃ (ul1 : Int32), ∃ (su1 : Int32), zPD (dC, dI) classes A [(oc8 x (.ref sh) (.ref lw) (.ref ro) (.ref bq) (.ref bp) (.ref dq) (.ref dp) (.ref lv) (.ref sl) ds sd ul1 su1), (oc7 sh (.ref fa) (nI ft)), (oq fa cF 200 FA)] t.heap) 0 0 := by
  refine zIn (own := "ScaleShop") (loc := [(0, .ref x), (1, .int v)]) rfl rfl rfl rfl (fun p e s m below meth c hx hb hr hts hown hlocks hml hnm9 A hA hS hP hD hK hXN Q9 hQ9 ls hl => ?_)
  refine lv_aload_n hx hb dX10_tear_0 rfl (lv_at hl 0 rfl) ?_
  refine va_get (D := (dC, dI)) (ci := 8) (v := .ref sh) (C := RX10) (T := TX10) (N := 13) hx hb hts inX10 hown hK hP 0 rfl rfl 0 (Nat.le_of_ble_eq_true rfl) (hts _ mw_309) (fun _ h9 => h9) rfl dX10_tear_1 ?_
  refine lv_iload_n hx hb dX10_tear_4 rfl (lv_at hl 1 rfl) ?_
  obtain ⟨hPc, hDc, hFc, hI1⟩ := zi_sub (wc := [_, _]) hP hD hS hA [1, 2] rfl rfl
  refine zcall (st1 := [.null]) (va_runV (As := [.int v]) (rest := []) ⟨hx, hb, hml, hown, hts⟩ (k_Sheet_find_n l dC dI cI cZ cF s.heap.size sh fa ft FA v (by first | with_reducible assumption | omega) (by first | with_reducible assumption | assumption)) (csV_94 hts rfl rfl ⟨Nat.le_of_ble_eq_true rfl, Nat.le_of_ble_eq_true rfl⟩) (zPV2 (q0 := 0) (ci := 7) hPc hDc hK hXN rfl rfl) rfl rfl hl.1 rfl (lv_room (Nat.le_of_ble_eq_true rfl)) dX10_tear_5 ⟨Nat.le_of_ble_eq_true rfl, Nat.le_of_ble_eq_true rfl⟩) hS hFc hFc rfl (fun t H locs ht hB hk1 hS => ?_)
  obtain ⟨hP1, hD1⟩ := hB
  rw [ht] at hP1
  replace hP := z0 hP hD hk1 hP1 hI1
  clear hk1 hPc hDc hFc hP1 hD1 ht hI1
  refine lv_astore_nN (lv' := [(2, .null), (0, .ref x), (1, .int v)]) hx hb dX10_tear_8 rfl hl (Nat.le_of_ble_eq_true rfl) rfl (fun ls hl => ?_)
  refine lv_aload_nN hx hb dX10_tear_9 rfl (lv_at hl 0 rfl) ?_
  refine lv_ifnonnullN hx hb dX10_tear_10 ?_
  refine lv_aload_n hx hb dX10_tear_13 rfl (lv_at hl 1 rfl) ?_
  refine lv_iconst (v := 1) hx hb dX10_tear_14 rfl ?_
  obtain ⟨hPc, hDc, hFc⟩ := zo_sub (wc := [_]) hP hD hS hA [0] rfl rfl
  refine zcall (st1 := [.int 0]) (va_runV (As := [.int 1]) (rest := []) ⟨hx, hb, hml, hown, hts⟩ (k_deny_1 l dC dI cI cZ cF H.size x sh lw ro bq bp dq dp lv sl sd ul su ds ) (csV_96 hts rfl rfl ⟨Nat.le_of_ble_eq_true rfl, Nat.le_of_ble_eq_true rfl⟩) (zPV2 (q0 := 0) (ci := 8) hPc hDc hK hXN rfl rfl) rfl rfl hl.1 rfl (lv_room (Nat.le_of_ble_eq_true rfl)) dX10_tear_15 ⟨Nat.le_of_ble_eq_true rfl, Nat.le_of_ble_eq_true rfl⟩) hS hFc hFc rfl (fun t H locs ht hB hk1 hS => ?_)
  obtain ⟨hP1, hD1⟩ := hB
  rw [ht] at hP1
  obtain ⟨hP, hD⟩ := zn (W2 := [(oc8 x (.ref sh) (.ref lw) (.ref ro) (.ref bq) (.ref bp) (.ref dq) (.ref dp) (.ref lv) (.ref sl) ds sd ul 1), _, _]) hP hD hk1 hFc hP1 hD1 [0] [false, true, true] [false, true, true] [0] (by decide +kernel) rfl rfl rfl rfl rfl
  clear hk1 hPc hDc hFc hP1 hD1 ht
  obtain ⟨hP9, hD9⟩ := zu_sub (wc := [_, _, _]) hP hD [true, true, true] rfl rfl
  rw [hQ9]
  exact W.zret (ty := .boolean) (v := 0) hx hb hr (rfl) (fun t ht hW => ⟨⟨rfl, ul, 1, by rw [ht]; exact hP9, hD9⟩, hS.F ht⟩) hS.2.2 dX10_tear_18
set_option maxHeartbeats 4000000 in
set_option maxRecDepth 100000 in
theorem k_done_x (l : Launch) (dC : Nat → ClassId) (dI : Nat → Nat → Nat) (cI cZ cF : ClassId) (sz : Nat) (x : Nat) (sh : Nat) (lw : Nat) (ro : Nat) (bq : Nat) (bp : Nat) (dq : Nat) (dp : Nat) (lv : Nat) (sl : Nat) (sd : Int32) (ul : Int32) (su : Int32) (ds : Int32) (fa : Nat) (ft : Nat) (FA : Nat → Option Nat) (v : Int32) (h200 : ft ≤ 200) (hv : ¬ (0 ≤ v.toInt ∧ v.toInt < ((ft : Nat) : Int))) : zM l yX10_done cX10_done 4 (some .boolean) ({ frames := 2, cells := 0, slots := 0, locals := 42 } : Room) [.ref x, .int v] (dC, dI) (zTy cI cZ cF) [(oc8 x (.ref sh) (.ref lw) (.ref ro) (.ref bq) (.ref bp) (.ref dq) (.ref dp) (.ref lv) (.ref sl) ds sd ul su), (oc7 sh (.ref fa) (nI ft)), (oq fa cF 200 FA)] sz (some (.int 0)) (fun A t => ∃ (ul1 : Int32), ∃ (su1 : Int32), zPD (dC, dI) classes A [(oc8 x (.ref sh) (.ref lw) (.ref ro) (.ref bq) (.ref bp) (.ref dq) (.ref dp) (.ref lv) (.ref sl) ds sd ul1 su1), (oc7 sh (.ref fa) (nI ft)), (oq fa cF 200 FA)] t.heap) 0 0 := by
  refine zIn (own := "ScaleShop") (loc := [(0, .ref x), (1, .int v)]) rfl rfl rfl rfl (fun p e s m below meth c hx hb hr hts hown hlocks hml hnm9 A hA hS hP hD hK hXN Q9 hQ9 ls hl => ?_)
  refine lv_aload_n hx hb dX10_done_0 rfl (lv_at hl 0 rfl) ?_
  refine va_get (D := (dC, dI)) (ci := 8) (v := .ref sh) (C := RX10) (T := TX10) (N := 13) hx hb hts inX10 hown hK hP 0 rfl rfl 0 (Nat.le_of_ble_eq_true rfl) (hts _ mw_309) (fun _ h9 => h9) rfl dX10_done_1 ?_
  refine lv_iload_n hx hb dX10_done_4 rfl (lv_at hl 1 rfl) ?_
  obtain ⟨hPc, hDc, hFc, hI1⟩ := zi_sub (wc := [_, _]) hP hD hS hA [1, 2] rfl rfl
  refine zcall (st1 := [.null]) (va_runV (As := [.int v]) (rest := []) ⟨hx, hb, hml, hown, hts⟩ (k_Sheet_find_n l dC dI cI cZ cF s.heap.size sh fa ft FA v (by first | with_reducible assumption | omega) (by first | with_reducible assumption | assumption)) (csV_94 hts rfl rfl ⟨Nat.le_of_ble_eq_true rfl, Nat.le_of_ble_eq_true rfl⟩) (zPV2 (q0 := 0) (ci := 7) hPc hDc hK hXN rfl rfl) rfl rfl hl.1 rfl (lv_room (Nat.le_of_ble_eq_true rfl)) dX10_done_5 ⟨Nat.le_of_ble_eq_true rfl, Nat.le_of_ble_eq_true rfl⟩) hS hFc hFc rfl (fun t H locs ht hB hk1 hS => ?_)
  obtain ⟨hP1, hD1⟩ := hB
  rw [ht] at hP1
  replace hP := z0 hP hD hk1 hP1 hI1
  clear hk1 hPc hDc hFc hP1 hD1 ht hI1
  refine lv_astore_nN (lv' := [(2, .null), (0, .ref x), (1, .int v)]) hx hb dX10_done_8 rfl hl (Nat.le_of_ble_eq_true rfl) rfl (fun ls hl => ?_)
  refine lv_aload_nN hx hb dX10_done_9 rfl (lv_at hl 0 rfl) ?_
  refine lv_ifnonnullN hx hb dX10_done_10 ?_
  refine lv_aload_n hx hb dX10_done_13 rfl (lv_at hl 1 rfl) ?_
  refine lv_iconst (v := 1) hx hb dX10_done_14 rfl ?_
  obtain ⟨hPc, hDc, hFc⟩ := zo_sub (wc := [_]) hP hD hS hA [0] rfl rfl
  refine zcall (st1 := [.int 0]) (va_runV (As := [.int 1]) (rest := []) ⟨hx, hb, hml, hown, hts⟩ (k_deny_1 l dC dI cI cZ cF H.size x sh lw ro bq bp dq dp lv sl sd ul su ds ) (csV_96 hts rfl rfl ⟨Nat.le_of_ble_eq_true rfl, Nat.le_of_ble_eq_true rfl⟩) (zPV2 (q0 := 0) (ci := 8) hPc hDc hK hXN rfl rfl) rfl rfl hl.1 rfl (lv_room (Nat.le_of_ble_eq_true rfl)) dX10_done_15 ⟨Nat.le_of_ble_eq_true rfl, Nat.le_of_ble_eq_true rfl⟩) hS hFc hFc rfl (fun t H locs ht hB hk1 hS => ?_)
  obtain ⟨hP1, hD1⟩ := hB
  rw [ht] at hP1
  obtain ⟨hP, hD⟩ := zn (W2 := [(oc8 x (.ref sh) (.ref lw) (.ref ro) (.ref bq) (.ref bp) (.ref dq) (.ref dp) (.ref lv) (.ref sl) ds sd ul 1), _, _]) hP hD hk1 hFc hP1 hD1 [0] [false, true, true] [false, true, true] [0] (by decide +kernel) rfl rfl rfl rfl rfl
  clear hk1 hPc hDc hFc hP1 hD1 ht
  obtain ⟨hP9, hD9⟩ := zu_sub (wc := [_, _, _]) hP hD [true, true, true] rfl rfl
  rw [hQ9]
  exact W.zret (ty := .boolean) (v := 0) hx hb hr (rfl) (fun t ht hW => ⟨⟨rfl, ul, 1, by rw [ht]; exact hP9, hD9⟩, hS.F ht⟩) hS.2.2 dX10_done_18
set_option maxHeartbeats 4000000 in
set_option maxRecDepth 100000 in
theorem k_smooth_x (l : Launch) (dC : Nat → ClassId) (dI : Nat → Nat → Nat) (cI cZ cF : ClassId) (sz : Nat) (x : Nat) (sh : Nat) (lw : Nat) (ro : Nat) (bq : Nat) (bp : Nat) (dq : Nat) (dp : Nat) (lv : Nat) (sl : Nat) (sd : Int32) (ul : Int32) (su : Int32) (ds : Int32) (fa : Nat) (ft : Nat) (FA : Nat → Option Nat) (v : Int32) (h200 : ft ≤ 200) (hv : ¬ (0 ≤ v.toInt ∧ v.toInt < ((ft : Nat) : Int))) : zM l yX10_smooth cX10_smooth 4 (some .boolean) ({ frames := 2, cells := 0, slots := 0, locals := 42 } : Room) [.ref x, .int v] (dC, dI) (zTy cI cZ cF) [(oc8 x (.ref sh) (.ref lw) (.ref ro) (.ref bq) (.ref bp) (.ref dq) (.ref dp) (.ref lv) (.ref sl) ds sd ul su), (oc7 sh (.ref fa) (nI ft)), (oq fa cF 200 FA)] sz (some (.int 0)) (fun A t => ∃ (ul1 : Int32), ∃ (su1 : Int32), zPD (dC, dI) classes A [(oc8 x (.ref sh) (.ref lw) (.ref ro) (.ref bq) (.ref bp) (.ref dq) (.ref dp) (.ref lv) (.ref sl) ds sd ul1 su1), (oc7 sh (.ref fa) (nI ft)), (oq fa cF 200 FA)] t.heap) 0 0 := by
  refine zIn (own := "ScaleShop") (loc := [(0, .ref x), (1, .int v)]) rfl rfl rfl rfl (fun p e s m below meth c hx hb hr hts hown hlocks hml hnm9 A hA hS hP hD hK hXN Q9 hQ9 ls hl => ?_)
  refine lv_aload_n hx hb dX10_smooth_0 rfl (lv_at hl 0 rfl) ?_
  refine va_get (D := (dC, dI)) (ci := 8) (v := .ref sh) (C := RX10) (T := TX10) (N := 13) hx hb hts inX10 hown hK hP 0 rfl rfl 0 (Nat.le_of_ble_eq_true rfl) (hts _ mw_309) (fun _ h9 => h9) rfl dX10_smooth_1 ?_
  refine lv_iload_n hx hb dX10_smooth_4 rfl (lv_at hl 1 rfl) ?_
  obtain ⟨hPc, hDc, hFc, hI1⟩ := zi_sub (wc := [_, _]) hP hD hS hA [1, 2] rfl rfl
  refine zcall (st1 := [.null]) (va_runV (As := [.int v]) (rest := []) ⟨hx, hb, hml, hown, hts⟩ (k_Sheet_find_n l dC dI cI cZ cF s.heap.size sh fa ft FA v (by first | with_reducible assumption | omega) (by first | with_reducible assumption | assumption)) (csV_94 hts rfl rfl ⟨Nat.le_of_ble_eq_true rfl, Nat.le_of_ble_eq_true rfl⟩) (zPV2 (q0 := 0) (ci := 7) hPc hDc hK hXN rfl rfl) rfl rfl hl.1 rfl (lv_room (Nat.le_of_ble_eq_true rfl)) dX10_smooth_5 ⟨Nat.le_of_ble_eq_true rfl, Nat.le_of_ble_eq_true rfl⟩) hS hFc hFc rfl (fun t H locs ht hB hk1 hS => ?_)
  obtain ⟨hP1, hD1⟩ := hB
  rw [ht] at hP1
  replace hP := z0 hP hD hk1 hP1 hI1
  clear hk1 hPc hDc hFc hP1 hD1 ht hI1
  refine lv_astore_nN (lv' := [(2, .null), (0, .ref x), (1, .int v)]) hx hb dX10_smooth_8 rfl hl (Nat.le_of_ble_eq_true rfl) rfl (fun ls hl => ?_)
  refine lv_aload_nN hx hb dX10_smooth_9 rfl (lv_at hl 0 rfl) ?_
  refine lv_ifnonnullN hx hb dX10_smooth_10 ?_
  refine lv_aload_n hx hb dX10_smooth_13 rfl (lv_at hl 1 rfl) ?_
  refine lv_iconst (v := 1) hx hb dX10_smooth_14 rfl ?_
  obtain ⟨hPc, hDc, hFc⟩ := zo_sub (wc := [_]) hP hD hS hA [0] rfl rfl
  refine zcall (st1 := [.int 0]) (va_runV (As := [.int 1]) (rest := []) ⟨hx, hb, hml, hown, hts⟩ (k_deny_1 l dC dI cI cZ cF H.size x sh lw ro bq bp dq dp lv sl sd ul su ds ) (csV_96 hts rfl rfl ⟨Nat.le_of_ble_eq_true rfl, Nat.le_of_ble_eq_true rfl⟩) (zPV2 (q0 := 0) (ci := 8) hPc hDc hK hXN rfl rfl) rfl rfl hl.1 rfl (lv_room (Nat.le_of_ble_eq_true rfl)) dX10_smooth_15 ⟨Nat.le_of_ble_eq_true rfl, Nat.le_of_ble_eq_true rfl⟩) hS hFc hFc rfl (fun t H locs ht hB hk1 hS => ?_)
  obtain ⟨hP1, hD1⟩ := hB
  rw [ht] at hP1
  obtain ⟨hP, hD⟩ := zn (W2 := [(oc8 x (.ref sh) (.ref lw) (.ref ro) (.ref bq) (.ref bp) (.ref dq) (.ref dp) (.ref lv) (.ref sl) ds sd ul 1), _, _]) hP hD hk1 hFc hP1 hD1 [0] [false, true, true] [false, true, true] [0] (by decide +kernel) rfl rfl rfl rfl rfl
  clear hk1 hPc hDc hFc hP1 hD1 ht
  obtain ⟨hP9, hD9⟩ := zu_sub (wc := [_, _, _]) hP hD [true, true, true] rfl rfl
  rw [hQ9]
  exact W.zret (ty := .boolean) (v := 0) hx hb hr (rfl) (fun t ht hW => ⟨⟨rfl, ul, 1, by rw [ht]; exact hP9, hD9⟩, hS.F ht⟩) hS.2.2 dX10_smooth_18
set_option maxHeartbeats 4000000 in
set_option maxRecDepth 100000 in
theorem k_grow_x (l : Launch) (dC : Nat → ClassId) (dI : Nat → Nat → Nat) (cI cZ cF : ClassId) (sz : Nat) (x : Nat) (sh : Nat) (lw : Nat) (ro : Nat) (bq : Nat) (bp : Nat) (dq : Nat) (dp : Nat) (lv : Nat) (sl : Nat) (sd : Int32) (ul : Int32) (su : Int32) (ds : Int32) (fa : Nat) (ft : Nat) (FA : Nat → Option Nat) (v : Int32) (h200 : ft ≤ 200) (hv : ¬ (0 ≤ v.toInt ∧ v.toInt < ((ft : Nat) : Int))) : zM l yX10_grow cX10_grow 4 (some .boolean) ({ frames := 2, cells := 0, slots := 0, locals := 42 } : Room) [.ref x, .int v] (dC, dI) (zTy cI cZ cF) [(oc8 x (.ref sh) (.ref lw) (.ref ro) (.ref bq) (.ref bp) (.ref dq) (.ref dp) (.ref lv) (.ref sl) ds sd ul su), (oc7 sh (.ref fa) (nI ft)), (oq fa cF 200 FA)] sz (some (.int 0)) (fun A t => ∃ (ul1 : Int32), ∃ (su1 : Int32), zPD (dC, dI) classes A [(oc8 x (.ref sh) (.ref lw) (.ref ro) (.ref bq) (.ref bp) (.ref dq) (.ref dp) (.ref lv) (.ref sl) ds sd ul1 su1), (oc7 sh (.ref fa) (nI ft)), (oq fa cF 200 FA)] t.heap) 0 0 := by
  refine zIn (own := "ScaleShop") (loc := [(0, .ref x), (1, .int v)]) rfl rfl rfl rfl (fun p e s m below meth c hx hb hr hts hown hlocks hml hnm9 A hA hS hP hD hK hXN Q9 hQ9 ls hl => ?_)
  refine lv_aload_n hx hb dX10_grow_0 rfl (lv_at hl 0 rfl) ?_
  refine va_get (D := (dC, dI)) (ci := 8) (v := .ref sh) (C := RX10) (T := TX10) (N := 13) hx hb hts inX10 hown hK hP 0 rfl rfl 0 (Nat.le_of_ble_eq_true rfl) (hts _ mw_309) (fun _ h9 => h9) rfl dX10_grow_1 ?_
  refine lv_iload_n hx hb dX10_grow_4 rfl (lv_at hl 1 rfl) ?_
  obtain ⟨hPc, hDc, hFc, hI1⟩ := zi_sub (wc := [_, _]) hP hD hS hA [1, 2] rfl rfl
  refine zcall (st1 := [.null]) (va_runV (As := [.int v]) (rest := []) ⟨hx, hb, hml, hown, hts⟩ (k_Sheet_find_n l dC dI cI cZ cF s.heap.size sh fa ft FA v (by first | with_reducible assumption | omega) (by first | with_reducible assumption | assumption)) (csV_94 hts rfl rfl ⟨Nat.le_of_ble_eq_true rfl, Nat.le_of_ble_eq_true rfl⟩) (zPV2 (q0 := 0) (ci := 7) hPc hDc hK hXN rfl rfl) rfl rfl hl.1 rfl (lv_room (Nat.le_of_ble_eq_true rfl)) dX10_grow_5 ⟨Nat.le_of_ble_eq_true rfl, Nat.le_of_ble_eq_true rfl⟩) hS hFc hFc rfl (fun t H locs ht hB hk1 hS => ?_)
  obtain ⟨hP1, hD1⟩ := hB
  rw [ht] at hP1
  replace hP := z0 hP hD hk1 hP1 hI1
  clear hk1 hPc hDc hFc hP1 hD1 ht hI1
  refine lv_astore_nN (lv' := [(2, .null), (0, .ref x), (1, .int v)]) hx hb dX10_grow_8 rfl hl (Nat.le_of_ble_eq_true rfl) rfl (fun ls hl => ?_)
  refine lv_aload_nN hx hb dX10_grow_9 rfl (lv_at hl 0 rfl) ?_
  refine lv_ifnonnullN hx hb dX10_grow_10 ?_
  refine lv_aload_n hx hb dX10_grow_13 rfl (lv_at hl 1 rfl) ?_
  refine lv_iconst (v := 1) hx hb dX10_grow_14 rfl ?_
  obtain ⟨hPc, hDc, hFc⟩ := zo_sub (wc := [_]) hP hD hS hA [0] rfl rfl
  refine zcall (st1 := [.int 0]) (va_runV (As := [.int 1]) (rest := []) ⟨hx, hb, hml, hown, hts⟩ (k_deny_1 l dC dI cI cZ cF H.size x sh lw ro bq bp dq dp lv sl sd ul su ds ) (csV_96 hts rfl rfl ⟨Nat.le_of_ble_eq_true rfl, Nat.le_of_ble_eq_true rfl⟩) (zPV2 (q0 := 0) (ci := 8) hPc hDc hK hXN rfl rfl) rfl rfl hl.1 rfl (lv_room (Nat.le_of_ble_eq_true rfl)) dX10_grow_15 ⟨Nat.le_of_ble_eq_true rfl, Nat.le_of_ble_eq_true rfl⟩) hS hFc hFc rfl (fun t H locs ht hB hk1 hS => ?_)
  obtain ⟨hP1, hD1⟩ := hB
  rw [ht] at hP1
  obtain ⟨hP, hD⟩ := zn (W2 := [(oc8 x (.ref sh) (.ref lw) (.ref ro) (.ref bq) (.ref bp) (.ref dq) (.ref dp) (.ref lv) (.ref sl) ds sd ul 1), _, _]) hP hD hk1 hFc hP1 hD1 [0] [false, true, true] [false, true, true] [0] (by decide +kernel) rfl rfl rfl rfl rfl
  clear hk1 hPc hDc hFc hP1 hD1 ht
  obtain ⟨hP9, hD9⟩ := zu_sub (wc := [_, _, _]) hP hD [true, true, true] rfl rfl
  rw [hQ9]
  exact W.zret (ty := .boolean) (v := 0) hx hb hr (rfl) (fun t ht hW => ⟨⟨rfl, ul, 1, by rw [ht]; exact hP9, hD9⟩, hS.F ht⟩) hS.2.2 dX10_grow_18
set_option maxHeartbeats 4000000 in
set_option maxRecDepth 100000 in
theorem k_square_x (l : Launch) (dC : Nat → ClassId) (dI : Nat → Nat → Nat) (cI cZ cF : ClassId) (sz : Nat) (x : Nat) (sh : Nat) (lw : Nat) (ro : Nat) (bq : Nat) (bp : Nat) (dq : Nat) (dp : Nat) (lv : Nat) (sl : Nat) (sd : Int32) (ul : Int32) (su : Int32) (ds : Int32) (fa : Nat) (ft : Nat) (FA : Nat → Option Nat) (v : Int32) (ms : Int32) (h200 : ft ≤ 200) (hv : ¬ (0 ≤ v.toInt ∧ v.toInt < ((ft : Nat) : Int))) : zM l yX10_square cX10_square 5 (some .boolean) ({ frames := 2, cells := 0, slots := 0, locals := 42 } : Room) [.ref x, .int v, .int ms] (dC, dI) (zTy cI cZ cF) [(oc8 x (.ref sh) (.ref lw) (.ref ro) (.ref bq) (.ref bp) (.ref dq) (.ref dp) (.ref lv) (.ref sl) ds sd ul su), (oc7 sh (.ref fa) (nI ft)), (oq fa cF 200 FA)] sz (some (.int 0)) (fun A t => ∃ (ul1 : Int32), ∃ (su1 : Int32), zPD (dC, dI) classes A [(oc8 x (.ref sh) (.ref lw) (.ref ro) (.ref bq) (.ref bp) (.ref dq) (.ref dp) (.ref lv) (.ref sl) ds sd ul1 su1), (oc7 sh (.ref fa) (nI ft)), (oq fa cF 200 FA)] t.heap) 0 0 := by
  refine zIn (own := "ScaleShop") (loc := [(0, .ref x), (1, .int v), (2, .int ms)]) rfl rfl rfl rfl (fun p e s m below meth c hx hb hr hts hown hlocks hml hnm9 A hA hS hP hD hK hXN Q9 hQ9 ls hl => ?_)
  refine lv_aload_n hx hb dX10_square_0 rfl (lv_at hl 0 rfl) ?_
  refine va_get (D := (dC, dI)) (ci := 8) (v := .ref sh) (C := RX10) (T := TX10) (N := 13) hx hb hts inX10 hown hK hP 0 rfl rfl 0 (Nat.le_of_ble_eq_true rfl) (hts _ mw_309) (fun _ h9 => h9) rfl dX10_square_1 ?_
  refine lv_iload_n hx hb dX10_square_4 rfl (lv_at hl 1 rfl) ?_
  obtain ⟨hPc, hDc, hFc, hI1⟩ := zi_sub (wc := [_, _]) hP hD hS hA [1, 2] rfl rfl
  refine zcall (st1 := [.null]) (va_runV (As := [.int v]) (rest := []) ⟨hx, hb, hml, hown, hts⟩ (k_Sheet_find_n l dC dI cI cZ cF s.heap.size sh fa ft FA v (by first | with_reducible assumption | omega) (by first | with_reducible assumption | assumption)) (csV_94 hts rfl rfl ⟨Nat.le_of_ble_eq_true rfl, Nat.le_of_ble_eq_true rfl⟩) (zPV2 (q0 := 0) (ci := 7) hPc hDc hK hXN rfl rfl) rfl rfl hl.1 rfl (lv_room (Nat.le_of_ble_eq_true rfl)) dX10_square_5 ⟨Nat.le_of_ble_eq_true rfl, Nat.le_of_ble_eq_true rfl⟩) hS hFc hFc rfl (fun t H locs ht hB hk1 hS => ?_)
  obtain ⟨hP1, hD1⟩ := hB
  rw [ht] at hP1
  replace hP := z0 hP hD hk1 hP1 hI1
  clear hk1 hPc hDc hFc hP1 hD1 ht hI1
  refine lv_astore_nN (lv' := [(3, .null), (0, .ref x), (1, .int v), (2, .int ms)]) hx hb dX10_square_8 rfl hl (Nat.le_of_ble_eq_true rfl) rfl (fun ls hl => ?_)
  refine lv_aload_nN hx hb dX10_square_9 rfl (lv_at hl 0 rfl) ?_
  refine lv_ifnonnullN hx hb dX10_square_10 ?_
  refine lv_aload_n hx hb dX10_square_13 rfl (lv_at hl 1 rfl) ?_
  refine lv_iconst (v := 1) hx hb dX10_square_14 rfl ?_
  obtain ⟨hPc, hDc, hFc⟩ := zo_sub (wc := [_]) hP hD hS hA [0] rfl rfl
  refine zcall (st1 := [.int 0]) (va_runV (As := [.int 1]) (rest := []) ⟨hx, hb, hml, hown, hts⟩ (k_deny_1 l dC dI cI cZ cF H.size x sh lw ro bq bp dq dp lv sl sd ul su ds ) (csV_96 hts rfl rfl ⟨Nat.le_of_ble_eq_true rfl, Nat.le_of_ble_eq_true rfl⟩) (zPV2 (q0 := 0) (ci := 8) hPc hDc hK hXN rfl rfl) rfl rfl hl.1 rfl (lv_room (Nat.le_of_ble_eq_true rfl)) dX10_square_15 ⟨Nat.le_of_ble_eq_true rfl, Nat.le_of_ble_eq_true rfl⟩) hS hFc hFc rfl (fun t H locs ht hB hk1 hS => ?_)
  obtain ⟨hP1, hD1⟩ := hB
  rw [ht] at hP1
  obtain ⟨hP, hD⟩ := zn (W2 := [(oc8 x (.ref sh) (.ref lw) (.ref ro) (.ref bq) (.ref bp) (.ref dq) (.ref dp) (.ref lv) (.ref sl) ds sd ul 1), _, _]) hP hD hk1 hFc hP1 hD1 [0] [false, true, true] [false, true, true] [0] (by decide +kernel) rfl rfl rfl rfl rfl
  clear hk1 hPc hDc hFc hP1 hD1 ht
  obtain ⟨hP9, hD9⟩ := zu_sub (wc := [_, _, _]) hP hD [true, true, true] rfl rfl
  rw [hQ9]
  exact W.zret (ty := .boolean) (v := 0) hx hb hr (rfl) (fun t ht hW => ⟨⟨rfl, ul, 1, by rw [ht]; exact hP9, hD9⟩, hS.F ht⟩) hS.2.2 dX10_square_18
set_option maxHeartbeats 4000000 in
set_option maxRecDepth 100000 in
theorem k_corner_x (l : Launch) (dC : Nat → ClassId) (dI : Nat → Nat → Nat) (cI cZ cF : ClassId) (sz : Nat) (x : Nat) (sh : Nat) (lw : Nat) (ro : Nat) (bq : Nat) (bp : Nat) (dq : Nat) (dp : Nat) (lv : Nat) (sl : Nat) (sd : Int32) (ul : Int32) (su : Int32) (ds : Int32) (fa : Nat) (ft : Nat) (FA : Nat → Option Nat) (v : Int32) (px : Int32) (py : Int32) (h200 : ft ≤ 200) (hv : ¬ (0 ≤ v.toInt ∧ v.toInt < ((ft : Nat) : Int))) : zM l yX10_corner cX10_corner 6 (some .int) ({ frames := 1, cells := 0, slots := 0, locals := 21 } : Room) [.ref x, .int v, .int px, .int py] (dC, dI) (zTy cI cZ cF) [(oc8 x (.ref sh) (.ref lw) (.ref ro) (.ref bq) (.ref bp) (.ref dq) (.ref dp) (.ref lv) (.ref sl) ds sd ul su), (oc7 sh (.ref fa) (nI ft)), (oq fa cF 200 FA)] sz (some (.int (-1))) (fun A t => ∃ (ul1 : Int32), ∃ (su1 : Int32), zPD (dC, dI) classes A [(oc8 x (.ref sh) (.ref lw) (.ref ro) (.ref bq) (.ref bp) (.ref dq) (.ref dp) (.ref lv) (.ref sl) ds sd ul1 su1), (oc7 sh (.ref fa) (nI ft)), (oq fa cF 200 FA)] t.heap) 0 0 := by
  refine zIn (own := "ScaleShop") (loc := [(0, .ref x), (1, .int v), (2, .int px), (3, .int py)]) rfl rfl rfl rfl (fun p e s m below meth c hx hb hr hts hown hlocks hml hnm9 A hA hS hP hD hK hXN Q9 hQ9 ls hl => ?_)
  refine lv_aload_n hx hb dX10_corner_0 rfl (lv_at hl 0 rfl) ?_
  refine va_get (D := (dC, dI)) (ci := 8) (v := .ref sh) (C := RX10) (T := TX10) (N := 13) hx hb hts inX10 hown hK hP 0 rfl rfl 0 (Nat.le_of_ble_eq_true rfl) (hts _ mw_309) (fun _ h9 => h9) rfl dX10_corner_1 ?_
  refine lv_iload_n hx hb dX10_corner_4 rfl (lv_at hl 1 rfl) ?_
  obtain ⟨hPc, hDc, hFc, hI1⟩ := zi_sub (wc := [_, _]) hP hD hS hA [1, 2] rfl rfl
  refine zcall (st1 := [.null]) (va_runV (As := [.int v]) (rest := []) ⟨hx, hb, hml, hown, hts⟩ (k_Sheet_find_n l dC dI cI cZ cF s.heap.size sh fa ft FA v (by first | with_reducible assumption | omega) (by first | with_reducible assumption | assumption)) (csV_94 hts rfl rfl ⟨Nat.le_of_ble_eq_true rfl, Nat.le_of_ble_eq_true rfl⟩) (zPV2 (q0 := 0) (ci := 7) hPc hDc hK hXN rfl rfl) rfl rfl hl.1 rfl (lv_room (Nat.le_of_ble_eq_true rfl)) dX10_corner_5 ⟨Nat.le_of_ble_eq_true rfl, Nat.le_of_ble_eq_true rfl⟩) hS hFc hFc rfl (fun t H locs ht hB hk1 hS => ?_)
  obtain ⟨hP1, hD1⟩ := hB
  rw [ht] at hP1
  replace hP := z0 hP hD hk1 hP1 hI1
  clear hk1 hPc hDc hFc hP1 hD1 ht hI1
  refine lv_astoreN (lv' := [(4, .null), (0, .ref x), (1, .int v), (2, .int px), (3, .int py)]) hx hb dX10_corner_8 hl (Nat.le_of_ble_eq_true rfl) rfl (fun ls hl => ?_)
  refine lv_aloadN hx hb dX10_corner_10 (lv_at hl 0 rfl) ?_
  refine lv_ifnonnullN hx hb dX10_corner_12 ?_
  refine lv_aload_n hx hb dX10_corner_15 rfl (lv_at hl 1 rfl) ?_
  refine lv_iconst (v := 1) hx hb dX10_corner_16 rfl ?_
  obtain ⟨hPc, hDc, hFc⟩ := zo_sub (wc := [_]) hP hD hS hA [0] rfl rfl
  refine zcall (st1 := [.int (-1)]) (va_runV (As := [.int 1]) (rest := []) ⟨hx, hb, hml, hown, hts⟩ (k_refuse_1 l dC dI cI cZ cF H.size x sh lw ro bq bp dq dp lv sl sd ul su ds ) (csV_95 hts rfl rfl ⟨Nat.le_of_ble_eq_true rfl, Nat.le_of_ble_eq_true rfl⟩) (zPV2 (q0 := 0) (ci := 8) hPc hDc hK hXN rfl rfl) rfl rfl hl.1 rfl (lv_room (Nat.le_of_ble_eq_true rfl)) dX10_corner_17 ⟨Nat.le_of_ble_eq_true rfl, Nat.le_of_ble_eq_true rfl⟩) hS hFc hFc rfl (fun t H locs ht hB hk1 hS => ?_)
  obtain ⟨hP1, hD1⟩ := hB
  rw [ht] at hP1
  obtain ⟨hP, hD⟩ := zn (W2 := [(oc8 x (.ref sh) (.ref lw) (.ref ro) (.ref bq) (.ref bp) (.ref dq) (.ref dp) (.ref lv) (.ref sl) ds sd ul 1), _, _]) hP hD hk1 hFc hP1 hD1 [0] [false, true, true] [false, true, true] [0] (by decide +kernel) rfl rfl rfl rfl rfl
  clear hk1 hPc hDc hFc hP1 hD1 ht
  obtain ⟨hP9, hD9⟩ := zu_sub (wc := [_, _, _]) hP hD [true, true, true] rfl rfl
  rw [hQ9]
  exact W.iret (v := (-1)) hx hb hr (fun t ht hW => ⟨⟨rfl, ul, 1, by rw [ht]; exact hP9, hD9⟩, hS.F ht⟩) hS.2.2 dX10_corner_20
set_option maxHeartbeats 4000000 in
set_option maxRecDepth 100000 in
theorem k_plainer_x (l : Launch) (dC : Nat → ClassId) (dI : Nat → Nat → Nat) (cI cZ cF : ClassId) (sz : Nat) (x : Nat) (sh : Nat) (lw : Nat) (ro : Nat) (bq : Nat) (bp : Nat) (dq : Nat) (dp : Nat) (lv : Nat) (sl : Nat) (sd : Int32) (ul : Int32) (su : Int32) (ds : Int32) (fa : Nat) (ft : Nat) (FA : Nat → Option Nat) (v : Int32) (lim : Int32) (h200 : ft ≤ 200) (hv : ¬ (0 ≤ v.toInt ∧ v.toInt < ((ft : Nat) : Int))) : zM l yX10_plainer cX10_plainer 5 (some .int) ({ frames := 1, cells := 0, slots := 0, locals := 21 } : Room) [.ref x, .int v, .int lim] (dC, dI) (zTy cI cZ cF) [(oc8 x (.ref sh) (.ref lw) (.ref ro) (.ref bq) (.ref bp) (.ref dq) (.ref dp) (.ref lv) (.ref sl) ds sd ul su), (oc7 sh (.ref fa) (nI ft)), (oq fa cF 200 FA)] sz (some (.int (-1))) (fun A t => ∃ (ul1 : Int32), ∃ (su1 : Int32), zPD (dC, dI) classes A [(oc8 x (.ref sh) (.ref lw) (.ref ro) (.ref bq) (.ref bp) (.ref dq) (.ref dp) (.ref lv) (.ref sl) ds sd ul1 su1), (oc7 sh (.ref fa) (nI ft)), (oq fa cF 200 FA)] t.heap) 0 0 := by
  refine zIn (own := "ScaleShop") (loc := [(0, .ref x), (1, .int v), (2, .int lim)]) rfl rfl rfl rfl (fun p e s m below meth c hx hb hr hts hown hlocks hml hnm9 A hA hS hP hD hK hXN Q9 hQ9 ls hl => ?_)
  refine lv_aload_n hx hb dX10_plainer_0 rfl (lv_at hl 0 rfl) ?_
  refine va_get (D := (dC, dI)) (ci := 8) (v := .ref sh) (C := RX10) (T := TX10) (N := 13) hx hb hts inX10 hown hK hP 0 rfl rfl 0 (Nat.le_of_ble_eq_true rfl) (hts _ mw_309) (fun _ h9 => h9) rfl dX10_plainer_1 ?_
  refine lv_iload_n hx hb dX10_plainer_4 rfl (lv_at hl 1 rfl) ?_
  obtain ⟨hPc, hDc, hFc, hI1⟩ := zi_sub (wc := [_, _]) hP hD hS hA [1, 2] rfl rfl
  refine zcall (st1 := [.null]) (va_runV (As := [.int v]) (rest := []) ⟨hx, hb, hml, hown, hts⟩ (k_Sheet_find_n l dC dI cI cZ cF s.heap.size sh fa ft FA v (by first | with_reducible assumption | omega) (by first | with_reducible assumption | assumption)) (csV_94 hts rfl rfl ⟨Nat.le_of_ble_eq_true rfl, Nat.le_of_ble_eq_true rfl⟩) (zPV2 (q0 := 0) (ci := 7) hPc hDc hK hXN rfl rfl) rfl rfl hl.1 rfl (lv_room (Nat.le_of_ble_eq_true rfl)) dX10_plainer_5 ⟨Nat.le_of_ble_eq_true rfl, Nat.le_of_ble_eq_true rfl⟩) hS hFc hFc rfl (fun t H locs ht hB hk1 hS => ?_)
  obtain ⟨hP1, hD1⟩ := hB
  rw [ht] at hP1
  replace hP := z0 hP hD hk1 hP1 hI1
  clear hk1 hPc hDc hFc hP1 hD1 ht hI1
  refine lv_astore_nN (lv' := [(3, .null), (0, .ref x), (1, .int v), (2, .int lim)]) hx hb dX10_plainer_8 rfl hl (Nat.le_of_ble_eq_true rfl) rfl (fun ls hl => ?_)
  refine lv_aload_nN hx hb dX10_plainer_9 rfl (lv_at hl 0 rfl) ?_
  refine lv_ifnonnullN hx hb dX10_plainer_10 ?_
  refine lv_aload_n hx hb dX10_plainer_13 rfl (lv_at hl 1 rfl) ?_
  refine lv_iconst (v := 1) hx hb dX10_plainer_14 rfl ?_
  obtain ⟨hPc, hDc, hFc⟩ := zo_sub (wc := [_]) hP hD hS hA [0] rfl rfl
  refine zcall (st1 := [.int (-1)]) (va_runV (As := [.int 1]) (rest := []) ⟨hx, hb, hml, hown, hts⟩ (k_refuse_1 l dC dI cI cZ cF H.size x sh lw ro bq bp dq dp lv sl sd ul su ds ) (csV_95 hts rfl rfl ⟨Nat.le_of_ble_eq_true rfl, Nat.le_of_ble_eq_true rfl⟩) (zPV2 (q0 := 0) (ci := 8) hPc hDc hK hXN rfl rfl) rfl rfl hl.1 rfl (lv_room (Nat.le_of_ble_eq_true rfl)) dX10_plainer_15 ⟨Nat.le_of_ble_eq_true rfl, Nat.le_of_ble_eq_true rfl⟩) hS hFc hFc rfl (fun t H locs ht hB hk1 hS => ?_)
  obtain ⟨hP1, hD1⟩ := hB
  rw [ht] at hP1
  obtain ⟨hP, hD⟩ := zn (W2 := [(oc8 x (.ref sh) (.ref lw) (.ref ro) (.ref bq) (.ref bp) (.ref dq) (.ref dp) (.ref lv) (.ref sl) ds sd ul 1), _, _]) hP hD hk1 hFc hP1 hD1 [0] [false, true, true] [false, true, true] [0] (by decide +kernel) rfl rfl rfl rfl rfl
  clear hk1 hPc hDc hFc hP1 hD1 ht
  obtain ⟨hP9, hD9⟩ := zu_sub (wc := [_, _, _]) hP hD [true, true, true] rfl rfl
  rw [hQ9]
  exact W.iret (v := (-1)) hx hb hr (fun t ht hW => ⟨⟨rfl, ul, 1, by rw [ht]; exact hP9, hD9⟩, hS.F ht⟩) hS.2.2 dX10_plainer_18
set_option maxHeartbeats 4000000 in
set_option maxRecDepth 100000 in
theorem k_Feature_bends_v (l : Launch) (dC : Nat → ClassId) (dI : Nat → Nat → Nat) (cI cZ cF : ClassId) (sz : Nat) (fe : Nat) (lo : Nat) (rk9 : Int32) (wd9 : Int32) (tw9 : Int32) (pa9 : Int32) (pb9 : Int32) (lk : Nat) (kd9 : Int32) (st9 : Int32) (gb9 : Int32) (jt9 : Int32) (we9 : Int32) (fm9 : Value) (rw9 : Value) : zM l yX2_bends cX2_bends 1 (some .boolean) ({ frames := 0, cells := 0, slots := 0, locals := 0 } : Room) [.ref fe] (dC, dI) (zTy cI cZ cF) [(oc1 fe rk9 wd9 tw9 pa9 pb9 (.ref lo) (.ref lk) fm9), (oc4 lk kd9 st9 rw9 gb9 jt9 we9)] sz (some (.int (pI (1 ≤ kd9.toInt ∧ kd9.toInt ≤ 5)))) (fun A t => zPD (dC, dI) classes A [(oc1 fe rk9 wd9 tw9 pa9 pb9 (.ref lo) (.ref lk) fm9), (oc4 lk kd9 st9 rw9 gb9 jt9 we9)] t.heap) 0 0 := by
  refine zIn (own := "ScaleShop$Feature") (loc := [(0, .ref fe)]) rfl rfl rfl rfl (fun p e s m below meth c hx hb hr hts hown hlocks hml hnm9 A hA hS hP hD hK hXN Q9 hQ9 ls hl => ?_)
  refine lv_aload_n hx hb dX2_bends_0 rfl (lv_at hl 0 rfl) ?_
  refine va_get (D := (dC, dI)) (ci := 1) (v := .ref lk) (C := RX2) (T := TX2) (N := 8) hx hb hts inX2 hown hK hP 0 rfl rfl 6 (Nat.le_of_ble_eq_true rfl) (hts _ mw_429) (fun _ h9 => h9) rfl dX2_bends_1 ?_
  refine va_get (D := (dC, dI)) (ci := 4) (v := .int kd9) (C := RX5) (T := TX5) (N := 6) hx hb hts inX5 hown hK hP 1 rfl rfl 0 (Nat.le_of_ble_eq_true rfl) (hts _ mw_379) (fun _ h9 => h9) rfl dX2_bends_4 ?_
  refine lv_if_le (tgt := 25) hx hb dX2_bends_7 rfl (fun c_1 => ?_) (fun c_1 => ?_)
  · have c_1 : kd9.toInt ≤ 0 := zc_le rfl rfl c_1
    refine lv_iconst (v := 0) hx hb dX2_bends_25 rfl ?_
    obtain ⟨hP9, hD9⟩ := zu_sub (wc := [_, _]) hP hD [true, true] rfl rfl
    rw [hQ9]
    exact W.zret (ty := .boolean) (v := 0) hx hb hr (rfl) (fun t ht hW => ⟨⟨congrArg (fun z => Outcome.returned (some (Value.int z))) (show (0 : Int32) = pI (1 ≤ kd9.toInt ∧ kd9.toInt ≤ 5) from (zp_f (by omega)).symm), by rw [ht]; exact hP9, hD9⟩, hS.F ht⟩) hS.2.2 dX2_bends_26
  · have c_1 : 0 < kd9.toInt := zc_nle rfl rfl c_1
    refine lv_aload_n hx hb dX2_bends_10 rfl (lv_at hl 0 rfl) ?_
    refine va_get (D := (dC, dI)) (ci := 1) (v := .ref lk) (C := RX2) (T := TX2) (N := 8) hx hb hts inX2 hown hK hP 0 rfl rfl 6 (Nat.le_of_ble_eq_true rfl) (hts _ mw_429) (fun _ h9 => h9) rfl dX2_bends_11 ?_
    refine va_get (D := (dC, dI)) (ci := 4) (v := .int kd9) (C := RX5) (T := TX5) (N := 6) hx hb hts inX5 hown hK hP 1 rfl rfl 0 (Nat.le_of_ble_eq_true rfl) (hts _ mw_379) (fun _ h9 => h9) rfl dX2_bends_14 ?_
    refine lv_iconst (v := 5) hx hb dX2_bends_17 rfl ?_
    refine lv_icmp_gt (tgt := 25) hx hb dX2_bends_18 rfl (fun c_2 => ?_) (fun c_2 => ?_)
    · have c_2 : 5 < kd9.toInt := zc_lt rfl rfl c_2
      refine lv_iconst (v := 0) hx hb dX2_bends_25 rfl ?_
      obtain ⟨hP9, hD9⟩ := zu_sub (wc := [_, _]) hP hD [true, true] rfl rfl
      rw [hQ9]
      exact W.zret (ty := .boolean) (v := 0) hx hb hr (rfl) (fun t ht hW => ⟨⟨congrArg (fun z => Outcome.returned (some (Value.int z))) (show (0 : Int32) = pI (1 ≤ kd9.toInt ∧ kd9.toInt ≤ 5) from (zp_f (by omega)).symm), by rw [ht]; exact hP9, hD9⟩, hS.F ht⟩) hS.2.2 dX2_bends_26
    · have c_2 : kd9.toInt ≤ 5 := zc_nlt rfl rfl c_2
      refine lv_iconst (v := 1) hx hb dX2_bends_21 rfl ?_
      refine lv_goto (tgt := 26) hx hb dX2_bends_22 rfl ?_
      obtain ⟨hP9, hD9⟩ := zu_sub (wc := [_, _]) hP hD [true, true] rfl rfl
      rw [hQ9]
      exact W.zret (ty := .boolean) (v := 1) hx hb hr (rfl) (fun t ht hW => ⟨⟨congrArg (fun z => Outcome.returned (some (Value.int z))) (show (1 : Int32) = pI (1 ≤ kd9.toInt ∧ kd9.toInt ≤ 5) from (zp_t (by omega)).symm), by rw [ht]; exact hP9, hD9⟩, hS.F ht⟩) hS.2.2 dX2_bends_26
set_option maxHeartbeats 4000000 in
set_option maxRecDepth 100000 in
theorem k_Feature_mayHaveCorner_vr (l : Launch) (dC : Nat → ClassId) (dI : Nat → Nat → Nat) (cI cZ cF : ClassId) (sz : Nat) (fe : Nat) (lo : Nat) (rk9 : Int32) (wd9 : Int32) (tw9 : Int32) (pa9 : Int32) (pb9 : Int32) (lk : Nat) (kd9 : Int32) (st9 : Int32) (gb9 : Int32) (jt9 : Int32) (we9 : Int32) (r : Nat) (rx : Nat) (ry : Nat) (n : Nat) (fm9 : Value) (kv : Int32) (rg : Int32) (hn : n ≤ 1000) : zM l yX2_mayHaveCorner cX2_mayHaveCorner 2 (some .boolean) ({ frames := 0, cells := 0, slots := 0, locals := 0 } : Room) [.ref fe, .int kv] (dC, dI) (zTy cI cZ cF) [(oc1 fe rk9 wd9 tw9 pa9 pb9 (.ref lo) (.ref lk) fm9), (oc4 lk kd9 st9 (.ref r) gb9 jt9 we9), (oc6 r (.ref rx) (.ref ry) (nI n) rg)] sz (some (.int (pI (0 ≤ kv.toInt ∧ kv.toInt < ((n : Nat) : Int))))) (fun A t => zPD (dC, dI) classes A [(oc1 fe rk9 wd9 tw9 pa9 pb9 (.ref lo) (.ref lk) fm9), (oc4 lk kd9 st9 (.ref r) gb9 jt9 we9), (oc6 r (.ref rx) (.ref ry) (nI n) rg)] t.heap) 0 0 := by
  refine zIn (own := "ScaleShop$Feature") (loc := [(0, .ref fe), (1, .int kv)]) rfl rfl rfl rfl (fun p e s m below meth c hx hb hr hts hown hlocks hml hnm9 A hA hS hP hD hK hXN Q9 hQ9 ls hl => ?_)
  refine lv_iload_n hx hb dX2_mayHaveCorner_0 rfl (lv_at hl 1 rfl) ?_
  refine lv_if_lt (tgt := 32) hx hb dX2_mayHaveCorner_1 rfl (fun c_1 => ?_) (fun c_1 => ?_)
  · have c_1 : kv.toInt < 0 := zc_lt rfl rfl c_1
    refine lv_iconst (v := 0) hx hb dX2_mayHaveCorner_32 rfl ?_
    obtain ⟨hP9, hD9⟩ := zu_sub (wc := [_, _, _]) hP hD [true, true, true] rfl rfl
    rw [hQ9]
    exact W.zret (ty := .boolean) (v := 0) hx hb hr (rfl) (fun t ht hW => ⟨⟨congrArg (fun z => Outcome.returned (some (Value.int z))) (show (0 : Int32) = pI (0 ≤ kv.toInt ∧ kv.toInt < ((n : Nat) : Int)) from (zp_f (by omega)).symm), by rw [ht]; exact hP9, hD9⟩, hS.F ht⟩) hS.2.2 dX2_mayHaveCorner_33
  · have c_1 : 0 ≤ kv.toInt := zc_nlt rfl rfl c_1
    refine lv_aload_n hx hb dX2_mayHaveCorner_4 rfl (lv_at hl 0 rfl) ?_
    refine va_get (D := (dC, dI)) (ci := 1) (v := .ref lk) (C := RX2) (T := TX2) (N := 8) hx hb hts inX2 hown hK hP 0 rfl rfl 6 (Nat.le_of_ble_eq_true rfl) (hts _ mw_429) (fun _ h9 => h9) rfl dX2_mayHaveCorner_5 ?_
    refine va_get (D := (dC, dI)) (ci := 4) (v := .ref r) (C := RX5) (T := TX5) (N := 6) hx hb hts inX5 hown hK hP 1 rfl rfl 2 (Nat.le_of_ble_eq_true rfl) (hts _ mw_392) (fun _ h9 => h9) rfl dX2_mayHaveCorner_8 ?_
    refine lv_ifnull hx hb dX2_mayHaveCorner_11 ?_
    refine lv_iload_n hx hb dX2_mayHaveCorner_14 rfl (lv_at hl 1 rfl) ?_
    refine lv_aload_n hx hb dX2_mayHaveCorner_15 rfl (lv_at hl 0 rfl) ?_
    refine va_get (D := (dC, dI)) (ci := 1) (v := .ref lk) (C := RX2) (T := TX2) (N := 8) hx hb hts inX2 hown hK hP 0 rfl rfl 6 (Nat.le_of_ble_eq_true rfl) (hts _ mw_429) (fun _ h9 => h9) rfl dX2_mayHaveCorner_16 ?_
    refine va_get (D := (dC, dI)) (ci := 4) (v := .ref r) (C := RX5) (T := TX5) (N := 6) hx hb hts inX5 hown hK hP 1 rfl rfl 2 (Nat.le_of_ble_eq_true rfl) (hts _ mw_392) (fun _ h9 => h9) rfl dX2_mayHaveCorner_19 ?_
    refine va_get (D := (dC, dI)) (ci := 6) (v := .int (nI n)) (C := RX7) (T := TX7) (N := 4) hx hb hts inX7 hown hK hP 2 rfl rfl 2 (Nat.le_of_ble_eq_true rfl) (hts _ mw_178) (fun _ h9 => h9) rfl dX2_mayHaveCorner_22 ?_
    have b9_3 : zlt (n) := show n < 2147483648 by omega
    refine lv_icmp_ge (tgt := 32) hx hb dX2_mayHaveCorner_25 rfl (fun c_2 => ?_) (fun c_2 => ?_)
    · have c_2 : ((n : Nat) : Int) ≤ kv.toInt := zc_le (nI_toInt b9_3) rfl c_2
      refine lv_iconst (v := 0) hx hb dX2_mayHaveCorner_32 rfl ?_
      obtain ⟨hP9, hD9⟩ := zu_sub (wc := [_, _, _]) hP hD [true, true, true] rfl rfl
      rw [hQ9]
      exact W.zret (ty := .boolean) (v := 0) hx hb hr (rfl) (fun t ht hW => ⟨⟨congrArg (fun z => Outcome.returned (some (Value.int z))) (show (0 : Int32) = pI (0 ≤ kv.toInt ∧ kv.toInt < ((n : Nat) : Int)) from (zp_f (by omega)).symm), by rw [ht]; exact hP9, hD9⟩, hS.F ht⟩) hS.2.2 dX2_mayHaveCorner_33
    · have c_2 : kv.toInt < ((n : Nat) : Int) := zc_nle (nI_toInt b9_3) rfl c_2
      refine lv_iconst (v := 1) hx hb dX2_mayHaveCorner_28 rfl ?_
      refine lv_goto (tgt := 33) hx hb dX2_mayHaveCorner_29 rfl ?_
      obtain ⟨hP9, hD9⟩ := zu_sub (wc := [_, _, _]) hP hD [true, true, true] rfl rfl
      rw [hQ9]
      exact W.zret (ty := .boolean) (v := 1) hx hb hr (rfl) (fun t ht hW => ⟨⟨congrArg (fun z => Outcome.returned (some (Value.int z))) (show (1 : Int32) = pI (0 ≤ kv.toInt ∧ kv.toInt < ((n : Nat) : Int)) from (zp_t (by omega)).symm), by rw [ht]; exact hP9, hD9⟩, hS.F ht⟩) hS.2.2 dX2_mayHaveCorner_33
set_option maxHeartbeats 4000000 in
set_option maxRecDepth 100000 in
theorem k_Feature_mayHaveCorner_vn (l : Launch) (dC : Nat → ClassId) (dI : Nat → Nat → Nat) (cI cZ cF : ClassId) (sz : Nat) (fe : Nat) (lo : Nat) (rk9 : Int32) (wd9 : Int32) (tw9 : Int32) (pa9 : Int32) (pb9 : Int32) (lk : Nat) (kd9 : Int32) (st9 : Int32) (gb9 : Int32) (jt9 : Int32) (we9 : Int32) (fm9 : Value) (kv : Int32) : zM l yX2_mayHaveCorner cX2_mayHaveCorner 2 (some .boolean) ({ frames := 0, cells := 0, slots := 0, locals := 0 } : Room) [.ref fe, .int kv] (dC, dI) (zTy cI cZ cF) [(oc1 fe rk9 wd9 tw9 pa9 pb9 (.ref lo) (.ref lk) fm9), (oc4 lk kd9 st9 .null gb9 jt9 we9)] sz (some (.int (pI (0 ≤ kv.toInt)))) (fun A t => zPD (dC, dI) classes A [(oc1 fe rk9 wd9 tw9 pa9 pb9 (.ref lo) (.ref lk) fm9), (oc4 lk kd9 st9 .null gb9 jt9 we9)] t.heap) 0 0 := by
  refine zIn (own := "ScaleShop$Feature") (loc := [(0, .ref fe), (1, .int kv)]) rfl rfl rfl rfl (fun p e s m below meth c hx hb hr hts hown hlocks hml hnm9 A hA hS hP hD hK hXN Q9 hQ9 ls hl => ?_)
  refine lv_iload_n hx hb dX2_mayHaveCorner_0 rfl (lv_at hl 1 rfl) ?_
  refine lv_if_lt (tgt := 32) hx hb dX2_mayHaveCorner_1 rfl (fun c_1 => ?_) (fun c_1 => ?_)
  · have c_1 : kv.toInt < 0 := zc_lt rfl rfl c_1
    refine lv_iconst (v := 0) hx hb dX2_mayHaveCorner_32 rfl ?_
    obtain ⟨hP9, hD9⟩ := zu_sub (wc := [_, _]) hP hD [true, true] rfl rfl
    rw [hQ9]
    exact W.zret (ty := .boolean) (v := 0) hx hb hr (rfl) (fun t ht hW => ⟨⟨congrArg (fun z => Outcome.returned (some (Value.int z))) (show (0 : Int32) = pI (0 ≤ kv.toInt) from (zp_f (by omega)).symm), by rw [ht]; exact hP9, hD9⟩, hS.F ht⟩) hS.2.2 dX2_mayHaveCorner_33
  · have c_1 : 0 ≤ kv.toInt := zc_nlt rfl rfl c_1
    refine lv_aload_n hx hb dX2_mayHaveCorner_4 rfl (lv_at hl 0 rfl) ?_
    refine va_get (D := (dC, dI)) (ci := 1) (v := .ref lk) (C := RX2) (T := TX2) (N := 8) hx hb hts inX2 hown hK hP 0 rfl rfl 6 (Nat.le_of_ble_eq_true rfl) (hts _ mw_429) (fun _ h9 => h9) rfl dX2_mayHaveCorner_5 ?_
    refine va_get (D := (dC, dI)) (ci := 4) (v := .null) (C := RX5) (T := TX5) (N := 6) hx hb hts inX5 hown hK hP 1 rfl rfl 2 (Nat.le_of_ble_eq_true rfl) (hts _ mw_392) (fun _ h9 => h9) rfl dX2_mayHaveCorner_8 ?_
    refine lv_ifnullN (tgt := 28) hx hb dX2_mayHaveCorner_11 rfl ?_
    refine lv_iconst (v := 1) hx hb dX2_mayHaveCorner_28 rfl ?_
    refine lv_goto (tgt := 33) hx hb dX2_mayHaveCorner_29 rfl ?_
    obtain ⟨hP9, hD9⟩ := zu_sub (wc := [_, _]) hP hD [true, true] rfl rfl
    rw [hQ9]
    exact W.zret (ty := .boolean) (v := 1) hx hb hr (rfl) (fun t ht hW => ⟨⟨congrArg (fun z => Outcome.returned (some (Value.int z))) (show (1 : Int32) = pI (0 ≤ kv.toInt) from (zp_t (by omega)).symm), by rw [ht]; exact hP9, hD9⟩, hS.F ht⟩) hS.2.2 dX2_mayHaveCorner_33
set_option maxHeartbeats 4000000 in
set_option maxRecDepth 100000 in
theorem k_drop_r (l : Launch) (dC : Nat → ClassId) (dI : Nat → Nat → Nat) (cI cZ cF : ClassId) (sz : Nat) (x : Nat) (sh : Nat) (lw : Nat) (ro : Nat) (bq : Nat) (bp : Nat) (dq : Nat) (dp : Nat) (lv : Nat) (sl : Nat) (sd : Int32) (ul : Int32) (su : Int32) (ds : Int32) (fa : Nat) (ft : Nat) (FA : Nat → Option Nat) (f0 : Nat) (L : List Nat) (f : Nat → va_E) (kd : Nat → Int32) (st : Nat → Int32) (tn : Nat → Int32) (mn : Nat → Int32) (cx : Nat → Int32) (cy : Nat → Int32) (h200 : ft ≤ 200) (hf0 : f0 < ft) (hvw : ∀ q, q < ft → vwO cI L f FA kd st tn mn cx cy q) (hbad : ¬ ((st f0).toInt = 1 ∧ (tn f0).toInt = 0)) : zM l yX10_drop cX10_drop 3 (some .boolean) ({ frames := 2, cells := 0, slots := 0, locals := 42 } : Room) [.ref x, .int (nI f0)] (dC, dI) (zTy cI cZ cF) ([(oc8 x (.ref sh) (.ref lw) (.ref ro) (.ref bq) (.ref bp) (.ref dq) (.ref dp) (.ref lv) (.ref sl) ds sd ul su), (oc7 sh (.ref fa) (nI ft)), (oq fa cF 200 FA)] ++ va_pl L f) sz (some (.int 0)) (fun A t => ∃ (ul1 : Int32), ∃ (su1 : Int32), zPD (dC, dI) classes A ([(oc8 x (.ref sh) (.ref lw) (.ref ro) (.ref bq) (.ref bp) (.ref dq) (.ref dp) (.ref lv) (.ref sl) ds sd ul1 su1), (oc7 sh (.ref fa) (nI ft)), (oq fa cF 200 FA)] ++ va_pl L f) t.heap) 0 0 := by
  refine zIn (own := "ScaleShop") (loc := [(0, .ref x), (1, .int (nI f0))]) rfl rfl rfl rfl (fun p e s m below meth c hx hb hr hts hown hlocks hml hnm9 A hA hS hP hD hK hXN Q9 hQ9 ls hl => ?_)
  rcases vw2 (hvw f0 (show f0 < ft by omega)) with ⟨ht2, fe2, lk2, lo2, rk2, wd2, tw2, pa2, pb2, gb2, jt2, we2, fm2, hFA2, hfe2, hlk2⟩ | ⟨ht2, fe2, lk2, lo2, rk2, wd2, tw2, pa2, pb2, gb2, jt2, we2, fm2, r2, rx2, ry2, cap2, U2, V2, rg2, hFA2, hfe2, hlk2, ⟨hr2, hrx2, hry2, hne2⟩, hrr2⟩
  · skip
    have hc9_1 : inPl L f [(oc1 fe2 rk2 wd2 tw2 pa2 pb2 (.ref lo2) (.ref lk2) fm2), (oc4 lk2 (kd f0) (st f0) .null gb2 jt2 we2)] := ⟨hfe2, hlk2, trivial⟩
    have hD0_1 := hD
    obtain ⟨T_1, hT_1, hP, hD⟩ := pl_oT hP hD hc9_1 (pwF hfe2.2 hlk2.2)
    obtain ⟨hP, hD⟩ := zre (W2 := ([_, _, _, _, _] ++ va_pl T_1 f)) hP hD rfl
    refine lv_aload_n hx hb dX10_drop_0 rfl (lv_at hl 0 rfl) ?_
    refine va_get (D := (dC, dI)) (ci := 8) (v := .ref sh) (C := RX10) (T := TX10) (N := 13) hx hb hts inX10 hown hK hP 0 rfl rfl 0 (Nat.le_of_ble_eq_true rfl) (hts _ mw_309) (fun _ h9 => h9) rfl dX10_drop_1 ?_
    refine lv_iload_n hx hb dX10_drop_4 rfl (lv_at hl 1 rfl) ?_
    obtain ⟨hPc, hDc, hFc, hI1⟩ := zi_sub (wc := [_, _]) hP hD hS hA [1, 2] rfl rfl
    refine zcall (st1 := [.ref fe2]) (va_runV (As := [.int (nI f0)]) (rest := []) ⟨hx, hb, hml, hown, hts⟩ (k_Sheet_find l dC dI cI cZ cF s.heap.size sh fa ft FA f0 fe2 (by first | with_reducible assumption | omega) (by first | with_reducible assumption | omega) (hFA2)) (csV_94 hts rfl rfl ⟨Nat.le_of_ble_eq_true rfl, Nat.le_of_ble_eq_true rfl⟩) (zPV2 (q0 := 0) (ci := 7) hPc hDc hK hXN rfl rfl) rfl rfl hl.1 rfl (lv_room (Nat.le_of_ble_eq_true rfl)) dX10_drop_5 ⟨Nat.le_of_ble_eq_true rfl, Nat.le_of_ble_eq_true rfl⟩) hS hFc hFc rfl (fun t H locs ht hB hk1 hS => ?_)
    obtain ⟨hP1, hD1⟩ := hB
    rw [ht] at hP1
    replace hP := z0 hP hD hk1 hP1 hI1
    clear hk1 hPc hDc hFc hP1 hD1 ht hI1
    refine lv_astore_n (lv' := [(2, .ref fe2), (0, .ref x), (1, .int (nI f0))]) hx hb dX10_drop_8 rfl hl (Nat.le_of_ble_eq_true rfl) rfl (fun ls hl => ?_)
    refine lv_aload_n hx hb dX10_drop_9 rfl (lv_at hl 0 rfl) ?_
    refine lv_ifnonnull (tgt := 19) hx hb dX10_drop_10 rfl ?_
    refine lv_aload_n hx hb dX10_drop_19 rfl (lv_at hl 0 rfl) ?_
    refine va_get (D := (dC, dI)) (ci := 1) (v := .ref lk2) (C := RX2) (T := TX2) (N := 8) hx hb hts inX2 hown hK hP 3 rfl rfl 6 (Nat.le_of_ble_eq_true rfl) (hts _ mw_433) (fun _ h9 => h9) rfl dX10_drop_20 ?_
    refine va_get (D := (dC, dI)) (ci := 4) (v := .int (st f0)) (C := RX5) (T := TX5) (N := 6) hx hb hts inX5 hown hK hP 4 rfl rfl 1 (Nat.le_of_ble_eq_true rfl) (hts _ mw_385) (fun _ h9 => h9) rfl dX10_drop_23 ?_
    refine lv_iconst (v := 1) hx hb dX10_drop_26 rfl ?_
    refine lv_icmp_eq (tgt := 36) hx hb dX10_drop_27 rfl (fun c_1 => ?_) (fun c_1 => ?_)
    · have c_1 : (st f0).toInt = 1 := zc_eq rfl rfl c_1
      refine lv_aload_n hx hb dX10_drop_36 rfl (lv_at hl 0 rfl) ?_
      refine va_get (D := (dC, dI)) (ci := 1) (v := .ref lk2) (C := RX2) (T := TX2) (N := 8) hx hb hts inX2 hown hK hP 3 rfl rfl 6 (Nat.le_of_ble_eq_true rfl) (hts _ mw_433) (fun _ h9 => h9) rfl dX10_drop_37 ?_
      refine va_get (D := (dC, dI)) (ci := 4) (v := .null) (C := RX5) (T := TX5) (N := 6) hx hb hts inX5 hown hK hP 4 rfl rfl 2 (Nat.le_of_ble_eq_true rfl) (hts _ mw_391) (fun _ h9 => h9) rfl dX10_drop_40 ?_
      refine lv_ifnonnullN hx hb dX10_drop_43 ?_
      refine lv_aload_n hx hb dX10_drop_46 rfl (lv_at hl 1 rfl) ?_
      refine lv_iconst (v := 5) hx hb dX10_drop_47 rfl ?_
      obtain ⟨hPc, hDc, hFc⟩ := zo_sub (wc := [_]) hP hD hS hA [0] rfl rfl
      refine zcall (st1 := [.int 0]) (va_runV (As := [.int 5]) (rest := []) ⟨hx, hb, hml, hown, hts⟩ (k_deny_5 l dC dI cI cZ cF H.size x sh lw ro bq bp dq dp lv sl sd ul su ds ) (csV_96 hts rfl rfl ⟨Nat.le_of_ble_eq_true rfl, Nat.le_of_ble_eq_true rfl⟩) (zPV2 (q0 := 0) (ci := 8) hPc hDc hK hXN rfl rfl) rfl rfl hl.1 rfl (lv_room (Nat.le_of_ble_eq_true rfl)) dX10_drop_48 ⟨Nat.le_of_ble_eq_true rfl, Nat.le_of_ble_eq_true rfl⟩) hS hFc hFc rfl (fun t H locs ht hB hk1 hS => ?_)
      obtain ⟨hP1, hD1⟩ := hB
      rw [ht] at hP1
      obtain ⟨hP, hD⟩ := znQ (W2 := [(oc8 x (.ref sh) (.ref lw) (.ref ro) (.ref bq) (.ref bp) (.ref dq) (.ref dp) (.ref lv) (.ref sl) ds sd ul 5), _, _, _, _]) hP hD hk1 hFc hP1 hD1 [0] [false, true, true, true, true] [false, true, true, true, true] [0] (by decide +kernel) rfl rfl rfl rfl rfl
      clear hk1 hPc hDc hFc hP1 hD1 ht
      obtain ⟨hP, hD⟩ := pl_bk (X := [_, _, _]) hT_1 hP rfl hc9_1 hD0_1 rfl
      obtain ⟨hP9, hD9⟩ := zu_part (cx := [_, _, _]) hP hD [true, true, true] rfl rfl
      rw [hQ9]
      exact W.zret (ty := .boolean) (v := 0) hx hb hr (rfl) (fun t ht hW => ⟨⟨rfl, ul, 5, by rw [ht]; exact hP9, hD9⟩, hS.F ht⟩) hS.2.2 dX10_drop_51
    · have c_1 : ¬ (st f0).toInt = 1 := zc_ne rfl rfl c_1
      refine lv_aload_n hx hb dX10_drop_30 rfl (lv_at hl 1 rfl) ?_
      refine lv_iconst (v := 2) hx hb dX10_drop_31 rfl ?_
      obtain ⟨hPc, hDc, hFc⟩ := zo_sub (wc := [_]) hP hD hS hA [0] rfl rfl
      refine zcall (st1 := [.int 0]) (va_runV (As := [.int 2]) (rest := []) ⟨hx, hb, hml, hown, hts⟩ (k_deny_2 l dC dI cI cZ cF H.size x sh lw ro bq bp dq dp lv sl sd ul su ds ) (csV_96 hts rfl rfl ⟨Nat.le_of_ble_eq_true rfl, Nat.le_of_ble_eq_true rfl⟩) (zPV2 (q0 := 0) (ci := 8) hPc hDc hK hXN rfl rfl) rfl rfl hl.1 rfl (lv_room (Nat.le_of_ble_eq_true rfl)) dX10_drop_32 ⟨Nat.le_of_ble_eq_true rfl, Nat.le_of_ble_eq_true rfl⟩) hS hFc hFc rfl (fun t H locs ht hB hk1 hS => ?_)
      obtain ⟨hP1, hD1⟩ := hB
      rw [ht] at hP1
      obtain ⟨hP, hD⟩ := znQ (W2 := [(oc8 x (.ref sh) (.ref lw) (.ref ro) (.ref bq) (.ref bp) (.ref dq) (.ref dp) (.ref lv) (.ref sl) ds sd ul 2), _, _, _, _]) hP hD hk1 hFc hP1 hD1 [0] [false, true, true, true, true] [false, true, true, true, true] [0] (by decide +kernel) rfl rfl rfl rfl rfl
      clear hk1 hPc hDc hFc hP1 hD1 ht
      obtain ⟨hP, hD⟩ := pl_bk (X := [_, _, _]) hT_1 hP rfl hc9_1 hD0_1 rfl
      obtain ⟨hP9, hD9⟩ := zu_part (cx := [_, _, _]) hP hD [true, true, true] rfl rfl
      rw [hQ9]
      exact W.zret (ty := .boolean) (v := 0) hx hb hr (rfl) (fun t ht hW => ⟨⟨rfl, ul, 2, by rw [ht]; exact hP9, hD9⟩, hS.F ht⟩) hS.2.2 dX10_drop_35
  · skip
    have hcap2 := hrr2.1
    have hcap3 := hrr2.2.1
    have hc9_1 : inPl L f [(oc1 fe2 rk2 wd2 tw2 pa2 pb2 (.ref lo2) (.ref lk2) fm2), (oc4 lk2 (kd f0) (st f0) (.ref r2) gb2 jt2 we2), (oc6 r2 (.ref rx2) (.ref ry2) (nI (nN (mn f0))) rg2), (oa rx2 cI cap2 U2), (oa ry2 cI cap2 V2)] := ⟨hfe2, hlk2, hr2, hrx2, hry2, trivial⟩
    have hD0_1 := hD
    obtain ⟨T_1, hT_1, hP, hD⟩ := pl_oT hP hD hc9_1 (pwR hfe2.2 hlk2.2 hr2.2 hrx2.2 hry2.2 hne2)
    obtain ⟨hP, hD⟩ := zre (W2 := ([_, _, _, _, _, _, _, _] ++ va_pl T_1 f)) hP hD rfl
    refine lv_aload_n hx hb dX10_drop_0 rfl (lv_at hl 0 rfl) ?_
    refine va_get (D := (dC, dI)) (ci := 8) (v := .ref sh) (C := RX10) (T := TX10) (N := 13) hx hb hts inX10 hown hK hP 0 rfl rfl 0 (Nat.le_of_ble_eq_true rfl) (hts _ mw_309) (fun _ h9 => h9) rfl dX10_drop_1 ?_
    refine lv_iload_n hx hb dX10_drop_4 rfl (lv_at hl 1 rfl) ?_
    obtain ⟨hPc, hDc, hFc, hI1⟩ := zi_sub (wc := [_, _]) hP hD hS hA [1, 2] rfl rfl
    refine zcall (st1 := [.ref fe2]) (va_runV (As := [.int (nI f0)]) (rest := []) ⟨hx, hb, hml, hown, hts⟩ (k_Sheet_find l dC dI cI cZ cF s.heap.size sh fa ft FA f0 fe2 (by first | with_reducible assumption | omega) (by first | with_reducible assumption | omega) (hFA2)) (csV_94 hts rfl rfl ⟨Nat.le_of_ble_eq_true rfl, Nat.le_of_ble_eq_true rfl⟩) (zPV2 (q0 := 0) (ci := 7) hPc hDc hK hXN rfl rfl) rfl rfl hl.1 rfl (lv_room (Nat.le_of_ble_eq_true rfl)) dX10_drop_5 ⟨Nat.le_of_ble_eq_true rfl, Nat.le_of_ble_eq_true rfl⟩) hS hFc hFc rfl (fun t H locs ht hB hk1 hS => ?_)
    obtain ⟨hP1, hD1⟩ := hB
    rw [ht] at hP1
    replace hP := z0 hP hD hk1 hP1 hI1
    clear hk1 hPc hDc hFc hP1 hD1 ht hI1
    refine lv_astore_n (lv' := [(2, .ref fe2), (0, .ref x), (1, .int (nI f0))]) hx hb dX10_drop_8 rfl hl (Nat.le_of_ble_eq_true rfl) rfl (fun ls hl => ?_)
    refine lv_aload_n hx hb dX10_drop_9 rfl (lv_at hl 0 rfl) ?_
    refine lv_ifnonnull (tgt := 19) hx hb dX10_drop_10 rfl ?_
    refine lv_aload_n hx hb dX10_drop_19 rfl (lv_at hl 0 rfl) ?_
    refine va_get (D := (dC, dI)) (ci := 1) (v := .ref lk2) (C := RX2) (T := TX2) (N := 8) hx hb hts inX2 hown hK hP 3 rfl rfl 6 (Nat.le_of_ble_eq_true rfl) (hts _ mw_433) (fun _ h9 => h9) rfl dX10_drop_20 ?_
    refine va_get (D := (dC, dI)) (ci := 4) (v := .int (st f0)) (C := RX5) (T := TX5) (N := 6) hx hb hts inX5 hown hK hP 4 rfl rfl 1 (Nat.le_of_ble_eq_true rfl) (hts _ mw_385) (fun _ h9 => h9) rfl dX10_drop_23 ?_
    refine lv_iconst (v := 1) hx hb dX10_drop_26 rfl ?_
    refine lv_icmp_eq (tgt := 36) hx hb dX10_drop_27 rfl (fun c_2 => ?_) (fun c_2 => ?_)
    · have c_2 : (st f0).toInt = 1 := zc_eq rfl rfl c_2
      refine lv_aload_n hx hb dX10_drop_36 rfl (lv_at hl 0 rfl) ?_
      refine va_get (D := (dC, dI)) (ci := 1) (v := .ref lk2) (C := RX2) (T := TX2) (N := 8) hx hb hts inX2 hown hK hP 3 rfl rfl 6 (Nat.le_of_ble_eq_true rfl) (hts _ mw_433) (fun _ h9 => h9) rfl dX10_drop_37 ?_
      refine va_get (D := (dC, dI)) (ci := 4) (v := .ref r2) (C := RX5) (T := TX5) (N := 6) hx hb hts inX5 hown hK hP 4 rfl rfl 2 (Nat.le_of_ble_eq_true rfl) (hts _ mw_391) (fun _ h9 => h9) rfl dX10_drop_40 ?_
      refine lv_ifnonnull (tgt := 52) hx hb dX10_drop_43 rfl ?_
      exfalso; omega
    · have c_2 : ¬ (st f0).toInt = 1 := zc_ne rfl rfl c_2
      refine lv_aload_n hx hb dX10_drop_30 rfl (lv_at hl 1 rfl) ?_
      refine lv_iconst (v := 2) hx hb dX10_drop_31 rfl ?_
      obtain ⟨hPc, hDc, hFc⟩ := zo_sub (wc := [_]) hP hD hS hA [0] rfl rfl
      refine zcall (st1 := [.int 0]) (va_runV (As := [.int 2]) (rest := []) ⟨hx, hb, hml, hown, hts⟩ (k_deny_2 l dC dI cI cZ cF H.size x sh lw ro bq bp dq dp lv sl sd ul su ds ) (csV_96 hts rfl rfl ⟨Nat.le_of_ble_eq_true rfl, Nat.le_of_ble_eq_true rfl⟩) (zPV2 (q0 := 0) (ci := 8) hPc hDc hK hXN rfl rfl) rfl rfl hl.1 rfl (lv_room (Nat.le_of_ble_eq_true rfl)) dX10_drop_32 ⟨Nat.le_of_ble_eq_true rfl, Nat.le_of_ble_eq_true rfl⟩) hS hFc hFc rfl (fun t H locs ht hB hk1 hS => ?_)
      obtain ⟨hP1, hD1⟩ := hB
      rw [ht] at hP1
      obtain ⟨hP, hD⟩ := znQ (W2 := [(oc8 x (.ref sh) (.ref lw) (.ref ro) (.ref bq) (.ref bp) (.ref dq) (.ref dp) (.ref lv) (.ref sl) ds sd ul 2), _, _, _, _, _, _, _]) hP hD hk1 hFc hP1 hD1 [0] zl_54 zl_54 [0] (by decide +kernel) rfl rfl rfl rfl rfl
      clear hk1 hPc hDc hFc hP1 hD1 ht
      obtain ⟨hP, hD⟩ := pl_bk (X := [_, _, _]) hT_1 hP rfl hc9_1 hD0_1 rfl
      obtain ⟨hP9, hD9⟩ := zu_part (cx := [_, _, _]) hP hD [true, true, true] rfl rfl
      rw [hQ9]
      exact W.zret (ty := .boolean) (v := 0) hx hb hr (rfl) (fun t ht hW => ⟨⟨rfl, ul, 2, by rw [ht]; exact hP9, hD9⟩, hS.F ht⟩) hS.2.2 dX10_drop_35
set_option maxHeartbeats 4000000 in
set_option maxRecDepth 100000 in
theorem k_tear_r (l : Launch) (dC : Nat → ClassId) (dI : Nat → Nat → Nat) (cI cZ cF : ClassId) (sz : Nat) (x : Nat) (sh : Nat) (lw : Nat) (ro : Nat) (bq : Nat) (bp : Nat) (dq : Nat) (dp : Nat) (lv : Nat) (sl : Nat) (sd : Int32) (ul : Int32) (su : Int32) (ds : Int32) (fa : Nat) (ft : Nat) (FA : Nat → Option Nat) (f0 : Nat) (L : List Nat) (f : Nat → va_E) (kd : Nat → Int32) (st : Nat → Int32) (tn : Nat → Int32) (mn : Nat → Int32) (cx : Nat → Int32) (cy : Nat → Int32) (h200 : ft ≤ 200) (hf0 : f0 < ft) (hvw : ∀ q, q < ft → vwO cI L f FA kd st tn mn cx cy q) (hbad : ¬ (¬ (st f0).toInt = 2 ∧ (tn f0).toInt = 0)) : zM l yX10_tear cX10_tear 3 (some .boolean) ({ frames := 2, cells := 0, slots := 0, locals := 42 } : Room) [.ref x, .int (nI f0)] (dC, dI) (zTy cI cZ cF) ([(oc8 x (.ref sh) (.ref lw) (.ref ro) (.ref bq) (.ref bp) (.ref dq) (.ref dp) (.ref lv) (.ref sl) ds sd ul su), (oc7 sh (.ref fa) (nI ft)), (oq fa cF 200 FA)] ++ va_pl L f) sz (some (.int 0)) (fun A t => ∃ (ul1 : Int32), ∃ (su1 : Int32), zPD (dC, dI) classes A ([(oc8 x (.ref sh) (.ref lw) (.ref ro) (.ref bq) (.ref bp) (.ref dq) (.ref dp) (.ref lv) (.ref sl) ds sd ul1 su1), (oc7 sh (.ref fa) (nI ft)), (oq fa cF 200 FA)] ++ va_pl L f) t.heap) 0 0 := by
  refine zIn (own := "ScaleShop") (loc := [(0, .ref x), (1, .int (nI f0))]) rfl rfl rfl rfl (fun p e s m below meth c hx hb hr hts hown hlocks hml hnm9 A hA hS hP hD hK hXN Q9 hQ9 ls hl => ?_)
  rcases vw2 (hvw f0 (show f0 < ft by omega)) with ⟨ht2, fe2, lk2, lo2, rk2, wd2, tw2, pa2, pb2, gb2, jt2, we2, fm2, hFA2, hfe2, hlk2⟩ | ⟨ht2, fe2, lk2, lo2, rk2, wd2, tw2, pa2, pb2, gb2, jt2, we2, fm2, r2, rx2, ry2, cap2, U2, V2, rg2, hFA2, hfe2, hlk2, ⟨hr2, hrx2, hry2, hne2⟩, hrr2⟩
  · skip
    have hc9_1 : inPl L f [(oc1 fe2 rk2 wd2 tw2 pa2 pb2 (.ref lo2) (.ref lk2) fm2), (oc4 lk2 (kd f0) (st f0) .null gb2 jt2 we2)] := ⟨hfe2, hlk2, trivial⟩
    have hD0_1 := hD
    obtain ⟨T_1, hT_1, hP, hD⟩ := pl_oT hP hD hc9_1 (pwF hfe2.2 hlk2.2)
    obtain ⟨hP, hD⟩ := zre (W2 := ([_, _, _, _, _] ++ va_pl T_1 f)) hP hD rfl
    refine lv_aload_n hx hb dX10_tear_0 rfl (lv_at hl 0 rfl) ?_
    refine va_get (D := (dC, dI)) (ci := 8) (v := .ref sh) (C := RX10) (T := TX10) (N := 13) hx hb hts inX10 hown hK hP 0 rfl rfl 0 (Nat.le_of_ble_eq_true rfl) (hts _ mw_309) (fun _ h9 => h9) rfl dX10_tear_1 ?_
    refine lv_iload_n hx hb dX10_tear_4 rfl (lv_at hl 1 rfl) ?_
    obtain ⟨hPc, hDc, hFc, hI1⟩ := zi_sub (wc := [_, _]) hP hD hS hA [1, 2] rfl rfl
    refine zcall (st1 := [.ref fe2]) (va_runV (As := [.int (nI f0)]) (rest := []) ⟨hx, hb, hml, hown, hts⟩ (k_Sheet_find l dC dI cI cZ cF s.heap.size sh fa ft FA f0 fe2 (by first | with_reducible assumption | omega) (by first | with_reducible assumption | omega) (hFA2)) (csV_94 hts rfl rfl ⟨Nat.le_of_ble_eq_true rfl, Nat.le_of_ble_eq_true rfl⟩) (zPV2 (q0 := 0) (ci := 7) hPc hDc hK hXN rfl rfl) rfl rfl hl.1 rfl (lv_room (Nat.le_of_ble_eq_true rfl)) dX10_tear_5 ⟨Nat.le_of_ble_eq_true rfl, Nat.le_of_ble_eq_true rfl⟩) hS hFc hFc rfl (fun t H locs ht hB hk1 hS => ?_)
    obtain ⟨hP1, hD1⟩ := hB
    rw [ht] at hP1
    replace hP := z0 hP hD hk1 hP1 hI1
    clear hk1 hPc hDc hFc hP1 hD1 ht hI1
    refine lv_astore_n (lv' := [(2, .ref fe2), (0, .ref x), (1, .int (nI f0))]) hx hb dX10_tear_8 rfl hl (Nat.le_of_ble_eq_true rfl) rfl (fun ls hl => ?_)
    refine lv_aload_n hx hb dX10_tear_9 rfl (lv_at hl 0 rfl) ?_
    refine lv_ifnonnull (tgt := 19) hx hb dX10_tear_10 rfl ?_
    refine lv_aload_n hx hb dX10_tear_19 rfl (lv_at hl 0 rfl) ?_
    refine va_get (D := (dC, dI)) (ci := 1) (v := .ref lk2) (C := RX2) (T := TX2) (N := 8) hx hb hts inX2 hown hK hP 3 rfl rfl 6 (Nat.le_of_ble_eq_true rfl) (hts _ mw_433) (fun _ h9 => h9) rfl dX10_tear_20 ?_
    refine va_get (D := (dC, dI)) (ci := 4) (v := .int (st f0)) (C := RX5) (T := TX5) (N := 6) hx hb hts inX5 hown hK hP 4 rfl rfl 1 (Nat.le_of_ble_eq_true rfl) (hts _ mw_385) (fun _ h9 => h9) rfl dX10_tear_23 ?_
    refine lv_iconst (v := 2) hx hb dX10_tear_26 rfl ?_
    refine lv_icmp_ne (tgt := 36) hx hb dX10_tear_27 rfl (fun c_1 => ?_) (fun c_1 => ?_)
    · have c_1 : ¬ (st f0).toInt = 2 := zc_ne rfl rfl c_1
      refine lv_aload_n hx hb dX10_tear_36 rfl (lv_at hl 0 rfl) ?_
      refine va_get (D := (dC, dI)) (ci := 1) (v := .ref lk2) (C := RX2) (T := TX2) (N := 8) hx hb hts inX2 hown hK hP 3 rfl rfl 6 (Nat.le_of_ble_eq_true rfl) (hts _ mw_433) (fun _ h9 => h9) rfl dX10_tear_37 ?_
      refine va_get (D := (dC, dI)) (ci := 4) (v := .null) (C := RX5) (T := TX5) (N := 6) hx hb hts inX5 hown hK hP 4 rfl rfl 2 (Nat.le_of_ble_eq_true rfl) (hts _ mw_391) (fun _ h9 => h9) rfl dX10_tear_40 ?_
      refine lv_ifnonnullN hx hb dX10_tear_43 ?_
      refine lv_aload_n hx hb dX10_tear_46 rfl (lv_at hl 1 rfl) ?_
      refine lv_iconst (v := 5) hx hb dX10_tear_47 rfl ?_
      obtain ⟨hPc, hDc, hFc⟩ := zo_sub (wc := [_]) hP hD hS hA [0] rfl rfl
      refine zcall (st1 := [.int 0]) (va_runV (As := [.int 5]) (rest := []) ⟨hx, hb, hml, hown, hts⟩ (k_deny_5 l dC dI cI cZ cF H.size x sh lw ro bq bp dq dp lv sl sd ul su ds ) (csV_96 hts rfl rfl ⟨Nat.le_of_ble_eq_true rfl, Nat.le_of_ble_eq_true rfl⟩) (zPV2 (q0 := 0) (ci := 8) hPc hDc hK hXN rfl rfl) rfl rfl hl.1 rfl (lv_room (Nat.le_of_ble_eq_true rfl)) dX10_tear_48 ⟨Nat.le_of_ble_eq_true rfl, Nat.le_of_ble_eq_true rfl⟩) hS hFc hFc rfl (fun t H locs ht hB hk1 hS => ?_)
      obtain ⟨hP1, hD1⟩ := hB
      rw [ht] at hP1
      obtain ⟨hP, hD⟩ := znQ (W2 := [(oc8 x (.ref sh) (.ref lw) (.ref ro) (.ref bq) (.ref bp) (.ref dq) (.ref dp) (.ref lv) (.ref sl) ds sd ul 5), _, _, _, _]) hP hD hk1 hFc hP1 hD1 [0] [false, true, true, true, true] [false, true, true, true, true] [0] (by decide +kernel) rfl rfl rfl rfl rfl
      clear hk1 hPc hDc hFc hP1 hD1 ht
      obtain ⟨hP, hD⟩ := pl_bk (X := [_, _, _]) hT_1 hP rfl hc9_1 hD0_1 rfl
      obtain ⟨hP9, hD9⟩ := zu_part (cx := [_, _, _]) hP hD [true, true, true] rfl rfl
      rw [hQ9]
      exact W.zret (ty := .boolean) (v := 0) hx hb hr (rfl) (fun t ht hW => ⟨⟨rfl, ul, 5, by rw [ht]; exact hP9, hD9⟩, hS.F ht⟩) hS.2.2 dX10_tear_51
    · have c_1 : (st f0).toInt = 2 := zc_eq rfl rfl c_1
      refine lv_aload_n hx hb dX10_tear_30 rfl (lv_at hl 1 rfl) ?_
      refine lv_iconst (v := 2) hx hb dX10_tear_31 rfl ?_
      obtain ⟨hPc, hDc, hFc⟩ := zo_sub (wc := [_]) hP hD hS hA [0] rfl rfl
      refine zcall (st1 := [.int 0]) (va_runV (As := [.int 2]) (rest := []) ⟨hx, hb, hml, hown, hts⟩ (k_deny_2 l dC dI cI cZ cF H.size x sh lw ro bq bp dq dp lv sl sd ul su ds ) (csV_96 hts rfl rfl ⟨Nat.le_of_ble_eq_true rfl, Nat.le_of_ble_eq_true rfl⟩) (zPV2 (q0 := 0) (ci := 8) hPc hDc hK hXN rfl rfl) rfl rfl hl.1 rfl (lv_room (Nat.le_of_ble_eq_true rfl)) dX10_tear_32 ⟨Nat.le_of_ble_eq_true rfl, Nat.le_of_ble_eq_true rfl⟩) hS hFc hFc rfl (fun t H locs ht hB hk1 hS => ?_)
      obtain ⟨hP1, hD1⟩ := hB
      rw [ht] at hP1
      obtain ⟨hP, hD⟩ := znQ (W2 := [(oc8 x (.ref sh) (.ref lw) (.ref ro) (.ref bq) (.ref bp) (.ref dq) (.ref dp) (.ref lv) (.ref sl) ds sd ul 2), _, _, _, _]) hP hD hk1 hFc hP1 hD1 [0] [false, true, true, true, true] [false, true, true, true, true] [0] (by decide +kernel) rfl rfl rfl rfl rfl
      clear hk1 hPc hDc hFc hP1 hD1 ht
      obtain ⟨hP, hD⟩ := pl_bk (X := [_, _, _]) hT_1 hP rfl hc9_1 hD0_1 rfl
      obtain ⟨hP9, hD9⟩ := zu_part (cx := [_, _, _]) hP hD [true, true, true] rfl rfl
      rw [hQ9]
      exact W.zret (ty := .boolean) (v := 0) hx hb hr (rfl) (fun t ht hW => ⟨⟨rfl, ul, 2, by rw [ht]; exact hP9, hD9⟩, hS.F ht⟩) hS.2.2 dX10_tear_35
  · skip
    have hcap2 := hrr2.1
    have hcap3 := hrr2.2.1
    have hc9_1 : inPl L f [(oc1 fe2 rk2 wd2 tw2 pa2 pb2 (.ref lo2) (.ref lk2) fm2), (oc4 lk2 (kd f0) (st f0) (.ref r2) gb2 jt2 we2), (oc6 r2 (.ref rx2) (.ref ry2) (nI (nN (mn f0))) rg2), (oa rx2 cI cap2 U2), (oa ry2 cI cap2 V2)] := ⟨hfe2, hlk2, hr2, hrx2, hry2, trivial⟩
    have hD0_1 := hD
    obtain ⟨T_1, hT_1, hP, hD⟩ := pl_oT hP hD hc9_1 (pwR hfe2.2 hlk2.2 hr2.2 hrx2.2 hry2.2 hne2)
    obtain ⟨hP, hD⟩ := zre (W2 := ([_, _, _, _, _, _, _, _] ++ va_pl T_1 f)) hP hD rfl
    refine lv_aload_n hx hb dX10_tear_0 rfl (lv_at hl 0 rfl) ?_
    refine va_get (D := (dC, dI)) (ci := 8) (v := .ref sh) (C := RX10) (T := TX10) (N := 13) hx hb hts inX10 hown hK hP 0 rfl rfl 0 (Nat.le_of_ble_eq_true rfl) (hts _ mw_309) (fun _ h9 => h9) rfl dX10_tear_1 ?_
    refine lv_iload_n hx hb dX10_tear_4 rfl (lv_at hl 1 rfl) ?_
    obtain ⟨hPc, hDc, hFc, hI1⟩ := zi_sub (wc := [_, _]) hP hD hS hA [1, 2] rfl rfl
    refine zcall (st1 := [.ref fe2]) (va_runV (As := [.int (nI f0)]) (rest := []) ⟨hx, hb, hml, hown, hts⟩ (k_Sheet_find l dC dI cI cZ cF s.heap.size sh fa ft FA f0 fe2 (by first | with_reducible assumption | omega) (by first | with_reducible assumption | omega) (hFA2)) (csV_94 hts rfl rfl ⟨Nat.le_of_ble_eq_true rfl, Nat.le_of_ble_eq_true rfl⟩) (zPV2 (q0 := 0) (ci := 7) hPc hDc hK hXN rfl rfl) rfl rfl hl.1 rfl (lv_room (Nat.le_of_ble_eq_true rfl)) dX10_tear_5 ⟨Nat.le_of_ble_eq_true rfl, Nat.le_of_ble_eq_true rfl⟩) hS hFc hFc rfl (fun t H locs ht hB hk1 hS => ?_)
    obtain ⟨hP1, hD1⟩ := hB
    rw [ht] at hP1
    replace hP := z0 hP hD hk1 hP1 hI1
    clear hk1 hPc hDc hFc hP1 hD1 ht hI1
    refine lv_astore_n (lv' := [(2, .ref fe2), (0, .ref x), (1, .int (nI f0))]) hx hb dX10_tear_8 rfl hl (Nat.le_of_ble_eq_true rfl) rfl (fun ls hl => ?_)
    refine lv_aload_n hx hb dX10_tear_9 rfl (lv_at hl 0 rfl) ?_
    refine lv_ifnonnull (tgt := 19) hx hb dX10_tear_10 rfl ?_
    refine lv_aload_n hx hb dX10_tear_19 rfl (lv_at hl 0 rfl) ?_
    refine va_get (D := (dC, dI)) (ci := 1) (v := .ref lk2) (C := RX2) (T := TX2) (N := 8) hx hb hts inX2 hown hK hP 3 rfl rfl 6 (Nat.le_of_ble_eq_true rfl) (hts _ mw_433) (fun _ h9 => h9) rfl dX10_tear_20 ?_
    refine va_get (D := (dC, dI)) (ci := 4) (v := .int (st f0)) (C := RX5) (T := TX5) (N := 6) hx hb hts inX5 hown hK hP 4 rfl rfl 1 (Nat.le_of_ble_eq_true rfl) (hts _ mw_385) (fun _ h9 => h9) rfl dX10_tear_23 ?_
    refine lv_iconst (v := 2) hx hb dX10_tear_26 rfl ?_
    refine lv_icmp_ne (tgt := 36) hx hb dX10_tear_27 rfl (fun c_2 => ?_) (fun c_2 => ?_)
    · have c_2 : ¬ (st f0).toInt = 2 := zc_ne rfl rfl c_2
      refine lv_aload_n hx hb dX10_tear_36 rfl (lv_at hl 0 rfl) ?_
      refine va_get (D := (dC, dI)) (ci := 1) (v := .ref lk2) (C := RX2) (T := TX2) (N := 8) hx hb hts inX2 hown hK hP 3 rfl rfl 6 (Nat.le_of_ble_eq_true rfl) (hts _ mw_433) (fun _ h9 => h9) rfl dX10_tear_37 ?_
      refine va_get (D := (dC, dI)) (ci := 4) (v := .ref r2) (C := RX5) (T := TX5) (N := 6) hx hb hts inX5 hown hK hP 4 rfl rfl 2 (Nat.le_of_ble_eq_true rfl) (hts _ mw_391) (fun _ h9 => h9) rfl dX10_tear_40 ?_
      refine lv_ifnonnull (tgt := 52) hx hb dX10_tear_43 rfl ?_
      exfalso; omega
    · have c_2 : (st f0).toInt = 2 := zc_eq rfl rfl c_2
      refine lv_aload_n hx hb dX10_tear_30 rfl (lv_at hl 1 rfl) ?_
      refine lv_iconst (v := 2) hx hb dX10_tear_31 rfl ?_
      obtain ⟨hPc, hDc, hFc⟩ := zo_sub (wc := [_]) hP hD hS hA [0] rfl rfl
      refine zcall (st1 := [.int 0]) (va_runV (As := [.int 2]) (rest := []) ⟨hx, hb, hml, hown, hts⟩ (k_deny_2 l dC dI cI cZ cF H.size x sh lw ro bq bp dq dp lv sl sd ul su ds ) (csV_96 hts rfl rfl ⟨Nat.le_of_ble_eq_true rfl, Nat.le_of_ble_eq_true rfl⟩) (zPV2 (q0 := 0) (ci := 8) hPc hDc hK hXN rfl rfl) rfl rfl hl.1 rfl (lv_room (Nat.le_of_ble_eq_true rfl)) dX10_tear_32 ⟨Nat.le_of_ble_eq_true rfl, Nat.le_of_ble_eq_true rfl⟩) hS hFc hFc rfl (fun t H locs ht hB hk1 hS => ?_)
      obtain ⟨hP1, hD1⟩ := hB
      rw [ht] at hP1
      obtain ⟨hP, hD⟩ := znQ (W2 := [(oc8 x (.ref sh) (.ref lw) (.ref ro) (.ref bq) (.ref bp) (.ref dq) (.ref dp) (.ref lv) (.ref sl) ds sd ul 2), _, _, _, _, _, _, _]) hP hD hk1 hFc hP1 hD1 [0] zl_54 zl_54 [0] (by decide +kernel) rfl rfl rfl rfl rfl
      clear hk1 hPc hDc hFc hP1 hD1 ht
      obtain ⟨hP, hD⟩ := pl_bk (X := [_, _, _]) hT_1 hP rfl hc9_1 hD0_1 rfl
      obtain ⟨hP9, hD9⟩ := zu_part (cx := [_, _, _]) hP hD [true, true, true] rfl rfl
      rw [hQ9]
      exact W.zret (ty := .boolean) (v := 0) hx hb hr (rfl) (fun t ht hW => ⟨⟨rfl, ul, 2, by rw [ht]; exact hP9, hD9⟩, hS.F ht⟩) hS.2.2 dX10_tear_35
set_option maxHeartbeats 4000000 in
set_option maxRecDepth 100000 in
theorem k_plainer_r (l : Launch) (dC : Nat → ClassId) (dI : Nat → Nat → Nat) (cI cZ cF : ClassId) (sz : Nat) (x : Nat) (sh : Nat) (lw : Nat) (ro : Nat) (bq : Nat) (bp : Nat) (dq : Nat) (dp : Nat) (lv : Nat) (sl : Nat) (sd : Int32) (ul : Int32) (su : Int32) (ds : Int32) (fa : Nat) (ft : Nat) (FA : Nat → Option Nat) (f0 : Nat) (L : List Nat) (f : Nat → va_E) (kd : Nat → Int32) (st : Nat → Int32) (tn : Nat → Int32) (mn : Nat → Int32) (cx : Nat → Int32) (cy : Nat → Int32) (lim : Int32) (h200 : ft ≤ 200) (hf0 : f0 < ft) (hvw : ∀ q, q < ft → vwO cI L f FA kd st tn mn cx cy q) (hbad : ¬ ((st f0).toInt = 1 ∧ (1 ≤ (kd f0).toInt ∧ (kd f0).toInt ≤ 5) ∧ 0 ≤ lim.toInt ∧ (tn f0).toInt = 0)) : zM l yX10_plainer cX10_plainer 5 (some .int) ({ frames := 1, cells := 0, slots := 0, locals := 21 } : Room) [.ref x, .int (nI f0), .int lim] (dC, dI) (zTy cI cZ cF) ([(oc8 x (.ref sh) (.ref lw) (.ref ro) (.ref bq) (.ref bp) (.ref dq) (.ref dp) (.ref lv) (.ref sl) ds sd ul su), (oc7 sh (.ref fa) (nI ft)), (oq fa cF 200 FA)] ++ va_pl L f) sz (some (.int (-1))) (fun A t => ∃ (ul1 : Int32), ∃ (su1 : Int32), zPD (dC, dI) classes A ([(oc8 x (.ref sh) (.ref lw) (.ref ro) (.ref bq) (.ref bp) (.ref dq) (.ref dp) (.ref lv) (.ref sl) ds sd ul1 su1), (oc7 sh (.ref fa) (nI ft)), (oq fa cF 200 FA)] ++ va_pl L f) t.heap) 0 0 := by
  refine zIn (own := "ScaleShop") (loc := [(0, .ref x), (1, .int (nI f0)), (2, .int lim)]) rfl rfl rfl rfl (fun p e s m below meth c hx hb hr hts hown hlocks hml hnm9 A hA hS hP hD hK hXN Q9 hQ9 ls hl => ?_)
  rcases vw2 (hvw f0 (show f0 < ft by omega)) with ⟨ht2, fe2, lk2, lo2, rk2, wd2, tw2, pa2, pb2, gb2, jt2, we2, fm2, hFA2, hfe2, hlk2⟩ | ⟨ht2, fe2, lk2, lo2, rk2, wd2, tw2, pa2, pb2, gb2, jt2, we2, fm2, r2, rx2, ry2, cap2, U2, V2, rg2, hFA2, hfe2, hlk2, ⟨hr2, hrx2, hry2, hne2⟩, hrr2⟩
  · skip
    have hc9_1 : inPl L f [(oc1 fe2 rk2 wd2 tw2 pa2 pb2 (.ref lo2) (.ref lk2) fm2), (oc4 lk2 (kd f0) (st f0) .null gb2 jt2 we2)] := ⟨hfe2, hlk2, trivial⟩
    have hD0_1 := hD
    obtain ⟨T_1, hT_1, hP, hD⟩ := pl_oT hP hD hc9_1 (pwF hfe2.2 hlk2.2)
    obtain ⟨hP, hD⟩ := zre (W2 := ([_, _, _, _, _] ++ va_pl T_1 f)) hP hD rfl
    refine lv_aload_n hx hb dX10_plainer_0 rfl (lv_at hl 0 rfl) ?_
    refine va_get (D := (dC, dI)) (ci := 8) (v := .ref sh) (C := RX10) (T := TX10) (N := 13) hx hb hts inX10 hown hK hP 0 rfl rfl 0 (Nat.le_of_ble_eq_true rfl) (hts _ mw_309) (fun _ h9 => h9) rfl dX10_plainer_1 ?_
    refine lv_iload_n hx hb dX10_plainer_4 rfl (lv_at hl 1 rfl) ?_
    obtain ⟨hPc, hDc, hFc, hI1⟩ := zi_sub (wc := [_, _]) hP hD hS hA [1, 2] rfl rfl
    refine zcall (st1 := [.ref fe2]) (va_runV (As := [.int (nI f0)]) (rest := []) ⟨hx, hb, hml, hown, hts⟩ (k_Sheet_find l dC dI cI cZ cF s.heap.size sh fa ft FA f0 fe2 (by first | with_reducible assumption | omega) (by first | with_reducible assumption | omega) (hFA2)) (csV_94 hts rfl rfl ⟨Nat.le_of_ble_eq_true rfl, Nat.le_of_ble_eq_true rfl⟩) (zPV2 (q0 := 0) (ci := 7) hPc hDc hK hXN rfl rfl) rfl rfl hl.1 rfl (lv_room (Nat.le_of_ble_eq_true rfl)) dX10_plainer_5 ⟨Nat.le_of_ble_eq_true rfl, Nat.le_of_ble_eq_true rfl⟩) hS hFc hFc rfl (fun t H locs ht hB hk1 hS => ?_)
    obtain ⟨hP1, hD1⟩ := hB
    rw [ht] at hP1
    replace hP := z0 hP hD hk1 hP1 hI1
    clear hk1 hPc hDc hFc hP1 hD1 ht hI1
    refine lv_astore_n (lv' := [(3, .ref fe2), (0, .ref x), (1, .int (nI f0)), (2, .int lim)]) hx hb dX10_plainer_8 rfl hl (Nat.le_of_ble_eq_true rfl) rfl (fun ls hl => ?_)
    refine lv_aload_n hx hb dX10_plainer_9 rfl (lv_at hl 0 rfl) ?_
    refine lv_ifnonnull (tgt := 19) hx hb dX10_plainer_10 rfl ?_
    refine lv_aload_n hx hb dX10_plainer_19 rfl (lv_at hl 0 rfl) ?_
    refine va_get (D := (dC, dI)) (ci := 1) (v := .ref lk2) (C := RX2) (T := TX2) (N := 8) hx hb hts inX2 hown hK hP 3 rfl rfl 6 (Nat.le_of_ble_eq_true rfl) (hts _ mw_433) (fun _ h9 => h9) rfl dX10_plainer_20 ?_
    refine va_get (D := (dC, dI)) (ci := 4) (v := .int (st f0)) (C := RX5) (T := TX5) (N := 6) hx hb hts inX5 hown hK hP 4 rfl rfl 1 (Nat.le_of_ble_eq_true rfl) (hts _ mw_385) (fun _ h9 => h9) rfl dX10_plainer_23 ?_
    refine lv_iconst (v := 1) hx hb dX10_plainer_26 rfl ?_
    refine lv_icmp_eq (tgt := 36) hx hb dX10_plainer_27 rfl (fun c_1 => ?_) (fun c_1 => ?_)
    · have c_1 : (st f0).toInt = 1 := zc_eq rfl rfl c_1
      refine lv_aload_n hx hb dX10_plainer_36 rfl (lv_at hl 0 rfl) ?_
      obtain ⟨hPc, hDc, hFc, hI1⟩ := zi_sub (wc := [_, _]) hP hD hS hA [3, 4] rfl rfl
      refine zcall (st1 := [.int (pI (1 ≤ (kd f0).toInt ∧ (kd f0).toInt ≤ 5))]) (va_runV (As := []) (rest := []) ⟨hx, hb, hml, hown, hts⟩ (k_Feature_bends_v l dC dI cI cZ cF H.size fe2 lo2 rk2 wd2 tw2 pa2 pb2 lk2 (kd f0) (st f0) gb2 jt2 we2 fm2 (.null) ) (csV_97 hts rfl rfl ⟨Nat.le_of_ble_eq_true rfl, Nat.le_of_ble_eq_true rfl⟩) (zPV2 (q0 := 0) (ci := 1) hPc hDc hK hXN rfl rfl) rfl rfl hl.1 rfl (lv_room (Nat.le_of_ble_eq_true rfl)) dX10_plainer_37 ⟨Nat.le_of_ble_eq_true rfl, Nat.le_of_ble_eq_true rfl⟩) hS hFc hFc rfl (fun t H locs ht hB hk1 hS => ?_)
      obtain ⟨hP1, hD1⟩ := hB
      rw [ht] at hP1
      replace hP := z0 hP hD hk1 hP1 hI1
      clear hk1 hPc hDc hFc hP1 hD1 ht hI1
      refine lv_if_ne (tgt := 49) hx hb dX10_plainer_40 rfl (fun c_2 => ?_) (fun c_2 => ?_)
      · have c_2 : 1 ≤ (kd f0).toInt ∧ (kd f0).toInt ≤ 5 := zp_1 c_2
        refine lv_iload_n hx hb dX10_plainer_49 rfl (lv_at hl 3 rfl) ?_
        refine lv_if_ge (tgt := 59) hx hb dX10_plainer_50 rfl (fun c_3 => ?_) (fun c_3 => ?_)
        · have c_3 : 0 ≤ lim.toInt := zc_le rfl rfl c_3
          refine lv_aload_n hx hb dX10_plainer_59 rfl (lv_at hl 0 rfl) ?_
          refine va_get (D := (dC, dI)) (ci := 1) (v := .ref lk2) (C := RX2) (T := TX2) (N := 8) hx hb hts inX2 hown hK hP 3 rfl rfl 6 (Nat.le_of_ble_eq_true rfl) (hts _ mw_433) (fun _ h9 => h9) rfl dX10_plainer_60 ?_
          refine va_get (D := (dC, dI)) (ci := 4) (v := .null) (C := RX5) (T := TX5) (N := 6) hx hb hts inX5 hown hK hP 4 rfl rfl 2 (Nat.le_of_ble_eq_true rfl) (hts _ mw_391) (fun _ h9 => h9) rfl dX10_plainer_63 ?_
          refine lv_ifnonnullN hx hb dX10_plainer_66 ?_
          refine lv_aload_n hx hb dX10_plainer_69 rfl (lv_at hl 1 rfl) ?_
          refine lv_iconst (v := 5) hx hb dX10_plainer_70 rfl ?_
          obtain ⟨hPc, hDc, hFc⟩ := zo_sub (wc := [_]) hP hD hS hA [0] rfl rfl
          refine zcall (st1 := [.int (-1)]) (va_runV (As := [.int 5]) (rest := []) ⟨hx, hb, hml, hown, hts⟩ (k_refuse_5 l dC dI cI cZ cF H.size x sh lw ro bq bp dq dp lv sl sd ul su ds ) (csV_95 hts rfl rfl ⟨Nat.le_of_ble_eq_true rfl, Nat.le_of_ble_eq_true rfl⟩) (zPV2 (q0 := 0) (ci := 8) hPc hDc hK hXN rfl rfl) rfl rfl hl.1 rfl (lv_room (Nat.le_of_ble_eq_true rfl)) dX10_plainer_71 ⟨Nat.le_of_ble_eq_true rfl, Nat.le_of_ble_eq_true rfl⟩) hS hFc hFc rfl (fun t H locs ht hB hk1 hS => ?_)
          obtain ⟨hP1, hD1⟩ := hB
          rw [ht] at hP1
          obtain ⟨hP, hD⟩ := znQ (W2 := [(oc8 x (.ref sh) (.ref lw) (.ref ro) (.ref bq) (.ref bp) (.ref dq) (.ref dp) (.ref lv) (.ref sl) ds sd ul 5), _, _, _, _]) hP hD hk1 hFc hP1 hD1 [0] [false, true, true, true, true] [false, true, true, true, true] [0] (by decide +kernel) rfl rfl rfl rfl rfl
          clear hk1 hPc hDc hFc hP1 hD1 ht
          obtain ⟨hP, hD⟩ := pl_bk (X := [_, _, _]) hT_1 hP rfl hc9_1 hD0_1 rfl
          obtain ⟨hP9, hD9⟩ := zu_part (cx := [_, _, _]) hP hD [true, true, true] rfl rfl
          rw [hQ9]
          exact W.iret (v := (-1)) hx hb hr (fun t ht hW => ⟨⟨rfl, ul, 5, by rw [ht]; exact hP9, hD9⟩, hS.F ht⟩) hS.2.2 dX10_plainer_74
        · have c_3 : lim.toInt < 0 := zc_nle rfl rfl c_3
          refine lv_aload_n hx hb dX10_plainer_53 rfl (lv_at hl 1 rfl) ?_
          refine lv_iconst (v := 4) hx hb dX10_plainer_54 rfl ?_
          obtain ⟨hPc, hDc, hFc⟩ := zo_sub (wc := [_]) hP hD hS hA [0] rfl rfl
          refine zcall (st1 := [.int (-1)]) (va_runV (As := [.int 4]) (rest := []) ⟨hx, hb, hml, hown, hts⟩ (k_refuse_4 l dC dI cI cZ cF H.size x sh lw ro bq bp dq dp lv sl sd ul su ds ) (csV_95 hts rfl rfl ⟨Nat.le_of_ble_eq_true rfl, Nat.le_of_ble_eq_true rfl⟩) (zPV2 (q0 := 0) (ci := 8) hPc hDc hK hXN rfl rfl) rfl rfl hl.1 rfl (lv_room (Nat.le_of_ble_eq_true rfl)) dX10_plainer_55 ⟨Nat.le_of_ble_eq_true rfl, Nat.le_of_ble_eq_true rfl⟩) hS hFc hFc rfl (fun t H locs ht hB hk1 hS => ?_)
          obtain ⟨hP1, hD1⟩ := hB
          rw [ht] at hP1
          obtain ⟨hP, hD⟩ := znQ (W2 := [(oc8 x (.ref sh) (.ref lw) (.ref ro) (.ref bq) (.ref bp) (.ref dq) (.ref dp) (.ref lv) (.ref sl) ds sd ul 4), _, _, _, _]) hP hD hk1 hFc hP1 hD1 [0] [false, true, true, true, true] [false, true, true, true, true] [0] (by decide +kernel) rfl rfl rfl rfl rfl
          clear hk1 hPc hDc hFc hP1 hD1 ht
          obtain ⟨hP, hD⟩ := pl_bk (X := [_, _, _]) hT_1 hP rfl hc9_1 hD0_1 rfl
          obtain ⟨hP9, hD9⟩ := zu_part (cx := [_, _, _]) hP hD [true, true, true] rfl rfl
          rw [hQ9]
          exact W.iret (v := (-1)) hx hb hr (fun t ht hW => ⟨⟨rfl, ul, 4, by rw [ht]; exact hP9, hD9⟩, hS.F ht⟩) hS.2.2 dX10_plainer_58
      · have c_2 : ¬ (1 ≤ (kd f0).toInt ∧ (kd f0).toInt ≤ 5) := zp_0 c_2
        refine lv_aload_n hx hb dX10_plainer_43 rfl (lv_at hl 1 rfl) ?_
        refine lv_iconst (v := 3) hx hb dX10_plainer_44 rfl ?_
        obtain ⟨hPc, hDc, hFc⟩ := zo_sub (wc := [_]) hP hD hS hA [0] rfl rfl
        refine zcall (st1 := [.int (-1)]) (va_runV (As := [.int 3]) (rest := []) ⟨hx, hb, hml, hown, hts⟩ (k_refuse_3 l dC dI cI cZ cF H.size x sh lw ro bq bp dq dp lv sl sd ul su ds ) (csV_95 hts rfl rfl ⟨Nat.le_of_ble_eq_true rfl, Nat.le_of_ble_eq_true rfl⟩) (zPV2 (q0 := 0) (ci := 8) hPc hDc hK hXN rfl rfl) rfl rfl hl.1 rfl (lv_room (Nat.le_of_ble_eq_true rfl)) dX10_plainer_45 ⟨Nat.le_of_ble_eq_true rfl, Nat.le_of_ble_eq_true rfl⟩) hS hFc hFc rfl (fun t H locs ht hB hk1 hS => ?_)
        obtain ⟨hP1, hD1⟩ := hB
        rw [ht] at hP1
        obtain ⟨hP, hD⟩ := znQ (W2 := [(oc8 x (.ref sh) (.ref lw) (.ref ro) (.ref bq) (.ref bp) (.ref dq) (.ref dp) (.ref lv) (.ref sl) ds sd ul 3), _, _, _, _]) hP hD hk1 hFc hP1 hD1 [0] [false, true, true, true, true] [false, true, true, true, true] [0] (by decide +kernel) rfl rfl rfl rfl rfl
        clear hk1 hPc hDc hFc hP1 hD1 ht
        obtain ⟨hP, hD⟩ := pl_bk (X := [_, _, _]) hT_1 hP rfl hc9_1 hD0_1 rfl
        obtain ⟨hP9, hD9⟩ := zu_part (cx := [_, _, _]) hP hD [true, true, true] rfl rfl
        rw [hQ9]
        exact W.iret (v := (-1)) hx hb hr (fun t ht hW => ⟨⟨rfl, ul, 3, by rw [ht]; exact hP9, hD9⟩, hS.F ht⟩) hS.2.2 dX10_plainer_48
    · have c_1 : ¬ (st f0).toInt = 1 := zc_ne rfl rfl c_1
      refine lv_aload_n hx hb dX10_plainer_30 rfl (lv_at hl 1 rfl) ?_
      refine lv_iconst (v := 2) hx hb dX10_plainer_31 rfl ?_
      obtain ⟨hPc, hDc, hFc⟩ := zo_sub (wc := [_]) hP hD hS hA [0] rfl rfl
      refine zcall (st1 := [.int (-1)]) (va_runV (As := [.int 2]) (rest := []) ⟨hx, hb, hml, hown, hts⟩ (k_refuse_2 l dC dI cI cZ cF H.size x sh lw ro bq bp dq dp lv sl sd ul su ds ) (csV_95 hts rfl rfl ⟨Nat.le_of_ble_eq_true rfl, Nat.le_of_ble_eq_true rfl⟩) (zPV2 (q0 := 0) (ci := 8) hPc hDc hK hXN rfl rfl) rfl rfl hl.1 rfl (lv_room (Nat.le_of_ble_eq_true rfl)) dX10_plainer_32 ⟨Nat.le_of_ble_eq_true rfl, Nat.le_of_ble_eq_true rfl⟩) hS hFc hFc rfl (fun t H locs ht hB hk1 hS => ?_)
      obtain ⟨hP1, hD1⟩ := hB
      rw [ht] at hP1
      obtain ⟨hP, hD⟩ := znQ (W2 := [(oc8 x (.ref sh) (.ref lw) (.ref ro) (.ref bq) (.ref bp) (.ref dq) (.ref dp) (.ref lv) (.ref sl) ds sd ul 2), _, _, _, _]) hP hD hk1 hFc hP1 hD1 [0] [false, true, true, true, true] [false, true, true, true, true] [0] (by decide +kernel) rfl rfl rfl rfl rfl
      clear hk1 hPc hDc hFc hP1 hD1 ht
      obtain ⟨hP, hD⟩ := pl_bk (X := [_, _, _]) hT_1 hP rfl hc9_1 hD0_1 rfl
      obtain ⟨hP9, hD9⟩ := zu_part (cx := [_, _, _]) hP hD [true, true, true] rfl rfl
      rw [hQ9]
      exact W.iret (v := (-1)) hx hb hr (fun t ht hW => ⟨⟨rfl, ul, 2, by rw [ht]; exact hP9, hD9⟩, hS.F ht⟩) hS.2.2 dX10_plainer_35
  · skip
    have hcap2 := hrr2.1
    have hcap3 := hrr2.2.1
    have hc9_1 : inPl L f [(oc1 fe2 rk2 wd2 tw2 pa2 pb2 (.ref lo2) (.ref lk2) fm2), (oc4 lk2 (kd f0) (st f0) (.ref r2) gb2 jt2 we2), (oc6 r2 (.ref rx2) (.ref ry2) (nI (nN (mn f0))) rg2), (oa rx2 cI cap2 U2), (oa ry2 cI cap2 V2)] := ⟨hfe2, hlk2, hr2, hrx2, hry2, trivial⟩
    have hD0_1 := hD
    obtain ⟨T_1, hT_1, hP, hD⟩ := pl_oT hP hD hc9_1 (pwR hfe2.2 hlk2.2 hr2.2 hrx2.2 hry2.2 hne2)
    obtain ⟨hP, hD⟩ := zre (W2 := ([_, _, _, _, _, _, _, _] ++ va_pl T_1 f)) hP hD rfl
    refine lv_aload_n hx hb dX10_plainer_0 rfl (lv_at hl 0 rfl) ?_
    refine va_get (D := (dC, dI)) (ci := 8) (v := .ref sh) (C := RX10) (T := TX10) (N := 13) hx hb hts inX10 hown hK hP 0 rfl rfl 0 (Nat.le_of_ble_eq_true rfl) (hts _ mw_309) (fun _ h9 => h9) rfl dX10_plainer_1 ?_
    refine lv_iload_n hx hb dX10_plainer_4 rfl (lv_at hl 1 rfl) ?_
    obtain ⟨hPc, hDc, hFc, hI1⟩ := zi_sub (wc := [_, _]) hP hD hS hA [1, 2] rfl rfl
    refine zcall (st1 := [.ref fe2]) (va_runV (As := [.int (nI f0)]) (rest := []) ⟨hx, hb, hml, hown, hts⟩ (k_Sheet_find l dC dI cI cZ cF s.heap.size sh fa ft FA f0 fe2 (by first | with_reducible assumption | omega) (by first | with_reducible assumption | omega) (hFA2)) (csV_94 hts rfl rfl ⟨Nat.le_of_ble_eq_true rfl, Nat.le_of_ble_eq_true rfl⟩) (zPV2 (q0 := 0) (ci := 7) hPc hDc hK hXN rfl rfl) rfl rfl hl.1 rfl (lv_room (Nat.le_of_ble_eq_true rfl)) dX10_plainer_5 ⟨Nat.le_of_ble_eq_true rfl, Nat.le_of_ble_eq_true rfl⟩) hS hFc hFc rfl (fun t H locs ht hB hk1 hS => ?_)
    obtain ⟨hP1, hD1⟩ := hB
    rw [ht] at hP1
    replace hP := z0 hP hD hk1 hP1 hI1
    clear hk1 hPc hDc hFc hP1 hD1 ht hI1
    refine lv_astore_n (lv' := [(3, .ref fe2), (0, .ref x), (1, .int (nI f0)), (2, .int lim)]) hx hb dX10_plainer_8 rfl hl (Nat.le_of_ble_eq_true rfl) rfl (fun ls hl => ?_)
    refine lv_aload_n hx hb dX10_plainer_9 rfl (lv_at hl 0 rfl) ?_
    refine lv_ifnonnull (tgt := 19) hx hb dX10_plainer_10 rfl ?_
    refine lv_aload_n hx hb dX10_plainer_19 rfl (lv_at hl 0 rfl) ?_
    refine va_get (D := (dC, dI)) (ci := 1) (v := .ref lk2) (C := RX2) (T := TX2) (N := 8) hx hb hts inX2 hown hK hP 3 rfl rfl 6 (Nat.le_of_ble_eq_true rfl) (hts _ mw_433) (fun _ h9 => h9) rfl dX10_plainer_20 ?_
    refine va_get (D := (dC, dI)) (ci := 4) (v := .int (st f0)) (C := RX5) (T := TX5) (N := 6) hx hb hts inX5 hown hK hP 4 rfl rfl 1 (Nat.le_of_ble_eq_true rfl) (hts _ mw_385) (fun _ h9 => h9) rfl dX10_plainer_23 ?_
    refine lv_iconst (v := 1) hx hb dX10_plainer_26 rfl ?_
    refine lv_icmp_eq (tgt := 36) hx hb dX10_plainer_27 rfl (fun c_4 => ?_) (fun c_4 => ?_)
    · have c_4 : (st f0).toInt = 1 := zc_eq rfl rfl c_4
      refine lv_aload_n hx hb dX10_plainer_36 rfl (lv_at hl 0 rfl) ?_
      obtain ⟨hPc, hDc, hFc, hI1⟩ := zi_sub (wc := [_, _]) hP hD hS hA [3, 4] rfl rfl
      refine zcall (st1 := [.int (pI (1 ≤ (kd f0).toInt ∧ (kd f0).toInt ≤ 5))]) (va_runV (As := []) (rest := []) ⟨hx, hb, hml, hown, hts⟩ (k_Feature_bends_v l dC dI cI cZ cF H.size fe2 lo2 rk2 wd2 tw2 pa2 pb2 lk2 (kd f0) (st f0) gb2 jt2 we2 fm2 (.ref r2) ) (csV_97 hts rfl rfl ⟨Nat.le_of_ble_eq_true rfl, Nat.le_of_ble_eq_true rfl⟩) (zPV2 (q0 := 0) (ci := 1) hPc hDc hK hXN rfl rfl) rfl rfl hl.1 rfl (lv_room (Nat.le_of_ble_eq_true rfl)) dX10_plainer_37 ⟨Nat.le_of_ble_eq_true rfl, Nat.le_of_ble_eq_true rfl⟩) hS hFc hFc rfl (fun t H locs ht hB hk1 hS => ?_)
      obtain ⟨hP1, hD1⟩ := hB
      rw [ht] at hP1
      replace hP := z0 hP hD hk1 hP1 hI1
      clear hk1 hPc hDc hFc hP1 hD1 ht hI1
      refine lv_if_ne (tgt := 49) hx hb dX10_plainer_40 rfl (fun c_5 => ?_) (fun c_5 => ?_)
      · have c_5 : 1 ≤ (kd f0).toInt ∧ (kd f0).toInt ≤ 5 := zp_1 c_5
        refine lv_iload_n hx hb dX10_plainer_49 rfl (lv_at hl 3 rfl) ?_
        refine lv_if_ge (tgt := 59) hx hb dX10_plainer_50 rfl (fun c_6 => ?_) (fun c_6 => ?_)
        · have c_6 : 0 ≤ lim.toInt := zc_le rfl rfl c_6
          refine lv_aload_n hx hb dX10_plainer_59 rfl (lv_at hl 0 rfl) ?_
          refine va_get (D := (dC, dI)) (ci := 1) (v := .ref lk2) (C := RX2) (T := TX2) (N := 8) hx hb hts inX2 hown hK hP 3 rfl rfl 6 (Nat.le_of_ble_eq_true rfl) (hts _ mw_433) (fun _ h9 => h9) rfl dX10_plainer_60 ?_
          refine va_get (D := (dC, dI)) (ci := 4) (v := .ref r2) (C := RX5) (T := TX5) (N := 6) hx hb hts inX5 hown hK hP 4 rfl rfl 2 (Nat.le_of_ble_eq_true rfl) (hts _ mw_391) (fun _ h9 => h9) rfl dX10_plainer_63 ?_
          refine lv_ifnonnull (tgt := 75) hx hb dX10_plainer_66 rfl ?_
          exfalso; omega
        · have c_6 : lim.toInt < 0 := zc_nle rfl rfl c_6
          refine lv_aload_n hx hb dX10_plainer_53 rfl (lv_at hl 1 rfl) ?_
          refine lv_iconst (v := 4) hx hb dX10_plainer_54 rfl ?_
          obtain ⟨hPc, hDc, hFc⟩ := zo_sub (wc := [_]) hP hD hS hA [0] rfl rfl
          refine zcall (st1 := [.int (-1)]) (va_runV (As := [.int 4]) (rest := []) ⟨hx, hb, hml, hown, hts⟩ (k_refuse_4 l dC dI cI cZ cF H.size x sh lw ro bq bp dq dp lv sl sd ul su ds ) (csV_95 hts rfl rfl ⟨Nat.le_of_ble_eq_true rfl, Nat.le_of_ble_eq_true rfl⟩) (zPV2 (q0 := 0) (ci := 8) hPc hDc hK hXN rfl rfl) rfl rfl hl.1 rfl (lv_room (Nat.le_of_ble_eq_true rfl)) dX10_plainer_55 ⟨Nat.le_of_ble_eq_true rfl, Nat.le_of_ble_eq_true rfl⟩) hS hFc hFc rfl (fun t H locs ht hB hk1 hS => ?_)
          obtain ⟨hP1, hD1⟩ := hB
          rw [ht] at hP1
          obtain ⟨hP, hD⟩ := znQ (W2 := [(oc8 x (.ref sh) (.ref lw) (.ref ro) (.ref bq) (.ref bp) (.ref dq) (.ref dp) (.ref lv) (.ref sl) ds sd ul 4), _, _, _, _, _, _, _]) hP hD hk1 hFc hP1 hD1 [0] zl_54 zl_54 [0] (by decide +kernel) rfl rfl rfl rfl rfl
          clear hk1 hPc hDc hFc hP1 hD1 ht
          obtain ⟨hP, hD⟩ := pl_bk (X := [_, _, _]) hT_1 hP rfl hc9_1 hD0_1 rfl
          obtain ⟨hP9, hD9⟩ := zu_part (cx := [_, _, _]) hP hD [true, true, true] rfl rfl
          rw [hQ9]
          exact W.iret (v := (-1)) hx hb hr (fun t ht hW => ⟨⟨rfl, ul, 4, by rw [ht]; exact hP9, hD9⟩, hS.F ht⟩) hS.2.2 dX10_plainer_58
      · have c_5 : ¬ (1 ≤ (kd f0).toInt ∧ (kd f0).toInt ≤ 5) := zp_0 c_5
        refine lv_aload_n hx hb dX10_plainer_43 rfl (lv_at hl 1 rfl) ?_
        refine lv_iconst (v := 3) hx hb dX10_plainer_44 rfl ?_
        obtain ⟨hPc, hDc, hFc⟩ := zo_sub (wc := [_]) hP hD hS hA [0] rfl rfl
        refine zcall (st1 := [.int (-1)]) (va_runV (As := [.int 3]) (rest := []) ⟨hx, hb, hml, hown, hts⟩ (k_refuse_3 l dC dI cI cZ cF H.size x sh lw ro bq bp dq dp lv sl sd ul su ds ) (csV_95 hts rfl rfl ⟨Nat.le_of_ble_eq_true rfl, Nat.le_of_ble_eq_true rfl⟩) (zPV2 (q0 := 0) (ci := 8) hPc hDc hK hXN rfl rfl) rfl rfl hl.1 rfl (lv_room (Nat.le_of_ble_eq_true rfl)) dX10_plainer_45 ⟨Nat.le_of_ble_eq_true rfl, Nat.le_of_ble_eq_true rfl⟩) hS hFc hFc rfl (fun t H locs ht hB hk1 hS => ?_)
        obtain ⟨hP1, hD1⟩ := hB
        rw [ht] at hP1
        obtain ⟨hP, hD⟩ := znQ (W2 := [(oc8 x (.ref sh) (.ref lw) (.ref ro) (.ref bq) (.ref bp) (.ref dq) (.ref dp) (.ref lv) (.ref sl) ds sd ul 3), _, _, _, _, _, _, _]) hP hD hk1 hFc hP1 hD1 [0] zl_54 zl_54 [0] (by decide +kernel) rfl rfl rfl rfl rfl
        clear hk1 hPc hDc hFc hP1 hD1 ht
        obtain ⟨hP, hD⟩ := pl_bk (X := [_, _, _]) hT_1 hP rfl hc9_1 hD0_1 rfl
        obtain ⟨hP9, hD9⟩ := zu_part (cx := [_, _, _]) hP hD [true, true, true] rfl rfl
        rw [hQ9]
        exact W.iret (v := (-1)) hx hb hr (fun t ht hW => ⟨⟨rfl, ul, 3, by rw [ht]; exact hP9, hD9⟩, hS.F ht⟩) hS.2.2 dX10_plainer_48
    · have c_4 : ¬ (st f0).toInt = 1 := zc_ne rfl rfl c_4
      refine lv_aload_n hx hb dX10_plainer_30 rfl (lv_at hl 1 rfl) ?_
      refine lv_iconst (v := 2) hx hb dX10_plainer_31 rfl ?_
      obtain ⟨hPc, hDc, hFc⟩ := zo_sub (wc := [_]) hP hD hS hA [0] rfl rfl
      refine zcall (st1 := [.int (-1)]) (va_runV (As := [.int 2]) (rest := []) ⟨hx, hb, hml, hown, hts⟩ (k_refuse_2 l dC dI cI cZ cF H.size x sh lw ro bq bp dq dp lv sl sd ul su ds ) (csV_95 hts rfl rfl ⟨Nat.le_of_ble_eq_true rfl, Nat.le_of_ble_eq_true rfl⟩) (zPV2 (q0 := 0) (ci := 8) hPc hDc hK hXN rfl rfl) rfl rfl hl.1 rfl (lv_room (Nat.le_of_ble_eq_true rfl)) dX10_plainer_32 ⟨Nat.le_of_ble_eq_true rfl, Nat.le_of_ble_eq_true rfl⟩) hS hFc hFc rfl (fun t H locs ht hB hk1 hS => ?_)
      obtain ⟨hP1, hD1⟩ := hB
      rw [ht] at hP1
      obtain ⟨hP, hD⟩ := znQ (W2 := [(oc8 x (.ref sh) (.ref lw) (.ref ro) (.ref bq) (.ref bp) (.ref dq) (.ref dp) (.ref lv) (.ref sl) ds sd ul 2), _, _, _, _, _, _, _]) hP hD hk1 hFc hP1 hD1 [0] zl_54 zl_54 [0] (by decide +kernel) rfl rfl rfl rfl rfl
      clear hk1 hPc hDc hFc hP1 hD1 ht
      obtain ⟨hP, hD⟩ := pl_bk (X := [_, _, _]) hT_1 hP rfl hc9_1 hD0_1 rfl
      obtain ⟨hP9, hD9⟩ := zu_part (cx := [_, _, _]) hP hD [true, true, true] rfl rfl
      rw [hQ9]
      exact W.iret (v := (-1)) hx hb hr (fun t ht hW => ⟨⟨rfl, ul, 2, by rw [ht]; exact hP9, hD9⟩, hS.F ht⟩) hS.2.2 dX10_plainer_35
set_option maxHeartbeats 4000000 in
set_option maxRecDepth 100000 in
theorem k_smooth_r (l : Launch) (dC : Nat → ClassId) (dI : Nat → Nat → Nat) (cI cZ cF : ClassId) (sz : Nat) (x : Nat) (sh : Nat) (lw : Nat) (ro : Nat) (bq : Nat) (bp : Nat) (dq : Nat) (dp : Nat) (lv : Nat) (sl : Nat) (sd : Int32) (ul : Int32) (su : Int32) (ds : Int32) (fa : Nat) (ft : Nat) (FA : Nat → Option Nat) (f0 : Nat) (L : List Nat) (f : Nat → va_E) (kd : Nat → Int32) (st : Nat → Int32) (tn : Nat → Int32) (mn : Nat → Int32) (cx : Nat → Int32) (cy : Nat → Int32) (h200 : ft ≤ 200) (hf0 : f0 < ft) (hvw : ∀ q, q < ft → vwO cI L f FA kd st tn mn cx cy q) (hbad : ¬ ((st f0).toInt = 1 ∧ (1 ≤ (kd f0).toInt ∧ (kd f0).toInt ≤ 5) ∧ (tn f0).toInt = 0)) : zM l yX10_smooth cX10_smooth 4 (some .boolean) ({ frames := 2, cells := 0, slots := 0, locals := 42 } : Room) [.ref x, .int (nI f0)] (dC, dI) (zTy cI cZ cF) ([(oc8 x (.ref sh) (.ref lw) (.ref ro) (.ref bq) (.ref bp) (.ref dq) (.ref dp) (.ref lv) (.ref sl) ds sd ul su), (oc7 sh (.ref fa) (nI ft)), (oq fa cF 200 FA)] ++ va_pl L f) sz (some (.int 0)) (fun A t => ∃ (ul1 : Int32), ∃ (su1 : Int32), zPD (dC, dI) classes A ([(oc8 x (.ref sh) (.ref lw) (.ref ro) (.ref bq) (.ref bp) (.ref dq) (.ref dp) (.ref lv) (.ref sl) ds sd ul1 su1), (oc7 sh (.ref fa) (nI ft)), (oq fa cF 200 FA)] ++ va_pl L f) t.heap) 0 0 := by
  refine zIn (own := "ScaleShop") (loc := [(0, .ref x), (1, .int (nI f0))]) rfl rfl rfl rfl (fun p e s m below meth c hx hb hr hts hown hlocks hml hnm9 A hA hS hP hD hK hXN Q9 hQ9 ls hl => ?_)
  rcases vw2 (hvw f0 (show f0 < ft by omega)) with ⟨ht2, fe2, lk2, lo2, rk2, wd2, tw2, pa2, pb2, gb2, jt2, we2, fm2, hFA2, hfe2, hlk2⟩ | ⟨ht2, fe2, lk2, lo2, rk2, wd2, tw2, pa2, pb2, gb2, jt2, we2, fm2, r2, rx2, ry2, cap2, U2, V2, rg2, hFA2, hfe2, hlk2, ⟨hr2, hrx2, hry2, hne2⟩, hrr2⟩
  · skip
    have hc9_1 : inPl L f [(oc1 fe2 rk2 wd2 tw2 pa2 pb2 (.ref lo2) (.ref lk2) fm2), (oc4 lk2 (kd f0) (st f0) .null gb2 jt2 we2)] := ⟨hfe2, hlk2, trivial⟩
    have hD0_1 := hD
    obtain ⟨T_1, hT_1, hP, hD⟩ := pl_oT hP hD hc9_1 (pwF hfe2.2 hlk2.2)
    obtain ⟨hP, hD⟩ := zre (W2 := ([_, _, _, _, _] ++ va_pl T_1 f)) hP hD rfl
    refine lv_aload_n hx hb dX10_smooth_0 rfl (lv_at hl 0 rfl) ?_
    refine va_get (D := (dC, dI)) (ci := 8) (v := .ref sh) (C := RX10) (T := TX10) (N := 13) hx hb hts inX10 hown hK hP 0 rfl rfl 0 (Nat.le_of_ble_eq_true rfl) (hts _ mw_309) (fun _ h9 => h9) rfl dX10_smooth_1 ?_
    refine lv_iload_n hx hb dX10_smooth_4 rfl (lv_at hl 1 rfl) ?_
    obtain ⟨hPc, hDc, hFc, hI1⟩ := zi_sub (wc := [_, _]) hP hD hS hA [1, 2] rfl rfl
    refine zcall (st1 := [.ref fe2]) (va_runV (As := [.int (nI f0)]) (rest := []) ⟨hx, hb, hml, hown, hts⟩ (k_Sheet_find l dC dI cI cZ cF s.heap.size sh fa ft FA f0 fe2 (by first | with_reducible assumption | omega) (by first | with_reducible assumption | omega) (hFA2)) (csV_94 hts rfl rfl ⟨Nat.le_of_ble_eq_true rfl, Nat.le_of_ble_eq_true rfl⟩) (zPV2 (q0 := 0) (ci := 7) hPc hDc hK hXN rfl rfl) rfl rfl hl.1 rfl (lv_room (Nat.le_of_ble_eq_true rfl)) dX10_smooth_5 ⟨Nat.le_of_ble_eq_true rfl, Nat.le_of_ble_eq_true rfl⟩) hS hFc hFc rfl (fun t H locs ht hB hk1 hS => ?_)
    obtain ⟨hP1, hD1⟩ := hB
    rw [ht] at hP1
    replace hP := z0 hP hD hk1 hP1 hI1
    clear hk1 hPc hDc hFc hP1 hD1 ht hI1
    refine lv_astore_n (lv' := [(2, .ref fe2), (0, .ref x), (1, .int (nI f0))]) hx hb dX10_smooth_8 rfl hl (Nat.le_of_ble_eq_true rfl) rfl (fun ls hl => ?_)
    refine lv_aload_n hx hb dX10_smooth_9 rfl (lv_at hl 0 rfl) ?_
    refine lv_ifnonnull (tgt := 19) hx hb dX10_smooth_10 rfl ?_
    refine lv_aload_n hx hb dX10_smooth_19 rfl (lv_at hl 0 rfl) ?_
    refine va_get (D := (dC, dI)) (ci := 1) (v := .ref lk2) (C := RX2) (T := TX2) (N := 8) hx hb hts inX2 hown hK hP 3 rfl rfl 6 (Nat.le_of_ble_eq_true rfl) (hts _ mw_433) (fun _ h9 => h9) rfl dX10_smooth_20 ?_
    refine va_get (D := (dC, dI)) (ci := 4) (v := .int (st f0)) (C := RX5) (T := TX5) (N := 6) hx hb hts inX5 hown hK hP 4 rfl rfl 1 (Nat.le_of_ble_eq_true rfl) (hts _ mw_385) (fun _ h9 => h9) rfl dX10_smooth_23 ?_
    refine lv_iconst (v := 1) hx hb dX10_smooth_26 rfl ?_
    refine lv_icmp_eq (tgt := 36) hx hb dX10_smooth_27 rfl (fun c_1 => ?_) (fun c_1 => ?_)
    · have c_1 : (st f0).toInt = 1 := zc_eq rfl rfl c_1
      refine lv_aload_n hx hb dX10_smooth_36 rfl (lv_at hl 0 rfl) ?_
      obtain ⟨hPc, hDc, hFc, hI1⟩ := zi_sub (wc := [_, _]) hP hD hS hA [3, 4] rfl rfl
      refine zcall (st1 := [.int (pI (1 ≤ (kd f0).toInt ∧ (kd f0).toInt ≤ 5))]) (va_runV (As := []) (rest := []) ⟨hx, hb, hml, hown, hts⟩ (k_Feature_bends_v l dC dI cI cZ cF H.size fe2 lo2 rk2 wd2 tw2 pa2 pb2 lk2 (kd f0) (st f0) gb2 jt2 we2 fm2 (.null) ) (csV_97 hts rfl rfl ⟨Nat.le_of_ble_eq_true rfl, Nat.le_of_ble_eq_true rfl⟩) (zPV2 (q0 := 0) (ci := 1) hPc hDc hK hXN rfl rfl) rfl rfl hl.1 rfl (lv_room (Nat.le_of_ble_eq_true rfl)) dX10_smooth_37 ⟨Nat.le_of_ble_eq_true rfl, Nat.le_of_ble_eq_true rfl⟩) hS hFc hFc rfl (fun t H locs ht hB hk1 hS => ?_)
      obtain ⟨hP1, hD1⟩ := hB
      rw [ht] at hP1
      replace hP := z0 hP hD hk1 hP1 hI1
      clear hk1 hPc hDc hFc hP1 hD1 ht hI1
      refine lv_if_ne (tgt := 49) hx hb dX10_smooth_40 rfl (fun c_2 => ?_) (fun c_2 => ?_)
      · have c_2 : 1 ≤ (kd f0).toInt ∧ (kd f0).toInt ≤ 5 := zp_1 c_2
        refine lv_aload_n hx hb dX10_smooth_49 rfl (lv_at hl 0 rfl) ?_
        refine va_get (D := (dC, dI)) (ci := 1) (v := .ref lk2) (C := RX2) (T := TX2) (N := 8) hx hb hts inX2 hown hK hP 3 rfl rfl 6 (Nat.le_of_ble_eq_true rfl) (hts _ mw_433) (fun _ h9 => h9) rfl dX10_smooth_50 ?_
        refine va_get (D := (dC, dI)) (ci := 4) (v := .null) (C := RX5) (T := TX5) (N := 6) hx hb hts inX5 hown hK hP 4 rfl rfl 2 (Nat.le_of_ble_eq_true rfl) (hts _ mw_391) (fun _ h9 => h9) rfl dX10_smooth_53 ?_
        refine lv_astore_nN (lv' := [(3, .null), (2, .ref fe2), (0, .ref x), (1, .int (nI f0))]) hx hb dX10_smooth_56 rfl hl (Nat.le_of_ble_eq_true rfl) rfl (fun ls hl => ?_)
        refine lv_aload_nN hx hb dX10_smooth_57 rfl (lv_at hl 0 rfl) ?_
        refine lv_ifnonnullN hx hb dX10_smooth_58 ?_
        refine lv_aload_n hx hb dX10_smooth_61 rfl (lv_at hl 2 rfl) ?_
        refine lv_iconst (v := 5) hx hb dX10_smooth_62 rfl ?_
        obtain ⟨hPc, hDc, hFc⟩ := zo_sub (wc := [_]) hP hD hS hA [0] rfl rfl
        refine zcall (st1 := [.int 0]) (va_runV (As := [.int 5]) (rest := []) ⟨hx, hb, hml, hown, hts⟩ (k_deny_5 l dC dI cI cZ cF H.size x sh lw ro bq bp dq dp lv sl sd ul su ds ) (csV_96 hts rfl rfl ⟨Nat.le_of_ble_eq_true rfl, Nat.le_of_ble_eq_true rfl⟩) (zPV2 (q0 := 0) (ci := 8) hPc hDc hK hXN rfl rfl) rfl rfl hl.1 rfl (lv_room (Nat.le_of_ble_eq_true rfl)) dX10_smooth_63 ⟨Nat.le_of_ble_eq_true rfl, Nat.le_of_ble_eq_true rfl⟩) hS hFc hFc rfl (fun t H locs ht hB hk1 hS => ?_)
        obtain ⟨hP1, hD1⟩ := hB
        rw [ht] at hP1
        obtain ⟨hP, hD⟩ := znQ (W2 := [(oc8 x (.ref sh) (.ref lw) (.ref ro) (.ref bq) (.ref bp) (.ref dq) (.ref dp) (.ref lv) (.ref sl) ds sd ul 5), _, _, _, _]) hP hD hk1 hFc hP1 hD1 [0] [false, true, true, true, true] [false, true, true, true, true] [0] (by decide +kernel) rfl rfl rfl rfl rfl
        clear hk1 hPc hDc hFc hP1 hD1 ht
        obtain ⟨hP, hD⟩ := pl_bk (X := [_, _, _]) hT_1 hP rfl hc9_1 hD0_1 rfl
        obtain ⟨hP9, hD9⟩ := zu_part (cx := [_, _, _]) hP hD [true, true, true] rfl rfl
        rw [hQ9]
        exact W.zret (ty := .boolean) (v := 0) hx hb hr (rfl) (fun t ht hW => ⟨⟨rfl, ul, 5, by rw [ht]; exact hP9, hD9⟩, hS.F ht⟩) hS.2.2 dX10_smooth_66
      · have c_2 : ¬ (1 ≤ (kd f0).toInt ∧ (kd f0).toInt ≤ 5) := zp_0 c_2
        refine lv_aload_n hx hb dX10_smooth_43 rfl (lv_at hl 1 rfl) ?_
        refine lv_iconst (v := 3) hx hb dX10_smooth_44 rfl ?_
        obtain ⟨hPc, hDc, hFc⟩ := zo_sub (wc := [_]) hP hD hS hA [0] rfl rfl
        refine zcall (st1 := [.int 0]) (va_runV (As := [.int 3]) (rest := []) ⟨hx, hb, hml, hown, hts⟩ (k_deny_3 l dC dI cI cZ cF H.size x sh lw ro bq bp dq dp lv sl sd ul su ds ) (csV_96 hts rfl rfl ⟨Nat.le_of_ble_eq_true rfl, Nat.le_of_ble_eq_true rfl⟩) (zPV2 (q0 := 0) (ci := 8) hPc hDc hK hXN rfl rfl) rfl rfl hl.1 rfl (lv_room (Nat.le_of_ble_eq_true rfl)) dX10_smooth_45 ⟨Nat.le_of_ble_eq_true rfl, Nat.le_of_ble_eq_true rfl⟩) hS hFc hFc rfl (fun t H locs ht hB hk1 hS => ?_)
        obtain ⟨hP1, hD1⟩ := hB
        rw [ht] at hP1
        obtain ⟨hP, hD⟩ := znQ (W2 := [(oc8 x (.ref sh) (.ref lw) (.ref ro) (.ref bq) (.ref bp) (.ref dq) (.ref dp) (.ref lv) (.ref sl) ds sd ul 3), _, _, _, _]) hP hD hk1 hFc hP1 hD1 [0] [false, true, true, true, true] [false, true, true, true, true] [0] (by decide +kernel) rfl rfl rfl rfl rfl
        clear hk1 hPc hDc hFc hP1 hD1 ht
        obtain ⟨hP, hD⟩ := pl_bk (X := [_, _, _]) hT_1 hP rfl hc9_1 hD0_1 rfl
        obtain ⟨hP9, hD9⟩ := zu_part (cx := [_, _, _]) hP hD [true, true, true] rfl rfl
        rw [hQ9]
        exact W.zret (ty := .boolean) (v := 0) hx hb hr (rfl) (fun t ht hW => ⟨⟨rfl, ul, 3, by rw [ht]; exact hP9, hD9⟩, hS.F ht⟩) hS.2.2 dX10_smooth_48
    · have c_1 : ¬ (st f0).toInt = 1 := zc_ne rfl rfl c_1
      refine lv_aload_n hx hb dX10_smooth_30 rfl (lv_at hl 1 rfl) ?_
      refine lv_iconst (v := 2) hx hb dX10_smooth_31 rfl ?_
      obtain ⟨hPc, hDc, hFc⟩ := zo_sub (wc := [_]) hP hD hS hA [0] rfl rfl
      refine zcall (st1 := [.int 0]) (va_runV (As := [.int 2]) (rest := []) ⟨hx, hb, hml, hown, hts⟩ (k_deny_2 l dC dI cI cZ cF H.size x sh lw ro bq bp dq dp lv sl sd ul su ds ) (csV_96 hts rfl rfl ⟨Nat.le_of_ble_eq_true rfl, Nat.le_of_ble_eq_true rfl⟩) (zPV2 (q0 := 0) (ci := 8) hPc hDc hK hXN rfl rfl) rfl rfl hl.1 rfl (lv_room (Nat.le_of_ble_eq_true rfl)) dX10_smooth_32 ⟨Nat.le_of_ble_eq_true rfl, Nat.le_of_ble_eq_true rfl⟩) hS hFc hFc rfl (fun t H locs ht hB hk1 hS => ?_)
      obtain ⟨hP1, hD1⟩ := hB
      rw [ht] at hP1
      obtain ⟨hP, hD⟩ := znQ (W2 := [(oc8 x (.ref sh) (.ref lw) (.ref ro) (.ref bq) (.ref bp) (.ref dq) (.ref dp) (.ref lv) (.ref sl) ds sd ul 2), _, _, _, _]) hP hD hk1 hFc hP1 hD1 [0] [false, true, true, true, true] [false, true, true, true, true] [0] (by decide +kernel) rfl rfl rfl rfl rfl
      clear hk1 hPc hDc hFc hP1 hD1 ht
      obtain ⟨hP, hD⟩ := pl_bk (X := [_, _, _]) hT_1 hP rfl hc9_1 hD0_1 rfl
      obtain ⟨hP9, hD9⟩ := zu_part (cx := [_, _, _]) hP hD [true, true, true] rfl rfl
      rw [hQ9]
      exact W.zret (ty := .boolean) (v := 0) hx hb hr (rfl) (fun t ht hW => ⟨⟨rfl, ul, 2, by rw [ht]; exact hP9, hD9⟩, hS.F ht⟩) hS.2.2 dX10_smooth_35
  · skip
    have hcap2 := hrr2.1
    have hcap3 := hrr2.2.1
    have hc9_1 : inPl L f [(oc1 fe2 rk2 wd2 tw2 pa2 pb2 (.ref lo2) (.ref lk2) fm2), (oc4 lk2 (kd f0) (st f0) (.ref r2) gb2 jt2 we2), (oc6 r2 (.ref rx2) (.ref ry2) (nI (nN (mn f0))) rg2), (oa rx2 cI cap2 U2), (oa ry2 cI cap2 V2)] := ⟨hfe2, hlk2, hr2, hrx2, hry2, trivial⟩
    have hD0_1 := hD
    obtain ⟨T_1, hT_1, hP, hD⟩ := pl_oT hP hD hc9_1 (pwR hfe2.2 hlk2.2 hr2.2 hrx2.2 hry2.2 hne2)
    obtain ⟨hP, hD⟩ := zre (W2 := ([_, _, _, _, _, _, _, _] ++ va_pl T_1 f)) hP hD rfl
    refine lv_aload_n hx hb dX10_smooth_0 rfl (lv_at hl 0 rfl) ?_
    refine va_get (D := (dC, dI)) (ci := 8) (v := .ref sh) (C := RX10) (T := TX10) (N := 13) hx hb hts inX10 hown hK hP 0 rfl rfl 0 (Nat.le_of_ble_eq_true rfl) (hts _ mw_309) (fun _ h9 => h9) rfl dX10_smooth_1 ?_
    refine lv_iload_n hx hb dX10_smooth_4 rfl (lv_at hl 1 rfl) ?_
    obtain ⟨hPc, hDc, hFc, hI1⟩ := zi_sub (wc := [_, _]) hP hD hS hA [1, 2] rfl rfl
    refine zcall (st1 := [.ref fe2]) (va_runV (As := [.int (nI f0)]) (rest := []) ⟨hx, hb, hml, hown, hts⟩ (k_Sheet_find l dC dI cI cZ cF s.heap.size sh fa ft FA f0 fe2 (by first | with_reducible assumption | omega) (by first | with_reducible assumption | omega) (hFA2)) (csV_94 hts rfl rfl ⟨Nat.le_of_ble_eq_true rfl, Nat.le_of_ble_eq_true rfl⟩) (zPV2 (q0 := 0) (ci := 7) hPc hDc hK hXN rfl rfl) rfl rfl hl.1 rfl (lv_room (Nat.le_of_ble_eq_true rfl)) dX10_smooth_5 ⟨Nat.le_of_ble_eq_true rfl, Nat.le_of_ble_eq_true rfl⟩) hS hFc hFc rfl (fun t H locs ht hB hk1 hS => ?_)
    obtain ⟨hP1, hD1⟩ := hB
    rw [ht] at hP1
    replace hP := z0 hP hD hk1 hP1 hI1
    clear hk1 hPc hDc hFc hP1 hD1 ht hI1
    refine lv_astore_n (lv' := [(2, .ref fe2), (0, .ref x), (1, .int (nI f0))]) hx hb dX10_smooth_8 rfl hl (Nat.le_of_ble_eq_true rfl) rfl (fun ls hl => ?_)
    refine lv_aload_n hx hb dX10_smooth_9 rfl (lv_at hl 0 rfl) ?_
    refine lv_ifnonnull (tgt := 19) hx hb dX10_smooth_10 rfl ?_
    refine lv_aload_n hx hb dX10_smooth_19 rfl (lv_at hl 0 rfl) ?_
    refine va_get (D := (dC, dI)) (ci := 1) (v := .ref lk2) (C := RX2) (T := TX2) (N := 8) hx hb hts inX2 hown hK hP 3 rfl rfl 6 (Nat.le_of_ble_eq_true rfl) (hts _ mw_433) (fun _ h9 => h9) rfl dX10_smooth_20 ?_
    refine va_get (D := (dC, dI)) (ci := 4) (v := .int (st f0)) (C := RX5) (T := TX5) (N := 6) hx hb hts inX5 hown hK hP 4 rfl rfl 1 (Nat.le_of_ble_eq_true rfl) (hts _ mw_385) (fun _ h9 => h9) rfl dX10_smooth_23 ?_
    refine lv_iconst (v := 1) hx hb dX10_smooth_26 rfl ?_
    refine lv_icmp_eq (tgt := 36) hx hb dX10_smooth_27 rfl (fun c_3 => ?_) (fun c_3 => ?_)
    · have c_3 : (st f0).toInt = 1 := zc_eq rfl rfl c_3
      refine lv_aload_n hx hb dX10_smooth_36 rfl (lv_at hl 0 rfl) ?_
      obtain ⟨hPc, hDc, hFc, hI1⟩ := zi_sub (wc := [_, _]) hP hD hS hA [3, 4] rfl rfl
      refine zcall (st1 := [.int (pI (1 ≤ (kd f0).toInt ∧ (kd f0).toInt ≤ 5))]) (va_runV (As := []) (rest := []) ⟨hx, hb, hml, hown, hts⟩ (k_Feature_bends_v l dC dI cI cZ cF H.size fe2 lo2 rk2 wd2 tw2 pa2 pb2 lk2 (kd f0) (st f0) gb2 jt2 we2 fm2 (.ref r2) ) (csV_97 hts rfl rfl ⟨Nat.le_of_ble_eq_true rfl, Nat.le_of_ble_eq_true rfl⟩) (zPV2 (q0 := 0) (ci := 1) hPc hDc hK hXN rfl rfl) rfl rfl hl.1 rfl (lv_room (Nat.le_of_ble_eq_true rfl)) dX10_smooth_37 ⟨Nat.le_of_ble_eq_true rfl, Nat.le_of_ble_eq_true rfl⟩) hS hFc hFc rfl (fun t H locs ht hB hk1 hS => ?_)
      obtain ⟨hP1, hD1⟩ := hB
      rw [ht] at hP1
      replace hP := z0 hP hD hk1 hP1 hI1
      clear hk1 hPc hDc hFc hP1 hD1 ht hI1
      refine lv_if_ne (tgt := 49) hx hb dX10_smooth_40 rfl (fun c_4 => ?_) (fun c_4 => ?_)
      · have c_4 : 1 ≤ (kd f0).toInt ∧ (kd f0).toInt ≤ 5 := zp_1 c_4
        refine lv_aload_n hx hb dX10_smooth_49 rfl (lv_at hl 0 rfl) ?_
        refine va_get (D := (dC, dI)) (ci := 1) (v := .ref lk2) (C := RX2) (T := TX2) (N := 8) hx hb hts inX2 hown hK hP 3 rfl rfl 6 (Nat.le_of_ble_eq_true rfl) (hts _ mw_433) (fun _ h9 => h9) rfl dX10_smooth_50 ?_
        refine va_get (D := (dC, dI)) (ci := 4) (v := .ref r2) (C := RX5) (T := TX5) (N := 6) hx hb hts inX5 hown hK hP 4 rfl rfl 2 (Nat.le_of_ble_eq_true rfl) (hts _ mw_391) (fun _ h9 => h9) rfl dX10_smooth_53 ?_
        refine lv_astore_n (lv' := [(3, .ref r2), (2, .ref fe2), (0, .ref x), (1, .int (nI f0))]) hx hb dX10_smooth_56 rfl hl (Nat.le_of_ble_eq_true rfl) rfl (fun ls hl => ?_)
        refine lv_aload_n hx hb dX10_smooth_57 rfl (lv_at hl 0 rfl) ?_
        refine lv_ifnonnull (tgt := 67) hx hb dX10_smooth_58 rfl ?_
        exfalso; omega
      · have c_4 : ¬ (1 ≤ (kd f0).toInt ∧ (kd f0).toInt ≤ 5) := zp_0 c_4
        refine lv_aload_n hx hb dX10_smooth_43 rfl (lv_at hl 1 rfl) ?_
        refine lv_iconst (v := 3) hx hb dX10_smooth_44 rfl ?_
        obtain ⟨hPc, hDc, hFc⟩ := zo_sub (wc := [_]) hP hD hS hA [0] rfl rfl
        refine zcall (st1 := [.int 0]) (va_runV (As := [.int 3]) (rest := []) ⟨hx, hb, hml, hown, hts⟩ (k_deny_3 l dC dI cI cZ cF H.size x sh lw ro bq bp dq dp lv sl sd ul su ds ) (csV_96 hts rfl rfl ⟨Nat.le_of_ble_eq_true rfl, Nat.le_of_ble_eq_true rfl⟩) (zPV2 (q0 := 0) (ci := 8) hPc hDc hK hXN rfl rfl) rfl rfl hl.1 rfl (lv_room (Nat.le_of_ble_eq_true rfl)) dX10_smooth_45 ⟨Nat.le_of_ble_eq_true rfl, Nat.le_of_ble_eq_true rfl⟩) hS hFc hFc rfl (fun t H locs ht hB hk1 hS => ?_)
        obtain ⟨hP1, hD1⟩ := hB
        rw [ht] at hP1
        obtain ⟨hP, hD⟩ := znQ (W2 := [(oc8 x (.ref sh) (.ref lw) (.ref ro) (.ref bq) (.ref bp) (.ref dq) (.ref dp) (.ref lv) (.ref sl) ds sd ul 3), _, _, _, _, _, _, _]) hP hD hk1 hFc hP1 hD1 [0] zl_54 zl_54 [0] (by decide +kernel) rfl rfl rfl rfl rfl
        clear hk1 hPc hDc hFc hP1 hD1 ht
        obtain ⟨hP, hD⟩ := pl_bk (X := [_, _, _]) hT_1 hP rfl hc9_1 hD0_1 rfl
        obtain ⟨hP9, hD9⟩ := zu_part (cx := [_, _, _]) hP hD [true, true, true] rfl rfl
        rw [hQ9]
        exact W.zret (ty := .boolean) (v := 0) hx hb hr (rfl) (fun t ht hW => ⟨⟨rfl, ul, 3, by rw [ht]; exact hP9, hD9⟩, hS.F ht⟩) hS.2.2 dX10_smooth_48
    · have c_3 : ¬ (st f0).toInt = 1 := zc_ne rfl rfl c_3
      refine lv_aload_n hx hb dX10_smooth_30 rfl (lv_at hl 1 rfl) ?_
      refine lv_iconst (v := 2) hx hb dX10_smooth_31 rfl ?_
      obtain ⟨hPc, hDc, hFc⟩ := zo_sub (wc := [_]) hP hD hS hA [0] rfl rfl
      refine zcall (st1 := [.int 0]) (va_runV (As := [.int 2]) (rest := []) ⟨hx, hb, hml, hown, hts⟩ (k_deny_2 l dC dI cI cZ cF H.size x sh lw ro bq bp dq dp lv sl sd ul su ds ) (csV_96 hts rfl rfl ⟨Nat.le_of_ble_eq_true rfl, Nat.le_of_ble_eq_true rfl⟩) (zPV2 (q0 := 0) (ci := 8) hPc hDc hK hXN rfl rfl) rfl rfl hl.1 rfl (lv_room (Nat.le_of_ble_eq_true rfl)) dX10_smooth_32 ⟨Nat.le_of_ble_eq_true rfl, Nat.le_of_ble_eq_true rfl⟩) hS hFc hFc rfl (fun t H locs ht hB hk1 hS => ?_)
      obtain ⟨hP1, hD1⟩ := hB
      rw [ht] at hP1
      obtain ⟨hP, hD⟩ := znQ (W2 := [(oc8 x (.ref sh) (.ref lw) (.ref ro) (.ref bq) (.ref bp) (.ref dq) (.ref dp) (.ref lv) (.ref sl) ds sd ul 2), _, _, _, _, _, _, _]) hP hD hk1 hFc hP1 hD1 [0] zl_54 zl_54 [0] (by decide +kernel) rfl rfl rfl rfl rfl
      clear hk1 hPc hDc hFc hP1 hD1 ht
      obtain ⟨hP, hD⟩ := pl_bk (X := [_, _, _]) hT_1 hP rfl hc9_1 hD0_1 rfl
      obtain ⟨hP9, hD9⟩ := zu_part (cx := [_, _, _]) hP hD [true, true, true] rfl rfl
      rw [hQ9]
      exact W.zret (ty := .boolean) (v := 0) hx hb hr (rfl) (fun t ht hW => ⟨⟨rfl, ul, 2, by rw [ht]; exact hP9, hD9⟩, hS.F ht⟩) hS.2.2 dX10_smooth_35
set_option maxHeartbeats 4000000 in
set_option maxRecDepth 100000 in
theorem k_grow_r (l : Launch) (dC : Nat → ClassId) (dI : Nat → Nat → Nat) (cI cZ cF : ClassId) (sz : Nat) (x : Nat) (sh : Nat) (lw : Nat) (ro : Nat) (bq : Nat) (bp : Nat) (dq : Nat) (dp : Nat) (lv : Nat) (sl : Nat) (sd : Int32) (ul : Int32) (su : Int32) (ds : Int32) (fa : Nat) (ft : Nat) (FA : Nat → Option Nat) (f0 : Nat) (L : List Nat) (f : Nat → va_E) (kd : Nat → Int32) (st : Nat → Int32) (tn : Nat → Int32) (mn : Nat → Int32) (cx : Nat → Int32) (cy : Nat → Int32) (h200 : ft ≤ 200) (hf0 : f0 < ft) (hvw : ∀ q, q < ft → vwO cI L f FA kd st tn mn cx cy q) (hbad : ¬ ((st f0).toInt = 1 ∧ (kd f0).toInt = 6 ∧ (tn f0).toInt = 0)) : zM l yX10_grow cX10_grow 4 (some .boolean) ({ frames := 2, cells := 0, slots := 0, locals := 42 } : Room) [.ref x, .int (nI f0)] (dC, dI) (zTy cI cZ cF) ([(oc8 x (.ref sh) (.ref lw) (.ref ro) (.ref bq) (.ref bp) (.ref dq) (.ref dp) (.ref lv) (.ref sl) ds sd ul su), (oc7 sh (.ref fa) (nI ft)), (oq fa cF 200 FA)] ++ va_pl L f) sz (some (.int 0)) (fun A t => ∃ (ul1 : Int32), ∃ (su1 : Int32), zPD (dC, dI) classes A ([(oc8 x (.ref sh) (.ref lw) (.ref ro) (.ref bq) (.ref bp) (.ref dq) (.ref dp) (.ref lv) (.ref sl) ds sd ul1 su1), (oc7 sh (.ref fa) (nI ft)), (oq fa cF 200 FA)] ++ va_pl L f) t.heap) 0 0 := by
  refine zIn (own := "ScaleShop") (loc := [(0, .ref x), (1, .int (nI f0))]) rfl rfl rfl rfl (fun p e s m below meth c hx hb hr hts hown hlocks hml hnm9 A hA hS hP hD hK hXN Q9 hQ9 ls hl => ?_)
  rcases vw2 (hvw f0 (show f0 < ft by omega)) with ⟨ht2, fe2, lk2, lo2, rk2, wd2, tw2, pa2, pb2, gb2, jt2, we2, fm2, hFA2, hfe2, hlk2⟩ | ⟨ht2, fe2, lk2, lo2, rk2, wd2, tw2, pa2, pb2, gb2, jt2, we2, fm2, r2, rx2, ry2, cap2, U2, V2, rg2, hFA2, hfe2, hlk2, ⟨hr2, hrx2, hry2, hne2⟩, hrr2⟩
  · skip
    have hc9_1 : inPl L f [(oc1 fe2 rk2 wd2 tw2 pa2 pb2 (.ref lo2) (.ref lk2) fm2), (oc4 lk2 (kd f0) (st f0) .null gb2 jt2 we2)] := ⟨hfe2, hlk2, trivial⟩
    have hD0_1 := hD
    obtain ⟨T_1, hT_1, hP, hD⟩ := pl_oT hP hD hc9_1 (pwF hfe2.2 hlk2.2)
    obtain ⟨hP, hD⟩ := zre (W2 := ([_, _, _, _, _] ++ va_pl T_1 f)) hP hD rfl
    refine lv_aload_n hx hb dX10_grow_0 rfl (lv_at hl 0 rfl) ?_
    refine va_get (D := (dC, dI)) (ci := 8) (v := .ref sh) (C := RX10) (T := TX10) (N := 13) hx hb hts inX10 hown hK hP 0 rfl rfl 0 (Nat.le_of_ble_eq_true rfl) (hts _ mw_309) (fun _ h9 => h9) rfl dX10_grow_1 ?_
    refine lv_iload_n hx hb dX10_grow_4 rfl (lv_at hl 1 rfl) ?_
    obtain ⟨hPc, hDc, hFc, hI1⟩ := zi_sub (wc := [_, _]) hP hD hS hA [1, 2] rfl rfl
    refine zcall (st1 := [.ref fe2]) (va_runV (As := [.int (nI f0)]) (rest := []) ⟨hx, hb, hml, hown, hts⟩ (k_Sheet_find l dC dI cI cZ cF s.heap.size sh fa ft FA f0 fe2 (by first | with_reducible assumption | omega) (by first | with_reducible assumption | omega) (hFA2)) (csV_94 hts rfl rfl ⟨Nat.le_of_ble_eq_true rfl, Nat.le_of_ble_eq_true rfl⟩) (zPV2 (q0 := 0) (ci := 7) hPc hDc hK hXN rfl rfl) rfl rfl hl.1 rfl (lv_room (Nat.le_of_ble_eq_true rfl)) dX10_grow_5 ⟨Nat.le_of_ble_eq_true rfl, Nat.le_of_ble_eq_true rfl⟩) hS hFc hFc rfl (fun t H locs ht hB hk1 hS => ?_)
    obtain ⟨hP1, hD1⟩ := hB
    rw [ht] at hP1
    replace hP := z0 hP hD hk1 hP1 hI1
    clear hk1 hPc hDc hFc hP1 hD1 ht hI1
    refine lv_astore_n (lv' := [(2, .ref fe2), (0, .ref x), (1, .int (nI f0))]) hx hb dX10_grow_8 rfl hl (Nat.le_of_ble_eq_true rfl) rfl (fun ls hl => ?_)
    refine lv_aload_n hx hb dX10_grow_9 rfl (lv_at hl 0 rfl) ?_
    refine lv_ifnonnull (tgt := 19) hx hb dX10_grow_10 rfl ?_
    refine lv_aload_n hx hb dX10_grow_19 rfl (lv_at hl 0 rfl) ?_
    refine va_get (D := (dC, dI)) (ci := 1) (v := .ref lk2) (C := RX2) (T := TX2) (N := 8) hx hb hts inX2 hown hK hP 3 rfl rfl 6 (Nat.le_of_ble_eq_true rfl) (hts _ mw_433) (fun _ h9 => h9) rfl dX10_grow_20 ?_
    refine va_get (D := (dC, dI)) (ci := 4) (v := .int (st f0)) (C := RX5) (T := TX5) (N := 6) hx hb hts inX5 hown hK hP 4 rfl rfl 1 (Nat.le_of_ble_eq_true rfl) (hts _ mw_385) (fun _ h9 => h9) rfl dX10_grow_23 ?_
    refine lv_iconst (v := 1) hx hb dX10_grow_26 rfl ?_
    refine lv_icmp_eq (tgt := 36) hx hb dX10_grow_27 rfl (fun c_1 => ?_) (fun c_1 => ?_)
    · have c_1 : (st f0).toInt = 1 := zc_eq rfl rfl c_1
      refine lv_aload_n hx hb dX10_grow_36 rfl (lv_at hl 0 rfl) ?_
      refine va_get (D := (dC, dI)) (ci := 1) (v := .ref lk2) (C := RX2) (T := TX2) (N := 8) hx hb hts inX2 hown hK hP 3 rfl rfl 6 (Nat.le_of_ble_eq_true rfl) (hts _ mw_433) (fun _ h9 => h9) rfl dX10_grow_37 ?_
      refine va_get (D := (dC, dI)) (ci := 4) (v := .int (kd f0)) (C := RX5) (T := TX5) (N := 6) hx hb hts inX5 hown hK hP 4 rfl rfl 0 (Nat.le_of_ble_eq_true rfl) (hts _ mw_381) (fun _ h9 => h9) rfl dX10_grow_40 ?_
      refine lv_bipush (v := 6) hx hb dX10_grow_43 rfl ?_
      refine lv_icmp_eq (tgt := 54) hx hb dX10_grow_45 rfl (fun c_2 => ?_) (fun c_2 => ?_)
      · have c_2 : (kd f0).toInt = 6 := zc_eq rfl rfl c_2
        refine lv_aload_n hx hb dX10_grow_54 rfl (lv_at hl 0 rfl) ?_
        refine va_get (D := (dC, dI)) (ci := 1) (v := .ref lk2) (C := RX2) (T := TX2) (N := 8) hx hb hts inX2 hown hK hP 3 rfl rfl 6 (Nat.le_of_ble_eq_true rfl) (hts _ mw_433) (fun _ h9 => h9) rfl dX10_grow_55 ?_
        refine va_get (D := (dC, dI)) (ci := 4) (v := .null) (C := RX5) (T := TX5) (N := 6) hx hb hts inX5 hown hK hP 4 rfl rfl 2 (Nat.le_of_ble_eq_true rfl) (hts _ mw_391) (fun _ h9 => h9) rfl dX10_grow_58 ?_
        refine lv_astore_nN (lv' := [(3, .null), (2, .ref fe2), (0, .ref x), (1, .int (nI f0))]) hx hb dX10_grow_61 rfl hl (Nat.le_of_ble_eq_true rfl) rfl (fun ls hl => ?_)
        refine lv_aload_nN hx hb dX10_grow_62 rfl (lv_at hl 0 rfl) ?_
        refine lv_ifnonnullN hx hb dX10_grow_63 ?_
        refine lv_aload_n hx hb dX10_grow_66 rfl (lv_at hl 2 rfl) ?_
        refine lv_iconst (v := 5) hx hb dX10_grow_67 rfl ?_
        obtain ⟨hPc, hDc, hFc⟩ := zo_sub (wc := [_]) hP hD hS hA [0] rfl rfl
        refine zcall (st1 := [.int 0]) (va_runV (As := [.int 5]) (rest := []) ⟨hx, hb, hml, hown, hts⟩ (k_deny_5 l dC dI cI cZ cF H.size x sh lw ro bq bp dq dp lv sl sd ul su ds ) (csV_96 hts rfl rfl ⟨Nat.le_of_ble_eq_true rfl, Nat.le_of_ble_eq_true rfl⟩) (zPV2 (q0 := 0) (ci := 8) hPc hDc hK hXN rfl rfl) rfl rfl hl.1 rfl (lv_room (Nat.le_of_ble_eq_true rfl)) dX10_grow_68 ⟨Nat.le_of_ble_eq_true rfl, Nat.le_of_ble_eq_true rfl⟩) hS hFc hFc rfl (fun t H locs ht hB hk1 hS => ?_)
        obtain ⟨hP1, hD1⟩ := hB
        rw [ht] at hP1
        obtain ⟨hP, hD⟩ := znQ (W2 := [(oc8 x (.ref sh) (.ref lw) (.ref ro) (.ref bq) (.ref bp) (.ref dq) (.ref dp) (.ref lv) (.ref sl) ds sd ul 5), _, _, _, _]) hP hD hk1 hFc hP1 hD1 [0] [false, true, true, true, true] [false, true, true, true, true] [0] (by decide +kernel) rfl rfl rfl rfl rfl
        clear hk1 hPc hDc hFc hP1 hD1 ht
        obtain ⟨hP, hD⟩ := pl_bk (X := [_, _, _]) hT_1 hP rfl hc9_1 hD0_1 rfl
        obtain ⟨hP9, hD9⟩ := zu_part (cx := [_, _, _]) hP hD [true, true, true] rfl rfl
        rw [hQ9]
        exact W.zret (ty := .boolean) (v := 0) hx hb hr (rfl) (fun t ht hW => ⟨⟨rfl, ul, 5, by rw [ht]; exact hP9, hD9⟩, hS.F ht⟩) hS.2.2 dX10_grow_71
      · have c_2 : ¬ (kd f0).toInt = 6 := zc_ne rfl rfl c_2
        refine lv_aload_n hx hb dX10_grow_48 rfl (lv_at hl 1 rfl) ?_
        refine lv_iconst (v := 3) hx hb dX10_grow_49 rfl ?_
        obtain ⟨hPc, hDc, hFc⟩ := zo_sub (wc := [_]) hP hD hS hA [0] rfl rfl
        refine zcall (st1 := [.int 0]) (va_runV (As := [.int 3]) (rest := []) ⟨hx, hb, hml, hown, hts⟩ (k_deny_3 l dC dI cI cZ cF H.size x sh lw ro bq bp dq dp lv sl sd ul su ds ) (csV_96 hts rfl rfl ⟨Nat.le_of_ble_eq_true rfl, Nat.le_of_ble_eq_true rfl⟩) (zPV2 (q0 := 0) (ci := 8) hPc hDc hK hXN rfl rfl) rfl rfl hl.1 rfl (lv_room (Nat.le_of_ble_eq_true rfl)) dX10_grow_50 ⟨Nat.le_of_ble_eq_true rfl, Nat.le_of_ble_eq_true rfl⟩) hS hFc hFc rfl (fun t H locs ht hB hk1 hS => ?_)
        obtain ⟨hP1, hD1⟩ := hB
        rw [ht] at hP1
        obtain ⟨hP, hD⟩ := znQ (W2 := [(oc8 x (.ref sh) (.ref lw) (.ref ro) (.ref bq) (.ref bp) (.ref dq) (.ref dp) (.ref lv) (.ref sl) ds sd ul 3), _, _, _, _]) hP hD hk1 hFc hP1 hD1 [0] [false, true, true, true, true] [false, true, true, true, true] [0] (by decide +kernel) rfl rfl rfl rfl rfl
        clear hk1 hPc hDc hFc hP1 hD1 ht
        obtain ⟨hP, hD⟩ := pl_bk (X := [_, _, _]) hT_1 hP rfl hc9_1 hD0_1 rfl
        obtain ⟨hP9, hD9⟩ := zu_part (cx := [_, _, _]) hP hD [true, true, true] rfl rfl
        rw [hQ9]
        exact W.zret (ty := .boolean) (v := 0) hx hb hr (rfl) (fun t ht hW => ⟨⟨rfl, ul, 3, by rw [ht]; exact hP9, hD9⟩, hS.F ht⟩) hS.2.2 dX10_grow_53
    · have c_1 : ¬ (st f0).toInt = 1 := zc_ne rfl rfl c_1
      refine lv_aload_n hx hb dX10_grow_30 rfl (lv_at hl 1 rfl) ?_
      refine lv_iconst (v := 2) hx hb dX10_grow_31 rfl ?_
      obtain ⟨hPc, hDc, hFc⟩ := zo_sub (wc := [_]) hP hD hS hA [0] rfl rfl
      refine zcall (st1 := [.int 0]) (va_runV (As := [.int 2]) (rest := []) ⟨hx, hb, hml, hown, hts⟩ (k_deny_2 l dC dI cI cZ cF H.size x sh lw ro bq bp dq dp lv sl sd ul su ds ) (csV_96 hts rfl rfl ⟨Nat.le_of_ble_eq_true rfl, Nat.le_of_ble_eq_true rfl⟩) (zPV2 (q0 := 0) (ci := 8) hPc hDc hK hXN rfl rfl) rfl rfl hl.1 rfl (lv_room (Nat.le_of_ble_eq_true rfl)) dX10_grow_32 ⟨Nat.le_of_ble_eq_true rfl, Nat.le_of_ble_eq_true rfl⟩) hS hFc hFc rfl (fun t H locs ht hB hk1 hS => ?_)
      obtain ⟨hP1, hD1⟩ := hB
      rw [ht] at hP1
      obtain ⟨hP, hD⟩ := znQ (W2 := [(oc8 x (.ref sh) (.ref lw) (.ref ro) (.ref bq) (.ref bp) (.ref dq) (.ref dp) (.ref lv) (.ref sl) ds sd ul 2), _, _, _, _]) hP hD hk1 hFc hP1 hD1 [0] [false, true, true, true, true] [false, true, true, true, true] [0] (by decide +kernel) rfl rfl rfl rfl rfl
      clear hk1 hPc hDc hFc hP1 hD1 ht
      obtain ⟨hP, hD⟩ := pl_bk (X := [_, _, _]) hT_1 hP rfl hc9_1 hD0_1 rfl
      obtain ⟨hP9, hD9⟩ := zu_part (cx := [_, _, _]) hP hD [true, true, true] rfl rfl
      rw [hQ9]
      exact W.zret (ty := .boolean) (v := 0) hx hb hr (rfl) (fun t ht hW => ⟨⟨rfl, ul, 2, by rw [ht]; exact hP9, hD9⟩, hS.F ht⟩) hS.2.2 dX10_grow_35
  · skip
    have hcap2 := hrr2.1
    have hcap3 := hrr2.2.1
    have hc9_1 : inPl L f [(oc1 fe2 rk2 wd2 tw2 pa2 pb2 (.ref lo2) (.ref lk2) fm2), (oc4 lk2 (kd f0) (st f0) (.ref r2) gb2 jt2 we2), (oc6 r2 (.ref rx2) (.ref ry2) (nI (nN (mn f0))) rg2), (oa rx2 cI cap2 U2), (oa ry2 cI cap2 V2)] := ⟨hfe2, hlk2, hr2, hrx2, hry2, trivial⟩
    have hD0_1 := hD
    obtain ⟨T_1, hT_1, hP, hD⟩ := pl_oT hP hD hc9_1 (pwR hfe2.2 hlk2.2 hr2.2 hrx2.2 hry2.2 hne2)
    obtain ⟨hP, hD⟩ := zre (W2 := ([_, _, _, _, _, _, _, _] ++ va_pl T_1 f)) hP hD rfl
    refine lv_aload_n hx hb dX10_grow_0 rfl (lv_at hl 0 rfl) ?_
    refine va_get (D := (dC, dI)) (ci := 8) (v := .ref sh) (C := RX10) (T := TX10) (N := 13) hx hb hts inX10 hown hK hP 0 rfl rfl 0 (Nat.le_of_ble_eq_true rfl) (hts _ mw_309) (fun _ h9 => h9) rfl dX10_grow_1 ?_
    refine lv_iload_n hx hb dX10_grow_4 rfl (lv_at hl 1 rfl) ?_
    obtain ⟨hPc, hDc, hFc, hI1⟩ := zi_sub (wc := [_, _]) hP hD hS hA [1, 2] rfl rfl
    refine zcall (st1 := [.ref fe2]) (va_runV (As := [.int (nI f0)]) (rest := []) ⟨hx, hb, hml, hown, hts⟩ (k_Sheet_find l dC dI cI cZ cF s.heap.size sh fa ft FA f0 fe2 (by first | with_reducible assumption | omega) (by first | with_reducible assumption | omega) (hFA2)) (csV_94 hts rfl rfl ⟨Nat.le_of_ble_eq_true rfl, Nat.le_of_ble_eq_true rfl⟩) (zPV2 (q0 := 0) (ci := 7) hPc hDc hK hXN rfl rfl) rfl rfl hl.1 rfl (lv_room (Nat.le_of_ble_eq_true rfl)) dX10_grow_5 ⟨Nat.le_of_ble_eq_true rfl, Nat.le_of_ble_eq_true rfl⟩) hS hFc hFc rfl (fun t H locs ht hB hk1 hS => ?_)
    obtain ⟨hP1, hD1⟩ := hB
    rw [ht] at hP1
    replace hP := z0 hP hD hk1 hP1 hI1
    clear hk1 hPc hDc hFc hP1 hD1 ht hI1
    refine lv_astore_n (lv' := [(2, .ref fe2), (0, .ref x), (1, .int (nI f0))]) hx hb dX10_grow_8 rfl hl (Nat.le_of_ble_eq_true rfl) rfl (fun ls hl => ?_)
    refine lv_aload_n hx hb dX10_grow_9 rfl (lv_at hl 0 rfl) ?_
    refine lv_ifnonnull (tgt := 19) hx hb dX10_grow_10 rfl ?_
    refine lv_aload_n hx hb dX10_grow_19 rfl (lv_at hl 0 rfl) ?_
    refine va_get (D := (dC, dI)) (ci := 1) (v := .ref lk2) (C := RX2) (T := TX2) (N := 8) hx hb hts inX2 hown hK hP 3 rfl rfl 6 (Nat.le_of_ble_eq_true rfl) (hts _ mw_433) (fun _ h9 => h9) rfl dX10_grow_20 ?_
    refine va_get (D := (dC, dI)) (ci := 4) (v := .int (st f0)) (C := RX5) (T := TX5) (N := 6) hx hb hts inX5 hown hK hP 4 rfl rfl 1 (Nat.le_of_ble_eq_true rfl) (hts _ mw_385) (fun _ h9 => h9) rfl dX10_grow_23 ?_
    refine lv_iconst (v := 1) hx hb dX10_grow_26 rfl ?_
    refine lv_icmp_eq (tgt := 36) hx hb dX10_grow_27 rfl (fun c_3 => ?_) (fun c_3 => ?_)
    · have c_3 : (st f0).toInt = 1 := zc_eq rfl rfl c_3
      refine lv_aload_n hx hb dX10_grow_36 rfl (lv_at hl 0 rfl) ?_
      refine va_get (D := (dC, dI)) (ci := 1) (v := .ref lk2) (C := RX2) (T := TX2) (N := 8) hx hb hts inX2 hown hK hP 3 rfl rfl 6 (Nat.le_of_ble_eq_true rfl) (hts _ mw_433) (fun _ h9 => h9) rfl dX10_grow_37 ?_
      refine va_get (D := (dC, dI)) (ci := 4) (v := .int (kd f0)) (C := RX5) (T := TX5) (N := 6) hx hb hts inX5 hown hK hP 4 rfl rfl 0 (Nat.le_of_ble_eq_true rfl) (hts _ mw_381) (fun _ h9 => h9) rfl dX10_grow_40 ?_
      refine lv_bipush (v := 6) hx hb dX10_grow_43 rfl ?_
      refine lv_icmp_eq (tgt := 54) hx hb dX10_grow_45 rfl (fun c_4 => ?_) (fun c_4 => ?_)
      · have c_4 : (kd f0).toInt = 6 := zc_eq rfl rfl c_4
        refine lv_aload_n hx hb dX10_grow_54 rfl (lv_at hl 0 rfl) ?_
        refine va_get (D := (dC, dI)) (ci := 1) (v := .ref lk2) (C := RX2) (T := TX2) (N := 8) hx hb hts inX2 hown hK hP 3 rfl rfl 6 (Nat.le_of_ble_eq_true rfl) (hts _ mw_433) (fun _ h9 => h9) rfl dX10_grow_55 ?_
        refine va_get (D := (dC, dI)) (ci := 4) (v := .ref r2) (C := RX5) (T := TX5) (N := 6) hx hb hts inX5 hown hK hP 4 rfl rfl 2 (Nat.le_of_ble_eq_true rfl) (hts _ mw_391) (fun _ h9 => h9) rfl dX10_grow_58 ?_
        refine lv_astore_n (lv' := [(3, .ref r2), (2, .ref fe2), (0, .ref x), (1, .int (nI f0))]) hx hb dX10_grow_61 rfl hl (Nat.le_of_ble_eq_true rfl) rfl (fun ls hl => ?_)
        refine lv_aload_n hx hb dX10_grow_62 rfl (lv_at hl 0 rfl) ?_
        refine lv_ifnonnull (tgt := 72) hx hb dX10_grow_63 rfl ?_
        exfalso; omega
      · have c_4 : ¬ (kd f0).toInt = 6 := zc_ne rfl rfl c_4
        refine lv_aload_n hx hb dX10_grow_48 rfl (lv_at hl 1 rfl) ?_
        refine lv_iconst (v := 3) hx hb dX10_grow_49 rfl ?_
        obtain ⟨hPc, hDc, hFc⟩ := zo_sub (wc := [_]) hP hD hS hA [0] rfl rfl
        refine zcall (st1 := [.int 0]) (va_runV (As := [.int 3]) (rest := []) ⟨hx, hb, hml, hown, hts⟩ (k_deny_3 l dC dI cI cZ cF H.size x sh lw ro bq bp dq dp lv sl sd ul su ds ) (csV_96 hts rfl rfl ⟨Nat.le_of_ble_eq_true rfl, Nat.le_of_ble_eq_true rfl⟩) (zPV2 (q0 := 0) (ci := 8) hPc hDc hK hXN rfl rfl) rfl rfl hl.1 rfl (lv_room (Nat.le_of_ble_eq_true rfl)) dX10_grow_50 ⟨Nat.le_of_ble_eq_true rfl, Nat.le_of_ble_eq_true rfl⟩) hS hFc hFc rfl (fun t H locs ht hB hk1 hS => ?_)
        obtain ⟨hP1, hD1⟩ := hB
        rw [ht] at hP1
        obtain ⟨hP, hD⟩ := znQ (W2 := [(oc8 x (.ref sh) (.ref lw) (.ref ro) (.ref bq) (.ref bp) (.ref dq) (.ref dp) (.ref lv) (.ref sl) ds sd ul 3), _, _, _, _, _, _, _]) hP hD hk1 hFc hP1 hD1 [0] zl_54 zl_54 [0] (by decide +kernel) rfl rfl rfl rfl rfl
        clear hk1 hPc hDc hFc hP1 hD1 ht
        obtain ⟨hP, hD⟩ := pl_bk (X := [_, _, _]) hT_1 hP rfl hc9_1 hD0_1 rfl
        obtain ⟨hP9, hD9⟩ := zu_part (cx := [_, _, _]) hP hD [true, true, true] rfl rfl
        rw [hQ9]
        exact W.zret (ty := .boolean) (v := 0) hx hb hr (rfl) (fun t ht hW => ⟨⟨rfl, ul, 3, by rw [ht]; exact hP9, hD9⟩, hS.F ht⟩) hS.2.2 dX10_grow_53
    · have c_3 : ¬ (st f0).toInt = 1 := zc_ne rfl rfl c_3
      refine lv_aload_n hx hb dX10_grow_30 rfl (lv_at hl 1 rfl) ?_
      refine lv_iconst (v := 2) hx hb dX10_grow_31 rfl ?_
      obtain ⟨hPc, hDc, hFc⟩ := zo_sub (wc := [_]) hP hD hS hA [0] rfl rfl
      refine zcall (st1 := [.int 0]) (va_runV (As := [.int 2]) (rest := []) ⟨hx, hb, hml, hown, hts⟩ (k_deny_2 l dC dI cI cZ cF H.size x sh lw ro bq bp dq dp lv sl sd ul su ds ) (csV_96 hts rfl rfl ⟨Nat.le_of_ble_eq_true rfl, Nat.le_of_ble_eq_true rfl⟩) (zPV2 (q0 := 0) (ci := 8) hPc hDc hK hXN rfl rfl) rfl rfl hl.1 rfl (lv_room (Nat.le_of_ble_eq_true rfl)) dX10_grow_32 ⟨Nat.le_of_ble_eq_true rfl, Nat.le_of_ble_eq_true rfl⟩) hS hFc hFc rfl (fun t H locs ht hB hk1 hS => ?_)
      obtain ⟨hP1, hD1⟩ := hB
      rw [ht] at hP1
      obtain ⟨hP, hD⟩ := znQ (W2 := [(oc8 x (.ref sh) (.ref lw) (.ref ro) (.ref bq) (.ref bp) (.ref dq) (.ref dp) (.ref lv) (.ref sl) ds sd ul 2), _, _, _, _, _, _, _]) hP hD hk1 hFc hP1 hD1 [0] zl_54 zl_54 [0] (by decide +kernel) rfl rfl rfl rfl rfl
      clear hk1 hPc hDc hFc hP1 hD1 ht
      obtain ⟨hP, hD⟩ := pl_bk (X := [_, _, _]) hT_1 hP rfl hc9_1 hD0_1 rfl
      obtain ⟨hP9, hD9⟩ := zu_part (cx := [_, _, _]) hP hD [true, true, true] rfl rfl
      rw [hQ9]
      exact W.zret (ty := .boolean) (v := 0) hx hb hr (rfl) (fun t ht hW => ⟨⟨rfl, ul, 2, by rw [ht]; exact hP9, hD9⟩, hS.F ht⟩) hS.2.2 dX10_grow_35
set_option maxHeartbeats 4000000 in
set_option maxRecDepth 100000 in
theorem k_square_r (l : Launch) (dC : Nat → ClassId) (dI : Nat → Nat → Nat) (cI cZ cF : ClassId) (sz : Nat) (x : Nat) (sh : Nat) (lw : Nat) (ro : Nat) (bq : Nat) (bp : Nat) (dq : Nat) (dp : Nat) (lv : Nat) (sl : Nat) (sd : Int32) (ul : Int32) (su : Int32) (ds : Int32) (fa : Nat) (ft : Nat) (FA : Nat → Option Nat) (f0 : Nat) (L : List Nat) (f : Nat → va_E) (kd : Nat → Int32) (st : Nat → Int32) (tn : Nat → Int32) (mn : Nat → Int32) (cx : Nat → Int32) (cy : Nat → Int32) (ms : Int32) (h200 : ft ≤ 200) (hf0 : f0 < ft) (hvw : ∀ q, q < ft → vwO cI L f FA kd st tn mn cx cy q) (hbad : ¬ ((st f0).toInt = 1 ∧ (kd f0).toInt = 5 ∧ 0 ≤ ms.toInt ∧ (tn f0).toInt = 0)) : zM l yX10_square cX10_square 5 (some .boolean) ({ frames := 2, cells := 0, slots := 0, locals := 42 } : Room) [.ref x, .int (nI f0), .int ms] (dC, dI) (zTy cI cZ cF) ([(oc8 x (.ref sh) (.ref lw) (.ref ro) (.ref bq) (.ref bp) (.ref dq) (.ref dp) (.ref lv) (.ref sl) ds sd ul su), (oc7 sh (.ref fa) (nI ft)), (oq fa cF 200 FA)] ++ va_pl L f) sz (some (.int 0)) (fun A t => ∃ (ul1 : Int32), ∃ (su1 : Int32), zPD (dC, dI) classes A ([(oc8 x (.ref sh) (.ref lw) (.ref ro) (.ref bq) (.ref bp) (.ref dq) (.ref dp) (.ref lv) (.ref sl) ds sd ul1 su1), (oc7 sh (.ref fa) (nI ft)), (oq fa cF 200 FA)] ++ va_pl L f) t.heap) 0 0 := by
  refine zIn (own := "ScaleShop") (loc := [(0, .ref x), (1, .int (nI f0)), (2, .int ms)]) rfl rfl rfl rfl (fun p e s m below meth c hx hb hr hts hown hlocks hml hnm9 A hA hS hP hD hK hXN Q9 hQ9 ls hl => ?_)
  rcases vw2 (hvw f0 (show f0 < ft by omega)) with ⟨ht2, fe2, lk2, lo2, rk2, wd2, tw2, pa2, pb2, gb2, jt2, we2, fm2, hFA2, hfe2, hlk2⟩ | ⟨ht2, fe2, lk2, lo2, rk2, wd2, tw2, pa2, pb2, gb2, jt2, we2, fm2, r2, rx2, ry2, cap2, U2, V2, rg2, hFA2, hfe2, hlk2, ⟨hr2, hrx2, hry2, hne2⟩, hrr2⟩
  · skip
    have hc9_1 : inPl L f [(oc1 fe2 rk2 wd2 tw2 pa2 pb2 (.ref lo2) (.ref lk2) fm2), (oc4 lk2 (kd f0) (st f0) .null gb2 jt2 we2)] := ⟨hfe2, hlk2, trivial⟩
    have hD0_1 := hD
    obtain ⟨T_1, hT_1, hP, hD⟩ := pl_oT hP hD hc9_1 (pwF hfe2.2 hlk2.2)
    obtain ⟨hP, hD⟩ := zre (W2 := ([_, _, _, _, _] ++ va_pl T_1 f)) hP hD rfl
    refine lv_aload_n hx hb dX10_square_0 rfl (lv_at hl 0 rfl) ?_
    refine va_get (D := (dC, dI)) (ci := 8) (v := .ref sh) (C := RX10) (T := TX10) (N := 13) hx hb hts inX10 hown hK hP 0 rfl rfl 0 (Nat.le_of_ble_eq_true rfl) (hts _ mw_309) (fun _ h9 => h9) rfl dX10_square_1 ?_
    refine lv_iload_n hx hb dX10_square_4 rfl (lv_at hl 1 rfl) ?_
    obtain ⟨hPc, hDc, hFc, hI1⟩ := zi_sub (wc := [_, _]) hP hD hS hA [1, 2] rfl rfl
    refine zcall (st1 := [.ref fe2]) (va_runV (As := [.int (nI f0)]) (rest := []) ⟨hx, hb, hml, hown, hts⟩ (k_Sheet_find l dC dI cI cZ cF s.heap.size sh fa ft FA f0 fe2 (by first | with_reducible assumption | omega) (by first | with_reducible assumption | omega) (hFA2)) (csV_94 hts rfl rfl ⟨Nat.le_of_ble_eq_true rfl, Nat.le_of_ble_eq_true rfl⟩) (zPV2 (q0 := 0) (ci := 7) hPc hDc hK hXN rfl rfl) rfl rfl hl.1 rfl (lv_room (Nat.le_of_ble_eq_true rfl)) dX10_square_5 ⟨Nat.le_of_ble_eq_true rfl, Nat.le_of_ble_eq_true rfl⟩) hS hFc hFc rfl (fun t H locs ht hB hk1 hS => ?_)
    obtain ⟨hP1, hD1⟩ := hB
    rw [ht] at hP1
    replace hP := z0 hP hD hk1 hP1 hI1
    clear hk1 hPc hDc hFc hP1 hD1 ht hI1
    refine lv_astore_n (lv' := [(3, .ref fe2), (0, .ref x), (1, .int (nI f0)), (2, .int ms)]) hx hb dX10_square_8 rfl hl (Nat.le_of_ble_eq_true rfl) rfl (fun ls hl => ?_)
    refine lv_aload_n hx hb dX10_square_9 rfl (lv_at hl 0 rfl) ?_
    refine lv_ifnonnull (tgt := 19) hx hb dX10_square_10 rfl ?_
    refine lv_aload_n hx hb dX10_square_19 rfl (lv_at hl 0 rfl) ?_
    refine va_get (D := (dC, dI)) (ci := 1) (v := .ref lk2) (C := RX2) (T := TX2) (N := 8) hx hb hts inX2 hown hK hP 3 rfl rfl 6 (Nat.le_of_ble_eq_true rfl) (hts _ mw_433) (fun _ h9 => h9) rfl dX10_square_20 ?_
    refine va_get (D := (dC, dI)) (ci := 4) (v := .int (st f0)) (C := RX5) (T := TX5) (N := 6) hx hb hts inX5 hown hK hP 4 rfl rfl 1 (Nat.le_of_ble_eq_true rfl) (hts _ mw_385) (fun _ h9 => h9) rfl dX10_square_23 ?_
    refine lv_iconst (v := 1) hx hb dX10_square_26 rfl ?_
    refine lv_icmp_eq (tgt := 36) hx hb dX10_square_27 rfl (fun c_1 => ?_) (fun c_1 => ?_)
    · have c_1 : (st f0).toInt = 1 := zc_eq rfl rfl c_1
      refine lv_aload_n hx hb dX10_square_36 rfl (lv_at hl 0 rfl) ?_
      refine va_get (D := (dC, dI)) (ci := 1) (v := .ref lk2) (C := RX2) (T := TX2) (N := 8) hx hb hts inX2 hown hK hP 3 rfl rfl 6 (Nat.le_of_ble_eq_true rfl) (hts _ mw_433) (fun _ h9 => h9) rfl dX10_square_37 ?_
      refine va_get (D := (dC, dI)) (ci := 4) (v := .int (kd f0)) (C := RX5) (T := TX5) (N := 6) hx hb hts inX5 hown hK hP 4 rfl rfl 0 (Nat.le_of_ble_eq_true rfl) (hts _ mw_381) (fun _ h9 => h9) rfl dX10_square_40 ?_
      refine lv_iconst (v := 5) hx hb dX10_square_43 rfl ?_
      refine lv_icmp_eq (tgt := 53) hx hb dX10_square_44 rfl (fun c_2 => ?_) (fun c_2 => ?_)
      · have c_2 : (kd f0).toInt = 5 := zc_eq rfl rfl c_2
        refine lv_iload_n hx hb dX10_square_53 rfl (lv_at hl 3 rfl) ?_
        refine lv_if_ge (tgt := 63) hx hb dX10_square_54 rfl (fun c_3 => ?_) (fun c_3 => ?_)
        · have c_3 : 0 ≤ ms.toInt := zc_le rfl rfl c_3
          refine lv_aload_n hx hb dX10_square_63 rfl (lv_at hl 0 rfl) ?_
          refine va_get (D := (dC, dI)) (ci := 1) (v := .ref lk2) (C := RX2) (T := TX2) (N := 8) hx hb hts inX2 hown hK hP 3 rfl rfl 6 (Nat.le_of_ble_eq_true rfl) (hts _ mw_433) (fun _ h9 => h9) rfl dX10_square_64 ?_
          refine va_get (D := (dC, dI)) (ci := 4) (v := .null) (C := RX5) (T := TX5) (N := 6) hx hb hts inX5 hown hK hP 4 rfl rfl 2 (Nat.le_of_ble_eq_true rfl) (hts _ mw_391) (fun _ h9 => h9) rfl dX10_square_67 ?_
          refine lv_astoreN (lv' := [(4, .null), (3, .ref fe2), (0, .ref x), (1, .int (nI f0)), (2, .int ms)]) hx hb dX10_square_70 hl (Nat.le_of_ble_eq_true rfl) rfl (fun ls hl => ?_)
          refine lv_aloadN hx hb dX10_square_72 (lv_at hl 0 rfl) ?_
          refine lv_ifnonnullN hx hb dX10_square_74 ?_
          refine lv_aload_n hx hb dX10_square_77 rfl (lv_at hl 2 rfl) ?_
          refine lv_iconst (v := 5) hx hb dX10_square_78 rfl ?_
          obtain ⟨hPc, hDc, hFc⟩ := zo_sub (wc := [_]) hP hD hS hA [0] rfl rfl
          refine zcall (st1 := [.int 0]) (va_runV (As := [.int 5]) (rest := []) ⟨hx, hb, hml, hown, hts⟩ (k_deny_5 l dC dI cI cZ cF H.size x sh lw ro bq bp dq dp lv sl sd ul su ds ) (csV_96 hts rfl rfl ⟨Nat.le_of_ble_eq_true rfl, Nat.le_of_ble_eq_true rfl⟩) (zPV2 (q0 := 0) (ci := 8) hPc hDc hK hXN rfl rfl) rfl rfl hl.1 rfl (lv_room (Nat.le_of_ble_eq_true rfl)) dX10_square_79 ⟨Nat.le_of_ble_eq_true rfl, Nat.le_of_ble_eq_true rfl⟩) hS hFc hFc rfl (fun t H locs ht hB hk1 hS => ?_)
          obtain ⟨hP1, hD1⟩ := hB
          rw [ht] at hP1
          obtain ⟨hP, hD⟩ := znQ (W2 := [(oc8 x (.ref sh) (.ref lw) (.ref ro) (.ref bq) (.ref bp) (.ref dq) (.ref dp) (.ref lv) (.ref sl) ds sd ul 5), _, _, _, _]) hP hD hk1 hFc hP1 hD1 [0] [false, true, true, true, true] [false, true, true, true, true] [0] (by decide +kernel) rfl rfl rfl rfl rfl
          clear hk1 hPc hDc hFc hP1 hD1 ht
          obtain ⟨hP, hD⟩ := pl_bk (X := [_, _, _]) hT_1 hP rfl hc9_1 hD0_1 rfl
          obtain ⟨hP9, hD9⟩ := zu_part (cx := [_, _, _]) hP hD [true, true, true] rfl rfl
          rw [hQ9]
          exact W.zret (ty := .boolean) (v := 0) hx hb hr (rfl) (fun t ht hW => ⟨⟨rfl, ul, 5, by rw [ht]; exact hP9, hD9⟩, hS.F ht⟩) hS.2.2 dX10_square_82
        · have c_3 : ms.toInt < 0 := zc_nle rfl rfl c_3
          refine lv_aload_n hx hb dX10_square_57 rfl (lv_at hl 1 rfl) ?_
          refine lv_iconst (v := 4) hx hb dX10_square_58 rfl ?_
          obtain ⟨hPc, hDc, hFc⟩ := zo_sub (wc := [_]) hP hD hS hA [0] rfl rfl
          refine zcall (st1 := [.int 0]) (va_runV (As := [.int 4]) (rest := []) ⟨hx, hb, hml, hown, hts⟩ (k_deny_4 l dC dI cI cZ cF H.size x sh lw ro bq bp dq dp lv sl sd ul su ds ) (csV_96 hts rfl rfl ⟨Nat.le_of_ble_eq_true rfl, Nat.le_of_ble_eq_true rfl⟩) (zPV2 (q0 := 0) (ci := 8) hPc hDc hK hXN rfl rfl) rfl rfl hl.1 rfl (lv_room (Nat.le_of_ble_eq_true rfl)) dX10_square_59 ⟨Nat.le_of_ble_eq_true rfl, Nat.le_of_ble_eq_true rfl⟩) hS hFc hFc rfl (fun t H locs ht hB hk1 hS => ?_)
          obtain ⟨hP1, hD1⟩ := hB
          rw [ht] at hP1
          obtain ⟨hP, hD⟩ := znQ (W2 := [(oc8 x (.ref sh) (.ref lw) (.ref ro) (.ref bq) (.ref bp) (.ref dq) (.ref dp) (.ref lv) (.ref sl) ds sd ul 4), _, _, _, _]) hP hD hk1 hFc hP1 hD1 [0] [false, true, true, true, true] [false, true, true, true, true] [0] (by decide +kernel) rfl rfl rfl rfl rfl
          clear hk1 hPc hDc hFc hP1 hD1 ht
          obtain ⟨hP, hD⟩ := pl_bk (X := [_, _, _]) hT_1 hP rfl hc9_1 hD0_1 rfl
          obtain ⟨hP9, hD9⟩ := zu_part (cx := [_, _, _]) hP hD [true, true, true] rfl rfl
          rw [hQ9]
          exact W.zret (ty := .boolean) (v := 0) hx hb hr (rfl) (fun t ht hW => ⟨⟨rfl, ul, 4, by rw [ht]; exact hP9, hD9⟩, hS.F ht⟩) hS.2.2 dX10_square_62
      · have c_2 : ¬ (kd f0).toInt = 5 := zc_ne rfl rfl c_2
        refine lv_aload_n hx hb dX10_square_47 rfl (lv_at hl 1 rfl) ?_
        refine lv_iconst (v := 3) hx hb dX10_square_48 rfl ?_
        obtain ⟨hPc, hDc, hFc⟩ := zo_sub (wc := [_]) hP hD hS hA [0] rfl rfl
        refine zcall (st1 := [.int 0]) (va_runV (As := [.int 3]) (rest := []) ⟨hx, hb, hml, hown, hts⟩ (k_deny_3 l dC dI cI cZ cF H.size x sh lw ro bq bp dq dp lv sl sd ul su ds ) (csV_96 hts rfl rfl ⟨Nat.le_of_ble_eq_true rfl, Nat.le_of_ble_eq_true rfl⟩) (zPV2 (q0 := 0) (ci := 8) hPc hDc hK hXN rfl rfl) rfl rfl hl.1 rfl (lv_room (Nat.le_of_ble_eq_true rfl)) dX10_square_49 ⟨Nat.le_of_ble_eq_true rfl, Nat.le_of_ble_eq_true rfl⟩) hS hFc hFc rfl (fun t H locs ht hB hk1 hS => ?_)
        obtain ⟨hP1, hD1⟩ := hB
        rw [ht] at hP1
        obtain ⟨hP, hD⟩ := znQ (W2 := [(oc8 x (.ref sh) (.ref lw) (.ref ro) (.ref bq) (.ref bp) (.ref dq) (.ref dp) (.ref lv) (.ref sl) ds sd ul 3), _, _, _, _]) hP hD hk1 hFc hP1 hD1 [0] [false, true, true, true, true] [false, true, true, true, true] [0] (by decide +kernel) rfl rfl rfl rfl rfl
        clear hk1 hPc hDc hFc hP1 hD1 ht
        obtain ⟨hP, hD⟩ := pl_bk (X := [_, _, _]) hT_1 hP rfl hc9_1 hD0_1 rfl
        obtain ⟨hP9, hD9⟩ := zu_part (cx := [_, _, _]) hP hD [true, true, true] rfl rfl
        rw [hQ9]
        exact W.zret (ty := .boolean) (v := 0) hx hb hr (rfl) (fun t ht hW => ⟨⟨rfl, ul, 3, by rw [ht]; exact hP9, hD9⟩, hS.F ht⟩) hS.2.2 dX10_square_52
    · have c_1 : ¬ (st f0).toInt = 1 := zc_ne rfl rfl c_1
      refine lv_aload_n hx hb dX10_square_30 rfl (lv_at hl 1 rfl) ?_
      refine lv_iconst (v := 2) hx hb dX10_square_31 rfl ?_
      obtain ⟨hPc, hDc, hFc⟩ := zo_sub (wc := [_]) hP hD hS hA [0] rfl rfl
      refine zcall (st1 := [.int 0]) (va_runV (As := [.int 2]) (rest := []) ⟨hx, hb, hml, hown, hts⟩ (k_deny_2 l dC dI cI cZ cF H.size x sh lw ro bq bp dq dp lv sl sd ul su ds ) (csV_96 hts rfl rfl ⟨Nat.le_of_ble_eq_true rfl, Nat.le_of_ble_eq_true rfl⟩) (zPV2 (q0 := 0) (ci := 8) hPc hDc hK hXN rfl rfl) rfl rfl hl.1 rfl (lv_room (Nat.le_of_ble_eq_true rfl)) dX10_square_32 ⟨Nat.le_of_ble_eq_true rfl, Nat.le_of_ble_eq_true rfl⟩) hS hFc hFc rfl (fun t H locs ht hB hk1 hS => ?_)
      obtain ⟨hP1, hD1⟩ := hB
      rw [ht] at hP1
      obtain ⟨hP, hD⟩ := znQ (W2 := [(oc8 x (.ref sh) (.ref lw) (.ref ro) (.ref bq) (.ref bp) (.ref dq) (.ref dp) (.ref lv) (.ref sl) ds sd ul 2), _, _, _, _]) hP hD hk1 hFc hP1 hD1 [0] [false, true, true, true, true] [false, true, true, true, true] [0] (by decide +kernel) rfl rfl rfl rfl rfl
      clear hk1 hPc hDc hFc hP1 hD1 ht
      obtain ⟨hP, hD⟩ := pl_bk (X := [_, _, _]) hT_1 hP rfl hc9_1 hD0_1 rfl
      obtain ⟨hP9, hD9⟩ := zu_part (cx := [_, _, _]) hP hD [true, true, true] rfl rfl
      rw [hQ9]
      exact W.zret (ty := .boolean) (v := 0) hx hb hr (rfl) (fun t ht hW => ⟨⟨rfl, ul, 2, by rw [ht]; exact hP9, hD9⟩, hS.F ht⟩) hS.2.2 dX10_square_35
  · skip
    have hcap2 := hrr2.1
    have hcap3 := hrr2.2.1
    have hc9_1 : inPl L f [(oc1 fe2 rk2 wd2 tw2 pa2 pb2 (.ref lo2) (.ref lk2) fm2), (oc4 lk2 (kd f0) (st f0) (.ref r2) gb2 jt2 we2), (oc6 r2 (.ref rx2) (.ref ry2) (nI (nN (mn f0))) rg2), (oa rx2 cI cap2 U2), (oa ry2 cI cap2 V2)] := ⟨hfe2, hlk2, hr2, hrx2, hry2, trivial⟩
    have hD0_1 := hD
    obtain ⟨T_1, hT_1, hP, hD⟩ := pl_oT hP hD hc9_1 (pwR hfe2.2 hlk2.2 hr2.2 hrx2.2 hry2.2 hne2)
    obtain ⟨hP, hD⟩ := zre (W2 := ([_, _, _, _, _, _, _, _] ++ va_pl T_1 f)) hP hD rfl
    refine lv_aload_n hx hb dX10_square_0 rfl (lv_at hl 0 rfl) ?_
    refine va_get (D := (dC, dI)) (ci := 8) (v := .ref sh) (C := RX10) (T := TX10) (N := 13) hx hb hts inX10 hown hK hP 0 rfl rfl 0 (Nat.le_of_ble_eq_true rfl) (hts _ mw_309) (fun _ h9 => h9) rfl dX10_square_1 ?_
    refine lv_iload_n hx hb dX10_square_4 rfl (lv_at hl 1 rfl) ?_
    obtain ⟨hPc, hDc, hFc, hI1⟩ := zi_sub (wc := [_, _]) hP hD hS hA [1, 2] rfl rfl
    refine zcall (st1 := [.ref fe2]) (va_runV (As := [.int (nI f0)]) (rest := []) ⟨hx, hb, hml, hown, hts⟩ (k_Sheet_find l dC dI cI cZ cF s.heap.size sh fa ft FA f0 fe2 (by first | with_reducible assumption | omega) (by first | with_reducible assumption | omega) (hFA2)) (csV_94 hts rfl rfl ⟨Nat.le_of_ble_eq_true rfl, Nat.le_of_ble_eq_true rfl⟩) (zPV2 (q0 := 0) (ci := 7) hPc hDc hK hXN rfl rfl) rfl rfl hl.1 rfl (lv_room (Nat.le_of_ble_eq_true rfl)) dX10_square_5 ⟨Nat.le_of_ble_eq_true rfl, Nat.le_of_ble_eq_true rfl⟩) hS hFc hFc rfl (fun t H locs ht hB hk1 hS => ?_)
    obtain ⟨hP1, hD1⟩ := hB
    rw [ht] at hP1
    replace hP := z0 hP hD hk1 hP1 hI1
    clear hk1 hPc hDc hFc hP1 hD1 ht hI1
    refine lv_astore_n (lv' := [(3, .ref fe2), (0, .ref x), (1, .int (nI f0)), (2, .int ms)]) hx hb dX10_square_8 rfl hl (Nat.le_of_ble_eq_true rfl) rfl (fun ls hl => ?_)
    refine lv_aload_n hx hb dX10_square_9 rfl (lv_at hl 0 rfl) ?_
    refine lv_ifnonnull (tgt := 19) hx hb dX10_square_10 rfl ?_
    refine lv_aload_n hx hb dX10_square_19 rfl (lv_at hl 0 rfl) ?_
    refine va_get (D := (dC, dI)) (ci := 1) (v := .ref lk2) (C := RX2) (T := TX2) (N := 8) hx hb hts inX2 hown hK hP 3 rfl rfl 6 (Nat.le_of_ble_eq_true rfl) (hts _ mw_433) (fun _ h9 => h9) rfl dX10_square_20 ?_
    refine va_get (D := (dC, dI)) (ci := 4) (v := .int (st f0)) (C := RX5) (T := TX5) (N := 6) hx hb hts inX5 hown hK hP 4 rfl rfl 1 (Nat.le_of_ble_eq_true rfl) (hts _ mw_385) (fun _ h9 => h9) rfl dX10_square_23 ?_
    refine lv_iconst (v := 1) hx hb dX10_square_26 rfl ?_
    refine lv_icmp_eq (tgt := 36) hx hb dX10_square_27 rfl (fun c_4 => ?_) (fun c_4 => ?_)
    · have c_4 : (st f0).toInt = 1 := zc_eq rfl rfl c_4
      refine lv_aload_n hx hb dX10_square_36 rfl (lv_at hl 0 rfl) ?_
      refine va_get (D := (dC, dI)) (ci := 1) (v := .ref lk2) (C := RX2) (T := TX2) (N := 8) hx hb hts inX2 hown hK hP 3 rfl rfl 6 (Nat.le_of_ble_eq_true rfl) (hts _ mw_433) (fun _ h9 => h9) rfl dX10_square_37 ?_
      refine va_get (D := (dC, dI)) (ci := 4) (v := .int (kd f0)) (C := RX5) (T := TX5) (N := 6) hx hb hts inX5 hown hK hP 4 rfl rfl 0 (Nat.le_of_ble_eq_true rfl) (hts _ mw_381) (fun _ h9 => h9) rfl dX10_square_40 ?_
      refine lv_iconst (v := 5) hx hb dX10_square_43 rfl ?_
      refine lv_icmp_eq (tgt := 53) hx hb dX10_square_44 rfl (fun c_5 => ?_) (fun c_5 => ?_)
      · have c_5 : (kd f0).toInt = 5 := zc_eq rfl rfl c_5
        refine lv_iload_n hx hb dX10_square_53 rfl (lv_at hl 3 rfl) ?_
        refine lv_if_ge (tgt := 63) hx hb dX10_square_54 rfl (fun c_6 => ?_) (fun c_6 => ?_)
        · have c_6 : 0 ≤ ms.toInt := zc_le rfl rfl c_6
          refine lv_aload_n hx hb dX10_square_63 rfl (lv_at hl 0 rfl) ?_
          refine va_get (D := (dC, dI)) (ci := 1) (v := .ref lk2) (C := RX2) (T := TX2) (N := 8) hx hb hts inX2 hown hK hP 3 rfl rfl 6 (Nat.le_of_ble_eq_true rfl) (hts _ mw_433) (fun _ h9 => h9) rfl dX10_square_64 ?_
          refine va_get (D := (dC, dI)) (ci := 4) (v := .ref r2) (C := RX5) (T := TX5) (N := 6) hx hb hts inX5 hown hK hP 4 rfl rfl 2 (Nat.le_of_ble_eq_true rfl) (hts _ mw_391) (fun _ h9 => h9) rfl dX10_square_67 ?_
          refine lv_astore (lv' := [(4, .ref r2), (3, .ref fe2), (0, .ref x), (1, .int (nI f0)), (2, .int ms)]) hx hb dX10_square_70 hl (Nat.le_of_ble_eq_true rfl) rfl (fun ls hl => ?_)
          refine lv_aload hx hb dX10_square_72 (lv_at hl 0 rfl) ?_
          refine lv_ifnonnull (tgt := 83) hx hb dX10_square_74 rfl ?_
          exfalso; omega
        · have c_6 : ms.toInt < 0 := zc_nle rfl rfl c_6
          refine lv_aload_n hx hb dX10_square_57 rfl (lv_at hl 1 rfl) ?_
          refine lv_iconst (v := 4) hx hb dX10_square_58 rfl ?_
          obtain ⟨hPc, hDc, hFc⟩ := zo_sub (wc := [_]) hP hD hS hA [0] rfl rfl
          refine zcall (st1 := [.int 0]) (va_runV (As := [.int 4]) (rest := []) ⟨hx, hb, hml, hown, hts⟩ (k_deny_4 l dC dI cI cZ cF H.size x sh lw ro bq bp dq dp lv sl sd ul su ds ) (csV_96 hts rfl rfl ⟨Nat.le_of_ble_eq_true rfl, Nat.le_of_ble_eq_true rfl⟩) (zPV2 (q0 := 0) (ci := 8) hPc hDc hK hXN rfl rfl) rfl rfl hl.1 rfl (lv_room (Nat.le_of_ble_eq_true rfl)) dX10_square_59 ⟨Nat.le_of_ble_eq_true rfl, Nat.le_of_ble_eq_true rfl⟩) hS hFc hFc rfl (fun t H locs ht hB hk1 hS => ?_)
          obtain ⟨hP1, hD1⟩ := hB
          rw [ht] at hP1
          obtain ⟨hP, hD⟩ := znQ (W2 := [(oc8 x (.ref sh) (.ref lw) (.ref ro) (.ref bq) (.ref bp) (.ref dq) (.ref dp) (.ref lv) (.ref sl) ds sd ul 4), _, _, _, _, _, _, _]) hP hD hk1 hFc hP1 hD1 [0] zl_54 zl_54 [0] (by decide +kernel) rfl rfl rfl rfl rfl
          clear hk1 hPc hDc hFc hP1 hD1 ht
          obtain ⟨hP, hD⟩ := pl_bk (X := [_, _, _]) hT_1 hP rfl hc9_1 hD0_1 rfl
          obtain ⟨hP9, hD9⟩ := zu_part (cx := [_, _, _]) hP hD [true, true, true] rfl rfl
          rw [hQ9]
          exact W.zret (ty := .boolean) (v := 0) hx hb hr (rfl) (fun t ht hW => ⟨⟨rfl, ul, 4, by rw [ht]; exact hP9, hD9⟩, hS.F ht⟩) hS.2.2 dX10_square_62
      · have c_5 : ¬ (kd f0).toInt = 5 := zc_ne rfl rfl c_5
        refine lv_aload_n hx hb dX10_square_47 rfl (lv_at hl 1 rfl) ?_
        refine lv_iconst (v := 3) hx hb dX10_square_48 rfl ?_
        obtain ⟨hPc, hDc, hFc⟩ := zo_sub (wc := [_]) hP hD hS hA [0] rfl rfl
        refine zcall (st1 := [.int 0]) (va_runV (As := [.int 3]) (rest := []) ⟨hx, hb, hml, hown, hts⟩ (k_deny_3 l dC dI cI cZ cF H.size x sh lw ro bq bp dq dp lv sl sd ul su ds ) (csV_96 hts rfl rfl ⟨Nat.le_of_ble_eq_true rfl, Nat.le_of_ble_eq_true rfl⟩) (zPV2 (q0 := 0) (ci := 8) hPc hDc hK hXN rfl rfl) rfl rfl hl.1 rfl (lv_room (Nat.le_of_ble_eq_true rfl)) dX10_square_49 ⟨Nat.le_of_ble_eq_true rfl, Nat.le_of_ble_eq_true rfl⟩) hS hFc hFc rfl (fun t H locs ht hB hk1 hS => ?_)
        obtain ⟨hP1, hD1⟩ := hB
        rw [ht] at hP1
        obtain ⟨hP, hD⟩ := znQ (W2 := [(oc8 x (.ref sh) (.ref lw) (.ref ro) (.ref bq) (.ref bp) (.ref dq) (.ref dp) (.ref lv) (.ref sl) ds sd ul 3), _, _, _, _, _, _, _]) hP hD hk1 hFc hP1 hD1 [0] zl_54 zl_54 [0] (by decide +kernel) rfl rfl rfl rfl rfl
        clear hk1 hPc hDc hFc hP1 hD1 ht
        obtain ⟨hP, hD⟩ := pl_bk (X := [_, _, _]) hT_1 hP rfl hc9_1 hD0_1 rfl
        obtain ⟨hP9, hD9⟩ := zu_part (cx := [_, _, _]) hP hD [true, true, true] rfl rfl
        rw [hQ9]
        exact W.zret (ty := .boolean) (v := 0) hx hb hr (rfl) (fun t ht hW => ⟨⟨rfl, ul, 3, by rw [ht]; exact hP9, hD9⟩, hS.F ht⟩) hS.2.2 dX10_square_52
    · have c_4 : ¬ (st f0).toInt = 1 := zc_ne rfl rfl c_4
      refine lv_aload_n hx hb dX10_square_30 rfl (lv_at hl 1 rfl) ?_
      refine lv_iconst (v := 2) hx hb dX10_square_31 rfl ?_
      obtain ⟨hPc, hDc, hFc⟩ := zo_sub (wc := [_]) hP hD hS hA [0] rfl rfl
      refine zcall (st1 := [.int 0]) (va_runV (As := [.int 2]) (rest := []) ⟨hx, hb, hml, hown, hts⟩ (k_deny_2 l dC dI cI cZ cF H.size x sh lw ro bq bp dq dp lv sl sd ul su ds ) (csV_96 hts rfl rfl ⟨Nat.le_of_ble_eq_true rfl, Nat.le_of_ble_eq_true rfl⟩) (zPV2 (q0 := 0) (ci := 8) hPc hDc hK hXN rfl rfl) rfl rfl hl.1 rfl (lv_room (Nat.le_of_ble_eq_true rfl)) dX10_square_32 ⟨Nat.le_of_ble_eq_true rfl, Nat.le_of_ble_eq_true rfl⟩) hS hFc hFc rfl (fun t H locs ht hB hk1 hS => ?_)
      obtain ⟨hP1, hD1⟩ := hB
      rw [ht] at hP1
      obtain ⟨hP, hD⟩ := znQ (W2 := [(oc8 x (.ref sh) (.ref lw) (.ref ro) (.ref bq) (.ref bp) (.ref dq) (.ref dp) (.ref lv) (.ref sl) ds sd ul 2), _, _, _, _, _, _, _]) hP hD hk1 hFc hP1 hD1 [0] zl_54 zl_54 [0] (by decide +kernel) rfl rfl rfl rfl rfl
      clear hk1 hPc hDc hFc hP1 hD1 ht
      obtain ⟨hP, hD⟩ := pl_bk (X := [_, _, _]) hT_1 hP rfl hc9_1 hD0_1 rfl
      obtain ⟨hP9, hD9⟩ := zu_part (cx := [_, _, _]) hP hD [true, true, true] rfl rfl
      rw [hQ9]
      exact W.zret (ty := .boolean) (v := 0) hx hb hr (rfl) (fun t ht hW => ⟨⟨rfl, ul, 2, by rw [ht]; exact hP9, hD9⟩, hS.F ht⟩) hS.2.2 dX10_square_35
end
section
set_option maxHeartbeats 4000000 in
set_option maxRecDepth 100000 in
theorem k_corner_r (l : Launch) (dC : Nat → ClassId) (dI : Nat → Nat → Nat) (cI cZ cF : ClassId) (sz : Nat) (x : Nat) (sh : Nat) (lw : Nat) (ro : Nat) (bq : Nat) (bp : Nat) (dq : Nat) (dp : Nat) (lv : Nat) (sl : Nat) (sd : Int32) (ul : Int32) (su : Int32) (ds : Int32) (fa : Nat) (ft : Nat) (FA : Nat → Option Nat) (f0 : Nat) (L : List Nat) (f : Nat → va_E) (kd : Nat → Int32) (st : Nat → Int32) (tn : Nat → Int32) (mn : Nat → Int32) (cx : Nat → Int32) (cy : Nat → Int32) (px : Int32) (py : Int32) (h200 : ft ≤ 200) (hf0 : f0 < ft) (hvw : ∀ q, q < ft → vwO cI L f FA kd st tn mn cx cy q) (hbad : ¬ ((st f0).toInt = 0 ∧ (pl px ∧ pl py) ∧ (tn f0).toInt = 0 ∧ nN (mn f0) < (if (kd f0).toInt = 0 then 1 else 40))) : zM l yX10_corner cX10_corner 6 (some .int) ({ frames := 2, cells := 0, slots := 0, locals := 43 } : Room) [.ref x, .int (nI f0), .int px, .int py] (dC, dI) (zTy cI cZ cF) ([(oc8 x (.ref sh) (.ref lw) (.ref ro) (.ref bq) (.ref bp) (.ref dq) (.ref dp) (.ref lv) (.ref sl) ds sd ul su), (oc7 sh (.ref fa) (nI ft)), (oq fa cF 200 FA)] ++ va_pl L f) sz (some (.int (-1))) (fun A t => ∃ (ul1 : Int32), ∃ (su1 : Int32), zPD (dC, dI) classes A ([(oc8 x (.ref sh) (.ref lw) (.ref ro) (.ref bq) (.ref bp) (.ref dq) (.ref dp) (.ref lv) (.ref sl) ds sd ul1 su1), (oc7 sh (.ref fa) (nI ft)), (oq fa cF 200 FA)] ++ va_pl L f) t.heap) 0 0 := by
  refine zIn (own := "ScaleShop") (loc := [(0, .ref x), (1, .int (nI f0)), (2, .int px), (3, .int py)]) rfl rfl rfl rfl (fun p e s m below meth c hx hb hr hts hown hlocks hml hnm9 A hA hS hP hD hK hXN Q9 hQ9 ls hl => ?_)
  have hmc9 : (if (kd f0).toInt = 0 then 1 else 40) ≤ 40 := (by split <;> omega)
  rcases vw2 (hvw f0 (show f0 < ft by omega)) with ⟨ht2, fe2, lk2, lo2, rk2, wd2, tw2, pa2, pb2, gb2, jt2, we2, fm2, hFA2, hfe2, hlk2⟩ | ⟨ht2, fe2, lk2, lo2, rk2, wd2, tw2, pa2, pb2, gb2, jt2, we2, fm2, r2, rx2, ry2, cap2, U2, V2, rg2, hFA2, hfe2, hlk2, ⟨hr2, hrx2, hry2, hne2⟩, hrr2⟩
  · skip
    have hc9_1 : inPl L f [(oc1 fe2 rk2 wd2 tw2 pa2 pb2 (.ref lo2) (.ref lk2) fm2), (oc4 lk2 (kd f0) (st f0) .null gb2 jt2 we2)] := ⟨hfe2, hlk2, trivial⟩
    have hD0_1 := hD
    obtain ⟨T_1, hT_1, hP, hD⟩ := pl_oT hP hD hc9_1 (pwF hfe2.2 hlk2.2)
    obtain ⟨hP, hD⟩ := zre (W2 := ([_, _, _, _, _] ++ va_pl T_1 f)) hP hD rfl
    refine lv_aload_n hx hb dX10_corner_0 rfl (lv_at hl 0 rfl) ?_
    refine va_get (D := (dC, dI)) (ci := 8) (v := .ref sh) (C := RX10) (T := TX10) (N := 13) hx hb hts inX10 hown hK hP 0 rfl rfl 0 (Nat.le_of_ble_eq_true rfl) (hts _ mw_309) (fun _ h9 => h9) rfl dX10_corner_1 ?_
    refine lv_iload_n hx hb dX10_corner_4 rfl (lv_at hl 1 rfl) ?_
    obtain ⟨hPc, hDc, hFc, hI1⟩ := zi_sub (wc := [_, _]) hP hD hS hA [1, 2] rfl rfl
    refine zcall (st1 := [.ref fe2]) (va_runV (As := [.int (nI f0)]) (rest := []) ⟨hx, hb, hml, hown, hts⟩ (k_Sheet_find l dC dI cI cZ cF s.heap.size sh fa ft FA f0 fe2 (by first | with_reducible assumption | omega) (by first | with_reducible assumption | omega) (hFA2)) (csV_94 hts rfl rfl ⟨Nat.le_of_ble_eq_true rfl, Nat.le_of_ble_eq_true rfl⟩) (zPV2 (q0 := 0) (ci := 7) hPc hDc hK hXN rfl rfl) rfl rfl hl.1 rfl (lv_room (Nat.le_of_ble_eq_true rfl)) dX10_corner_5 ⟨Nat.le_of_ble_eq_true rfl, Nat.le_of_ble_eq_true rfl⟩) hS hFc hFc rfl (fun t H locs ht hB hk1 hS => ?_)
    obtain ⟨hP1, hD1⟩ := hB
    rw [ht] at hP1
    replace hP := z0 hP hD hk1 hP1 hI1
    clear hk1 hPc hDc hFc hP1 hD1 ht hI1
    refine lv_astore (lv' := [(4, .ref fe2), (0, .ref x), (1, .int (nI f0)), (2, .int px), (3, .int py)]) hx hb dX10_corner_8 hl (Nat.le_of_ble_eq_true rfl) rfl (fun ls hl => ?_)
    refine lv_aload hx hb dX10_corner_10 (lv_at hl 0 rfl) ?_
    refine lv_ifnonnull (tgt := 21) hx hb dX10_corner_12 rfl ?_
    refine lv_aload hx hb dX10_corner_21 (lv_at hl 0 rfl) ?_
    refine va_get (D := (dC, dI)) (ci := 1) (v := .ref lk2) (C := RX2) (T := TX2) (N := 8) hx hb hts inX2 hown hK hP 3 rfl rfl 6 (Nat.le_of_ble_eq_true rfl) (hts _ mw_433) (fun _ h9 => h9) rfl dX10_corner_23 ?_
    refine va_get (D := (dC, dI)) (ci := 4) (v := .int (st f0)) (C := RX5) (T := TX5) (N := 6) hx hb hts inX5 hown hK hP 4 rfl rfl 1 (Nat.le_of_ble_eq_true rfl) (hts _ mw_385) (fun _ h9 => h9) rfl dX10_corner_26 ?_
    refine lv_if_eq (tgt := 38) hx hb dX10_corner_29 rfl (fun c_1 => ?_) (fun c_1 => ?_)
    · have c_1 : (st f0).toInt = 0 := zc_eq rfl rfl c_1
      refine lv_iload_n hx hb dX10_corner_38 rfl (lv_at hl 3 rfl) ?_
      refine lv_iload_n hx hb dX10_corner_39 rfl (lv_at hl 4 rfl) ?_
      obtain ⟨hPc, hDc, hFc, hI1⟩ := zi_sub (wc := []) hP hD hS hA [] rfl rfl
      refine zcall (st1 := [.int (pI (pl px ∧ pl py))]) (va_runS (As := [.int px, .int py]) (rest := []) ⟨hx, hb, hml, hown, hts⟩ (k_isPlace l dC dI cI cZ cF H.size px py ) (csS_98 hts rfl rfl ⟨Nat.le_of_ble_eq_true rfl, Nat.le_of_ble_eq_true rfl⟩) (zPS2 hPc hDc hK hXN) rfl rfl hl.1 rfl (lv_room (Nat.le_of_ble_eq_true rfl)) dX10_corner_40 ⟨Nat.le_of_ble_eq_true rfl, Nat.le_of_ble_eq_true rfl⟩) hS hFc hFc rfl (fun t H locs ht hB hk1 hS => ?_)
      obtain ⟨hP1, hD1⟩ := hB
      rw [ht] at hP1
      replace hP := z0 hP hD hk1 hP1 hI1
      clear hk1 hPc hDc hFc hP1 hD1 ht hI1
      refine lv_if_ne (tgt := 52) hx hb dX10_corner_43 rfl (fun c_2 => ?_) (fun c_2 => ?_)
      · have c_2 : pl px ∧ pl py := zp_1 c_2
        refine lv_aload hx hb dX10_corner_52 (lv_at hl 0 rfl) ?_
        refine va_get (D := (dC, dI)) (ci := 1) (v := .ref lk2) (C := RX2) (T := TX2) (N := 8) hx hb hts inX2 hown hK hP 3 rfl rfl 6 (Nat.le_of_ble_eq_true rfl) (hts _ mw_433) (fun _ h9 => h9) rfl dX10_corner_54 ?_
        refine va_get (D := (dC, dI)) (ci := 4) (v := .null) (C := RX5) (T := TX5) (N := 6) hx hb hts inX5 hown hK hP 4 rfl rfl 2 (Nat.le_of_ble_eq_true rfl) (hts _ mw_391) (fun _ h9 => h9) rfl dX10_corner_57 ?_
        refine lv_astoreN (lv' := [(5, .null), (4, .ref fe2), (0, .ref x), (1, .int (nI f0)), (2, .int px), (3, .int py)]) hx hb dX10_corner_60 hl (Nat.le_of_ble_eq_true rfl) rfl (fun ls hl => ?_)
        refine lv_aloadN hx hb dX10_corner_62 (lv_at hl 0 rfl) ?_
        refine lv_ifnonnullN hx hb dX10_corner_64 ?_
        refine lv_aload_n hx hb dX10_corner_67 rfl (lv_at hl 2 rfl) ?_
        refine lv_iconst (v := 5) hx hb dX10_corner_68 rfl ?_
        obtain ⟨hPc, hDc, hFc⟩ := zo_sub (wc := [_]) hP hD hS hA [0] rfl rfl
        refine zcall (st1 := [.int (-1)]) (va_runV (As := [.int 5]) (rest := []) ⟨hx, hb, hml, hown, hts⟩ (k_refuse_5 l dC dI cI cZ cF H.size x sh lw ro bq bp dq dp lv sl sd ul su ds ) (csV_95 hts rfl rfl ⟨Nat.le_of_ble_eq_true rfl, Nat.le_of_ble_eq_true rfl⟩) (zPV2 (q0 := 0) (ci := 8) hPc hDc hK hXN rfl rfl) rfl rfl hl.1 rfl (lv_room (Nat.le_of_ble_eq_true rfl)) dX10_corner_69 ⟨Nat.le_of_ble_eq_true rfl, Nat.le_of_ble_eq_true rfl⟩) hS hFc hFc rfl (fun t H locs ht hB hk1 hS => ?_)
        obtain ⟨hP1, hD1⟩ := hB
        rw [ht] at hP1
        obtain ⟨hP, hD⟩ := znQ (W2 := [(oc8 x (.ref sh) (.ref lw) (.ref ro) (.ref bq) (.ref bp) (.ref dq) (.ref dp) (.ref lv) (.ref sl) ds sd ul 5), _, _, _, _]) hP hD hk1 hFc hP1 hD1 [0] [false, true, true, true, true] [false, true, true, true, true] [0] (by decide +kernel) rfl rfl rfl rfl rfl
        clear hk1 hPc hDc hFc hP1 hD1 ht
        obtain ⟨hP, hD⟩ := pl_bk (X := [_, _, _]) hT_1 hP rfl hc9_1 hD0_1 rfl
        obtain ⟨hP9, hD9⟩ := zu_part (cx := [_, _, _]) hP hD [true, true, true] rfl rfl
        rw [hQ9]
        exact W.iret (v := (-1)) hx hb hr (fun t ht hW => ⟨⟨rfl, ul, 5, by rw [ht]; exact hP9, hD9⟩, hS.F ht⟩) hS.2.2 dX10_corner_72
      · have c_2 : ¬ (pl px ∧ pl py) := zp_0 c_2
        refine lv_aload_n hx hb dX10_corner_46 rfl (lv_at hl 1 rfl) ?_
        refine lv_iconst (v := 4) hx hb dX10_corner_47 rfl ?_
        obtain ⟨hPc, hDc, hFc⟩ := zo_sub (wc := [_]) hP hD hS hA [0] rfl rfl
        refine zcall (st1 := [.int (-1)]) (va_runV (As := [.int 4]) (rest := []) ⟨hx, hb, hml, hown, hts⟩ (k_refuse_4 l dC dI cI cZ cF H.size x sh lw ro bq bp dq dp lv sl sd ul su ds ) (csV_95 hts rfl rfl ⟨Nat.le_of_ble_eq_true rfl, Nat.le_of_ble_eq_true rfl⟩) (zPV2 (q0 := 0) (ci := 8) hPc hDc hK hXN rfl rfl) rfl rfl hl.1 rfl (lv_room (Nat.le_of_ble_eq_true rfl)) dX10_corner_48 ⟨Nat.le_of_ble_eq_true rfl, Nat.le_of_ble_eq_true rfl⟩) hS hFc hFc rfl (fun t H locs ht hB hk1 hS => ?_)
        obtain ⟨hP1, hD1⟩ := hB
        rw [ht] at hP1
        obtain ⟨hP, hD⟩ := znQ (W2 := [(oc8 x (.ref sh) (.ref lw) (.ref ro) (.ref bq) (.ref bp) (.ref dq) (.ref dp) (.ref lv) (.ref sl) ds sd ul 4), _, _, _, _]) hP hD hk1 hFc hP1 hD1 [0] [false, true, true, true, true] [false, true, true, true, true] [0] (by decide +kernel) rfl rfl rfl rfl rfl
        clear hk1 hPc hDc hFc hP1 hD1 ht
        obtain ⟨hP, hD⟩ := pl_bk (X := [_, _, _]) hT_1 hP rfl hc9_1 hD0_1 rfl
        obtain ⟨hP9, hD9⟩ := zu_part (cx := [_, _, _]) hP hD [true, true, true] rfl rfl
        rw [hQ9]
        exact W.iret (v := (-1)) hx hb hr (fun t ht hW => ⟨⟨rfl, ul, 4, by rw [ht]; exact hP9, hD9⟩, hS.F ht⟩) hS.2.2 dX10_corner_51
    · have c_1 : ¬ (st f0).toInt = 0 := zc_ne rfl rfl c_1
      refine lv_aload_n hx hb dX10_corner_32 rfl (lv_at hl 1 rfl) ?_
      refine lv_iconst (v := 2) hx hb dX10_corner_33 rfl ?_
      obtain ⟨hPc, hDc, hFc⟩ := zo_sub (wc := [_]) hP hD hS hA [0] rfl rfl
      refine zcall (st1 := [.int (-1)]) (va_runV (As := [.int 2]) (rest := []) ⟨hx, hb, hml, hown, hts⟩ (k_refuse_2 l dC dI cI cZ cF H.size x sh lw ro bq bp dq dp lv sl sd ul su ds ) (csV_95 hts rfl rfl ⟨Nat.le_of_ble_eq_true rfl, Nat.le_of_ble_eq_true rfl⟩) (zPV2 (q0 := 0) (ci := 8) hPc hDc hK hXN rfl rfl) rfl rfl hl.1 rfl (lv_room (Nat.le_of_ble_eq_true rfl)) dX10_corner_34 ⟨Nat.le_of_ble_eq_true rfl, Nat.le_of_ble_eq_true rfl⟩) hS hFc hFc rfl (fun t H locs ht hB hk1 hS => ?_)
      obtain ⟨hP1, hD1⟩ := hB
      rw [ht] at hP1
      obtain ⟨hP, hD⟩ := znQ (W2 := [(oc8 x (.ref sh) (.ref lw) (.ref ro) (.ref bq) (.ref bp) (.ref dq) (.ref dp) (.ref lv) (.ref sl) ds sd ul 2), _, _, _, _]) hP hD hk1 hFc hP1 hD1 [0] [false, true, true, true, true] [false, true, true, true, true] [0] (by decide +kernel) rfl rfl rfl rfl rfl
      clear hk1 hPc hDc hFc hP1 hD1 ht
      obtain ⟨hP, hD⟩ := pl_bk (X := [_, _, _]) hT_1 hP rfl hc9_1 hD0_1 rfl
      obtain ⟨hP9, hD9⟩ := zu_part (cx := [_, _, _]) hP hD [true, true, true] rfl rfl
      rw [hQ9]
      exact W.iret (v := (-1)) hx hb hr (fun t ht hW => ⟨⟨rfl, ul, 2, by rw [ht]; exact hP9, hD9⟩, hS.F ht⟩) hS.2.2 dX10_corner_37
  · skip
    have hcap2 := hrr2.1
    have hcap3 := hrr2.2.1
    have hc9_1 : inPl L f [(oc1 fe2 rk2 wd2 tw2 pa2 pb2 (.ref lo2) (.ref lk2) fm2), (oc4 lk2 (kd f0) (st f0) (.ref r2) gb2 jt2 we2), (oc6 r2 (.ref rx2) (.ref ry2) (nI (nN (mn f0))) rg2), (oa rx2 cI cap2 U2), (oa ry2 cI cap2 V2)] := ⟨hfe2, hlk2, hr2, hrx2, hry2, trivial⟩
    have hD0_1 := hD
    obtain ⟨T_1, hT_1, hP, hD⟩ := pl_oT hP hD hc9_1 (pwR hfe2.2 hlk2.2 hr2.2 hrx2.2 hry2.2 hne2)
    obtain ⟨hP, hD⟩ := zre (W2 := ([_, _, _, _, _, _, _, _] ++ va_pl T_1 f)) hP hD rfl
    refine lv_aload_n hx hb dX10_corner_0 rfl (lv_at hl 0 rfl) ?_
    refine va_get (D := (dC, dI)) (ci := 8) (v := .ref sh) (C := RX10) (T := TX10) (N := 13) hx hb hts inX10 hown hK hP 0 rfl rfl 0 (Nat.le_of_ble_eq_true rfl) (hts _ mw_309) (fun _ h9 => h9) rfl dX10_corner_1 ?_
    refine lv_iload_n hx hb dX10_corner_4 rfl (lv_at hl 1 rfl) ?_
    obtain ⟨hPc, hDc, hFc, hI1⟩ := zi_sub (wc := [_, _]) hP hD hS hA [1, 2] rfl rfl
    refine zcall (st1 := [.ref fe2]) (va_runV (As := [.int (nI f0)]) (rest := []) ⟨hx, hb, hml, hown, hts⟩ (k_Sheet_find l dC dI cI cZ cF s.heap.size sh fa ft FA f0 fe2 (by first | with_reducible assumption | omega) (by first | with_reducible assumption | omega) (hFA2)) (csV_94 hts rfl rfl ⟨Nat.le_of_ble_eq_true rfl, Nat.le_of_ble_eq_true rfl⟩) (zPV2 (q0 := 0) (ci := 7) hPc hDc hK hXN rfl rfl) rfl rfl hl.1 rfl (lv_room (Nat.le_of_ble_eq_true rfl)) dX10_corner_5 ⟨Nat.le_of_ble_eq_true rfl, Nat.le_of_ble_eq_true rfl⟩) hS hFc hFc rfl (fun t H locs ht hB hk1 hS => ?_)
    obtain ⟨hP1, hD1⟩ := hB
    rw [ht] at hP1
    replace hP := z0 hP hD hk1 hP1 hI1
    clear hk1 hPc hDc hFc hP1 hD1 ht hI1
    refine lv_astore (lv' := [(4, .ref fe2), (0, .ref x), (1, .int (nI f0)), (2, .int px), (3, .int py)]) hx hb dX10_corner_8 hl (Nat.le_of_ble_eq_true rfl) rfl (fun ls hl => ?_)
    refine lv_aload hx hb dX10_corner_10 (lv_at hl 0 rfl) ?_
    refine lv_ifnonnull (tgt := 21) hx hb dX10_corner_12 rfl ?_
    refine lv_aload hx hb dX10_corner_21 (lv_at hl 0 rfl) ?_
    refine va_get (D := (dC, dI)) (ci := 1) (v := .ref lk2) (C := RX2) (T := TX2) (N := 8) hx hb hts inX2 hown hK hP 3 rfl rfl 6 (Nat.le_of_ble_eq_true rfl) (hts _ mw_433) (fun _ h9 => h9) rfl dX10_corner_23 ?_
    refine va_get (D := (dC, dI)) (ci := 4) (v := .int (st f0)) (C := RX5) (T := TX5) (N := 6) hx hb hts inX5 hown hK hP 4 rfl rfl 1 (Nat.le_of_ble_eq_true rfl) (hts _ mw_385) (fun _ h9 => h9) rfl dX10_corner_26 ?_
    refine lv_if_eq (tgt := 38) hx hb dX10_corner_29 rfl (fun c_3 => ?_) (fun c_3 => ?_)
    · have c_3 : (st f0).toInt = 0 := zc_eq rfl rfl c_3
      refine lv_iload_n hx hb dX10_corner_38 rfl (lv_at hl 3 rfl) ?_
      refine lv_iload_n hx hb dX10_corner_39 rfl (lv_at hl 4 rfl) ?_
      obtain ⟨hPc, hDc, hFc, hI1⟩ := zi_sub (wc := []) hP hD hS hA [] rfl rfl
      refine zcall (st1 := [.int (pI (pl px ∧ pl py))]) (va_runS (As := [.int px, .int py]) (rest := []) ⟨hx, hb, hml, hown, hts⟩ (k_isPlace l dC dI cI cZ cF H.size px py ) (csS_98 hts rfl rfl ⟨Nat.le_of_ble_eq_true rfl, Nat.le_of_ble_eq_true rfl⟩) (zPS2 hPc hDc hK hXN) rfl rfl hl.1 rfl (lv_room (Nat.le_of_ble_eq_true rfl)) dX10_corner_40 ⟨Nat.le_of_ble_eq_true rfl, Nat.le_of_ble_eq_true rfl⟩) hS hFc hFc rfl (fun t H locs ht hB hk1 hS => ?_)
      obtain ⟨hP1, hD1⟩ := hB
      rw [ht] at hP1
      replace hP := z0 hP hD hk1 hP1 hI1
      clear hk1 hPc hDc hFc hP1 hD1 ht hI1
      refine lv_if_ne (tgt := 52) hx hb dX10_corner_43 rfl (fun c_4 => ?_) (fun c_4 => ?_)
      · have c_4 : pl px ∧ pl py := zp_1 c_4
        refine lv_aload hx hb dX10_corner_52 (lv_at hl 0 rfl) ?_
        refine va_get (D := (dC, dI)) (ci := 1) (v := .ref lk2) (C := RX2) (T := TX2) (N := 8) hx hb hts inX2 hown hK hP 3 rfl rfl 6 (Nat.le_of_ble_eq_true rfl) (hts _ mw_433) (fun _ h9 => h9) rfl dX10_corner_54 ?_
        refine va_get (D := (dC, dI)) (ci := 4) (v := .ref r2) (C := RX5) (T := TX5) (N := 6) hx hb hts inX5 hown hK hP 4 rfl rfl 2 (Nat.le_of_ble_eq_true rfl) (hts _ mw_391) (fun _ h9 => h9) rfl dX10_corner_57 ?_
        refine lv_astore (lv' := [(5, .ref r2), (4, .ref fe2), (0, .ref x), (1, .int (nI f0)), (2, .int px), (3, .int py)]) hx hb dX10_corner_60 hl (Nat.le_of_ble_eq_true rfl) rfl (fun ls hl => ?_)
        refine lv_aload hx hb dX10_corner_62 (lv_at hl 0 rfl) ?_
        refine lv_ifnonnull (tgt := 73) hx hb dX10_corner_64 rfl ?_
        refine lv_aload hx hb dX10_corner_73 (lv_at hl 0 rfl) ?_
        refine va_get (D := (dC, dI)) (ci := 6) (v := .int (nI (nN (mn f0)))) (C := RX7) (T := TX7) (N := 4) hx hb hts inX7 hown hK hP 5 rfl rfl 2 (Nat.le_of_ble_eq_true rfl) (hts _ mw_179) (fun _ h9 => h9) rfl dX10_corner_75 ?_
        refine lv_aload hx hb dX10_corner_78 (lv_at hl 1 rfl) ?_
        refine va_get (D := (dC, dI)) (ci := 1) (v := .ref lk2) (C := RX2) (T := TX2) (N := 8) hx hb hts inX2 hown hK hP 3 rfl rfl 6 (Nat.le_of_ble_eq_true rfl) (hts _ mw_433) (fun _ h9 => h9) rfl dX10_corner_80 ?_
        refine va_get (D := (dC, dI)) (ci := 4) (v := .int (kd f0)) (C := RX5) (T := TX5) (N := 6) hx hb hts inX5 hown hK hP 4 rfl rfl 0 (Nat.le_of_ble_eq_true rfl) (hts _ mw_381) (fun _ h9 => h9) rfl dX10_corner_83 ?_
        obtain ⟨hPc, hDc, hFc, hI1⟩ := zi_sub (wc := []) hP hD hS hA [] rfl rfl
        refine zcall (st1 := [.int (nI (if (kd f0).toInt = 0 then 1 else 40)), .int (nI (nN (mn f0)))]) (va_runS (As := [.int (kd f0)]) (rest := [.int (nI (nN (mn f0)))]) ⟨hx, hb, hml, hown, hts⟩ (k_mostCorners l dC dI cI cZ cF H.size (kd f0) ) (csS_99 hts rfl rfl ⟨Nat.le_of_ble_eq_true rfl, Nat.le_of_ble_eq_true rfl⟩) (zPS2 hPc hDc hK hXN) rfl rfl hl.1 rfl (lv_room (Nat.le_of_ble_eq_true rfl)) dX10_corner_86 ⟨Nat.le_of_ble_eq_true rfl, Nat.le_of_ble_eq_true rfl⟩) hS hFc hFc rfl (fun t H locs ht hB hk1 hS => ?_)
        obtain ⟨hP1, hD1⟩ := hB
        rw [ht] at hP1
        replace hP := z0 hP hD hk1 hP1 hI1
        clear hk1 hPc hDc hFc hP1 hD1 ht hI1
        have b9_6 : zlt ((nN (mn f0))) := show (nN (mn f0)) < 2147483648 by omega
        have b9_7 : zlt ((if (kd f0).toInt = 0 then 1 else 40)) := show (if (kd f0).toInt = 0 then 1 else 40) < 2147483648 by omega
        refine lv_icmp_lt (tgt := 99) hx hb dX10_corner_89 rfl (fun c_5 => ?_) (fun c_5 => ?_)
        · have c_5 : ((nN (mn f0) : Nat) : Int) < ((if (kd f0).toInt = 0 then 1 else 40 : Nat) : Int) := zc_lt (nI_toInt b9_6) (nI_toInt b9_7) c_5
          exact absurd ⟨by omega, by assumption, by omega, by omega⟩ hbad
        · have c_5 : ((if (kd f0).toInt = 0 then 1 else 40 : Nat) : Int) ≤ ((nN (mn f0) : Nat) : Int) := zc_nlt (nI_toInt b9_6) (nI_toInt b9_7) c_5
          refine lv_aload_n hx hb dX10_corner_92 rfl (lv_at hl 2 rfl) ?_
          refine lv_bipush (v := 6) hx hb dX10_corner_93 rfl ?_
          obtain ⟨hPc, hDc, hFc⟩ := zo_sub (wc := [_]) hP hD hS hA [0] rfl rfl
          refine zcall (st1 := [.int (-1)]) (va_runV (As := [.int 6]) (rest := []) ⟨hx, hb, hml, hown, hts⟩ (k_refuse_6 l dC dI cI cZ cF H.size x sh lw ro bq bp dq dp lv sl sd ul su ds ) (csV_95 hts rfl rfl ⟨Nat.le_of_ble_eq_true rfl, Nat.le_of_ble_eq_true rfl⟩) (zPV2 (q0 := 0) (ci := 8) hPc hDc hK hXN rfl rfl) rfl rfl hl.1 rfl (lv_room (Nat.le_of_ble_eq_true rfl)) dX10_corner_95 ⟨Nat.le_of_ble_eq_true rfl, Nat.le_of_ble_eq_true rfl⟩) hS hFc hFc rfl (fun t H locs ht hB hk1 hS => ?_)
          obtain ⟨hP1, hD1⟩ := hB
          rw [ht] at hP1
          obtain ⟨hP, hD⟩ := znQ (W2 := [(oc8 x (.ref sh) (.ref lw) (.ref ro) (.ref bq) (.ref bp) (.ref dq) (.ref dp) (.ref lv) (.ref sl) ds sd ul 6), _, _, _, _, _, _, _]) hP hD hk1 hFc hP1 hD1 [0] zl_54 zl_54 [0] (by decide +kernel) rfl rfl rfl rfl rfl
          clear hk1 hPc hDc hFc hP1 hD1 ht
          obtain ⟨hP, hD⟩ := pl_bk (X := [_, _, _]) hT_1 hP rfl hc9_1 hD0_1 rfl
          obtain ⟨hP9, hD9⟩ := zu_part (cx := [_, _, _]) hP hD [true, true, true] rfl rfl
          rw [hQ9]
          exact W.iret (v := (-1)) hx hb hr (fun t ht hW => ⟨⟨rfl, ul, 6, by rw [ht]; exact hP9, hD9⟩, hS.F ht⟩) hS.2.2 dX10_corner_98
      · have c_4 : ¬ (pl px ∧ pl py) := zp_0 c_4
        refine lv_aload_n hx hb dX10_corner_46 rfl (lv_at hl 1 rfl) ?_
        refine lv_iconst (v := 4) hx hb dX10_corner_47 rfl ?_
        obtain ⟨hPc, hDc, hFc⟩ := zo_sub (wc := [_]) hP hD hS hA [0] rfl rfl
        refine zcall (st1 := [.int (-1)]) (va_runV (As := [.int 4]) (rest := []) ⟨hx, hb, hml, hown, hts⟩ (k_refuse_4 l dC dI cI cZ cF H.size x sh lw ro bq bp dq dp lv sl sd ul su ds ) (csV_95 hts rfl rfl ⟨Nat.le_of_ble_eq_true rfl, Nat.le_of_ble_eq_true rfl⟩) (zPV2 (q0 := 0) (ci := 8) hPc hDc hK hXN rfl rfl) rfl rfl hl.1 rfl (lv_room (Nat.le_of_ble_eq_true rfl)) dX10_corner_48 ⟨Nat.le_of_ble_eq_true rfl, Nat.le_of_ble_eq_true rfl⟩) hS hFc hFc rfl (fun t H locs ht hB hk1 hS => ?_)
        obtain ⟨hP1, hD1⟩ := hB
        rw [ht] at hP1
        obtain ⟨hP, hD⟩ := znQ (W2 := [(oc8 x (.ref sh) (.ref lw) (.ref ro) (.ref bq) (.ref bp) (.ref dq) (.ref dp) (.ref lv) (.ref sl) ds sd ul 4), _, _, _, _, _, _, _]) hP hD hk1 hFc hP1 hD1 [0] zl_54 zl_54 [0] (by decide +kernel) rfl rfl rfl rfl rfl
        clear hk1 hPc hDc hFc hP1 hD1 ht
        obtain ⟨hP, hD⟩ := pl_bk (X := [_, _, _]) hT_1 hP rfl hc9_1 hD0_1 rfl
        obtain ⟨hP9, hD9⟩ := zu_part (cx := [_, _, _]) hP hD [true, true, true] rfl rfl
        rw [hQ9]
        exact W.iret (v := (-1)) hx hb hr (fun t ht hW => ⟨⟨rfl, ul, 4, by rw [ht]; exact hP9, hD9⟩, hS.F ht⟩) hS.2.2 dX10_corner_51
    · have c_3 : ¬ (st f0).toInt = 0 := zc_ne rfl rfl c_3
      refine lv_aload_n hx hb dX10_corner_32 rfl (lv_at hl 1 rfl) ?_
      refine lv_iconst (v := 2) hx hb dX10_corner_33 rfl ?_
      obtain ⟨hPc, hDc, hFc⟩ := zo_sub (wc := [_]) hP hD hS hA [0] rfl rfl
      refine zcall (st1 := [.int (-1)]) (va_runV (As := [.int 2]) (rest := []) ⟨hx, hb, hml, hown, hts⟩ (k_refuse_2 l dC dI cI cZ cF H.size x sh lw ro bq bp dq dp lv sl sd ul su ds ) (csV_95 hts rfl rfl ⟨Nat.le_of_ble_eq_true rfl, Nat.le_of_ble_eq_true rfl⟩) (zPV2 (q0 := 0) (ci := 8) hPc hDc hK hXN rfl rfl) rfl rfl hl.1 rfl (lv_room (Nat.le_of_ble_eq_true rfl)) dX10_corner_34 ⟨Nat.le_of_ble_eq_true rfl, Nat.le_of_ble_eq_true rfl⟩) hS hFc hFc rfl (fun t H locs ht hB hk1 hS => ?_)
      obtain ⟨hP1, hD1⟩ := hB
      rw [ht] at hP1
      obtain ⟨hP, hD⟩ := znQ (W2 := [(oc8 x (.ref sh) (.ref lw) (.ref ro) (.ref bq) (.ref bp) (.ref dq) (.ref dp) (.ref lv) (.ref sl) ds sd ul 2), _, _, _, _, _, _, _]) hP hD hk1 hFc hP1 hD1 [0] zl_54 zl_54 [0] (by decide +kernel) rfl rfl rfl rfl rfl
      clear hk1 hPc hDc hFc hP1 hD1 ht
      obtain ⟨hP, hD⟩ := pl_bk (X := [_, _, _]) hT_1 hP rfl hc9_1 hD0_1 rfl
      obtain ⟨hP9, hD9⟩ := zu_part (cx := [_, _, _]) hP hD [true, true, true] rfl rfl
      rw [hQ9]
      exact W.iret (v := (-1)) hx hb hr (fun t ht hW => ⟨⟨rfl, ul, 2, by rw [ht]; exact hP9, hD9⟩, hS.F ht⟩) hS.2.2 dX10_corner_37
end
section
set_option maxHeartbeats 4000000 in
set_option maxRecDepth 100000 in
theorem k_drop_y (l : Launch) (dC : Nat → ClassId) (dI : Nat → Nat → Nat) (cI cZ cF : ClassId) (sz : Nat) (cO : ClassId) (e0 : Nat) (mi : Nat) (x : Nat) (sh : Nat) (lw : Nat) (ro : Nat) (bq : Nat) (bp : Nat) (dq : Nat) (dp : Nat) (lv : Nat) (sl : Nat) (sd : Int32) (ul : Int32) (su : Int32) (ea : Nat) (mc9 : Int32) (fa : Nat) (FA : Nat → Option Nat) (bs : Nat) (dn : Nat) (T : Nat) (ft : Nat) (FT : Nat → Nat) (V : Nat → Nat → Nat → Int32) (VX : Nat → Nat → Int32) (VY : Nat → Nat → Int32) (tn : Nat → Int32) (rk : Nat → Int32) (wd : Nat → Int32) (tw : Nat → Int32) (pa : Nat → Int32) (pb : Nat → Int32) (wh : Nat → Int32) (of9 : Nat → Int32) (we : Nat → Int32) (kd : Nat → Int32) (st : Nat → Int32) (gb : Nat → Int32) (it : Nat → Int32) (mn : Nat → Int32) (cx : Nat → Int32) (cy : Nat → Int32) (L : List Nat) (f : Nat → va_E) (f0 : Nat) (hB : shB cI cO L f e0 FA ea bs dn T ft FT V VX VY tn rk wd tw pa pb wh of9 we kd st gb it mn cx cy) (hd5 : dn + 1 ≤ 512) (hf0 : f0 < ft) (htn : (tn f0).toInt = 0) (hst : (st f0).toInt = 1) (hit : it f0 = -1) : zML l yX10_drop cX10_drop 3 (some .boolean) ({ frames := 8, cells := ft + 3, slots := 4 * ft + 811, locals := 182 } : Room) [.ref x, .int (nI f0)] (dC, dI) (zTyO cI cZ cF cO) e0 mi ([(oc8 x (.ref sh) (.ref lw) (.ref ro) (.ref bq) (.ref bp) (.ref dq) (.ref dp) (.ref lv) (.ref sl) (nI dn) sd ul su), (oc10 sl mc9 (.ref ea) (nI T)), (oc7 sh (.ref fa) (nI ft)), (oq fa cF 200 FA)] ++ va_pl L f) sz (some (.int 1)) (fun A t => ∃ (mc1 : Int32), ∃ (L1 : List Nat), ∃ (f1 : Nat → va_E), ∃ (ea1 : Nat), (shB cI cO L1 f1 e0 FA ea1 bs (dn + 1) (dn + 1) ft (upN FT (dn + 1) ft) (upN V (dn + 1) (vC (V dn) kd (upd st f0 2) (upd gb f0 (nI (dn + 1))) (upd it f0 (-1 : Int32)) mn)) (upN VX (dn + 1) cx) (upN VY (dn + 1) cy) tn rk wd tw pa pb (upd wh (dn + 1) (7 : Int32)) (upd of9 (dn + 1) (nI f0)) (upd we (dn + 1) (1 : Int32)) kd (upd st f0 2) (upd gb f0 (nI (dn + 1))) (upd it f0 (-1 : Int32)) mn cx cy) ∧ zPD (dC, dI) classes A ([(oc8 x (.ref sh) (.ref lw) (.ref ro) (.ref bq) (.ref bp) (.ref dq) (.ref dp) (.ref lv) (.ref sl) (nI (dn + 1)) sd ul 0), (oc10 sl mc1 (.ref ea1) (nI (dn + 1))), (oc7 sh (.ref fa) (nI ft)), (oq fa cF 200 FA)] ++ va_pl L1 f1) t.heap) (ft + 3) (4 * ft + 811) := by
  refine zInL (own := "ScaleShop") (loc := [(0, .ref x), (1, .int (nI f0))]) rfl rfl rfl rfl (fun p e s m below meth c hx hb hr hts hown hlocks hml hnm9 A hA hS hP hD hK hXL hXN hK3 Q9 hQ9 ls hl => ?_)
  obtain ⟨own, fe, cl, la, sp, SA, hG9, hH9, hft9, hO9⟩ := hB
  obtain ⟨hG, hM, hdT, hT5, hO⟩ := M_0 hG9 hH9 hft9 hO9
  have h200 : ft ≤ 200 := hG.2.2.2.2.2.1.2.2.2.2.2
  have hFA9 := hG.2.2.2.2.2.2
  refine ex13 (sh_fc hG.1 hG.2.1 (Nat.le_refl _) hf0 htn) (fun lo5 lx5 ly5 ln5 LX5 LY5 we5 r5 rx5 ry5 cap5 X5 Y5 hc5 => ?_)
  have hc5 := fc_0 hc5
  have hb5 := hc5.2.2.1
  have hb6 := hc5.2.1
  have hat9 := lo_at hO (Nat.le_refl _) hf0 hc5.1.1 hc5.1.2.2.2 (by omega) hc5.1.2.1 hb5.2.2
  have hc9_1 : inPl L f [(oc1 (fe f0) (rk f0) (wd f0) (tw f0) (pa f0) (pb f0) (.ref lo5) (.ref (la dn f0)) .null), (oc4 (la dn f0) (kd f0) (st f0) (.ref r5) (gb f0) (it f0) (nI we5)), (oc6 r5 (.ref rx5) (.ref ry5) (nI (nN (mn f0))) (rgK (kd f0).toInt)), (oa rx5 cI cap5 X5), (oa ry5 cI cap5 Y5), (oc6 lo5 (.ref lx5) (.ref ly5) (nI ln5) 0), (oa lx5 cI (cl f0) LX5), (oa ly5 cI (cl f0) LY5)] := ⟨ce_pl hc5.1.1, ce_pl hc5.1.2.1, ce_pl hc5.1.2.2.1.1, ce_pl hc5.1.2.2.1.2.1, ce_pl hc5.1.2.2.1.2.2.1, ce_pl hc5.1.2.2.2.1, ce_pl hc5.1.2.2.2.2.1, ce_pl hc5.1.2.2.2.2.2.1, trivial⟩
  have hD0_1 := hD
  obtain ⟨T_1, hT_1, hP, hD⟩ := pl_oT hP hD hc9_1 (pw8 hc5 (by omega))
  obtain ⟨hP, hD⟩ := zre (W2 := ([_, _, _, _, _, _, _, _, _, _, _, _] ++ va_pl T_1 f)) hP hD rfl
  refine lv_aload_n hx hb dX10_drop_0 rfl (lv_at hl 0 rfl) ?_
  refine va_get (D := (dC, dI)) (ci := 8) (v := .ref sh) (C := RX10) (T := TX10) (N := 13) hx hb hts inX10 hown hK hP 0 rfl rfl 0 (Nat.le_of_ble_eq_true rfl) (hts _ mw_309) (fun _ h9 => h9) rfl dX10_drop_1 ?_
  refine lv_iload_n hx hb dX10_drop_4 rfl (lv_at hl 1 rfl) ?_
  obtain ⟨hPc, hDc, hFc, hI1⟩ := zi_sub (wc := [_, _]) hP hD hS hA [2, 3] rfl rfl
  refine zcall (st1 := [.ref (fe f0)]) (va_runV (As := [.int (nI f0)]) (rest := []) ⟨hx, hb, hml, hown, hts⟩ (k_Sheet_find l dC dI cI cZ cF s.heap.size sh fa ft FA f0 (fe f0) (by first | with_reducible assumption | omega) (by first | with_reducible assumption | omega) (hFA9 f0 (by first | with_reducible assumption | omega))) (csV_94 hts rfl rfl ⟨Nat.le_of_ble_eq_true rfl, Nat.le_of_ble_eq_true rfl⟩) (zPV2 (q0 := 0) (ci := 7) hPc hDc hK3 hXN rfl rfl) rfl rfl hl.1 rfl (lv_room (Nat.le_of_ble_eq_true rfl)) dX10_drop_5 ⟨Nat.zero_le _, Nat.zero_le _⟩) hS hFc hFc rfl (fun t H locs ht hB hk1 hS => ?_)
  obtain ⟨hP1, hD1⟩ := hB
  rw [ht] at hP1
  replace hP := z0 hP hD hk1 hP1 hI1
  clear hk1 hPc hDc hFc hP1 hD1 ht hI1
  refine lv_astore_n (lv' := [(2, .ref (fe f0)), (0, .ref x), (1, .int (nI f0))]) hx hb dX10_drop_8 rfl hl (Nat.le_of_ble_eq_true rfl) rfl (fun ls hl => ?_)
  refine lv_aload_n hx hb dX10_drop_9 rfl (lv_at hl 0 rfl) ?_
  refine lv_ifnonnull (tgt := 19) hx hb dX10_drop_10 rfl ?_
  refine lv_aload_n hx hb dX10_drop_19 rfl (lv_at hl 0 rfl) ?_
  refine va_get (D := (dC, dI)) (ci := 1) (v := .ref (la dn f0)) (C := RX2) (T := TX2) (N := 8) hx hb hts inX2 hown hK hP 4 rfl rfl 6 (Nat.le_of_ble_eq_true rfl) (hts _ mw_433) (fun _ h9 => h9) rfl dX10_drop_20 ?_
  refine va_get (D := (dC, dI)) (ci := 4) (v := .int (st f0)) (C := RX5) (T := TX5) (N := 6) hx hb hts inX5 hown hK hP 5 rfl rfl 1 (Nat.le_of_ble_eq_true rfl) (hts _ mw_385) (fun _ h9 => h9) rfl dX10_drop_23 ?_
  refine lv_iconst (v := 1) hx hb dX10_drop_26 rfl ?_
  refine lv_icmp_eq (tgt := 36) hx hb dX10_drop_27 rfl (fun c_1 => ?_) (fun c_1 => ?_)
  · have c_1 : (st f0).toInt = 1 := zc_eq rfl rfl c_1
    refine lv_aload_n hx hb dX10_drop_36 rfl (lv_at hl 0 rfl) ?_
    refine va_get (D := (dC, dI)) (ci := 1) (v := .ref (la dn f0)) (C := RX2) (T := TX2) (N := 8) hx hb hts inX2 hown hK hP 4 rfl rfl 6 (Nat.le_of_ble_eq_true rfl) (hts _ mw_433) (fun _ h9 => h9) rfl dX10_drop_37 ?_
    refine va_get (D := (dC, dI)) (ci := 4) (v := .ref r5) (C := RX5) (T := TX5) (N := 6) hx hb hts inX5 hown hK hP 5 rfl rfl 2 (Nat.le_of_ble_eq_true rfl) (hts _ mw_391) (fun _ h9 => h9) rfl dX10_drop_40 ?_
    refine lv_ifnonnull (tgt := 52) hx hb dX10_drop_43 rfl ?_
    refine lv_aload_n hx hb dX10_drop_52 rfl (lv_at hl 0 rfl) ?_
    refine lv_aload_n hx hb dX10_drop_53 rfl (lv_at hl 1 rfl) ?_
    refine va_get (D := (dC, dI)) (ci := 8) (v := .int (nI dn)) (C := RX10) (T := TX10) (N := 13) hx hb hts inX10 hown hK hP 0 rfl rfl 9 (Nat.le_of_ble_eq_true rfl) (hts _ mw_318) (fun _ h9 => h9) rfl dX10_drop_54 ?_
    refine lv_iconst (v := 1) hx hb dX10_drop_57 rfl ?_
    refine lv_iadd hx hb dX10_drop_58 ?_
    refine zz_i (v := nI (dn + 1)) (nI_add dn 1) ?_
    obtain ⟨hPc, hDc, hFc⟩ := zo_sub (wc := [_, _]) hP hD hS hA [4, 5] rfl rfl
    refine zcall (st1 := []) (va_runV (As := [.int (nI (dn + 1))]) (rest := []) ⟨hx, hb, hml, hown, hts⟩ (k_Feature_leave_r l dC dI cI cZ cF H.size (fe f0) lo5 (rk f0) (wd f0) (tw f0) (pa f0) (pb f0) (la dn f0) (kd f0) (st f0) (gb f0) (it f0) (nI we5) r5 (nI (dn + 1)) ) (csV_100 hts rfl rfl ⟨Nat.le_of_ble_eq_true rfl, Nat.le_of_ble_eq_true rfl⟩) (zPV2 (q0 := 0) (ci := 1) hPc hDc hK3 hXN rfl rfl) rfl rfl hl.1 rfl (lv_room (Nat.le_of_ble_eq_true rfl)) dX10_drop_59 ⟨show 1 ≤ ft + 3 by omega, show 6 ≤ 4 * ft + 811 by omega⟩) hS hFc hFc rfl (fun t H locs ht hB hk1 hS => ?_)
    obtain ⟨q7, hP1, hD1⟩ := hB
    rw [ht] at hP1
    obtain ⟨hP, hD⟩ := znQ (W2 := [_, _, _, _, _, _, _, _, _, _, (oc1 (fe f0) (rk f0) (wd f0) (tw f0) (pa f0) (pb f0) (.ref lo5) (.ref q7) (.ref (la dn f0))), (oc4 (la dn f0) (kd f0) (st f0) (.ref r5) (gb f0) (it f0) (nI we5)), (oc4 q7 (kd f0) 2 (.ref r5) (nI (dn + 1)) (it f0) (nI we5))]) hP hD hk1 hFc hP1 hD1 [4, 5] zl_55 zl_56 [10, 11, 12] (by decide +kernel) rfl rfl rfl rfl rfl
    clear hk1 hPc hDc hFc hP1 hD1 ht
    obtain ⟨hP, hD⟩ := zq_part (cx := [_, _, _, _, _, _, _, _, _, _, _, _, _]) hP hD [0, 1, 2, 3, 10, 11, 4, 5, 6, 7, 8, 9, 12] rfl rfl
    obtain ⟨Lp1, fp1, hP, hD, hpin_1⟩ := pl_pn (X := [_, _, _, _]) (old := [_, _, _, _, _, _, _, _]) (new := [_]) (cs1 := [_, _, _, _, _, _, _, _, _]) (L := L) (cs := [(oc1 (fe f0) (rk f0) (wd f0) (tw f0) (pa f0) (pb f0) (.ref lo5) (.ref (la dn f0)) .null), (oc4 (la dn f0) (kd f0) (st f0) (.ref r5) (gb f0) (it f0) (nI we5)), (oc6 r5 (.ref rx5) (.ref ry5) (nI (nN (mn f0))) (rgK (kd f0).toInt)), (oa rx5 cI cap5 X5), (oa ry5 cI cap5 Y5), (oc6 lo5 (.ref lx5) (.ref ly5) (nI ln5) 0), (oa lx5 cI (cl f0) LX5), (oa ly5 cI (cl f0) LY5)]) hT_1 hP hD rfl rfl rfl
    obtain ⟨hfr_1, hkp_1, hce_1, hsx_1, hpw_1⟩ := id hpin_1
    obtain ⟨own1, nw1, md1, fm1, hG1, hM1, hmd1, hO1⟩ := M_leave (m := 0) (kd1 := kd) (st1 := upd st f0 2) (gb1 := upd gb f0 (nI (dn + 1))) (it1 := upd it f0 (-1 : Int32)) hG hM rfl hf0 (by rw [← hft9]; exact hf0) (by omega) (by rw [up_at]; decide) htn hc5 ⟨rfl, rfl, rfl, rfl⟩ hpin_1 (fun p hp => ⟨rfl, if_neg hp, if_neg hp, if_neg hp, rfl, fun k _ => ⟨rfl, rfl⟩⟩) rfl (up_at _ _ _) (up_at _ _ _) ((up_at _ _ _).trans hit.symm) rfl (fun g => g) hO
    refine lv_aload_n hx hb dX10_drop_62 rfl (lv_at hl 1 rfl) ?_
    refine lv_bipush (v := 7) hx hb dX10_drop_63 rfl ?_
    refine lv_iload_n hx hb dX10_drop_65 rfl (lv_at hl 2 rfl) ?_
    refine lv_iconst (v := 1) hx hb dX10_drop_66 rfl ?_
    refine lv_null hx hb dX10_drop_67 ?_
    obtain ⟨hPc, hDc, hFc⟩ := zo_part (cx := [_, _, _, _]) hP hD hS hA [0, 1, 2, 3] (by decide +kernel) rfl
    refine zcall (st1 := [.int 1]) (va_runV (As := [.int 7, .int (nI f0), .int 1, .null]) (rest := []) ⟨hx, hb, hml, hown, hts⟩ (k_book_n l dC dI cI cZ cF H.size cO e0 mi x sh lw ro bq bp dq dp lv sl sd ul su sl ea T mc9 fa FA own1 fe cl la nw1 md1 sp fm1 SA bs dn ft FT V VX VY (V dn) tn rk wd tw pa pb wh of9 we kd (upd st f0 2) (upd gb f0 (nI (dn + 1))) (upd it f0 (-1 : Int32)) mn cx cy 7 (nI f0) 1 Lp1 fp1 (hG1) (hM1) (hO1) (hdT) (hT5) (by first | with_reducible assumption | omega) (fun q h1 h2 => by omega) (hft9)) (csV_101 hts rfl rfl ⟨Nat.le_of_ble_eq_true rfl, Nat.le_of_ble_eq_true rfl⟩) (zPVL (q0 := 0) (ci := 8) hPc hDc hK hXL hS hFc rfl rfl) rfl rfl hl.1 rfl (lv_room (Nat.le_of_ble_eq_true rfl)) dX10_drop_68 ⟨show (1 + (ft + 2)) ≤ ft + 3 by omega, show (6 + (4 * ft + 805)) ≤ 4 * ft + 811 by omega⟩) hS hFc hFc rfl (fun t H locs ht hB hk1 hS => ?_)
    obtain ⟨mc6, L6, f6, ea6, hB6, hP1, hD1⟩ := hB
    rw [ht] at hP1
    obtain ⟨hP, hD⟩ := znP (W2 := [(oc8 x (.ref sh) (.ref lw) (.ref ro) (.ref bq) (.ref bp) (.ref dq) (.ref dp) (.ref lv) (.ref sl) (nI (dn + 1)) sd ul 0), (oc10 sl mc6 (.ref ea6) (nI (dn + 1))), _, _]) hP hD hk1 hFc hP1 hD1 [0, 1, 2, 3] [] [false, false, false, false] [0, 1, 2, 3] (by decide +kernel) rfl rfl rfl rfl rfl
    clear hk1 hPc hDc hFc hP1 hD1 ht
    obtain ⟨hP9, hD9⟩ := zu_part (cx := [_, _, _, _]) hP hD [true, true, true, true] rfl rfl
    refine W.widen (k := ft + 3) (n := 4 * ft + 811) (by omega) (by omega) ?_
    rw [hQ9]
    exact W.zret (ty := .boolean) (v := 1) hx hb hr (rfl) (fun t ht hW => ⟨⟨rfl, mc6, L6, f6, ea6, (hB6), by rw [ht]; exact hP9, hD9⟩, hS.F ht⟩) hS.2.2 dX10_drop_71
  · have c_1 : ¬ (st f0).toInt = 1 := zc_ne rfl rfl c_1
    exfalso; omega
end
section
/-! changes that are no steps -/
section
variable {cI cO : ClassId} {L L1 L2 : List Nat} {f f1 f2 : Nat → va_E} {own own1 own2 : Nat → Nat} {e0 ea n9 : Nat} {FA : Nat → Option Nat} {fe cl nw md sp : Nat → Nat} {la : Nat → Nat → Nat} {fm : Nat → Value} {SA SA1 : Nat → Option Nat} {bs dn T ft fN : Nat} {FT : Nat → Nat} {V : Nat → Nat → Nat → Int32} {VX VY : Nat → Nat → Int32} {tn rk wd tw pa pb wh of9 we kd st gb it mn cx cy kd1 st1 gb1 it1 mn1 cx1 cy1 tn1 rk1 wd1 tw1 pa1 pb1 : Nat → Int32}
variable {gh gh1 : Nat → Nat → Int32}
/-- one feature's look has changed, and the past is forgotten -/
theorem S_seal {q : Nat} (hG : shG cI cO L f e0 FA ea n9 own fe cl la (la dn) (fun _ => 0) sp (fun _ => .null) SA bs dn dn ft ft FT V VX VY tn rk wd tw pa pb wh of9 we kd st gb it mn cx cy) (hk : kpT (fun g => g ≠ 8 * q + 2 ∧ g ≠ 8 * q + 3 ∧ g ≠ 8002) L f own L1 f1 own1) (hq : q < ft)
    (hlk : lkG cI L1 f1 own1 (8 * q + 2) (8 * q + 3) (la dn q) (cl q) (kd q) (st1 q) (gb q) (it q) (tn1 q) (nN (mn1 q)) (cF40 cx q) (cF40 cy q)) (ho : ∀ p, p ≠ q → st1 p = st p ∧ tn1 p = tn p ∧ mn1 p = mn p) (hL1 : LsA cO L1 f1 own1 e0 ea dn SA1) (hS : ∀ i, i < dn → SA1 i = SA i) (hW : loW cI L f own fe (la dn) ft gh) (hwq : ∀ w, weQ L f own (8 * q + 2) (la dn q) w → weQ L1 f1 own1 (8 * q + 2) (la dn q) w) :
    shB cI cO L1 f1 e0 FA ea dn dn dn ft (fun _ => ft) (fun _ => vC gh kd st1 gb it mn1) (fun _ => cx) (fun _ => cy) tn1 rk wd tw pa pb wh of9 we kd st1 gb it mn1 cx cy := by
  obtain ⟨h1, h2, h3, h4, h5, ⟨m1, m2, m3, m4, m5, m6⟩, h7⟩ := hG
  refine S_new (nw := la dn) (fe := fe) (cl := cl) (own := own1) (FT := FT) (la := la) (sp := sp) (SA := SA1) (FeA_kp hk (fun p hp => ⟨⟨by omega, by omega, by omega⟩, ⟨by omega, by omega, by omega⟩⟩) h1) (fun p hp => ?_) (fun t t1 t2 => ?_) hL1 h7 m6 m3 (loW_kp (q := q) hk (fun p hp => ⟨⟨by omega, by omega, by omega⟩, ⟨by omega, by omega, by omega⟩, fun _ => ⟨by omega, by omega, by omega⟩⟩) hwq hW)
  · by_cases e : p = q
    · rw [e]; exact hlk
    · rw [(ho p e).1, (ho p e).2.1, (ho p e).2.2]
      exact lkG_kp hk (by show 8 * p + 2 ≠ _ ∧ 8 * p + 2 ≠ _ ∧ 8 * p + 2 ≠ _; omega) (by show 8 * p + 3 ≠ _ ∧ 8 * p + 3 ≠ _ ∧ 8 * p + 3 ≠ _; omega) (h2 p hp)
  · obtain ⟨g1, mv, ch, g2, g3⟩ := h4 t t1 t2
    exact ⟨by rw [hS _ (by omega)]; exact g1, mv, ch, hk _ _ _ ⟨by omega, by omega, by omega⟩ g2, fun hb => by omega⟩
/-- an open feature gets a corner -/
theorem S_corner {q : Nat} (hG : shG cI cO L f e0 FA ea T own fe cl la (la dn) (fun _ => 0) sp (fun _ => .null) SA bs dn T ft (FT T) FT V VX VY tn rk wd tw pa pb wh of9 we kd st gb it mn cx cy) (hD : HiD dn ft V VX VY kd st gb it tn mn cx cy) (hft : ft = FT dn) (hk : kpT (fun g => g ≠ 8 * q + 3) L f own L1 f1 own1) (hq : q < ft) (hs : (st q).toInt = 0)
    (hlk : lkG cI L1 f1 own1 (8 * q + 2) (8 * q + 3) (la dn q) (cl q) (kd q) (st q) (gb q) (it q) (tn q) (nN (mn1 q)) (cF40 cx1 q) (cF40 cy1 q)) (ho : ∀ p, p ≠ q → mn1 p = mn p ∧ ∀ k, k < 40 → cF40 cx1 p k = cF40 cx p k ∧ cF40 cy1 p k = cF40 cy p k) (h40 : ∀ p, p < ft → ¬ (st p).toInt = 0 → (tn p).toInt = 0 → nN (mn p) ≤ 40) (hO : loG cI L f own fe (la dn) (fun _ => 0) la bs dn T ft (FT T) FT V (V dn)) :
    shB cI cO L1 f1 e0 FA ea bs dn T ft FT V VX VY tn rk wd tw pa pb wh of9 we kd st gb it mn1 cx1 cy1 := by
  obtain ⟨h1, h2, h3, h4, h5, ⟨m1, m2, m3, m4, m5, m6⟩, h7⟩ := hG
  refine ⟨own1, fe, cl, la, sp, SA, ⟨FeA_kp hk (fun p hp => ⟨by omega, by omega⟩) h1, fun p hp => ?_, fun t t1 t2 p hp => ⟨fun h0 => ?_, (h3 t t1 t2 p hp).2⟩, StA_kp hk ⟨by omega, by omega⟩ h4, LsA_kp hk ⟨by omega, by omega⟩ h5, ⟨m1, m2, m3, m4, m5, m6⟩, h7⟩, fun p hp => ?_, hft, loG_kp hk (fun p hp => ⟨by omega, by omega, by omega, fun _ => by unfold glM; split <;> omega⟩) hO⟩
  · by_cases e : p = q
    · rw [e]; exact hlk
    · rw [(ho p e).1]
      exact lkG_cg (ho p e).2 (lkG_kp hk (by show 8 * p + 2 ≠ _; omega) (by show 8 * p + 3 ≠ _; omega) (h2 p hp))
  · by_cases e : p = q
    · have h0' := (h3 t t1 t2 p hp).2 (Or.inr ⟨by rw [e, ← hft]; exact hq, by rw [e, (hD q hq).2.1]; exact hs⟩)
      exact absurd (by rw [h0'.2.2.2.1, e, (hD q hq).2.1]; exact hs) h0
    · exact lkG_kp hk (by omega) (by omega) ((h3 t t1 t2 p hp).1 h0)
  · have hd := hD p hp
    refine ⟨hd.1, hd.2.1, hd.2.2.1, hd.2.2.2.1, fun s0 t0 => ?_⟩
    have e : p ≠ q := fun e => s0 (by rw [e]; exact hs)
    have hd2 := hd.2.2.2.2 s0 t0
    have n40 := h40 p hp s0 t0
    rw [(ho p e).1]
    exact ⟨hd2.1, fun k hk2 => by rw [((ho p e).2 k (by omega)).1, ((ho p e).2 k (by omega)).2]; exact hd2.2 k hk2⟩
/-- a new feature -/
theorem S_feature {fq nq c : Nat} (hG : shG cI cO L f e0 FA ea n9 own fe cl la (la dn) (fun _ => 0) sp (fun _ => .null) SA bs dn dn ft ft FT V VX VY tn rk wd tw pa pb wh of9 we kd st gb it mn cx cy) (hk : kpT (fun g => g ≠ 8002) L f own L1 f1 own1) (h200 : ft < 200)
    (hfe : feG cI L1 f1 own1 ft fq nq c .null (rk1 ft) (wd1 ft) (tw1 ft) (pa1 ft) (pb1 ft)) (hlk : lkG cI L1 f1 own1 (8 * ft + 2) (8 * ft + 3) nq c (kd1 ft) (st1 ft) (gb1 ft) (it1 ft) (tn1 ft) (nN (mn1 ft)) (cF40 cx ft) (cF40 cy ft))
    (ho : ∀ p, p ≠ ft → kd1 p = kd p ∧ st1 p = st p ∧ gb1 p = gb p ∧ it1 p = it p ∧ mn1 p = mn p ∧ tn1 p = tn p ∧ rk1 p = rk p ∧ wd1 p = wd p ∧ tw1 p = tw p ∧ pa1 p = pa p ∧ pb1 p = pb p) (hL1 : LsA cO L1 f1 own1 e0 ea dn SA1) (hS : ∀ i, i < dn → SA1 i = SA i) {LX9 LY9 : Nat → Int32} (hW : loW cI L f own fe (la dn) ft gh) (hlq : loQ cI L1 f1 own1 ft fq 0 LX9 LY9) (hwq : weQ L1 f1 own1 (8 * ft + 2) nq 0) (hg5 : gh1 5 ft = 0) (hgo : ∀ p, p ≠ ft → ∀ j, gh1 j p = gh j p) :
    shB cI cO L1 f1 e0 (va_up FA ft (some fq)) ea dn dn dn (ft + 1) (fun _ => ft + 1) (fun _ => vC gh1 kd1 st1 gb1 it1 mn1) (fun _ => cx) (fun _ => cy) tn1 rk1 wd1 tw1 pa1 pb1 wh of9 we kd1 st1 gb1 it1 mn1 cx cy := by
  obtain ⟨h1, h2, h3, h4, h5, ⟨m1, m2, m3, m4, m5, m6⟩, h7⟩ := hG
  refine S_new (nw := upN (la dn) ft nq) (fe := upN fe ft fq) (cl := upN cl ft c) (own := own1) (FT := FT) (la := la) (sp := sp) (SA := SA1) (fun p hp => ?_) (fun p hp => ?_) (fun t t1 t2 => ?_) hL1 (fun p hp => ?_) (by omega) m3 (loW_f hW hk (fun p hp => ⟨by omega, by omega, by omega⟩) hlq hwq hg5 hgo)
  · by_cases e : p = ft
    · rw [e]; simp only [upN_at]; exact hfe
    · obtain ⟨a1, a2, a3, a4, a5, a6, a7, a8, a9, a10, a11⟩ := ho p e
      simp only [upN_o e]; rw [a7, a8, a9, a10, a11]
      exact feG_kp hk (by omega) (by omega) (h1 p (by omega))
  · by_cases e : p = ft
    · rw [e]; simp only [upN_at]; exact hlk
    · obtain ⟨a1, a2, a3, a4, a5, a6, a7, a8, a9, a10, a11⟩ := ho p e
      simp only [upN_o e]; rw [a1, a2, a3, a4, a5, a6]
      exact lkG_kp hk (by show 8 * p + 2 ≠ _; omega) (by show 8 * p + 3 ≠ _; omega) (h2 p (by omega))
  · obtain ⟨g1, mv, ch, g2, g3⟩ := h4 t t1 t2
    exact ⟨by rw [hS _ (by omega)]; exact g1, mv, ch, hk _ _ _ (by omega) g2, fun hb => by omega⟩
  · by_cases e : p = ft
    · rw [e, upN_at]; unfold va_up; rw [if_pos rfl]
    · rw [upN_o e]; unfold va_up; rw [if_neg e]; exact h7 p (by omega)
end
end
section
/-! changes that are no steps, with the cells as they go back -/
section
variable {cI cO : ClassId} {L L1 L2 : List Nat} {f f1 f2 : Nat → va_E} {own own1 own2 : Nat → Nat} {e0 ea n9 : Nat} {FA : Nat → Option Nat} {fe cl nw md sp : Nat → Nat} {la : Nat → Nat → Nat} {fm : Nat → Value} {SA SA1 : Nat → Option Nat} {bs dn T ft fN : Nat} {FT : Nat → Nat} {V : Nat → Nat → Nat → Int32} {VX VY : Nat → Nat → Int32} {tn rk wd tw pa pb wh of9 we kd st gb it mn cx cy : Nat → Int32}
variable {q : Nat} {fv : Value} {lo lx ly ln : Nat} {LX LY : Nat → Int32} {we9 r rx ry cap : Nat} {X Y : Nat → Int32} {Xw : va_W}
variable {gh gh1 : Nat → Nat → Int32}
/-- the look alone was written, the list then cut: the pools between -/
theorem P_look {x2 : va_E} (hc : fcA cI L f own q (8 * q + 2) (8 * q + 3) (fe q) (la dn q) (cl q) fv (rk q) (wd q) (tw q) (pa q) (pb q) (kd q) (st q) (gb q) (it q) (nN (mn q)) (cF40 cx q) (cF40 cy q) lo lx ly ln LX LY we9 r rx ry cap X Y)
    (hp : pinD L f Xw [(fe q, .inr (1, [.int (rk q), .int (wd q), .int (tw q), .int (pa q), .int (pb q), .ref lo, .ref (la dn q), fv])), (la dn q, x2), (r, .inr (6, [.ref rx, .ref ry, .int (nI (nN (mn q))), .int (rgK (kd q).toInt)])), (rx, .inl (cI, cap, .inl X)), (ry, .inl (cI, cap, .inl Y)), (lo, .inr (6, [.ref lx, .ref ly, .int (nI ln), .int 0])), (lx, .inl (cI, cl q, .inl LX)), (ly, .inl (cI, cl q, .inl LY))] []
      [(fe q, .inr (1, [.int (rk q), .int (wd q), .int (tw q), .int (pa q), .int (pb q), .ref lo, .ref (la dn q), fv])), (la dn q, x2), (r, .inr (6, [.ref rx, .ref ry, .int (nI (nN (mn q))), .int (rgK (kd q).toInt)])), (rx, .inl (cI, cap, .inl X)), (ry, .inl (cI, cap, .inl Y)), (lo, .inr (6, [.ref lx, .ref ly, .int (nI ln), .int 0])), (lx, .inl (cI, cl q, .inl LX)), (ly, .inl (cI, cl q, .inl LY))] L1 f1) :
    kpT (fun g => g ≠ 8 * q + 2) L f own L1 f1 own ∧ ce L1 f1 own (8 * q + 2) (la dn q) x2 := by
  obtain ⟨hfr, hkp, hce, hsx, hpw⟩ := hp
  obtain ⟨⟨a1, a2, ⟨a3, a4, a5, a6⟩, ⟨a7, a8, a9, a10⟩⟩, b1, b2, b3, b4, b5⟩ := hc
  exact ⟨hkp own own _ (fun _ _ => rfl) ⟨fun _ _ => a1.2.1, fun _ h => absurd a2.2.2 h, fun _ _ => a3.2.1, fun _ _ => a4.2.1, fun _ _ => a5.2.1, fun _ _ => a7.2.1, fun _ _ => a8.2.1, fun _ _ => a9.2.1, trivial⟩, hce own 1 _ _ _ rfl a2.2.2⟩
theorem S_tear (hG : shG cI cO L f e0 FA ea n9 own fe cl la (la dn) (fun _ => 0) sp (fun _ => .null) SA bs dn dn ft ft FT V VX VY tn rk wd tw pa pb wh of9 we kd st gb it mn cx cy) (hq : q < ft) (h200 : ft ≤ 200)
    (hc : fcA cI L f own q (8 * q + 2) (8 * q + 3) (fe q) (la dn q) (cl q) fv (rk q) (wd q) (tw q) (pa q) (pb q) (kd q) (st q) (gb q) (it q) (nN (mn q)) (cF40 cx q) (cF40 cy q) lo lx ly ln LX LY we9 r rx ry cap X Y)
    (hk1 : kpT (fun g => g ≠ 8 * q + 2) L f own L1 f1 own) (hlk : ce L1 f1 own (8 * q + 2) (la dn q) (.inr (4, [.int (kd q), .int (st q), .null, .int (gb q), .int (it q), .int (nI we9)]))) (hk2 : kpT (fun g => g ≠ 8002) L1 f1 own L2 f2 own) (hL : LsA cO L2 f2 own e0 ea dn SA1) (hS : ∀ i, i < dn → SA1 i = SA i) (hW : loW cI L f own fe (la dn) ft gh) :
    shB cI cO L2 f2 e0 FA ea dn dn dn ft (fun _ => ft) (fun _ => vC gh kd st gb it (upd mn q 0)) (fun _ => cx) (fun _ => cy) (upd tn q 1) rk wd tw pa pb wh of9 we kd st gb it (upd mn q 0) cx cy := by
  refine S_seal hG (fun g a e hp h => hk2 g a e hp.2.2 (hk1 g a e hp.1 h)) hq ?_ (fun p hp => ⟨rfl, if_neg hp, if_neg hp⟩) hL hS hW (fun w hw => weQ_re hw hc.1.2.1 hc.2.2.1.2.2 (hk2 _ _ _ (by omega) hlk))
  have t1 : ¬ (upd tn q 1 q).toInt = 0 := by rw [up_at]; decide
  exact ⟨we9, .null, hk2 _ _ _ (by omega) hlk, hc.2.2.1.2.2, fun g => (hc.2.2.2.2.2 g).1, fun _ => rfl, fun g => absurd g t1⟩
theorem S_done (hG : shG cI cO L f e0 FA ea n9 own fe cl la (la dn) (fun _ => 0) sp (fun _ => .null) SA bs dn dn ft ft FT V VX VY tn rk wd tw pa pb wh of9 we kd st gb it mn cx cy) (hq : q < ft) (h200 : ft ≤ 200) (ht : (tn q).toInt = 0)
    (hc : fcA cI L f own q (8 * q + 2) (8 * q + 3) (fe q) (la dn q) (cl q) fv (rk q) (wd q) (tw q) (pa q) (pb q) (kd q) (st q) (gb q) (it q) (nN (mn q)) (cF40 cx q) (cF40 cy q) lo lx ly ln LX LY we9 r rx ry cap X Y)
    (hk1 : kpT (fun g => g ≠ 8 * q + 2) L f own L1 f1 own) (hlk : ce L1 f1 own (8 * q + 2) (la dn q) (.inr (4, [.int (kd q), .int 1, .ref r, .int (gb q), .int (it q), .int (nI we9)]))) (hk2 : kpT (fun g => g ≠ 8002) L1 f1 own L2 f2 own) (hL : LsA cO L2 f2 own e0 ea dn SA1) (hS : ∀ i, i < dn → SA1 i = SA i) (hW : loW cI L f own fe (la dn) ft gh) :
    shB cI cO L2 f2 e0 FA ea dn dn dn ft (fun _ => ft) (fun _ => vC gh kd (upd st q 1) gb it mn) (fun _ => cx) (fun _ => cy) tn rk wd tw pa pb wh of9 we kd (upd st q 1) gb it mn cx cy := by
  refine S_seal hG (fun g a e hp h => hk2 g a e hp.2.2 (hk1 g a e hp.1 h)) hq ?_ (fun p hp => ⟨if_neg hp, rfl, rfl⟩) hL hS hW (fun w hw => weQ_re hw hc.1.2.1 hc.2.2.1.2.2 (hk2 _ _ _ (by omega) hlk))
  have t1 : ¬ (upd st q 1 q).toInt = 0 := by rw [up_at]; decide
  obtain ⟨⟨a1, a2, a3, a4⟩, b1, b2, b3, b4, b5⟩ := hc
  refine ⟨we9, .ref r, by rw [up_at]; exact hk2 _ _ _ (by omega) hlk, b2.2.2, fun g => (b5 g).1, fun g => absurd ht g, fun _ => ⟨r, rx, ry, cap, X, Y, rfl, rwG_kp hk2 (by omega) (rwG_kp hk1 (by omega) a3), b2.1, b2.2.1, fun g => absurd g t1, b4, fun g => (b5 g).2⟩⟩
theorem cF_up {C : Nat → Int32} {p q n k : Nat} {v : Int32} (hp : p ≠ q) (hk : k < 40) (hn : n < 40) : cF40 (upd C (40 * q + n) v) p k = cF40 C p k := by
  unfold cF40 upd; rw [if_neg (by omega)]
theorem cF_at {C : Nat → Int32} {q n k : Nat} {v : Int32} : cF40 (upd C (40 * q + n) v) q k = upd (cF40 C q) n v k := by
  unfold cF40 upd
  by_cases e : k = n
  · rw [if_pos e, if_pos (by omega)]
  · rw [if_neg e, if_neg (by omega)]
theorem S_cor {px py : Int32} (hG : shG cI cO L f e0 FA ea T own fe cl la (la dn) (fun _ => 0) sp (fun _ => .null) SA bs dn T ft (FT T) FT V VX VY tn rk wd tw pa pb wh of9 we kd st gb it mn cx cy) (hD : HiD dn ft V VX VY kd st gb it tn mn cx cy) (hft : ft = FT dn) (hq : q < ft) (hs : (st q).toInt = 0) (ht : (tn q).toInt = 0) (hn : nN (mn q) < cap)
    (hc : fcA cI L f own q (8 * q + 2) (8 * q + 3) (fe q) (la dn q) (cl q) fv (rk q) (wd q) (tw q) (pa q) (pb q) (kd q) (st q) (gb q) (it q) (nN (mn q)) (cF40 cx q) (cF40 cy q) lo lx ly ln LX LY we9 r rx ry cap X Y)
    (hp : pinD L f Xw [(fe q, .inr (1, [.int (rk q), .int (wd q), .int (tw q), .int (pa q), .int (pb q), .ref lo, .ref (la dn q), fv])), (la dn q, .inr (4, [.int (kd q), .int (st q), .ref r, .int (gb q), .int (it q), .int (nI we9)])), (r, .inr (6, [.ref rx, .ref ry, .int (nI (nN (mn q) + 1)), .int (rgK (kd q).toInt)])), (rx, .inl (cI, cap, .inl (upd X (nN (mn q)) px))), (ry, .inl (cI, cap, .inl (upd Y (nN (mn q)) py))), (lo, .inr (6, [.ref lx, .ref ly, .int (nI ln), .int 0])), (lx, .inl (cI, cl q, .inl LX)), (ly, .inl (cI, cl q, .inl LY))] []
      [(fe q, .inr (1, [.int (rk q), .int (wd q), .int (tw q), .int (pa q), .int (pb q), .ref lo, .ref (la dn q), fv])), (la dn q, .inr (4, [.int (kd q), .int (st q), .ref r, .int (gb q), .int (it q), .int (nI we9)])), (r, .inr (6, [.ref rx, .ref ry, .int (nI (nN (mn q) + 1)), .int (rgK (kd q).toInt)])), (rx, .inl (cI, cap, .inl (upd X (nN (mn q)) px))), (ry, .inl (cI, cap, .inl (upd Y (nN (mn q)) py))), (lo, .inr (6, [.ref lx, .ref ly, .int (nI ln), .int 0])), (lx, .inl (cI, cl q, .inl LX)), (ly, .inl (cI, cl q, .inl LY))] L1 f1) (h40 : ∀ p, p < ft → ¬ (st p).toInt = 0 → (tn p).toInt = 0 → nN (mn p) ≤ 40) (hO : loG cI L f own fe (la dn) (fun _ => 0) la bs dn T ft (FT T) FT V (V dn)) :
    shB cI cO L1 f1 e0 FA ea bs dn T ft FT V VX VY tn rk wd tw pa pb wh of9 we kd st gb it (upd mn q (nI (nN (mn q) + 1))) (upd cx (40 * q + nN (mn q)) px) (upd cy (40 * q + nN (mn q)) py) := by
  obtain ⟨hfr, hkp, hce, hsx, hpw⟩ := hp
  obtain ⟨⟨a1, a2, ⟨a3, a4, a5, a6⟩, ⟨a7, a8, a9, a10⟩⟩, b1, b2, b3, b4, b5⟩ := hc
  have hk := hkp own own (fun g => g ≠ 8 * q + 3) (fun _ _ => rfl) ⟨fun _ _ => a1.2.1, fun _ _ => a2.2.1, fun _ h => absurd a3.2.2 h, fun _ h => absurd a4.2.2 h, fun _ h => absurd a5.2.2 h, fun _ _ => a7.2.1, fun _ _ => a8.2.1, fun _ _ => a9.2.1, trivial⟩
  refine S_corner hG hD hft hk hq hs ?_ (fun p hp => ⟨if_neg hp, fun k hk2 => ⟨cF_up hp hk2 (by omega), cF_up hp hk2 (by omega)⟩⟩) h40 hO
  rw [up_at, nN_n9 (by omega)]
  refine ⟨we9, .ref r, hce own 1 _ _ _ rfl a2.2.2, b2.2.2, fun g => (b5 g).1, fun g => absurd ht g, fun _ => ⟨r, rx, ry, cap, _, _, rfl, ⟨hce own 2 _ _ _ rfl a3.2.2, hce own 3 _ _ _ rfl a4.2.2, hce own 4 _ _ _ rfl a5.2.2, a6⟩, by omega, b2.2.1, b3, fun k hk2 => ?_, fun g => ?_⟩⟩
  · rw [cF_at, cF_at]
    unfold upd
    by_cases e : k = nN (mn q)
    · rw [if_pos e, if_pos e, if_pos e, if_pos e]; exact ⟨rfl, rfl⟩
    · rw [if_neg e, if_neg e, if_neg e, if_neg e]; exact b4 k (by omega)
  · have := (b3 hs).2; omega
end
theorem few_le {kd : Int} {n : Nat} {X Y : Nat → Int32} (h : mSm kd n X Y) : (if kd = 0 then 1 else if kd < 5 then 2 else 3) ≤ n := by
  by_cases e : kd = 0
  · rw [if_pos e]; have := h.1 e; omega
  · rw [if_neg e]
    have := (h.2 e).1
    unfold mnc at this
    by_cases e2 : kd < 5
    · rw [if_pos e2]; rw [if_neg (by omega)] at this; exact this
    · rw [if_neg e2]; rw [if_pos (by omega)] at this; exact this
theorem snd_x {kd : Int} {n : Nat} {X Y C D : Nat → Int32} {rg : Int32} (hr : rg = rgK kd) (hc : ∀ k, k < n → X k = C k ∧ Y k = D k) (h : mSm kd n C D) : (∀ i, i < edg n rg → eFr n X Y rg i (i + 1)) ∧ (¬ kd = 6 ∨ ∀ k, k < n → eRt n X Y k) := by
  have h' : mSm kd n X Y := mSm_cg (fun j hj => ⟨(hc j hj).1.symm, (hc j hj).2.symm⟩) h
  by_cases e : kd = 0
  · have hn := h.1 e
    refine ⟨fun i hi => ?_, Or.inl (by omega)⟩
    have := edg_le n rg
    unfold edg at hi
    rw [if_pos (by omega)] at hi
    omega
  · exact (snd_iff (by rw [hr]; unfold rgK; split <;> rfl) e (h'.2 e).1).mpr h'
section
variable {cI cO : ClassId} {L L1 L2 : List Nat} {f f1 f2 : Nat → va_E} {own own1 own2 : Nat → Nat} {e0 ea n9 : Nat} {FA : Nat → Option Nat} {fe cl nw md sp : Nat → Nat} {la : Nat → Nat → Nat} {fm : Nat → Value} {SA SA1 : Nat → Option Nat} {bs dn T ft fN : Nat} {FT : Nat → Nat} {V : Nat → Nat → Nat → Int32} {VX VY : Nat → Nat → Int32} {tn rk wd tw pa pb wh of9 we kd st gb it mn cx cy : Nat → Int32}
theorem F_own {L1 : List Nat} {own : Nat → Nat} {a0 a1 a2 a3 a4 a5 a6 a7 t : Nat} (n0 : a0 ∉ L1) (n1 : a1 ∉ L1) (n2 : a2 ∉ L1) (n3 : a3 ∉ L1) (n4 : a4 ∉ L1) (n5 : a5 ∉ L1) (n6 : a6 ∉ L1) (n7 : a7 ∉ L1) (q1 : a1 ≠ a0) (q2 : a2 ≠ a0) (q3 : a3 ≠ a0) (q4 : a4 ≠ a0) (q5 : a5 ≠ a0) (q6 : a6 ≠ a0) (q7 : a7 ≠ a0) (r2 : a2 ≠ a1) (r3 : a3 ≠ a1) (r4 : a4 ≠ a1) (r5 : a5 ≠ a1) (r6 : a6 ≠ a1) (r7 : a7 ≠ a1)
    (s5 : ¬ (a5 = a2 ∨ a5 = a3 ∨ a5 = a4)) (s6 : ¬ (a6 = a2 ∨ a6 = a3 ∨ a6 = a4)) (s7 : ¬ (a7 = a2 ∨ a7 = a3 ∨ a7 = a4)) :
    ∃ o : Nat → Nat, (∀ a ∈ L1, o a = own a) ∧ o a0 = 8 * t ∧ o a1 = 8 * t + 2 ∧ (o a2 = 8 * t + 3 ∧ o a3 = 8 * t + 3 ∧ o a4 = 8 * t + 3) ∧ (o a5 = 8 * t + 1 ∧ o a6 = 8 * t + 1 ∧ o a7 = 8 * t + 1) := by
  refine ⟨fun b => if b = a0 then 8 * t else if b = a1 then 8 * t + 2 else if b = a2 ∨ b = a3 ∨ b = a4 then 8 * t + 3 else if b = a5 ∨ b = a6 ∨ b = a7 then 8 * t + 1 else own b, fun a ha => ?_, if_pos rfl, (if_neg q1).trans (if_pos rfl), ⟨(if_neg q2).trans ((if_neg r2).trans (if_pos (Or.inl rfl))), (if_neg q3).trans ((if_neg r3).trans (if_pos (Or.inr (Or.inl rfl)))), (if_neg q4).trans ((if_neg r4).trans (if_pos (Or.inr (Or.inr rfl))))⟩,
    ⟨(if_neg q5).trans ((if_neg r5).trans ((if_neg s5).trans (if_pos (Or.inl rfl)))), (if_neg q6).trans ((if_neg r6).trans ((if_neg s6).trans (if_pos (Or.inr (Or.inl rfl))))), (if_neg q7).trans ((if_neg r7).trans ((if_neg s7).trans (if_pos (Or.inr (Or.inr rfl)))))⟩⟩
  have m : ∀ x, x ∉ L1 → a ≠ x := fun x hx e => hx (by rw [← e]; exact ha)
  exact (if_neg (m _ n0)).trans ((if_neg (m _ n1)).trans ((if_neg (fun h => h.elim (m _ n2) (fun h => h.elim (m _ n3) (m _ n4)))).trans (if_neg (fun h => h.elim (m _ n5) (fun h => h.elim (m _ n6) (m _ n7))))))
theorem S_fea {gh : Nat → Nat → Int32} {Xw : va_W} {fq nq lo lx ly r rx ry c rm : Nat} {k1 k2 k3 k4 : Int32} (hG : shG cI cO L f e0 FA ea n9 own fe cl la (la dn) (fun _ => 0) sp (fun _ => .null) SA bs dn dn ft ft FT V VX VY tn rk wd tw pa pb wh of9 we kd st gb it mn cx cy) (h200 : ft < 200) (hk6 : kpT (fun g => g ≠ 8002) L f own L1 f1 own) (hL6 : LsA cO L1 f1 own e0 ea dn SA1) (hS : ∀ i, i < dn → SA1 i = SA i)
    (hp : pinD L1 f1 Xw [] [(fq, .inr (1, [.int k2, .int k3, .int k4, .int (-1), .int (-1), .ref lo, .ref nq, .null])), (nq, .inr (4, [.int k1, .int 0, .ref r, .int 0, .int (-1), .int 0])), (r, .inr (6, [.ref rx, .ref ry, .int (nI 0), .int (rgK k1.toInt)])), (rx, .inl (cI, rm, .inl (fun _ => 0))), (ry, .inl (cI, rm, .inl (fun _ => 0))), (lo, .inr (6, [.ref lx, .ref ly, .int (nI 0), .int 0])), (lx, .inl (cI, c, .inl (fun _ => 0))), (ly, .inl (cI, c, .inl (fun _ => 0)))] [(fq, .inr (1, [.int k2, .int k3, .int k4, .int (-1), .int (-1), .ref lo, .ref nq, .null])), (nq, .inr (4, [.int k1, .int 0, .ref r, .int 0, .int (-1), .int 0])), (r, .inr (6, [.ref rx, .ref ry, .int (nI 0), .int (rgK k1.toInt)])), (rx, .inl (cI, rm, .inl (fun _ => 0))), (ry, .inl (cI, rm, .inl (fun _ => 0))), (lo, .inr (6, [.ref lx, .ref ly, .int (nI 0), .int 0])), (lx, .inl (cI, c, .inl (fun _ => 0))), (ly, .inl (cI, c, .inl (fun _ => 0)))] L2 f2) (hc : (1 ≤ k1.toInt ∧ k1.toInt ≤ 5 ∧ c = 40) ∨ (¬ (1 ≤ k1.toInt ∧ k1.toInt ≤ 5) ∧ c = 1)) (hrm : rm = (if k1.toInt = 0 then 1 else 40)) (hW : loW cI L f own fe (la dn) ft gh) :
    shB cI cO L2 f2 e0 (va_up FA ft (some fq)) ea dn dn dn (ft + 1) (fun _ => ft + 1) (fun _ => vC (gZ gh ft) (upd kd ft k1) (upd st ft 0) (upd gb ft 0) (upd it ft (-1)) (upd mn ft 0)) (fun _ => cx) (fun _ => cy) (upd tn ft 0) (upd rk ft k2) (upd wd ft k3) (upd tw ft k4) (upd pa ft (-1)) (upd pb ft (-1)) wh of9 we (upd kd ft k1) (upd st ft 0) (upd gb ft 0) (upd it ft (-1)) (upd mn ft 0) cx cy := by
  have hcb : 0 ≤ c ∧ 1 ≤ c ∧ c ≤ 40 := by omega
  have hc40 : (1 ≤ k1.toInt ∧ k1.toInt ≤ 5) → c = 40 := by omega
  have hrm4 : rm ≤ 40 := by rw [hrm]; split <;> omega
  obtain ⟨hfr, hkp, hce, hsx, hpw⟩ := hp
  obtain ⟨o, how, of0, of1, ⟨of2, of3, of4⟩, of5, of6, of7⟩ := F_own (own := own) (t := ft) (hfr _ (List.mem_of_getElem? (i := 0) rfl)) (hfr _ (List.mem_of_getElem? (i := 1) rfl)) (hfr _ (List.mem_of_getElem? (i := 2) rfl)) (hfr _ (List.mem_of_getElem? (i := 3) rfl)) (hfr _ (List.mem_of_getElem? (i := 4) rfl)) (hfr _ (List.mem_of_getElem? (i := 5) rfl)) (hfr _ (List.mem_of_getElem? (i := 6) rfl)) (hfr _ (List.mem_of_getElem? (i := 7) rfl)) (pwN hpw (i := 1) (j := 0) rfl rfl (by decide)) (pwN hpw (i := 2) (j := 0) rfl rfl (by decide)) (pwN hpw (i := 3) (j := 0) rfl rfl (by decide)) (pwN hpw (i := 4) (j := 0) rfl rfl (by decide)) (pwN hpw (i := 5) (j := 0) rfl rfl (by decide)) (pwN hpw (i := 6) (j := 0) rfl rfl (by decide)) (pwN hpw (i := 7) (j := 0) rfl rfl (by decide)) (pwN hpw (i := 2) (j := 1) rfl rfl (by decide)) (pwN hpw (i := 3) (j := 1) rfl rfl (by decide)) (pwN hpw (i := 4) (j := 1) rfl rfl (by decide)) (pwN hpw (i := 5) (j := 1) rfl rfl (by decide)) (pwN hpw (i := 6) (j := 1) rfl rfl (by decide)) (pwN hpw (i := 7) (j := 1) rfl rfl (by decide)) (fun h => h.elim (pwN hpw (i := 5) (j := 2) rfl rfl (by decide)) (fun h => h.elim (pwN hpw (i := 5) (j := 3) rfl rfl (by decide)) (pwN hpw (i := 5) (j := 4) rfl rfl (by decide)))) (fun h => h.elim (pwN hpw (i := 6) (j := 2) rfl rfl (by decide)) (fun h => h.elim (pwN hpw (i := 6) (j := 3) rfl rfl (by decide)) (pwN hpw (i := 6) (j := 4) rfl rfl (by decide)))) (fun h => h.elim (pwN hpw (i := 7) (j := 2) rfl rfl (by decide)) (fun h => h.elim (pwN hpw (i := 7) (j := 3) rfl rfl (by decide)) (pwN hpw (i := 7) (j := 4) rfl rfl (by decide))))
  have x34 := pwN hpw (i := 3) (j := 4) rfl rfl (by decide)
  have x67 := pwN hpw (i := 6) (j := 7) rfl rfl (by decide)
  have hk2 := hkp own o (fun _ => True) how trivial
  have g0 := hce o 0 _ _ _ rfl of0
  have g1 := hce o 1 _ _ _ rfl of1
  have g2 := hce o 2 _ _ _ rfl of2
  have g3 := hce o 3 _ _ _ rfl of3
  have g4 := hce o 4 _ _ _ rfl of4
  have g5 := hce o 5 _ _ _ rfl of5
  have g6 := hce o 6 _ _ _ rfl of6
  have g7 := hce o 7 _ _ _ rfl of7
  clear hfr hkp hce hsx hpw
  have nN0 : nN (0 : Int32) = 0 := by decide
  refine S_feature (fq := fq) (nq := nq) (c := c) hG (fun g a e hp h => hk2 g a e trivial (hk6 g a e hp h)) h200 ?_ ?_ (fun p hp => ⟨if_neg hp, if_neg hp, if_neg hp, if_neg hp, if_neg hp, if_neg hp, if_neg hp, if_neg hp, if_neg hp, if_neg hp, if_neg hp⟩) (LsA_kp hk2 ⟨trivial, trivial⟩ hL6) hS hW ⟨_, _, _, _, _, _, _, lo, lx, ly, c, g0, ⟨g5, g6, g7, x67⟩, Nat.zero_le _⟩ ⟨Nat.zero_le _, _, _, _, _, _, g1⟩ gZ_5 (fun p hp => gZ_o hp)
  · rw [up_at, up_at, up_at, up_at, up_at]
    exact ⟨lo, lx, ly, 0, _, _, g0, ⟨g5, g6, g7, x67⟩, hcb⟩
  · rw [up_at, up_at, up_at, up_at, up_at, up_at, nN0]
    exact ⟨0, .ref r, g1, Nat.zero_le _, hc40, fun g => absurd rfl g, fun _ => ⟨r, rx, ry, rm, _, _, rfl, ⟨g2, g3, g4, x34⟩, Nat.zero_le _, hrm4, fun _ => ⟨hrm, rfl⟩, fun k hk => absurd hk (Nat.not_lt_zero _), fun _ => Nat.zero_le _⟩⟩
end
end
section
set_option maxHeartbeats 4000000 in
set_option maxRecDepth 100000 in
theorem k_tear_y (l : Launch) (dC : Nat → ClassId) (dI : Nat → Nat → Nat) (cI cZ cF : ClassId) (sz : Nat) (cO : ClassId) (e0 : Nat) (mi : Nat) (x : Nat) (sh : Nat) (lw : Nat) (ro : Nat) (bq : Nat) (bp : Nat) (dq : Nat) (dp : Nat) (lv : Nat) (sl : Nat) (sd : Int32) (ul : Int32) (su : Int32) (ea : Nat) (mc9 : Int32) (fa : Nat) (FA : Nat → Option Nat) (bs : Nat) (dn : Nat) (T : Nat) (ft : Nat) (FT : Nat → Nat) (V : Nat → Nat → Nat → Int32) (VX : Nat → Nat → Int32) (VY : Nat → Nat → Int32) (tn : Nat → Int32) (rk : Nat → Int32) (wd : Nat → Int32) (tw : Nat → Int32) (pa : Nat → Int32) (pb : Nat → Int32) (wh : Nat → Int32) (of9 : Nat → Int32) (we : Nat → Int32) (kd : Nat → Int32) (st : Nat → Int32) (gb : Nat → Int32) (it : Nat → Int32) (mn : Nat → Int32) (cx : Nat → Int32) (cy : Nat → Int32) (L : List Nat) (f : Nat → va_E) (f0 : Nat) (hB : shB cI cO L f e0 FA ea bs dn T ft FT V VX VY tn rk wd tw pa pb wh of9 we kd st gb it mn cx cy) (hd5 : dn + 1 ≤ 512) (hf0 : f0 < ft) (htn : (tn f0).toInt = 0) (hst : ¬ (st f0).toInt = 2) : zML l yX10_tear cX10_tear 3 (some .boolean) ({ frames := 5, cells := 0, slots := 0, locals := 107 } : Room) [.ref x, .int (nI f0)] (dC, dI) (zTyO cI cZ cF cO) e0 mi ([(oc8 x (.ref sh) (.ref lw) (.ref ro) (.ref bq) (.ref bp) (.ref dq) (.ref dp) (.ref lv) (.ref sl) (nI dn) sd ul su), (oc10 sl mc9 (.ref ea) (nI T)), (oc7 sh (.ref fa) (nI ft)), (oq fa cF 200 FA)] ++ va_pl L f) sz (some (.int 1)) (fun A t => ∃ (mc1 : Int32), ∃ (L1 : List Nat), ∃ (f1 : Nat → va_E), (shB cI cO L1 f1 e0 FA ea dn dn dn ft (fun _ => ft) (fun _ => vC (V dn) kd st gb it (upd mn f0 0)) (fun _ => cx) (fun _ => cy) (upd tn f0 1) rk wd tw pa pb wh of9 we kd st gb it (upd mn f0 0) cx cy) ∧ zPD (dC, dI) classes A ([(oc8 x (.ref sh) (.ref lw) (.ref ro) (.ref bq) (.ref bp) (.ref dq) (.ref dp) (.ref lv) (.ref sl) (nI dn) (nI dn) ul 0), (oc10 sl mc1 (.ref ea) (nI dn)), (oc7 sh (.ref fa) (nI ft)), (oq fa cF 200 FA)] ++ va_pl L1 f1) t.heap) 0 0 := by
  refine zInL (own := "ScaleShop") (loc := [(0, .ref x), (1, .int (nI f0))]) rfl rfl rfl rfl (fun p e s m below meth c hx hb hr hts hown hlocks hml hnm9 A hA hS hP hD hK hXL hXN hK3 Q9 hQ9 ls hl => ?_)
  obtain ⟨own, fe, cl, la, sp, SA, hG9, hH9, hft9, hO9⟩ := hB
  obtain ⟨hG, hM, hdT, hT5, hO⟩ := M_0 hG9 hH9 hft9 hO9
  have h200 : ft ≤ 200 := hG.2.2.2.2.2.1.2.2.2.2.2
  have hFA9 := hG.2.2.2.2.2.2
  refine ex13 (sh_fc hG.1 hG.2.1 (Nat.le_refl _) hf0 htn) (fun lo5 lx5 ly5 ln5 LX5 LY5 we5 r5 rx5 ry5 cap5 X5 Y5 hc5 => ?_)
  have hc5 := fc_0 hc5
  have hb5 := hc5.2.2.1
  have hb6 := hc5.2.1
  have hat9 := lo_at hO (Nat.le_refl _) hf0 hc5.1.1 hc5.1.2.2.2 (by omega) hc5.1.2.1 hb5.2.2
  have hc9_1 : inPl L f [(oc1 (fe f0) (rk f0) (wd f0) (tw f0) (pa f0) (pb f0) (.ref lo5) (.ref (la dn f0)) .null), (oc4 (la dn f0) (kd f0) (st f0) (.ref r5) (gb f0) (it f0) (nI we5)), (oc6 r5 (.ref rx5) (.ref ry5) (nI (nN (mn f0))) (rgK (kd f0).toInt)), (oa rx5 cI cap5 X5), (oa ry5 cI cap5 Y5), (oc6 lo5 (.ref lx5) (.ref ly5) (nI ln5) 0), (oa lx5 cI (cl f0) LX5), (oa ly5 cI (cl f0) LY5)] := ⟨ce_pl hc5.1.1, ce_pl hc5.1.2.1, ce_pl hc5.1.2.2.1.1, ce_pl hc5.1.2.2.1.2.1, ce_pl hc5.1.2.2.1.2.2.1, ce_pl hc5.1.2.2.2.1, ce_pl hc5.1.2.2.2.2.1, ce_pl hc5.1.2.2.2.2.2.1, trivial⟩
  have hD0_1 := hD
  obtain ⟨T_1, hT_1, hP, hD⟩ := pl_oT hP hD hc9_1 (pw8 hc5 (by omega))
  obtain ⟨hP, hD⟩ := zre (W2 := ([_, _, _, _, _, _, _, _, _, _, _, _] ++ va_pl T_1 f)) hP hD rfl
  refine lv_aload_n hx hb dX10_tear_0 rfl (lv_at hl 0 rfl) ?_
  refine va_get (D := (dC, dI)) (ci := 8) (v := .ref sh) (C := RX10) (T := TX10) (N := 13) hx hb hts inX10 hown hK hP 0 rfl rfl 0 (Nat.le_of_ble_eq_true rfl) (hts _ mw_309) (fun _ h9 => h9) rfl dX10_tear_1 ?_
  refine lv_iload_n hx hb dX10_tear_4 rfl (lv_at hl 1 rfl) ?_
  obtain ⟨hPc, hDc, hFc, hI1⟩ := zi_sub (wc := [_, _]) hP hD hS hA [2, 3] rfl rfl
  refine zcall (st1 := [.ref (fe f0)]) (va_runV (As := [.int (nI f0)]) (rest := []) ⟨hx, hb, hml, hown, hts⟩ (k_Sheet_find l dC dI cI cZ cF s.heap.size sh fa ft FA f0 (fe f0) (by first | with_reducible assumption | omega) (by first | with_reducible assumption | omega) (hFA9 f0 (by first | with_reducible assumption | omega))) (csV_94 hts rfl rfl ⟨Nat.le_of_ble_eq_true rfl, Nat.le_of_ble_eq_true rfl⟩) (zPV2 (q0 := 0) (ci := 7) hPc hDc hK3 hXN rfl rfl) rfl rfl hl.1 rfl (lv_room (Nat.le_of_ble_eq_true rfl)) dX10_tear_5 ⟨Nat.le_of_ble_eq_true rfl, Nat.le_of_ble_eq_true rfl⟩) hS hFc hFc rfl (fun t H locs ht hB hk1 hS => ?_)
  obtain ⟨hP1, hD1⟩ := hB
  rw [ht] at hP1
  replace hP := z0 hP hD hk1 hP1 hI1
  clear hk1 hPc hDc hFc hP1 hD1 ht hI1
  refine lv_astore_n (lv' := [(2, .ref (fe f0)), (0, .ref x), (1, .int (nI f0))]) hx hb dX10_tear_8 rfl hl (Nat.le_of_ble_eq_true rfl) rfl (fun ls hl => ?_)
  refine lv_aload_n hx hb dX10_tear_9 rfl (lv_at hl 0 rfl) ?_
  refine lv_ifnonnull (tgt := 19) hx hb dX10_tear_10 rfl ?_
  refine lv_aload_n hx hb dX10_tear_19 rfl (lv_at hl 0 rfl) ?_
  refine va_get (D := (dC, dI)) (ci := 1) (v := .ref (la dn f0)) (C := RX2) (T := TX2) (N := 8) hx hb hts inX2 hown hK hP 4 rfl rfl 6 (Nat.le_of_ble_eq_true rfl) (hts _ mw_433) (fun _ h9 => h9) rfl dX10_tear_20 ?_
  refine va_get (D := (dC, dI)) (ci := 4) (v := .int (st f0)) (C := RX5) (T := TX5) (N := 6) hx hb hts inX5 hown hK hP 5 rfl rfl 1 (Nat.le_of_ble_eq_true rfl) (hts _ mw_385) (fun _ h9 => h9) rfl dX10_tear_23 ?_
  refine lv_iconst (v := 2) hx hb dX10_tear_26 rfl ?_
  refine lv_icmp_ne (tgt := 36) hx hb dX10_tear_27 rfl (fun c_1 => ?_) (fun c_1 => ?_)
  · have c_1 : ¬ (st f0).toInt = 2 := zc_ne rfl rfl c_1
    refine lv_aload_n hx hb dX10_tear_36 rfl (lv_at hl 0 rfl) ?_
    refine va_get (D := (dC, dI)) (ci := 1) (v := .ref (la dn f0)) (C := RX2) (T := TX2) (N := 8) hx hb hts inX2 hown hK hP 4 rfl rfl 6 (Nat.le_of_ble_eq_true rfl) (hts _ mw_433) (fun _ h9 => h9) rfl dX10_tear_37 ?_
    refine va_get (D := (dC, dI)) (ci := 4) (v := .ref r5) (C := RX5) (T := TX5) (N := 6) hx hb hts inX5 hown hK hP 5 rfl rfl 2 (Nat.le_of_ble_eq_true rfl) (hts _ mw_391) (fun _ h9 => h9) rfl dX10_tear_40 ?_
    refine lv_ifnonnull (tgt := 52) hx hb dX10_tear_43 rfl ?_
    refine lv_aload_n hx hb dX10_tear_52 rfl (lv_at hl 0 rfl) ?_
    refine va_get (D := (dC, dI)) (ci := 1) (v := .ref (la dn f0)) (C := RX2) (T := TX2) (N := 8) hx hb hts inX2 hown hK hP 4 rfl rfl 6 (Nat.le_of_ble_eq_true rfl) (hts _ mw_433) (fun _ h9 => h9) rfl dX10_tear_53 ?_
    refine lv_null hx hb dX10_tear_56 ?_
    refine va_put (D := (dC, dI)) (ci := 4) (v := .null) (ty := .object "ScaleShop$Row") (C := RX5) (T := TX5) (N := 6) hx hb hts inX5 tyX5 tyX5_ok nmX5 hown hK hP hD hS 5 rfl rfl 2 (by decide) (hts _ mw_391) (fun _ h9 => h9) rfl (by decide +kernel) rfl rfl (Nat.le_of_ble_eq_true rfl) dX10_tear_57 (fun H locs hP hD hS => ?_)
    obtain ⟨hP, hD⟩ := zre (W2 := ([_, _, _, _, _, (oc4 (la dn f0) (kd f0) (st f0) .null (gb f0) (it f0) (nI we5)), _, _, _, _, _, _] ++ va_pl T_1 f)) hP hD rfl
    obtain ⟨Lp1, fp1, hP, hD, hpin_1⟩ := pl_pn (X := [_, _, _, _]) (old := [_, _, _, _, _, _, _, _]) (new := []) (cs1 := [_, _, _, _, _, _, _, _]) (L := L) (cs := [(oc1 (fe f0) (rk f0) (wd f0) (tw f0) (pa f0) (pb f0) (.ref lo5) (.ref (la dn f0)) .null), (oc4 (la dn f0) (kd f0) (st f0) (.ref r5) (gb f0) (it f0) (nI we5)), (oc6 r5 (.ref rx5) (.ref ry5) (nI (nN (mn f0))) (rgK (kd f0).toInt)), (oa rx5 cI cap5 X5), (oa ry5 cI cap5 Y5), (oc6 lo5 (.ref lx5) (.ref ly5) (nI ln5) 0), (oa lx5 cI (cl f0) LX5), (oa ly5 cI (cl f0) LY5)]) hT_1 hP hD rfl rfl rfl
    obtain ⟨hfr_1, hkp_1, hce_1, hsx_1, hpw_1⟩ := id hpin_1
    obtain ⟨hkq, hlq⟩ := P_look hc5 hpin_1
    have hLq := LsA_kp hkq ⟨by omega, by omega⟩ hG.2.2.2.2.1
    refine lv_aload_n hx hb dX10_tear_60 rfl (lv_at hl 1 rfl) ?_
    obtain ⟨hPc, hDc, hFc⟩ := zo_part (cx := [_, _]) hP hD hS hA [0, 1] rfl rfl
    refine zcall (st1 := [.int 1]) (va_runV (As := []) (rest := []) ⟨hx, hb, hml, hown, hts⟩ (k_seal l dC dI cI cZ cF H.size cO e0 mi x sh lw ro bq bp dq dp lv sl sd ul su sl ea T mc9 dn SA Lp1 fp1 own (hLq) (by first | with_reducible assumption | omega) (by first | with_reducible assumption | omega)) (csV_102 hts rfl rfl ⟨Nat.le_of_ble_eq_true rfl, Nat.le_of_ble_eq_true rfl⟩) (zPVL (q0 := 0) (ci := 8) hPc hDc hK hXL hS hFc rfl rfl) rfl rfl hl.1 rfl (lv_room (Nat.le_of_ble_eq_true rfl)) dX10_tear_61 ⟨Nat.le_of_ble_eq_true rfl, Nat.le_of_ble_eq_true rfl⟩) hS hFc hFc rfl (fun t H locs ht hB hk1 hS => ?_)
    obtain ⟨mc6, L6, f6, SA6, hL6, hS6, hk6, hP1, hD1⟩ := hB
    rw [ht] at hP1
    obtain ⟨hP, hD⟩ := znP (W2 := [(oc8 x (.ref sh) (.ref lw) (.ref ro) (.ref bq) (.ref bp) (.ref dq) (.ref dp) (.ref lv) (.ref sl) (nI dn) (nI dn) ul 0), (oc10 sl mc6 (.ref ea) (nI dn)), _, _]) hP hD hk1 hFc hP1 hD1 [0, 1] [false, false, true, true] [false, false, true, true] [0, 1] (by decide +kernel) rfl rfl rfl rfl rfl
    clear hk1 hPc hDc hFc hP1 hD1 ht
    have hB6 := S_tear hG hf0 h200 hc5 hkq hlq hk6 hL6 hS6 (lo_W hO (Nat.le_refl _))
    obtain ⟨hP9, hD9⟩ := zu_part (cx := [_, _, _, _]) hP hD [true, true, true, true] rfl rfl
    rw [hQ9]
    exact W.zret (ty := .boolean) (v := 1) hx hb hr (rfl) (fun t ht hW => ⟨⟨rfl, mc6, L6, f6, (hB6), by rw [ht]; exact hP9, hD9⟩, hS.F ht⟩) hS.2.2 dX10_tear_64
  · have c_1 : (st f0).toInt = 2 := zc_eq rfl rfl c_1
    exfalso; omega
set_option maxHeartbeats 4000000 in
set_option maxRecDepth 100000 in
theorem k_done_y (l : Launch) (dC : Nat → ClassId) (dI : Nat → Nat → Nat) (cI cZ cF : ClassId) (sz : Nat) (cO : ClassId) (e0 : Nat) (mi : Nat) (x : Nat) (sh : Nat) (lw : Nat) (ro : Nat) (bq : Nat) (bp : Nat) (dq : Nat) (dp : Nat) (lv : Nat) (sl : Nat) (sd : Int32) (ul : Int32) (su : Int32) (ea : Nat) (mc9 : Int32) (fa : Nat) (FA : Nat → Option Nat) (bs : Nat) (dn : Nat) (T : Nat) (ft : Nat) (FT : Nat → Nat) (V : Nat → Nat → Nat → Int32) (VX : Nat → Nat → Int32) (VY : Nat → Nat → Int32) (tn : Nat → Int32) (rk : Nat → Int32) (wd : Nat → Int32) (tw : Nat → Int32) (pa : Nat → Int32) (pb : Nat → Int32) (wh : Nat → Int32) (of9 : Nat → Int32) (we : Nat → Int32) (kd : Nat → Int32) (st : Nat → Int32) (gb : Nat → Int32) (it : Nat → Int32) (mn : Nat → Int32) (cx : Nat → Int32) (cy : Nat → Int32) (L : List Nat) (f : Nat → va_E) (f0 : Nat) (hB : shB cI cO L f e0 FA ea bs dn T ft FT V VX VY tn rk wd tw pa pb wh of9 we kd st gb it mn cx cy) (hd5 : dn + 1 ≤ 512) (hf0 : f0 < ft) (htn : (tn f0).toInt = 0) (hst : (st f0).toInt = 0) (hsm : mSm (kd f0).toInt (nN (mn f0)) (cF40 cx f0) (cF40 cy f0)) (hpl : pls (nN (mn f0)) (cF40 cx f0) (cF40 cy f0)) : zML l yX10_done cX10_done 4 (some .boolean) ({ frames := 5, cells := 0, slots := 0, locals := 107 } : Room) [.ref x, .int (nI f0)] (dC, dI) (zTyO cI cZ cF cO) e0 mi ([(oc8 x (.ref sh) (.ref lw) (.ref ro) (.ref bq) (.ref bp) (.ref dq) (.ref dp) (.ref lv) (.ref sl) (nI dn) sd ul su), (oc10 sl mc9 (.ref ea) (nI T)), (oc7 sh (.ref fa) (nI ft)), (oq fa cF 200 FA)] ++ va_pl L f) sz (some (.int 1)) (fun A t => ∃ (mc1 : Int32), ∃ (L1 : List Nat), ∃ (f1 : Nat → va_E), (shB cI cO L1 f1 e0 FA ea dn dn dn ft (fun _ => ft) (fun _ => vC (V dn) kd (upd st f0 1) gb it mn) (fun _ => cx) (fun _ => cy) tn rk wd tw pa pb wh of9 we kd (upd st f0 1) gb it mn cx cy) ∧ zPD (dC, dI) classes A ([(oc8 x (.ref sh) (.ref lw) (.ref ro) (.ref bq) (.ref bp) (.ref dq) (.ref dp) (.ref lv) (.ref sl) (nI dn) (nI dn) ul 0), (oc10 sl mc1 (.ref ea) (nI dn)), (oc7 sh (.ref fa) (nI ft)), (oq fa cF 200 FA)] ++ va_pl L1 f1) t.heap) 0 0 := by
  refine zInL (own := "ScaleShop") (loc := [(0, .ref x), (1, .int (nI f0))]) rfl rfl rfl rfl (fun p e s m below meth c hx hb hr hts hown hlocks hml hnm9 A hA hS hP hD hK hXL hXN hK3 Q9 hQ9 ls hl => ?_)
  obtain ⟨own, fe, cl, la, sp, SA, hG9, hH9, hft9, hO9⟩ := hB
  obtain ⟨hG, hM, hdT, hT5, hO⟩ := M_0 hG9 hH9 hft9 hO9
  have h200 : ft ≤ 200 := hG.2.2.2.2.2.1.2.2.2.2.2
  have hFA9 := hG.2.2.2.2.2.2
  refine ex13 (sh_fc hG.1 hG.2.1 (Nat.le_refl _) hf0 htn) (fun lo5 lx5 ly5 ln5 LX5 LY5 we5 r5 rx5 ry5 cap5 X5 Y5 hc5 => ?_)
  have hc5 := fc_0 hc5
  have hb5 := hc5.2.2.1
  have hb6 := hc5.2.1
  have hat9 := lo_at hO (Nat.le_refl _) hf0 hc5.1.1 hc5.1.2.2.2 (by omega) hc5.1.2.1 hb5.2.2
  have hfw9 := few_le hsm
  have hc9_1 : inPl L f [(oc1 (fe f0) (rk f0) (wd f0) (tw f0) (pa f0) (pb f0) (.ref lo5) (.ref (la dn f0)) .null), (oc4 (la dn f0) (kd f0) (st f0) (.ref r5) (gb f0) (it f0) (nI we5)), (oc6 r5 (.ref rx5) (.ref ry5) (nI (nN (mn f0))) (rgK (kd f0).toInt)), (oa rx5 cI cap5 X5), (oa ry5 cI cap5 Y5), (oc6 lo5 (.ref lx5) (.ref ly5) (nI ln5) 0), (oa lx5 cI (cl f0) LX5), (oa ly5 cI (cl f0) LY5)] := ⟨ce_pl hc5.1.1, ce_pl hc5.1.2.1, ce_pl hc5.1.2.2.1.1, ce_pl hc5.1.2.2.1.2.1, ce_pl hc5.1.2.2.1.2.2.1, ce_pl hc5.1.2.2.2.1, ce_pl hc5.1.2.2.2.2.1, ce_pl hc5.1.2.2.2.2.2.1, trivial⟩
  have hD0_1 := hD
  obtain ⟨T_1, hT_1, hP, hD⟩ := pl_oT hP hD hc9_1 (pw8 hc5 (by omega))
  obtain ⟨hP, hD⟩ := zre (W2 := ([_, _, _, _, _, _, _, _, _, _, _, _] ++ va_pl T_1 f)) hP hD rfl
  refine lv_aload_n hx hb dX10_done_0 rfl (lv_at hl 0 rfl) ?_
  refine va_get (D := (dC, dI)) (ci := 8) (v := .ref sh) (C := RX10) (T := TX10) (N := 13) hx hb hts inX10 hown hK hP 0 rfl rfl 0 (Nat.le_of_ble_eq_true rfl) (hts _ mw_309) (fun _ h9 => h9) rfl dX10_done_1 ?_
  refine lv_iload_n hx hb dX10_done_4 rfl (lv_at hl 1 rfl) ?_
  obtain ⟨hPc, hDc, hFc, hI1⟩ := zi_sub (wc := [_, _]) hP hD hS hA [2, 3] rfl rfl
  refine zcall (st1 := [.ref (fe f0)]) (va_runV (As := [.int (nI f0)]) (rest := []) ⟨hx, hb, hml, hown, hts⟩ (k_Sheet_find l dC dI cI cZ cF s.heap.size sh fa ft FA f0 (fe f0) (by first | with_reducible assumption | omega) (by first | with_reducible assumption | omega) (hFA9 f0 (by first | with_reducible assumption | omega))) (csV_94 hts rfl rfl ⟨Nat.le_of_ble_eq_true rfl, Nat.le_of_ble_eq_true rfl⟩) (zPV2 (q0 := 0) (ci := 7) hPc hDc hK3 hXN rfl rfl) rfl rfl hl.1 rfl (lv_room (Nat.le_of_ble_eq_true rfl)) dX10_done_5 ⟨Nat.le_of_ble_eq_true rfl, Nat.le_of_ble_eq_true rfl⟩) hS hFc hFc rfl (fun t H locs ht hB hk1 hS => ?_)
  obtain ⟨hP1, hD1⟩ := hB
  rw [ht] at hP1
  replace hP := z0 hP hD hk1 hP1 hI1
  clear hk1 hPc hDc hFc hP1 hD1 ht hI1
  refine lv_astore_n (lv' := [(2, .ref (fe f0)), (0, .ref x), (1, .int (nI f0))]) hx hb dX10_done_8 rfl hl (Nat.le_of_ble_eq_true rfl) rfl (fun ls hl => ?_)
  refine lv_aload_n hx hb dX10_done_9 rfl (lv_at hl 0 rfl) ?_
  refine lv_ifnonnull (tgt := 19) hx hb dX10_done_10 rfl ?_
  refine lv_aload_n hx hb dX10_done_19 rfl (lv_at hl 0 rfl) ?_
  refine va_get (D := (dC, dI)) (ci := 1) (v := .ref (la dn f0)) (C := RX2) (T := TX2) (N := 8) hx hb hts inX2 hown hK hP 4 rfl rfl 6 (Nat.le_of_ble_eq_true rfl) (hts _ mw_433) (fun _ h9 => h9) rfl dX10_done_20 ?_
  refine va_get (D := (dC, dI)) (ci := 4) (v := .int (st f0)) (C := RX5) (T := TX5) (N := 6) hx hb hts inX5 hown hK hP 5 rfl rfl 1 (Nat.le_of_ble_eq_true rfl) (hts _ mw_385) (fun _ h9 => h9) rfl dX10_done_23 ?_
  refine lv_if_eq (tgt := 35) hx hb dX10_done_26 rfl (fun c_1 => ?_) (fun c_1 => ?_)
  · have c_1 : (st f0).toInt = 0 := zc_eq rfl rfl c_1
    refine lv_aload_n hx hb dX10_done_35 rfl (lv_at hl 0 rfl) ?_
    refine va_get (D := (dC, dI)) (ci := 1) (v := .ref (la dn f0)) (C := RX2) (T := TX2) (N := 8) hx hb hts inX2 hown hK hP 4 rfl rfl 6 (Nat.le_of_ble_eq_true rfl) (hts _ mw_433) (fun _ h9 => h9) rfl dX10_done_36 ?_
    refine va_get (D := (dC, dI)) (ci := 4) (v := .ref r5) (C := RX5) (T := TX5) (N := 6) hx hb hts inX5 hown hK hP 5 rfl rfl 2 (Nat.le_of_ble_eq_true rfl) (hts _ mw_391) (fun _ h9 => h9) rfl dX10_done_39 ?_
    refine lv_astore_n (lv' := [(3, .ref r5), (2, .ref (fe f0)), (0, .ref x), (1, .int (nI f0))]) hx hb dX10_done_42 rfl hl (Nat.le_of_ble_eq_true rfl) rfl (fun ls hl => ?_)
    refine lv_aload_n hx hb dX10_done_43 rfl (lv_at hl 0 rfl) ?_
    refine lv_ifnonnull (tgt := 53) hx hb dX10_done_44 rfl ?_
    refine lv_aload_n hx hb dX10_done_53 rfl (lv_at hl 0 rfl) ?_
    refine va_get (D := (dC, dI)) (ci := 6) (v := .int (nI (nN (mn f0)))) (C := RX7) (T := TX7) (N := 4) hx hb hts inX7 hown hK hP 6 rfl rfl 2 (Nat.le_of_ble_eq_true rfl) (hts _ mw_179) (fun _ h9 => h9) rfl dX10_done_54 ?_
    refine lv_aload_n hx hb dX10_done_57 rfl (lv_at hl 1 rfl) ?_
    refine va_get (D := (dC, dI)) (ci := 1) (v := .ref (la dn f0)) (C := RX2) (T := TX2) (N := 8) hx hb hts inX2 hown hK hP 4 rfl rfl 6 (Nat.le_of_ble_eq_true rfl) (hts _ mw_433) (fun _ h9 => h9) rfl dX10_done_58 ?_
    refine va_get (D := (dC, dI)) (ci := 4) (v := .int (kd f0)) (C := RX5) (T := TX5) (N := 6) hx hb hts inX5 hown hK hP 5 rfl rfl 0 (Nat.le_of_ble_eq_true rfl) (hts _ mw_381) (fun _ h9 => h9) rfl dX10_done_61 ?_
    obtain ⟨hPc, hDc, hFc, hI1⟩ := zi_sub (wc := []) hP hD hS hA [] rfl rfl
    refine zcall (st1 := [.int (nI (if (kd f0).toInt = 0 then 1 else if (kd f0).toInt < 5 then 2 else 3)), .int (nI (nN (mn f0)))]) (va_runS (As := [.int (kd f0)]) (rest := [.int (nI (nN (mn f0)))]) ⟨hx, hb, hml, hown, hts⟩ (k_fewestCorners l dC dI cI cZ cF H.size (kd f0) ) (csS_107 hts rfl rfl ⟨Nat.le_of_ble_eq_true rfl, Nat.le_of_ble_eq_true rfl⟩) (zPS2 hPc hDc hK3 hXN) rfl rfl hl.1 rfl (lv_room (Nat.le_of_ble_eq_true rfl)) dX10_done_64 ⟨Nat.le_of_ble_eq_true rfl, Nat.le_of_ble_eq_true rfl⟩) hS hFc hFc rfl (fun t H locs ht hB hk1 hS => ?_)
    obtain ⟨hP1, hD1⟩ := hB
    rw [ht] at hP1
    replace hP := z0 hP hD hk1 hP1 hI1
    clear hk1 hPc hDc hFc hP1 hD1 ht hI1
    have b9_3 : zlt ((nN (mn f0))) := show (nN (mn f0)) < 2147483648 by omega
    have b9_4 : zlt ((if (kd f0).toInt = 0 then 1 else if (kd f0).toInt < 5 then 2 else 3)) := show (if (kd f0).toInt = 0 then 1 else if (kd f0).toInt < 5 then 2 else 3) < 2147483648 by omega
    refine lv_icmp_lt (tgt := 84) hx hb dX10_done_67 rfl (fun c_2 => ?_) (fun c_2 => ?_)
    · have c_2 : ((nN (mn f0) : Nat) : Int) < ((if (kd f0).toInt = 0 then 1 else if (kd f0).toInt < 5 then 2 else 3 : Nat) : Int) := zc_lt (nI_toInt b9_3) (nI_toInt b9_4) c_2
      exfalso; exact absurd (few_le hsm) (by omega)
    · have c_2 : ((if (kd f0).toInt = 0 then 1 else if (kd f0).toInt < 5 then 2 else 3 : Nat) : Int) ≤ ((nN (mn f0) : Nat) : Int) := zc_nlt (nI_toInt b9_3) (nI_toInt b9_4) c_2
      refine lv_aload_n hx hb dX10_done_70 rfl (lv_at hl 0 rfl) ?_
      refine lv_aload_n hx hb dX10_done_71 rfl (lv_at hl 1 rfl) ?_
      refine va_get (D := (dC, dI)) (ci := 1) (v := .ref (la dn f0)) (C := RX2) (T := TX2) (N := 8) hx hb hts inX2 hown hK hP 4 rfl rfl 6 (Nat.le_of_ble_eq_true rfl) (hts _ mw_433) (fun _ h9 => h9) rfl dX10_done_72 ?_
      refine va_get (D := (dC, dI)) (ci := 4) (v := .int (kd f0)) (C := RX5) (T := TX5) (N := 6) hx hb hts inX5 hown hK hP 5 rfl rfl 0 (Nat.le_of_ble_eq_true rfl) (hts _ mw_381) (fun _ h9 => h9) rfl dX10_done_75 ?_
      obtain ⟨hPc, hDc, hFc, hI1⟩ := zi_sub (wc := [_, _, _]) hP hD hS hA [6, 7, 8] rfl rfl
      refine zcall (st1 := [.int (pI ((∀ i, i < edg (nN (mn f0)) (rgK (kd f0).toInt) → eFr (nN (mn f0)) X5 Y5 (rgK (kd f0).toInt) i (i + 1)) ∧ (¬ (kd f0).toInt = 6 ∨ ∀ k, k < (nN (mn f0)) → eRt (nN (mn f0)) X5 Y5 k)))]) (va_runV (As := [.int (kd f0)]) (rest := []) ⟨hx, hb, hml, hown, hts⟩ (k_Row_isSound l dC dI cI cZ cF H.size r5 rx5 ry5 (nN (mn f0)) cap5 X5 Y5 (rgK (kd f0).toInt) (kd f0) (by first | with_reducible assumption | omega) (by first | with_reducible assumption | omega) ((pls_cg hc5.2.2.2.2.1).mpr hpl)) (csV_103 hts rfl rfl ⟨Nat.le_of_ble_eq_true rfl, Nat.le_of_ble_eq_true rfl⟩) (zPV2 (q0 := 0) (ci := 6) hPc hDc hK3 hXN rfl rfl) rfl rfl hl.1 rfl (lv_room (Nat.le_of_ble_eq_true rfl)) dX10_done_78 ⟨Nat.le_of_ble_eq_true rfl, Nat.le_of_ble_eq_true rfl⟩) hS hFc hFc rfl (fun t H locs ht hB hk1 hS => ?_)
      obtain ⟨hP1, hD1⟩ := hB
      rw [ht] at hP1
      replace hP := z0 hP hD hk1 hP1 hI1
      clear hk1 hPc hDc hFc hP1 hD1 ht hI1
      refine lv_if_ne (tgt := 91) hx hb dX10_done_81 rfl (fun c_5 => ?_) (fun c_5 => ?_)
      · have c_5 : (∀ i, i < edg (nN (mn f0)) (rgK (kd f0).toInt) → eFr (nN (mn f0)) X5 Y5 (rgK (kd f0).toInt) i (i + 1)) ∧ (¬ (kd f0).toInt = 6 ∨ ∀ k, k < (nN (mn f0)) → eRt (nN (mn f0)) X5 Y5 k) := zp_1 c_5
        refine lv_aload_n hx hb dX10_done_91 rfl (lv_at hl 1 rfl) ?_
        refine va_get (D := (dC, dI)) (ci := 1) (v := .ref (la dn f0)) (C := RX2) (T := TX2) (N := 8) hx hb hts inX2 hown hK hP 4 rfl rfl 6 (Nat.le_of_ble_eq_true rfl) (hts _ mw_433) (fun _ h9 => h9) rfl dX10_done_92 ?_
        refine lv_iconst (v := 1) hx hb dX10_done_95 rfl ?_
        refine va_put (D := (dC, dI)) (ci := 4) (v := .int 1) (ty := .int) (C := RX5) (T := TX5) (N := 6) hx hb hts inX5 tyX5 tyX5_ok nmX5 hown hK hP hD hS 5 rfl rfl 1 (by decide) (hts _ mw_385) (fun _ h9 => h9) rfl (by decide +kernel) rfl rfl (Nat.le_of_ble_eq_true rfl) dX10_done_96 (fun H locs hP hD hS => ?_)
        obtain ⟨hP, hD⟩ := zre (W2 := ([_, _, _, _, _, (oc4 (la dn f0) (kd f0) 1 (.ref r5) (gb f0) (it f0) (nI we5)), _, _, _, _, _, _] ++ va_pl T_1 f)) hP hD rfl
        obtain ⟨Lp1, fp1, hP, hD, hpin_1⟩ := pl_pn (X := [_, _, _, _]) (old := [_, _, _, _, _, _, _, _]) (new := []) (cs1 := [_, _, _, _, _, _, _, _]) (L := L) (cs := [(oc1 (fe f0) (rk f0) (wd f0) (tw f0) (pa f0) (pb f0) (.ref lo5) (.ref (la dn f0)) .null), (oc4 (la dn f0) (kd f0) (st f0) (.ref r5) (gb f0) (it f0) (nI we5)), (oc6 r5 (.ref rx5) (.ref ry5) (nI (nN (mn f0))) (rgK (kd f0).toInt)), (oa rx5 cI cap5 X5), (oa ry5 cI cap5 Y5), (oc6 lo5 (.ref lx5) (.ref ly5) (nI ln5) 0), (oa lx5 cI (cl f0) LX5), (oa ly5 cI (cl f0) LY5)]) hT_1 hP hD rfl rfl rfl
        obtain ⟨hfr_1, hkp_1, hce_1, hsx_1, hpw_1⟩ := id hpin_1
        obtain ⟨hkq, hlq⟩ := P_look hc5 hpin_1
        have hLq := LsA_kp hkq ⟨by omega, by omega⟩ hG.2.2.2.2.1
        refine lv_aload_n hx hb dX10_done_99 rfl (lv_at hl 2 rfl) ?_
        obtain ⟨hPc, hDc, hFc⟩ := zo_part (cx := [_, _]) hP hD hS hA [0, 1] rfl rfl
        refine zcall (st1 := [.int 1]) (va_runV (As := []) (rest := []) ⟨hx, hb, hml, hown, hts⟩ (k_seal l dC dI cI cZ cF H.size cO e0 mi x sh lw ro bq bp dq dp lv sl sd ul su sl ea T mc9 dn SA Lp1 fp1 own (hLq) (by first | with_reducible assumption | omega) (by first | with_reducible assumption | omega)) (csV_102 hts rfl rfl ⟨Nat.le_of_ble_eq_true rfl, Nat.le_of_ble_eq_true rfl⟩) (zPVL (q0 := 0) (ci := 8) hPc hDc hK hXL hS hFc rfl rfl) rfl rfl hl.1 rfl (lv_room (Nat.le_of_ble_eq_true rfl)) dX10_done_100 ⟨Nat.le_of_ble_eq_true rfl, Nat.le_of_ble_eq_true rfl⟩) hS hFc hFc rfl (fun t H locs ht hB hk1 hS => ?_)
        obtain ⟨mc6, L6, f6, SA6, hL6, hS6, hk6, hP1, hD1⟩ := hB
        rw [ht] at hP1
        obtain ⟨hP, hD⟩ := znP (W2 := [(oc8 x (.ref sh) (.ref lw) (.ref ro) (.ref bq) (.ref bp) (.ref dq) (.ref dp) (.ref lv) (.ref sl) (nI dn) (nI dn) ul 0), (oc10 sl mc6 (.ref ea) (nI dn)), _, _]) hP hD hk1 hFc hP1 hD1 [0, 1] [false, false, true, true] [false, false, true, true] [0, 1] (by decide +kernel) rfl rfl rfl rfl rfl
        clear hk1 hPc hDc hFc hP1 hD1 ht
        have hB6 := S_done hG hf0 h200 htn hc5 hkq hlq hk6 hL6 hS6 (lo_W hO (Nat.le_refl _))
        obtain ⟨hP9, hD9⟩ := zu_part (cx := [_, _, _, _]) hP hD [true, true, true, true] rfl rfl
        rw [hQ9]
        exact W.zret (ty := .boolean) (v := 1) hx hb hr (rfl) (fun t ht hW => ⟨⟨rfl, mc6, L6, f6, (hB6), by rw [ht]; exact hP9, hD9⟩, hS.F ht⟩) hS.2.2 dX10_done_103
      · have c_5 : ¬ ((∀ i, i < edg (nN (mn f0)) (rgK (kd f0).toInt) → eFr (nN (mn f0)) X5 Y5 (rgK (kd f0).toInt) i (i + 1)) ∧ (¬ (kd f0).toInt = 6 ∨ ∀ k, k < (nN (mn f0)) → eRt (nN (mn f0)) X5 Y5 k)) := zp_0 c_5
        exfalso; exact absurd (snd_x rfl hc5.2.2.2.2.1 hsm) (by first | with_reducible assumption | assumption)
  · have c_1 : ¬ (st f0).toInt = 0 := zc_ne rfl rfl c_1
    exfalso; omega
set_option maxHeartbeats 4000000 in
set_option maxRecDepth 100000 in
theorem k_corner_y (l : Launch) (dC : Nat → ClassId) (dI : Nat → Nat → Nat) (cI cZ cF : ClassId) (sz : Nat) (cO : ClassId) (e0 : Nat) (mi : Nat) (x : Nat) (sh : Nat) (lw : Nat) (ro : Nat) (bq : Nat) (bp : Nat) (dq : Nat) (dp : Nat) (lv : Nat) (sl : Nat) (sd : Int32) (ul : Int32) (su : Int32) (ea : Nat) (mc9 : Int32) (fa : Nat) (FA : Nat → Option Nat) (bs : Nat) (dn : Nat) (T : Nat) (ft : Nat) (FT : Nat → Nat) (V : Nat → Nat → Nat → Int32) (VX : Nat → Nat → Int32) (VY : Nat → Nat → Int32) (tn : Nat → Int32) (rk : Nat → Int32) (wd : Nat → Int32) (tw : Nat → Int32) (pa : Nat → Int32) (pb : Nat → Int32) (wh : Nat → Int32) (of9 : Nat → Int32) (we : Nat → Int32) (kd : Nat → Int32) (st : Nat → Int32) (gb : Nat → Int32) (it : Nat → Int32) (mn : Nat → Int32) (cx : Nat → Int32) (cy : Nat → Int32) (L : List Nat) (f : Nat → va_E) (f0 : Nat) (px : Int32) (py : Int32) (hB : shB cI cO L f e0 FA ea bs dn T ft FT V VX VY tn rk wd tw pa pb wh of9 we kd st gb it mn cx cy) (hd5 : dn + 1 ≤ 512) (hf0 : f0 < ft) (htn : (tn f0).toInt = 0) (hst : (st f0).toInt = 0) (hpx : pl px) (hpy : pl py) (hnm : nN (mn f0) < (if (kd f0).toInt = 0 then 1 else 40)) (h40 : ∀ p, p < ft → ¬ (st p).toInt = 0 → (tn p).toInt = 0 → nN (mn p) ≤ 40) : zML l yX10_corner cX10_corner 6 (some .int) ({ frames := 2, cells := 0, slots := 0, locals := 43 } : Room) [.ref x, .int (nI f0), .int px, .int py] (dC, dI) (zTyO cI cZ cF cO) e0 mi ([(oc8 x (.ref sh) (.ref lw) (.ref ro) (.ref bq) (.ref bp) (.ref dq) (.ref dp) (.ref lv) (.ref sl) (nI dn) sd ul su), (oc10 sl mc9 (.ref ea) (nI T)), (oc7 sh (.ref fa) (nI ft)), (oq fa cF 200 FA)] ++ va_pl L f) sz (some (.int (nI (nN (mn f0) + 1)))) (fun A t => ∃ (L1 : List Nat), ∃ (f1 : Nat → va_E), (shB cI cO L1 f1 e0 FA ea bs dn T ft FT V VX VY tn rk wd tw pa pb wh of9 we kd st gb it (upd mn f0 (nI (nN (mn f0) + 1))) (upd cx (40 * f0 + nN (mn f0)) px) (upd cy (40 * f0 + nN (mn f0)) py)) ∧ zPD (dC, dI) classes A ([(oc8 x (.ref sh) (.ref lw) (.ref ro) (.ref bq) (.ref bp) (.ref dq) (.ref dp) (.ref lv) (.ref sl) (nI dn) sd ul 0), (oc10 sl mc9 (.ref ea) (nI T)), (oc7 sh (.ref fa) (nI ft)), (oq fa cF 200 FA)] ++ va_pl L1 f1) t.heap) 0 0 := by
  refine zInL (own := "ScaleShop") (loc := [(0, .ref x), (1, .int (nI f0)), (2, .int px), (3, .int py)]) rfl rfl rfl rfl (fun p e s m below meth c hx hb hr hts hown hlocks hml hnm9 A hA hS hP hD hK hXL hXN hK3 Q9 hQ9 ls hl => ?_)
  obtain ⟨own, fe, cl, la, sp, SA, hG9, hH9, hft9, hO9⟩ := hB
  obtain ⟨hG, hM, hdT, hT5, hO⟩ := M_0 hG9 hH9 hft9 hO9
  have h200 : ft ≤ 200 := hG.2.2.2.2.2.1.2.2.2.2.2
  have hFA9 := hG.2.2.2.2.2.2
  refine ex13 (sh_fc hG.1 hG.2.1 (Nat.le_refl _) hf0 htn) (fun lo5 lx5 ly5 ln5 LX5 LY5 we5 r5 rx5 ry5 cap5 X5 Y5 hc5 => ?_)
  have hc5 := fc_0 hc5
  have hb5 := hc5.2.2.1
  have hb6 := hc5.2.1
  have hat9 := lo_at hO (Nat.le_refl _) hf0 hc5.1.1 hc5.1.2.2.2 (by omega) hc5.1.2.1 hb5.2.2
  have hmc9 : (if (kd f0).toInt = 0 then 1 else 40) ≤ 40 := (by split <;> omega)
  have hcp9 : nN (mn f0) < cap5 := (by rw [(hc5.2.2.2.1 hst).1]; exact hnm)
  have hc9_1 : inPl L f [(oc1 (fe f0) (rk f0) (wd f0) (tw f0) (pa f0) (pb f0) (.ref lo5) (.ref (la dn f0)) .null), (oc4 (la dn f0) (kd f0) (st f0) (.ref r5) (gb f0) (it f0) (nI we5)), (oc6 r5 (.ref rx5) (.ref ry5) (nI (nN (mn f0))) (rgK (kd f0).toInt)), (oa rx5 cI cap5 X5), (oa ry5 cI cap5 Y5), (oc6 lo5 (.ref lx5) (.ref ly5) (nI ln5) 0), (oa lx5 cI (cl f0) LX5), (oa ly5 cI (cl f0) LY5)] := ⟨ce_pl hc5.1.1, ce_pl hc5.1.2.1, ce_pl hc5.1.2.2.1.1, ce_pl hc5.1.2.2.1.2.1, ce_pl hc5.1.2.2.1.2.2.1, ce_pl hc5.1.2.2.2.1, ce_pl hc5.1.2.2.2.2.1, ce_pl hc5.1.2.2.2.2.2.1, trivial⟩
  have hD0_1 := hD
  obtain ⟨T_1, hT_1, hP, hD⟩ := pl_oT hP hD hc9_1 (pw8 hc5 (by omega))
  obtain ⟨hP, hD⟩ := zre (W2 := ([_, _, _, _, _, _, _, _, _, _, _, _] ++ va_pl T_1 f)) hP hD rfl
  refine lv_aload_n hx hb dX10_corner_0 rfl (lv_at hl 0 rfl) ?_
  refine va_get (D := (dC, dI)) (ci := 8) (v := .ref sh) (C := RX10) (T := TX10) (N := 13) hx hb hts inX10 hown hK hP 0 rfl rfl 0 (Nat.le_of_ble_eq_true rfl) (hts _ mw_309) (fun _ h9 => h9) rfl dX10_corner_1 ?_
  refine lv_iload_n hx hb dX10_corner_4 rfl (lv_at hl 1 rfl) ?_
  obtain ⟨hPc, hDc, hFc, hI1⟩ := zi_sub (wc := [_, _]) hP hD hS hA [2, 3] rfl rfl
  refine zcall (st1 := [.ref (fe f0)]) (va_runV (As := [.int (nI f0)]) (rest := []) ⟨hx, hb, hml, hown, hts⟩ (k_Sheet_find l dC dI cI cZ cF s.heap.size sh fa ft FA f0 (fe f0) (by first | with_reducible assumption | omega) (by first | with_reducible assumption | omega) (hFA9 f0 (by first | with_reducible assumption | omega))) (csV_94 hts rfl rfl ⟨Nat.le_of_ble_eq_true rfl, Nat.le_of_ble_eq_true rfl⟩) (zPV2 (q0 := 0) (ci := 7) hPc hDc hK3 hXN rfl rfl) rfl rfl hl.1 rfl (lv_room (Nat.le_of_ble_eq_true rfl)) dX10_corner_5 ⟨Nat.le_of_ble_eq_true rfl, Nat.le_of_ble_eq_true rfl⟩) hS hFc hFc rfl (fun t H locs ht hB hk1 hS => ?_)
  obtain ⟨hP1, hD1⟩ := hB
  rw [ht] at hP1
  replace hP := z0 hP hD hk1 hP1 hI1
  clear hk1 hPc hDc hFc hP1 hD1 ht hI1
  refine lv_astore (lv' := [(4, .ref (fe f0)), (0, .ref x), (1, .int (nI f0)), (2, .int px), (3, .int py)]) hx hb dX10_corner_8 hl (Nat.le_of_ble_eq_true rfl) rfl (fun ls hl => ?_)
  refine lv_aload hx hb dX10_corner_10 (lv_at hl 0 rfl) ?_
  refine lv_ifnonnull (tgt := 21) hx hb dX10_corner_12 rfl ?_
  refine lv_aload hx hb dX10_corner_21 (lv_at hl 0 rfl) ?_
  refine va_get (D := (dC, dI)) (ci := 1) (v := .ref (la dn f0)) (C := RX2) (T := TX2) (N := 8) hx hb hts inX2 hown hK hP 4 rfl rfl 6 (Nat.le_of_ble_eq_true rfl) (hts _ mw_433) (fun _ h9 => h9) rfl dX10_corner_23 ?_
  refine va_get (D := (dC, dI)) (ci := 4) (v := .int (st f0)) (C := RX5) (T := TX5) (N := 6) hx hb hts inX5 hown hK hP 5 rfl rfl 1 (Nat.le_of_ble_eq_true rfl) (hts _ mw_385) (fun _ h9 => h9) rfl dX10_corner_26 ?_
  refine lv_if_eq (tgt := 38) hx hb dX10_corner_29 rfl (fun c_1 => ?_) (fun c_1 => ?_)
  · have c_1 : (st f0).toInt = 0 := zc_eq rfl rfl c_1
    refine lv_iload_n hx hb dX10_corner_38 rfl (lv_at hl 3 rfl) ?_
    refine lv_iload_n hx hb dX10_corner_39 rfl (lv_at hl 4 rfl) ?_
    obtain ⟨hPc, hDc, hFc, hI1⟩ := zi_sub (wc := []) hP hD hS hA [] rfl rfl
    refine zcall (st1 := [.int (pI (pl px ∧ pl py))]) (va_runS (As := [.int px, .int py]) (rest := []) ⟨hx, hb, hml, hown, hts⟩ (k_isPlace l dC dI cI cZ cF H.size px py ) (csS_98 hts rfl rfl ⟨Nat.le_of_ble_eq_true rfl, Nat.le_of_ble_eq_true rfl⟩) (zPS2 hPc hDc hK3 hXN) rfl rfl hl.1 rfl (lv_room (Nat.le_of_ble_eq_true rfl)) dX10_corner_40 ⟨Nat.le_of_ble_eq_true rfl, Nat.le_of_ble_eq_true rfl⟩) hS hFc hFc rfl (fun t H locs ht hB hk1 hS => ?_)
    obtain ⟨hP1, hD1⟩ := hB
    rw [ht] at hP1
    replace hP := z0 hP hD hk1 hP1 hI1
    clear hk1 hPc hDc hFc hP1 hD1 ht hI1
    refine lv_if_ne (tgt := 52) hx hb dX10_corner_43 rfl (fun c_2 => ?_) (fun c_2 => ?_)
    · have c_2 : pl px ∧ pl py := zp_1 c_2
      refine lv_aload hx hb dX10_corner_52 (lv_at hl 0 rfl) ?_
      refine va_get (D := (dC, dI)) (ci := 1) (v := .ref (la dn f0)) (C := RX2) (T := TX2) (N := 8) hx hb hts inX2 hown hK hP 4 rfl rfl 6 (Nat.le_of_ble_eq_true rfl) (hts _ mw_433) (fun _ h9 => h9) rfl dX10_corner_54 ?_
      refine va_get (D := (dC, dI)) (ci := 4) (v := .ref r5) (C := RX5) (T := TX5) (N := 6) hx hb hts inX5 hown hK hP 5 rfl rfl 2 (Nat.le_of_ble_eq_true rfl) (hts _ mw_391) (fun _ h9 => h9) rfl dX10_corner_57 ?_
      refine lv_astore (lv' := [(5, .ref r5), (4, .ref (fe f0)), (0, .ref x), (1, .int (nI f0)), (2, .int px), (3, .int py)]) hx hb dX10_corner_60 hl (Nat.le_of_ble_eq_true rfl) rfl (fun ls hl => ?_)
      refine lv_aload hx hb dX10_corner_62 (lv_at hl 0 rfl) ?_
      refine lv_ifnonnull (tgt := 73) hx hb dX10_corner_64 rfl ?_
      refine lv_aload hx hb dX10_corner_73 (lv_at hl 0 rfl) ?_
      refine va_get (D := (dC, dI)) (ci := 6) (v := .int (nI (nN (mn f0)))) (C := RX7) (T := TX7) (N := 4) hx hb hts inX7 hown hK hP 6 rfl rfl 2 (Nat.le_of_ble_eq_true rfl) (hts _ mw_179) (fun _ h9 => h9) rfl dX10_corner_75 ?_
      refine lv_aload hx hb dX10_corner_78 (lv_at hl 1 rfl) ?_
      refine va_get (D := (dC, dI)) (ci := 1) (v := .ref (la dn f0)) (C := RX2) (T := TX2) (N := 8) hx hb hts inX2 hown hK hP 4 rfl rfl 6 (Nat.le_of_ble_eq_true rfl) (hts _ mw_433) (fun _ h9 => h9) rfl dX10_corner_80 ?_
      refine va_get (D := (dC, dI)) (ci := 4) (v := .int (kd f0)) (C := RX5) (T := TX5) (N := 6) hx hb hts inX5 hown hK hP 5 rfl rfl 0 (Nat.le_of_ble_eq_true rfl) (hts _ mw_381) (fun _ h9 => h9) rfl dX10_corner_83 ?_
      obtain ⟨hPc, hDc, hFc, hI1⟩ := zi_sub (wc := []) hP hD hS hA [] rfl rfl
      refine zcall (st1 := [.int (nI (if (kd f0).toInt = 0 then 1 else 40)), .int (nI (nN (mn f0)))]) (va_runS (As := [.int (kd f0)]) (rest := [.int (nI (nN (mn f0)))]) ⟨hx, hb, hml, hown, hts⟩ (k_mostCorners l dC dI cI cZ cF H.size (kd f0) ) (csS_99 hts rfl rfl ⟨Nat.le_of_ble_eq_true rfl, Nat.le_of_ble_eq_true rfl⟩) (zPS2 hPc hDc hK3 hXN) rfl rfl hl.1 rfl (lv_room (Nat.le_of_ble_eq_true rfl)) dX10_corner_86 ⟨Nat.le_of_ble_eq_true rfl, Nat.le_of_ble_eq_true rfl⟩) hS hFc hFc rfl (fun t H locs ht hB hk1 hS => ?_)
      obtain ⟨hP1, hD1⟩ := hB
      rw [ht] at hP1
      replace hP := z0 hP hD hk1 hP1 hI1
      clear hk1 hPc hDc hFc hP1 hD1 ht hI1
      have b9_4 : zlt ((nN (mn f0))) := show (nN (mn f0)) < 2147483648 by omega
      have b9_5 : zlt ((if (kd f0).toInt = 0 then 1 else 40)) := show (if (kd f0).toInt = 0 then 1 else 40) < 2147483648 by omega
      refine lv_icmp_lt (tgt := 99) hx hb dX10_corner_89 rfl (fun c_3 => ?_) (fun c_3 => ?_)
      · have c_3 : ((nN (mn f0) : Nat) : Int) < ((if (kd f0).toInt = 0 then 1 else 40 : Nat) : Int) := zc_lt (nI_toInt b9_4) (nI_toInt b9_5) c_3
        refine lv_aload hx hb dX10_corner_99 (lv_at hl 0 rfl) ?_
        refine lv_iload_n hx hb dX10_corner_101 rfl (lv_at hl 4 rfl) ?_
        refine lv_iload_n hx hb dX10_corner_102 rfl (lv_at hl 5 rfl) ?_
        obtain ⟨hPc, hDc, hFc⟩ := zo_sub (wc := [_, _, _]) hP hD hS hA [6, 7, 8] rfl rfl
        refine zcall (st1 := []) (va_runV (As := [.int px, .int py]) (rest := []) ⟨hx, hb, hml, hown, hts⟩ (k_Row_put l dC dI cI cZ cF H.size r5 rx5 ry5 (nN (mn f0)) cap5 X5 Y5 (rgK (kd f0).toInt) px py (by first | with_reducible assumption | omega) (by first | with_reducible assumption | omega)) (csV_104 hts rfl rfl ⟨Nat.le_of_ble_eq_true rfl, Nat.le_of_ble_eq_true rfl⟩) (zPV2 (q0 := 0) (ci := 6) hPc hDc hK3 hXN rfl rfl) rfl rfl hl.1 rfl (lv_room (Nat.le_of_ble_eq_true rfl)) dX10_corner_103 ⟨Nat.le_of_ble_eq_true rfl, Nat.le_of_ble_eq_true rfl⟩) hS hFc hFc rfl (fun t H locs ht hB hk1 hS => ?_)
        obtain ⟨hP1, hD1⟩ := hB
        rw [ht] at hP1
        obtain ⟨hP, hD⟩ := znQ (W2 := [_, _, _, _, _, _, (oc6 r5 (.ref rx5) (.ref ry5) (nI ((nN (mn f0)) + 1)) (rgK (kd f0).toInt)), (oa rx5 cI cap5 (upd X5 (nN (mn f0)) px)), (oa ry5 cI cap5 (upd Y5 (nN (mn f0)) py)), _, _, _]) hP hD hk1 hFc hP1 hD1 [6, 7, 8] zl_57 zl_57 [6, 7, 8] (by decide +kernel) rfl rfl rfl rfl rfl
        clear hk1 hPc hDc hFc hP1 hD1 ht
        refine lv_aload_n hx hb dX10_corner_106 rfl (lv_at hl 2 rfl) ?_
        refine lv_iconst (v := 0) hx hb dX10_corner_107 rfl ?_
        refine va_put (D := (dC, dI)) (ci := 8) (v := .int 0) (ty := .int) (C := RX10) (T := TX10) (N := 13) hx hb hts inX10 tyX10 tyX10_ok nmX10 hown hK hP hD hS 0 rfl rfl 12 (by decide) (hts _ mw_321) (fun _ h9 => h9) rfl (by decide +kernel) rfl rfl (Nat.le_of_ble_eq_true rfl) dX10_corner_108 (fun H locs hP hD hS => ?_)
        obtain ⟨hP, hD⟩ := zre (W2 := ([(oc8 x (.ref sh) (.ref lw) (.ref ro) (.ref bq) (.ref bp) (.ref dq) (.ref dp) (.ref lv) (.ref sl) (nI dn) sd ul 0), _, _, _, _, _, _, _, _, _, _, _] ++ va_pl T_1 f)) hP hD rfl
        refine lv_aload hx hb dX10_corner_111 (lv_at hl 0 rfl) ?_
        refine va_get (D := (dC, dI)) (ci := 6) (v := .int (nI ((nN (mn f0)) + 1))) (C := RX7) (T := TX7) (N := 4) hx hb hts inX7 hown hK hP 6 rfl rfl 2 (Nat.le_of_ble_eq_true rfl) (hts _ mw_179) (fun _ h9 => h9) rfl dX10_corner_113 ?_
        obtain ⟨Lp1, fp1, hP, hD, hpin_1⟩ := pl_pn (X := [_, _, _, _]) (old := [_, _, _, _, _, _, _, _]) (new := []) (cs1 := [_, _, _, _, _, _, _, _]) (L := L) (cs := [(oc1 (fe f0) (rk f0) (wd f0) (tw f0) (pa f0) (pb f0) (.ref lo5) (.ref (la dn f0)) .null), (oc4 (la dn f0) (kd f0) (st f0) (.ref r5) (gb f0) (it f0) (nI we5)), (oc6 r5 (.ref rx5) (.ref ry5) (nI (nN (mn f0))) (rgK (kd f0).toInt)), (oa rx5 cI cap5 X5), (oa ry5 cI cap5 Y5), (oc6 lo5 (.ref lx5) (.ref ly5) (nI ln5) 0), (oa lx5 cI (cl f0) LX5), (oa ly5 cI (cl f0) LY5)]) hT_1 hP hD rfl rfl rfl
        obtain ⟨hfr_1, hkp_1, hce_1, hsx_1, hpw_1⟩ := id hpin_1
        have hB6 := S_cor hG9 hH9 hft9 hf0 hst htn hcp9 hc5 hpin_1 h40 hO9
        obtain ⟨hP9, hD9⟩ := zu_part (cx := [_, _, _, _]) hP hD [true, true, true, true] rfl rfl
        rw [hQ9]
        exact W.iret (v := nI ((nN (mn f0)) + 1)) hx hb hr (fun t ht hW => ⟨⟨rfl, Lp1, fp1, (hB6), by rw [ht]; exact hP9, hD9⟩, hS.F ht⟩) hS.2.2 dX10_corner_116
      · have c_3 : ((if (kd f0).toInt = 0 then 1 else 40 : Nat) : Int) ≤ ((nN (mn f0) : Nat) : Int) := zc_nlt (nI_toInt b9_4) (nI_toInt b9_5) c_3
        exfalso; omega
    · have c_2 : ¬ (pl px ∧ pl py) := zp_0 c_2
      exfalso; exact absurd (show pl px ∧ pl py from ⟨hpx, hpy⟩) (by first | with_reducible assumption | assumption)
  · have c_1 : ¬ (st f0).toInt = 0 := zc_ne rfl rfl c_1
    exfalso; omega
set_option maxHeartbeats 4000000 in
set_option maxRecDepth 100000 in
theorem k_feature_4 (l : Launch) (dC : Nat → ClassId) (dI : Nat → Nat → Nat) (cI cZ cF : ClassId) (sz : Nat) (x : Nat) (sh : Nat) (lw : Nat) (ro : Nat) (bq : Nat) (bp : Nat) (dq : Nat) (dp : Nat) (lv : Nat) (sl : Nat) (sd : Int32) (ul : Int32) (su : Int32) (ds : Int32) (fa : Nat) (ft : Nat) (FA : Nat → Option Nat) (k1 : Int32) (k2 : Int32) (k3 : Int32) (k4 : Int32) (h200 : ft ≤ 200) (hbad : ¬ ((0 ≤ k1.toInt ∧ k1.toInt ≤ 6) ∧ (0 ≤ k2.toInt ∧ k2.toInt ≤ 9) ∧ (0 ≤ k3.toInt ∧ k3.toInt ≤ 100) ∧ (0 ≤ k4.toInt ∧ k4.toInt ≤ 9))) : zM l yX10_feature cX10_feature 6 (some .int) ({ frames := 1, cells := 0, slots := 0, locals := 22 } : Room) [.ref x, .int k1, .int k2, .int k3, .int k4] (dC, dI) (zTy cI cZ cF) [(oc8 x (.ref sh) (.ref lw) (.ref ro) (.ref bq) (.ref bp) (.ref dq) (.ref dp) (.ref lv) (.ref sl) ds sd ul su), (oc7 sh (.ref fa) (nI ft)), (oq fa cF 200 FA)] sz (some (.int (-1))) (fun A t => zPD (dC, dI) classes A [(oc8 x (.ref sh) (.ref lw) (.ref ro) (.ref bq) (.ref bp) (.ref dq) (.ref dp) (.ref lv) (.ref sl) ds sd ul 4), (oc7 sh (.ref fa) (nI ft)), (oq fa cF 200 FA)] t.heap) 0 0 := by
  refine zIn (own := "ScaleShop") (loc := [(0, .ref x), (1, .int k1), (2, .int k2), (3, .int k3), (4, .int k4)]) rfl rfl rfl rfl (fun p e s m below meth c hx hb hr hts hown hlocks hml hnm9 A hA hS hP hD hK hXN Q9 hQ9 ls hl => ?_)
  have e_0 : (0 : Int32).toInt = 0 := (by decide)
  have e_6 : (6 : Int32).toInt = 6 := (by decide)
  have e_9 : (9 : Int32).toInt = 9 := (by decide)
  have e_100 : (100 : Int32).toInt = 100 := (by decide)
  refine lv_iload_n hx hb dX10_feature_0 rfl (lv_at hl 1 rfl) ?_
  refine lv_iconst (v := 0) hx hb dX10_feature_1 rfl ?_
  refine lv_bipush (v := 6) hx hb dX10_feature_2 rfl ?_
  obtain ⟨hPc, hDc, hFc, hI1⟩ := zi_sub (wc := []) hP hD hS hA [] rfl rfl
  refine zcall (st1 := [.int (pI ((0 : Int32).toInt ≤ k1.toInt ∧ k1.toInt ≤ (6 : Int32).toInt))]) (va_runS (As := [.int k1, .int 0, .int 6]) (rest := []) ⟨hx, hb, hml, hown, hts⟩ (k_isWithin l dC dI cI cZ cF s.heap.size k1 0 6 ) (csS_14 hts rfl rfl ⟨Nat.le_of_ble_eq_true rfl, Nat.le_of_ble_eq_true rfl⟩) (zPS2 hPc hDc hK hXN) rfl rfl hl.1 rfl (lv_room (Nat.le_of_ble_eq_true rfl)) dX10_feature_4 ⟨Nat.le_of_ble_eq_true rfl, Nat.le_of_ble_eq_true rfl⟩) hS hFc hFc rfl (fun t H locs ht hB hk1 hS => ?_)
  obtain ⟨hP1, hD1⟩ := hB
  rw [ht] at hP1
  replace hP := z0 hP hD hk1 hP1 hI1
  clear hk1 hPc hDc hFc hP1 hD1 ht hI1
  refine lv_if_eq (tgt := 20) hx hb dX10_feature_7 rfl (fun c_1 => ?_) (fun c_1 => ?_)
  · have c_1 : ¬ ((0 : Int32).toInt ≤ k1.toInt ∧ k1.toInt ≤ (6 : Int32).toInt) := zp_0 c_1
    refine lv_aload_n hx hb dX10_feature_20 rfl (lv_at hl 0 rfl) ?_
    refine lv_iconst (v := 4) hx hb dX10_feature_21 rfl ?_
    obtain ⟨hPc, hDc, hFc⟩ := zo_sub (wc := [_]) hP hD hS hA [0] rfl rfl
    refine zcall (st1 := [.int (-1)]) (va_runV (As := [.int 4]) (rest := []) ⟨hx, hb, hml, hown, hts⟩ (k_refuse_4 l dC dI cI cZ cF H.size x sh lw ro bq bp dq dp lv sl sd ul su ds ) (csV_95 hts rfl rfl ⟨Nat.le_of_ble_eq_true rfl, Nat.le_of_ble_eq_true rfl⟩) (zPV2 (q0 := 0) (ci := 8) hPc hDc hK hXN rfl rfl) rfl rfl hl.1 rfl (lv_room (Nat.le_of_ble_eq_true rfl)) dX10_feature_22 ⟨Nat.le_of_ble_eq_true rfl, Nat.le_of_ble_eq_true rfl⟩) hS hFc hFc rfl (fun t H locs ht hB hk1 hS => ?_)
    obtain ⟨hP1, hD1⟩ := hB
    rw [ht] at hP1
    obtain ⟨hP, hD⟩ := zn (W2 := [(oc8 x (.ref sh) (.ref lw) (.ref ro) (.ref bq) (.ref bp) (.ref dq) (.ref dp) (.ref lv) (.ref sl) ds sd ul 4), _, _]) hP hD hk1 hFc hP1 hD1 [0] [false, true, true] [false, true, true] [0] (by decide +kernel) rfl rfl rfl rfl rfl
    clear hk1 hPc hDc hFc hP1 hD1 ht
    obtain ⟨hP9, hD9⟩ := zu_sub (wc := [_, _, _]) hP hD [true, true, true] rfl rfl
    rw [hQ9]
    exact W.iret (v := (-1)) hx hb hr (fun t ht hW => ⟨⟨rfl, by rw [ht]; exact hP9, hD9⟩, hS.F ht⟩) hS.2.2 dX10_feature_25
  · have c_1 : (0 : Int32).toInt ≤ k1.toInt ∧ k1.toInt ≤ (6 : Int32).toInt := zp_1 c_1
    refine lv_iload_n hx hb dX10_feature_10 rfl (lv_at hl 2 rfl) ?_
    refine lv_iconst (v := 0) hx hb dX10_feature_11 rfl ?_
    refine lv_bipush (v := 9) hx hb dX10_feature_12 rfl ?_
    obtain ⟨hPc, hDc, hFc, hI1⟩ := zi_sub (wc := []) hP hD hS hA [] rfl rfl
    refine zcall (st1 := [.int (pI ((0 : Int32).toInt ≤ k2.toInt ∧ k2.toInt ≤ (9 : Int32).toInt))]) (va_runS (As := [.int k2, .int 0, .int 9]) (rest := []) ⟨hx, hb, hml, hown, hts⟩ (k_isWithin l dC dI cI cZ cF H.size k2 0 9 ) (csS_14 hts rfl rfl ⟨Nat.le_of_ble_eq_true rfl, Nat.le_of_ble_eq_true rfl⟩) (zPS2 hPc hDc hK hXN) rfl rfl hl.1 rfl (lv_room (Nat.le_of_ble_eq_true rfl)) dX10_feature_14 ⟨Nat.le_of_ble_eq_true rfl, Nat.le_of_ble_eq_true rfl⟩) hS hFc hFc rfl (fun t H locs ht hB hk1 hS => ?_)
    obtain ⟨hP1, hD1⟩ := hB
    rw [ht] at hP1
    replace hP := z0 hP hD hk1 hP1 hI1
    clear hk1 hPc hDc hFc hP1 hD1 ht hI1
    refine lv_if_ne (tgt := 26) hx hb dX10_feature_17 rfl (fun c_2 => ?_) (fun c_2 => ?_)
    · have c_2 : (0 : Int32).toInt ≤ k2.toInt ∧ k2.toInt ≤ (9 : Int32).toInt := zp_1 c_2
      refine lv_iload_n hx hb dX10_feature_26 rfl (lv_at hl 3 rfl) ?_
      refine lv_iconst (v := 0) hx hb dX10_feature_27 rfl ?_
      refine lv_bipush (v := 100) hx hb dX10_feature_28 rfl ?_
      obtain ⟨hPc, hDc, hFc, hI1⟩ := zi_sub (wc := []) hP hD hS hA [] rfl rfl
      refine zcall (st1 := [.int (pI ((0 : Int32).toInt ≤ k3.toInt ∧ k3.toInt ≤ (100 : Int32).toInt))]) (va_runS (As := [.int k3, .int 0, .int 100]) (rest := []) ⟨hx, hb, hml, hown, hts⟩ (k_isWithin l dC dI cI cZ cF H.size k3 0 100 ) (csS_14 hts rfl rfl ⟨Nat.le_of_ble_eq_true rfl, Nat.le_of_ble_eq_true rfl⟩) (zPS2 hPc hDc hK hXN) rfl rfl hl.1 rfl (lv_room (Nat.le_of_ble_eq_true rfl)) dX10_feature_30 ⟨Nat.le_of_ble_eq_true rfl, Nat.le_of_ble_eq_true rfl⟩) hS hFc hFc rfl (fun t H locs ht hB hk1 hS => ?_)
      obtain ⟨hP1, hD1⟩ := hB
      rw [ht] at hP1
      replace hP := z0 hP hD hk1 hP1 hI1
      clear hk1 hPc hDc hFc hP1 hD1 ht hI1
      refine lv_if_eq (tgt := 47) hx hb dX10_feature_33 rfl (fun c_3 => ?_) (fun c_3 => ?_)
      · have c_3 : ¬ ((0 : Int32).toInt ≤ k3.toInt ∧ k3.toInt ≤ (100 : Int32).toInt) := zp_0 c_3
        refine lv_aload_n hx hb dX10_feature_47 rfl (lv_at hl 0 rfl) ?_
        refine lv_iconst (v := 4) hx hb dX10_feature_48 rfl ?_
        obtain ⟨hPc, hDc, hFc⟩ := zo_sub (wc := [_]) hP hD hS hA [0] rfl rfl
        refine zcall (st1 := [.int (-1)]) (va_runV (As := [.int 4]) (rest := []) ⟨hx, hb, hml, hown, hts⟩ (k_refuse_4 l dC dI cI cZ cF H.size x sh lw ro bq bp dq dp lv sl sd ul su ds ) (csV_95 hts rfl rfl ⟨Nat.le_of_ble_eq_true rfl, Nat.le_of_ble_eq_true rfl⟩) (zPV2 (q0 := 0) (ci := 8) hPc hDc hK hXN rfl rfl) rfl rfl hl.1 rfl (lv_room (Nat.le_of_ble_eq_true rfl)) dX10_feature_49 ⟨Nat.le_of_ble_eq_true rfl, Nat.le_of_ble_eq_true rfl⟩) hS hFc hFc rfl (fun t H locs ht hB hk1 hS => ?_)
        obtain ⟨hP1, hD1⟩ := hB
        rw [ht] at hP1
        obtain ⟨hP, hD⟩ := zn (W2 := [(oc8 x (.ref sh) (.ref lw) (.ref ro) (.ref bq) (.ref bp) (.ref dq) (.ref dp) (.ref lv) (.ref sl) ds sd ul 4), _, _]) hP hD hk1 hFc hP1 hD1 [0] [false, true, true] [false, true, true] [0] (by decide +kernel) rfl rfl rfl rfl rfl
        clear hk1 hPc hDc hFc hP1 hD1 ht
        obtain ⟨hP9, hD9⟩ := zu_sub (wc := [_, _, _]) hP hD [true, true, true] rfl rfl
        rw [hQ9]
        exact W.iret (v := (-1)) hx hb hr (fun t ht hW => ⟨⟨rfl, by rw [ht]; exact hP9, hD9⟩, hS.F ht⟩) hS.2.2 dX10_feature_52
      · have c_3 : (0 : Int32).toInt ≤ k3.toInt ∧ k3.toInt ≤ (100 : Int32).toInt := zp_1 c_3
        refine lv_iload hx hb dX10_feature_36 (lv_at hl 4 rfl) ?_
        refine lv_iconst (v := 0) hx hb dX10_feature_38 rfl ?_
        refine lv_bipush (v := 9) hx hb dX10_feature_39 rfl ?_
        obtain ⟨hPc, hDc, hFc, hI1⟩ := zi_sub (wc := []) hP hD hS hA [] rfl rfl
        refine zcall (st1 := [.int (pI ((0 : Int32).toInt ≤ k4.toInt ∧ k4.toInt ≤ (9 : Int32).toInt))]) (va_runS (As := [.int k4, .int 0, .int 9]) (rest := []) ⟨hx, hb, hml, hown, hts⟩ (k_isWithin l dC dI cI cZ cF H.size k4 0 9 ) (csS_14 hts rfl rfl ⟨Nat.le_of_ble_eq_true rfl, Nat.le_of_ble_eq_true rfl⟩) (zPS2 hPc hDc hK hXN) rfl rfl hl.1 rfl (lv_room (Nat.le_of_ble_eq_true rfl)) dX10_feature_41 ⟨Nat.le_of_ble_eq_true rfl, Nat.le_of_ble_eq_true rfl⟩) hS hFc hFc rfl (fun t H locs ht hB hk1 hS => ?_)
        obtain ⟨hP1, hD1⟩ := hB
        rw [ht] at hP1
        replace hP := z0 hP hD hk1 hP1 hI1
        clear hk1 hPc hDc hFc hP1 hD1 ht hI1
        refine lv_if_ne (tgt := 53) hx hb dX10_feature_44 rfl (fun c_4 => ?_) (fun c_4 => ?_)
        · have c_4 : (0 : Int32).toInt ≤ k4.toInt ∧ k4.toInt ≤ (9 : Int32).toInt := zp_1 c_4
          exfalso; omega
        · have c_4 : ¬ ((0 : Int32).toInt ≤ k4.toInt ∧ k4.toInt ≤ (9 : Int32).toInt) := zp_0 c_4
          refine lv_aload_n hx hb dX10_feature_47 rfl (lv_at hl 0 rfl) ?_
          refine lv_iconst (v := 4) hx hb dX10_feature_48 rfl ?_
          obtain ⟨hPc, hDc, hFc⟩ := zo_sub (wc := [_]) hP hD hS hA [0] rfl rfl
          refine zcall (st1 := [.int (-1)]) (va_runV (As := [.int 4]) (rest := []) ⟨hx, hb, hml, hown, hts⟩ (k_refuse_4 l dC dI cI cZ cF H.size x sh lw ro bq bp dq dp lv sl sd ul su ds ) (csV_95 hts rfl rfl ⟨Nat.le_of_ble_eq_true rfl, Nat.le_of_ble_eq_true rfl⟩) (zPV2 (q0 := 0) (ci := 8) hPc hDc hK hXN rfl rfl) rfl rfl hl.1 rfl (lv_room (Nat.le_of_ble_eq_true rfl)) dX10_feature_49 ⟨Nat.le_of_ble_eq_true rfl, Nat.le_of_ble_eq_true rfl⟩) hS hFc hFc rfl (fun t H locs ht hB hk1 hS => ?_)
          obtain ⟨hP1, hD1⟩ := hB
          rw [ht] at hP1
          obtain ⟨hP, hD⟩ := zn (W2 := [(oc8 x (.ref sh) (.ref lw) (.ref ro) (.ref bq) (.ref bp) (.ref dq) (.ref dp) (.ref lv) (.ref sl) ds sd ul 4), _, _]) hP hD hk1 hFc hP1 hD1 [0] [false, true, true] [false, true, true] [0] (by decide +kernel) rfl rfl rfl rfl rfl
          clear hk1 hPc hDc hFc hP1 hD1 ht
          obtain ⟨hP9, hD9⟩ := zu_sub (wc := [_, _, _]) hP hD [true, true, true] rfl rfl
          rw [hQ9]
          exact W.iret (v := (-1)) hx hb hr (fun t ht hW => ⟨⟨rfl, by rw [ht]; exact hP9, hD9⟩, hS.F ht⟩) hS.2.2 dX10_feature_52
    · have c_2 : ¬ ((0 : Int32).toInt ≤ k2.toInt ∧ k2.toInt ≤ (9 : Int32).toInt) := zp_0 c_2
      refine lv_aload_n hx hb dX10_feature_20 rfl (lv_at hl 0 rfl) ?_
      refine lv_iconst (v := 4) hx hb dX10_feature_21 rfl ?_
      obtain ⟨hPc, hDc, hFc⟩ := zo_sub (wc := [_]) hP hD hS hA [0] rfl rfl
      refine zcall (st1 := [.int (-1)]) (va_runV (As := [.int 4]) (rest := []) ⟨hx, hb, hml, hown, hts⟩ (k_refuse_4 l dC dI cI cZ cF H.size x sh lw ro bq bp dq dp lv sl sd ul su ds ) (csV_95 hts rfl rfl ⟨Nat.le_of_ble_eq_true rfl, Nat.le_of_ble_eq_true rfl⟩) (zPV2 (q0 := 0) (ci := 8) hPc hDc hK hXN rfl rfl) rfl rfl hl.1 rfl (lv_room (Nat.le_of_ble_eq_true rfl)) dX10_feature_22 ⟨Nat.le_of_ble_eq_true rfl, Nat.le_of_ble_eq_true rfl⟩) hS hFc hFc rfl (fun t H locs ht hB hk1 hS => ?_)
      obtain ⟨hP1, hD1⟩ := hB
      rw [ht] at hP1
      obtain ⟨hP, hD⟩ := zn (W2 := [(oc8 x (.ref sh) (.ref lw) (.ref ro) (.ref bq) (.ref bp) (.ref dq) (.ref dp) (.ref lv) (.ref sl) ds sd ul 4), _, _]) hP hD hk1 hFc hP1 hD1 [0] [false, true, true] [false, true, true] [0] (by decide +kernel) rfl rfl rfl rfl rfl
      clear hk1 hPc hDc hFc hP1 hD1 ht
      obtain ⟨hP9, hD9⟩ := zu_sub (wc := [_, _, _]) hP hD [true, true, true] rfl rfl
      rw [hQ9]
      exact W.iret (v := (-1)) hx hb hr (fun t ht hW => ⟨⟨rfl, by rw [ht]; exact hP9, hD9⟩, hS.F ht⟩) hS.2.2 dX10_feature_25
set_option maxHeartbeats 4000000 in
set_option maxRecDepth 100000 in
theorem k_feature_8 (l : Launch) (dC : Nat → ClassId) (dI : Nat → Nat → Nat) (cI cZ cF : ClassId) (sz : Nat) (x : Nat) (sh : Nat) (lw : Nat) (ro : Nat) (bq : Nat) (bp : Nat) (dq : Nat) (dp : Nat) (lv : Nat) (sl : Nat) (sd : Int32) (ul : Int32) (su : Int32) (ds : Int32) (fa : Nat) (ft : Nat) (FA : Nat → Option Nat) (k1 : Int32) (k2 : Int32) (k3 : Int32) (k4 : Int32) (h200 : ft ≤ 200) (hgood : (0 ≤ k1.toInt ∧ k1.toInt ≤ 6) ∧ (0 ≤ k2.toInt ∧ k2.toInt ≤ 9) ∧ (0 ≤ k3.toInt ∧ k3.toInt ≤ 100) ∧ (0 ≤ k4.toInt ∧ k4.toInt ≤ 9)) (hfull : ft = 200) : zM l yX10_feature cX10_feature 6 (some .int) ({ frames := 1, cells := 0, slots := 0, locals := 22 } : Room) [.ref x, .int k1, .int k2, .int k3, .int k4] (dC, dI) (zTy cI cZ cF) [(oc8 x (.ref sh) (.ref lw) (.ref ro) (.ref bq) (.ref bp) (.ref dq) (.ref dp) (.ref lv) (.ref sl) ds sd ul su), (oc7 sh (.ref fa) (nI ft)), (oq fa cF 200 FA)] sz (some (.int (-1))) (fun A t => zPD (dC, dI) classes A [(oc8 x (.ref sh) (.ref lw) (.ref ro) (.ref bq) (.ref bp) (.ref dq) (.ref dp) (.ref lv) (.ref sl) ds sd ul 8), (oc7 sh (.ref fa) (nI ft)), (oq fa cF 200 FA)] t.heap) 0 0 := by
  refine zIn (own := "ScaleShop") (loc := [(0, .ref x), (1, .int k1), (2, .int k2), (3, .int k3), (4, .int k4)]) rfl rfl rfl rfl (fun p e s m below meth c hx hb hr hts hown hlocks hml hnm9 A hA hS hP hD hK hXN Q9 hQ9 ls hl => ?_)
  have e_0 : (0 : Int32).toInt = 0 := (by decide)
  have e_6 : (6 : Int32).toInt = 6 := (by decide)
  have e_9 : (9 : Int32).toInt = 9 := (by decide)
  have e_100 : (100 : Int32).toInt = 100 := (by decide)
  refine lv_iload_n hx hb dX10_feature_0 rfl (lv_at hl 1 rfl) ?_
  refine lv_iconst (v := 0) hx hb dX10_feature_1 rfl ?_
  refine lv_bipush (v := 6) hx hb dX10_feature_2 rfl ?_
  obtain ⟨hPc, hDc, hFc, hI1⟩ := zi_sub (wc := []) hP hD hS hA [] rfl rfl
  refine zcall (st1 := [.int (pI ((0 : Int32).toInt ≤ k1.toInt ∧ k1.toInt ≤ (6 : Int32).toInt))]) (va_runS (As := [.int k1, .int 0, .int 6]) (rest := []) ⟨hx, hb, hml, hown, hts⟩ (k_isWithin l dC dI cI cZ cF s.heap.size k1 0 6 ) (csS_14 hts rfl rfl ⟨Nat.le_of_ble_eq_true rfl, Nat.le_of_ble_eq_true rfl⟩) (zPS2 hPc hDc hK hXN) rfl rfl hl.1 rfl (lv_room (Nat.le_of_ble_eq_true rfl)) dX10_feature_4 ⟨Nat.le_of_ble_eq_true rfl, Nat.le_of_ble_eq_true rfl⟩) hS hFc hFc rfl (fun t H locs ht hB hk1 hS => ?_)
  obtain ⟨hP1, hD1⟩ := hB
  rw [ht] at hP1
  replace hP := z0 hP hD hk1 hP1 hI1
  clear hk1 hPc hDc hFc hP1 hD1 ht hI1
  refine lv_if_eq (tgt := 20) hx hb dX10_feature_7 rfl (fun c_1 => ?_) (fun c_1 => ?_)
  · have c_1 : ¬ ((0 : Int32).toInt ≤ k1.toInt ∧ k1.toInt ≤ (6 : Int32).toInt) := zp_0 c_1
    exfalso; omega
  · have c_1 : (0 : Int32).toInt ≤ k1.toInt ∧ k1.toInt ≤ (6 : Int32).toInt := zp_1 c_1
    refine lv_iload_n hx hb dX10_feature_10 rfl (lv_at hl 2 rfl) ?_
    refine lv_iconst (v := 0) hx hb dX10_feature_11 rfl ?_
    refine lv_bipush (v := 9) hx hb dX10_feature_12 rfl ?_
    obtain ⟨hPc, hDc, hFc, hI1⟩ := zi_sub (wc := []) hP hD hS hA [] rfl rfl
    refine zcall (st1 := [.int (pI ((0 : Int32).toInt ≤ k2.toInt ∧ k2.toInt ≤ (9 : Int32).toInt))]) (va_runS (As := [.int k2, .int 0, .int 9]) (rest := []) ⟨hx, hb, hml, hown, hts⟩ (k_isWithin l dC dI cI cZ cF H.size k2 0 9 ) (csS_14 hts rfl rfl ⟨Nat.le_of_ble_eq_true rfl, Nat.le_of_ble_eq_true rfl⟩) (zPS2 hPc hDc hK hXN) rfl rfl hl.1 rfl (lv_room (Nat.le_of_ble_eq_true rfl)) dX10_feature_14 ⟨Nat.le_of_ble_eq_true rfl, Nat.le_of_ble_eq_true rfl⟩) hS hFc hFc rfl (fun t H locs ht hB hk1 hS => ?_)
    obtain ⟨hP1, hD1⟩ := hB
    rw [ht] at hP1
    replace hP := z0 hP hD hk1 hP1 hI1
    clear hk1 hPc hDc hFc hP1 hD1 ht hI1
    refine lv_if_ne (tgt := 26) hx hb dX10_feature_17 rfl (fun c_2 => ?_) (fun c_2 => ?_)
    · have c_2 : (0 : Int32).toInt ≤ k2.toInt ∧ k2.toInt ≤ (9 : Int32).toInt := zp_1 c_2
      refine lv_iload_n hx hb dX10_feature_26 rfl (lv_at hl 3 rfl) ?_
      refine lv_iconst (v := 0) hx hb dX10_feature_27 rfl ?_
      refine lv_bipush (v := 100) hx hb dX10_feature_28 rfl ?_
      obtain ⟨hPc, hDc, hFc, hI1⟩ := zi_sub (wc := []) hP hD hS hA [] rfl rfl
      refine zcall (st1 := [.int (pI ((0 : Int32).toInt ≤ k3.toInt ∧ k3.toInt ≤ (100 : Int32).toInt))]) (va_runS (As := [.int k3, .int 0, .int 100]) (rest := []) ⟨hx, hb, hml, hown, hts⟩ (k_isWithin l dC dI cI cZ cF H.size k3 0 100 ) (csS_14 hts rfl rfl ⟨Nat.le_of_ble_eq_true rfl, Nat.le_of_ble_eq_true rfl⟩) (zPS2 hPc hDc hK hXN) rfl rfl hl.1 rfl (lv_room (Nat.le_of_ble_eq_true rfl)) dX10_feature_30 ⟨Nat.le_of_ble_eq_true rfl, Nat.le_of_ble_eq_true rfl⟩) hS hFc hFc rfl (fun t H locs ht hB hk1 hS => ?_)
      obtain ⟨hP1, hD1⟩ := hB
      rw [ht] at hP1
      replace hP := z0 hP hD hk1 hP1 hI1
      clear hk1 hPc hDc hFc hP1 hD1 ht hI1
      refine lv_if_eq (tgt := 47) hx hb dX10_feature_33 rfl (fun c_3 => ?_) (fun c_3 => ?_)
      · have c_3 : ¬ ((0 : Int32).toInt ≤ k3.toInt ∧ k3.toInt ≤ (100 : Int32).toInt) := zp_0 c_3
        exfalso; omega
      · have c_3 : (0 : Int32).toInt ≤ k3.toInt ∧ k3.toInt ≤ (100 : Int32).toInt := zp_1 c_3
        refine lv_iload hx hb dX10_feature_36 (lv_at hl 4 rfl) ?_
        refine lv_iconst (v := 0) hx hb dX10_feature_38 rfl ?_
        refine lv_bipush (v := 9) hx hb dX10_feature_39 rfl ?_
        obtain ⟨hPc, hDc, hFc, hI1⟩ := zi_sub (wc := []) hP hD hS hA [] rfl rfl
        refine zcall (st1 := [.int (pI ((0 : Int32).toInt ≤ k4.toInt ∧ k4.toInt ≤ (9 : Int32).toInt))]) (va_runS (As := [.int k4, .int 0, .int 9]) (rest := []) ⟨hx, hb, hml, hown, hts⟩ (k_isWithin l dC dI cI cZ cF H.size k4 0 9 ) (csS_14 hts rfl rfl ⟨Nat.le_of_ble_eq_true rfl, Nat.le_of_ble_eq_true rfl⟩) (zPS2 hPc hDc hK hXN) rfl rfl hl.1 rfl (lv_room (Nat.le_of_ble_eq_true rfl)) dX10_feature_41 ⟨Nat.le_of_ble_eq_true rfl, Nat.le_of_ble_eq_true rfl⟩) hS hFc hFc rfl (fun t H locs ht hB hk1 hS => ?_)
        obtain ⟨hP1, hD1⟩ := hB
        rw [ht] at hP1
        replace hP := z0 hP hD hk1 hP1 hI1
        clear hk1 hPc hDc hFc hP1 hD1 ht hI1
        refine lv_if_ne (tgt := 53) hx hb dX10_feature_44 rfl (fun c_4 => ?_) (fun c_4 => ?_)
        · have c_4 : (0 : Int32).toInt ≤ k4.toInt ∧ k4.toInt ≤ (9 : Int32).toInt := zp_1 c_4
          refine lv_aload_n hx hb dX10_feature_53 rfl (lv_at hl 0 rfl) ?_
          refine va_get (D := (dC, dI)) (ci := 8) (v := .ref sh) (C := RX10) (T := TX10) (N := 13) hx hb hts inX10 hown hK hP 0 rfl rfl 0 (Nat.le_of_ble_eq_true rfl) (hts _ mw_309) (fun _ h9 => h9) rfl dX10_feature_54 ?_
          obtain ⟨hPc, hDc, hFc, hI1⟩ := zi_sub (wc := [_, _]) hP hD hS hA [1, 2] rfl rfl
          refine zcall (st1 := [.int (pI (ft = 200))]) (va_runV (As := []) (rest := []) ⟨hx, hb, hml, hown, hts⟩ (k_Sheet_isFull l dC dI cI cZ cF H.size sh fa ft FA (by first | with_reducible assumption | omega)) (csV_105 hts rfl rfl ⟨Nat.le_of_ble_eq_true rfl, Nat.le_of_ble_eq_true rfl⟩) (zPV2 (q0 := 0) (ci := 7) hPc hDc hK hXN rfl rfl) rfl rfl hl.1 rfl (lv_room (Nat.le_of_ble_eq_true rfl)) dX10_feature_57 ⟨Nat.le_of_ble_eq_true rfl, Nat.le_of_ble_eq_true rfl⟩) hS hFc hFc rfl (fun t H locs ht hB hk1 hS => ?_)
          obtain ⟨hP1, hD1⟩ := hB
          rw [ht] at hP1
          replace hP := z0 hP hD hk1 hP1 hI1
          clear hk1 hPc hDc hFc hP1 hD1 ht hI1
          refine lv_if_eq (tgt := 70) hx hb dX10_feature_60 rfl (fun c_5 => ?_) (fun c_5 => ?_)
          · have c_5 : ¬ (ft = 200) := zp_0 c_5
            exfalso; omega
          · have c_5 : ft = 200 := zp_1 c_5
            refine lv_aload_n hx hb dX10_feature_63 rfl (lv_at hl 0 rfl) ?_
            refine lv_bipush (v := 8) hx hb dX10_feature_64 rfl ?_
            obtain ⟨hPc, hDc, hFc⟩ := zo_sub (wc := [_]) hP hD hS hA [0] rfl rfl
            refine zcall (st1 := [.int (-1)]) (va_runV (As := [.int 8]) (rest := []) ⟨hx, hb, hml, hown, hts⟩ (k_refuse_8 l dC dI cI cZ cF H.size x sh lw ro bq bp dq dp lv sl sd ul su ds ) (csV_95 hts rfl rfl ⟨Nat.le_of_ble_eq_true rfl, Nat.le_of_ble_eq_true rfl⟩) (zPV2 (q0 := 0) (ci := 8) hPc hDc hK hXN rfl rfl) rfl rfl hl.1 rfl (lv_room (Nat.le_of_ble_eq_true rfl)) dX10_feature_66 ⟨Nat.le_of_ble_eq_true rfl, Nat.le_of_ble_eq_true rfl⟩) hS hFc hFc rfl (fun t H locs ht hB hk1 hS => ?_)
            obtain ⟨hP1, hD1⟩ := hB
            rw [ht] at hP1
            obtain ⟨hP, hD⟩ := zn (W2 := [(oc8 x (.ref sh) (.ref lw) (.ref ro) (.ref bq) (.ref bp) (.ref dq) (.ref dp) (.ref lv) (.ref sl) ds sd ul 8), _, _]) hP hD hk1 hFc hP1 hD1 [0] [false, true, true] [false, true, true] [0] (by decide +kernel) rfl rfl rfl rfl rfl
            clear hk1 hPc hDc hFc hP1 hD1 ht
            obtain ⟨hP9, hD9⟩ := zu_sub (wc := [_, _, _]) hP hD [true, true, true] rfl rfl
            rw [hQ9]
            exact W.iret (v := (-1)) hx hb hr (fun t ht hW => ⟨⟨rfl, by rw [ht]; exact hP9, hD9⟩, hS.F ht⟩) hS.2.2 dX10_feature_69
        · have c_4 : ¬ ((0 : Int32).toInt ≤ k4.toInt ∧ k4.toInt ≤ (9 : Int32).toInt) := zp_0 c_4
          exfalso; omega
    · have c_2 : ¬ ((0 : Int32).toInt ≤ k2.toInt ∧ k2.toInt ≤ (9 : Int32).toInt) := zp_0 c_2
      exfalso; omega
set_option maxHeartbeats 4000000 in
set_option maxRecDepth 100000 in
theorem k_feature_y (l : Launch) (dC : Nat → ClassId) (dI : Nat → Nat → Nat) (cI cZ cF : ClassId) (sz : Nat) (cO : ClassId) (e0 : Nat) (mi : Nat) (x : Nat) (sh : Nat) (lw : Nat) (ro : Nat) (bq : Nat) (bp : Nat) (dq : Nat) (dp : Nat) (lv : Nat) (sl : Nat) (sd : Int32) (ul : Int32) (su : Int32) (ea : Nat) (mc9 : Int32) (fa : Nat) (FA : Nat → Option Nat) (bs : Nat) (dn : Nat) (T : Nat) (ft : Nat) (FT : Nat → Nat) (V : Nat → Nat → Nat → Int32) (VX : Nat → Nat → Int32) (VY : Nat → Nat → Int32) (tn : Nat → Int32) (rk : Nat → Int32) (wd : Nat → Int32) (tw : Nat → Int32) (pa : Nat → Int32) (pb : Nat → Int32) (wh : Nat → Int32) (of9 : Nat → Int32) (we : Nat → Int32) (kd : Nat → Int32) (st : Nat → Int32) (gb : Nat → Int32) (it : Nat → Int32) (mn : Nat → Int32) (cx : Nat → Int32) (cy : Nat → Int32) (L : List Nat) (f : Nat → va_E) (k1 : Int32) (k2 : Int32) (k3 : Int32) (k4 : Int32) (hB : shB cI cO L f e0 FA ea bs dn T ft FT V VX VY tn rk wd tw pa pb wh of9 we kd st gb it mn cx cy) (hd5 : dn + 1 ≤ 512) (hgood : (0 ≤ k1.toInt ∧ k1.toInt ≤ 6) ∧ (0 ≤ k2.toInt ∧ k2.toInt ≤ 9) ∧ (0 ≤ k3.toInt ∧ k3.toInt ≤ 100) ∧ (0 ≤ k4.toInt ∧ k4.toInt ≤ 9)) (hlt : ft < 200) : zML l yX10_feature cX10_feature 6 (some .int) ({ frames := 5, cells := 8, slots := 200, locals := 107 } : Room) [.ref x, .int k1, .int k2, .int k3, .int k4] (dC, dI) (zTyO cI cZ cF cO) e0 mi ([(oc8 x (.ref sh) (.ref lw) (.ref ro) (.ref bq) (.ref bp) (.ref dq) (.ref dp) (.ref lv) (.ref sl) (nI dn) sd ul su), (oc10 sl mc9 (.ref ea) (nI T)), (oc7 sh (.ref fa) (nI ft)), (oq fa cF 200 FA)] ++ va_pl L f) sz (some (.int (nI ft))) (fun A t => ∃ (mc1 : Int32), ∃ (L1 : List Nat), ∃ (f1 : Nat → va_E), ∃ (fe7 : Nat), (shB cI cO L1 f1 e0 (va_up FA ft (some fe7)) ea dn dn dn (ft + 1) (fun _ => ft + 1) (fun _ => vC (gZ (V dn) ft) (upd kd ft k1) (upd st ft 0) (upd gb ft 0) (upd it ft (-1)) (upd mn ft 0)) (fun _ => cx) (fun _ => cy) (upd tn ft 0) (upd rk ft k2) (upd wd ft k3) (upd tw ft k4) (upd pa ft (-1)) (upd pb ft (-1)) wh of9 we (upd kd ft k1) (upd st ft 0) (upd gb ft 0) (upd it ft (-1)) (upd mn ft 0) cx cy) ∧ zPD (dC, dI) classes A ([(oc8 x (.ref sh) (.ref lw) (.ref ro) (.ref bq) (.ref bp) (.ref dq) (.ref dp) (.ref lv) (.ref sl) (nI dn) (nI dn) ul 0), (oc10 sl mc1 (.ref ea) (nI dn)), (oc7 sh (.ref fa) (nI (ft + 1))), (oq fa cF 200 (va_up FA ft (some fe7)))] ++ va_pl L1 f1) t.heap) 8 200 := by
  refine zInL (own := "ScaleShop") (loc := [(0, .ref x), (1, .int k1), (2, .int k2), (3, .int k3), (4, .int k4)]) rfl rfl rfl rfl (fun p e s m below meth c hx hb hr hts hown hlocks hml hnm9 A hA hS hP hD hK hXL hXN hK3 Q9 hQ9 ls hl => ?_)
  obtain ⟨own, fe, cl, la, sp, SA, hG9, hH9, hft9, hO9⟩ := hB
  obtain ⟨hG, hM, hdT, hT5, hO⟩ := M_0 hG9 hH9 hft9 hO9
  have h200 : ft ≤ 200 := hG.2.2.2.2.2.1.2.2.2.2.2
  have hFA9 := hG.2.2.2.2.2.2
  have e_0 : (0 : Int32).toInt = 0 := (by decide)
  have e_6 : (6 : Int32).toInt = 6 := (by decide)
  have e_9 : (9 : Int32).toInt = 9 := (by decide)
  have e_100 : (100 : Int32).toInt = 100 := (by decide)
  obtain ⟨cl9, hcl9⟩ : ∃ c, (1 ≤ k1.toInt ∧ k1.toInt ≤ 5 ∧ c = 40) ∨ (¬ (1 ≤ k1.toInt ∧ k1.toInt ≤ 5) ∧ c = 1) := (by by_cases e : 1 ≤ k1.toInt ∧ k1.toInt ≤ 5; exact ⟨40, Or.inl ⟨e.1, e.2, rfl⟩⟩; exact ⟨1, Or.inr ⟨e, rfl⟩⟩)
  obtain ⟨rm9, hrm9⟩ : ∃ c : Nat, c = (if k1.toInt = 0 then 1 else 40) := ⟨_, rfl⟩
  have hrb9 : 1 ≤ rm9 ∧ rm9 ≤ 40 := (by rw [hrm9]; split <;> omega)
  refine lv_iload_n hx hb dX10_feature_0 rfl (lv_at hl 1 rfl) ?_
  refine lv_iconst (v := 0) hx hb dX10_feature_1 rfl ?_
  refine lv_bipush (v := 6) hx hb dX10_feature_2 rfl ?_
  obtain ⟨hPc, hDc, hFc, hI1⟩ := zi_sub (wc := []) hP hD hS hA [] rfl rfl
  refine zcall (st1 := [.int (pI ((0 : Int32).toInt ≤ k1.toInt ∧ k1.toInt ≤ (6 : Int32).toInt))]) (va_runS (As := [.int k1, .int 0, .int 6]) (rest := []) ⟨hx, hb, hml, hown, hts⟩ (k_isWithin l dC dI cI cZ cF s.heap.size k1 0 6 ) (csS_14 hts rfl rfl ⟨Nat.le_of_ble_eq_true rfl, Nat.le_of_ble_eq_true rfl⟩) (zPS2 hPc hDc hK3 hXN) rfl rfl hl.1 rfl (lv_room (Nat.le_of_ble_eq_true rfl)) dX10_feature_4 ⟨Nat.zero_le _, Nat.zero_le _⟩) hS hFc hFc rfl (fun t H locs ht hB hk1 hS => ?_)
  obtain ⟨hP1, hD1⟩ := hB
  rw [ht] at hP1
  replace hP := z0 hP hD hk1 hP1 hI1
  clear hk1 hPc hDc hFc hP1 hD1 ht hI1
  refine lv_if_eq (tgt := 20) hx hb dX10_feature_7 rfl (fun c_1 => ?_) (fun c_1 => ?_)
  · have c_1 : ¬ ((0 : Int32).toInt ≤ k1.toInt ∧ k1.toInt ≤ (6 : Int32).toInt) := zp_0 c_1
    exfalso; omega
  · have c_1 : (0 : Int32).toInt ≤ k1.toInt ∧ k1.toInt ≤ (6 : Int32).toInt := zp_1 c_1
    refine lv_iload_n hx hb dX10_feature_10 rfl (lv_at hl 2 rfl) ?_
    refine lv_iconst (v := 0) hx hb dX10_feature_11 rfl ?_
    refine lv_bipush (v := 9) hx hb dX10_feature_12 rfl ?_
    obtain ⟨hPc, hDc, hFc, hI1⟩ := zi_sub (wc := []) hP hD hS hA [] rfl rfl
    refine zcall (st1 := [.int (pI ((0 : Int32).toInt ≤ k2.toInt ∧ k2.toInt ≤ (9 : Int32).toInt))]) (va_runS (As := [.int k2, .int 0, .int 9]) (rest := []) ⟨hx, hb, hml, hown, hts⟩ (k_isWithin l dC dI cI cZ cF H.size k2 0 9 ) (csS_14 hts rfl rfl ⟨Nat.le_of_ble_eq_true rfl, Nat.le_of_ble_eq_true rfl⟩) (zPS2 hPc hDc hK3 hXN) rfl rfl hl.1 rfl (lv_room (Nat.le_of_ble_eq_true rfl)) dX10_feature_14 ⟨Nat.zero_le _, Nat.zero_le _⟩) hS hFc hFc rfl (fun t H locs ht hB hk1 hS => ?_)
    obtain ⟨hP1, hD1⟩ := hB
    rw [ht] at hP1
    replace hP := z0 hP hD hk1 hP1 hI1
    clear hk1 hPc hDc hFc hP1 hD1 ht hI1
    refine lv_if_ne (tgt := 26) hx hb dX10_feature_17 rfl (fun c_2 => ?_) (fun c_2 => ?_)
    · have c_2 : (0 : Int32).toInt ≤ k2.toInt ∧ k2.toInt ≤ (9 : Int32).toInt := zp_1 c_2
      refine lv_iload_n hx hb dX10_feature_26 rfl (lv_at hl 3 rfl) ?_
      refine lv_iconst (v := 0) hx hb dX10_feature_27 rfl ?_
      refine lv_bipush (v := 100) hx hb dX10_feature_28 rfl ?_
      obtain ⟨hPc, hDc, hFc, hI1⟩ := zi_sub (wc := []) hP hD hS hA [] rfl rfl
      refine zcall (st1 := [.int (pI ((0 : Int32).toInt ≤ k3.toInt ∧ k3.toInt ≤ (100 : Int32).toInt))]) (va_runS (As := [.int k3, .int 0, .int 100]) (rest := []) ⟨hx, hb, hml, hown, hts⟩ (k_isWithin l dC dI cI cZ cF H.size k3 0 100 ) (csS_14 hts rfl rfl ⟨Nat.le_of_ble_eq_true rfl, Nat.le_of_ble_eq_true rfl⟩) (zPS2 hPc hDc hK3 hXN) rfl rfl hl.1 rfl (lv_room (Nat.le_of_ble_eq_true rfl)) dX10_feature_30 ⟨Nat.zero_le _, Nat.zero_le _⟩) hS hFc hFc rfl (fun t H locs ht hB hk1 hS => ?_)
      obtain ⟨hP1, hD1⟩ := hB
      rw [ht] at hP1
      replace hP := z0 hP hD hk1 hP1 hI1
      clear hk1 hPc hDc hFc hP1 hD1 ht hI1
      refine lv_if_eq (tgt := 47) hx hb dX10_feature_33 rfl (fun c_3 => ?_) (fun c_3 => ?_)
      · have c_3 : ¬ ((0 : Int32).toInt ≤ k3.toInt ∧ k3.toInt ≤ (100 : Int32).toInt) := zp_0 c_3
        exfalso; omega
      · have c_3 : (0 : Int32).toInt ≤ k3.toInt ∧ k3.toInt ≤ (100 : Int32).toInt := zp_1 c_3
        refine lv_iload hx hb dX10_feature_36 (lv_at hl 4 rfl) ?_
        refine lv_iconst (v := 0) hx hb dX10_feature_38 rfl ?_
        refine lv_bipush (v := 9) hx hb dX10_feature_39 rfl ?_
        obtain ⟨hPc, hDc, hFc, hI1⟩ := zi_sub (wc := []) hP hD hS hA [] rfl rfl
        refine zcall (st1 := [.int (pI ((0 : Int32).toInt ≤ k4.toInt ∧ k4.toInt ≤ (9 : Int32).toInt))]) (va_runS (As := [.int k4, .int 0, .int 9]) (rest := []) ⟨hx, hb, hml, hown, hts⟩ (k_isWithin l dC dI cI cZ cF H.size k4 0 9 ) (csS_14 hts rfl rfl ⟨Nat.le_of_ble_eq_true rfl, Nat.le_of_ble_eq_true rfl⟩) (zPS2 hPc hDc hK3 hXN) rfl rfl hl.1 rfl (lv_room (Nat.le_of_ble_eq_true rfl)) dX10_feature_41 ⟨Nat.zero_le _, Nat.zero_le _⟩) hS hFc hFc rfl (fun t H locs ht hB hk1 hS => ?_)
        obtain ⟨hP1, hD1⟩ := hB
        rw [ht] at hP1
        replace hP := z0 hP hD hk1 hP1 hI1
        clear hk1 hPc hDc hFc hP1 hD1 ht hI1
        refine lv_if_ne (tgt := 53) hx hb dX10_feature_44 rfl (fun c_4 => ?_) (fun c_4 => ?_)
        · have c_4 : (0 : Int32).toInt ≤ k4.toInt ∧ k4.toInt ≤ (9 : Int32).toInt := zp_1 c_4
          refine lv_aload_n hx hb dX10_feature_53 rfl (lv_at hl 0 rfl) ?_
          refine va_get (D := (dC, dI)) (ci := 8) (v := .ref sh) (C := RX10) (T := TX10) (N := 13) hx hb hts inX10 hown hK hP 0 rfl rfl 0 (Nat.le_of_ble_eq_true rfl) (hts _ mw_309) (fun _ h9 => h9) rfl dX10_feature_54 ?_
          obtain ⟨hPc, hDc, hFc, hI1⟩ := zi_sub (wc := [_, _]) hP hD hS hA [2, 3] rfl rfl
          refine zcall (st1 := [.int (pI (ft = 200))]) (va_runV (As := []) (rest := []) ⟨hx, hb, hml, hown, hts⟩ (k_Sheet_isFull l dC dI cI cZ cF H.size sh fa ft FA (by first | with_reducible assumption | omega)) (csV_105 hts rfl rfl ⟨Nat.le_of_ble_eq_true rfl, Nat.le_of_ble_eq_true rfl⟩) (zPV2 (q0 := 0) (ci := 7) hPc hDc hK3 hXN rfl rfl) rfl rfl hl.1 rfl (lv_room (Nat.le_of_ble_eq_true rfl)) dX10_feature_57 ⟨Nat.zero_le _, Nat.zero_le _⟩) hS hFc hFc rfl (fun t H locs ht hB hk1 hS => ?_)
          obtain ⟨hP1, hD1⟩ := hB
          rw [ht] at hP1
          replace hP := z0 hP hD hk1 hP1 hI1
          clear hk1 hPc hDc hFc hP1 hD1 ht hI1
          refine lv_if_eq (tgt := 70) hx hb dX10_feature_60 rfl (fun c_5 => ?_) (fun c_5 => ?_)
          · have c_5 : ¬ (ft = 200) := zp_0 c_5
            refine va_new (ci := 1) (fs := [.int 0, .int 0, .int 0, .int 0, .int 0, .null, .null, .null]) (C := RX2) (T := TX2) (N := 8) hx hb hts inX2 tyX2 tyX2_ok hown (hts _ mw_364) (hts _ mw_365) (hts _ mw_111) hK hP hD hS hA rfl dfX2 (show 1 ≤ 8 by omega) (show 8 ≤ 200 by omega) dX10_feature_70 (fun fe7 H hP hD hS => ?_)
            have hP := va_P.swap hP
            have hD := va_D.swap hD
            obtain ⟨hP, hD⟩ := zre (W2 := ([_, _, _, _, (oc1 fe7 0 0 0 0 0 .null .null .null)] ++ va_pl L f)) hP hD rfl
            refine lv_dup hx hb dX10_feature_73 rfl ?_
            refine lv_iload_n hx hb dX10_feature_74 rfl (lv_at hl 1 rfl) ?_
            refine lv_iload_n hx hb dX10_feature_75 rfl (lv_at hl 2 rfl) ?_
            refine lv_iload_n hx hb dX10_feature_76 rfl (lv_at hl 3 rfl) ?_
            refine lv_iload hx hb dX10_feature_77 (lv_at hl 4 rfl) ?_
            obtain ⟨hPc, hDc, hFc⟩ := zo_sub (wc := [_]) hP hD hS hA [4] rfl rfl
            refine zcall (st1 := [.ref fe7]) (va_runI (As := [.int k1, .int k2, .int k3, .int k4]) (rest := [.ref fe7]) ⟨hx, hb, hml, hown, hts⟩ (k_Feature_init l dC dI cI cZ cF H.size fe7 cl9 k1 k2 k3 k4 (hcl9)) (cwI 4 hts (zz_gC mc_yX2_init) rfl rfl rfl (hts _ mw_111) (hts _ mw_366) (hts _ mw_367) rfl (by decide +kernel) ⟨Nat.le_of_ble_eq_true rfl, Nat.le_of_ble_eq_true rfl⟩) (zPS2 hPc hDc hK3 hXN) rfl rfl hl.1 rfl (lv_room (Nat.le_of_ble_eq_true rfl)) dX10_feature_79 ⟨show (1 + 4) ≤ 8 by omega, show (8 + (2 * cl9 + 10)) ≤ 200 by omega⟩) hS hFc hFc rfl (fun t H locs ht hB hk1 hS => ?_)
            obtain ⟨lo7, lx7, ly7, lk7, hP1, hD1⟩ := hB
            rw [ht] at hP1
            obtain ⟨hP, hD⟩ := znQ (W2 := [_, _, _, _, (oc1 fe7 k2 k3 k4 (-1) (-1) (.ref lo7) (.ref lk7) .null), (oc6 lo7 (.ref lx7) (.ref ly7) (nI 0) 0), (oa lx7 cI cl9 (fun _ => 0)), (oa ly7 cI cl9 (fun _ => 0)), (oc4 lk7 k1 0 .null 0 (-1) 0)]) hP hD hk1 hFc hP1 hD1 [4] [true, true, true, true] zl_58 [4, 5, 6, 7, 8] (by decide +kernel) rfl rfl rfl rfl rfl
            clear hk1 hPc hDc hFc hP1 hD1 ht
            refine lv_astore (lv' := [(5, .ref fe7), (0, .ref x), (1, .int k1), (2, .int k2), (3, .int k3), (4, .int k4)]) hx hb dX10_feature_82 hl (Nat.le_of_ble_eq_true rfl) rfl (fun ls hl => ?_)
            refine lv_aload hx hb dX10_feature_84 (lv_at hl 0 rfl) ?_
            refine va_get (D := (dC, dI)) (ci := 1) (v := .ref lk7) (C := RX2) (T := TX2) (N := 8) hx hb hts inX2 hown hK hP 4 rfl rfl 6 (Nat.le_of_ble_eq_true rfl) (hts _ mw_433) (fun _ h9 => h9) rfl dX10_feature_86 ?_
            refine va_new (ci := 6) (fs := [.null, .null, .int 0, .int 0]) (C := RX7) (T := TX7) (N := 4) hx hb hts inX7 tyX7 tyX7_ok hown (hts _ mw_455) (hts _ mw_153) (hts _ mw_102) hK hP hD hS hA rfl dfX7 (show ((1 + 4) + 1) ≤ 8 by omega) (show ((8 + (2 * cl9 + 10)) + 4) ≤ 200 by omega) dX10_feature_89 (fun r7 H hP hD hS => ?_)
            have hP := va_P.swap hP
            have hD := va_D.swap hD
            obtain ⟨hP, hD⟩ := zre (W2 := ([_, _, _, _, _, _, _, _, _, (oc6 r7 .null .null 0 0)] ++ va_pl L f)) hP hD rfl
            refine lv_dup hx hb dX10_feature_92 rfl ?_
            refine lv_iload_n hx hb dX10_feature_93 rfl (lv_at hl 2 rfl) ?_
            obtain ⟨hPc, hDc, hFc, hI1⟩ := zi_sub (wc := []) hP hD hS hA [] rfl rfl
            refine zcall (st1 := [.int (nI (if k1.toInt = 0 then 1 else 40)), .ref r7, .ref r7, .ref lk7]) (va_runS (As := [.int k1]) (rest := [.ref r7, .ref r7, .ref lk7]) ⟨hx, hb, hml, hown, hts⟩ (k_mostCorners l dC dI cI cZ cF H.size k1 ) (csS_99 hts rfl rfl ⟨Nat.le_of_ble_eq_true rfl, Nat.le_of_ble_eq_true rfl⟩) (zPS2 hPc hDc hK3 hXN) rfl rfl hl.1 rfl (lv_room (Nat.le_of_ble_eq_true rfl)) dX10_feature_94 ⟨show ((1 + 4) + 1) ≤ 8 by omega, show ((8 + (2 * cl9 + 10)) + 4) ≤ 200 by omega⟩) hS hFc hFc rfl (fun t H locs ht hB hk1 hS => ?_)
            obtain ⟨hP1, hD1⟩ := hB
            rw [ht] at hP1
            replace hP := z0 hP hD hk1 hP1 hI1
            clear hk1 hPc hDc hFc hP1 hD1 ht hI1
            refine zz_i (v := nI rm9) (by rw [hrm9]) ?_
            refine lv_iload_n hx hb dX10_feature_97 rfl (lv_at hl 2 rfl) ?_
            have hj_6 : W p l e ({ frames := 5, cells := 8, slots := 200, locals := 107 } : Room) s m ([.ref x, .int k1, .int k2, .int k3, .int k4] : List Value).toArray below meth c H locs ((1 + 4) + 1) ((8 + (2 * cl9 + 10)) + 4) Q9 (F0 m 107 ls [.int (rgK k1.toInt), .int (nI rm9), .ref r7, .ref r7, .ref lk7]) := by
              obtain ⟨hPc, hDc, hFc⟩ := zo_sub (wc := [_]) hP hD hS hA [9] rfl rfl
              refine zcall (st1 := [.ref r7, .ref lk7]) (va_runI (As := [.int (nI rm9), .int (rgK k1.toInt)]) (rest := [.ref r7, .ref lk7]) ⟨hx, hb, hml, hown, hts⟩ (k_Row_init l dC dI cI cZ cF H.size r7 rm9 (rgK k1.toInt) (by first | with_reducible assumption | omega) (rgK_01 _)) (cwI 2 hts (zz_gC mc_yX7_init) rfl rfl rfl (hts _ mw_102) (hts _ mw_459) (hts _ mw_155) rfl (by decide +kernel) ⟨Nat.le_of_ble_eq_true rfl, Nat.le_of_ble_eq_true rfl⟩) (zPS2 hPc hDc hK3 hXN) rfl rfl hl.1 rfl (lv_room (Nat.le_of_ble_eq_true rfl)) dX10_feature_107 ⟨show (((1 + 4) + 1) + 2) ≤ 8 by omega, show (((8 + (2 * cl9 + 10)) + 4) + (2 * rm9)) ≤ 200 by omega⟩) hS hFc hFc rfl (fun t H locs ht hB hk1 hS => ?_)
              obtain ⟨rx7, ry7, hP1, hD1⟩ := hB
              rw [ht] at hP1
              obtain ⟨hP, hD⟩ := znQ (W2 := [_, _, _, _, _, _, _, _, _, (oc6 r7 (.ref rx7) (.ref ry7) (nI 0) (rgK k1.toInt)), (oa rx7 cI rm9 (fun _ => 0)), (oa ry7 cI rm9 (fun _ => 0))]) hP hD hk1 hFc hP1 hD1 [9] zl_7 zl_8 [9, 10, 11] (by decide +kernel) rfl rfl rfl rfl rfl
              clear hk1 hPc hDc hFc hP1 hD1 ht
              refine va_put (D := (dC, dI)) (ci := 4) (v := .ref r7) (ty := .object "ScaleShop$Row") (C := RX5) (T := TX5) (N := 6) hx hb hts inX5 tyX5 tyX5_ok nmX5 hown hK hP hD hS 8 rfl rfl 2 (by decide) (hts _ mw_391) (fun _ h9 => h9) rfl (by decide +kernel) rfl rfl (Nat.le_of_ble_eq_true rfl) dX10_feature_110 (fun H locs hP hD hS => ?_)
              obtain ⟨hP, hD⟩ := zre (W2 := ([_, _, _, _, _, _, _, _, (oc4 lk7 k1 0 (.ref r7) 0 (-1) 0), _, _, _] ++ va_pl L f)) hP hD rfl
              refine lv_aload_n hx hb dX10_feature_113 rfl (lv_at hl 1 rfl) ?_
              obtain ⟨hPc, hDc, hFc⟩ := zo_part (cx := [_, _]) hP hD hS hA [0, 1] rfl rfl
              refine zcall (st1 := [.int 1]) (va_runV (As := []) (rest := []) ⟨hx, hb, hml, hown, hts⟩ (k_seal l dC dI cI cZ cF H.size cO e0 mi x sh lw ro bq bp dq dp lv sl sd ul su sl ea T mc9 dn SA L f own (hG.2.2.2.2.1) (hdT) (hT5)) (csV_102 hts rfl rfl ⟨Nat.le_of_ble_eq_true rfl, Nat.le_of_ble_eq_true rfl⟩) (zPVL (q0 := 0) (ci := 8) hPc hDc hK hXL hS hFc rfl rfl) rfl rfl hl.1 rfl (lv_room (Nat.le_of_ble_eq_true rfl)) dX10_feature_114 ⟨show (((1 + 4) + 1) + 2) ≤ 8 by omega, show (((8 + (2 * cl9 + 10)) + 4) + (2 * rm9)) ≤ 200 by omega⟩) hS hFc hFc rfl (fun t H locs ht hB hk1 hS => ?_)
              obtain ⟨mc6, L6, f6, SA6, hL6, hS6, hk6, hP1, hD1⟩ := hB
              rw [ht] at hP1
              obtain ⟨hP, hD⟩ := znP (W2 := [(oc8 x (.ref sh) (.ref lw) (.ref ro) (.ref bq) (.ref bp) (.ref dq) (.ref dp) (.ref lv) (.ref sl) (nI dn) (nI dn) ul 0), (oc10 sl mc6 (.ref ea) (nI dn)), _, _, _, _, _, _, _, _, _, _]) hP hD hk1 hFc hP1 hD1 [0, 1] zl_59 zl_59 [0, 1] (by decide +kernel) rfl rfl rfl rfl rfl
              clear hk1 hPc hDc hFc hP1 hD1 ht
              refine lv_pop hx hb dX10_feature_117 rfl ?_
              refine lv_aload_n hx hb dX10_feature_118 rfl (lv_at hl 1 rfl) ?_
              refine va_get (D := (dC, dI)) (ci := 8) (v := .ref sh) (C := RX10) (T := TX10) (N := 13) hx hb hts inX10 hown hK hP 0 rfl rfl 0 (Nat.le_of_ble_eq_true rfl) (hts _ mw_309) (fun _ h9 => h9) rfl dX10_feature_119 ?_
              refine lv_aload hx hb dX10_feature_122 (lv_at hl 0 rfl) ?_
              obtain ⟨hPc, hDc, hFc⟩ := zo_sub (wc := [_, _, _]) hP hD hS hA [2, 3, 4] rfl rfl
              refine zcall (st1 := [.int (nI ft)]) (va_runV (As := [.ref fe7]) (rest := []) ⟨hx, hb, hml, hown, hts⟩ (k_Sheet_add l dC dI cI cZ cF H.size sh fa ft FA fe7 lo7 k2 k3 k4 (-1) (-1) lk7 (by first | with_reducible assumption | omega)) (csV_106 hts rfl rfl ⟨Nat.le_of_ble_eq_true rfl, Nat.le_of_ble_eq_true rfl⟩) (zPV2 (q0 := 0) (ci := 7) hPc hDc hK3 hXN rfl rfl) rfl rfl hl.1 rfl (lv_room (Nat.le_of_ble_eq_true rfl)) dX10_feature_124 ⟨show (((1 + 4) + 1) + 2) ≤ 8 by omega, show (((8 + (2 * cl9 + 10)) + 4) + (2 * rm9)) ≤ 200 by omega⟩) hS hFc hFc rfl (fun t H locs ht hB hk1 hS => ?_)
              obtain ⟨hP1, hD1⟩ := hB
              rw [ht] at hP1
              obtain ⟨hP, hD⟩ := znQ (W2 := [_, _, (oc7 sh (.ref fa) (nI (ft + 1))), (oq fa cF 200 (va_up FA ft (some fe7))), _, _, _, _, _, _, _, _]) hP hD hk1 hFc hP1 hD1 [2, 3, 4] zl_60 zl_60 [2, 3, 4] (by decide +kernel) rfl rfl rfl rfl rfl
              clear hk1 hPc hDc hFc hP1 hD1 ht
              obtain ⟨hP, hD⟩ := zq_part (cx := [_, _, _, _, _, _, _, _, _, _, _, _]) hP hD [0, 1, 2, 3, 4, 8, 9, 10, 11, 5, 6, 7] rfl rfl
              obtain ⟨Lp1, fp1, hP, hD, hpin_1⟩ := pl_pn (X := [_, _, _, _]) (old := []) (new := [_, _, _, _, _, _, _, _]) (cs1 := [_, _, _, _, _, _, _, _]) (L := L6) (cs := []) outPl_nil hP hD rfl rfl rfl
              obtain ⟨hfr_1, hkp_1, hce_1, hsx_1, hpw_1⟩ := id hpin_1
              have hB6 := S_fea hG hlt hk6 hL6 hS6 hpin_1 hcl9 hrm9 (lo_W hO (Nat.le_refl _))
              obtain ⟨hP9, hD9⟩ := zu_part (cx := [_, _, _, _]) hP hD [true, true, true, true] rfl rfl
              refine W.widen (k := 8) (n := 200) (by omega) (by omega) ?_
              rw [hQ9]
              exact W.iret (v := nI ft) hx hb hr (fun t ht hW => ⟨⟨rfl, mc6, Lp1, fp1, fe7, (hB6), by rw [ht]; exact hP9, hD9⟩, hS.F ht⟩) hS.2.2 dX10_feature_127
            refine lv_iconst (v := 5) hx hb dX10_feature_98 rfl ?_
            refine lv_icmp_lt (tgt := 106) hx hb dX10_feature_99 rfl (fun c_7 => ?_) (fun c_7 => ?_)
            · have c_7 : k1.toInt < 5 := zc_lt rfl rfl c_7
              refine lv_iconst (v := 0) hx hb dX10_feature_106 rfl ?_
              refine zz_i (v := rgK k1.toInt) (by unfold rgK; first | (rw [if_pos (by omega)]) | (rw [if_neg (by omega)])) ?_
              exact hj_6 
            · have c_7 : 5 ≤ k1.toInt := zc_nlt rfl rfl c_7
              refine lv_iconst (v := 1) hx hb dX10_feature_102 rfl ?_
              refine lv_goto (tgt := 107) hx hb dX10_feature_103 rfl ?_
              refine zz_i (v := rgK k1.toInt) (by unfold rgK; first | (rw [if_pos (by omega)]) | (rw [if_neg (by omega)])) ?_
              exact hj_6 
          · have c_5 : ft = 200 := zp_1 c_5
            exfalso; omega
        · have c_4 : ¬ ((0 : Int32).toInt ≤ k4.toInt ∧ k4.toInt ≤ (9 : Int32).toInt) := zp_0 c_4
          exfalso; omega
    · have c_2 : ¬ ((0 : Int32).toInt ≤ k2.toInt ∧ k2.toInt ≤ (9 : Int32).toInt) := zp_0 c_2
      exfalso; omega
end
section
set_option maxHeartbeats 4000000 in
set_option maxRecDepth 100000 in
theorem k_plainer_y (l : Launch) (dC : Nat → ClassId) (dI : Nat → Nat → Nat) (cI cZ cF : ClassId) (sz : Nat) (cO : ClassId) (e0 : Nat) (mi : Nat) (x : Nat) (sh : Nat) (lw : Nat) (ro : Nat) (bq : Nat) (bp : Nat) (dq : Nat) (dp : Nat) (lv : Nat) (sl : Nat) (sd : Int32) (ul : Int32) (su : Int32) (ea : Nat) (mc9 : Int32) (fa : Nat) (FA : Nat → Option Nat) (bs : Nat) (dn : Nat) (T : Nat) (ft : Nat) (FT : Nat → Nat) (V : Nat → Nat → Nat → Int32) (VX : Nat → Nat → Int32) (VY : Nat → Nat → Int32) (tn : Nat → Int32) (rk : Nat → Int32) (wd : Nat → Int32) (tw : Nat → Int32) (pa : Nat → Int32) (pb : Nat → Int32) (wh : Nat → Int32) (of9 : Nat → Int32) (we : Nat → Int32) (kd : Nat → Int32) (st : Nat → Int32) (gb : Nat → Int32) (it : Nat → Int32) (mn : Nat → Int32) (cx : Nat → Int32) (cy : Nat → Int32) (L : List Nat) (f : Nat → va_E) (f0 : Nat) (dr : Nat) (tg : Nat) (wy : Nat) (br : Nat) (bo : Nat) (aa : Nat) (tx : Nat) (ty : Nat) (nt : Nat) (TX : Nat → Int32) (TY : Nat → Int32) (rt : Int32) (wx : Nat) (wz : Nat) (nw : Nat) (WX : Nat → Int32) (WY : Nat → Int32) (rw : Int32) (dx : Nat) (dy : Nat) (nd : Nat) (cd : Nat) (P : Nat → Int32) (Q : Nat → Int32) (rd : Int32) (b1 : Int32) (b2 : Int32) (b3 : Int32) (b4 : Int32) (b5 : Int32) (b6 : Int32) (b7 : Int32) (b8 : Int32) (AR : Nat → Int32) (LM : Nat) (m9 : Nat) (n1 : Nat) (mn1 : Nat → Int32) (cx1 : Nat → Int32) (cy1 : Nat → Int32) (lim : Int32) (hB : shB cI cO L f e0 FA ea bs dn T ft FT V VX VY tn rk wd tw pa pb wh of9 we kd st gb it mn cx cy) (hd5 : dn + 1 ≤ 512) (hf0 : f0 < ft) (htn : (tn f0).toInt = 0) (hst : (st f0).toInt = 1) (hI : thI ft st tn kd f0 mn cx cy (nN (mn f0))) (hpl : plN ft st tn kd f0 LM m9 mn cx cy (nN (mn f0)) mn1 cx1 cy1 n1) (hL : lim.toInt = ((LM : Nat) : Int)) (hcd : 40 ≤ cd ∧ cd ≤ 1000) (hm1 : 1 ≤ m9) : zML l yX10_plainer cX10_plainer 5 (some .int) ({ frames := 8, cells := ft + 6, slots := 4 * ft + 2 * nN (mn f0) + 815, locals := 182 } : Room) [.ref x, .int (nI f0), .int lim] (dC, dI) (zTyO cI cZ cF cO) e0 mi ([(oc8 x (.ref sh) (.ref lw) (.ref ro) (.ref bq) (.ref bp) (.ref dq) (.ref dp) (.ref lv) (.ref sl) (nI dn) sd ul su), (oc10 sl mc9 (.ref ea) (nI T)), (oc3 lw (.ref dr) (.ref tg) (.ref wy) (.ref br) (.ref bo) (.ref aa)), (oc6 tg (.ref tx) (.ref ty) (nI nt) rt), (oa tx cI 3 TX), (oa ty cI 3 TY), (oc6 wy (.ref wx) (.ref wz) (nI nw) rw), (oa wx cI 2 WX), (oa wz cI 2 WY), (oc6 dr (.ref dx) (.ref dy) (nI nd) rd), (oa dx cI cd P), (oa dy cI cd Q), (oc0 br b1 b2 b3 b4), (oc0 bo b5 b6 b7 b8), (oa aa cI 40 AR), (oc7 sh (.ref fa) (nI ft)), (oq fa cF 200 FA)] ++ va_pl L f) sz (some (.int (nI m9))) (fun A t => ∃ (mc1 : Int32), ∃ (L1 : List Nat), ∃ (f1 : Nat → va_E), ∃ (ea1 : Nat), ∃ (gh9 : Nat → Nat → Int32), ∃ (nt1 : Nat), ∃ (TX1 : Nat → Int32), ∃ (TY1 : Nat → Int32), ∃ (rt1 : Int32), ∃ (nw1 : Nat), ∃ (WX1 : Nat → Int32), ∃ (WY1 : Nat → Int32), ∃ (rw1 : Int32), ∃ (nd1 : Nat), ∃ (P1 : Nat → Int32), ∃ (Q1 : Nat → Int32), ∃ (rd1 : Int32), ∃ (d5 : Int32), ∃ (d6 : Int32), ∃ (d7 : Int32), ∃ (d8 : Int32), ∃ (e5 : Int32), ∃ (e6 : Int32), ∃ (e7 : Int32), ∃ (e8 : Int32), ∃ (AR1 : Nat → Int32), (shB cI cO L1 f1 e0 FA ea1 bs (dn + 1) (dn + 1) ft (upN FT (dn + 1) ft) (upN V (dn + 1) (vC gh9 kd st gb it mn1)) (upN VX (dn + 1) cx1) (upN VY (dn + 1) cy1) tn rk wd tw pa pb (upd wh (dn + 1) (1 : Int32)) (upd of9 (dn + 1) (nI f0)) (upd we (dn + 1) (nI m9)) kd st gb it mn1 cx1 cy1) ∧ (gL (V dn) gh9 f0 (nN (mn f0)) (cF40 cx f0) (cF40 cy f0) n1 (cF40 cx1 f0) (cF40 cy1 f0)) ∧ (∀ p, p ≠ f0 → ∀ j, gh9 j p = V dn j p) ∧ zPD (dC, dI) classes A ([(oc8 x (.ref sh) (.ref lw) (.ref ro) (.ref bq) (.ref bp) (.ref dq) (.ref dp) (.ref lv) (.ref sl) (nI (dn + 1)) sd ul 0), (oc10 sl mc1 (.ref ea1) (nI (dn + 1))), (oc3 lw (.ref dr) (.ref tg) (.ref wy) (.ref br) (.ref bo) (.ref aa)), (oc6 tg (.ref tx) (.ref ty) (nI nt1) rt1), (oa tx cI 3 TX1), (oa ty cI 3 TY1), (oc6 wy (.ref wx) (.ref wz) (nI nw1) rw1), (oa wx cI 2 WX1), (oa wz cI 2 WY1), (oc6 dr (.ref dx) (.ref dy) (nI nd1) rd1), (oa dx cI cd P1), (oa dy cI cd Q1), (oc0 br d5 d6 d7 d8), (oc0 bo e5 e6 e7 e8), (oa aa cI 40 AR1), (oc7 sh (.ref fa) (nI ft)), (oq fa cF 200 FA)] ++ va_pl L1 f1) t.heap) (ft + 6) (4 * ft + 2 * nN (mn f0) + 815) := by
  refine zInL (own := "ScaleShop") (loc := [(0, .ref x), (1, .int (nI f0)), (2, .int lim)]) rfl rfl rfl rfl (fun p e s m below meth c hx hb hr hts hown hlocks hml hnm9 A hA hS hP hD hK hXL hXN hK3 Q9 hQ9 ls hl => ?_)
  obtain ⟨own, fe, cl, la, sp, SA, hG9, hH9, hft9, hO9⟩ := hB
  obtain ⟨hG, hM, hdT, hT5, hO⟩ := M_0 hG9 hH9 hft9 hO9
  have h200 : ft ≤ 200 := hG.2.2.2.2.2.1.2.2.2.2.2
  have hFA9 := hG.2.2.2.2.2.2
  refine ex13 (sh_fc hG.1 hG.2.1 (Nat.le_refl _) hf0 htn) (fun lo5 lx5 ly5 ln5 LX5 LY5 we5 r5 rx5 ry5 cap5 X5 Y5 hc5 => ?_)
  have hc5 := fc_0 hc5
  have hb5 := hc5.2.2.1
  have hb6 := hc5.2.1
  have hat9 := lo_at hO (Nat.le_refl _) hf0 hc5.1.1 hc5.1.2.2.2 (by omega) hc5.1.2.1 hb5.2.2
  have hpe := plN_end _ _ _ _ _ _ _ _ _ hI.1 hpl
  have hbd := hc5.2.2.2.2.2 hI.2.2.2.1
  have hn40 := hI.1.2.1
  have hds9 := dsR_cg hc5.2.2.2.2.1 (mSm_ds (by have := hI.2.2.2.1; omega) hI.2.1)
  have hc9_1 : inPl L f [(oc1 (fe f0) (rk f0) (wd f0) (tw f0) (pa f0) (pb f0) (.ref lo5) (.ref (la dn f0)) .null), (oc4 (la dn f0) (kd f0) (st f0) (.ref r5) (gb f0) (it f0) (nI we5)), (oc6 r5 (.ref rx5) (.ref ry5) (nI (nN (mn f0))) (rgK (kd f0).toInt)), (oa rx5 cI cap5 X5), (oa ry5 cI cap5 Y5), (oc6 lo5 (.ref lx5) (.ref ly5) (nI ln5) 0), (oa lx5 cI (cl f0) LX5), (oa ly5 cI (cl f0) LY5)] := ⟨ce_pl hc5.1.1, ce_pl hc5.1.2.1, ce_pl hc5.1.2.2.1.1, ce_pl hc5.1.2.2.1.2.1, ce_pl hc5.1.2.2.1.2.2.1, ce_pl hc5.1.2.2.2.1, ce_pl hc5.1.2.2.2.2.1, ce_pl hc5.1.2.2.2.2.2.1, trivial⟩
  have hD0_1 := hD
  obtain ⟨T_1, hT_1, hP, hD⟩ := pl_oT hP hD hc9_1 (pw8 hc5 (by omega))
  obtain ⟨hP, hD⟩ := zre (W2 := ([_, _, _, _, _, _, _, _, _, _, _, _, _, _, _, _, _, _, _, _, _, _, _, _, _] ++ va_pl T_1 f)) hP hD rfl
  refine lv_aload_n hx hb dX10_plainer_0 rfl (lv_at hl 0 rfl) ?_
  refine va_get (D := (dC, dI)) (ci := 8) (v := .ref sh) (C := RX10) (T := TX10) (N := 13) hx hb hts inX10 hown hK hP 0 rfl rfl 0 (Nat.le_of_ble_eq_true rfl) (hts _ mw_309) (fun _ h9 => h9) rfl dX10_plainer_1 ?_
  refine lv_iload_n hx hb dX10_plainer_4 rfl (lv_at hl 1 rfl) ?_
  obtain ⟨hPc, hDc, hFc, hI1⟩ := zi_sub (wc := [_, _]) hP hD hS hA [15, 16] rfl rfl
  refine zcall (st1 := [.ref (fe f0)]) (va_runV (As := [.int (nI f0)]) (rest := []) ⟨hx, hb, hml, hown, hts⟩ (k_Sheet_find l dC dI cI cZ cF s.heap.size sh fa ft FA f0 (fe f0) (by first | with_reducible assumption | omega) (by first | with_reducible assumption | omega) (hFA9 f0 (by first | with_reducible assumption | omega))) (csV_94 hts rfl rfl ⟨Nat.le_of_ble_eq_true rfl, Nat.le_of_ble_eq_true rfl⟩) (zPV2 (q0 := 0) (ci := 7) hPc hDc hK3 hXN rfl rfl) rfl rfl hl.1 rfl (lv_room (Nat.le_of_ble_eq_true rfl)) dX10_plainer_5 ⟨Nat.zero_le _, Nat.zero_le _⟩) hS hFc hFc rfl (fun t H locs ht hB hk1 hS => ?_)
  obtain ⟨hP1, hD1⟩ := hB
  rw [ht] at hP1
  replace hP := z0 hP hD hk1 hP1 hI1
  clear hk1 hPc hDc hFc hP1 hD1 ht hI1
  refine lv_astore_n (lv' := [(3, .ref (fe f0)), (0, .ref x), (1, .int (nI f0)), (2, .int lim)]) hx hb dX10_plainer_8 rfl hl (Nat.le_of_ble_eq_true rfl) rfl (fun ls hl => ?_)
  refine lv_aload_n hx hb dX10_plainer_9 rfl (lv_at hl 0 rfl) ?_
  refine lv_ifnonnull (tgt := 19) hx hb dX10_plainer_10 rfl ?_
  refine lv_aload_n hx hb dX10_plainer_19 rfl (lv_at hl 0 rfl) ?_
  refine va_get (D := (dC, dI)) (ci := 1) (v := .ref (la dn f0)) (C := RX2) (T := TX2) (N := 8) hx hb hts inX2 hown hK hP 17 rfl rfl 6 (Nat.le_of_ble_eq_true rfl) (hts _ mw_433) (fun _ h9 => h9) rfl dX10_plainer_20 ?_
  refine va_get (D := (dC, dI)) (ci := 4) (v := .int (st f0)) (C := RX5) (T := TX5) (N := 6) hx hb hts inX5 hown hK hP 18 rfl rfl 1 (Nat.le_of_ble_eq_true rfl) (hts _ mw_385) (fun _ h9 => h9) rfl dX10_plainer_23 ?_
  refine lv_iconst (v := 1) hx hb dX10_plainer_26 rfl ?_
  refine lv_icmp_eq (tgt := 36) hx hb dX10_plainer_27 rfl (fun c_1 => ?_) (fun c_1 => ?_)
  · have c_1 : (st f0).toInt = 1 := zc_eq rfl rfl c_1
    refine lv_aload_n hx hb dX10_plainer_36 rfl (lv_at hl 0 rfl) ?_
    obtain ⟨hPc, hDc, hFc, hI1⟩ := zi_sub (wc := [_, _]) hP hD hS hA [17, 18] rfl rfl
    refine zcall (st1 := [.int (pI (1 ≤ (kd f0).toInt ∧ (kd f0).toInt ≤ 5))]) (va_runV (As := []) (rest := []) ⟨hx, hb, hml, hown, hts⟩ (k_Feature_bends_r l dC dI cI cZ cF H.size (fe f0) lo5 (rk f0) (wd f0) (tw f0) (pa f0) (pb f0) (la dn f0) (kd f0) (st f0) (gb f0) (it f0) (nI we5) r5 ) (csV_97 hts rfl rfl ⟨Nat.le_of_ble_eq_true rfl, Nat.le_of_ble_eq_true rfl⟩) (zPV2 (q0 := 0) (ci := 1) hPc hDc hK3 hXN rfl rfl) rfl rfl hl.1 rfl (lv_room (Nat.le_of_ble_eq_true rfl)) dX10_plainer_37 ⟨Nat.zero_le _, Nat.zero_le _⟩) hS hFc hFc rfl (fun t H locs ht hB hk1 hS => ?_)
    obtain ⟨hP1, hD1⟩ := hB
    rw [ht] at hP1
    replace hP := z0 hP hD hk1 hP1 hI1
    clear hk1 hPc hDc hFc hP1 hD1 ht hI1
    refine lv_if_ne (tgt := 49) hx hb dX10_plainer_40 rfl (fun c_2 => ?_) (fun c_2 => ?_)
    · have c_2 : 1 ≤ (kd f0).toInt ∧ (kd f0).toInt ≤ 5 := zp_1 c_2
      refine lv_iload_n hx hb dX10_plainer_49 rfl (lv_at hl 3 rfl) ?_
      refine lv_if_ge (tgt := 59) hx hb dX10_plainer_50 rfl (fun c_3 => ?_) (fun c_3 => ?_)
      · have c_3 : 0 ≤ lim.toInt := zc_le rfl rfl c_3
        refine lv_aload_n hx hb dX10_plainer_59 rfl (lv_at hl 0 rfl) ?_
        refine va_get (D := (dC, dI)) (ci := 1) (v := .ref (la dn f0)) (C := RX2) (T := TX2) (N := 8) hx hb hts inX2 hown hK hP 17 rfl rfl 6 (Nat.le_of_ble_eq_true rfl) (hts _ mw_433) (fun _ h9 => h9) rfl dX10_plainer_60 ?_
        refine va_get (D := (dC, dI)) (ci := 4) (v := .ref r5) (C := RX5) (T := TX5) (N := 6) hx hb hts inX5 hown hK hP 18 rfl rfl 2 (Nat.le_of_ble_eq_true rfl) (hts _ mw_391) (fun _ h9 => h9) rfl dX10_plainer_63 ?_
        refine lv_ifnonnull (tgt := 75) hx hb dX10_plainer_66 rfl ?_
        refine lv_aload_n hx hb dX10_plainer_75 rfl (lv_at hl 1 rfl) ?_
        refine lv_aload_n hx hb dX10_plainer_76 rfl (lv_at hl 0 rfl) ?_
        refine lv_iload_n hx hb dX10_plainer_77 rfl (lv_at hl 3 rfl) ?_
        obtain ⟨hPc, hDc, hFc⟩ := zo_part (cx := [_, _, _, _, _, _, _, _, _, _, _, _, _, _, _, _, _, _, _, _, _, _, _, _]) hP hD hS hA [0, 2, 3, 4, 5, 6, 7, 8, 9, 10, 11, 12, 13, 14, 15, 16, 17, 18, 19, 20, 21, 22, 23, 24] (by decide +kernel) rfl
        refine zcall (st1 := [.int (nI m9)]) (va_runV (As := [.ref (fe f0), .int lim]) (rest := []) ⟨hx, hb, hml, hown, hts⟩ (k_thin_y l dC dI cI cZ cF H.size x ro bq bp dq dp lv sl (nI dn) sd ul su lw dr tg wy br bo aa tx ty nt TX TY rt wx wz nw WX WY rw dx dy nd cd P Q rd b1 b2 b3 b4 b5 b6 b7 b8 AR sh fa ft FA (fe f0) lo5 (rk f0) (wd f0) (tw f0) (pa f0) (pb f0) (la dn f0) (gb f0) (it f0) r5 rx5 ry5 (nN (mn f0)) cap5 X5 Y5 ln5 (cl f0) lx5 ly5 LX5 LY5 f0 we5 LM m9 n1 T_1 f kd st tn mn cx cy mn1 cx1 cy1 lim (by first | with_reducible assumption | omega) (by first | with_reducible assumption | omega) (hFA9 f0 (by first | with_reducible assumption | omega)) (by rw [← hT_1]; exact fc_vw hc5 (by first | with_reducible assumption | omega) (by first | with_reducible assumption | omega) hG.1 hG.2.1 hFA9 (Nat.le_refl _)) (hI) (hpl) (hL) (hc5.2.2.2.2.1) (by first | with_reducible assumption | omega) (by first | with_reducible assumption | omega) (by first | with_reducible assumption | omega) (hds9) (hat9.2) (by first | with_reducible assumption | assumption)) (csV_108 hts rfl rfl ⟨Nat.le_of_ble_eq_true rfl, Nat.le_of_ble_eq_true rfl⟩) (zPV2 (q0 := 0) (ci := 8) hPc hDc hK3 hXN rfl rfl) rfl rfl hl.1 rfl (lv_room (Nat.le_of_ble_eq_true rfl)) dX10_plainer_78 ⟨show (0 + 4) ≤ ft + 6 by omega, show (0 + (2 * (nN (mn f0)) + 10)) ≤ 4 * ft + 2 * nN (mn f0) + 815 by omega⟩) hS hFc hFc rfl (fun t H locs ht hB hk1 hS => ?_)
        refine ex30 hB (fun q7 w7 wx7 wy7 nt6 TX6 TY6 rt6 nw6 WX6 WY6 rw6 nd6 P6 Q6 rd6 g06 g16 g26 g36 g46 g56 g66 g76 AR6 X7 Y7 LX7 LY7 lc7 hB0 => ?_)
        clear hB
        obtain ⟨hXo7, hlc7, hls7, hwl7, hP1, hD1⟩ := hB0
        rw [ht] at hP1
        obtain ⟨hP, hD⟩ := znP (W2 := [_, (oc8 x (.ref sh) (.ref lw) (.ref ro) (.ref bq) (.ref bp) (.ref dq) (.ref dp) (.ref lv) (.ref sl) (nI dn) sd ul su), (oc3 lw (.ref dr) (.ref tg) (.ref wy) (.ref br) (.ref bo) (.ref aa)), (oc6 tg (.ref tx) (.ref ty) (nI nt6) rt6), (oa tx cI 3 TX6), (oa ty cI 3 TY6), (oc6 wy (.ref wx) (.ref wz) (nI nw6) rw6), (oa wx cI 2 WX6), (oa wz cI 2 WY6), (oc6 dr (.ref dx) (.ref dy) (nI nd6) rd6), (oa dx cI cd P6), (oa dy cI cd Q6), (oc0 br g06 g16 g26 g36), (oc0 bo g46 g56 g66 g76), (oa aa cI 40 AR6), (oc7 sh (.ref fa) (nI ft)), (oq fa cF 200 FA), (oc1 (fe f0) (rk f0) (wd f0) (tw f0) (pa f0) (pb f0) (.ref lo5) (.ref q7) (.ref (la dn f0))), (oc4 (la dn f0) (kd f0) (st f0) (.ref r5) (gb f0) (it f0) (nI we5)), (oc6 r5 (.ref rx5) (.ref ry5) (nI (nN (mn f0))) (rgK (kd f0).toInt)), (oa rx5 cI cap5 X5), (oa ry5 cI cap5 Y5), (oc4 q7 (kd f0) (st f0) (.ref w7) (gb f0) (it f0) (nI (we5 + m9))), (oc6 w7 (.ref wx7) (.ref wy7) (nI n1) (rgK (kd f0).toInt)), (oa wx7 cI (nN (mn f0)) X7), (oa wy7 cI (nN (mn f0)) Y7), (oc6 lo5 (.ref lx5) (.ref ly5) (nI lc7) 0), (oa lx5 cI (cl f0) LX7), (oa ly5 cI (cl f0) LY7)]) hP hD hk1 hFc hP1 hD1 zl_61 [false, true] zl_62 zl_63 (by decide +kernel) rfl rfl rfl rfl rfl
        clear hk1 hPc hDc hFc hP1 hD1 ht
        refine lv_istore (lv' := [(4, .int (nI m9)), (3, .ref (fe f0)), (0, .ref x), (1, .int (nI f0)), (2, .int lim)]) hx hb dX10_plainer_81 hl (Nat.le_of_ble_eq_true rfl) rfl (fun ls hl => ?_)
        refine lv_iload hx hb dX10_plainer_83 (lv_at hl 0 rfl) ?_
        have b9_5 : zlt (m9) := show m9 < 2147483648 by omega
        refine lv_if_ne (tgt := 95) hx hb dX10_plainer_85 rfl (fun c_4 => ?_) (fun c_4 => ?_)
        · have c_4 : ¬ ((m9 : Nat) : Int) = 0 := zc_ne (nI_toInt b9_5) rfl c_4
          obtain ⟨hP, hD⟩ := zq_part (cx := [_, _, _, _, _, _, _, _, _, _, _, _, _, _, _, _, _, _, _, _, _, _, _, _, _, _, _, _, _]) hP hD [0, 1, 2, 3, 4, 5, 6, 7, 8, 9, 10, 11, 12, 13, 14, 15, 16, 17, 18, 19, 20, 21, 26, 27, 28, 22, 23, 24, 25] rfl rfl
          obtain ⟨Lp1, fp1, hP, hD, hpin_1⟩ := pl_pn (X := [_, _, _, _, _, _, _, _, _, _, _, _, _, _, _, _, _]) (old := [_, _, _, _, _, _, _, _]) (new := [_, _, _, _]) (cs1 := [_, _, _, _, _, _, _, _, _, _, _, _]) (L := L) (cs := [(oc1 (fe f0) (rk f0) (wd f0) (tw f0) (pa f0) (pb f0) (.ref lo5) (.ref (la dn f0)) .null), (oc4 (la dn f0) (kd f0) (st f0) (.ref r5) (gb f0) (it f0) (nI we5)), (oc6 r5 (.ref rx5) (.ref ry5) (nI (nN (mn f0))) (rgK (kd f0).toInt)), (oa rx5 cI cap5 X5), (oa ry5 cI cap5 Y5), (oc6 lo5 (.ref lx5) (.ref ly5) (nI ln5) 0), (oa lx5 cI (cl f0) LX5), (oa ly5 cI (cl f0) LY5)]) hT_1 hP hD rfl rfl rfl
          obtain ⟨hfr_1, hkp_1, hce_1, hsx_1, hpw_1⟩ := id hpin_1
          obtain ⟨own1, nw1, md1, fm1, hG1, hM1, hmd1, hO1⟩ := M_resh (gh1 := (gU (V dn) f0 (we5 + m9) LX7 LY7)) (kd1 := kd) (st1 := st) (gb1 := gb) (it1 := it) (mn1 := mn1) (cx1 := cx1) (cy1 := cy1) hG hM rfl hf0 (by rw [← hft9]; exact hf0) (by omega) (by omega) htn hc5 ⟨rfl, rfl, rfl, rfl⟩ hpin_1 (fun p hp => ⟨rfl, rfl, rfl, rfl, hpe.2.2.1 p hp, fun k hk => hpe.2.2.2.1 (40 * p + k) (by omega)⟩) rfl rfl rfl rfl rfl (by rw [hpe.1.1]; exact nN_n9 (by have := hpe.1.2.1; omega)) hXo7 (by omega) hlc7 (fun g => ⟨g, by omega⟩) hO hls7.1 ⟨by omega, hwl7⟩ (gE_U (by omega)) (fun p hp => gU_o hp)
          refine lv_aload_n hx hb dX10_plainer_95 rfl (lv_at hl 2 rfl) ?_
          refine lv_iconst (v := 1) hx hb dX10_plainer_96 rfl ?_
          refine lv_iload_n hx hb dX10_plainer_97 rfl (lv_at hl 3 rfl) ?_
          refine lv_iload hx hb dX10_plainer_98 (lv_at hl 0 rfl) ?_
          refine lv_null hx hb dX10_plainer_100 ?_
          obtain ⟨hPc, hDc, hFc⟩ := zo_part (cx := [_, _, _, _]) hP hD hS hA [1, 0, 15, 16] (by decide +kernel) rfl
          refine zcall (st1 := [.int 1]) (va_runV (As := [.int 1, .int (nI f0), .int (nI m9), .null]) (rest := []) ⟨hx, hb, hml, hown, hts⟩ (k_book_n l dC dI cI cZ cF H.size cO e0 mi x sh lw ro bq bp dq dp lv sl sd ul su sl ea T mc9 fa FA own1 fe cl la nw1 md1 sp fm1 SA bs dn ft FT V VX VY (gU (V dn) f0 (we5 + m9) LX7 LY7) tn rk wd tw pa pb wh of9 we kd st gb it mn1 cx1 cy1 1 (nI f0) (nI m9) Lp1 fp1 (hG1) (hM1) (hO1) (hdT) (hT5) (by first | with_reducible assumption | omega) (fun q h1 h2 => by omega) (hft9)) (csV_101 hts rfl rfl ⟨Nat.le_of_ble_eq_true rfl, Nat.le_of_ble_eq_true rfl⟩) (zPVL (q0 := 0) (ci := 8) hPc hDc hK hXL hS hFc rfl rfl) rfl rfl hl.1 rfl (lv_room (Nat.le_of_ble_eq_true rfl)) dX10_plainer_101 ⟨show ((0 + 4) + (ft + 2)) ≤ ft + 6 by omega, show ((0 + (2 * (nN (mn f0)) + 10)) + (4 * ft + 805)) ≤ 4 * ft + 2 * nN (mn f0) + 815 by omega⟩) hS hFc hFc rfl (fun t H locs ht hB hk1 hS => ?_)
          obtain ⟨mc6, L6, f6, ea6, hB6, hP1, hD1⟩ := hB
          rw [ht] at hP1
          obtain ⟨hP, hD⟩ := znP (W2 := [(oc10 sl mc6 (.ref ea6) (nI (dn + 1))), (oc8 x (.ref sh) (.ref lw) (.ref ro) (.ref bq) (.ref bp) (.ref dq) (.ref dp) (.ref lv) (.ref sl) (nI (dn + 1)) sd ul 0), _, _, _, _, _, _, _, _, _, _, _, _, _, _, _]) hP hD hk1 hFc hP1 hD1 [1, 0, 15, 16] zl_64 zl_65 [1, 0, 15, 16] (by decide +kernel) rfl rfl rfl rfl rfl
          clear hk1 hPc hDc hFc hP1 hD1 ht
          refine lv_pop hx hb dX10_plainer_104 rfl ?_
          refine lv_iload hx hb dX10_plainer_105 (lv_at hl 0 rfl) ?_
          obtain ⟨hP9, hD9⟩ := zq_part (cx := [_, _, _, _, _, _, _, _, _, _, _, _, _, _, _, _, _]) hP hD [1, 0, 2, 3, 4, 5, 6, 7, 8, 9, 10, 11, 12, 13, 14, 15, 16] rfl rfl
          refine W.widen (k := ft + 6) (n := 4 * ft + 2 * nN (mn f0) + 815) (by omega) (by omega) ?_
          rw [hQ9]
          exact W.iret (v := nI m9) hx hb hr (fun t ht hW => ⟨⟨rfl, mc6, L6, f6, ea6, (gU (V dn) f0 (we5 + m9) LX7 LY7), nt6, TX6, TY6, rt6, nw6, WX6, WY6, rw6, nd6, P6, Q6, rd6, g06, g16, g26, g36, g46, g56, g66, g76, AR6, (hB6), (gL_i hls7 hat9.1 (gE_U (by omega)) (by omega)), (fun p hp => gU_o hp), by rw [ht]; exact hP9, hD9⟩, hS.F ht⟩) hS.2.2 dX10_plainer_107
        · have c_4 : ((m9 : Nat) : Int) = 0 := zc_eq (nI_toInt b9_5) rfl c_4
          exfalso; omega
      · have c_3 : lim.toInt < 0 := zc_nle rfl rfl c_3
        exfalso; omega
    · have c_2 : ¬ (1 ≤ (kd f0).toInt ∧ (kd f0).toInt ≤ 5) := zp_0 c_2
      exfalso; exact absurd hI.2.2.2.1 (by first | with_reducible assumption | assumption)
  · have c_1 : ¬ (st f0).toInt = 1 := zc_ne rfl rfl c_1
    exfalso; omega
set_option maxHeartbeats 4000000 in
set_option maxRecDepth 100000 in
theorem k_plainer_0 (l : Launch) (dC : Nat → ClassId) (dI : Nat → Nat → Nat) (cI cZ cF : ClassId) (sz : Nat) (cO : ClassId) (e0 : Nat) (mi : Nat) (x : Nat) (sh : Nat) (lw : Nat) (ro : Nat) (bq : Nat) (bp : Nat) (dq : Nat) (dp : Nat) (lv : Nat) (sl : Nat) (sd : Int32) (ul : Int32) (su : Int32) (ea : Nat) (mc9 : Int32) (fa : Nat) (FA : Nat → Option Nat) (bs : Nat) (dn : Nat) (T : Nat) (ft : Nat) (FT : Nat → Nat) (V : Nat → Nat → Nat → Int32) (VX : Nat → Nat → Int32) (VY : Nat → Nat → Int32) (tn : Nat → Int32) (rk : Nat → Int32) (wd : Nat → Int32) (tw : Nat → Int32) (pa : Nat → Int32) (pb : Nat → Int32) (wh : Nat → Int32) (of9 : Nat → Int32) (we : Nat → Int32) (kd : Nat → Int32) (st : Nat → Int32) (gb : Nat → Int32) (it : Nat → Int32) (mn : Nat → Int32) (cx : Nat → Int32) (cy : Nat → Int32) (L : List Nat) (f : Nat → va_E) (f0 : Nat) (dr : Nat) (tg : Nat) (wy : Nat) (br : Nat) (bo : Nat) (aa : Nat) (tx : Nat) (ty : Nat) (nt : Nat) (TX : Nat → Int32) (TY : Nat → Int32) (rt : Int32) (wx : Nat) (wz : Nat) (nw : Nat) (WX : Nat → Int32) (WY : Nat → Int32) (rw : Int32) (dx : Nat) (dy : Nat) (nd : Nat) (cd : Nat) (P : Nat → Int32) (Q : Nat → Int32) (rd : Int32) (b1 : Int32) (b2 : Int32) (b3 : Int32) (b4 : Int32) (b5 : Int32) (b6 : Int32) (b7 : Int32) (b8 : Int32) (AR : Nat → Int32) (LM : Nat) (m9 : Nat) (n1 : Nat) (mn1 : Nat → Int32) (cx1 : Nat → Int32) (cy1 : Nat → Int32) (lim : Int32) (hB : shB cI cO L f e0 FA ea bs dn T ft FT V VX VY tn rk wd tw pa pb wh of9 we kd st gb it mn cx cy) (hf0 : f0 < ft) (htn : (tn f0).toInt = 0) (hst : (st f0).toInt = 1) (hI : thI ft st tn kd f0 mn cx cy (nN (mn f0))) (hpl : plN ft st tn kd f0 LM m9 mn cx cy (nN (mn f0)) mn1 cx1 cy1 n1) (hL : lim.toInt = ((LM : Nat) : Int)) (hcd : 40 ≤ cd ∧ cd ≤ 1000) (hm0 : m9 = 0) : zML l yX10_plainer cX10_plainer 5 (some .int) ({ frames := 7, cells := 0, slots := 0, locals := 182 } : Room) [.ref x, .int (nI f0), .int lim] (dC, dI) (zTyO cI cZ cF cO) e0 mi ([(oc8 x (.ref sh) (.ref lw) (.ref ro) (.ref bq) (.ref bp) (.ref dq) (.ref dp) (.ref lv) (.ref sl) (nI dn) sd ul su), (oc10 sl mc9 (.ref ea) (nI T)), (oc3 lw (.ref dr) (.ref tg) (.ref wy) (.ref br) (.ref bo) (.ref aa)), (oc6 tg (.ref tx) (.ref ty) (nI nt) rt), (oa tx cI 3 TX), (oa ty cI 3 TY), (oc6 wy (.ref wx) (.ref wz) (nI nw) rw), (oa wx cI 2 WX), (oa wz cI 2 WY), (oc6 dr (.ref dx) (.ref dy) (nI nd) rd), (oa dx cI cd P), (oa dy cI cd Q), (oc0 br b1 b2 b3 b4), (oc0 bo b5 b6 b7 b8), (oa aa cI 40 AR), (oc7 sh (.ref fa) (nI ft)), (oq fa cF 200 FA)] ++ va_pl L f) sz (some (.int (-1))) (fun A t => ∃ (nt1 : Nat), ∃ (TX1 : Nat → Int32), ∃ (TY1 : Nat → Int32), ∃ (rt1 : Int32), ∃ (nw1 : Nat), ∃ (WX1 : Nat → Int32), ∃ (WY1 : Nat → Int32), ∃ (rw1 : Int32), ∃ (nd1 : Nat), ∃ (P1 : Nat → Int32), ∃ (Q1 : Nat → Int32), ∃ (rd1 : Int32), ∃ (d5 : Int32), ∃ (d6 : Int32), ∃ (d7 : Int32), ∃ (d8 : Int32), ∃ (e5 : Int32), ∃ (e6 : Int32), ∃ (e7 : Int32), ∃ (e8 : Int32), ∃ (AR1 : Nat → Int32), zPD (dC, dI) classes A ([(oc8 x (.ref sh) (.ref lw) (.ref ro) (.ref bq) (.ref bp) (.ref dq) (.ref dp) (.ref lv) (.ref sl) (nI dn) sd ul 8), (oc10 sl mc9 (.ref ea) (nI T)), (oc3 lw (.ref dr) (.ref tg) (.ref wy) (.ref br) (.ref bo) (.ref aa)), (oc6 tg (.ref tx) (.ref ty) (nI nt1) rt1), (oa tx cI 3 TX1), (oa ty cI 3 TY1), (oc6 wy (.ref wx) (.ref wz) (nI nw1) rw1), (oa wx cI 2 WX1), (oa wz cI 2 WY1), (oc6 dr (.ref dx) (.ref dy) (nI nd1) rd1), (oa dx cI cd P1), (oa dy cI cd Q1), (oc0 br d5 d6 d7 d8), (oc0 bo e5 e6 e7 e8), (oa aa cI 40 AR1), (oc7 sh (.ref fa) (nI ft)), (oq fa cF 200 FA)] ++ va_pl L f) t.heap) 0 0 := by
  refine zInL (own := "ScaleShop") (loc := [(0, .ref x), (1, .int (nI f0)), (2, .int lim)]) rfl rfl rfl rfl (fun p e s m below meth c hx hb hr hts hown hlocks hml hnm9 A hA hS hP hD hK hXL hXN hK3 Q9 hQ9 ls hl => ?_)
  obtain ⟨own, fe, cl, la, sp, SA, hG9, hH9, hft9, hO9⟩ := hB
  obtain ⟨hG, hM, hdT, hT5, hO⟩ := M_0 hG9 hH9 hft9 hO9
  have h200 : ft ≤ 200 := hG.2.2.2.2.2.1.2.2.2.2.2
  have hFA9 := hG.2.2.2.2.2.2
  refine ex13 (sh_fc hG.1 hG.2.1 (Nat.le_refl _) hf0 htn) (fun lo5 lx5 ly5 ln5 LX5 LY5 we5 r5 rx5 ry5 cap5 X5 Y5 hc5 => ?_)
  have hc5 := fc_0 hc5
  have hb5 := hc5.2.2.1
  have hb6 := hc5.2.1
  have hat9 := lo_at hO (Nat.le_refl _) hf0 hc5.1.1 hc5.1.2.2.2 (by omega) hc5.1.2.1 hb5.2.2
  have hpe := plN_end _ _ _ _ _ _ _ _ _ hI.1 hpl
  have hbd := hc5.2.2.2.2.2 hI.2.2.2.1
  have hn40 := hI.1.2.1
  have hds9 := dsR_cg hc5.2.2.2.2.1 (mSm_ds (by have := hI.2.2.2.1; omega) hI.2.1)
  have hc9_1 : inPl L f [(oc1 (fe f0) (rk f0) (wd f0) (tw f0) (pa f0) (pb f0) (.ref lo5) (.ref (la dn f0)) .null), (oc4 (la dn f0) (kd f0) (st f0) (.ref r5) (gb f0) (it f0) (nI we5)), (oc6 r5 (.ref rx5) (.ref ry5) (nI (nN (mn f0))) (rgK (kd f0).toInt)), (oa rx5 cI cap5 X5), (oa ry5 cI cap5 Y5), (oc6 lo5 (.ref lx5) (.ref ly5) (nI ln5) 0), (oa lx5 cI (cl f0) LX5), (oa ly5 cI (cl f0) LY5)] := ⟨ce_pl hc5.1.1, ce_pl hc5.1.2.1, ce_pl hc5.1.2.2.1.1, ce_pl hc5.1.2.2.1.2.1, ce_pl hc5.1.2.2.1.2.2.1, ce_pl hc5.1.2.2.2.1, ce_pl hc5.1.2.2.2.2.1, ce_pl hc5.1.2.2.2.2.2.1, trivial⟩
  have hD0_1 := hD
  obtain ⟨T_1, hT_1, hP, hD⟩ := pl_oT hP hD hc9_1 (pw8 hc5 (by omega))
  obtain ⟨hP, hD⟩ := zre (W2 := ([_, _, _, _, _, _, _, _, _, _, _, _, _, _, _, _, _, _, _, _, _, _, _, _, _] ++ va_pl T_1 f)) hP hD rfl
  refine lv_aload_n hx hb dX10_plainer_0 rfl (lv_at hl 0 rfl) ?_
  refine va_get (D := (dC, dI)) (ci := 8) (v := .ref sh) (C := RX10) (T := TX10) (N := 13) hx hb hts inX10 hown hK hP 0 rfl rfl 0 (Nat.le_of_ble_eq_true rfl) (hts _ mw_309) (fun _ h9 => h9) rfl dX10_plainer_1 ?_
  refine lv_iload_n hx hb dX10_plainer_4 rfl (lv_at hl 1 rfl) ?_
  obtain ⟨hPc, hDc, hFc, hI1⟩ := zi_sub (wc := [_, _]) hP hD hS hA [15, 16] rfl rfl
  refine zcall (st1 := [.ref (fe f0)]) (va_runV (As := [.int (nI f0)]) (rest := []) ⟨hx, hb, hml, hown, hts⟩ (k_Sheet_find l dC dI cI cZ cF s.heap.size sh fa ft FA f0 (fe f0) (by first | with_reducible assumption | omega) (by first | with_reducible assumption | omega) (hFA9 f0 (by first | with_reducible assumption | omega))) (csV_94 hts rfl rfl ⟨Nat.le_of_ble_eq_true rfl, Nat.le_of_ble_eq_true rfl⟩) (zPV2 (q0 := 0) (ci := 7) hPc hDc hK3 hXN rfl rfl) rfl rfl hl.1 rfl (lv_room (Nat.le_of_ble_eq_true rfl)) dX10_plainer_5 ⟨Nat.le_of_ble_eq_true rfl, Nat.le_of_ble_eq_true rfl⟩) hS hFc hFc rfl (fun t H locs ht hB hk1 hS => ?_)
  obtain ⟨hP1, hD1⟩ := hB
  rw [ht] at hP1
  replace hP := z0 hP hD hk1 hP1 hI1
  clear hk1 hPc hDc hFc hP1 hD1 ht hI1
  refine lv_astore_n (lv' := [(3, .ref (fe f0)), (0, .ref x), (1, .int (nI f0)), (2, .int lim)]) hx hb dX10_plainer_8 rfl hl (Nat.le_of_ble_eq_true rfl) rfl (fun ls hl => ?_)
  refine lv_aload_n hx hb dX10_plainer_9 rfl (lv_at hl 0 rfl) ?_
  refine lv_ifnonnull (tgt := 19) hx hb dX10_plainer_10 rfl ?_
  refine lv_aload_n hx hb dX10_plainer_19 rfl (lv_at hl 0 rfl) ?_
  refine va_get (D := (dC, dI)) (ci := 1) (v := .ref (la dn f0)) (C := RX2) (T := TX2) (N := 8) hx hb hts inX2 hown hK hP 17 rfl rfl 6 (Nat.le_of_ble_eq_true rfl) (hts _ mw_433) (fun _ h9 => h9) rfl dX10_plainer_20 ?_
  refine va_get (D := (dC, dI)) (ci := 4) (v := .int (st f0)) (C := RX5) (T := TX5) (N := 6) hx hb hts inX5 hown hK hP 18 rfl rfl 1 (Nat.le_of_ble_eq_true rfl) (hts _ mw_385) (fun _ h9 => h9) rfl dX10_plainer_23 ?_
  refine lv_iconst (v := 1) hx hb dX10_plainer_26 rfl ?_
  refine lv_icmp_eq (tgt := 36) hx hb dX10_plainer_27 rfl (fun c_1 => ?_) (fun c_1 => ?_)
  · have c_1 : (st f0).toInt = 1 := zc_eq rfl rfl c_1
    refine lv_aload_n hx hb dX10_plainer_36 rfl (lv_at hl 0 rfl) ?_
    obtain ⟨hPc, hDc, hFc, hI1⟩ := zi_sub (wc := [_, _]) hP hD hS hA [17, 18] rfl rfl
    refine zcall (st1 := [.int (pI (1 ≤ (kd f0).toInt ∧ (kd f0).toInt ≤ 5))]) (va_runV (As := []) (rest := []) ⟨hx, hb, hml, hown, hts⟩ (k_Feature_bends_r l dC dI cI cZ cF H.size (fe f0) lo5 (rk f0) (wd f0) (tw f0) (pa f0) (pb f0) (la dn f0) (kd f0) (st f0) (gb f0) (it f0) (nI we5) r5 ) (csV_97 hts rfl rfl ⟨Nat.le_of_ble_eq_true rfl, Nat.le_of_ble_eq_true rfl⟩) (zPV2 (q0 := 0) (ci := 1) hPc hDc hK3 hXN rfl rfl) rfl rfl hl.1 rfl (lv_room (Nat.le_of_ble_eq_true rfl)) dX10_plainer_37 ⟨Nat.le_of_ble_eq_true rfl, Nat.le_of_ble_eq_true rfl⟩) hS hFc hFc rfl (fun t H locs ht hB hk1 hS => ?_)
    obtain ⟨hP1, hD1⟩ := hB
    rw [ht] at hP1
    replace hP := z0 hP hD hk1 hP1 hI1
    clear hk1 hPc hDc hFc hP1 hD1 ht hI1
    refine lv_if_ne (tgt := 49) hx hb dX10_plainer_40 rfl (fun c_2 => ?_) (fun c_2 => ?_)
    · have c_2 : 1 ≤ (kd f0).toInt ∧ (kd f0).toInt ≤ 5 := zp_1 c_2
      refine lv_iload_n hx hb dX10_plainer_49 rfl (lv_at hl 3 rfl) ?_
      refine lv_if_ge (tgt := 59) hx hb dX10_plainer_50 rfl (fun c_3 => ?_) (fun c_3 => ?_)
      · have c_3 : 0 ≤ lim.toInt := zc_le rfl rfl c_3
        refine lv_aload_n hx hb dX10_plainer_59 rfl (lv_at hl 0 rfl) ?_
        refine va_get (D := (dC, dI)) (ci := 1) (v := .ref (la dn f0)) (C := RX2) (T := TX2) (N := 8) hx hb hts inX2 hown hK hP 17 rfl rfl 6 (Nat.le_of_ble_eq_true rfl) (hts _ mw_433) (fun _ h9 => h9) rfl dX10_plainer_60 ?_
        refine va_get (D := (dC, dI)) (ci := 4) (v := .ref r5) (C := RX5) (T := TX5) (N := 6) hx hb hts inX5 hown hK hP 18 rfl rfl 2 (Nat.le_of_ble_eq_true rfl) (hts _ mw_391) (fun _ h9 => h9) rfl dX10_plainer_63 ?_
        refine lv_ifnonnull (tgt := 75) hx hb dX10_plainer_66 rfl ?_
        refine lv_aload_n hx hb dX10_plainer_75 rfl (lv_at hl 1 rfl) ?_
        refine lv_aload_n hx hb dX10_plainer_76 rfl (lv_at hl 0 rfl) ?_
        refine lv_iload_n hx hb dX10_plainer_77 rfl (lv_at hl 3 rfl) ?_
        obtain ⟨hPc, hDc, hFc⟩ := zo_part (cx := [_, _, _, _, _, _, _, _, _, _, _, _, _, _, _, _, _, _, _, _, _]) hP hD hS hA [0, 2, 3, 4, 5, 6, 7, 8, 9, 10, 11, 12, 13, 14, 15, 16, 17, 18, 19, 20, 21] (by decide +kernel) rfl
        refine zcall (st1 := [.int 0]) (va_runV (As := [.ref (fe f0), .int lim]) (rest := []) ⟨hx, hb, hml, hown, hts⟩ (k_thin_z l dC dI cI cZ cF H.size x ro bq bp dq dp lv sl (nI dn) sd ul su lw dr tg wy br bo aa tx ty nt TX TY rt wx wz nw WX WY rw dx dy nd cd P Q rd b1 b2 b3 b4 b5 b6 b7 b8 AR sh fa ft FA (fe f0) lo5 (rk f0) (wd f0) (tw f0) (pa f0) (pb f0) (la dn f0) (gb f0) (it f0) r5 rx5 ry5 (nN (mn f0)) cap5 X5 Y5 f0 we5 LM m9 n1 T_1 f kd st tn mn cx cy mn1 cx1 cy1 lim (.null) (by first | with_reducible assumption | omega) (by first | with_reducible assumption | omega) (hFA9 f0 (by first | with_reducible assumption | omega)) (by rw [← hT_1]; exact fc_vw hc5 (by first | with_reducible assumption | omega) (by first | with_reducible assumption | omega) hG.1 hG.2.1 hFA9 (Nat.le_refl _)) (hI) (hpl) (hL) (hc5.2.2.2.2.1) (by first | with_reducible assumption | omega) (by first | with_reducible assumption | omega) (by first | with_reducible assumption | assumption)) (csV_108 hts rfl rfl ⟨Nat.le_of_ble_eq_true rfl, Nat.le_of_ble_eq_true rfl⟩) (zPV2 (q0 := 0) (ci := 8) hPc hDc hK3 hXN rfl rfl) rfl rfl hl.1 rfl (lv_room (Nat.le_of_ble_eq_true rfl)) dX10_plainer_78 ⟨Nat.le_of_ble_eq_true rfl, Nat.le_of_ble_eq_true rfl⟩) hS hFc hFc rfl (fun t H locs ht hB hk1 hS => ?_)
        refine ex21 hB (fun nt6 TX6 TY6 rt6 nw6 WX6 WY6 rw6 nd6 P6 Q6 rd6 g06 g16 g26 g36 g46 g56 g66 g76 AR6 hB0 => ?_)
        clear hB
        obtain ⟨hP1, hD1⟩ := hB0
        rw [ht] at hP1
        obtain ⟨hP, hD⟩ := znP (W2 := [_, _, _, (oc6 tg (.ref tx) (.ref ty) (nI nt6) rt6), (oa tx cI 3 TX6), (oa ty cI 3 TY6), (oc6 wy (.ref wx) (.ref wz) (nI nw6) rw6), (oa wx cI 2 WX6), (oa wz cI 2 WY6), (oc6 dr (.ref dx) (.ref dy) (nI nd6) rd6), (oa dx cI cd P6), (oa dy cI cd Q6), (oc0 br g06 g16 g26 g36), (oc0 bo g46 g56 g66 g76), (oa aa cI 40 AR6), _, _, _, _, _, _, _, _, _, _]) hP hD hk1 hFc hP1 hD1 zl_66 zl_67 zl_67 zl_66 (by decide +kernel) rfl rfl rfl rfl rfl
        clear hk1 hPc hDc hFc hP1 hD1 ht
        refine lv_istore (lv' := [(4, .int 0), (3, .ref (fe f0)), (0, .ref x), (1, .int (nI f0)), (2, .int lim)]) hx hb dX10_plainer_81 hl (Nat.le_of_ble_eq_true rfl) rfl (fun ls hl => ?_)
        refine lv_iload hx hb dX10_plainer_83 (lv_at hl 0 rfl) ?_
        refine lv_if_ne (tgt := 95) hx hb dX10_plainer_85 rfl (fun c_4 => ?_) (fun c_4 => ?_)
        · exact absurd (by decide) c_4
        · refine lv_aload_n hx hb dX10_plainer_88 rfl (lv_at hl 2 rfl) ?_
          refine lv_bipush (v := 8) hx hb dX10_plainer_89 rfl ?_
          obtain ⟨hPc, hDc, hFc⟩ := zo_sub (wc := [_]) hP hD hS hA [0] rfl rfl
          refine zcall (st1 := [.int (-1)]) (va_runV (As := [.int 8]) (rest := []) ⟨hx, hb, hml, hown, hts⟩ (k_refuse_8 l dC dI cI cZ cF H.size x sh lw ro bq bp dq dp lv sl sd ul su (nI dn) ) (csV_95 hts rfl rfl ⟨Nat.le_of_ble_eq_true rfl, Nat.le_of_ble_eq_true rfl⟩) (zPV2 (q0 := 0) (ci := 8) hPc hDc hK3 hXN rfl rfl) rfl rfl hl.1 rfl (lv_room (Nat.le_of_ble_eq_true rfl)) dX10_plainer_91 ⟨Nat.le_of_ble_eq_true rfl, Nat.le_of_ble_eq_true rfl⟩) hS hFc hFc rfl (fun t H locs ht hB hk1 hS => ?_)
          obtain ⟨hP1, hD1⟩ := hB
          rw [ht] at hP1
          obtain ⟨hP, hD⟩ := znQ (W2 := [(oc8 x (.ref sh) (.ref lw) (.ref ro) (.ref bq) (.ref bp) (.ref dq) (.ref dp) (.ref lv) (.ref sl) (nI dn) sd ul 8), _, _, _, _, _, _, _, _, _, _, _, _, _, _, _, _, _, _, _, _, _, _, _, _]) hP hD hk1 hFc hP1 hD1 [0] zl_68 zl_68 [0] (by decide +kernel) rfl rfl rfl rfl rfl
          clear hk1 hPc hDc hFc hP1 hD1 ht
          obtain ⟨hP, hD⟩ := pl_bk (X := [_, _, _, _, _, _, _, _, _, _, _, _, _, _, _, _, _]) hT_1 hP rfl hc9_1 hD0_1 rfl
          obtain ⟨hP9, hD9⟩ := zu_part (cx := [_, _, _, _, _, _, _, _, _, _, _, _, _, _, _, _, _]) hP hD [true, true, true, true, true, true, true, true, true, true, true, true, true, true, true, true, true] rfl rfl
          rw [hQ9]
          exact W.iret (v := (-1)) hx hb hr (fun t ht hW => ⟨⟨rfl, nt6, TX6, TY6, rt6, nw6, WX6, WY6, rw6, nd6, P6, Q6, rd6, g06, g16, g26, g36, g46, g56, g66, g76, AR6, by rw [ht]; exact hP9, hD9⟩, hS.F ht⟩) hS.2.2 dX10_plainer_94
      · have c_3 : lim.toInt < 0 := zc_nle rfl rfl c_3
        exfalso; omega
    · have c_2 : ¬ (1 ≤ (kd f0).toInt ∧ (kd f0).toInt ≤ 5) := zp_0 c_2
      exfalso; exact absurd hI.2.2.2.1 (by first | with_reducible assumption | assumption)
  · have c_1 : ¬ (st f0).toInt = 1 := zc_ne rfl rfl c_1
    exfalso; omega
end
