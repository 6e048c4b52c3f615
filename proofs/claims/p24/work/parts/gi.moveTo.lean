section
set_option maxHeartbeats 4000000 in
set_option maxRecDepth 100000 in
theorem k_moveTo_m_y (l : Launch) (dC : Nat → ClassId) (dI : Nat → Nat → Nat) (cI cZ cF : ClassId) (sz : Nat) (cO : ClassId) (e0 : Nat) (mi : Nat) (x : Nat) (sh : Nat) (lw : Nat) (ro : Nat) (bq : Nat) (bp : Nat) (dq : Nat) (dp : Nat) (lv : Nat) (sl : Nat) (sd : Int32) (ul : Int32) (su : Int32) (ea : Nat) (mc9 : Int32) (fa : Nat) (FA : Nat → Option Nat) (bs : Nat) (dn : Nat) (T : Nat) (ft : Nat) (FT : Nat → Nat) (V : Nat → Nat → Nat → Int32) (VX : Nat → Nat → Int32) (VY : Nat → Nat → Int32) (tn : Nat → Int32) (rk : Nat → Int32) (wd : Nat → Int32) (tw : Nat → Int32) (pa : Nat → Int32) (pb : Nat → Int32) (wh : Nat → Int32) (of9 : Nat → Int32) (we : Nat → Int32) (kd : Nat → Int32) (st : Nat → Int32) (gb : Nat → Int32) (it : Nat → Int32) (mn : Nat → Int32) (cx : Nat → Int32) (cy : Nat → Int32) (T9 : List Nat) (f : Nat → va_E) (L : List Nat) (f0 : Nat) (own : Nat → Nat) (fe : Nat → Nat) (cl : Nat → Nat) (la : Nat → Nat → Nat) (sp : Nat → Nat) (SA : Nat → Option Nat) (lo5 : Nat) (lx5 : Nat) (ly5 : Nat) (ln5 : Nat) (LX5 : Nat → Int32) (LY5 : Nat → Int32) (we5 : Nat) (r5 : Nat) (rx5 : Nat) (ry5 : Nat) (cap5 : Nat) (X5 : Nat → Int32) (Y5 : Nat → Int32) (dr : Nat) (tg : Nat) (wy : Nat) (br : Nat) (bo : Nat) (aa : Nat) (tx : Nat) (ty : Nat) (nt : Nat) (TX : Nat → Int32) (TY : Nat → Int32) (rt : Int32) (wx : Nat) (wz : Nat) (nw : Nat) (WX : Nat → Int32) (WY : Nat → Int32) (rw : Int32) (dx : Nat) (dy : Nat) (cd : Nat) (P : Nat → Int32) (Q : Nat → Int32) (b1 : Int32) (b2 : Int32) (b3 : Int32) (b4 : Int32) (b5 : Int32) (b6 : Int32) (b7 : Int32) (b8 : Int32) (w1 : Int32) (cx1 : Nat → Int32) (cy1 : Nat → Int32) (hG9 : shG cI cO L f e0 FA ea T own fe cl la (la dn) (fun _ => 0) sp (fun _ => .null) SA bs dn T ft (FT T) FT V VX VY tn rk wd tw pa pb wh of9 we kd st gb it mn cx cy) (hH9 : HiD dn ft V VX VY kd st gb it tn mn cx cy) (hft9 : ft = FT dn) (hO9 : loG cI L f own fe (la dn) (fun _ => 0) la bs dn T ft (FT T) FT V (V dn)) (hc5 : fcA cI L f own f0 (8 * f0 + 2) (8 * f0 + 3) (fe f0) (la dn f0) (cl f0) .null (rk f0) (wd f0) (tw f0) (pa f0) (pb f0) (kd f0) (st f0) (gb f0) (it f0) (nN (mn f0)) (cF40 cx f0) (cF40 cy f0) lo5 lx5 ly5 ln5 LX5 LY5 we5 r5 rx5 ry5 cap5 X5 Y5) (hT_0 : outPl L [(oc1 (fe f0) (rk f0) (wd f0) (tw f0) (pa f0) (pb f0) (.ref lo5) (.ref (la dn f0)) .null), (oc4 (la dn f0) (kd f0) (st f0) (.ref r5) (gb f0) (it f0) (nI we5)), (oc6 r5 (.ref rx5) (.ref ry5) (nI (nN (mn f0))) (rgK (kd f0).toInt)), (oa rx5 cI cap5 X5), (oa ry5 cI cap5 Y5), (oc6 lo5 (.ref lx5) (.ref ly5) (nI ln5) 0), (oa lx5 cI (cl f0) LX5), (oa ly5 cI (cl f0) LY5)] = T9) (hf0 : f0 < ft) (htn : (tn f0).toInt = 0) (hst : (st f0).toInt = 1) (hwf : ∀ q, lvF ft st tn q → wfM mn cx cy q) (hkn : okN ft st tn kd mn) (hcd : nN (mn f0) ≤ cd ∧ cd ≤ 1000) (hn1 : ¬ nN (mn f0) = 1) (hd5 : dn + 1 ≤ 512) (hlaw : (pls (nN (mn f0)) P Q ∧ ((∀ i, i < edg (nN (mn f0)) (rgK (kd f0).toInt) → eFr (nN (mn f0)) P Q (rgK (kd f0).toInt) i (i + 1)) ∧ (¬ (kd f0).toInt = 6 ∨ ∀ k, k < (nN (mn f0)) → eRt (nN (mn f0)) P Q k)) ∧ ∀ q, q < ft → (q ≠ f0 → lvF ft st tn q → (apB (mnI (mnI (X5 0).toInt X5 (nN (mn f0))) P (nN (mn f0))) (mnI (mnI (Y5 0).toInt Y5 (nN (mn f0))) Q (nN (mn f0))) (mxI (mxI (X5 0).toInt X5 (nN (mn f0))) P (nN (mn f0))) (mxI (mxI (Y5 0).toInt Y5 (nN (mn f0))) Q (nN (mn f0))) (nN (mn q)) (cF40 cx q) (cF40 cy q) ∨ (asb (nN (mn f0)) X5 Y5 (rgK (kd f0).toInt) (nN (mn f0)) P Q (rgK (kd f0).toInt) (nN (mn q)) (cF40 cx q) (cF40 cy q) (rgK (kd q).toInt) ∧ (¬ ∃ i, i < edg (nN (mn f0)) (rgK (kd f0).toInt) ∧ ∃ k, k < nN (mn q) ∧ swR (nN (mn f0)) X5 Y5 P Q (cF40 cx q k).toInt (cF40 cy q k).toInt i)))))) (hmv : ¬ (nN (mn f0) = nN (mn f0) ∧ ∀ k, k < nN (mn f0) → (P k).toInt = (X5 k).toInt ∧ (Q k).toInt = (Y5 k).toInt)) (hd1 : ∀ k, k < nN (mn f0) → P k = cF40 cx1 f0 k ∧ Q k = cF40 cy1 f0 k) (ho1 : ∀ j, (j < 40 * f0 ∨ 40 * f0 + 40 ≤ j) → cx1 j = cx j ∧ cy1 j = cy j) : zML l yX10_moveTo cX10_moveTo 4 (some .boolean) ({ frames := 8, cells := ft + 6, slots := 4 * ft + 2 * nN (mn f0) + 815, locals := 182 } : Room) [.ref x, .ref (fe f0), .int (nI f0), .int w1] (dC, dI) (zTyO cI cZ cF cO) e0 mi ([(oc8 x (.ref sh) (.ref lw) (.ref ro) (.ref bq) (.ref bp) (.ref dq) (.ref dp) (.ref lv) (.ref sl) (nI dn) sd ul su), (oc10 sl mc9 (.ref ea) (nI T)), (oc3 lw (.ref dr) (.ref tg) (.ref wy) (.ref br) (.ref bo) (.ref aa)), (oc6 tg (.ref tx) (.ref ty) (nI nt) rt), (oa tx cI 3 TX), (oa ty cI 3 TY), (oc6 wy (.ref wx) (.ref wz) (nI nw) rw), (oa wx cI 2 WX), (oa wz cI 2 WY), (oc6 dr (.ref dx) (.ref dy) (nI (nN (mn f0))) (rgK (kd f0).toInt)), (oa dx cI cd P), (oa dy cI cd Q), (oc0 br b1 b2 b3 b4), (oc0 bo b5 b6 b7 b8), (oc1 (fe f0) (rk f0) (wd f0) (tw f0) (pa f0) (pb f0) (.ref lo5) (.ref (la dn f0)) .null), (oc4 (la dn f0) (kd f0) (st f0) (.ref r5) (gb f0) (it f0) (nI we5)), (oc6 r5 (.ref rx5) (.ref ry5) (nI (nN (mn f0))) (rgK (kd f0).toInt)), (oa rx5 cI cap5 X5), (oa ry5 cI cap5 Y5), (oc6 lo5 (.ref lx5) (.ref ly5) (nI ln5) 0), (oa lx5 cI (cl f0) LX5), (oa ly5 cI (cl f0) LY5), (oc7 sh (.ref fa) (nI ft)), (oq fa cF 200 FA)] ++ va_pl T9 f) sz (some (.int 1)) (fun A t => ∃ (mc1 : Int32), ∃ (L1 : List Nat), ∃ (f1 : Nat → va_E), ∃ (ea1 : Nat), ∃ (nt1 : Nat), ∃ (TX1 : Nat → Int32), ∃ (TY1 : Nat → Int32), ∃ (rt1 : Int32), ∃ (nw1 : Nat), ∃ (WX1 : Nat → Int32), ∃ (WY1 : Nat → Int32), ∃ (rw1 : Int32), ∃ (d5 : Int32), ∃ (d6 : Int32), ∃ (d7 : Int32), ∃ (d8 : Int32), ∃ (e5 : Int32), ∃ (e6 : Int32), ∃ (e7 : Int32), ∃ (e8 : Int32), (shB cI cO L1 f1 e0 FA ea1 bs (dn + 1) (dn + 1) ft (upN FT (dn + 1) ft) (upN V (dn + 1) (vC (V dn) kd st gb it mn)) (upN VX (dn + 1) cx1) (upN VY (dn + 1) cy1) tn rk wd tw pa pb (upd wh (dn + 1) w1) (upd of9 (dn + 1) (nI f0)) (upd we (dn + 1) (0 : Int32)) kd st gb it mn cx1 cy1) ∧ zPD (dC, dI) classes A ([(oc8 x (.ref sh) (.ref lw) (.ref ro) (.ref bq) (.ref bp) (.ref dq) (.ref dp) (.ref lv) (.ref sl) (nI (dn + 1)) sd ul 0), (oc10 sl mc1 (.ref ea1) (nI (dn + 1))), (oc3 lw (.ref dr) (.ref tg) (.ref wy) (.ref br) (.ref bo) (.ref aa)), (oc6 tg (.ref tx) (.ref ty) (nI nt1) rt1), (oa tx cI 3 TX1), (oa ty cI 3 TY1), (oc6 wy (.ref wx) (.ref wz) (nI nw1) rw1), (oa wx cI 2 WX1), (oa wz cI 2 WY1), (oc6 dr (.ref dx) (.ref dy) (nI (nN (mn f0))) (rgK (kd f0).toInt)), (oa dx cI cd P), (oa dy cI cd Q), (oc0 br d5 d6 d7 d8), (oc0 bo e5 e6 e7 e8), (oc7 sh (.ref fa) (nI ft)), (oq fa cF 200 FA)] ++ va_pl L1 f1) t.heap) (ft + 6) (4 * ft + 2 * nN (mn f0) + 815) := by
  refine zInL (own := "ScaleShop") (loc := [(0, .ref x), (1, .ref (fe f0)), (2, .int (nI f0)), (3, .int w1)]) rfl rfl rfl rfl (fun p e s m below meth c hx hb hr hts hown hlocks hml hnm9 A hA hS hP hD hK hXL hXN hK3 Q9 hQ9 ls hl => ?_)
  obtain ⟨hG, hM, hdT, hT5, hO⟩ := M_0 hG9 hH9 hft9 hO9
  have h200 : ft ≤ 200 := hG.2.2.2.2.2.1.2.2.2.2.2
  have hFA9 := hG.2.2.2.2.2.2
  have hb5 := hc5.2.2.1
  have hb6 := hc5.2.1
  have hlv : lvF ft st tn f0 := ⟨hf0, hst, htn⟩
  have hwf0 := hwf f0 hlv
  have hp5 := (pls_cg hc5.2.2.2.2.1).mpr hwf0.2.2
  have hw1 := hwf0.2.1
  have hkn0 := hkn f0 hlv
  have hat9 := lo_at hO (Nat.le_refl _) hf0 hc5.1.1 hc5.1.2.2.2 (by omega) hc5.1.2.1 hb5.2.2
  refine lv_aload_n hx hb dX10_moveTo_0 rfl (lv_at hl 0 rfl) ?_
  refine va_get (D := (dC, dI)) (ci := 8) (v := .ref lw) (C := RX10) (T := TX10) (N := 13) hx hb hts inX10 hown hK hP 0 rfl rfl 1 (Nat.le_of_ble_eq_true rfl) (hts _ mw_310) (fun _ h9 => h9) rfl dX10_moveTo_1 ?_
  refine lv_aload_n hx hb dX10_moveTo_4 rfl (lv_at hl 0 rfl) ?_
  refine va_get (D := (dC, dI)) (ci := 8) (v := .ref sh) (C := RX10) (T := TX10) (N := 13) hx hb hts inX10 hown hK hP 0 rfl rfl 0 (Nat.le_of_ble_eq_true rfl) (hts _ mw_309) (fun _ h9 => h9) rfl dX10_moveTo_5 ?_
  refine lv_aload_n hx hb dX10_moveTo_8 rfl (lv_at hl 1 rfl) ?_
  refine lv_iconst (v := (-1)) hx hb dX10_moveTo_9 rfl ?_
  obtain ⟨hPc, hDc, hFc⟩ := zo_part (cx := [_, _, _, _, _, _, _, _, _, _, _, _, _, _, _, _, _, _, _]) hP hD hS hA [2, 3, 4, 5, 6, 7, 8, 9, 10, 11, 12, 13, 22, 23, 14, 15, 16, 17, 18] (by decide +kernel) rfl
  refine zcall (st1 := [.int (pI (pls (nN (mn f0)) P Q ∧ ((∀ i, i < edg (nN (mn f0)) (rgK (kd f0).toInt) → eFr (nN (mn f0)) P Q (rgK (kd f0).toInt) i (i + 1)) ∧ (¬ (kd f0).toInt = 6 ∨ ∀ k, k < (nN (mn f0)) → eRt (nN (mn f0)) P Q k)) ∧ ∀ q, q < ft → (q ≠ f0 → lvF ft st tn q → (apB (mnI (mnI (X5 0).toInt X5 (nN (mn f0))) P (nN (mn f0))) (mnI (mnI (Y5 0).toInt Y5 (nN (mn f0))) Q (nN (mn f0))) (mxI (mxI (X5 0).toInt X5 (nN (mn f0))) P (nN (mn f0))) (mxI (mxI (Y5 0).toInt Y5 (nN (mn f0))) Q (nN (mn f0))) (nN (mn q)) (cF40 cx q) (cF40 cy q) ∨ (asb (nN (mn f0)) X5 Y5 (rgK (kd f0).toInt) (nN (mn f0)) P Q (rgK (kd f0).toInt) (nN (mn q)) (cF40 cx q) (cF40 cy q) (rgK (kd q).toInt) ∧ (¬ ∃ i, i < edg (nN (mn f0)) (rgK (kd f0).toInt) ∧ ∃ k, k < nN (mn q) ∧ swR (nN (mn f0)) X5 Y5 P Q (cF40 cx q k).toInt (cF40 cy q k).toInt i))))))]) (va_runV (As := [.ref sh, .ref (fe f0), .int (-1)]) (rest := []) ⟨hx, hb, hml, hown, hts⟩ (k_Law_allows_m l dC dI cI cZ cF s.heap.size lw dr tg wy br bo aa tx ty nt TX TY rt wx wz nw WX WY rw dx dy (nN (mn f0)) cd P Q (rgK (kd f0).toInt) b1 b2 b3 b4 b5 b6 b7 b8 sh fa ft FA (fe f0) lo5 (rk f0) (wd f0) (tw f0) (pa f0) (pb f0) (la dn f0) (kd f0) (st f0) (gb f0) (it f0) (nI we5) r5 rx5 ry5 (nN (mn f0)) cap5 X5 Y5 (rgK (kd f0).toInt) f0 (.null) T9 f kd st tn mn cx cy (by first | with_reducible assumption | omega) (by first | with_reducible assumption | omega) (hFA9 f0 (by first | with_reducible assumption | omega)) (hst) (by rw [← hT_0]; exact fc_vw hc5 (by first | with_reducible assumption | omega) (by first | with_reducible assumption | omega) hG.1 hG.2.1 hFA9 (Nat.le_refl _)) (hwf) (hkn) (by first | with_reducible assumption | omega) (by first | with_reducible assumption | omega) (by first | with_reducible assumption | omega) (by first | with_reducible assumption | omega) (hp5) (by first | with_reducible assumption | omega) (by first | with_reducible assumption | omega) (by first | with_reducible assumption | omega) (by first | with_reducible assumption | omega)) (csV_109 hts rfl rfl ⟨Nat.le_of_ble_eq_true rfl, Nat.le_of_ble_eq_true rfl⟩) (zPV2 (q0 := 0) (ci := 3) hPc hDc hK3 hXN rfl rfl) rfl rfl hl.1 rfl (lv_room (Nat.le_of_ble_eq_true rfl)) dX10_moveTo_10 ⟨Nat.zero_le _, Nat.zero_le _⟩) hS hFc hFc rfl (fun t H locs ht hB hk1 hS => ?_)
  refine ex16 hB (fun nt6 TX6 TY6 rt6 nw6 WX6 WY6 rw6 g06 g16 g26 g36 g46 g56 g66 g76 hB0 => ?_)
  clear hB
  obtain ⟨hP1, hD1⟩ := hB0
  rw [ht] at hP1
  obtain ⟨hP, hD⟩ := znP (W2 := [_, _, _, (oc6 tg (.ref tx) (.ref ty) (nI nt6) rt6), (oa tx cI 3 TX6), (oa ty cI 3 TY6), (oc6 wy (.ref wx) (.ref wz) (nI nw6) rw6), (oa wx cI 2 WX6), (oa wz cI 2 WY6), _, _, _, (oc0 br g06 g16 g26 g36), (oc0 bo g46 g56 g66 g76), _, _, _, _, _, _, _, _, _, _]) hP hD hk1 hFc hP1 hD1 zl_69 zl_70 zl_71 zl_69 (by decide +kernel) rfl rfl rfl rfl rfl
  clear hk1 hPc hDc hFc hP1 hD1 ht
  refine lv_if_ne (tgt := 23) hx hb dX10_moveTo_13 rfl (fun c_1 => ?_) (fun c_1 => ?_)
  · have c_1 : pls (nN (mn f0)) P Q ∧ ((∀ i, i < edg (nN (mn f0)) (rgK (kd f0).toInt) → eFr (nN (mn f0)) P Q (rgK (kd f0).toInt) i (i + 1)) ∧ (¬ (kd f0).toInt = 6 ∨ ∀ k, k < (nN (mn f0)) → eRt (nN (mn f0)) P Q k)) ∧ ∀ q, q < ft → (q ≠ f0 → lvF ft st tn q → (apB (mnI (mnI (X5 0).toInt X5 (nN (mn f0))) P (nN (mn f0))) (mnI (mnI (Y5 0).toInt Y5 (nN (mn f0))) Q (nN (mn f0))) (mxI (mxI (X5 0).toInt X5 (nN (mn f0))) P (nN (mn f0))) (mxI (mxI (Y5 0).toInt Y5 (nN (mn f0))) Q (nN (mn f0))) (nN (mn q)) (cF40 cx q) (cF40 cy q) ∨ (asb (nN (mn f0)) X5 Y5 (rgK (kd f0).toInt) (nN (mn f0)) P Q (rgK (kd f0).toInt) (nN (mn q)) (cF40 cx q) (cF40 cy q) (rgK (kd q).toInt) ∧ (¬ ∃ i, i < edg (nN (mn f0)) (rgK (kd f0).toInt) ∧ ∃ k, k < nN (mn q) ∧ swR (nN (mn f0)) X5 Y5 P Q (cF40 cx q k).toInt (cF40 cy q k).toInt i)))) := zp_1 c_1
    refine lv_aload_n hx hb dX10_moveTo_23 rfl (lv_at hl 0 rfl) ?_
    refine va_get (D := (dC, dI)) (ci := 8) (v := .ref lw) (C := RX10) (T := TX10) (N := 13) hx hb hts inX10 hown hK hP 0 rfl rfl 1 (Nat.le_of_ble_eq_true rfl) (hts _ mw_310) (fun _ h9 => h9) rfl dX10_moveTo_24 ?_
    refine va_get (D := (dC, dI)) (ci := 3) (v := .ref dr) (C := RX4) (T := TX4) (N := 6) hx hb hts inX4 hown hK hP 2 rfl rfl 0 (Nat.le_of_ble_eq_true rfl) (hts _ mw_220) (fun _ h9 => h9) rfl dX10_moveTo_27 ?_
    refine lv_aload_n hx hb dX10_moveTo_30 rfl (lv_at hl 1 rfl) ?_
    refine va_get (D := (dC, dI)) (ci := 1) (v := .ref (la dn f0)) (C := RX2) (T := TX2) (N := 8) hx hb hts inX2 hown hK hP 14 rfl rfl 6 (Nat.le_of_ble_eq_true rfl) (hts _ mw_433) (fun _ h9 => h9) rfl dX10_moveTo_31 ?_
    refine va_get (D := (dC, dI)) (ci := 4) (v := .ref r5) (C := RX5) (T := TX5) (N := 6) hx hb hts inX5 hown hK hP 15 rfl rfl 2 (Nat.le_of_ble_eq_true rfl) (hts _ mw_391) (fun _ h9 => h9) rfl dX10_moveTo_34 ?_
    obtain ⟨hPc, hDc, hFc, hI1⟩ := zi_sub (wc := [_, _, _, _, _, _]) hP hD hS hA [9, 10, 11, 16, 17, 18] (by decide +kernel) rfl
    refine zcall (st1 := [.int (pI ((nN (mn f0)) = (nN (mn f0)) ∧ ∀ k, k < (nN (mn f0)) → (P k).toInt = (X5 k).toInt ∧ (Q k).toInt = (Y5 k).toInt))]) (va_runV (As := [.ref r5]) (rest := []) ⟨hx, hb, hml, hown, hts⟩ (k_Row_isAlike l dC dI cI cZ cF H.size dr dx dy (nN (mn f0)) cd P Q (rgK (kd f0).toInt) r5 rx5 ry5 (nN (mn f0)) cap5 X5 Y5 (rgK (kd f0).toInt) (by first | with_reducible assumption | omega) (by first | with_reducible assumption | omega) (by first | with_reducible assumption | omega) (by first | with_reducible assumption | omega)) (csV_110 hts rfl rfl ⟨Nat.le_of_ble_eq_true rfl, Nat.le_of_ble_eq_true rfl⟩) (zPV2 (q0 := 0) (ci := 6) hPc hDc hK3 hXN rfl rfl) rfl rfl hl.1 rfl (lv_room (Nat.le_of_ble_eq_true rfl)) dX10_moveTo_37 ⟨Nat.zero_le _, Nat.zero_le _⟩) hS hFc hFc rfl (fun t H locs ht hB hk1 hS => ?_)
    obtain ⟨hP1, hD1⟩ := hB
    rw [ht] at hP1
    replace hP := z0 hP hD hk1 hP1 hI1
    clear hk1 hPc hDc hFc hP1 hD1 ht hI1
    refine lv_if_eq (tgt := 50) hx hb dX10_moveTo_40 rfl (fun c_2 => ?_) (fun c_2 => ?_)
    · have c_2 : ¬ ((nN (mn f0)) = (nN (mn f0)) ∧ ∀ k, k < (nN (mn f0)) → (P k).toInt = (X5 k).toInt ∧ (Q k).toInt = (Y5 k).toInt) := zp_0 c_2
      refine lv_aload_n hx hb dX10_moveTo_50 rfl (lv_at hl 1 rfl) ?_
      refine lv_aload_n hx hb dX10_moveTo_51 rfl (lv_at hl 0 rfl) ?_
      refine va_get (D := (dC, dI)) (ci := 8) (v := .ref lw) (C := RX10) (T := TX10) (N := 13) hx hb hts inX10 hown hK hP 0 rfl rfl 1 (Nat.le_of_ble_eq_true rfl) (hts _ mw_310) (fun _ h9 => h9) rfl dX10_moveTo_52 ?_
      refine va_get (D := (dC, dI)) (ci := 3) (v := .ref dr) (C := RX4) (T := TX4) (N := 6) hx hb hts inX4 hown hK hP 2 rfl rfl 0 (Nat.le_of_ble_eq_true rfl) (hts _ mw_220) (fun _ h9 => h9) rfl dX10_moveTo_55 ?_
      obtain ⟨hPc, hDc, hFc⟩ := zo_sub (wc := [_, _, _, _, _]) hP hD hS hA [14, 15, 9, 10, 11] (by decide +kernel) rfl
      refine zcall (st1 := []) (va_runV (As := [.ref dr]) (rest := []) ⟨hx, hb, hml, hown, hts⟩ (k_Feature_reshape l dC dI cI cZ cF H.size (fe f0) lo5 (rk f0) (wd f0) (tw f0) (pa f0) (pb f0) (la dn f0) (kd f0) (st f0) (gb f0) (it f0) (nI we5) r5 dr dx dy (nN (mn f0)) cd P Q (rgK (kd f0).toInt) (by first | with_reducible assumption | omega) (by first | with_reducible assumption | omega) (rgK_01 _)) (csV_111 hts rfl rfl ⟨Nat.le_of_ble_eq_true rfl, Nat.le_of_ble_eq_true rfl⟩) (zPV2 (q0 := 0) (ci := 1) hPc hDc hK3 hXN rfl rfl) rfl rfl hl.1 rfl (lv_room (Nat.le_of_ble_eq_true rfl)) dX10_moveTo_58 ⟨show (0 + 4) ≤ ft + 6 by omega, show (0 + (2 * (nN (mn f0)) + 10)) ≤ 4 * ft + 2 * nN (mn f0) + 815 by omega⟩) hS hFc hFc rfl (fun t H locs ht hB hk1 hS => ?_)
      refine ex6 hB (fun q7 w7 wx7 wy7 X7 Y7 hB0 => ?_)
      clear hB
      obtain ⟨hall7, hP1, hD1⟩ := hB0
      rw [ht] at hP1
      obtain ⟨hP, hD⟩ := znQ (W2 := [_, _, _, _, _, _, _, _, _, _, _, _, _, _, _, _, _, _, _, (oc1 (fe f0) (rk f0) (wd f0) (tw f0) (pa f0) (pb f0) (.ref lo5) (.ref q7) (.ref (la dn f0))), (oc4 (la dn f0) (kd f0) (st f0) (.ref r5) (gb f0) (it f0) (nI we5)), (oc4 q7 (kd f0) (st f0) (.ref w7) (gb f0) (it f0) (nI we5)), (oc6 dr (.ref dx) (.ref dy) (nI (nN (mn f0))) (rgK (kd f0).toInt)), (oa dx cI cd P), (oa dy cI cd Q), (oc6 w7 (.ref wx7) (.ref wy7) (nI (nN (mn f0))) (rgK (kd f0).toInt)), (oa wx7 cI (nN (mn f0)) X7), (oa wy7 cI (nN (mn f0)) Y7)]) hP hD hk1 hFc hP1 hD1 [14, 15, 9, 10, 11] zl_72 zl_73 zl_74 (by decide +kernel) rfl rfl rfl rfl rfl
      clear hk1 hPc hDc hFc hP1 hD1 ht
      obtain ⟨hP, hD⟩ := zq_part (cx := [_, _, _, _, _, _, _, _, _, _, _, _, _, _, _, _, _, _, _, _, _, _, _, _, _, _, _, _]) hP hD [0, 1, 2, 3, 4, 5, 6, 7, 8, 9, 10, 17, 18, 22, 23, 24, 19, 20, 11, 12, 13, 14, 15, 16, 21, 25, 26, 27] rfl rfl
      obtain ⟨Lp0, fp0, hP, hD, hpin_0⟩ := pl_pn (X := [_, _, _, _, _, _, _, _, _, _, _, _, _, _, _, _]) (old := [_, _, _, _, _, _, _, _]) (new := [_, _, _, _]) (cs1 := [_, _, _, _, _, _, _, _, _, _, _, _]) (L := L) (cs := [(oc1 (fe f0) (rk f0) (wd f0) (tw f0) (pa f0) (pb f0) (.ref lo5) (.ref (la dn f0)) .null), (oc4 (la dn f0) (kd f0) (st f0) (.ref r5) (gb f0) (it f0) (nI we5)), (oc6 r5 (.ref rx5) (.ref ry5) (nI (nN (mn f0))) (rgK (kd f0).toInt)), (oa rx5 cI cap5 X5), (oa ry5 cI cap5 Y5), (oc6 lo5 (.ref lx5) (.ref ly5) (nI ln5) 0), (oa lx5 cI (cl f0) LX5), (oa ly5 cI (cl f0) LY5)]) hT_0 hP hD rfl rfl rfl
      obtain ⟨hfr_0, hkp_0, hce_0, hsx_0, hpw_0⟩ := id hpin_0
      obtain ⟨own1, nw1, md1, fm1, hG1, hM1, hmd1, hO1⟩ := M_resh (kd1 := kd) (st1 := st) (gb1 := gb) (it1 := it) (mn1 := mn) (cx1 := cx1) (cy1 := cy1) hG hM rfl hf0 (by rw [← hft9]; exact hf0) (by omega) (by omega) htn hc5 ⟨rfl, rfl, rfl, rfl⟩ hpin_0 (fun p hp => ⟨rfl, rfl, rfl, rfl, rfl, fun k hk => ho1 (40 * p + k) (by omega)⟩) rfl rfl rfl rfl rfl rfl (fun k hk => by rw [(hall7 k hk).1, (hall7 k hk).2]; exact hd1 k hk) (by omega) (by omega) (fun g => ⟨g, (hc5.2.2.2.2.2 g).2⟩) hO (fun _ _ => ⟨rfl, rfl⟩) ⟨Nat.le_refl _, hat9.2⟩ hat9.1 (fun _ _ _ => rfl)
      refine lv_aload_n hx hb dX10_moveTo_61 rfl (lv_at hl 0 rfl) ?_
      refine lv_iload_n hx hb dX10_moveTo_62 rfl (lv_at hl 3 rfl) ?_
      refine lv_iload_n hx hb dX10_moveTo_63 rfl (lv_at hl 2 rfl) ?_
      refine lv_iconst (v := 0) hx hb dX10_moveTo_64 rfl ?_
      refine lv_null hx hb dX10_moveTo_65 ?_
      obtain ⟨hPc, hDc, hFc⟩ := zo_part (cx := [_, _, _, _]) hP hD hS hA [0, 1, 11, 12] (by decide +kernel) rfl
      refine zcall (st1 := [.int 1]) (va_runV (As := [.int w1, .int (nI f0), .int 0, .null]) (rest := []) ⟨hx, hb, hml, hown, hts⟩ (k_book_n l dC dI cI cZ cF H.size cO e0 mi x sh lw ro bq bp dq dp lv sl sd ul su sl ea T mc9 fa FA own1 fe cl la nw1 md1 sp fm1 SA bs dn ft FT V VX VY (V dn) tn rk wd tw pa pb wh of9 we kd st gb it mn cx1 cy1 w1 (nI f0) 0 Lp0 fp0 (hG1) (hM1) (hO1) (hdT) (hT5) (by first | with_reducible assumption | omega) (fun q h1 h2 => by omega) (hft9)) (csV_101 hts rfl rfl ⟨Nat.le_of_ble_eq_true rfl, Nat.le_of_ble_eq_true rfl⟩) (zPVL (q0 := 0) (ci := 8) hPc hDc hK hXL hS hFc rfl rfl) rfl rfl hl.1 rfl (lv_room (Nat.le_of_ble_eq_true rfl)) dX10_moveTo_66 ⟨show ((0 + 4) + (ft + 2)) ≤ ft + 6 by omega, show ((0 + (2 * (nN (mn f0)) + 10)) + (4 * ft + 805)) ≤ 4 * ft + 2 * nN (mn f0) + 815 by omega⟩) hS hFc hFc rfl (fun t H locs ht hB hk1 hS => ?_)
      obtain ⟨mc6, L6, f6, ea6, hB6, hP1, hD1⟩ := hB
      rw [ht] at hP1
      obtain ⟨hP, hD⟩ := znP (W2 := [(oc8 x (.ref sh) (.ref lw) (.ref ro) (.ref bq) (.ref bp) (.ref dq) (.ref dp) (.ref lv) (.ref sl) (nI (dn + 1)) sd ul 0), (oc10 sl mc6 (.ref ea6) (nI (dn + 1))), _, _, _, _, _, _, _, _, _, _, _, _, _, _]) hP hD hk1 hFc hP1 hD1 [0, 1, 11, 12] zl_75 zl_75 [0, 1, 11, 12] (by decide +kernel) rfl rfl rfl rfl rfl
      clear hk1 hPc hDc hFc hP1 hD1 ht
      obtain ⟨hP9, hD9⟩ := zq_part (cx := [_, _, _, _, _, _, _, _, _, _, _, _, _, _, _, _]) hP hD [0, 1, 2, 3, 4, 5, 6, 7, 8, 13, 14, 15, 9, 10, 11, 12] rfl rfl
      refine W.widen (k := ft + 6) (n := 4 * ft + 2 * nN (mn f0) + 815) (by omega) (by omega) ?_
      rw [hQ9]
      exact W.zret (ty := .boolean) (v := 1) hx hb hr (rfl) (fun t ht hW => ⟨⟨rfl, mc6, L6, f6, ea6, nt6, TX6, TY6, rt6, nw6, WX6, WY6, rw6, g06, g16, g26, g36, g46, g56, g66, g76, (hB6), by rw [ht]; exact hP9, hD9⟩, hS.F ht⟩) hS.2.2 dX10_moveTo_69
    · have c_2 : (nN (mn f0)) = (nN (mn f0)) ∧ ∀ k, k < (nN (mn f0)) → (P k).toInt = (X5 k).toInt ∧ (Q k).toInt = (Y5 k).toInt := zp_1 c_2
      exfalso; exact absurd (by first | with_reducible assumption | assumption) hmv
  · have c_1 : ¬ (pls (nN (mn f0)) P Q ∧ ((∀ i, i < edg (nN (mn f0)) (rgK (kd f0).toInt) → eFr (nN (mn f0)) P Q (rgK (kd f0).toInt) i (i + 1)) ∧ (¬ (kd f0).toInt = 6 ∨ ∀ k, k < (nN (mn f0)) → eRt (nN (mn f0)) P Q k)) ∧ ∀ q, q < ft → (q ≠ f0 → lvF ft st tn q → (apB (mnI (mnI (X5 0).toInt X5 (nN (mn f0))) P (nN (mn f0))) (mnI (mnI (Y5 0).toInt Y5 (nN (mn f0))) Q (nN (mn f0))) (mxI (mxI (X5 0).toInt X5 (nN (mn f0))) P (nN (mn f0))) (mxI (mxI (Y5 0).toInt Y5 (nN (mn f0))) Q (nN (mn f0))) (nN (mn q)) (cF40 cx q) (cF40 cy q) ∨ (asb (nN (mn f0)) X5 Y5 (rgK (kd f0).toInt) (nN (mn f0)) P Q (rgK (kd f0).toInt) (nN (mn q)) (cF40 cx q) (cF40 cy q) (rgK (kd q).toInt) ∧ (¬ ∃ i, i < edg (nN (mn f0)) (rgK (kd f0).toInt) ∧ ∃ k, k < nN (mn q) ∧ swR (nN (mn f0)) X5 Y5 P Q (cF40 cx q k).toInt (cF40 cy q k).toInt i))))) := zp_0 c_1
    exfalso; exact absurd hlaw (by first | with_reducible assumption | assumption)
set_option maxHeartbeats 4000000 in
set_option maxRecDepth 100000 in
theorem k_moveTo_m_r (l : Launch) (dC : Nat → ClassId) (dI : Nat → Nat → Nat) (cI cZ cF : ClassId) (sz : Nat) (cO : ClassId) (e0 : Nat) (mi : Nat) (x : Nat) (sh : Nat) (lw : Nat) (ro : Nat) (bq : Nat) (bp : Nat) (dq : Nat) (dp : Nat) (lv : Nat) (sl : Nat) (sd : Int32) (ul : Int32) (su : Int32) (ea : Nat) (mc9 : Int32) (fa : Nat) (FA : Nat → Option Nat) (bs : Nat) (dn : Nat) (T : Nat) (ft : Nat) (FT : Nat → Nat) (V : Nat → Nat → Nat → Int32) (VX : Nat → Nat → Int32) (VY : Nat → Nat → Int32) (tn : Nat → Int32) (rk : Nat → Int32) (wd : Nat → Int32) (tw : Nat → Int32) (pa : Nat → Int32) (pb : Nat → Int32) (wh : Nat → Int32) (of9 : Nat → Int32) (we : Nat → Int32) (kd : Nat → Int32) (st : Nat → Int32) (gb : Nat → Int32) (it : Nat → Int32) (mn : Nat → Int32) (cx : Nat → Int32) (cy : Nat → Int32) (T9 : List Nat) (f : Nat → va_E) (L : List Nat) (f0 : Nat) (own : Nat → Nat) (fe : Nat → Nat) (cl : Nat → Nat) (la : Nat → Nat → Nat) (sp : Nat → Nat) (SA : Nat → Option Nat) (lo5 : Nat) (lx5 : Nat) (ly5 : Nat) (ln5 : Nat) (LX5 : Nat → Int32) (LY5 : Nat → Int32) (we5 : Nat) (r5 : Nat) (rx5 : Nat) (ry5 : Nat) (cap5 : Nat) (X5 : Nat → Int32) (Y5 : Nat → Int32) (dr : Nat) (tg : Nat) (wy : Nat) (br : Nat) (bo : Nat) (aa : Nat) (tx : Nat) (ty : Nat) (nt : Nat) (TX : Nat → Int32) (TY : Nat → Int32) (rt : Int32) (wx : Nat) (wz : Nat) (nw : Nat) (WX : Nat → Int32) (WY : Nat → Int32) (rw : Int32) (dx : Nat) (dy : Nat) (cd : Nat) (P : Nat → Int32) (Q : Nat → Int32) (b1 : Int32) (b2 : Int32) (b3 : Int32) (b4 : Int32) (b5 : Int32) (b6 : Int32) (b7 : Int32) (b8 : Int32) (w1 : Int32) (hG9 : shG cI cO L f e0 FA ea T own fe cl la (la dn) (fun _ => 0) sp (fun _ => .null) SA bs dn T ft (FT T) FT V VX VY tn rk wd tw pa pb wh of9 we kd st gb it mn cx cy) (hH9 : HiD dn ft V VX VY kd st gb it tn mn cx cy) (hft9 : ft = FT dn) (hO9 : loG cI L f own fe (la dn) (fun _ => 0) la bs dn T ft (FT T) FT V (V dn)) (hc5 : fcA cI L f own f0 (8 * f0 + 2) (8 * f0 + 3) (fe f0) (la dn f0) (cl f0) .null (rk f0) (wd f0) (tw f0) (pa f0) (pb f0) (kd f0) (st f0) (gb f0) (it f0) (nN (mn f0)) (cF40 cx f0) (cF40 cy f0) lo5 lx5 ly5 ln5 LX5 LY5 we5 r5 rx5 ry5 cap5 X5 Y5) (hT_0 : outPl L [(oc1 (fe f0) (rk f0) (wd f0) (tw f0) (pa f0) (pb f0) (.ref lo5) (.ref (la dn f0)) .null), (oc4 (la dn f0) (kd f0) (st f0) (.ref r5) (gb f0) (it f0) (nI we5)), (oc6 r5 (.ref rx5) (.ref ry5) (nI (nN (mn f0))) (rgK (kd f0).toInt)), (oa rx5 cI cap5 X5), (oa ry5 cI cap5 Y5), (oc6 lo5 (.ref lx5) (.ref ly5) (nI ln5) 0), (oa lx5 cI (cl f0) LX5), (oa ly5 cI (cl f0) LY5)] = T9) (hf0 : f0 < ft) (htn : (tn f0).toInt = 0) (hst : (st f0).toInt = 1) (hwf : ∀ q, lvF ft st tn q → wfM mn cx cy q) (hkn : okN ft st tn kd mn) (hcd : nN (mn f0) ≤ cd ∧ cd ≤ 1000) (hn1 : ¬ nN (mn f0) = 1) (hbad : ¬ (((pls (nN (mn f0)) P Q ∧ ((∀ i, i < edg (nN (mn f0)) (rgK (kd f0).toInt) → eFr (nN (mn f0)) P Q (rgK (kd f0).toInt) i (i + 1)) ∧ (¬ (kd f0).toInt = 6 ∨ ∀ k, k < (nN (mn f0)) → eRt (nN (mn f0)) P Q k)) ∧ ∀ q, q < ft → (q ≠ f0 → lvF ft st tn q → (apB (mnI (mnI (X5 0).toInt X5 (nN (mn f0))) P (nN (mn f0))) (mnI (mnI (Y5 0).toInt Y5 (nN (mn f0))) Q (nN (mn f0))) (mxI (mxI (X5 0).toInt X5 (nN (mn f0))) P (nN (mn f0))) (mxI (mxI (Y5 0).toInt Y5 (nN (mn f0))) Q (nN (mn f0))) (nN (mn q)) (cF40 cx q) (cF40 cy q) ∨ (asb (nN (mn f0)) X5 Y5 (rgK (kd f0).toInt) (nN (mn f0)) P Q (rgK (kd f0).toInt) (nN (mn q)) (cF40 cx q) (cF40 cy q) (rgK (kd q).toInt) ∧ (¬ ∃ i, i < edg (nN (mn f0)) (rgK (kd f0).toInt) ∧ ∃ k, k < nN (mn q) ∧ swR (nN (mn f0)) X5 Y5 P Q (cF40 cx q k).toInt (cF40 cy q k).toInt i)))))) ∧ ¬ (nN (mn f0) = nN (mn f0) ∧ ∀ k, k < nN (mn f0) → (P k).toInt = (X5 k).toInt ∧ (Q k).toInt = (Y5 k).toInt))) : zML l yX10_moveTo cX10_moveTo 4 (some .boolean) ({ frames := 5, cells := 0, slots := 0, locals := 132 } : Room) [.ref x, .ref (fe f0), .int (nI f0), .int w1] (dC, dI) (zTyO cI cZ cF cO) e0 mi ([(oc8 x (.ref sh) (.ref lw) (.ref ro) (.ref bq) (.ref bp) (.ref dq) (.ref dp) (.ref lv) (.ref sl) (nI dn) sd ul su), (oc10 sl mc9 (.ref ea) (nI T)), (oc3 lw (.ref dr) (.ref tg) (.ref wy) (.ref br) (.ref bo) (.ref aa)), (oc6 tg (.ref tx) (.ref ty) (nI nt) rt), (oa tx cI 3 TX), (oa ty cI 3 TY), (oc6 wy (.ref wx) (.ref wz) (nI nw) rw), (oa wx cI 2 WX), (oa wz cI 2 WY), (oc6 dr (.ref dx) (.ref dy) (nI (nN (mn f0))) (rgK (kd f0).toInt)), (oa dx cI cd P), (oa dy cI cd Q), (oc0 br b1 b2 b3 b4), (oc0 bo b5 b6 b7 b8), (oc1 (fe f0) (rk f0) (wd f0) (tw f0) (pa f0) (pb f0) (.ref lo5) (.ref (la dn f0)) .null), (oc4 (la dn f0) (kd f0) (st f0) (.ref r5) (gb f0) (it f0) (nI we5)), (oc6 r5 (.ref rx5) (.ref ry5) (nI (nN (mn f0))) (rgK (kd f0).toInt)), (oa rx5 cI cap5 X5), (oa ry5 cI cap5 Y5), (oc6 lo5 (.ref lx5) (.ref ly5) (nI ln5) 0), (oa lx5 cI (cl f0) LX5), (oa ly5 cI (cl f0) LY5), (oc7 sh (.ref fa) (nI ft)), (oq fa cF 200 FA)] ++ va_pl T9 f) sz (some (.int 0)) (fun A t => ∃ (ul1 : Int32), ∃ (su1 : Int32), ∃ (nt1 : Nat), ∃ (TX1 : Nat → Int32), ∃ (TY1 : Nat → Int32), ∃ (rt1 : Int32), ∃ (nw1 : Nat), ∃ (WX1 : Nat → Int32), ∃ (WY1 : Nat → Int32), ∃ (rw1 : Int32), ∃ (d5 : Int32), ∃ (d6 : Int32), ∃ (d7 : Int32), ∃ (d8 : Int32), ∃ (e5 : Int32), ∃ (e6 : Int32), ∃ (e7 : Int32), ∃ (e8 : Int32), zPD (dC, dI) classes A ([(oc8 x (.ref sh) (.ref lw) (.ref ro) (.ref bq) (.ref bp) (.ref dq) (.ref dp) (.ref lv) (.ref sl) (nI dn) sd ul1 su1), (oc10 sl mc9 (.ref ea) (nI T)), (oc3 lw (.ref dr) (.ref tg) (.ref wy) (.ref br) (.ref bo) (.ref aa)), (oc6 tg (.ref tx) (.ref ty) (nI nt1) rt1), (oa tx cI 3 TX1), (oa ty cI 3 TY1), (oc6 wy (.ref wx) (.ref wz) (nI nw1) rw1), (oa wx cI 2 WX1), (oa wz cI 2 WY1), (oc6 dr (.ref dx) (.ref dy) (nI (nN (mn f0))) (rgK (kd f0).toInt)), (oa dx cI cd P), (oa dy cI cd Q), (oc0 br d5 d6 d7 d8), (oc0 bo e5 e6 e7 e8), (oc1 (fe f0) (rk f0) (wd f0) (tw f0) (pa f0) (pb f0) (.ref lo5) (.ref (la dn f0)) .null), (oc4 (la dn f0) (kd f0) (st f0) (.ref r5) (gb f0) (it f0) (nI we5)), (oc6 r5 (.ref rx5) (.ref ry5) (nI (nN (mn f0))) (rgK (kd f0).toInt)), (oa rx5 cI cap5 X5), (oa ry5 cI cap5 Y5), (oc6 lo5 (.ref lx5) (.ref ly5) (nI ln5) 0), (oa lx5 cI (cl f0) LX5), (oa ly5 cI (cl f0) LY5), (oc7 sh (.ref fa) (nI ft)), (oq fa cF 200 FA)] ++ va_pl T9 f) t.heap) 0 0 := by
  refine zInL (own := "ScaleShop") (loc := [(0, .ref x), (1, .ref (fe f0)), (2, .int (nI f0)), (3, .int w1)]) rfl rfl rfl rfl (fun p e s m below meth c hx hb hr hts hown hlocks hml hnm9 A hA hS hP hD hK hXL hXN hK3 Q9 hQ9 ls hl => ?_)
  obtain ⟨hG, hM, hdT, hT5, hO⟩ := M_0 hG9 hH9 hft9 hO9
  have h200 : ft ≤ 200 := hG.2.2.2.2.2.1.2.2.2.2.2
  have hFA9 := hG.2.2.2.2.2.2
  have hb5 := hc5.2.2.1
  have hb6 := hc5.2.1
  have hlv : lvF ft st tn f0 := ⟨hf0, hst, htn⟩
  have hwf0 := hwf f0 hlv
  have hp5 := (pls_cg hc5.2.2.2.2.1).mpr hwf0.2.2
  have hw1 := hwf0.2.1
  have hkn0 := hkn f0 hlv
  have hat9 := lo_at hO (Nat.le_refl _) hf0 hc5.1.1 hc5.1.2.2.2 (by omega) hc5.1.2.1 hb5.2.2
  refine lv_aload_n hx hb dX10_moveTo_0 rfl (lv_at hl 0 rfl) ?_
  refine va_get (D := (dC, dI)) (ci := 8) (v := .ref lw) (C := RX10) (T := TX10) (N := 13) hx hb hts inX10 hown hK hP 0 rfl rfl 1 (Nat.le_of_ble_eq_true rfl) (hts _ mw_310) (fun _ h9 => h9) rfl dX10_moveTo_1 ?_
  refine lv_aload_n hx hb dX10_moveTo_4 rfl (lv_at hl 0 rfl) ?_
  refine va_get (D := (dC, dI)) (ci := 8) (v := .ref sh) (C := RX10) (T := TX10) (N := 13) hx hb hts inX10 hown hK hP 0 rfl rfl 0 (Nat.le_of_ble_eq_true rfl) (hts _ mw_309) (fun _ h9 => h9) rfl dX10_moveTo_5 ?_
  refine lv_aload_n hx hb dX10_moveTo_8 rfl (lv_at hl 1 rfl) ?_
  refine lv_iconst (v := (-1)) hx hb dX10_moveTo_9 rfl ?_
  obtain ⟨hPc, hDc, hFc⟩ := zo_part (cx := [_, _, _, _, _, _, _, _, _, _, _, _, _, _, _, _, _, _, _]) hP hD hS hA [2, 3, 4, 5, 6, 7, 8, 9, 10, 11, 12, 13, 22, 23, 14, 15, 16, 17, 18] (by decide +kernel) rfl
  refine zcall (st1 := [.int (pI (pls (nN (mn f0)) P Q ∧ ((∀ i, i < edg (nN (mn f0)) (rgK (kd f0).toInt) → eFr (nN (mn f0)) P Q (rgK (kd f0).toInt) i (i + 1)) ∧ (¬ (kd f0).toInt = 6 ∨ ∀ k, k < (nN (mn f0)) → eRt (nN (mn f0)) P Q k)) ∧ ∀ q, q < ft → (q ≠ f0 → lvF ft st tn q → (apB (mnI (mnI (X5 0).toInt X5 (nN (mn f0))) P (nN (mn f0))) (mnI (mnI (Y5 0).toInt Y5 (nN (mn f0))) Q (nN (mn f0))) (mxI (mxI (X5 0).toInt X5 (nN (mn f0))) P (nN (mn f0))) (mxI (mxI (Y5 0).toInt Y5 (nN (mn f0))) Q (nN (mn f0))) (nN (mn q)) (cF40 cx q) (cF40 cy q) ∨ (asb (nN (mn f0)) X5 Y5 (rgK (kd f0).toInt) (nN (mn f0)) P Q (rgK (kd f0).toInt) (nN (mn q)) (cF40 cx q) (cF40 cy q) (rgK (kd q).toInt) ∧ (¬ ∃ i, i < edg (nN (mn f0)) (rgK (kd f0).toInt) ∧ ∃ k, k < nN (mn q) ∧ swR (nN (mn f0)) X5 Y5 P Q (cF40 cx q k).toInt (cF40 cy q k).toInt i))))))]) (va_runV (As := [.ref sh, .ref (fe f0), .int (-1)]) (rest := []) ⟨hx, hb, hml, hown, hts⟩ (k_Law_allows_m l dC dI cI cZ cF s.heap.size lw dr tg wy br bo aa tx ty nt TX TY rt wx wz nw WX WY rw dx dy (nN (mn f0)) cd P Q (rgK (kd f0).toInt) b1 b2 b3 b4 b5 b6 b7 b8 sh fa ft FA (fe f0) lo5 (rk f0) (wd f0) (tw f0) (pa f0) (pb f0) (la dn f0) (kd f0) (st f0) (gb f0) (it f0) (nI we5) r5 rx5 ry5 (nN (mn f0)) cap5 X5 Y5 (rgK (kd f0).toInt) f0 (.null) T9 f kd st tn mn cx cy (by first | with_reducible assumption | omega) (by first | with_reducible assumption | omega) (hFA9 f0 (by first | with_reducible assumption | omega)) (hst) (by rw [← hT_0]; exact fc_vw hc5 (by first | with_reducible assumption | omega) (by first | with_reducible assumption | omega) hG.1 hG.2.1 hFA9 (Nat.le_refl _)) (hwf) (hkn) (by first | with_reducible assumption | omega) (by first | with_reducible assumption | omega) (by first | with_reducible assumption | omega) (by first | with_reducible assumption | omega) (hp5) (by first | with_reducible assumption | omega) (by first | with_reducible assumption | omega) (by first | with_reducible assumption | omega) (by first | with_reducible assumption | omega)) (csV_109 hts rfl rfl ⟨Nat.le_of_ble_eq_true rfl, Nat.le_of_ble_eq_true rfl⟩) (zPV2 (q0 := 0) (ci := 3) hPc hDc hK3 hXN rfl rfl) rfl rfl hl.1 rfl (lv_room (Nat.le_of_ble_eq_true rfl)) dX10_moveTo_10 ⟨Nat.le_of_ble_eq_true rfl, Nat.le_of_ble_eq_true rfl⟩) hS hFc hFc rfl (fun t H locs ht hB hk1 hS => ?_)
  refine ex16 hB (fun nt6 TX6 TY6 rt6 nw6 WX6 WY6 rw6 g06 g16 g26 g36 g46 g56 g66 g76 hB0 => ?_)
  clear hB
  obtain ⟨hP1, hD1⟩ := hB0
  rw [ht] at hP1
  obtain ⟨hP, hD⟩ := znP (W2 := [_, _, _, (oc6 tg (.ref tx) (.ref ty) (nI nt6) rt6), (oa tx cI 3 TX6), (oa ty cI 3 TY6), (oc6 wy (.ref wx) (.ref wz) (nI nw6) rw6), (oa wx cI 2 WX6), (oa wz cI 2 WY6), _, _, _, (oc0 br g06 g16 g26 g36), (oc0 bo g46 g56 g66 g76), _, _, _, _, _, _, _, _, _, _]) hP hD hk1 hFc hP1 hD1 zl_69 zl_70 zl_71 zl_69 (by decide +kernel) rfl rfl rfl rfl rfl
  clear hk1 hPc hDc hFc hP1 hD1 ht
  refine lv_if_ne (tgt := 23) hx hb dX10_moveTo_13 rfl (fun c_1 => ?_) (fun c_1 => ?_)
  · have c_1 : pls (nN (mn f0)) P Q ∧ ((∀ i, i < edg (nN (mn f0)) (rgK (kd f0).toInt) → eFr (nN (mn f0)) P Q (rgK (kd f0).toInt) i (i + 1)) ∧ (¬ (kd f0).toInt = 6 ∨ ∀ k, k < (nN (mn f0)) → eRt (nN (mn f0)) P Q k)) ∧ ∀ q, q < ft → (q ≠ f0 → lvF ft st tn q → (apB (mnI (mnI (X5 0).toInt X5 (nN (mn f0))) P (nN (mn f0))) (mnI (mnI (Y5 0).toInt Y5 (nN (mn f0))) Q (nN (mn f0))) (mxI (mxI (X5 0).toInt X5 (nN (mn f0))) P (nN (mn f0))) (mxI (mxI (Y5 0).toInt Y5 (nN (mn f0))) Q (nN (mn f0))) (nN (mn q)) (cF40 cx q) (cF40 cy q) ∨ (asb (nN (mn f0)) X5 Y5 (rgK (kd f0).toInt) (nN (mn f0)) P Q (rgK (kd f0).toInt) (nN (mn q)) (cF40 cx q) (cF40 cy q) (rgK (kd q).toInt) ∧ (¬ ∃ i, i < edg (nN (mn f0)) (rgK (kd f0).toInt) ∧ ∃ k, k < nN (mn q) ∧ swR (nN (mn f0)) X5 Y5 P Q (cF40 cx q k).toInt (cF40 cy q k).toInt i)))) := zp_1 c_1
    refine lv_aload_n hx hb dX10_moveTo_23 rfl (lv_at hl 0 rfl) ?_
    refine va_get (D := (dC, dI)) (ci := 8) (v := .ref lw) (C := RX10) (T := TX10) (N := 13) hx hb hts inX10 hown hK hP 0 rfl rfl 1 (Nat.le_of_ble_eq_true rfl) (hts _ mw_310) (fun _ h9 => h9) rfl dX10_moveTo_24 ?_
    refine va_get (D := (dC, dI)) (ci := 3) (v := .ref dr) (C := RX4) (T := TX4) (N := 6) hx hb hts inX4 hown hK hP 2 rfl rfl 0 (Nat.le_of_ble_eq_true rfl) (hts _ mw_220) (fun _ h9 => h9) rfl dX10_moveTo_27 ?_
    refine lv_aload_n hx hb dX10_moveTo_30 rfl (lv_at hl 1 rfl) ?_
    refine va_get (D := (dC, dI)) (ci := 1) (v := .ref (la dn f0)) (C := RX2) (T := TX2) (N := 8) hx hb hts inX2 hown hK hP 14 rfl rfl 6 (Nat.le_of_ble_eq_true rfl) (hts _ mw_433) (fun _ h9 => h9) rfl dX10_moveTo_31 ?_
    refine va_get (D := (dC, dI)) (ci := 4) (v := .ref r5) (C := RX5) (T := TX5) (N := 6) hx hb hts inX5 hown hK hP 15 rfl rfl 2 (Nat.le_of_ble_eq_true rfl) (hts _ mw_391) (fun _ h9 => h9) rfl dX10_moveTo_34 ?_
    obtain ⟨hPc, hDc, hFc, hI1⟩ := zi_sub (wc := [_, _, _, _, _, _]) hP hD hS hA [9, 10, 11, 16, 17, 18] (by decide +kernel) rfl
    refine zcall (st1 := [.int (pI ((nN (mn f0)) = (nN (mn f0)) ∧ ∀ k, k < (nN (mn f0)) → (P k).toInt = (X5 k).toInt ∧ (Q k).toInt = (Y5 k).toInt))]) (va_runV (As := [.ref r5]) (rest := []) ⟨hx, hb, hml, hown, hts⟩ (k_Row_isAlike l dC dI cI cZ cF H.size dr dx dy (nN (mn f0)) cd P Q (rgK (kd f0).toInt) r5 rx5 ry5 (nN (mn f0)) cap5 X5 Y5 (rgK (kd f0).toInt) (by first | with_reducible assumption | omega) (by first | with_reducible assumption | omega) (by first | with_reducible assumption | omega) (by first | with_reducible assumption | omega)) (csV_110 hts rfl rfl ⟨Nat.le_of_ble_eq_true rfl, Nat.le_of_ble_eq_true rfl⟩) (zPV2 (q0 := 0) (ci := 6) hPc hDc hK3 hXN rfl rfl) rfl rfl hl.1 rfl (lv_room (Nat.le_of_ble_eq_true rfl)) dX10_moveTo_37 ⟨Nat.le_of_ble_eq_true rfl, Nat.le_of_ble_eq_true rfl⟩) hS hFc hFc rfl (fun t H locs ht hB hk1 hS => ?_)
    obtain ⟨hP1, hD1⟩ := hB
    rw [ht] at hP1
    replace hP := z0 hP hD hk1 hP1 hI1
    clear hk1 hPc hDc hFc hP1 hD1 ht hI1
    refine lv_if_eq (tgt := 50) hx hb dX10_moveTo_40 rfl (fun c_2 => ?_) (fun c_2 => ?_)
    · have c_2 : ¬ ((nN (mn f0)) = (nN (mn f0)) ∧ ∀ k, k < (nN (mn f0)) → (P k).toInt = (X5 k).toInt ∧ (Q k).toInt = (Y5 k).toInt) := zp_0 c_2
      exact absurd ⟨by assumption, by assumption⟩ hbad
    · have c_2 : (nN (mn f0)) = (nN (mn f0)) ∧ ∀ k, k < (nN (mn f0)) → (P k).toInt = (X5 k).toInt ∧ (Q k).toInt = (Y5 k).toInt := zp_1 c_2
      refine lv_aload_n hx hb dX10_moveTo_43 rfl (lv_at hl 0 rfl) ?_
      refine lv_bipush (v := 8) hx hb dX10_moveTo_44 rfl ?_
      obtain ⟨hPc, hDc, hFc⟩ := zo_sub (wc := [_]) hP hD hS hA [0] rfl rfl
      refine zcall (st1 := [.int 0]) (va_runV (As := [.int 8]) (rest := []) ⟨hx, hb, hml, hown, hts⟩ (k_deny_8 l dC dI cI cZ cF H.size x sh lw ro bq bp dq dp lv sl sd ul su (nI dn) ) (csV_96 hts rfl rfl ⟨Nat.le_of_ble_eq_true rfl, Nat.le_of_ble_eq_true rfl⟩) (zPV2 (q0 := 0) (ci := 8) hPc hDc hK3 hXN rfl rfl) rfl rfl hl.1 rfl (lv_room (Nat.le_of_ble_eq_true rfl)) dX10_moveTo_46 ⟨Nat.le_of_ble_eq_true rfl, Nat.le_of_ble_eq_true rfl⟩) hS hFc hFc rfl (fun t H locs ht hB hk1 hS => ?_)
      obtain ⟨hP1, hD1⟩ := hB
      rw [ht] at hP1
      obtain ⟨hP, hD⟩ := znQ (W2 := [(oc8 x (.ref sh) (.ref lw) (.ref ro) (.ref bq) (.ref bp) (.ref dq) (.ref dp) (.ref lv) (.ref sl) (nI dn) sd ul 8), _, _, _, _, _, _, _, _, _, _, _, _, _, _, _, _, _, _, _, _, _, _, _]) hP hD hk1 hFc hP1 hD1 [0] zl_76 zl_76 [0] (by decide +kernel) rfl rfl rfl rfl rfl
      clear hk1 hPc hDc hFc hP1 hD1 ht
      obtain ⟨hP9, hD9⟩ := zu_part (cx := [_, _, _, _, _, _, _, _, _, _, _, _, _, _, _, _, _, _, _, _, _, _, _, _]) hP hD [true, true, true, true, true, true, true, true, true, true, true, true, true, true, true, true, true, true, true, true, true, true, true, true] rfl rfl
      rw [hQ9]
      exact W.zret (ty := .boolean) (v := 0) hx hb hr (rfl) (fun t ht hW => ⟨⟨rfl, ul, 8, nt6, TX6, TY6, rt6, nw6, WX6, WY6, rw6, g06, g16, g26, g36, g46, g56, g66, g76, by rw [ht]; exact hP9, hD9⟩, hS.F ht⟩) hS.2.2 dX10_moveTo_49
  · have c_1 : ¬ (pls (nN (mn f0)) P Q ∧ ((∀ i, i < edg (nN (mn f0)) (rgK (kd f0).toInt) → eFr (nN (mn f0)) P Q (rgK (kd f0).toInt) i (i + 1)) ∧ (¬ (kd f0).toInt = 6 ∨ ∀ k, k < (nN (mn f0)) → eRt (nN (mn f0)) P Q k)) ∧ ∀ q, q < ft → (q ≠ f0 → lvF ft st tn q → (apB (mnI (mnI (X5 0).toInt X5 (nN (mn f0))) P (nN (mn f0))) (mnI (mnI (Y5 0).toInt Y5 (nN (mn f0))) Q (nN (mn f0))) (mxI (mxI (X5 0).toInt X5 (nN (mn f0))) P (nN (mn f0))) (mxI (mxI (Y5 0).toInt Y5 (nN (mn f0))) Q (nN (mn f0))) (nN (mn q)) (cF40 cx q) (cF40 cy q) ∨ (asb (nN (mn f0)) X5 Y5 (rgK (kd f0).toInt) (nN (mn f0)) P Q (rgK (kd f0).toInt) (nN (mn q)) (cF40 cx q) (cF40 cy q) (rgK (kd q).toInt) ∧ (¬ ∃ i, i < edg (nN (mn f0)) (rgK (kd f0).toInt) ∧ ∃ k, k < nN (mn q) ∧ swR (nN (mn f0)) X5 Y5 P Q (cF40 cx q k).toInt (cF40 cy q k).toInt i))))) := zp_0 c_1
    refine lv_aload_n hx hb dX10_moveTo_16 rfl (lv_at hl 0 rfl) ?_
    refine lv_bipush (v := 7) hx hb dX10_moveTo_17 rfl ?_
    obtain ⟨hPc, hDc, hFc⟩ := zo_sub (wc := [_]) hP hD hS hA [0] rfl rfl
    refine zcall (st1 := [.int 0]) (va_runV (As := [.int 7]) (rest := []) ⟨hx, hb, hml, hown, hts⟩ (k_deny_7 l dC dI cI cZ cF H.size x sh lw ro bq bp dq dp lv sl sd ul su (nI dn) ) (csV_96 hts rfl rfl ⟨Nat.le_of_ble_eq_true rfl, Nat.le_of_ble_eq_true rfl⟩) (zPV2 (q0 := 0) (ci := 8) hPc hDc hK3 hXN rfl rfl) rfl rfl hl.1 rfl (lv_room (Nat.le_of_ble_eq_true rfl)) dX10_moveTo_19 ⟨Nat.le_of_ble_eq_true rfl, Nat.le_of_ble_eq_true rfl⟩) hS hFc hFc rfl (fun t H locs ht hB hk1 hS => ?_)
    obtain ⟨hP1, hD1⟩ := hB
    rw [ht] at hP1
    obtain ⟨hP, hD⟩ := znQ (W2 := [(oc8 x (.ref sh) (.ref lw) (.ref ro) (.ref bq) (.ref bp) (.ref dq) (.ref dp) (.ref lv) (.ref sl) (nI dn) sd (ul + 1) 7), _, _, _, _, _, _, _, _, _, _, _, _, _, _, _, _, _, _, _, _, _, _, _]) hP hD hk1 hFc hP1 hD1 [0] zl_76 zl_76 [0] (by decide +kernel) rfl rfl rfl rfl rfl
    clear hk1 hPc hDc hFc hP1 hD1 ht
    obtain ⟨hP9, hD9⟩ := zu_part (cx := [_, _, _, _, _, _, _, _, _, _, _, _, _, _, _, _, _, _, _, _, _, _, _, _]) hP hD [true, true, true, true, true, true, true, true, true, true, true, true, true, true, true, true, true, true, true, true, true, true, true, true] rfl rfl
    rw [hQ9]
    exact W.zret (ty := .boolean) (v := 0) hx hb hr (rfl) (fun t ht hW => ⟨⟨rfl, (ul + 1), 7, nt6, TX6, TY6, rt6, nw6, WX6, WY6, rw6, g06, g16, g26, g36, g46, g56, g66, g76, by rw [ht]; exact hP9, hD9⟩, hS.F ht⟩) hS.2.2 dX10_moveTo_22
set_option maxHeartbeats 4000000 in
set_option maxRecDepth 100000 in
theorem k_moveTo_w_y (l : Launch) (dC : Nat → ClassId) (dI : Nat → Nat → Nat) (cI cZ cF : ClassId) (sz : Nat) (cO : ClassId) (e0 : Nat) (mi : Nat) (x : Nat) (sh : Nat) (lw : Nat) (ro : Nat) (bq : Nat) (bp : Nat) (dq : Nat) (dp : Nat) (lv : Nat) (sl : Nat) (sd : Int32) (ul : Int32) (su : Int32) (ea : Nat) (mc9 : Int32) (fa : Nat) (FA : Nat → Option Nat) (bs : Nat) (dn : Nat) (T : Nat) (ft : Nat) (FT : Nat → Nat) (V : Nat → Nat → Nat → Int32) (VX : Nat → Nat → Int32) (VY : Nat → Nat → Int32) (tn : Nat → Int32) (rk : Nat → Int32) (wd : Nat → Int32) (tw : Nat → Int32) (pa : Nat → Int32) (pb : Nat → Int32) (wh : Nat → Int32) (of9 : Nat → Int32) (we : Nat → Int32) (kd : Nat → Int32) (st : Nat → Int32) (gb : Nat → Int32) (it : Nat → Int32) (mn : Nat → Int32) (cx : Nat → Int32) (cy : Nat → Int32) (T9 : List Nat) (f : Nat → va_E) (L : List Nat) (f0 : Nat) (own : Nat → Nat) (fe : Nat → Nat) (cl : Nat → Nat) (la : Nat → Nat → Nat) (sp : Nat → Nat) (SA : Nat → Option Nat) (lo5 : Nat) (lx5 : Nat) (ly5 : Nat) (ln5 : Nat) (LX5 : Nat → Int32) (LY5 : Nat → Int32) (we5 : Nat) (r5 : Nat) (rx5 : Nat) (ry5 : Nat) (cap5 : Nat) (X5 : Nat → Int32) (Y5 : Nat → Int32) (dr : Nat) (tg : Nat) (wy : Nat) (br : Nat) (bo : Nat) (aa : Nat) (tx : Nat) (ty : Nat) (nt : Nat) (TX : Nat → Int32) (TY : Nat → Int32) (rt : Int32) (wx : Nat) (wz : Nat) (nw : Nat) (WX : Nat → Int32) (WY : Nat → Int32) (rw : Int32) (dx : Nat) (dy : Nat) (cd : Nat) (P : Nat → Int32) (Q : Nat → Int32) (b1 : Int32) (b2 : Int32) (b3 : Int32) (b4 : Int32) (b5 : Int32) (b6 : Int32) (b7 : Int32) (b8 : Int32) (w1 : Int32) (cx1 : Nat → Int32) (cy1 : Nat → Int32) (hG9 : shG cI cO L f e0 FA ea T own fe cl la (la dn) (fun _ => 0) sp (fun _ => .null) SA bs dn T ft (FT T) FT V VX VY tn rk wd tw pa pb wh of9 we kd st gb it mn cx cy) (hH9 : HiD dn ft V VX VY kd st gb it tn mn cx cy) (hft9 : ft = FT dn) (hO9 : loG cI L f own fe (la dn) (fun _ => 0) la bs dn T ft (FT T) FT V (V dn)) (hc5 : fcA cI L f own f0 (8 * f0 + 2) (8 * f0 + 3) (fe f0) (la dn f0) (cl f0) .null (rk f0) (wd f0) (tw f0) (pa f0) (pb f0) (kd f0) (st f0) (gb f0) (it f0) (nN (mn f0)) (cF40 cx f0) (cF40 cy f0) lo5 lx5 ly5 ln5 LX5 LY5 we5 r5 rx5 ry5 cap5 X5 Y5) (hT_0 : outPl L [(oc1 (fe f0) (rk f0) (wd f0) (tw f0) (pa f0) (pb f0) (.ref lo5) (.ref (la dn f0)) .null), (oc4 (la dn f0) (kd f0) (st f0) (.ref r5) (gb f0) (it f0) (nI we5)), (oc6 r5 (.ref rx5) (.ref ry5) (nI (nN (mn f0))) (rgK (kd f0).toInt)), (oa rx5 cI cap5 X5), (oa ry5 cI cap5 Y5), (oc6 lo5 (.ref lx5) (.ref ly5) (nI ln5) 0), (oa lx5 cI (cl f0) LX5), (oa ly5 cI (cl f0) LY5)] = T9) (hf0 : f0 < ft) (htn : (tn f0).toInt = 0) (hst : (st f0).toInt = 1) (hwf : ∀ q, lvF ft st tn q → wfM mn cx cy q) (hkn : okN ft st tn kd mn) (hcd : nN (mn f0) ≤ cd ∧ cd ≤ 1000) (hn1 : nN (mn f0) = 1) (hd5 : dn + 1 ≤ 512) (hlaw : (pls (nN (mn f0)) P Q ∧ ((∀ i, i < edg (nN (mn f0)) (rgK (kd f0).toInt) → eFr (nN (mn f0)) P Q (rgK (kd f0).toInt) i (i + 1)) ∧ (¬ (kd f0).toInt = 6 ∨ ∀ k, k < (nN (mn f0)) → eRt (nN (mn f0)) P Q k)) ∧ ∀ q, q < ft → (q ≠ f0 → lvF ft st tn q → (apB (mnI (mnI (X5 0).toInt X5 (nN (mn f0))) P (nN (mn f0))) (mnI (mnI (Y5 0).toInt Y5 (nN (mn f0))) Q (nN (mn f0))) (mxI (mxI (X5 0).toInt X5 (nN (mn f0))) P (nN (mn f0))) (mxI (mxI (Y5 0).toInt Y5 (nN (mn f0))) Q (nN (mn f0))) (nN (mn q)) (cF40 cx q) (cF40 cy q) ∨ (asb (nN (mn f0)) X5 Y5 (rgK (kd f0).toInt) (nN (mn f0)) P Q (rgK (kd f0).toInt) (nN (mn q)) (cF40 cx q) (cF40 cy q) (rgK (kd q).toInt) ∧ (∀ k, k < prt (nN (mn q)) (rgK (kd q).toInt) → wyF2 (X5 0).toInt (Y5 0).toInt (P 0).toInt (Q 0).toInt (nN (mn q)) (cF40 cx q) (cF40 cy q) k)))))) (hmv : ¬ (nN (mn f0) = nN (mn f0) ∧ ∀ k, k < nN (mn f0) → (P k).toInt = (X5 k).toInt ∧ (Q k).toInt = (Y5 k).toInt)) (hd1 : ∀ k, k < nN (mn f0) → P k = cF40 cx1 f0 k ∧ Q k = cF40 cy1 f0 k) (ho1 : ∀ j, (j < 40 * f0 ∨ 40 * f0 + 40 ≤ j) → cx1 j = cx j ∧ cy1 j = cy j) : zML l yX10_moveTo cX10_moveTo 4 (some .boolean) ({ frames := 8, cells := ft + 6, slots := 4 * ft + 2 * nN (mn f0) + 815, locals := 182 } : Room) [.ref x, .ref (fe f0), .int (nI f0), .int w1] (dC, dI) (zTyO cI cZ cF cO) e0 mi ([(oc8 x (.ref sh) (.ref lw) (.ref ro) (.ref bq) (.ref bp) (.ref dq) (.ref dp) (.ref lv) (.ref sl) (nI dn) sd ul su), (oc10 sl mc9 (.ref ea) (nI T)), (oc3 lw (.ref dr) (.ref tg) (.ref wy) (.ref br) (.ref bo) (.ref aa)), (oc6 tg (.ref tx) (.ref ty) (nI nt) rt), (oa tx cI 3 TX), (oa ty cI 3 TY), (oc6 wy (.ref wx) (.ref wz) (nI nw) rw), (oa wx cI 2 WX), (oa wz cI 2 WY), (oc6 dr (.ref dx) (.ref dy) (nI (nN (mn f0))) (rgK (kd f0).toInt)), (oa dx cI cd P), (oa dy cI cd Q), (oc0 br b1 b2 b3 b4), (oc0 bo b5 b6 b7 b8), (oc1 (fe f0) (rk f0) (wd f0) (tw f0) (pa f0) (pb f0) (.ref lo5) (.ref (la dn f0)) .null), (oc4 (la dn f0) (kd f0) (st f0) (.ref r5) (gb f0) (it f0) (nI we5)), (oc6 r5 (.ref rx5) (.ref ry5) (nI (nN (mn f0))) (rgK (kd f0).toInt)), (oa rx5 cI cap5 X5), (oa ry5 cI cap5 Y5), (oc6 lo5 (.ref lx5) (.ref ly5) (nI ln5) 0), (oa lx5 cI (cl f0) LX5), (oa ly5 cI (cl f0) LY5), (oc7 sh (.ref fa) (nI ft)), (oq fa cF 200 FA)] ++ va_pl T9 f) sz (some (.int 1)) (fun A t => ∃ (mc1 : Int32), ∃ (L1 : List Nat), ∃ (f1 : Nat → va_E), ∃ (ea1 : Nat), ∃ (nt1 : Nat), ∃ (TX1 : Nat → Int32), ∃ (TY1 : Nat → Int32), ∃ (rt1 : Int32), ∃ (nw1 : Nat), ∃ (WX1 : Nat → Int32), ∃ (WY1 : Nat → Int32), ∃ (rw1 : Int32), ∃ (d5 : Int32), ∃ (d6 : Int32), ∃ (d7 : Int32), ∃ (d8 : Int32), ∃ (e5 : Int32), ∃ (e6 : Int32), ∃ (e7 : Int32), ∃ (e8 : Int32), (shB cI cO L1 f1 e0 FA ea1 bs (dn + 1) (dn + 1) ft (upN FT (dn + 1) ft) (upN V (dn + 1) (vC (V dn) kd st gb it mn)) (upN VX (dn + 1) cx1) (upN VY (dn + 1) cy1) tn rk wd tw pa pb (upd wh (dn + 1) w1) (upd of9 (dn + 1) (nI f0)) (upd we (dn + 1) (0 : Int32)) kd st gb it mn cx1 cy1) ∧ zPD (dC, dI) classes A ([(oc8 x (.ref sh) (.ref lw) (.ref ro) (.ref bq) (.ref bp) (.ref dq) (.ref dp) (.ref lv) (.ref sl) (nI (dn + 1)) sd ul 0), (oc10 sl mc1 (.ref ea1) (nI (dn + 1))), (oc3 lw (.ref dr) (.ref tg) (.ref wy) (.ref br) (.ref bo) (.ref aa)), (oc6 tg (.ref tx) (.ref ty) (nI nt1) rt1), (oa tx cI 3 TX1), (oa ty cI 3 TY1), (oc6 wy (.ref wx) (.ref wz) (nI nw1) rw1), (oa wx cI 2 WX1), (oa wz cI 2 WY1), (oc6 dr (.ref dx) (.ref dy) (nI (nN (mn f0))) (rgK (kd f0).toInt)), (oa dx cI cd P), (oa dy cI cd Q), (oc0 br d5 d6 d7 d8), (oc0 bo e5 e6 e7 e8), (oc7 sh (.ref fa) (nI ft)), (oq fa cF 200 FA)] ++ va_pl L1 f1) t.heap) (ft + 6) (4 * ft + 2 * nN (mn f0) + 815) := by
  refine zInL (own := "ScaleShop") (loc := [(0, .ref x), (1, .ref (fe f0)), (2, .int (nI f0)), (3, .int w1)]) rfl rfl rfl rfl (fun p e s m below meth c hx hb hr hts hown hlocks hml hnm9 A hA hS hP hD hK hXL hXN hK3 Q9 hQ9 ls hl => ?_)
  obtain ⟨hG, hM, hdT, hT5, hO⟩ := M_0 hG9 hH9 hft9 hO9
  have h200 : ft ≤ 200 := hG.2.2.2.2.2.1.2.2.2.2.2
  have hFA9 := hG.2.2.2.2.2.2
  have hb5 := hc5.2.2.1
  have hb6 := hc5.2.1
  have hlv : lvF ft st tn f0 := ⟨hf0, hst, htn⟩
  have hwf0 := hwf f0 hlv
  have hp5 := (pls_cg hc5.2.2.2.2.1).mpr hwf0.2.2
  have hw1 := hwf0.2.1
  have hkn0 := hkn f0 hlv
  have hat9 := lo_at hO (Nat.le_refl _) hf0 hc5.1.1 hc5.1.2.2.2 (by omega) hc5.1.2.1 hb5.2.2
  refine lv_aload_n hx hb dX10_moveTo_0 rfl (lv_at hl 0 rfl) ?_
  refine va_get (D := (dC, dI)) (ci := 8) (v := .ref lw) (C := RX10) (T := TX10) (N := 13) hx hb hts inX10 hown hK hP 0 rfl rfl 1 (Nat.le_of_ble_eq_true rfl) (hts _ mw_310) (fun _ h9 => h9) rfl dX10_moveTo_1 ?_
  refine lv_aload_n hx hb dX10_moveTo_4 rfl (lv_at hl 0 rfl) ?_
  refine va_get (D := (dC, dI)) (ci := 8) (v := .ref sh) (C := RX10) (T := TX10) (N := 13) hx hb hts inX10 hown hK hP 0 rfl rfl 0 (Nat.le_of_ble_eq_true rfl) (hts _ mw_309) (fun _ h9 => h9) rfl dX10_moveTo_5 ?_
  refine lv_aload_n hx hb dX10_moveTo_8 rfl (lv_at hl 1 rfl) ?_
  refine lv_iconst (v := (-1)) hx hb dX10_moveTo_9 rfl ?_
  obtain ⟨hPc, hDc, hFc⟩ := zo_part (cx := [_, _, _, _, _, _, _, _, _, _, _, _, _, _, _, _, _, _, _]) hP hD hS hA [2, 3, 4, 5, 6, 7, 8, 9, 10, 11, 12, 13, 22, 23, 14, 15, 16, 17, 18] (by decide +kernel) rfl
  refine zcall (st1 := [.int (pI (pls (nN (mn f0)) P Q ∧ ((∀ i, i < edg (nN (mn f0)) (rgK (kd f0).toInt) → eFr (nN (mn f0)) P Q (rgK (kd f0).toInt) i (i + 1)) ∧ (¬ (kd f0).toInt = 6 ∨ ∀ k, k < (nN (mn f0)) → eRt (nN (mn f0)) P Q k)) ∧ ∀ q, q < ft → (q ≠ f0 → lvF ft st tn q → (apB (mnI (mnI (X5 0).toInt X5 (nN (mn f0))) P (nN (mn f0))) (mnI (mnI (Y5 0).toInt Y5 (nN (mn f0))) Q (nN (mn f0))) (mxI (mxI (X5 0).toInt X5 (nN (mn f0))) P (nN (mn f0))) (mxI (mxI (Y5 0).toInt Y5 (nN (mn f0))) Q (nN (mn f0))) (nN (mn q)) (cF40 cx q) (cF40 cy q) ∨ (asb (nN (mn f0)) X5 Y5 (rgK (kd f0).toInt) (nN (mn f0)) P Q (rgK (kd f0).toInt) (nN (mn q)) (cF40 cx q) (cF40 cy q) (rgK (kd q).toInt) ∧ (∀ k, k < prt (nN (mn q)) (rgK (kd q).toInt) → wyF2 (X5 0).toInt (Y5 0).toInt (P 0).toInt (Q 0).toInt (nN (mn q)) (cF40 cx q) (cF40 cy q) k))))))]) (va_runV (As := [.ref sh, .ref (fe f0), .int (-1)]) (rest := []) ⟨hx, hb, hml, hown, hts⟩ (k_Law_allows_w l dC dI cI cZ cF s.heap.size lw dr tg wy br bo aa tx ty nt TX TY rt wx wz nw WX WY rw dx dy (nN (mn f0)) cd P Q (rgK (kd f0).toInt) b1 b2 b3 b4 b5 b6 b7 b8 sh fa ft FA (fe f0) lo5 (rk f0) (wd f0) (tw f0) (pa f0) (pb f0) (la dn f0) (kd f0) (st f0) (gb f0) (it f0) (nI we5) r5 rx5 ry5 (nN (mn f0)) cap5 X5 Y5 (rgK (kd f0).toInt) f0 (.null) T9 f kd st tn mn cx cy (by first | with_reducible assumption | omega) (by first | with_reducible assumption | omega) (hFA9 f0 (by first | with_reducible assumption | omega)) (hst) (by rw [← hT_0]; exact fc_vw hc5 (by first | with_reducible assumption | omega) (by first | with_reducible assumption | omega) hG.1 hG.2.1 hFA9 (Nat.le_refl _)) (hwf) (hkn) (by first | with_reducible assumption | omega) (by first | with_reducible assumption | omega) (by first | with_reducible assumption | omega) (by first | with_reducible assumption | omega) (hp5) (by first | with_reducible assumption | omega) (by first | with_reducible assumption | omega) (by first | with_reducible assumption | omega)) (csV_109 hts rfl rfl ⟨Nat.le_of_ble_eq_true rfl, Nat.le_of_ble_eq_true rfl⟩) (zPV2 (q0 := 0) (ci := 3) hPc hDc hK3 hXN rfl rfl) rfl rfl hl.1 rfl (lv_room (Nat.le_of_ble_eq_true rfl)) dX10_moveTo_10 ⟨Nat.zero_le _, Nat.zero_le _⟩) hS hFc hFc rfl (fun t H locs ht hB hk1 hS => ?_)
  refine ex16 hB (fun nt6 TX6 TY6 rt6 nw6 WX6 WY6 rw6 g06 g16 g26 g36 g46 g56 g66 g76 hB0 => ?_)
  clear hB
  obtain ⟨hP1, hD1⟩ := hB0
  rw [ht] at hP1
  obtain ⟨hP, hD⟩ := znP (W2 := [_, _, _, (oc6 tg (.ref tx) (.ref ty) (nI nt6) rt6), (oa tx cI 3 TX6), (oa ty cI 3 TY6), (oc6 wy (.ref wx) (.ref wz) (nI nw6) rw6), (oa wx cI 2 WX6), (oa wz cI 2 WY6), _, _, _, (oc0 br g06 g16 g26 g36), (oc0 bo g46 g56 g66 g76), _, _, _, _, _, _, _, _, _, _]) hP hD hk1 hFc hP1 hD1 zl_69 zl_70 zl_71 zl_69 (by decide +kernel) rfl rfl rfl rfl rfl
  clear hk1 hPc hDc hFc hP1 hD1 ht
  refine lv_if_ne (tgt := 23) hx hb dX10_moveTo_13 rfl (fun c_1 => ?_) (fun c_1 => ?_)
  · have c_1 : pls (nN (mn f0)) P Q ∧ ((∀ i, i < edg (nN (mn f0)) (rgK (kd f0).toInt) → eFr (nN (mn f0)) P Q (rgK (kd f0).toInt) i (i + 1)) ∧ (¬ (kd f0).toInt = 6 ∨ ∀ k, k < (nN (mn f0)) → eRt (nN (mn f0)) P Q k)) ∧ ∀ q, q < ft → (q ≠ f0 → lvF ft st tn q → (apB (mnI (mnI (X5 0).toInt X5 (nN (mn f0))) P (nN (mn f0))) (mnI (mnI (Y5 0).toInt Y5 (nN (mn f0))) Q (nN (mn f0))) (mxI (mxI (X5 0).toInt X5 (nN (mn f0))) P (nN (mn f0))) (mxI (mxI (Y5 0).toInt Y5 (nN (mn f0))) Q (nN (mn f0))) (nN (mn q)) (cF40 cx q) (cF40 cy q) ∨ (asb (nN (mn f0)) X5 Y5 (rgK (kd f0).toInt) (nN (mn f0)) P Q (rgK (kd f0).toInt) (nN (mn q)) (cF40 cx q) (cF40 cy q) (rgK (kd q).toInt) ∧ (∀ k, k < prt (nN (mn q)) (rgK (kd q).toInt) → wyF2 (X5 0).toInt (Y5 0).toInt (P 0).toInt (Q 0).toInt (nN (mn q)) (cF40 cx q) (cF40 cy q) k)))) := zp_1 c_1
    refine lv_aload_n hx hb dX10_moveTo_23 rfl (lv_at hl 0 rfl) ?_
    refine va_get (D := (dC, dI)) (ci := 8) (v := .ref lw) (C := RX10) (T := TX10) (N := 13) hx hb hts inX10 hown hK hP 0 rfl rfl 1 (Nat.le_of_ble_eq_true rfl) (hts _ mw_310) (fun _ h9 => h9) rfl dX10_moveTo_24 ?_
    refine va_get (D := (dC, dI)) (ci := 3) (v := .ref dr) (C := RX4) (T := TX4) (N := 6) hx hb hts inX4 hown hK hP 2 rfl rfl 0 (Nat.le_of_ble_eq_true rfl) (hts _ mw_220) (fun _ h9 => h9) rfl dX10_moveTo_27 ?_
    refine lv_aload_n hx hb dX10_moveTo_30 rfl (lv_at hl 1 rfl) ?_
    refine va_get (D := (dC, dI)) (ci := 1) (v := .ref (la dn f0)) (C := RX2) (T := TX2) (N := 8) hx hb hts inX2 hown hK hP 14 rfl rfl 6 (Nat.le_of_ble_eq_true rfl) (hts _ mw_433) (fun _ h9 => h9) rfl dX10_moveTo_31 ?_
    refine va_get (D := (dC, dI)) (ci := 4) (v := .ref r5) (C := RX5) (T := TX5) (N := 6) hx hb hts inX5 hown hK hP 15 rfl rfl 2 (Nat.le_of_ble_eq_true rfl) (hts _ mw_391) (fun _ h9 => h9) rfl dX10_moveTo_34 ?_
    obtain ⟨hPc, hDc, hFc, hI1⟩ := zi_sub (wc := [_, _, _, _, _, _]) hP hD hS hA [9, 10, 11, 16, 17, 18] (by decide +kernel) rfl
    refine zcall (st1 := [.int (pI ((nN (mn f0)) = (nN (mn f0)) ∧ ∀ k, k < (nN (mn f0)) → (P k).toInt = (X5 k).toInt ∧ (Q k).toInt = (Y5 k).toInt))]) (va_runV (As := [.ref r5]) (rest := []) ⟨hx, hb, hml, hown, hts⟩ (k_Row_isAlike l dC dI cI cZ cF H.size dr dx dy (nN (mn f0)) cd P Q (rgK (kd f0).toInt) r5 rx5 ry5 (nN (mn f0)) cap5 X5 Y5 (rgK (kd f0).toInt) (by first | with_reducible assumption | omega) (by first | with_reducible assumption | omega) (by first | with_reducible assumption | omega) (by first | with_reducible assumption | omega)) (csV_110 hts rfl rfl ⟨Nat.le_of_ble_eq_true rfl, Nat.le_of_ble_eq_true rfl⟩) (zPV2 (q0 := 0) (ci := 6) hPc hDc hK3 hXN rfl rfl) rfl rfl hl.1 rfl (lv_room (Nat.le_of_ble_eq_true rfl)) dX10_moveTo_37 ⟨Nat.zero_le _, Nat.zero_le _⟩) hS hFc hFc rfl (fun t H locs ht hB hk1 hS => ?_)
    obtain ⟨hP1, hD1⟩ := hB
    rw [ht] at hP1
    replace hP := z0 hP hD hk1 hP1 hI1
    clear hk1 hPc hDc hFc hP1 hD1 ht hI1
    refine lv_if_eq (tgt := 50) hx hb dX10_moveTo_40 rfl (fun c_2 => ?_) (fun c_2 => ?_)
    · have c_2 : ¬ ((nN (mn f0)) = (nN (mn f0)) ∧ ∀ k, k < (nN (mn f0)) → (P k).toInt = (X5 k).toInt ∧ (Q k).toInt = (Y5 k).toInt) := zp_0 c_2
      refine lv_aload_n hx hb dX10_moveTo_50 rfl (lv_at hl 1 rfl) ?_
      refine lv_aload_n hx hb dX10_moveTo_51 rfl (lv_at hl 0 rfl) ?_
      refine va_get (D := (dC, dI)) (ci := 8) (v := .ref lw) (C := RX10) (T := TX10) (N := 13) hx hb hts inX10 hown hK hP 0 rfl rfl 1 (Nat.le_of_ble_eq_true rfl) (hts _ mw_310) (fun _ h9 => h9) rfl dX10_moveTo_52 ?_
      refine va_get (D := (dC, dI)) (ci := 3) (v := .ref dr) (C := RX4) (T := TX4) (N := 6) hx hb hts inX4 hown hK hP 2 rfl rfl 0 (Nat.le_of_ble_eq_true rfl) (hts _ mw_220) (fun _ h9 => h9) rfl dX10_moveTo_55 ?_
      obtain ⟨hPc, hDc, hFc⟩ := zo_sub (wc := [_, _, _, _, _]) hP hD hS hA [14, 15, 9, 10, 11] (by decide +kernel) rfl
      refine zcall (st1 := []) (va_runV (As := [.ref dr]) (rest := []) ⟨hx, hb, hml, hown, hts⟩ (k_Feature_reshape l dC dI cI cZ cF H.size (fe f0) lo5 (rk f0) (wd f0) (tw f0) (pa f0) (pb f0) (la dn f0) (kd f0) (st f0) (gb f0) (it f0) (nI we5) r5 dr dx dy (nN (mn f0)) cd P Q (rgK (kd f0).toInt) (by first | with_reducible assumption | omega) (by first | with_reducible assumption | omega) (rgK_01 _)) (csV_111 hts rfl rfl ⟨Nat.le_of_ble_eq_true rfl, Nat.le_of_ble_eq_true rfl⟩) (zPV2 (q0 := 0) (ci := 1) hPc hDc hK3 hXN rfl rfl) rfl rfl hl.1 rfl (lv_room (Nat.le_of_ble_eq_true rfl)) dX10_moveTo_58 ⟨show (0 + 4) ≤ ft + 6 by omega, show (0 + (2 * (nN (mn f0)) + 10)) ≤ 4 * ft + 2 * nN (mn f0) + 815 by omega⟩) hS hFc hFc rfl (fun t H locs ht hB hk1 hS => ?_)
      refine ex6 hB (fun q7 w7 wx7 wy7 X7 Y7 hB0 => ?_)
      clear hB
      obtain ⟨hall7, hP1, hD1⟩ := hB0
      rw [ht] at hP1
      obtain ⟨hP, hD⟩ := znQ (W2 := [_, _, _, _, _, _, _, _, _, _, _, _, _, _, _, _, _, _, _, (oc1 (fe f0) (rk f0) (wd f0) (tw f0) (pa f0) (pb f0) (.ref lo5) (.ref q7) (.ref (la dn f0))), (oc4 (la dn f0) (kd f0) (st f0) (.ref r5) (gb f0) (it f0) (nI we5)), (oc4 q7 (kd f0) (st f0) (.ref w7) (gb f0) (it f0) (nI we5)), (oc6 dr (.ref dx) (.ref dy) (nI (nN (mn f0))) (rgK (kd f0).toInt)), (oa dx cI cd P), (oa dy cI cd Q), (oc6 w7 (.ref wx7) (.ref wy7) (nI (nN (mn f0))) (rgK (kd f0).toInt)), (oa wx7 cI (nN (mn f0)) X7), (oa wy7 cI (nN (mn f0)) Y7)]) hP hD hk1 hFc hP1 hD1 [14, 15, 9, 10, 11] zl_72 zl_73 zl_74 (by decide +kernel) rfl rfl rfl rfl rfl
      clear hk1 hPc hDc hFc hP1 hD1 ht
      obtain ⟨hP, hD⟩ := zq_part (cx := [_, _, _, _, _, _, _, _, _, _, _, _, _, _, _, _, _, _, _, _, _, _, _, _, _, _, _, _]) hP hD [0, 1, 2, 3, 4, 5, 6, 7, 8, 9, 10, 17, 18, 22, 23, 24, 19, 20, 11, 12, 13, 14, 15, 16, 21, 25, 26, 27] rfl rfl
      obtain ⟨Lp0, fp0, hP, hD, hpin_0⟩ := pl_pn (X := [_, _, _, _, _, _, _, _, _, _, _, _, _, _, _, _]) (old := [_, _, _, _, _, _, _, _]) (new := [_, _, _, _]) (cs1 := [_, _, _, _, _, _, _, _, _, _, _, _]) (L := L) (cs := [(oc1 (fe f0) (rk f0) (wd f0) (tw f0) (pa f0) (pb f0) (.ref lo5) (.ref (la dn f0)) .null), (oc4 (la dn f0) (kd f0) (st f0) (.ref r5) (gb f0) (it f0) (nI we5)), (oc6 r5 (.ref rx5) (.ref ry5) (nI (nN (mn f0))) (rgK (kd f0).toInt)), (oa rx5 cI cap5 X5), (oa ry5 cI cap5 Y5), (oc6 lo5 (.ref lx5) (.ref ly5) (nI ln5) 0), (oa lx5 cI (cl f0) LX5), (oa ly5 cI (cl f0) LY5)]) hT_0 hP hD rfl rfl rfl
      obtain ⟨hfr_0, hkp_0, hce_0, hsx_0, hpw_0⟩ := id hpin_0
      obtain ⟨own1, nw1, md1, fm1, hG1, hM1, hmd1, hO1⟩ := M_resh (kd1 := kd) (st1 := st) (gb1 := gb) (it1 := it) (mn1 := mn) (cx1 := cx1) (cy1 := cy1) hG hM rfl hf0 (by rw [← hft9]; exact hf0) (by omega) (by omega) htn hc5 ⟨rfl, rfl, rfl, rfl⟩ hpin_0 (fun p hp => ⟨rfl, rfl, rfl, rfl, rfl, fun k hk => ho1 (40 * p + k) (by omega)⟩) rfl rfl rfl rfl rfl rfl (fun k hk => by rw [(hall7 k hk).1, (hall7 k hk).2]; exact hd1 k hk) (by omega) (by omega) (fun g => ⟨g, (hc5.2.2.2.2.2 g).2⟩) hO (fun _ _ => ⟨rfl, rfl⟩) ⟨Nat.le_refl _, hat9.2⟩ hat9.1 (fun _ _ _ => rfl)
      refine lv_aload_n hx hb dX10_moveTo_61 rfl (lv_at hl 0 rfl) ?_
      refine lv_iload_n hx hb dX10_moveTo_62 rfl (lv_at hl 3 rfl) ?_
      refine lv_iload_n hx hb dX10_moveTo_63 rfl (lv_at hl 2 rfl) ?_
      refine lv_iconst (v := 0) hx hb dX10_moveTo_64 rfl ?_
      refine lv_null hx hb dX10_moveTo_65 ?_
      obtain ⟨hPc, hDc, hFc⟩ := zo_part (cx := [_, _, _, _]) hP hD hS hA [0, 1, 11, 12] (by decide +kernel) rfl
      refine zcall (st1 := [.int 1]) (va_runV (As := [.int w1, .int (nI f0), .int 0, .null]) (rest := []) ⟨hx, hb, hml, hown, hts⟩ (k_book_n l dC dI cI cZ cF H.size cO e0 mi x sh lw ro bq bp dq dp lv sl sd ul su sl ea T mc9 fa FA own1 fe cl la nw1 md1 sp fm1 SA bs dn ft FT V VX VY (V dn) tn rk wd tw pa pb wh of9 we kd st gb it mn cx1 cy1 w1 (nI f0) 0 Lp0 fp0 (hG1) (hM1) (hO1) (hdT) (hT5) (by first | with_reducible assumption | omega) (fun q h1 h2 => by omega) (hft9)) (csV_101 hts rfl rfl ⟨Nat.le_of_ble_eq_true rfl, Nat.le_of_ble_eq_true rfl⟩) (zPVL (q0 := 0) (ci := 8) hPc hDc hK hXL hS hFc rfl rfl) rfl rfl hl.1 rfl (lv_room (Nat.le_of_ble_eq_true rfl)) dX10_moveTo_66 ⟨show ((0 + 4) + (ft + 2)) ≤ ft + 6 by omega, show ((0 + (2 * (nN (mn f0)) + 10)) + (4 * ft + 805)) ≤ 4 * ft + 2 * nN (mn f0) + 815 by omega⟩) hS hFc hFc rfl (fun t H locs ht hB hk1 hS => ?_)
      obtain ⟨mc6, L6, f6, ea6, hB6, hP1, hD1⟩ := hB
      rw [ht] at hP1
      obtain ⟨hP, hD⟩ := znP (W2 := [(oc8 x (.ref sh) (.ref lw) (.ref ro) (.ref bq) (.ref bp) (.ref dq) (.ref dp) (.ref lv) (.ref sl) (nI (dn + 1)) sd ul 0), (oc10 sl mc6 (.ref ea6) (nI (dn + 1))), _, _, _, _, _, _, _, _, _, _, _, _, _, _]) hP hD hk1 hFc hP1 hD1 [0, 1, 11, 12] zl_75 zl_75 [0, 1, 11, 12] (by decide +kernel) rfl rfl rfl rfl rfl
      clear hk1 hPc hDc hFc hP1 hD1 ht
      obtain ⟨hP9, hD9⟩ := zq_part (cx := [_, _, _, _, _, _, _, _, _, _, _, _, _, _, _, _]) hP hD [0, 1, 2, 3, 4, 5, 6, 7, 8, 13, 14, 15, 9, 10, 11, 12] rfl rfl
      refine W.widen (k := ft + 6) (n := 4 * ft + 2 * nN (mn f0) + 815) (by omega) (by omega) ?_
      rw [hQ9]
      exact W.zret (ty := .boolean) (v := 1) hx hb hr (rfl) (fun t ht hW => ⟨⟨rfl, mc6, L6, f6, ea6, nt6, TX6, TY6, rt6, nw6, WX6, WY6, rw6, g06, g16, g26, g36, g46, g56, g66, g76, (hB6), by rw [ht]; exact hP9, hD9⟩, hS.F ht⟩) hS.2.2 dX10_moveTo_69
    · have c_2 : (nN (mn f0)) = (nN (mn f0)) ∧ ∀ k, k < (nN (mn f0)) → (P k).toInt = (X5 k).toInt ∧ (Q k).toInt = (Y5 k).toInt := zp_1 c_2
      exfalso; exact absurd (by first | with_reducible assumption | assumption) hmv
  · have c_1 : ¬ (pls (nN (mn f0)) P Q ∧ ((∀ i, i < edg (nN (mn f0)) (rgK (kd f0).toInt) → eFr (nN (mn f0)) P Q (rgK (kd f0).toInt) i (i + 1)) ∧ (¬ (kd f0).toInt = 6 ∨ ∀ k, k < (nN (mn f0)) → eRt (nN (mn f0)) P Q k)) ∧ ∀ q, q < ft → (q ≠ f0 → lvF ft st tn q → (apB (mnI (mnI (X5 0).toInt X5 (nN (mn f0))) P (nN (mn f0))) (mnI (mnI (Y5 0).toInt Y5 (nN (mn f0))) Q (nN (mn f0))) (mxI (mxI (X5 0).toInt X5 (nN (mn f0))) P (nN (mn f0))) (mxI (mxI (Y5 0).toInt Y5 (nN (mn f0))) Q (nN (mn f0))) (nN (mn q)) (cF40 cx q) (cF40 cy q) ∨ (asb (nN (mn f0)) X5 Y5 (rgK (kd f0).toInt) (nN (mn f0)) P Q (rgK (kd f0).toInt) (nN (mn q)) (cF40 cx q) (cF40 cy q) (rgK (kd q).toInt) ∧ (∀ k, k < prt (nN (mn q)) (rgK (kd q).toInt) → wyF2 (X5 0).toInt (Y5 0).toInt (P 0).toInt (Q 0).toInt (nN (mn q)) (cF40 cx q) (cF40 cy q) k))))) := zp_0 c_1
    exfalso; exact absurd hlaw (by first | with_reducible assumption | assumption)
set_option maxHeartbeats 4000000 in
set_option maxRecDepth 100000 in
theorem k_moveTo_w_r (l : Launch) (dC : Nat → ClassId) (dI : Nat → Nat → Nat) (cI cZ cF : ClassId) (sz : Nat) (cO : ClassId) (e0 : Nat) (mi : Nat) (x : Nat) (sh : Nat) (lw : Nat) (ro : Nat) (bq : Nat) (bp : Nat) (dq : Nat) (dp : Nat) (lv : Nat) (sl : Nat) (sd : Int32) (ul : Int32) (su : Int32) (ea : Nat) (mc9 : Int32) (fa : Nat) (FA : Nat → Option Nat) (bs : Nat) (dn : Nat) (T : Nat) (ft : Nat) (FT : Nat → Nat) (V : Nat → Nat → Nat → Int32) (VX : Nat → Nat → Int32) (VY : Nat → Nat → Int32) (tn : Nat → Int32) (rk : Nat → Int32) (wd : Nat → Int32) (tw : Nat → Int32) (pa : Nat → Int32) (pb : Nat → Int32) (wh : Nat → Int32) (of9 : Nat → Int32) (we : Nat → Int32) (kd : Nat → Int32) (st : Nat → Int32) (gb : Nat → Int32) (it : Nat → Int32) (mn : Nat → Int32) (cx : Nat → Int32) (cy : Nat → Int32) (T9 : List Nat) (f : Nat → va_E) (L : List Nat) (f0 : Nat) (own : Nat → Nat) (fe : Nat → Nat) (cl : Nat → Nat) (la : Nat → Nat → Nat) (sp : Nat → Nat) (SA : Nat → Option Nat) (lo5 : Nat) (lx5 : Nat) (ly5 : Nat) (ln5 : Nat) (LX5 : Nat → Int32) (LY5 : Nat → Int32) (we5 : Nat) (r5 : Nat) (rx5 : Nat) (ry5 : Nat) (cap5 : Nat) (X5 : Nat → Int32) (Y5 : Nat → Int32) (dr : Nat) (tg : Nat) (wy : Nat) (br : Nat) (bo : Nat) (aa : Nat) (tx : Nat) (ty : Nat) (nt : Nat) (TX : Nat → Int32) (TY : Nat → Int32) (rt : Int32) (wx : Nat) (wz : Nat) (nw : Nat) (WX : Nat → Int32) (WY : Nat → Int32) (rw : Int32) (dx : Nat) (dy : Nat) (cd : Nat) (P : Nat → Int32) (Q : Nat → Int32) (b1 : Int32) (b2 : Int32) (b3 : Int32) (b4 : Int32) (b5 : Int32) (b6 : Int32) (b7 : Int32) (b8 : Int32) (w1 : Int32) (hG9 : shG cI cO L f e0 FA ea T own fe cl la (la dn) (fun _ => 0) sp (fun _ => .null) SA bs dn T ft (FT T) FT V VX VY tn rk wd tw pa pb wh of9 we kd st gb it mn cx cy) (hH9 : HiD dn ft V VX VY kd st gb it tn mn cx cy) (hft9 : ft = FT dn) (hO9 : loG cI L f own fe (la dn) (fun _ => 0) la bs dn T ft (FT T) FT V (V dn)) (hc5 : fcA cI L f own f0 (8 * f0 + 2) (8 * f0 + 3) (fe f0) (la dn f0) (cl f0) .null (rk f0) (wd f0) (tw f0) (pa f0) (pb f0) (kd f0) (st f0) (gb f0) (it f0) (nN (mn f0)) (cF40 cx f0) (cF40 cy f0) lo5 lx5 ly5 ln5 LX5 LY5 we5 r5 rx5 ry5 cap5 X5 Y5) (hT_0 : outPl L [(oc1 (fe f0) (rk f0) (wd f0) (tw f0) (pa f0) (pb f0) (.ref lo5) (.ref (la dn f0)) .null), (oc4 (la dn f0) (kd f0) (st f0) (.ref r5) (gb f0) (it f0) (nI we5)), (oc6 r5 (.ref rx5) (.ref ry5) (nI (nN (mn f0))) (rgK (kd f0).toInt)), (oa rx5 cI cap5 X5), (oa ry5 cI cap5 Y5), (oc6 lo5 (.ref lx5) (.ref ly5) (nI ln5) 0), (oa lx5 cI (cl f0) LX5), (oa ly5 cI (cl f0) LY5)] = T9) (hf0 : f0 < ft) (htn : (tn f0).toInt = 0) (hst : (st f0).toInt = 1) (hwf : ∀ q, lvF ft st tn q → wfM mn cx cy q) (hkn : okN ft st tn kd mn) (hcd : nN (mn f0) ≤ cd ∧ cd ≤ 1000) (hn1 : nN (mn f0) = 1) (hbad : ¬ (((pls (nN (mn f0)) P Q ∧ ((∀ i, i < edg (nN (mn f0)) (rgK (kd f0).toInt) → eFr (nN (mn f0)) P Q (rgK (kd f0).toInt) i (i + 1)) ∧ (¬ (kd f0).toInt = 6 ∨ ∀ k, k < (nN (mn f0)) → eRt (nN (mn f0)) P Q k)) ∧ ∀ q, q < ft → (q ≠ f0 → lvF ft st tn q → (apB (mnI (mnI (X5 0).toInt X5 (nN (mn f0))) P (nN (mn f0))) (mnI (mnI (Y5 0).toInt Y5 (nN (mn f0))) Q (nN (mn f0))) (mxI (mxI (X5 0).toInt X5 (nN (mn f0))) P (nN (mn f0))) (mxI (mxI (Y5 0).toInt Y5 (nN (mn f0))) Q (nN (mn f0))) (nN (mn q)) (cF40 cx q) (cF40 cy q) ∨ (asb (nN (mn f0)) X5 Y5 (rgK (kd f0).toInt) (nN (mn f0)) P Q (rgK (kd f0).toInt) (nN (mn q)) (cF40 cx q) (cF40 cy q) (rgK (kd q).toInt) ∧ (∀ k, k < prt (nN (mn q)) (rgK (kd q).toInt) → wyF2 (X5 0).toInt (Y5 0).toInt (P 0).toInt (Q 0).toInt (nN (mn q)) (cF40 cx q) (cF40 cy q) k)))))) ∧ ¬ (nN (mn f0) = nN (mn f0) ∧ ∀ k, k < nN (mn f0) → (P k).toInt = (X5 k).toInt ∧ (Q k).toInt = (Y5 k).toInt))) : zML l yX10_moveTo cX10_moveTo 4 (some .boolean) ({ frames := 5, cells := 0, slots := 0, locals := 123 } : Room) [.ref x, .ref (fe f0), .int (nI f0), .int w1] (dC, dI) (zTyO cI cZ cF cO) e0 mi ([(oc8 x (.ref sh) (.ref lw) (.ref ro) (.ref bq) (.ref bp) (.ref dq) (.ref dp) (.ref lv) (.ref sl) (nI dn) sd ul su), (oc10 sl mc9 (.ref ea) (nI T)), (oc3 lw (.ref dr) (.ref tg) (.ref wy) (.ref br) (.ref bo) (.ref aa)), (oc6 tg (.ref tx) (.ref ty) (nI nt) rt), (oa tx cI 3 TX), (oa ty cI 3 TY), (oc6 wy (.ref wx) (.ref wz) (nI nw) rw), (oa wx cI 2 WX), (oa wz cI 2 WY), (oc6 dr (.ref dx) (.ref dy) (nI (nN (mn f0))) (rgK (kd f0).toInt)), (oa dx cI cd P), (oa dy cI cd Q), (oc0 br b1 b2 b3 b4), (oc0 bo b5 b6 b7 b8), (oc1 (fe f0) (rk f0) (wd f0) (tw f0) (pa f0) (pb f0) (.ref lo5) (.ref (la dn f0)) .null), (oc4 (la dn f0) (kd f0) (st f0) (.ref r5) (gb f0) (it f0) (nI we5)), (oc6 r5 (.ref rx5) (.ref ry5) (nI (nN (mn f0))) (rgK (kd f0).toInt)), (oa rx5 cI cap5 X5), (oa ry5 cI cap5 Y5), (oc6 lo5 (.ref lx5) (.ref ly5) (nI ln5) 0), (oa lx5 cI (cl f0) LX5), (oa ly5 cI (cl f0) LY5), (oc7 sh (.ref fa) (nI ft)), (oq fa cF 200 FA)] ++ va_pl T9 f) sz (some (.int 0)) (fun A t => ∃ (ul1 : Int32), ∃ (su1 : Int32), ∃ (nt1 : Nat), ∃ (TX1 : Nat → Int32), ∃ (TY1 : Nat → Int32), ∃ (rt1 : Int32), ∃ (nw1 : Nat), ∃ (WX1 : Nat → Int32), ∃ (WY1 : Nat → Int32), ∃ (rw1 : Int32), ∃ (d5 : Int32), ∃ (d6 : Int32), ∃ (d7 : Int32), ∃ (d8 : Int32), ∃ (e5 : Int32), ∃ (e6 : Int32), ∃ (e7 : Int32), ∃ (e8 : Int32), zPD (dC, dI) classes A ([(oc8 x (.ref sh) (.ref lw) (.ref ro) (.ref bq) (.ref bp) (.ref dq) (.ref dp) (.ref lv) (.ref sl) (nI dn) sd ul1 su1), (oc10 sl mc9 (.ref ea) (nI T)), (oc3 lw (.ref dr) (.ref tg) (.ref wy) (.ref br) (.ref bo) (.ref aa)), (oc6 tg (.ref tx) (.ref ty) (nI nt1) rt1), (oa tx cI 3 TX1), (oa ty cI 3 TY1), (oc6 wy (.ref wx) (.ref wz) (nI nw1) rw1), (oa wx cI 2 WX1), (oa wz cI 2 WY1), (oc6 dr (.ref dx) (.ref dy) (nI (nN (mn f0))) (rgK (kd f0).toInt)), (oa dx cI cd P), (oa dy cI cd Q), (oc0 br d5 d6 d7 d8), (oc0 bo e5 e6 e7 e8), (oc1 (fe f0) (rk f0) (wd f0) (tw f0) (pa f0) (pb f0) (.ref lo5) (.ref (la dn f0)) .null), (oc4 (la dn f0) (kd f0) (st f0) (.ref r5) (gb f0) (it f0) (nI we5)), (oc6 r5 (.ref rx5) (.ref ry5) (nI (nN (mn f0))) (rgK (kd f0).toInt)), (oa rx5 cI cap5 X5), (oa ry5 cI cap5 Y5), (oc6 lo5 (.ref lx5) (.ref ly5) (nI ln5) 0), (oa lx5 cI (cl f0) LX5), (oa ly5 cI (cl f0) LY5), (oc7 sh (.ref fa) (nI ft)), (oq fa cF 200 FA)] ++ va_pl T9 f) t.heap) 0 0 := by
  refine zInL (own := "ScaleShop") (loc := [(0, .ref x), (1, .ref (fe f0)), (2, .int (nI f0)), (3, .int w1)]) rfl rfl rfl rfl (fun p e s m below meth c hx hb hr hts hown hlocks hml hnm9 A hA hS hP hD hK hXL hXN hK3 Q9 hQ9 ls hl => ?_)
  obtain ⟨hG, hM, hdT, hT5, hO⟩ := M_0 hG9 hH9 hft9 hO9
  have h200 : ft ≤ 200 := hG.2.2.2.2.2.1.2.2.2.2.2
  have hFA9 := hG.2.2.2.2.2.2
  have hb5 := hc5.2.2.1
  have hb6 := hc5.2.1
  have hlv : lvF ft st tn f0 := ⟨hf0, hst, htn⟩
  have hwf0 := hwf f0 hlv
  have hp5 := (pls_cg hc5.2.2.2.2.1).mpr hwf0.2.2
  have hw1 := hwf0.2.1
  have hkn0 := hkn f0 hlv
  have hat9 := lo_at hO (Nat.le_refl _) hf0 hc5.1.1 hc5.1.2.2.2 (by omega) hc5.1.2.1 hb5.2.2
  refine lv_aload_n hx hb dX10_moveTo_0 rfl (lv_at hl 0 rfl) ?_
  refine va_get (D := (dC, dI)) (ci := 8) (v := .ref lw) (C := RX10) (T := TX10) (N := 13) hx hb hts inX10 hown hK hP 0 rfl rfl 1 (Nat.le_of_ble_eq_true rfl) (hts _ mw_310) (fun _ h9 => h9) rfl dX10_moveTo_1 ?_
  refine lv_aload_n hx hb dX10_moveTo_4 rfl (lv_at hl 0 rfl) ?_
  refine va_get (D := (dC, dI)) (ci := 8) (v := .ref sh) (C := RX10) (T := TX10) (N := 13) hx hb hts inX10 hown hK hP 0 rfl rfl 0 (Nat.le_of_ble_eq_true rfl) (hts _ mw_309) (fun _ h9 => h9) rfl dX10_moveTo_5 ?_
  refine lv_aload_n hx hb dX10_moveTo_8 rfl (lv_at hl 1 rfl) ?_
  refine lv_iconst (v := (-1)) hx hb dX10_moveTo_9 rfl ?_
  obtain ⟨hPc, hDc, hFc⟩ := zo_part (cx := [_, _, _, _, _, _, _, _, _, _, _, _, _, _, _, _, _, _, _]) hP hD hS hA [2, 3, 4, 5, 6, 7, 8, 9, 10, 11, 12, 13, 22, 23, 14, 15, 16, 17, 18] (by decide +kernel) rfl
  refine zcall (st1 := [.int (pI (pls (nN (mn f0)) P Q ∧ ((∀ i, i < edg (nN (mn f0)) (rgK (kd f0).toInt) → eFr (nN (mn f0)) P Q (rgK (kd f0).toInt) i (i + 1)) ∧ (¬ (kd f0).toInt = 6 ∨ ∀ k, k < (nN (mn f0)) → eRt (nN (mn f0)) P Q k)) ∧ ∀ q, q < ft → (q ≠ f0 → lvF ft st tn q → (apB (mnI (mnI (X5 0).toInt X5 (nN (mn f0))) P (nN (mn f0))) (mnI (mnI (Y5 0).toInt Y5 (nN (mn f0))) Q (nN (mn f0))) (mxI (mxI (X5 0).toInt X5 (nN (mn f0))) P (nN (mn f0))) (mxI (mxI (Y5 0).toInt Y5 (nN (mn f0))) Q (nN (mn f0))) (nN (mn q)) (cF40 cx q) (cF40 cy q) ∨ (asb (nN (mn f0)) X5 Y5 (rgK (kd f0).toInt) (nN (mn f0)) P Q (rgK (kd f0).toInt) (nN (mn q)) (cF40 cx q) (cF40 cy q) (rgK (kd q).toInt) ∧ (∀ k, k < prt (nN (mn q)) (rgK (kd q).toInt) → wyF2 (X5 0).toInt (Y5 0).toInt (P 0).toInt (Q 0).toInt (nN (mn q)) (cF40 cx q) (cF40 cy q) k))))))]) (va_runV (As := [.ref sh, .ref (fe f0), .int (-1)]) (rest := []) ⟨hx, hb, hml, hown, hts⟩ (k_Law_allows_w l dC dI cI cZ cF s.heap.size lw dr tg wy br bo aa tx ty nt TX TY rt wx wz nw WX WY rw dx dy (nN (mn f0)) cd P Q (rgK (kd f0).toInt) b1 b2 b3 b4 b5 b6 b7 b8 sh fa ft FA (fe f0) lo5 (rk f0) (wd f0) (tw f0) (pa f0) (pb f0) (la dn f0) (kd f0) (st f0) (gb f0) (it f0) (nI we5) r5 rx5 ry5 (nN (mn f0)) cap5 X5 Y5 (rgK (kd f0).toInt) f0 (.null) T9 f kd st tn mn cx cy (by first | with_reducible assumption | omega) (by first | with_reducible assumption | omega) (hFA9 f0 (by first | with_reducible assumption | omega)) (hst) (by rw [← hT_0]; exact fc_vw hc5 (by first | with_reducible assumption | omega) (by first | with_reducible assumption | omega) hG.1 hG.2.1 hFA9 (Nat.le_refl _)) (hwf) (hkn) (by first | with_reducible assumption | omega) (by first | with_reducible assumption | omega) (by first | with_reducible assumption | omega) (by first | with_reducible assumption | omega) (hp5) (by first | with_reducible assumption | omega) (by first | with_reducible assumption | omega) (by first | with_reducible assumption | omega)) (csV_109 hts rfl rfl ⟨Nat.le_of_ble_eq_true rfl, Nat.le_of_ble_eq_true rfl⟩) (zPV2 (q0 := 0) (ci := 3) hPc hDc hK3 hXN rfl rfl) rfl rfl hl.1 rfl (lv_room (Nat.le_of_ble_eq_true rfl)) dX10_moveTo_10 ⟨Nat.le_of_ble_eq_true rfl, Nat.le_of_ble_eq_true rfl⟩) hS hFc hFc rfl (fun t H locs ht hB hk1 hS => ?_)
  refine ex16 hB (fun nt6 TX6 TY6 rt6 nw6 WX6 WY6 rw6 g06 g16 g26 g36 g46 g56 g66 g76 hB0 => ?_)
  clear hB
  obtain ⟨hP1, hD1⟩ := hB0
  rw [ht] at hP1
  obtain ⟨hP, hD⟩ := znP (W2 := [_, _, _, (oc6 tg (.ref tx) (.ref ty) (nI nt6) rt6), (oa tx cI 3 TX6), (oa ty cI 3 TY6), (oc6 wy (.ref wx) (.ref wz) (nI nw6) rw6), (oa wx cI 2 WX6), (oa wz cI 2 WY6), _, _, _, (oc0 br g06 g16 g26 g36), (oc0 bo g46 g56 g66 g76), _, _, _, _, _, _, _, _, _, _]) hP hD hk1 hFc hP1 hD1 zl_69 zl_70 zl_71 zl_69 (by decide +kernel) rfl rfl rfl rfl rfl
  clear hk1 hPc hDc hFc hP1 hD1 ht
  refine lv_if_ne (tgt := 23) hx hb dX10_moveTo_13 rfl (fun c_1 => ?_) (fun c_1 => ?_)
  · have c_1 : pls (nN (mn f0)) P Q ∧ ((∀ i, i < edg (nN (mn f0)) (rgK (kd f0).toInt) → eFr (nN (mn f0)) P Q (rgK (kd f0).toInt) i (i + 1)) ∧ (¬ (kd f0).toInt = 6 ∨ ∀ k, k < (nN (mn f0)) → eRt (nN (mn f0)) P Q k)) ∧ ∀ q, q < ft → (q ≠ f0 → lvF ft st tn q → (apB (mnI (mnI (X5 0).toInt X5 (nN (mn f0))) P (nN (mn f0))) (mnI (mnI (Y5 0).toInt Y5 (nN (mn f0))) Q (nN (mn f0))) (mxI (mxI (X5 0).toInt X5 (nN (mn f0))) P (nN (mn f0))) (mxI (mxI (Y5 0).toInt Y5 (nN (mn f0))) Q (nN (mn f0))) (nN (mn q)) (cF40 cx q) (cF40 cy q) ∨ (asb (nN (mn f0)) X5 Y5 (rgK (kd f0).toInt) (nN (mn f0)) P Q (rgK (kd f0).toInt) (nN (mn q)) (cF40 cx q) (cF40 cy q) (rgK (kd q).toInt) ∧ (∀ k, k < prt (nN (mn q)) (rgK (kd q).toInt) → wyF2 (X5 0).toInt (Y5 0).toInt (P 0).toInt (Q 0).toInt (nN (mn q)) (cF40 cx q) (cF40 cy q) k)))) := zp_1 c_1
    refine lv_aload_n hx hb dX10_moveTo_23 rfl (lv_at hl 0 rfl) ?_
    refine va_get (D := (dC, dI)) (ci := 8) (v := .ref lw) (C := RX10) (T := TX10) (N := 13) hx hb hts inX10 hown hK hP 0 rfl rfl 1 (Nat.le_of_ble_eq_true rfl) (hts _ mw_310) (fun _ h9 => h9) rfl dX10_moveTo_24 ?_
    refine va_get (D := (dC, dI)) (ci := 3) (v := .ref dr) (C := RX4) (T := TX4) (N := 6) hx hb hts inX4 hown hK hP 2 rfl rfl 0 (Nat.le_of_ble_eq_true rfl) (hts _ mw_220) (fun _ h9 => h9) rfl dX10_moveTo_27 ?_
    refine lv_aload_n hx hb dX10_moveTo_30 rfl (lv_at hl 1 rfl) ?_
    refine va_get (D := (dC, dI)) (ci := 1) (v := .ref (la dn f0)) (C := RX2) (T := TX2) (N := 8) hx hb hts inX2 hown hK hP 14 rfl rfl 6 (Nat.le_of_ble_eq_true rfl) (hts _ mw_433) (fun _ h9 => h9) rfl dX10_moveTo_31 ?_
    refine va_get (D := (dC, dI)) (ci := 4) (v := .ref r5) (C := RX5) (T := TX5) (N := 6) hx hb hts inX5 hown hK hP 15 rfl rfl 2 (Nat.le_of_ble_eq_true rfl) (hts _ mw_391) (fun _ h9 => h9) rfl dX10_moveTo_34 ?_
    obtain ⟨hPc, hDc, hFc, hI1⟩ := zi_sub (wc := [_, _, _, _, _, _]) hP hD hS hA [9, 10, 11, 16, 17, 18] (by decide +kernel) rfl
    refine zcall (st1 := [.int (pI ((nN (mn f0)) = (nN (mn f0)) ∧ ∀ k, k < (nN (mn f0)) → (P k).toInt = (X5 k).toInt ∧ (Q k).toInt = (Y5 k).toInt))]) (va_runV (As := [.ref r5]) (rest := []) ⟨hx, hb, hml, hown, hts⟩ (k_Row_isAlike l dC dI cI cZ cF H.size dr dx dy (nN (mn f0)) cd P Q (rgK (kd f0).toInt) r5 rx5 ry5 (nN (mn f0)) cap5 X5 Y5 (rgK (kd f0).toInt) (by first | with_reducible assumption | omega) (by first | with_reducible assumption | omega) (by first | with_reducible assumption | omega) (by first | with_reducible assumption | omega)) (csV_110 hts rfl rfl ⟨Nat.le_of_ble_eq_true rfl, Nat.le_of_ble_eq_true rfl⟩) (zPV2 (q0 := 0) (ci := 6) hPc hDc hK3 hXN rfl rfl) rfl rfl hl.1 rfl (lv_room (Nat.le_of_ble_eq_true rfl)) dX10_moveTo_37 ⟨Nat.le_of_ble_eq_true rfl, Nat.le_of_ble_eq_true rfl⟩) hS hFc hFc rfl (fun t H locs ht hB hk1 hS => ?_)
    obtain ⟨hP1, hD1⟩ := hB
    rw [ht] at hP1
    replace hP := z0 hP hD hk1 hP1 hI1
    clear hk1 hPc hDc hFc hP1 hD1 ht hI1
    refine lv_if_eq (tgt := 50) hx hb dX10_moveTo_40 rfl (fun c_2 => ?_) (fun c_2 => ?_)
    · have c_2 : ¬ ((nN (mn f0)) = (nN (mn f0)) ∧ ∀ k, k < (nN (mn f0)) → (P k).toInt = (X5 k).toInt ∧ (Q k).toInt = (Y5 k).toInt) := zp_0 c_2
      exact absurd ⟨by assumption, by assumption⟩ hbad
    · have c_2 : (nN (mn f0)) = (nN (mn f0)) ∧ ∀ k, k < (nN (mn f0)) → (P k).toInt = (X5 k).toInt ∧ (Q k).toInt = (Y5 k).toInt := zp_1 c_2
      refine lv_aload_n hx hb dX10_moveTo_43 rfl (lv_at hl 0 rfl) ?_
      refine lv_bipush (v := 8) hx hb dX10_moveTo_44 rfl ?_
      obtain ⟨hPc, hDc, hFc⟩ := zo_sub (wc := [_]) hP hD hS hA [0] rfl rfl
      refine zcall (st1 := [.int 0]) (va_runV (As := [.int 8]) (rest := []) ⟨hx, hb, hml, hown, hts⟩ (k_deny_8 l dC dI cI cZ cF H.size x sh lw ro bq bp dq dp lv sl sd ul su (nI dn) ) (csV_96 hts rfl rfl ⟨Nat.le_of_ble_eq_true rfl, Nat.le_of_ble_eq_true rfl⟩) (zPV2 (q0 := 0) (ci := 8) hPc hDc hK3 hXN rfl rfl) rfl rfl hl.1 rfl (lv_room (Nat.le_of_ble_eq_true rfl)) dX10_moveTo_46 ⟨Nat.le_of_ble_eq_true rfl, Nat.le_of_ble_eq_true rfl⟩) hS hFc hFc rfl (fun t H locs ht hB hk1 hS => ?_)
      obtain ⟨hP1, hD1⟩ := hB
      rw [ht] at hP1
      obtain ⟨hP, hD⟩ := znQ (W2 := [(oc8 x (.ref sh) (.ref lw) (.ref ro) (.ref bq) (.ref bp) (.ref dq) (.ref dp) (.ref lv) (.ref sl) (nI dn) sd ul 8), _, _, _, _, _, _, _, _, _, _, _, _, _, _, _, _, _, _, _, _, _, _, _]) hP hD hk1 hFc hP1 hD1 [0] zl_76 zl_76 [0] (by decide +kernel) rfl rfl rfl rfl rfl
      clear hk1 hPc hDc hFc hP1 hD1 ht
      obtain ⟨hP9, hD9⟩ := zu_part (cx := [_, _, _, _, _, _, _, _, _, _, _, _, _, _, _, _, _, _, _, _, _, _, _, _]) hP hD [true, true, true, true, true, true, true, true, true, true, true, true, true, true, true, true, true, true, true, true, true, true, true, true] rfl rfl
      rw [hQ9]
      exact W.zret (ty := .boolean) (v := 0) hx hb hr (rfl) (fun t ht hW => ⟨⟨rfl, ul, 8, nt6, TX6, TY6, rt6, nw6, WX6, WY6, rw6, g06, g16, g26, g36, g46, g56, g66, g76, by rw [ht]; exact hP9, hD9⟩, hS.F ht⟩) hS.2.2 dX10_moveTo_49
  · have c_1 : ¬ (pls (nN (mn f0)) P Q ∧ ((∀ i, i < edg (nN (mn f0)) (rgK (kd f0).toInt) → eFr (nN (mn f0)) P Q (rgK (kd f0).toInt) i (i + 1)) ∧ (¬ (kd f0).toInt = 6 ∨ ∀ k, k < (nN (mn f0)) → eRt (nN (mn f0)) P Q k)) ∧ ∀ q, q < ft → (q ≠ f0 → lvF ft st tn q → (apB (mnI (mnI (X5 0).toInt X5 (nN (mn f0))) P (nN (mn f0))) (mnI (mnI (Y5 0).toInt Y5 (nN (mn f0))) Q (nN (mn f0))) (mxI (mxI (X5 0).toInt X5 (nN (mn f0))) P (nN (mn f0))) (mxI (mxI (Y5 0).toInt Y5 (nN (mn f0))) Q (nN (mn f0))) (nN (mn q)) (cF40 cx q) (cF40 cy q) ∨ (asb (nN (mn f0)) X5 Y5 (rgK (kd f0).toInt) (nN (mn f0)) P Q (rgK (kd f0).toInt) (nN (mn q)) (cF40 cx q) (cF40 cy q) (rgK (kd q).toInt) ∧ (∀ k, k < prt (nN (mn q)) (rgK (kd q).toInt) → wyF2 (X5 0).toInt (Y5 0).toInt (P 0).toInt (Q 0).toInt (nN (mn q)) (cF40 cx q) (cF40 cy q) k))))) := zp_0 c_1
    refine lv_aload_n hx hb dX10_moveTo_16 rfl (lv_at hl 0 rfl) ?_
    refine lv_bipush (v := 7) hx hb dX10_moveTo_17 rfl ?_
    obtain ⟨hPc, hDc, hFc⟩ := zo_sub (wc := [_]) hP hD hS hA [0] rfl rfl
    refine zcall (st1 := [.int 0]) (va_runV (As := [.int 7]) (rest := []) ⟨hx, hb, hml, hown, hts⟩ (k_deny_7 l dC dI cI cZ cF H.size x sh lw ro bq bp dq dp lv sl sd ul su (nI dn) ) (csV_96 hts rfl rfl ⟨Nat.le_of_ble_eq_true rfl, Nat.le_of_ble_eq_true rfl⟩) (zPV2 (q0 := 0) (ci := 8) hPc hDc hK3 hXN rfl rfl) rfl rfl hl.1 rfl (lv_room (Nat.le_of_ble_eq_true rfl)) dX10_moveTo_19 ⟨Nat.le_of_ble_eq_true rfl, Nat.le_of_ble_eq_true rfl⟩) hS hFc hFc rfl (fun t H locs ht hB hk1 hS => ?_)
    obtain ⟨hP1, hD1⟩ := hB
    rw [ht] at hP1
    obtain ⟨hP, hD⟩ := znQ (W2 := [(oc8 x (.ref sh) (.ref lw) (.ref ro) (.ref bq) (.ref bp) (.ref dq) (.ref dp) (.ref lv) (.ref sl) (nI dn) sd (ul + 1) 7), _, _, _, _, _, _, _, _, _, _, _, _, _, _, _, _, _, _, _, _, _, _, _]) hP hD hk1 hFc hP1 hD1 [0] zl_76 zl_76 [0] (by decide +kernel) rfl rfl rfl rfl rfl
    clear hk1 hPc hDc hFc hP1 hD1 ht
    obtain ⟨hP9, hD9⟩ := zu_part (cx := [_, _, _, _, _, _, _, _, _, _, _, _, _, _, _, _, _, _, _, _, _, _, _, _]) hP hD [true, true, true, true, true, true, true, true, true, true, true, true, true, true, true, true, true, true, true, true, true, true, true, true] rfl rfl
    rw [hQ9]
    exact W.zret (ty := .boolean) (v := 0) hx hb hr (rfl) (fun t ht hW => ⟨⟨rfl, (ul + 1), 7, nt6, TX6, TY6, rt6, nw6, WX6, WY6, rw6, g06, g16, g26, g36, g46, g56, g66, g76, by rw [ht]; exact hP9, hD9⟩, hS.F ht⟩) hS.2.2 dX10_moveTo_22
end
section
/-! a step is taken back, or done again -/
theorem chn_ca {L : List Nat} {f : Nat → va_E} {own fe lb la : Nat → Nat} {v : Value} {qs : List Nat} (h : chn L f own fe lb la v qs) : (v = .null ∧ qs = []) ∨ ∃ (c q : Nat) (nx : Value) (r : List Nat), v = .ref c ∧ qs = q :: r ∧ ce L f own 8003 c (.inr (12, [.ref (fe q), .ref (lb q), .ref (la q), nx])) ∧ chn L f own fe lb la nx r := by
  cases qs with
  | nil => exact Or.inl ⟨h, rfl⟩
  | cons q r => obtain ⟨c, nx, h1, h2, h3⟩ := h; exact Or.inr ⟨c, q, nx, r, h1, rfl, h2, h3⟩
def tkI (qs qs5 : List Nat) (lb nw nw5 : Nat → Nat) : Prop := (∀ q, q ∈ qs5 → q ∈ qs) ∧ ∀ q, (q ∈ qs → q ∈ qs5 ∨ nw5 q = lb q) ∧ (q ∉ qs → nw5 q = nw q)
theorem tkI_0 (qs : List Nat) (lb nw : Nat → Nat) : tkI qs qs lb nw nw := ⟨fun _ h => h, fun _ => ⟨fun h => Or.inl h, fun _ => rfl⟩⟩
theorem tkI_s {qs r : List Nat} {lb nw nw5 : Nat → Nat} {q : Nat} (h : tkI qs (q :: r) lb nw nw5) : tkI qs r lb nw (upN nw5 q (lb q)) :=
  ⟨fun p hp => h.1 p (List.mem_cons_of_mem _ hp), fun p => ⟨fun hp => by
    by_cases e : p = q
    · rw [e, upN_at]; exact Or.inr rfl
    · rw [upN_o e]
      rcases (h.2 p).1 hp with g | g
      · rcases List.mem_cons.mp g with g | g
        · exact absurd g e
        · exact Or.inl g
      · exact Or.inr g, fun hp => by
    have e : p ≠ q := fun e => hp (h.1 p (by rw [e]; exact List.mem_cons_self ..))
    rw [upN_o e]; exact (h.2 p).2 hp⟩⟩
theorem tkI_e {qs : List Nat} {lb nw nw5 : Nat → Nat} (h : tkI qs [] lb nw nw5) : ∀ q, (q ∈ qs → nw5 q = lb q) ∧ (q ∉ qs → nw5 q = nw q) := fun q => ⟨fun hq => ((h.2 q).1 hq).resolve_left (fun g => by cases g), (h.2 q).2⟩
theorem ce_eq {L : List Nat} {f : Nat → va_E} {own : Nat → Nat} {g g2 a : Nat} {e e2 : va_E} (h : ce L f own g a e) (h2 : ce L f own g2 a e2) : g = g2 ∧ e = e2 := ⟨h.2.2.symm.trans h2.2.2, h.2.1.symm.trans h2.2.1⟩
theorem kp_out {P : Nat → Prop} {L : List Nat} {f : Nat → va_E} {own : Nat → Nat} {cs : va_W} (hn : ∀ c ∈ cs, ¬ P (own c.1)) : kpT P L f own (outPl L cs) f own := fun g a e hp h => ce_out h (fun c hc e2 => hn c hc (by rw [e2]; exact hp))
theorem kp_re {P : Nat → Prop} {L L2 L3 : List Nat} {f f2 f3 : Nat → va_E} {own : Nat → Nat} {cs : va_W} (h1 : kpT P (outPl L cs) f own L2 f2 own) (h2 : kpT P L2 f2 own L3 f3 own) (h3 : ∀ c ∈ cs, ∀ g e, ce L f own g c.1 e → ce L3 f3 own g c.1 e) : kpT P L f own L3 f3 own := fun g a e hp h => by
  by_cases q : a ∈ cs.map Prod.fst
  · obtain ⟨c, hc, e2⟩ := List.mem_map.mp q
    subst e2
    exact h3 c hc g e h
  · exact h2 g a e hp (h1 g a e hp ⟨outPl_mem.mpr ⟨h.1, q⟩, h.2⟩)
section
variable {cI cO : ClassId} {L L1 : List Nat} {f f1 : Nat → va_E} {own own1 : Nat → Nat} {fe cl nw nw1 : Nat → Nat} {fm : Nat → Value} {fN : Nat} {rk wd tw pa pb : Nat → Int32}
theorem FeA_cg (h : FeA cI L f own fN fe nw cl fm rk wd tw pa pb) (hq : ∀ q, q < fN → nw1 q = nw q) : FeA cI L f own fN fe nw1 cl fm rk wd tw pa pb := fun q h2 => by rw [hq q h2]; exact h q h2
theorem FeA_c {q : Nat} (h : FeA cI L f own fN fe nw cl (fun _ => .null) rk wd tw pa pb) (hq : q < fN) : ∃ lo, ce L f own (8 * q) (fe q) (.inr (1, [.int (rk q), .int (wd q), .int (tw q), .int (pa q), .int (pb q), .ref lo, .ref (nw q), .null])) := by
  obtain ⟨lo, lx, ly, ln, LX, LY, h1, _⟩ := h q hq; exact ⟨lo, h1⟩
theorem tk_F {g lo lb : Nat} {v : Nat} (hF : FeA cI L f own fN fe nw cl (fun _ => .null) rk wd tw pa pb) (hk : kpT (fun t => t ≠ 8 * g) L f own L1 f1 own1) (ho : ce L f own (8 * g) (fe g) (.inr (1, [.int (rk g), .int (wd g), .int (tw g), .int (pa g), .int (pb g), .ref lo, .ref v, .null]))) (hc : ce L1 f1 own1 (8 * g) (fe g) (.inr (1, [.int (rk g), .int (wd g), .int (tw g), .int (pa g), .int (pb g), .ref lo, .ref lb, .null]))) : FeA cI L1 f1 own1 fN fe (upN nw g lb) cl (fun _ => .null) rk wd tw pa pb := fun q hq => by
  have h := hF q hq
  by_cases e2 : q = g
  · subst e2
    obtain ⟨lo2, lx, ly, ln, LX, LY, h1, h2, h3⟩ := h
    have e3 : lo2 = lo := by
      have := h1.2.1.symm.trans ho.2.1
      simp at this
      exact this.1
    subst e3
    exact ⟨lo2, lx, ly, ln, LX, LY, by rw [upN_at]; exact hc, rwG_kp hk (by omega) h2, h3⟩
  · rw [upN_o e2]; exact feG_kp hk (by omega) (by omega) h
end
end
section
set_option maxHeartbeats 4000000 in
set_option maxRecDepth 100000 in
theorem k_Step_takeBack (l : Launch) (dC : Nat → ClassId) (dI : Nat → Nat → Nat) (cI cZ cF : ClassId) (sz : Nat) (sp9 : Nat) (g1 : Int32) (g2 : Int32) (g3 : Int32) (md9 : Value) (ch9 : Value) (own : Nat → Nat) (fe : Nat → Nat) (cl : Nat → Nat) (nw : Nat → Nat) (lb : Nat → Nat) (la9 : Nat → Nat) (fN : Nat) (qs : List Nat) (rk : Nat → Int32) (wd : Nat → Int32) (tw : Nat → Int32) (pa : Nat → Int32) (pb : Nat → Int32) (L : List Nat) (f : Nat → va_E) (hF : FeA cI L f own fN fe nw cl (fun _ => .null) rk wd tw pa pb) (hch : chn L f own fe lb la9 ch9 qs) (hqn : ∀ q ∈ qs, q < fN) : zM l yX9_takeBack cX9_takeBack 2 none ({ frames := 0, cells := 0, slots := 0, locals := 0 } : Room) [.ref sp9] (dC, dI) (zTy cI cZ cF) ([(oc11 sp9 g1 g2 g3 md9 ch9)] ++ va_pl L f) sz none (fun A t => ∃ (L1 : List Nat), ∃ (f1 : Nat → va_E), ∃ (nw1 : Nat → Nat), (FeA cI L1 f1 own fN fe nw1 cl (fun _ => .null) rk wd tw pa pb) ∧ (∀ q, (q ∈ qs → nw1 q = lb q) ∧ (q ∉ qs → nw1 q = nw q)) ∧ (kpT (fun g => ¬ g % 8 = 0) L f own L1 f1 own) ∧ (loK cI L f own L1 f1 own fN fe) ∧ zPD (dC, dI) classes A ([(oc11 sp9 g1 g2 g3 md9 ch9)] ++ va_pl L1 f1) t.heap) 0 0 := by
  refine zIn (own := "ScaleShop$Step") (loc := [(0, .ref sp9)]) rfl rfl rfl rfl (fun p e s m below meth c hx hb hr hts hown hlocks hml hnm9 A hA hS hP hD hK hXN Q9 hQ9 ls hl => ?_)
  refine lv_aload_n hx hb dX9_takeBack_0 rfl (lv_at hl 0 rfl) ?_
  refine va_get (D := (dC, dI)) (ci := 11) (v := ch9) (C := RX9) (T := TX9) (N := 5) hx hb hts inX9 hown hK hP 0 rfl rfl 4 (Nat.le_of_ble_eq_true rfl) (hts _ mw_771) (fun _ h9 => h9) rfl dX9_takeBack_1 ?_
  rcases chn_nc hch with hv7 | ⟨c7, hv7⟩
  · skip
    rw [hv7]
    refine lv_astore_nN (lv' := [(1, .null), (0, .ref sp9)]) hx hb dX9_takeBack_4 rfl hl (Nat.le_of_ble_eq_true rfl) rfl (fun ls hl => ?_)
    have hl_5 : ∀ (n9 : Nat) (cv5 : Value) (L5 : List Nat) (f5 : Nat → va_E) (nw5 : Nat → Nat) (qs5 : List Nat) (H : Heap) (locs : List Loc) (ls : Array Slot), qs5.length < n9 → (FeA cI L5 f5 own fN fe nw5 cl (fun _ => .null) rk wd tw pa pb) → (chn L5 f5 own fe lb la9 cv5 qs5) → (∀ q ∈ qs5, q < fN) → (tkI qs qs5 lb nw nw5) → (kpT (fun g => ¬ g % 8 = 0) L f own L5 f5 own) → (loK cI L f own L5 f5 own fN fe) → va_P (dC, dI) classes ([(oc11 sp9 g1 g2 g3 md9 ch9)] ++ va_pl L5 f5) H → va_D A ([(oc11 sp9 g1 g2 g3 md9 ch9)] ++ va_pl L5 f5) → va_S A s.heap H locs → lv_has ls 2 [(1, cv5), (0, .ref sp9)] → W p l e ({ frames := 0, cells := 0, slots := 0, locals := 0 } : Room) s m ([.ref sp9] : List Value).toArray below meth c H locs 0 0 Q9 (F0 m 5 ls []) := by
      intro n9
      induction n9 with
      | zero => intro cv5 L5 f5 nw5 qs5 H locs ls hm; exact absurd hm (Nat.not_lt_zero _)
      | succ n9 ih_5 =>
        intro cv5 L5 f5 nw5 qs5 H locs ls hm hF5 hc5 hqn5 ht5 hk5 hE5 hP hD hS hl
        rcases chn_ca hc5 with ⟨hv5, hq5⟩ | ⟨c5, q5, nx5, r9, hv5, hq5, hcc5, hcr5⟩
        · skip
          subst hv5
          refine lv_aload_nN hx hb dX9_takeBack_5 rfl (lv_at hl 0 rfl) ?_
          refine lv_ifnullN (tgt := 28) hx hb dX9_takeBack_6 rfl ?_
          subst hq5
          have hte := tkI_e ht5
          obtain ⟨hP9, hD9⟩ := zu_part (cx := [_]) hP hD [true] rfl rfl
          rw [hQ9]
          exact W.vret hx hb hr (fun t ht hW => ⟨⟨rfl, L5, f5, nw5, (hF5), (hte), (hk5), (hE5), by rw [ht]; exact hP9, hD9⟩, hS.F ht⟩) hS.2.2 dX9_takeBack_28
        · skip
          subst hv5
          subst hq5
          obtain ⟨lo5, hcf5⟩ := FeA_c hF5 (hqn5 q5 (List.mem_cons_self ..))
          have hc9_1 : inPl L5 f5 [(oc12 c5 (.ref (fe q5)) (.ref (lb q5)) (.ref (la9 q5)) nx5), (oc1 (fe q5) (rk q5) (wd q5) (tw q5) (pa q5) (pb q5) (.ref lo5) (.ref (nw5 q5)) .null)] := ⟨ce_pl hcc5, ce_pl hcf5, trivial⟩
          have hD0_1 := hD
          obtain ⟨T_1, hT_1, hP, hD⟩ := pl_oT hP hD hc9_1 (pw2 (cl_ne hcc5.2.1 hcf5.2.1 (by decide)))
          obtain ⟨hP, hD⟩ := zre (W2 := ([_, _, _] ++ va_pl T_1 f5)) hP hD rfl
          refine lv_aload_n hx hb dX9_takeBack_5 rfl (lv_at hl 0 rfl) ?_
          refine lv_ifnull hx hb dX9_takeBack_6 ?_
          refine lv_aload_n hx hb dX9_takeBack_9 rfl (lv_at hl 0 rfl) ?_
          refine va_get (D := (dC, dI)) (ci := 12) (v := .ref (fe q5)) (C := RX1) (T := TX1) (N := 4) hx hb hts inX1 hown hK hP 1 rfl rfl 0 (Nat.le_of_ble_eq_true rfl) (hts _ mw_791) (fun _ h9 => h9) rfl dX9_takeBack_10 ?_
          refine lv_aload_n hx hb dX9_takeBack_13 rfl (lv_at hl 0 rfl) ?_
          refine va_get (D := (dC, dI)) (ci := 12) (v := .ref (lb q5)) (C := RX1) (T := TX1) (N := 4) hx hb hts inX1 hown hK hP 1 rfl rfl 1 (Nat.le_of_ble_eq_true rfl) (hts _ mw_793) (fun _ h9 => h9) rfl dX9_takeBack_14 ?_
          refine va_put (D := (dC, dI)) (ci := 1) (v := .ref (lb q5)) (ty := .object "ScaleShop$Look") (C := RX2) (T := TX2) (N := 8) hx hb hts inX2 tyX2 tyX2_ok nmX2 hown hK hP hD hS 2 rfl rfl 6 (by decide) (hts _ mw_431) (fun _ h9 => h9) rfl (by decide +kernel) rfl rfl (Nat.le_of_ble_eq_true rfl) dX9_takeBack_17 (fun H locs hP hD hS => ?_)
          obtain ⟨hP, hD⟩ := zre (W2 := ([_, _, (oc1 (fe q5) (rk q5) (wd q5) (tw q5) (pa q5) (pb q5) (.ref lo5) (.ref (lb q5)) .null)] ++ va_pl T_1 f5)) hP hD rfl
          refine lv_aload_n hx hb dX9_takeBack_20 rfl (lv_at hl 0 rfl) ?_
          refine va_get (D := (dC, dI)) (ci := 12) (v := nx5) (C := RX1) (T := TX1) (N := 4) hx hb hts inX1 hown hK hP 1 rfl rfl 3 (Nat.le_of_ble_eq_true rfl) (hts _ mw_797) (fun _ h9 => h9) rfl dX9_takeBack_21 ?_
          rcases chn_nc hcr5 with hv6 | ⟨c6, hv6⟩
          · skip
            rw [hv6]
            refine lv_astore_nN (lv' := [(1, .null), (0, .ref sp9)]) hx hb dX9_takeBack_24 rfl hl (Nat.le_of_ble_eq_true rfl) rfl (fun ls hl => ?_)
            obtain ⟨Lp1, fp1, hP, hD, hpin_1⟩ := pl_pn (X := [_]) (old := [_, _]) (new := []) (cs1 := [_, _]) (L := L5) (cs := [(oc12 c5 (.ref (fe q5)) (.ref (lb q5)) (.ref (la9 q5)) nx5), (oc1 (fe q5) (rk q5) (wd q5) (tw q5) (pa q5) (pb q5) (.ref lo5) (.ref (nw5 q5)) .null)]) hT_1 hP hD rfl rfl rfl
            obtain ⟨hfr_1, hkp_1, hce_1, hsx_1, hpw_1⟩ := id hpin_1
            have hks5 := hkp_1 own own (fun g => ¬ g % 8 = 0) (fun _ _ => rfl) ⟨fun _ _ => hcc5.2.1, fun _ hp => absurd (show own (fe q5) % 8 = 0 by rw [hcf5.2.2]; omega) hp, trivial⟩
            have hkn5 := kpT_tr hk5 hks5
            have hkf5 := hkp_1 own own (fun g => g ≠ 8 * q5) (fun _ _ => rfl) ⟨fun _ _ => hcc5.2.1, fun _ hp => absurd hcf5.2.2 hp, trivial⟩
            have hFn5 := tk_F hF5 hkf5 hcf5 (hce_1 own 1 _ _ (8 * q5) rfl hcf5.2.2)
            have hEn5 := loK_s hE5 hkf5 hcf5 (hce_1 own 1 _ _ (8 * q5) rfl hcf5.2.2)
            have hcn5 := chn_kp hks5 (by omega) hcr5
            refine lv_goto (tgt := 5) hx hb dX9_takeBack_25 rfl ?_
            exact ih_5 (.null) Lp1 fp1 (upN nw5 q5 (lb q5)) r9 H locs ls (by simp only [List.length_cons] at hm; omega) (hFn5) (by rw [hv6] at hcn5; exact hcn5) (fun q hq => hqn5 q (List.mem_cons_of_mem _ hq)) (tkI_s ht5) (hkn5) (hEn5) hP hD hS (lv_sub hl [0, 1] rfl)
          · skip
            rw [hv6]
            refine lv_astore_n (lv' := [(1, .ref c6), (0, .ref sp9)]) hx hb dX9_takeBack_24 rfl hl (Nat.le_of_ble_eq_true rfl) rfl (fun ls hl => ?_)
            obtain ⟨Lp1, fp1, hP, hD, hpin_1⟩ := pl_pn (X := [_]) (old := [_, _]) (new := []) (cs1 := [_, _]) (L := L5) (cs := [(oc12 c5 (.ref (fe q5)) (.ref (lb q5)) (.ref (la9 q5)) nx5), (oc1 (fe q5) (rk q5) (wd q5) (tw q5) (pa q5) (pb q5) (.ref lo5) (.ref (nw5 q5)) .null)]) hT_1 hP hD rfl rfl rfl
            obtain ⟨hfr_1, hkp_1, hce_1, hsx_1, hpw_1⟩ := id hpin_1
            have hks5 := hkp_1 own own (fun g => ¬ g % 8 = 0) (fun _ _ => rfl) ⟨fun _ _ => hcc5.2.1, fun _ hp => absurd (show own (fe q5) % 8 = 0 by rw [hcf5.2.2]; omega) hp, trivial⟩
            have hkn5 := kpT_tr hk5 hks5
            have hkf5 := hkp_1 own own (fun g => g ≠ 8 * q5) (fun _ _ => rfl) ⟨fun _ _ => hcc5.2.1, fun _ hp => absurd hcf5.2.2 hp, trivial⟩
            have hFn5 := tk_F hF5 hkf5 hcf5 (hce_1 own 1 _ _ (8 * q5) rfl hcf5.2.2)
            have hEn5 := loK_s hE5 hkf5 hcf5 (hce_1 own 1 _ _ (8 * q5) rfl hcf5.2.2)
            have hcn5 := chn_kp hks5 (by omega) hcr5
            refine lv_goto (tgt := 5) hx hb dX9_takeBack_25 rfl ?_
            exact ih_5 (.ref c6) Lp1 fp1 (upN nw5 q5 (lb q5)) r9 H locs ls (by simp only [List.length_cons] at hm; omega) (hFn5) (by rw [hv6] at hcn5; exact hcn5) (fun q hq => hqn5 q (List.mem_cons_of_mem _ hq)) (tkI_s ht5) (hkn5) (hEn5) hP hD hS (lv_sub hl [0, 1] rfl)
    exact hl_5 _ (.null) L f nw qs s.heap [] ls (Nat.lt_succ_self _) (hF) (by rw [hv7] at hch; exact hch) (hqn) (tkI_0 _ _ _) (kpT_rf) (loK_rf) hP hD hS (lv_sub hl [0, 1] rfl)
  · skip
    rw [hv7]
    refine lv_astore_n (lv' := [(1, .ref c7), (0, .ref sp9)]) hx hb dX9_takeBack_4 rfl hl (Nat.le_of_ble_eq_true rfl) rfl (fun ls hl => ?_)
    have hl_5 : ∀ (n9 : Nat) (cv5 : Value) (L5 : List Nat) (f5 : Nat → va_E) (nw5 : Nat → Nat) (qs5 : List Nat) (H : Heap) (locs : List Loc) (ls : Array Slot), qs5.length < n9 → (FeA cI L5 f5 own fN fe nw5 cl (fun _ => .null) rk wd tw pa pb) → (chn L5 f5 own fe lb la9 cv5 qs5) → (∀ q ∈ qs5, q < fN) → (tkI qs qs5 lb nw nw5) → (kpT (fun g => ¬ g % 8 = 0) L f own L5 f5 own) → (loK cI L f own L5 f5 own fN fe) → va_P (dC, dI) classes ([(oc11 sp9 g1 g2 g3 md9 ch9)] ++ va_pl L5 f5) H → va_D A ([(oc11 sp9 g1 g2 g3 md9 ch9)] ++ va_pl L5 f5) → va_S A s.heap H locs → lv_has ls 2 [(1, cv5), (0, .ref sp9)] → W p l e ({ frames := 0, cells := 0, slots := 0, locals := 0 } : Room) s m ([.ref sp9] : List Value).toArray below meth c H locs 0 0 Q9 (F0 m 5 ls []) := by
      intro n9
      induction n9 with
      | zero => intro cv5 L5 f5 nw5 qs5 H locs ls hm; exact absurd hm (Nat.not_lt_zero _)
      | succ n9 ih_5 =>
        intro cv5 L5 f5 nw5 qs5 H locs ls hm hF5 hc5 hqn5 ht5 hk5 hE5 hP hD hS hl
        rcases chn_ca hc5 with ⟨hv5, hq5⟩ | ⟨c5, q5, nx5, r9, hv5, hq5, hcc5, hcr5⟩
        · skip
          subst hv5
          refine lv_aload_nN hx hb dX9_takeBack_5 rfl (lv_at hl 0 rfl) ?_
          refine lv_ifnullN (tgt := 28) hx hb dX9_takeBack_6 rfl ?_
          subst hq5
          have hte := tkI_e ht5
          obtain ⟨hP9, hD9⟩ := zu_part (cx := [_]) hP hD [true] rfl rfl
          rw [hQ9]
          exact W.vret hx hb hr (fun t ht hW => ⟨⟨rfl, L5, f5, nw5, (hF5), (hte), (hk5), (hE5), by rw [ht]; exact hP9, hD9⟩, hS.F ht⟩) hS.2.2 dX9_takeBack_28
        · skip
          subst hv5
          subst hq5
          obtain ⟨lo5, hcf5⟩ := FeA_c hF5 (hqn5 q5 (List.mem_cons_self ..))
          have hc9_1 : inPl L5 f5 [(oc12 c5 (.ref (fe q5)) (.ref (lb q5)) (.ref (la9 q5)) nx5), (oc1 (fe q5) (rk q5) (wd q5) (tw q5) (pa q5) (pb q5) (.ref lo5) (.ref (nw5 q5)) .null)] := ⟨ce_pl hcc5, ce_pl hcf5, trivial⟩
          have hD0_1 := hD
          obtain ⟨T_1, hT_1, hP, hD⟩ := pl_oT hP hD hc9_1 (pw2 (cl_ne hcc5.2.1 hcf5.2.1 (by decide)))
          obtain ⟨hP, hD⟩ := zre (W2 := ([_, _, _] ++ va_pl T_1 f5)) hP hD rfl
          refine lv_aload_n hx hb dX9_takeBack_5 rfl (lv_at hl 0 rfl) ?_
          refine lv_ifnull hx hb dX9_takeBack_6 ?_
          refine lv_aload_n hx hb dX9_takeBack_9 rfl (lv_at hl 0 rfl) ?_
          refine va_get (D := (dC, dI)) (ci := 12) (v := .ref (fe q5)) (C := RX1) (T := TX1) (N := 4) hx hb hts inX1 hown hK hP 1 rfl rfl 0 (Nat.le_of_ble_eq_true rfl) (hts _ mw_791) (fun _ h9 => h9) rfl dX9_takeBack_10 ?_
          refine lv_aload_n hx hb dX9_takeBack_13 rfl (lv_at hl 0 rfl) ?_
          refine va_get (D := (dC, dI)) (ci := 12) (v := .ref (lb q5)) (C := RX1) (T := TX1) (N := 4) hx hb hts inX1 hown hK hP 1 rfl rfl 1 (Nat.le_of_ble_eq_true rfl) (hts _ mw_793) (fun _ h9 => h9) rfl dX9_takeBack_14 ?_
          refine va_put (D := (dC, dI)) (ci := 1) (v := .ref (lb q5)) (ty := .object "ScaleShop$Look") (C := RX2) (T := TX2) (N := 8) hx hb hts inX2 tyX2 tyX2_ok nmX2 hown hK hP hD hS 2 rfl rfl 6 (by decide) (hts _ mw_431) (fun _ h9 => h9) rfl (by decide +kernel) rfl rfl (Nat.le_of_ble_eq_true rfl) dX9_takeBack_17 (fun H locs hP hD hS => ?_)
          obtain ⟨hP, hD⟩ := zre (W2 := ([_, _, (oc1 (fe q5) (rk q5) (wd q5) (tw q5) (pa q5) (pb q5) (.ref lo5) (.ref (lb q5)) .null)] ++ va_pl T_1 f5)) hP hD rfl
          refine lv_aload_n hx hb dX9_takeBack_20 rfl (lv_at hl 0 rfl) ?_
          refine va_get (D := (dC, dI)) (ci := 12) (v := nx5) (C := RX1) (T := TX1) (N := 4) hx hb hts inX1 hown hK hP 1 rfl rfl 3 (Nat.le_of_ble_eq_true rfl) (hts _ mw_797) (fun _ h9 => h9) rfl dX9_takeBack_21 ?_
          rcases chn_nc hcr5 with hv6 | ⟨c6, hv6⟩
          · skip
            rw [hv6]
            refine lv_astore_nN (lv' := [(1, .null), (0, .ref sp9)]) hx hb dX9_takeBack_24 rfl hl (Nat.le_of_ble_eq_true rfl) rfl (fun ls hl => ?_)
            obtain ⟨Lp1, fp1, hP, hD, hpin_1⟩ := pl_pn (X := [_]) (old := [_, _]) (new := []) (cs1 := [_, _]) (L := L5) (cs := [(oc12 c5 (.ref (fe q5)) (.ref (lb q5)) (.ref (la9 q5)) nx5), (oc1 (fe q5) (rk q5) (wd q5) (tw q5) (pa q5) (pb q5) (.ref lo5) (.ref (nw5 q5)) .null)]) hT_1 hP hD rfl rfl rfl
            obtain ⟨hfr_1, hkp_1, hce_1, hsx_1, hpw_1⟩ := id hpin_1
            have hks5 := hkp_1 own own (fun g => ¬ g % 8 = 0) (fun _ _ => rfl) ⟨fun _ _ => hcc5.2.1, fun _ hp => absurd (show own (fe q5) % 8 = 0 by rw [hcf5.2.2]; omega) hp, trivial⟩
            have hkn5 := kpT_tr hk5 hks5
            have hkf5 := hkp_1 own own (fun g => g ≠ 8 * q5) (fun _ _ => rfl) ⟨fun _ _ => hcc5.2.1, fun _ hp => absurd hcf5.2.2 hp, trivial⟩
            have hFn5 := tk_F hF5 hkf5 hcf5 (hce_1 own 1 _ _ (8 * q5) rfl hcf5.2.2)
            have hEn5 := loK_s hE5 hkf5 hcf5 (hce_1 own 1 _ _ (8 * q5) rfl hcf5.2.2)
            have hcn5 := chn_kp hks5 (by omega) hcr5
            refine lv_goto (tgt := 5) hx hb dX9_takeBack_25 rfl ?_
            exact ih_5 (.null) Lp1 fp1 (upN nw5 q5 (lb q5)) r9 H locs ls (by simp only [List.length_cons] at hm; omega) (hFn5) (by rw [hv6] at hcn5; exact hcn5) (fun q hq => hqn5 q (List.mem_cons_of_mem _ hq)) (tkI_s ht5) (hkn5) (hEn5) hP hD hS (lv_sub hl [0, 1] rfl)
          · skip
            rw [hv6]
            refine lv_astore_n (lv' := [(1, .ref c6), (0, .ref sp9)]) hx hb dX9_takeBack_24 rfl hl (Nat.le_of_ble_eq_true rfl) rfl (fun ls hl => ?_)
            obtain ⟨Lp1, fp1, hP, hD, hpin_1⟩ := pl_pn (X := [_]) (old := [_, _]) (new := []) (cs1 := [_, _]) (L := L5) (cs := [(oc12 c5 (.ref (fe q5)) (.ref (lb q5)) (.ref (la9 q5)) nx5), (oc1 (fe q5) (rk q5) (wd q5) (tw q5) (pa q5) (pb q5) (.ref lo5) (.ref (nw5 q5)) .null)]) hT_1 hP hD rfl rfl rfl
            obtain ⟨hfr_1, hkp_1, hce_1, hsx_1, hpw_1⟩ := id hpin_1
            have hks5 := hkp_1 own own (fun g => ¬ g % 8 = 0) (fun _ _ => rfl) ⟨fun _ _ => hcc5.2.1, fun _ hp => absurd (show own (fe q5) % 8 = 0 by rw [hcf5.2.2]; omega) hp, trivial⟩
            have hkn5 := kpT_tr hk5 hks5
            have hkf5 := hkp_1 own own (fun g => g ≠ 8 * q5) (fun _ _ => rfl) ⟨fun _ _ => hcc5.2.1, fun _ hp => absurd hcf5.2.2 hp, trivial⟩
            have hFn5 := tk_F hF5 hkf5 hcf5 (hce_1 own 1 _ _ (8 * q5) rfl hcf5.2.2)
            have hEn5 := loK_s hE5 hkf5 hcf5 (hce_1 own 1 _ _ (8 * q5) rfl hcf5.2.2)
            have hcn5 := chn_kp hks5 (by omega) hcr5
            refine lv_goto (tgt := 5) hx hb dX9_takeBack_25 rfl ?_
            exact ih_5 (.ref c6) Lp1 fp1 (upN nw5 q5 (lb q5)) r9 H locs ls (by simp only [List.length_cons] at hm; omega) (hFn5) (by rw [hv6] at hcn5; exact hcn5) (fun q hq => hqn5 q (List.mem_cons_of_mem _ hq)) (tkI_s ht5) (hkn5) (hEn5) hP hD hS (lv_sub hl [0, 1] rfl)
    exact hl_5 _ (.ref c7) L f nw qs s.heap [] ls (Nat.lt_succ_self _) (hF) (by rw [hv7] at hch; exact hch) (hqn) (tkI_0 _ _ _) (kpT_rf) (loK_rf) hP hD hS (lv_sub hl [0, 1] rfl)
set_option maxHeartbeats 4000000 in
set_option maxRecDepth 100000 in
theorem k_Step_repeat (l : Launch) (dC : Nat → ClassId) (dI : Nat → Nat → Nat) (cI cZ cF : ClassId) (sz : Nat) (sp9 : Nat) (g1 : Int32) (g2 : Int32) (g3 : Int32) (md9 : Value) (ch9 : Value) (own : Nat → Nat) (fe : Nat → Nat) (cl : Nat → Nat) (nw : Nat → Nat) (lb : Nat → Nat) (la9 : Nat → Nat) (fN : Nat) (qs : List Nat) (rk : Nat → Int32) (wd : Nat → Int32) (tw : Nat → Int32) (pa : Nat → Int32) (pb : Nat → Int32) (L : List Nat) (f : Nat → va_E) (hF : FeA cI L f own fN fe nw cl (fun _ => .null) rk wd tw pa pb) (hch : chn L f own fe lb la9 ch9 qs) (hqn : ∀ q ∈ qs, q < fN) : zM l yX9_repeat cX9_repeat 2 none ({ frames := 0, cells := 0, slots := 0, locals := 0 } : Room) [.ref sp9] (dC, dI) (zTy cI cZ cF) ([(oc11 sp9 g1 g2 g3 md9 ch9)] ++ va_pl L f) sz none (fun A t => ∃ (L1 : List Nat), ∃ (f1 : Nat → va_E), ∃ (nw1 : Nat → Nat), (FeA cI L1 f1 own fN fe nw1 cl (fun _ => .null) rk wd tw pa pb) ∧ (∀ q, (q ∈ qs → nw1 q = la9 q) ∧ (q ∉ qs → nw1 q = nw q)) ∧ (kpT (fun g => ¬ g % 8 = 0) L f own L1 f1 own) ∧ (loK cI L f own L1 f1 own fN fe) ∧ zPD (dC, dI) classes A ([(oc11 sp9 g1 g2 g3 md9 ch9)] ++ va_pl L1 f1) t.heap) 0 0 := by
  refine zIn (own := "ScaleShop$Step") (loc := [(0, .ref sp9)]) rfl rfl rfl rfl (fun p e s m below meth c hx hb hr hts hown hlocks hml hnm9 A hA hS hP hD hK hXN Q9 hQ9 ls hl => ?_)
  refine lv_aload_n hx hb dX9_repeat_0 rfl (lv_at hl 0 rfl) ?_
  refine va_get (D := (dC, dI)) (ci := 11) (v := ch9) (C := RX9) (T := TX9) (N := 5) hx hb hts inX9 hown hK hP 0 rfl rfl 4 (Nat.le_of_ble_eq_true rfl) (hts _ mw_771) (fun _ h9 => h9) rfl dX9_repeat_1 ?_
  rcases chn_nc hch with hv7 | ⟨c7, hv7⟩
  · skip
    rw [hv7]
    refine lv_astore_nN (lv' := [(1, .null), (0, .ref sp9)]) hx hb dX9_repeat_4 rfl hl (Nat.le_of_ble_eq_true rfl) rfl (fun ls hl => ?_)
    have hl_5 : ∀ (n9 : Nat) (cv5 : Value) (L5 : List Nat) (f5 : Nat → va_E) (nw5 : Nat → Nat) (qs5 : List Nat) (H : Heap) (locs : List Loc) (ls : Array Slot), qs5.length < n9 → (FeA cI L5 f5 own fN fe nw5 cl (fun _ => .null) rk wd tw pa pb) → (chn L5 f5 own fe lb la9 cv5 qs5) → (∀ q ∈ qs5, q < fN) → (tkI qs qs5 la9 nw nw5) → (kpT (fun g => ¬ g % 8 = 0) L f own L5 f5 own) → (loK cI L f own L5 f5 own fN fe) → va_P (dC, dI) classes ([(oc11 sp9 g1 g2 g3 md9 ch9)] ++ va_pl L5 f5) H → va_D A ([(oc11 sp9 g1 g2 g3 md9 ch9)] ++ va_pl L5 f5) → va_S A s.heap H locs → lv_has ls 2 [(1, cv5), (0, .ref sp9)] → W p l e ({ frames := 0, cells := 0, slots := 0, locals := 0 } : Room) s m ([.ref sp9] : List Value).toArray below meth c H locs 0 0 Q9 (F0 m 5 ls []) := by
      intro n9
      induction n9 with
      | zero => intro cv5 L5 f5 nw5 qs5 H locs ls hm; exact absurd hm (Nat.not_lt_zero _)
      | succ n9 ih_5 =>
        intro cv5 L5 f5 nw5 qs5 H locs ls hm hF5 hc5 hqn5 ht5 hk5 hE5 hP hD hS hl
        rcases chn_ca hc5 with ⟨hv5, hq5⟩ | ⟨c5, q5, nx5, r9, hv5, hq5, hcc5, hcr5⟩
        · skip
          subst hv5
          refine lv_aload_nN hx hb dX9_repeat_5 rfl (lv_at hl 0 rfl) ?_
          refine lv_ifnullN (tgt := 28) hx hb dX9_repeat_6 rfl ?_
          subst hq5
          have hte := tkI_e ht5
          obtain ⟨hP9, hD9⟩ := zu_part (cx := [_]) hP hD [true] rfl rfl
          rw [hQ9]
          exact W.vret hx hb hr (fun t ht hW => ⟨⟨rfl, L5, f5, nw5, (hF5), (hte), (hk5), (hE5), by rw [ht]; exact hP9, hD9⟩, hS.F ht⟩) hS.2.2 dX9_repeat_28
        · skip
          subst hv5
          subst hq5
          obtain ⟨lo5, hcf5⟩ := FeA_c hF5 (hqn5 q5 (List.mem_cons_self ..))
          have hc9_1 : inPl L5 f5 [(oc12 c5 (.ref (fe q5)) (.ref (lb q5)) (.ref (la9 q5)) nx5), (oc1 (fe q5) (rk q5) (wd q5) (tw q5) (pa q5) (pb q5) (.ref lo5) (.ref (nw5 q5)) .null)] := ⟨ce_pl hcc5, ce_pl hcf5, trivial⟩
          have hD0_1 := hD
          obtain ⟨T_1, hT_1, hP, hD⟩ := pl_oT hP hD hc9_1 (pw2 (cl_ne hcc5.2.1 hcf5.2.1 (by decide)))
          obtain ⟨hP, hD⟩ := zre (W2 := ([_, _, _] ++ va_pl T_1 f5)) hP hD rfl
          refine lv_aload_n hx hb dX9_repeat_5 rfl (lv_at hl 0 rfl) ?_
          refine lv_ifnull hx hb dX9_repeat_6 ?_
          refine lv_aload_n hx hb dX9_repeat_9 rfl (lv_at hl 0 rfl) ?_
          refine va_get (D := (dC, dI)) (ci := 12) (v := .ref (fe q5)) (C := RX1) (T := TX1) (N := 4) hx hb hts inX1 hown hK hP 1 rfl rfl 0 (Nat.le_of_ble_eq_true rfl) (hts _ mw_791) (fun _ h9 => h9) rfl dX9_repeat_10 ?_
          refine lv_aload_n hx hb dX9_repeat_13 rfl (lv_at hl 0 rfl) ?_
          refine va_get (D := (dC, dI)) (ci := 12) (v := .ref (la9 q5)) (C := RX1) (T := TX1) (N := 4) hx hb hts inX1 hown hK hP 1 rfl rfl 2 (Nat.le_of_ble_eq_true rfl) (hts _ mw_795) (fun _ h9 => h9) rfl dX9_repeat_14 ?_
          refine va_put (D := (dC, dI)) (ci := 1) (v := .ref (la9 q5)) (ty := .object "ScaleShop$Look") (C := RX2) (T := TX2) (N := 8) hx hb hts inX2 tyX2 tyX2_ok nmX2 hown hK hP hD hS 2 rfl rfl 6 (by decide) (hts _ mw_431) (fun _ h9 => h9) rfl (by decide +kernel) rfl rfl (Nat.le_of_ble_eq_true rfl) dX9_repeat_17 (fun H locs hP hD hS => ?_)
          obtain ⟨hP, hD⟩ := zre (W2 := ([_, _, (oc1 (fe q5) (rk q5) (wd q5) (tw q5) (pa q5) (pb q5) (.ref lo5) (.ref (la9 q5)) .null)] ++ va_pl T_1 f5)) hP hD rfl
          refine lv_aload_n hx hb dX9_repeat_20 rfl (lv_at hl 0 rfl) ?_
          refine va_get (D := (dC, dI)) (ci := 12) (v := nx5) (C := RX1) (T := TX1) (N := 4) hx hb hts inX1 hown hK hP 1 rfl rfl 3 (Nat.le_of_ble_eq_true rfl) (hts _ mw_797) (fun _ h9 => h9) rfl dX9_repeat_21 ?_
          rcases chn_nc hcr5 with hv6 | ⟨c6, hv6⟩
          · skip
            rw [hv6]
            refine lv_astore_nN (lv' := [(1, .null), (0, .ref sp9)]) hx hb dX9_repeat_24 rfl hl (Nat.le_of_ble_eq_true rfl) rfl (fun ls hl => ?_)
            obtain ⟨Lp1, fp1, hP, hD, hpin_1⟩ := pl_pn (X := [_]) (old := [_, _]) (new := []) (cs1 := [_, _]) (L := L5) (cs := [(oc12 c5 (.ref (fe q5)) (.ref (lb q5)) (.ref (la9 q5)) nx5), (oc1 (fe q5) (rk q5) (wd q5) (tw q5) (pa q5) (pb q5) (.ref lo5) (.ref (nw5 q5)) .null)]) hT_1 hP hD rfl rfl rfl
            obtain ⟨hfr_1, hkp_1, hce_1, hsx_1, hpw_1⟩ := id hpin_1
            have hks5 := hkp_1 own own (fun g => ¬ g % 8 = 0) (fun _ _ => rfl) ⟨fun _ _ => hcc5.2.1, fun _ hp => absurd (show own (fe q5) % 8 = 0 by rw [hcf5.2.2]; omega) hp, trivial⟩
            have hkn5 := kpT_tr hk5 hks5
            have hkf5 := hkp_1 own own (fun g => g ≠ 8 * q5) (fun _ _ => rfl) ⟨fun _ _ => hcc5.2.1, fun _ hp => absurd hcf5.2.2 hp, trivial⟩
            have hFn5 := tk_F hF5 hkf5 hcf5 (hce_1 own 1 _ _ (8 * q5) rfl hcf5.2.2)
            have hEn5 := loK_s hE5 hkf5 hcf5 (hce_1 own 1 _ _ (8 * q5) rfl hcf5.2.2)
            have hcn5 := chn_kp hks5 (by omega) hcr5
            refine lv_goto (tgt := 5) hx hb dX9_repeat_25 rfl ?_
            exact ih_5 (.null) Lp1 fp1 (upN nw5 q5 (la9 q5)) r9 H locs ls (by simp only [List.length_cons] at hm; omega) (hFn5) (by rw [hv6] at hcn5; exact hcn5) (fun q hq => hqn5 q (List.mem_cons_of_mem _ hq)) (tkI_s ht5) (hkn5) (hEn5) hP hD hS (lv_sub hl [0, 1] rfl)
          · skip
            rw [hv6]
            refine lv_astore_n (lv' := [(1, .ref c6), (0, .ref sp9)]) hx hb dX9_repeat_24 rfl hl (Nat.le_of_ble_eq_true rfl) rfl (fun ls hl => ?_)
            obtain ⟨Lp1, fp1, hP, hD, hpin_1⟩ := pl_pn (X := [_]) (old := [_, _]) (new := []) (cs1 := [_, _]) (L := L5) (cs := [(oc12 c5 (.ref (fe q5)) (.ref (lb q5)) (.ref (la9 q5)) nx5), (oc1 (fe q5) (rk q5) (wd q5) (tw q5) (pa q5) (pb q5) (.ref lo5) (.ref (nw5 q5)) .null)]) hT_1 hP hD rfl rfl rfl
            obtain ⟨hfr_1, hkp_1, hce_1, hsx_1, hpw_1⟩ := id hpin_1
            have hks5 := hkp_1 own own (fun g => ¬ g % 8 = 0) (fun _ _ => rfl) ⟨fun _ _ => hcc5.2.1, fun _ hp => absurd (show own (fe q5) % 8 = 0 by rw [hcf5.2.2]; omega) hp, trivial⟩
            have hkn5 := kpT_tr hk5 hks5
            have hkf5 := hkp_1 own own (fun g => g ≠ 8 * q5) (fun _ _ => rfl) ⟨fun _ _ => hcc5.2.1, fun _ hp => absurd hcf5.2.2 hp, trivial⟩
            have hFn5 := tk_F hF5 hkf5 hcf5 (hce_1 own 1 _ _ (8 * q5) rfl hcf5.2.2)
            have hEn5 := loK_s hE5 hkf5 hcf5 (hce_1 own 1 _ _ (8 * q5) rfl hcf5.2.2)
            have hcn5 := chn_kp hks5 (by omega) hcr5
            refine lv_goto (tgt := 5) hx hb dX9_repeat_25 rfl ?_
            exact ih_5 (.ref c6) Lp1 fp1 (upN nw5 q5 (la9 q5)) r9 H locs ls (by simp only [List.length_cons] at hm; omega) (hFn5) (by rw [hv6] at hcn5; exact hcn5) (fun q hq => hqn5 q (List.mem_cons_of_mem _ hq)) (tkI_s ht5) (hkn5) (hEn5) hP hD hS (lv_sub hl [0, 1] rfl)
    exact hl_5 _ (.null) L f nw qs s.heap [] ls (Nat.lt_succ_self _) (hF) (by rw [hv7] at hch; exact hch) (hqn) (tkI_0 _ _ _) (kpT_rf) (loK_rf) hP hD hS (lv_sub hl [0, 1] rfl)
  · skip
    rw [hv7]
    refine lv_astore_n (lv' := [(1, .ref c7), (0, .ref sp9)]) hx hb dX9_repeat_4 rfl hl (Nat.le_of_ble_eq_true rfl) rfl (fun ls hl => ?_)
    have hl_5 : ∀ (n9 : Nat) (cv5 : Value) (L5 : List Nat) (f5 : Nat → va_E) (nw5 : Nat → Nat) (qs5 : List Nat) (H : Heap) (locs : List Loc) (ls : Array Slot), qs5.length < n9 → (FeA cI L5 f5 own fN fe nw5 cl (fun _ => .null) rk wd tw pa pb) → (chn L5 f5 own fe lb la9 cv5 qs5) → (∀ q ∈ qs5, q < fN) → (tkI qs qs5 la9 nw nw5) → (kpT (fun g => ¬ g % 8 = 0) L f own L5 f5 own) → (loK cI L f own L5 f5 own fN fe) → va_P (dC, dI) classes ([(oc11 sp9 g1 g2 g3 md9 ch9)] ++ va_pl L5 f5) H → va_D A ([(oc11 sp9 g1 g2 g3 md9 ch9)] ++ va_pl L5 f5) → va_S A s.heap H locs → lv_has ls 2 [(1, cv5), (0, .ref sp9)] → W p l e ({ frames := 0, cells := 0, slots := 0, locals := 0 } : Room) s m ([.ref sp9] : List Value).toArray below meth c H locs 0 0 Q9 (F0 m 5 ls []) := by
      intro n9
      induction n9 with
      | zero => intro cv5 L5 f5 nw5 qs5 H locs ls hm; exact absurd hm (Nat.not_lt_zero _)
      | succ n9 ih_5 =>
        intro cv5 L5 f5 nw5 qs5 H locs ls hm hF5 hc5 hqn5 ht5 hk5 hE5 hP hD hS hl
        rcases chn_ca hc5 with ⟨hv5, hq5⟩ | ⟨c5, q5, nx5, r9, hv5, hq5, hcc5, hcr5⟩
        · skip
          subst hv5
          refine lv_aload_nN hx hb dX9_repeat_5 rfl (lv_at hl 0 rfl) ?_
          refine lv_ifnullN (tgt := 28) hx hb dX9_repeat_6 rfl ?_
          subst hq5
          have hte := tkI_e ht5
          obtain ⟨hP9, hD9⟩ := zu_part (cx := [_]) hP hD [true] rfl rfl
          rw [hQ9]
          exact W.vret hx hb hr (fun t ht hW => ⟨⟨rfl, L5, f5, nw5, (hF5), (hte), (hk5), (hE5), by rw [ht]; exact hP9, hD9⟩, hS.F ht⟩) hS.2.2 dX9_repeat_28
        · skip
          subst hv5
          subst hq5
          obtain ⟨lo5, hcf5⟩ := FeA_c hF5 (hqn5 q5 (List.mem_cons_self ..))
          have hc9_1 : inPl L5 f5 [(oc12 c5 (.ref (fe q5)) (.ref (lb q5)) (.ref (la9 q5)) nx5), (oc1 (fe q5) (rk q5) (wd q5) (tw q5) (pa q5) (pb q5) (.ref lo5) (.ref (nw5 q5)) .null)] := ⟨ce_pl hcc5, ce_pl hcf5, trivial⟩
          have hD0_1 := hD
          obtain ⟨T_1, hT_1, hP, hD⟩ := pl_oT hP hD hc9_1 (pw2 (cl_ne hcc5.2.1 hcf5.2.1 (by decide)))
          obtain ⟨hP, hD⟩ := zre (W2 := ([_, _, _] ++ va_pl T_1 f5)) hP hD rfl
          refine lv_aload_n hx hb dX9_repeat_5 rfl (lv_at hl 0 rfl) ?_
          refine lv_ifnull hx hb dX9_repeat_6 ?_
          refine lv_aload_n hx hb dX9_repeat_9 rfl (lv_at hl 0 rfl) ?_
          refine va_get (D := (dC, dI)) (ci := 12) (v := .ref (fe q5)) (C := RX1) (T := TX1) (N := 4) hx hb hts inX1 hown hK hP 1 rfl rfl 0 (Nat.le_of_ble_eq_true rfl) (hts _ mw_791) (fun _ h9 => h9) rfl dX9_repeat_10 ?_
          refine lv_aload_n hx hb dX9_repeat_13 rfl (lv_at hl 0 rfl) ?_
          refine va_get (D := (dC, dI)) (ci := 12) (v := .ref (la9 q5)) (C := RX1) (T := TX1) (N := 4) hx hb hts inX1 hown hK hP 1 rfl rfl 2 (Nat.le_of_ble_eq_true rfl) (hts _ mw_795) (fun _ h9 => h9) rfl dX9_repeat_14 ?_
          refine va_put (D := (dC, dI)) (ci := 1) (v := .ref (la9 q5)) (ty := .object "ScaleShop$Look") (C := RX2) (T := TX2) (N := 8) hx hb hts inX2 tyX2 tyX2_ok nmX2 hown hK hP hD hS 2 rfl rfl 6 (by decide) (hts _ mw_431) (fun _ h9 => h9) rfl (by decide +kernel) rfl rfl (Nat.le_of_ble_eq_true rfl) dX9_repeat_17 (fun H locs hP hD hS => ?_)
          obtain ⟨hP, hD⟩ := zre (W2 := ([_, _, (oc1 (fe q5) (rk q5) (wd q5) (tw q5) (pa q5) (pb q5) (.ref lo5) (.ref (la9 q5)) .null)] ++ va_pl T_1 f5)) hP hD rfl
          refine lv_aload_n hx hb dX9_repeat_20 rfl (lv_at hl 0 rfl) ?_
          refine va_get (D := (dC, dI)) (ci := 12) (v := nx5) (C := RX1) (T := TX1) (N := 4) hx hb hts inX1 hown hK hP 1 rfl rfl 3 (Nat.le_of_ble_eq_true rfl) (hts _ mw_797) (fun _ h9 => h9) rfl dX9_repeat_21 ?_
          rcases chn_nc hcr5 with hv6 | ⟨c6, hv6⟩
          · skip
            rw [hv6]
            refine lv_astore_nN (lv' := [(1, .null), (0, .ref sp9)]) hx hb dX9_repeat_24 rfl hl (Nat.le_of_ble_eq_true rfl) rfl (fun ls hl => ?_)
            obtain ⟨Lp1, fp1, hP, hD, hpin_1⟩ := pl_pn (X := [_]) (old := [_, _]) (new := []) (cs1 := [_, _]) (L := L5) (cs := [(oc12 c5 (.ref (fe q5)) (.ref (lb q5)) (.ref (la9 q5)) nx5), (oc1 (fe q5) (rk q5) (wd q5) (tw q5) (pa q5) (pb q5) (.ref lo5) (.ref (nw5 q5)) .null)]) hT_1 hP hD rfl rfl rfl
            obtain ⟨hfr_1, hkp_1, hce_1, hsx_1, hpw_1⟩ := id hpin_1
            have hks5 := hkp_1 own own (fun g => ¬ g % 8 = 0) (fun _ _ => rfl) ⟨fun _ _ => hcc5.2.1, fun _ hp => absurd (show own (fe q5) % 8 = 0 by rw [hcf5.2.2]; omega) hp, trivial⟩
            have hkn5 := kpT_tr hk5 hks5
            have hkf5 := hkp_1 own own (fun g => g ≠ 8 * q5) (fun _ _ => rfl) ⟨fun _ _ => hcc5.2.1, fun _ hp => absurd hcf5.2.2 hp, trivial⟩
            have hFn5 := tk_F hF5 hkf5 hcf5 (hce_1 own 1 _ _ (8 * q5) rfl hcf5.2.2)
            have hEn5 := loK_s hE5 hkf5 hcf5 (hce_1 own 1 _ _ (8 * q5) rfl hcf5.2.2)
            have hcn5 := chn_kp hks5 (by omega) hcr5
            refine lv_goto (tgt := 5) hx hb dX9_repeat_25 rfl ?_
            exact ih_5 (.null) Lp1 fp1 (upN nw5 q5 (la9 q5)) r9 H locs ls (by simp only [List.length_cons] at hm; omega) (hFn5) (by rw [hv6] at hcn5; exact hcn5) (fun q hq => hqn5 q (List.mem_cons_of_mem _ hq)) (tkI_s ht5) (hkn5) (hEn5) hP hD hS (lv_sub hl [0, 1] rfl)
          · skip
            rw [hv6]
            refine lv_astore_n (lv' := [(1, .ref c6), (0, .ref sp9)]) hx hb dX9_repeat_24 rfl hl (Nat.le_of_ble_eq_true rfl) rfl (fun ls hl => ?_)
            obtain ⟨Lp1, fp1, hP, hD, hpin_1⟩ := pl_pn (X := [_]) (old := [_, _]) (new := []) (cs1 := [_, _]) (L := L5) (cs := [(oc12 c5 (.ref (fe q5)) (.ref (lb q5)) (.ref (la9 q5)) nx5), (oc1 (fe q5) (rk q5) (wd q5) (tw q5) (pa q5) (pb q5) (.ref lo5) (.ref (nw5 q5)) .null)]) hT_1 hP hD rfl rfl rfl
            obtain ⟨hfr_1, hkp_1, hce_1, hsx_1, hpw_1⟩ := id hpin_1
            have hks5 := hkp_1 own own (fun g => ¬ g % 8 = 0) (fun _ _ => rfl) ⟨fun _ _ => hcc5.2.1, fun _ hp => absurd (show own (fe q5) % 8 = 0 by rw [hcf5.2.2]; omega) hp, trivial⟩
            have hkn5 := kpT_tr hk5 hks5
            have hkf5 := hkp_1 own own (fun g => g ≠ 8 * q5) (fun _ _ => rfl) ⟨fun _ _ => hcc5.2.1, fun _ hp => absurd hcf5.2.2 hp, trivial⟩
            have hFn5 := tk_F hF5 hkf5 hcf5 (hce_1 own 1 _ _ (8 * q5) rfl hcf5.2.2)
            have hEn5 := loK_s hE5 hkf5 hcf5 (hce_1 own 1 _ _ (8 * q5) rfl hcf5.2.2)
            have hcn5 := chn_kp hks5 (by omega) hcr5
            refine lv_goto (tgt := 5) hx hb dX9_repeat_25 rfl ?_
            exact ih_5 (.ref c6) Lp1 fp1 (upN nw5 q5 (la9 q5)) r9 H locs ls (by simp only [List.length_cons] at hm; omega) (hFn5) (by rw [hv6] at hcn5; exact hcn5) (fun q hq => hqn5 q (List.mem_cons_of_mem _ hq)) (tkI_s ht5) (hkn5) (hEn5) hP hD hS (lv_sub hl [0, 1] rfl)
    exact hl_5 _ (.ref c7) L f nw qs s.heap [] ls (Nat.lt_succ_self _) (hF) (by rw [hv7] at hch; exact hch) (hqn) (tkI_0 _ _ _) (kpT_rf) (loK_rf) hP hD hS (lv_sub hl [0, 1] rfl)
end
section
set_option maxHeartbeats 4000000 in
set_option maxRecDepth 100000 in
theorem k_undo_y (l : Launch) (dC : Nat → ClassId) (dI : Nat → Nat → Nat) (cI cZ cF : ClassId) (sz : Nat) (cO : ClassId) (e0 : Nat) (mi : Nat) (x : Nat) (sh : Nat) (lw : Nat) (ro : Nat) (bq : Nat) (bp : Nat) (dq : Nat) (dp : Nat) (lv : Nat) (sl : Nat) (ul : Int32) (su : Int32) (ea : Nat) (mc9 : Int32) (fa : Nat) (FA : Nat → Option Nat) (bs : Nat) (dn : Nat) (T : Nat) (ft : Nat) (FT : Nat → Nat) (V : Nat → Nat → Nat → Int32) (VX : Nat → Nat → Int32) (VY : Nat → Nat → Int32) (tn : Nat → Int32) (rk : Nat → Int32) (wd : Nat → Int32) (tw : Nat → Int32) (pa : Nat → Int32) (pb : Nat → Int32) (wh : Nat → Int32) (of9 : Nat → Int32) (we : Nat → Int32) (kd : Nat → Int32) (st : Nat → Int32) (gb : Nat → Int32) (it : Nat → Int32) (mn : Nat → Int32) (cx : Nat → Int32) (cy : Nat → Int32) (L : List Nat) (f : Nat → va_E) (kd1 : Nat → Int32) (st1 : Nat → Int32) (gb1 : Nat → Int32) (it1 : Nat → Int32) (mn1 : Nat → Int32) (cx1 : Nat → Int32) (cy1 : Nat → Int32) (hB : shB cI cO L f e0 FA ea bs dn T ft FT V VX VY tn rk wd tw pa pb wh of9 we kd st gb it mn cx cy) (hlt : bs < dn) (hc : ∀ q, q < FT (dn - 1) → kd1 q = V (dn - 1) 0 q ∧ st1 q = V (dn - 1) 1 q ∧ gb1 q = V (dn - 1) 2 q ∧ it1 q = V (dn - 1) 3 q ∧ ((¬ (V (dn - 1) 1 q).toInt = 0 ∧ (tn q).toInt = 0) → nN (mn1 q) = nN (V (dn - 1) 4 q) ∧ ∀ k, k < nN (V (dn - 1) 4 q) → cF40 cx1 q k = cF40 (VX (dn - 1)) q k ∧ cF40 cy1 q k = cF40 (VY (dn - 1)) q k) ∧ ((V (dn - 1) 1 q).toInt = 0 → mn1 q = mn q ∧ ∀ k, k < 40 → cF40 cx1 q k = cF40 cx q k ∧ cF40 cy1 q k = cF40 cy q k)) : zML l yX10_undo cX10_undo 2 (some .int) ({ frames := 3, cells := 0, slots := 0, locals := 64 } : Room) [.ref x] (dC, dI) (zTyO cI cZ cF cO) e0 mi ([(oc8 x (.ref sh) (.ref lw) (.ref ro) (.ref bq) (.ref bp) (.ref dq) (.ref dp) (.ref lv) (.ref sl) (nI dn) (nI bs) ul su), (oc10 sl mc9 (.ref ea) (nI T)), (oc7 sh (.ref fa) (nI ft)), (oq fa cF 200 FA)] ++ va_pl L f) sz (some (.int (nI (dn - 1 + 1)))) (fun A t => ∃ (L1 : List Nat), ∃ (f1 : Nat → va_E), ∃ (FA1 : Nat → Option Nat), (shB cI cO L1 f1 e0 FA1 ea bs (dn - 1) T (FT (dn - 1)) FT V VX VY tn rk wd tw pa pb wh of9 we kd1 st1 gb1 it1 mn1 cx1 cy1) ∧ zPD (dC, dI) classes A ([(oc8 x (.ref sh) (.ref lw) (.ref ro) (.ref bq) (.ref bp) (.ref dq) (.ref dp) (.ref lv) (.ref sl) (nI (dn - 1)) (nI bs) ul 0), (oc10 sl mc9 (.ref ea) (nI T)), (oc7 sh (.ref fa) (nI (FT (dn - 1)))), (oq fa cF 200 FA1)] ++ va_pl L1 f1) t.heap) 0 0 := by
  refine zInL (own := "ScaleShop") (loc := [(0, .ref x)]) rfl rfl rfl rfl (fun p e s m below meth c hx hb hr hts hown hlocks hml hnm9 A hA hS hP hD hK hXL hXN hK3 Q9 hQ9 ls hl => ?_)
  obtain ⟨own, fe, cl, la, sp, SA, hG9, hH9, hft9, hO9⟩ := hB
  have hN9 := hG9.2.2.2.2.2.1
  have h200 : ft ≤ 200 := Nat.le_trans hN9.2.2.2.2.1 hN9.2.2.2.2.2
  have hFT2 := hN9.2.2.2.2.2
  have hFA9 := hG9.2.2.2.2.2.2
  have hdT := hN9.2.1
  have hT5 := hN9.2.2.1
  have hbd := hN9.1
  obtain ⟨hs1, mv5, ch5, hs2, hs3⟩ := hG9.2.2.2.1 (dn) (by omega) (by omega)
  obtain ⟨⟨qs5, hch5, hqs5, hql5⟩, hmv5⟩ := hs3 (by omega)
  obtain ⟨cap5, hce5, hnc5, hc10, hc1k, hent⟩ : ∃ cap : Nat, ce L f own 8002 ea (.inl (cO, cap, .inr (.inr (.inr (.inr SA))))) ∧ T ≤ cap ∧ 10 ≤ cap ∧ cap ≤ 1000 ∧ ∀ i, i < T → ∃ (y : Nat) (vs : List Value), SA i = some y ∧ ce L f own 8001 y (.inr (11, vs)) := (hG9.2.2.2.2.1).resolve_left (fun g => by omega)
  rcases hmv5 with ⟨hf5, hm5⟩ | ⟨hf5, hm5⟩
  · skip
    subst hm5
    have hc9_1 : inPl L f [(oq ea cO cap5 SA), (oc11 (sp dn) (wh dn) (of9 dn) (we dn) .null ch5)] := ⟨ce_pl hce5, ce_pl hs2, trivial⟩
    have hD0_1 := hD
    obtain ⟨T_1, hT_1, hP, hD⟩ := pl_oT hP hD hc9_1 (pw2 (ca_ne hs2.2.1 hce5.2.1).symm)
    obtain ⟨hP, hD⟩ := zre (W2 := ([_, _, _, _, _, _] ++ va_pl T_1 f)) hP hD rfl
    refine lv_aload_n hx hb dX10_undo_0 rfl (lv_at hl 0 rfl) ?_
    refine va_get (D := (dC, dI)) (ci := 8) (v := .int (nI dn)) (C := RX10) (T := TX10) (N := 13) hx hb hts inX10 hown hK hP 0 rfl rfl 9 (Nat.le_of_ble_eq_true rfl) (hts _ mw_318) (fun _ h9 => h9) rfl dX10_undo_1 ?_
    refine lv_aload_n hx hb dX10_undo_4 rfl (lv_at hl 0 rfl) ?_
    refine va_get (D := (dC, dI)) (ci := 8) (v := .int (nI bs)) (C := RX10) (T := TX10) (N := 13) hx hb hts inX10 hown hK hP 0 rfl rfl 10 (Nat.le_of_ble_eq_true rfl) (hts _ mw_319) (fun _ h9 => h9) rfl dX10_undo_5 ?_
    have b9_2 : zlt (dn) := show dn < 2147483648 by omega
    have b9_3 : zlt (bs) := show bs < 2147483648 by omega
    refine lv_icmp_le (tgt := 25) hx hb dX10_undo_8 rfl (fun c_1 => ?_) (fun c_1 => ?_)
    · have c_1 : ((dn : Nat) : Int) ≤ ((bs : Nat) : Int) := zc_le (nI_toInt b9_2) (nI_toInt b9_3) c_1
      exfalso; omega
    · have c_1 : ((bs : Nat) : Int) < ((dn : Nat) : Int) := zc_nle (nI_toInt b9_2) (nI_toInt b9_3) c_1
      refine lv_aload_n hx hb dX10_undo_11 rfl (lv_at hl 0 rfl) ?_
      refine va_get (D := (dC, dI)) (ci := 8) (v := .int (nI dn)) (C := RX10) (T := TX10) (N := 13) hx hb hts inX10 hown hK hP 0 rfl rfl 9 (Nat.le_of_ble_eq_true rfl) (hts _ mw_318) (fun _ h9 => h9) rfl dX10_undo_12 ?_
      refine lv_aload_n hx hb dX10_undo_15 rfl (lv_at hl 0 rfl) ?_
      refine va_get (D := (dC, dI)) (ci := 8) (v := .ref sl) (C := RX10) (T := TX10) (N := 13) hx hb hts inX10 hown hK hP 0 rfl rfl 8 (Nat.le_of_ble_eq_true rfl) (hts _ mw_317) (fun _ h9 => h9) rfl dX10_undo_16 ?_
      obtain ⟨hPc, hDc, hFc, hI1⟩ := zi_sub (wc := [_]) hP hD hS hA [1] rfl rfl
      refine zcall (st1 := [.int (nI T), .int (nI dn)]) (va_runV (As := []) (rest := [.int (nI dn)]) ⟨hx, hb, hml, hown, hts⟩ (k_AL_size l dC dI cI cZ cF s.heap.size sl ea T mc9 ) (csV_90 hts rfl rfl ⟨Nat.le_of_ble_eq_true rfl, Nat.le_of_ble_eq_true rfl⟩) (zPV2 (q0 := 0) (ci := 10) hPc hDc hK3 hXN rfl rfl) rfl rfl hl.1 rfl (lv_room (Nat.le_of_ble_eq_true rfl)) dX10_undo_19 ⟨Nat.le_of_ble_eq_true rfl, Nat.le_of_ble_eq_true rfl⟩) hS hFc hFc rfl (fun t H locs ht hB hk1 hS => ?_)
      obtain ⟨hP1, hD1⟩ := hB
      rw [ht] at hP1
      replace hP := z0 hP hD hk1 hP1 hI1
      clear hk1 hPc hDc hFc hP1 hD1 ht hI1
      have b9_5 : zlt (T) := show T < 2147483648 by omega
      refine lv_icmp_le (tgt := 32) hx hb dX10_undo_22 rfl (fun c_4 => ?_) (fun c_4 => ?_)
      · have c_4 : ((dn : Nat) : Int) ≤ ((T : Nat) : Int) := zc_le (nI_toInt b9_2) (nI_toInt b9_5) c_4
        refine lv_aload_n hx hb dX10_undo_32 rfl (lv_at hl 0 rfl) ?_
        refine va_get (D := (dC, dI)) (ci := 8) (v := .ref sl) (C := RX10) (T := TX10) (N := 13) hx hb hts inX10 hown hK hP 0 rfl rfl 8 (Nat.le_of_ble_eq_true rfl) (hts _ mw_317) (fun _ h9 => h9) rfl dX10_undo_33 ?_
        refine lv_aload_n hx hb dX10_undo_36 rfl (lv_at hl 0 rfl) ?_
        refine va_get (D := (dC, dI)) (ci := 8) (v := .int (nI dn)) (C := RX10) (T := TX10) (N := 13) hx hb hts inX10 hown hK hP 0 rfl rfl 9 (Nat.le_of_ble_eq_true rfl) (hts _ mw_318) (fun _ h9 => h9) rfl dX10_undo_37 ?_
        refine lv_iconst (v := 1) hx hb dX10_undo_40 rfl ?_
        refine lv_isub hx hb dX10_undo_41 ?_
        refine zz_i (v := nI (dn - 1)) (pk_sub (a := dn) (b := 1) (by omega)) ?_
        have hko : ∀ P : Nat → Prop, ¬ P 8001 → ¬ P 8002 → kpT P L f own T_1 f own := fun P h1 h2 => by rw [← hT_1]; exact kp_out (fun c hc => by simp only [List.mem_cons, List.not_mem_nil, or_false] at hc; rcases hc with rfl | rfl; (show ¬ P (own ea); rw [hce5.2.2]; exact h2); (show ¬ P (own (sp dn)); rw [hs2.2.2]; exact h1))
        obtain ⟨hPc, hDc, hFc, hI1⟩ := zi_sub (wc := [_, _]) hP hD hS hA [1, 4] rfl rfl
        refine zcall (st1 := [.ref (sp dn)]) (va_runV (As := [.int (nI (dn - 1))]) (rest := []) ⟨hx, hb, hml, hown, hts⟩ (k_AL_get l dC dI cI cZ cF H.size cO e0 mi sl ea T mc9 (dn - 1) cap5 (sp dn) SA (hs1) (by first | with_reducible assumption | omega) (by first | with_reducible assumption | omega) (by first | with_reducible assumption | omega) (by first | with_reducible assumption | omega)) (csV_112 hts rfl rfl ⟨Nat.le_of_ble_eq_true rfl, Nat.le_of_ble_eq_true rfl⟩) (zPVL (q0 := 0) (ci := 10) hPc hDc hK hXL hS hFc rfl rfl) rfl rfl hl.1 rfl (lv_room (Nat.le_of_ble_eq_true rfl)) dX10_undo_42 ⟨Nat.le_of_ble_eq_true rfl, Nat.le_of_ble_eq_true rfl⟩) hS hFc hFc rfl (fun t H locs ht hB hk1 hS => ?_)
        obtain ⟨hP1, hD1⟩ := hB
        rw [ht] at hP1
        replace hP := z0 hP hD hk1 hP1 hI1
        clear hk1 hPc hDc hFc hP1 hD1 ht hI1
        refine va_castE hx hb hown (hts _ mw_757) (z_cellR (i := 0) hK (hP 5 _ rfl) rfl) dX10_undo_45 ?_
        refine lv_astore_n (lv' := [(1, .ref (sp dn)), (0, .ref x)]) hx hb dX10_undo_48 rfl hl (Nat.le_of_ble_eq_true rfl) rfl (fun ls hl => ?_)
        refine lv_aload_n hx hb dX10_undo_49 rfl (lv_at hl 0 rfl) ?_
        obtain ⟨hPc, hDc, hFc⟩ := zo_part (cx := [_]) hP hD hS hA [5] rfl rfl
        refine zcall (st1 := []) (va_runV (As := []) (rest := []) ⟨hx, hb, hml, hown, hts⟩ (k_Step_takeBack l dC dI cI cZ cF H.size (sp dn) (wh dn) (of9 dn) (we dn) (.null) ch5 own fe cl (la dn) (la (dn - 1)) (la dn) (FT T) qs5 rk wd tw pa pb T_1 f (FeA_kp (hko (fun g => g ≠ 8001 ∧ g ≠ 8002) (by simp) (by simp)) (fun q hq => ⟨⟨by omega, by omega⟩, ⟨by omega, by omega⟩⟩) hG9.1) (chn_kp (hko (fun g => g ≠ 8001 ∧ g ≠ 8002) (by simp) (by simp)) ⟨by omega, by omega⟩ hch5) (fun q hq => Nat.lt_of_lt_of_le (hqs5 q hq) (hN9.2.2.2.1 _ (by first | with_reducible assumption | omega) (by first | with_reducible assumption | omega)))) (csV_113 hts rfl rfl ⟨Nat.le_of_ble_eq_true rfl, Nat.le_of_ble_eq_true rfl⟩) (zPV2 (q0 := 0) (ci := 11) hPc hDc hK3 hXN rfl rfl) rfl rfl hl.1 rfl (lv_room (Nat.le_of_ble_eq_true rfl)) dX10_undo_50 ⟨Nat.le_of_ble_eq_true rfl, Nat.le_of_ble_eq_true rfl⟩) hS hFc hFc rfl (fun t H locs ht hB hk1 hS => ?_)
        obtain ⟨L7, f7, nw7, hF7, hn7, hk7, hE7, hP1, hD1⟩ := hB
        rw [ht] at hP1
        obtain ⟨hP, hD⟩ := znP (W2 := [_, _, _, _, _, _]) hP hD hk1 hFc hP1 hD1 [5] [true, true, true, true, true] [true, true, true, true, true, false] [5] (by decide +kernel) rfl rfl rfl rfl rfl
        clear hk1 hPc hDc hFc hP1 hD1 ht
        refine lv_aload_n hx hb dX10_undo_53 rfl (lv_at hl 0 rfl) ?_
        refine va_get (D := (dC, dI)) (ci := 11) (v := .null) (C := RX9) (T := TX9) (N := 5) hx hb hts inX9 hown hK hP 5 rfl rfl 3 (Nat.le_of_ble_eq_true rfl) (hts _ mw_770) (fun _ h9 => h9) rfl dX10_undo_54 ?_
        refine lv_ifnullN (tgt := 67) hx hb dX10_undo_57 rfl ?_
        refine lv_aload_n hx hb dX10_undo_67 rfl (lv_at hl 1 rfl) ?_
        refine lv_dup hx hb dX10_undo_68 rfl ?_
        refine va_get (D := (dC, dI)) (ci := 8) (v := .int (nI dn)) (C := RX10) (T := TX10) (N := 13) hx hb hts inX10 hown hK hP 0 rfl rfl 9 (Nat.le_of_ble_eq_true rfl) (hts _ mw_318) (fun _ h9 => h9) rfl dX10_undo_69 ?_
        refine lv_iconst (v := 1) hx hb dX10_undo_72 rfl ?_
        refine lv_isub hx hb dX10_undo_73 ?_
        refine zz_i (v := nI (dn - 1)) (pk_sub (a := dn) (b := 1) (by omega)) ?_
        refine va_put (D := (dC, dI)) (ci := 8) (v := .int (nI (dn - 1))) (ty := .int) (C := RX10) (T := TX10) (N := 13) hx hb hts inX10 tyX10 tyX10_ok nmX10 hown hK hP hD hS 0 rfl rfl 9 (by decide) (hts _ mw_318) (fun _ h9 => h9) rfl (by decide +kernel) rfl rfl (Nat.le_of_ble_eq_true rfl) dX10_undo_74 (fun H locs hP hD hS => ?_)
        obtain ⟨hP, hD⟩ := zre (W2 := ([(oc8 x (.ref sh) (.ref lw) (.ref ro) (.ref bq) (.ref bp) (.ref dq) (.ref dp) (.ref lv) (.ref sl) (nI (dn - 1)) (nI bs) ul su), _, _, _, _, _] ++ va_pl L7 f7)) hP hD rfl
        refine lv_aload_n hx hb dX10_undo_77 rfl (lv_at hl 1 rfl) ?_
        refine lv_iconst (v := 0) hx hb dX10_undo_78 rfl ?_
        refine va_put (D := (dC, dI)) (ci := 8) (v := .int 0) (ty := .int) (C := RX10) (T := TX10) (N := 13) hx hb hts inX10 tyX10 tyX10_ok nmX10 hown hK hP hD hS 0 rfl rfl 12 (by decide) (hts _ mw_321) (fun _ h9 => h9) rfl (by decide +kernel) rfl rfl (Nat.le_of_ble_eq_true rfl) dX10_undo_79 (fun H locs hP hD hS => ?_)
        obtain ⟨hP, hD⟩ := zre (W2 := ([(oc8 x (.ref sh) (.ref lw) (.ref ro) (.ref bq) (.ref bp) (.ref dq) (.ref dp) (.ref lv) (.ref sl) (nI (dn - 1)) (nI bs) ul 0), _, _, _, _, _] ++ va_pl L7 f7)) hP hD rfl
        refine lv_aload_n hx hb dX10_undo_82 rfl (lv_at hl 1 rfl) ?_
        refine va_get (D := (dC, dI)) (ci := 8) (v := .int (nI (dn - 1))) (C := RX10) (T := TX10) (N := 13) hx hb hts inX10 hown hK hP 0 rfl rfl 9 (Nat.le_of_ble_eq_true rfl) (hts _ mw_318) (fun _ h9 => h9) rfl dX10_undo_83 ?_
        refine lv_iconst (v := 1) hx hb dX10_undo_86 rfl ?_
        refine lv_iadd hx hb dX10_undo_87 ?_
        refine zz_i (v := nI ((dn - 1) + 1)) (nI_add (dn - 1) 1) ?_
        obtain ⟨Lp2, fp2, hP, hD, hpin_2⟩ := pl_pn (X := [_, _, _, _]) (old := []) (new := [_, _]) (cs1 := [_, _]) (L := L7) (cs := []) outPl_nil hP hD rfl rfl rfl
        obtain ⟨hfr_2, hkp_2, hce_2, hsx_2, hpw_2⟩ := id hpin_2
        have hk79 : kpT (fun g => ¬ g % 8 = 0) L f own Lp2 fp2 own := kp_re (cs := [(ea, .inl (cO, cap5, .inr (.inr (.inr (.inr SA))))), (sp dn, .inr (11, [.int (wh dn), .int (of9 dn), .int (we dn), .null, ch5]))]) (by rw [hT_1]; exact hk7) (hkp_2 own own _ (fun _ _ => rfl) trivial) (fun c hc g e h => by simp only [List.mem_cons, List.not_mem_nil, or_false] at hc; rcases hc with rfl | rfl; (obtain ⟨e1, e2⟩ := ce_eq h hce5; rw [e1, e2]; exact hce_2 own 0 _ _ _ rfl hce5.2.2); (obtain ⟨e1, e2⟩ := ce_eq h hs2; rw [e1, e2]; exact hce_2 own 1 _ _ _ rfl hs2.2.2))
        have hF79 : FeA cI Lp2 fp2 own (FT T) fe (la (dn - 1)) cl (fun _ => .null) rk wd tw pa pb := FeA_cg (FeA_kp (hkp_2 own own (fun _ => True) (fun _ _ => rfl) trivial) (fun _ _ => ⟨trivial, trivial⟩) hF7) (fun q hq => by by_cases m : q ∈ qs5; exact ((hn7 q).1 m).symm; rw [(hn7 q).2 m]; exact hql5 q hq m)
        have hK79 : loK cI L f own Lp2 fp2 own (FT T) fe := loK_tr (loK_kp (hko (fun g => g ≠ 8001 ∧ g ≠ 8002) (by simp) (by simp)) (fun q hq => ⟨⟨by omega, by omega⟩, ⟨by omega, by omega⟩⟩)) (loK_tr hE7 (loK_kp (hkp_2 own own (fun _ => True) (fun _ _ => rfl) trivial) (fun _ _ => ⟨trivial, trivial⟩)))
        have hB6 := U_pos (FA1 := FA) (ft1 := FT (dn - 1)) hF79 hk79 hG9 hH9 hft9 (by omega) (by omega) rfl (fun q hq => hFA9 q (by omega)) hc hO9 hK79
        obtain ⟨hP9, hD9⟩ := zu_part (cx := [(oc8 x (.ref sh) (.ref lw) (.ref ro) (.ref bq) (.ref bp) (.ref dq) (.ref dp) (.ref lv) (.ref sl) (nI (dn - 1)) (nI bs) ul 0), (oc10 sl mc9 (.ref ea) (nI T)), (oc7 sh (.ref fa) (nI ft)), (oq fa cF 200 FA)]) hP hD [true, true, true, true] rfl rfl
        have hE9 : (([(oc8 x (.ref sh) (.ref lw) (.ref ro) (.ref bq) (.ref bp) (.ref dq) (.ref dp) (.ref lv) (.ref sl) (nI (dn - 1)) (nI bs) ul 0), (oc10 sl mc9 (.ref ea) (nI T)), (oc7 sh (.ref fa) (nI ft)), (oq fa cF 200 FA)] ++ va_pl Lp2 fp2) : va_W) = ([(oc8 x (.ref sh) (.ref lw) (.ref ro) (.ref bq) (.ref bp) (.ref dq) (.ref dp) (.ref lv) (.ref sl) (nI (dn - 1)) (nI bs) ul 0), (oc10 sl mc9 (.ref ea) (nI T)), (oc7 sh (.ref fa) (nI (FT (dn - 1)))), (oq fa cF 200 FA)] ++ va_pl Lp2 fp2) := by rw [show ft = FT (dn - 1) by omega]
        rw [hE9] at hP9 hD9
        rw [hQ9]
        exact W.iret (v := nI ((dn - 1) + 1)) hx hb hr (fun t ht hW => ⟨⟨rfl, Lp2, fp2, FA, (hB6), by rw [ht]; exact hP9, hD9⟩, hS.F ht⟩) hS.2.2 dX10_undo_88
      · have c_4 : ((T : Nat) : Int) < ((dn : Nat) : Int) := zc_nle (nI_toInt b9_2) (nI_toInt b9_5) c_4
        exfalso; omega
  · skip
    subst hm5
    have hc9_1 : inPl L f [(oq ea cO cap5 SA), (oc11 (sp dn) (wh dn) (of9 dn) (we dn) (.ref (fe (FT (dn - 1)))) ch5)] := ⟨ce_pl hce5, ce_pl hs2, trivial⟩
    have hD0_1 := hD
    obtain ⟨T_1, hT_1, hP, hD⟩ := pl_oT hP hD hc9_1 (pw2 (ca_ne hs2.2.1 hce5.2.1).symm)
    obtain ⟨hP, hD⟩ := zre (W2 := ([_, _, _, _, _, _] ++ va_pl T_1 f)) hP hD rfl
    refine lv_aload_n hx hb dX10_undo_0 rfl (lv_at hl 0 rfl) ?_
    refine va_get (D := (dC, dI)) (ci := 8) (v := .int (nI dn)) (C := RX10) (T := TX10) (N := 13) hx hb hts inX10 hown hK hP 0 rfl rfl 9 (Nat.le_of_ble_eq_true rfl) (hts _ mw_318) (fun _ h9 => h9) rfl dX10_undo_1 ?_
    refine lv_aload_n hx hb dX10_undo_4 rfl (lv_at hl 0 rfl) ?_
    refine va_get (D := (dC, dI)) (ci := 8) (v := .int (nI bs)) (C := RX10) (T := TX10) (N := 13) hx hb hts inX10 hown hK hP 0 rfl rfl 10 (Nat.le_of_ble_eq_true rfl) (hts _ mw_319) (fun _ h9 => h9) rfl dX10_undo_5 ?_
    have b9_7 : zlt (dn) := show dn < 2147483648 by omega
    have b9_8 : zlt (bs) := show bs < 2147483648 by omega
    refine lv_icmp_le (tgt := 25) hx hb dX10_undo_8 rfl (fun c_6 => ?_) (fun c_6 => ?_)
    · have c_6 : ((dn : Nat) : Int) ≤ ((bs : Nat) : Int) := zc_le (nI_toInt b9_7) (nI_toInt b9_8) c_6
      exfalso; omega
    · have c_6 : ((bs : Nat) : Int) < ((dn : Nat) : Int) := zc_nle (nI_toInt b9_7) (nI_toInt b9_8) c_6
      refine lv_aload_n hx hb dX10_undo_11 rfl (lv_at hl 0 rfl) ?_
      refine va_get (D := (dC, dI)) (ci := 8) (v := .int (nI dn)) (C := RX10) (T := TX10) (N := 13) hx hb hts inX10 hown hK hP 0 rfl rfl 9 (Nat.le_of_ble_eq_true rfl) (hts _ mw_318) (fun _ h9 => h9) rfl dX10_undo_12 ?_
      refine lv_aload_n hx hb dX10_undo_15 rfl (lv_at hl 0 rfl) ?_
      refine va_get (D := (dC, dI)) (ci := 8) (v := .ref sl) (C := RX10) (T := TX10) (N := 13) hx hb hts inX10 hown hK hP 0 rfl rfl 8 (Nat.le_of_ble_eq_true rfl) (hts _ mw_317) (fun _ h9 => h9) rfl dX10_undo_16 ?_
      obtain ⟨hPc, hDc, hFc, hI1⟩ := zi_sub (wc := [_]) hP hD hS hA [1] rfl rfl
      refine zcall (st1 := [.int (nI T), .int (nI dn)]) (va_runV (As := []) (rest := [.int (nI dn)]) ⟨hx, hb, hml, hown, hts⟩ (k_AL_size l dC dI cI cZ cF s.heap.size sl ea T mc9 ) (csV_90 hts rfl rfl ⟨Nat.le_of_ble_eq_true rfl, Nat.le_of_ble_eq_true rfl⟩) (zPV2 (q0 := 0) (ci := 10) hPc hDc hK3 hXN rfl rfl) rfl rfl hl.1 rfl (lv_room (Nat.le_of_ble_eq_true rfl)) dX10_undo_19 ⟨Nat.le_of_ble_eq_true rfl, Nat.le_of_ble_eq_true rfl⟩) hS hFc hFc rfl (fun t H locs ht hB hk1 hS => ?_)
      obtain ⟨hP1, hD1⟩ := hB
      rw [ht] at hP1
      replace hP := z0 hP hD hk1 hP1 hI1
      clear hk1 hPc hDc hFc hP1 hD1 ht hI1
      have b9_10 : zlt (T) := show T < 2147483648 by omega
      refine lv_icmp_le (tgt := 32) hx hb dX10_undo_22 rfl (fun c_9 => ?_) (fun c_9 => ?_)
      · have c_9 : ((dn : Nat) : Int) ≤ ((T : Nat) : Int) := zc_le (nI_toInt b9_7) (nI_toInt b9_10) c_9
        refine lv_aload_n hx hb dX10_undo_32 rfl (lv_at hl 0 rfl) ?_
        refine va_get (D := (dC, dI)) (ci := 8) (v := .ref sl) (C := RX10) (T := TX10) (N := 13) hx hb hts inX10 hown hK hP 0 rfl rfl 8 (Nat.le_of_ble_eq_true rfl) (hts _ mw_317) (fun _ h9 => h9) rfl dX10_undo_33 ?_
        refine lv_aload_n hx hb dX10_undo_36 rfl (lv_at hl 0 rfl) ?_
        refine va_get (D := (dC, dI)) (ci := 8) (v := .int (nI dn)) (C := RX10) (T := TX10) (N := 13) hx hb hts inX10 hown hK hP 0 rfl rfl 9 (Nat.le_of_ble_eq_true rfl) (hts _ mw_318) (fun _ h9 => h9) rfl dX10_undo_37 ?_
        refine lv_iconst (v := 1) hx hb dX10_undo_40 rfl ?_
        refine lv_isub hx hb dX10_undo_41 ?_
        refine zz_i (v := nI (dn - 1)) (pk_sub (a := dn) (b := 1) (by omega)) ?_
        have hko : ∀ P : Nat → Prop, ¬ P 8001 → ¬ P 8002 → kpT P L f own T_1 f own := fun P h1 h2 => by rw [← hT_1]; exact kp_out (fun c hc => by simp only [List.mem_cons, List.not_mem_nil, or_false] at hc; rcases hc with rfl | rfl; (show ¬ P (own ea); rw [hce5.2.2]; exact h2); (show ¬ P (own (sp dn)); rw [hs2.2.2]; exact h1))
        obtain ⟨hPc, hDc, hFc, hI1⟩ := zi_sub (wc := [_, _]) hP hD hS hA [1, 4] rfl rfl
        refine zcall (st1 := [.ref (sp dn)]) (va_runV (As := [.int (nI (dn - 1))]) (rest := []) ⟨hx, hb, hml, hown, hts⟩ (k_AL_get l dC dI cI cZ cF H.size cO e0 mi sl ea T mc9 (dn - 1) cap5 (sp dn) SA (hs1) (by first | with_reducible assumption | omega) (by first | with_reducible assumption | omega) (by first | with_reducible assumption | omega) (by first | with_reducible assumption | omega)) (csV_112 hts rfl rfl ⟨Nat.le_of_ble_eq_true rfl, Nat.le_of_ble_eq_true rfl⟩) (zPVL (q0 := 0) (ci := 10) hPc hDc hK hXL hS hFc rfl rfl) rfl rfl hl.1 rfl (lv_room (Nat.le_of_ble_eq_true rfl)) dX10_undo_42 ⟨Nat.le_of_ble_eq_true rfl, Nat.le_of_ble_eq_true rfl⟩) hS hFc hFc rfl (fun t H locs ht hB hk1 hS => ?_)
        obtain ⟨hP1, hD1⟩ := hB
        rw [ht] at hP1
        replace hP := z0 hP hD hk1 hP1 hI1
        clear hk1 hPc hDc hFc hP1 hD1 ht hI1
        refine va_castE hx hb hown (hts _ mw_757) (z_cellR (i := 0) hK (hP 5 _ rfl) rfl) dX10_undo_45 ?_
        refine lv_astore_n (lv' := [(1, .ref (sp dn)), (0, .ref x)]) hx hb dX10_undo_48 rfl hl (Nat.le_of_ble_eq_true rfl) rfl (fun ls hl => ?_)
        refine lv_aload_n hx hb dX10_undo_49 rfl (lv_at hl 0 rfl) ?_
        obtain ⟨hPc, hDc, hFc⟩ := zo_part (cx := [_]) hP hD hS hA [5] rfl rfl
        refine zcall (st1 := []) (va_runV (As := []) (rest := []) ⟨hx, hb, hml, hown, hts⟩ (k_Step_takeBack l dC dI cI cZ cF H.size (sp dn) (wh dn) (of9 dn) (we dn) (.ref (fe (FT (dn - 1)))) ch5 own fe cl (la dn) (la (dn - 1)) (la dn) (FT T) qs5 rk wd tw pa pb T_1 f (FeA_kp (hko (fun g => g ≠ 8001 ∧ g ≠ 8002) (by simp) (by simp)) (fun q hq => ⟨⟨by omega, by omega⟩, ⟨by omega, by omega⟩⟩) hG9.1) (chn_kp (hko (fun g => g ≠ 8001 ∧ g ≠ 8002) (by simp) (by simp)) ⟨by omega, by omega⟩ hch5) (fun q hq => Nat.lt_of_lt_of_le (hqs5 q hq) (hN9.2.2.2.1 _ (by first | with_reducible assumption | omega) (by first | with_reducible assumption | omega)))) (csV_113 hts rfl rfl ⟨Nat.le_of_ble_eq_true rfl, Nat.le_of_ble_eq_true rfl⟩) (zPV2 (q0 := 0) (ci := 11) hPc hDc hK3 hXN rfl rfl) rfl rfl hl.1 rfl (lv_room (Nat.le_of_ble_eq_true rfl)) dX10_undo_50 ⟨Nat.le_of_ble_eq_true rfl, Nat.le_of_ble_eq_true rfl⟩) hS hFc hFc rfl (fun t H locs ht hB hk1 hS => ?_)
        obtain ⟨L7, f7, nw7, hF7, hn7, hk7, hE7, hP1, hD1⟩ := hB
        rw [ht] at hP1
        obtain ⟨hP, hD⟩ := znP (W2 := [_, _, _, _, _, _]) hP hD hk1 hFc hP1 hD1 [5] [true, true, true, true, true] [true, true, true, true, true, false] [5] (by decide +kernel) rfl rfl rfl rfl rfl
        clear hk1 hPc hDc hFc hP1 hD1 ht
        refine lv_aload_n hx hb dX10_undo_53 rfl (lv_at hl 0 rfl) ?_
        refine va_get (D := (dC, dI)) (ci := 11) (v := .ref (fe (FT (dn - 1)))) (C := RX9) (T := TX9) (N := 5) hx hb hts inX9 hown hK hP 5 rfl rfl 3 (Nat.le_of_ble_eq_true rfl) (hts _ mw_770) (fun _ h9 => h9) rfl dX10_undo_54 ?_
        refine lv_ifnull hx hb dX10_undo_57 ?_
        refine lv_aload_n hx hb dX10_undo_60 rfl (lv_at hl 1 rfl) ?_
        refine va_get (D := (dC, dI)) (ci := 8) (v := .ref sh) (C := RX10) (T := TX10) (N := 13) hx hb hts inX10 hown hK hP 0 rfl rfl 0 (Nat.le_of_ble_eq_true rfl) (hts _ mw_309) (fun _ h9 => h9) rfl dX10_undo_61 ?_
        obtain ⟨hPc, hDc, hFc⟩ := zo_sub (wc := [_, _]) hP hD hS hA [2, 3] rfl rfl
        refine zcall (st1 := []) (va_runV (As := []) (rest := []) ⟨hx, hb, hml, hown, hts⟩ (k_Sheet_removeLast l dC dI cI cZ cF H.size sh fa ft FA (by first | with_reducible assumption | omega) (by first | with_reducible assumption | omega)) (csV_114 hts rfl rfl ⟨Nat.le_of_ble_eq_true rfl, Nat.le_of_ble_eq_true rfl⟩) (zPV2 (q0 := 0) (ci := 7) hPc hDc hK3 hXN rfl rfl) rfl rfl hl.1 rfl (lv_room (Nat.le_of_ble_eq_true rfl)) dX10_undo_64 ⟨Nat.le_of_ble_eq_true rfl, Nat.le_of_ble_eq_true rfl⟩) hS hFc hFc rfl (fun t H locs ht hB hk1 hS => ?_)
        obtain ⟨hP1, hD1⟩ := hB
        rw [ht] at hP1
        obtain ⟨hP, hD⟩ := znQ (W2 := [_, _, (oc7 sh (.ref fa) (nI (ft - 1))), _, _, _]) hP hD hk1 hFc hP1 hD1 [2, 3] [true, true, false, false, true, true] [true, true, false, false, true, true] [2, 3] (by decide +kernel) rfl rfl rfl rfl rfl
        clear hk1 hPc hDc hFc hP1 hD1 ht
        refine lv_aload_n hx hb dX10_undo_67 rfl (lv_at hl 1 rfl) ?_
        refine lv_dup hx hb dX10_undo_68 rfl ?_
        refine va_get (D := (dC, dI)) (ci := 8) (v := .int (nI dn)) (C := RX10) (T := TX10) (N := 13) hx hb hts inX10 hown hK hP 0 rfl rfl 9 (Nat.le_of_ble_eq_true rfl) (hts _ mw_318) (fun _ h9 => h9) rfl dX10_undo_69 ?_
        refine lv_iconst (v := 1) hx hb dX10_undo_72 rfl ?_
        refine lv_isub hx hb dX10_undo_73 ?_
        refine zz_i (v := nI (dn - 1)) (pk_sub (a := dn) (b := 1) (by omega)) ?_
        refine va_put (D := (dC, dI)) (ci := 8) (v := .int (nI (dn - 1))) (ty := .int) (C := RX10) (T := TX10) (N := 13) hx hb hts inX10 tyX10 tyX10_ok nmX10 hown hK hP hD hS 0 rfl rfl 9 (by decide) (hts _ mw_318) (fun _ h9 => h9) rfl (by decide +kernel) rfl rfl (Nat.le_of_ble_eq_true rfl) dX10_undo_74 (fun H locs hP hD hS => ?_)
        obtain ⟨hP, hD⟩ := zre (W2 := ([(oc8 x (.ref sh) (.ref lw) (.ref ro) (.ref bq) (.ref bp) (.ref dq) (.ref dp) (.ref lv) (.ref sl) (nI (dn - 1)) (nI bs) ul su), _, _, _, _, _] ++ va_pl L7 f7)) hP hD rfl
        refine lv_aload_n hx hb dX10_undo_77 rfl (lv_at hl 1 rfl) ?_
        refine lv_iconst (v := 0) hx hb dX10_undo_78 rfl ?_
        refine va_put (D := (dC, dI)) (ci := 8) (v := .int 0) (ty := .int) (C := RX10) (T := TX10) (N := 13) hx hb hts inX10 tyX10 tyX10_ok nmX10 hown hK hP hD hS 0 rfl rfl 12 (by decide) (hts _ mw_321) (fun _ h9 => h9) rfl (by decide +kernel) rfl rfl (Nat.le_of_ble_eq_true rfl) dX10_undo_79 (fun H locs hP hD hS => ?_)
        obtain ⟨hP, hD⟩ := zre (W2 := ([(oc8 x (.ref sh) (.ref lw) (.ref ro) (.ref bq) (.ref bp) (.ref dq) (.ref dp) (.ref lv) (.ref sl) (nI (dn - 1)) (nI bs) ul 0), _, _, _, _, _] ++ va_pl L7 f7)) hP hD rfl
        refine lv_aload_n hx hb dX10_undo_82 rfl (lv_at hl 1 rfl) ?_
        refine va_get (D := (dC, dI)) (ci := 8) (v := .int (nI (dn - 1))) (C := RX10) (T := TX10) (N := 13) hx hb hts inX10 hown hK hP 0 rfl rfl 9 (Nat.le_of_ble_eq_true rfl) (hts _ mw_318) (fun _ h9 => h9) rfl dX10_undo_83 ?_
        refine lv_iconst (v := 1) hx hb dX10_undo_86 rfl ?_
        refine lv_iadd hx hb dX10_undo_87 ?_
        refine zz_i (v := nI ((dn - 1) + 1)) (nI_add (dn - 1) 1) ?_
        obtain ⟨Lp2, fp2, hP, hD, hpin_2⟩ := pl_pn (X := [_, _, _, _]) (old := []) (new := [_, _]) (cs1 := [_, _]) (L := L7) (cs := []) outPl_nil hP hD rfl rfl rfl
        obtain ⟨hfr_2, hkp_2, hce_2, hsx_2, hpw_2⟩ := id hpin_2
        have hk79 : kpT (fun g => ¬ g % 8 = 0) L f own Lp2 fp2 own := kp_re (cs := [(ea, .inl (cO, cap5, .inr (.inr (.inr (.inr SA))))), (sp dn, .inr (11, [.int (wh dn), .int (of9 dn), .int (we dn), .ref (fe (FT (dn - 1))), ch5]))]) (by rw [hT_1]; exact hk7) (hkp_2 own own _ (fun _ _ => rfl) trivial) (fun c hc g e h => by simp only [List.mem_cons, List.not_mem_nil, or_false] at hc; rcases hc with rfl | rfl; (obtain ⟨e1, e2⟩ := ce_eq h hce5; rw [e1, e2]; exact hce_2 own 0 _ _ _ rfl hce5.2.2); (obtain ⟨e1, e2⟩ := ce_eq h hs2; rw [e1, e2]; exact hce_2 own 1 _ _ _ rfl hs2.2.2))
        have hF79 : FeA cI Lp2 fp2 own (FT T) fe (la (dn - 1)) cl (fun _ => .null) rk wd tw pa pb := FeA_cg (FeA_kp (hkp_2 own own (fun _ => True) (fun _ _ => rfl) trivial) (fun _ _ => ⟨trivial, trivial⟩) hF7) (fun q hq => by by_cases m : q ∈ qs5; exact ((hn7 q).1 m).symm; rw [(hn7 q).2 m]; exact hql5 q hq m)
        have hK79 : loK cI L f own Lp2 fp2 own (FT T) fe := loK_tr (loK_kp (hko (fun g => g ≠ 8001 ∧ g ≠ 8002) (by simp) (by simp)) (fun q hq => ⟨⟨by omega, by omega⟩, ⟨by omega, by omega⟩⟩)) (loK_tr hE7 (loK_kp (hkp_2 own own (fun _ => True) (fun _ _ => rfl) trivial) (fun _ _ => ⟨trivial, trivial⟩)))
        have hB6 := U_pos (FA1 := FA) (ft1 := FT (dn - 1)) hF79 hk79 hG9 hH9 hft9 (by omega) (by omega) rfl (fun q hq => hFA9 q (by omega)) hc hO9 hK79
        obtain ⟨hP9, hD9⟩ := zu_part (cx := [(oc8 x (.ref sh) (.ref lw) (.ref ro) (.ref bq) (.ref bp) (.ref dq) (.ref dp) (.ref lv) (.ref sl) (nI (dn - 1)) (nI bs) ul 0), (oc10 sl mc9 (.ref ea) (nI T)), (oc7 sh (.ref fa) (nI (ft - 1))), (oq fa cF 200 FA)]) hP hD [true, true, true, true] rfl rfl
        have hE9 : (([(oc8 x (.ref sh) (.ref lw) (.ref ro) (.ref bq) (.ref bp) (.ref dq) (.ref dp) (.ref lv) (.ref sl) (nI (dn - 1)) (nI bs) ul 0), (oc10 sl mc9 (.ref ea) (nI T)), (oc7 sh (.ref fa) (nI (ft - 1))), (oq fa cF 200 FA)] ++ va_pl Lp2 fp2) : va_W) = ([(oc8 x (.ref sh) (.ref lw) (.ref ro) (.ref bq) (.ref bp) (.ref dq) (.ref dp) (.ref lv) (.ref sl) (nI (dn - 1)) (nI bs) ul 0), (oc10 sl mc9 (.ref ea) (nI T)), (oc7 sh (.ref fa) (nI (FT (dn - 1)))), (oq fa cF 200 FA)] ++ va_pl Lp2 fp2) := by rw [show ft - 1 = FT (dn - 1) by omega]
        rw [hE9] at hP9 hD9
        rw [hQ9]
        exact W.iret (v := nI ((dn - 1) + 1)) hx hb hr (fun t ht hW => ⟨⟨rfl, Lp2, fp2, FA, (hB6), by rw [ht]; exact hP9, hD9⟩, hS.F ht⟩) hS.2.2 dX10_undo_88
      · have c_9 : ((T : Nat) : Int) < ((dn : Nat) : Int) := zc_nle (nI_toInt b9_7) (nI_toInt b9_10) c_9
        exfalso; omega
set_option maxHeartbeats 4000000 in
set_option maxRecDepth 100000 in
theorem k_redo_y (l : Launch) (dC : Nat → ClassId) (dI : Nat → Nat → Nat) (cI cZ cF : ClassId) (sz : Nat) (cO : ClassId) (e0 : Nat) (mi : Nat) (x : Nat) (sh : Nat) (lw : Nat) (ro : Nat) (bq : Nat) (bp : Nat) (dq : Nat) (dp : Nat) (lv : Nat) (sl : Nat) (ul : Int32) (su : Int32) (ea : Nat) (mc9 : Int32) (fa : Nat) (FA : Nat → Option Nat) (bs : Nat) (dn : Nat) (T : Nat) (ft : Nat) (FT : Nat → Nat) (V : Nat → Nat → Nat → Int32) (VX : Nat → Nat → Int32) (VY : Nat → Nat → Int32) (tn : Nat → Int32) (rk : Nat → Int32) (wd : Nat → Int32) (tw : Nat → Int32) (pa : Nat → Int32) (pb : Nat → Int32) (wh : Nat → Int32) (of9 : Nat → Int32) (we : Nat → Int32) (kd : Nat → Int32) (st : Nat → Int32) (gb : Nat → Int32) (it : Nat → Int32) (mn : Nat → Int32) (cx : Nat → Int32) (cy : Nat → Int32) (L : List Nat) (f : Nat → va_E) (kd1 : Nat → Int32) (st1 : Nat → Int32) (gb1 : Nat → Int32) (it1 : Nat → Int32) (mn1 : Nat → Int32) (cx1 : Nat → Int32) (cy1 : Nat → Int32) (hB : shB cI cO L f e0 FA ea bs dn T ft FT V VX VY tn rk wd tw pa pb wh of9 we kd st gb it mn cx cy) (hlt : dn < T) (hd5 : dn + 1 ≤ 512) (hc : ∀ q, q < FT (dn + 1) → kd1 q = V (dn + 1) 0 q ∧ st1 q = V (dn + 1) 1 q ∧ gb1 q = V (dn + 1) 2 q ∧ it1 q = V (dn + 1) 3 q ∧ ((¬ (V (dn + 1) 1 q).toInt = 0 ∧ (tn q).toInt = 0) → nN (mn1 q) = nN (V (dn + 1) 4 q) ∧ ∀ k, k < nN (V (dn + 1) 4 q) → cF40 cx1 q k = cF40 (VX (dn + 1)) q k ∧ cF40 cy1 q k = cF40 (VY (dn + 1)) q k) ∧ ((V (dn + 1) 1 q).toInt = 0 → mn1 q = mn q ∧ ∀ k, k < 40 → cF40 cx1 q k = cF40 cx q k ∧ cF40 cy1 q k = cF40 cy q k)) : zML l yX10_redo cX10_redo 2 (some .int) ({ frames := 3, cells := 0, slots := 0, locals := 64 } : Room) [.ref x] (dC, dI) (zTyO cI cZ cF cO) e0 mi ([(oc8 x (.ref sh) (.ref lw) (.ref ro) (.ref bq) (.ref bp) (.ref dq) (.ref dp) (.ref lv) (.ref sl) (nI dn) (nI bs) ul su), (oc10 sl mc9 (.ref ea) (nI T)), (oc7 sh (.ref fa) (nI ft)), (oq fa cF 200 FA)] ++ va_pl L f) sz (some (.int (nI (dn + 1)))) (fun A t => ∃ (L1 : List Nat), ∃ (f1 : Nat → va_E), ∃ (FA1 : Nat → Option Nat), (shB cI cO L1 f1 e0 FA1 ea bs (dn + 1) T (FT (dn + 1)) FT V VX VY tn rk wd tw pa pb wh of9 we kd1 st1 gb1 it1 mn1 cx1 cy1) ∧ zPD (dC, dI) classes A ([(oc8 x (.ref sh) (.ref lw) (.ref ro) (.ref bq) (.ref bp) (.ref dq) (.ref dp) (.ref lv) (.ref sl) (nI (dn + 1)) (nI bs) ul 0), (oc10 sl mc9 (.ref ea) (nI T)), (oc7 sh (.ref fa) (nI (FT (dn + 1)))), (oq fa cF 200 FA1)] ++ va_pl L1 f1) t.heap) 0 0 := by
  refine zInL (own := "ScaleShop") (loc := [(0, .ref x)]) rfl rfl rfl rfl (fun p e s m below meth c hx hb hr hts hown hlocks hml hnm9 A hA hS hP hD hK hXL hXN hK3 Q9 hQ9 ls hl => ?_)
  obtain ⟨own, fe, cl, la, sp, SA, hG9, hH9, hft9, hO9⟩ := hB
  have hN9 := hG9.2.2.2.2.2.1
  have h200 : ft ≤ 200 := Nat.le_trans hN9.2.2.2.2.1 hN9.2.2.2.2.2
  have hFT2 := hN9.2.2.2.2.2
  have hFA9 := hG9.2.2.2.2.2.2
  have hdT := hN9.2.1
  have hT5 := hN9.2.2.1
  have hbd := hN9.1
  obtain ⟨hs1, mv5, ch5, hs2, hs3⟩ := hG9.2.2.2.1 (dn + 1) (by omega) (by omega)
  obtain ⟨⟨qs5, hch5, hqs5, hql5⟩, hmv5⟩ := hs3 (by omega)
  obtain ⟨cap5, hce5, hnc5, hc10, hc1k, hent⟩ : ∃ cap : Nat, ce L f own 8002 ea (.inl (cO, cap, .inr (.inr (.inr (.inr SA))))) ∧ T ≤ cap ∧ 10 ≤ cap ∧ cap ≤ 1000 ∧ ∀ i, i < T → ∃ (y : Nat) (vs : List Value), SA i = some y ∧ ce L f own 8001 y (.inr (11, vs)) := (hG9.2.2.2.2.1).resolve_left (fun g => by omega)
  rw [Nat.add_sub_cancel] at hmv5
  rcases hmv5 with ⟨hf5, hm5⟩ | ⟨hf5, hm5⟩
  · skip
    subst hm5
    have hc9_1 : inPl L f [(oq ea cO cap5 SA), (oc11 (sp (dn + 1)) (wh (dn + 1)) (of9 (dn + 1)) (we (dn + 1)) .null ch5)] := ⟨ce_pl hce5, ce_pl hs2, trivial⟩
    have hD0_1 := hD
    obtain ⟨T_1, hT_1, hP, hD⟩ := pl_oT hP hD hc9_1 (pw2 (ca_ne hs2.2.1 hce5.2.1).symm)
    obtain ⟨hP, hD⟩ := zre (W2 := ([_, _, _, _, _, _] ++ va_pl T_1 f)) hP hD rfl
    refine lv_aload_n hx hb dX10_redo_0 rfl (lv_at hl 0 rfl) ?_
    refine va_get (D := (dC, dI)) (ci := 8) (v := .int (nI dn)) (C := RX10) (T := TX10) (N := 13) hx hb hts inX10 hown hK hP 0 rfl rfl 9 (Nat.le_of_ble_eq_true rfl) (hts _ mw_318) (fun _ h9 => h9) rfl dX10_redo_1 ?_
    refine lv_aload_n hx hb dX10_redo_4 rfl (lv_at hl 0 rfl) ?_
    refine va_get (D := (dC, dI)) (ci := 8) (v := .ref sl) (C := RX10) (T := TX10) (N := 13) hx hb hts inX10 hown hK hP 0 rfl rfl 8 (Nat.le_of_ble_eq_true rfl) (hts _ mw_317) (fun _ h9 => h9) rfl dX10_redo_5 ?_
    obtain ⟨hPc, hDc, hFc, hI1⟩ := zi_sub (wc := [_]) hP hD hS hA [1] rfl rfl
    refine zcall (st1 := [.int (nI T), .int (nI dn)]) (va_runV (As := []) (rest := [.int (nI dn)]) ⟨hx, hb, hml, hown, hts⟩ (k_AL_size l dC dI cI cZ cF s.heap.size sl ea T mc9 ) (csV_90 hts rfl rfl ⟨Nat.le_of_ble_eq_true rfl, Nat.le_of_ble_eq_true rfl⟩) (zPV2 (q0 := 0) (ci := 10) hPc hDc hK3 hXN rfl rfl) rfl rfl hl.1 rfl (lv_room (Nat.le_of_ble_eq_true rfl)) dX10_redo_8 ⟨Nat.le_of_ble_eq_true rfl, Nat.le_of_ble_eq_true rfl⟩) hS hFc hFc rfl (fun t H locs ht hB hk1 hS => ?_)
    obtain ⟨hP1, hD1⟩ := hB
    rw [ht] at hP1
    replace hP := z0 hP hD hk1 hP1 hI1
    clear hk1 hPc hDc hFc hP1 hD1 ht hI1
    have b9_2 : zlt (dn) := show dn < 2147483648 by omega
    have b9_3 : zlt (T) := show T < 2147483648 by omega
    refine lv_icmp_lt (tgt := 21) hx hb dX10_redo_11 rfl (fun c_1 => ?_) (fun c_1 => ?_)
    · have c_1 : ((dn : Nat) : Int) < ((T : Nat) : Int) := zc_lt (nI_toInt b9_2) (nI_toInt b9_3) c_1
      refine lv_aload_n hx hb dX10_redo_21 rfl (lv_at hl 0 rfl) ?_
      refine va_get (D := (dC, dI)) (ci := 8) (v := .ref sl) (C := RX10) (T := TX10) (N := 13) hx hb hts inX10 hown hK hP 0 rfl rfl 8 (Nat.le_of_ble_eq_true rfl) (hts _ mw_317) (fun _ h9 => h9) rfl dX10_redo_22 ?_
      refine lv_aload_n hx hb dX10_redo_25 rfl (lv_at hl 0 rfl) ?_
      refine va_get (D := (dC, dI)) (ci := 8) (v := .int (nI dn)) (C := RX10) (T := TX10) (N := 13) hx hb hts inX10 hown hK hP 0 rfl rfl 9 (Nat.le_of_ble_eq_true rfl) (hts _ mw_318) (fun _ h9 => h9) rfl dX10_redo_26 ?_
      have hko : ∀ P : Nat → Prop, ¬ P 8001 → ¬ P 8002 → kpT P L f own T_1 f own := fun P h1 h2 => by rw [← hT_1]; exact kp_out (fun c hc => by simp only [List.mem_cons, List.not_mem_nil, or_false] at hc; rcases hc with rfl | rfl; (show ¬ P (own ea); rw [hce5.2.2]; exact h2); (show ¬ P (own (sp (dn + 1))); rw [hs2.2.2]; exact h1))
      obtain ⟨hPc, hDc, hFc, hI1⟩ := zi_sub (wc := [_, _]) hP hD hS hA [1, 4] rfl rfl
      refine zcall (st1 := [.ref (sp (dn + 1))]) (va_runV (As := [.int (nI dn)]) (rest := []) ⟨hx, hb, hml, hown, hts⟩ (k_AL_get l dC dI cI cZ cF H.size cO e0 mi sl ea T mc9 dn cap5 (sp (dn + 1)) SA (hs1) (by first | with_reducible assumption | omega) (by first | with_reducible assumption | omega) (by first | with_reducible assumption | omega) (by first | with_reducible assumption | omega)) (csV_112 hts rfl rfl ⟨Nat.le_of_ble_eq_true rfl, Nat.le_of_ble_eq_true rfl⟩) (zPVL (q0 := 0) (ci := 10) hPc hDc hK hXL hS hFc rfl rfl) rfl rfl hl.1 rfl (lv_room (Nat.le_of_ble_eq_true rfl)) dX10_redo_29 ⟨Nat.le_of_ble_eq_true rfl, Nat.le_of_ble_eq_true rfl⟩) hS hFc hFc rfl (fun t H locs ht hB hk1 hS => ?_)
      obtain ⟨hP1, hD1⟩ := hB
      rw [ht] at hP1
      replace hP := z0 hP hD hk1 hP1 hI1
      clear hk1 hPc hDc hFc hP1 hD1 ht hI1
      refine va_castE hx hb hown (hts _ mw_757) (z_cellR (i := 0) hK (hP 5 _ rfl) rfl) dX10_redo_32 ?_
      refine lv_astore_n (lv' := [(1, .ref (sp (dn + 1))), (0, .ref x)]) hx hb dX10_redo_35 rfl hl (Nat.le_of_ble_eq_true rfl) rfl (fun ls hl => ?_)
      refine lv_aload_n hx hb dX10_redo_36 rfl (lv_at hl 0 rfl) ?_
      obtain ⟨hPc, hDc, hFc⟩ := zo_part (cx := [_]) hP hD hS hA [5] rfl rfl
      refine zcall (st1 := []) (va_runV (As := []) (rest := []) ⟨hx, hb, hml, hown, hts⟩ (k_Step_repeat l dC dI cI cZ cF H.size (sp (dn + 1)) (wh (dn + 1)) (of9 (dn + 1)) (we (dn + 1)) (.null) ch5 own fe cl (la dn) (la dn) (la (dn + 1)) (FT T) qs5 rk wd tw pa pb T_1 f (FeA_kp (hko (fun g => g ≠ 8001 ∧ g ≠ 8002) (by simp) (by simp)) (fun q hq => ⟨⟨by omega, by omega⟩, ⟨by omega, by omega⟩⟩) hG9.1) (chn_kp (hko (fun g => g ≠ 8001 ∧ g ≠ 8002) (by simp) (by simp)) ⟨by omega, by omega⟩ hch5) (fun q hq => Nat.lt_of_lt_of_le (hqs5 q hq) (hN9.2.2.2.1 _ (by first | with_reducible assumption | omega) (by first | with_reducible assumption | omega)))) (csV_115 hts rfl rfl ⟨Nat.le_of_ble_eq_true rfl, Nat.le_of_ble_eq_true rfl⟩) (zPV2 (q0 := 0) (ci := 11) hPc hDc hK3 hXN rfl rfl) rfl rfl hl.1 rfl (lv_room (Nat.le_of_ble_eq_true rfl)) dX10_redo_37 ⟨Nat.le_of_ble_eq_true rfl, Nat.le_of_ble_eq_true rfl⟩) hS hFc hFc rfl (fun t H locs ht hB hk1 hS => ?_)
      obtain ⟨L7, f7, nw7, hF7, hn7, hk7, hE7, hP1, hD1⟩ := hB
      rw [ht] at hP1
      obtain ⟨hP, hD⟩ := znP (W2 := [_, _, _, _, _, _]) hP hD hk1 hFc hP1 hD1 [5] [true, true, true, true, true] [true, true, true, true, true, false] [5] (by decide +kernel) rfl rfl rfl rfl rfl
      clear hk1 hPc hDc hFc hP1 hD1 ht
      refine lv_aload_n hx hb dX10_redo_40 rfl (lv_at hl 0 rfl) ?_
      refine va_get (D := (dC, dI)) (ci := 11) (v := .null) (C := RX9) (T := TX9) (N := 5) hx hb hts inX9 hown hK hP 5 rfl rfl 3 (Nat.le_of_ble_eq_true rfl) (hts _ mw_770) (fun _ h9 => h9) rfl dX10_redo_41 ?_
      refine lv_ifnullN (tgt := 59) hx hb dX10_redo_44 rfl ?_
      refine lv_aload_n hx hb dX10_redo_59 rfl (lv_at hl 1 rfl) ?_
      refine lv_dup hx hb dX10_redo_60 rfl ?_
      refine va_get (D := (dC, dI)) (ci := 8) (v := .int (nI dn)) (C := RX10) (T := TX10) (N := 13) hx hb hts inX10 hown hK hP 0 rfl rfl 9 (Nat.le_of_ble_eq_true rfl) (hts _ mw_318) (fun _ h9 => h9) rfl dX10_redo_61 ?_
      refine lv_iconst (v := 1) hx hb dX10_redo_64 rfl ?_
      refine lv_iadd hx hb dX10_redo_65 ?_
      refine zz_i (v := nI (dn + 1)) (nI_add dn 1) ?_
      refine va_put (D := (dC, dI)) (ci := 8) (v := .int (nI (dn + 1))) (ty := .int) (C := RX10) (T := TX10) (N := 13) hx hb hts inX10 tyX10 tyX10_ok nmX10 hown hK hP hD hS 0 rfl rfl 9 (by decide) (hts _ mw_318) (fun _ h9 => h9) rfl (by decide +kernel) rfl rfl (Nat.le_of_ble_eq_true rfl) dX10_redo_66 (fun H locs hP hD hS => ?_)
      obtain ⟨hP, hD⟩ := zre (W2 := ([(oc8 x (.ref sh) (.ref lw) (.ref ro) (.ref bq) (.ref bp) (.ref dq) (.ref dp) (.ref lv) (.ref sl) (nI (dn + 1)) (nI bs) ul su), _, _, _, _, _] ++ va_pl L7 f7)) hP hD rfl
      refine lv_aload_n hx hb dX10_redo_69 rfl (lv_at hl 1 rfl) ?_
      refine lv_iconst (v := 0) hx hb dX10_redo_70 rfl ?_
      refine va_put (D := (dC, dI)) (ci := 8) (v := .int 0) (ty := .int) (C := RX10) (T := TX10) (N := 13) hx hb hts inX10 tyX10 tyX10_ok nmX10 hown hK hP hD hS 0 rfl rfl 12 (by decide) (hts _ mw_321) (fun _ h9 => h9) rfl (by decide +kernel) rfl rfl (Nat.le_of_ble_eq_true rfl) dX10_redo_71 (fun H locs hP hD hS => ?_)
      obtain ⟨hP, hD⟩ := zre (W2 := ([(oc8 x (.ref sh) (.ref lw) (.ref ro) (.ref bq) (.ref bp) (.ref dq) (.ref dp) (.ref lv) (.ref sl) (nI (dn + 1)) (nI bs) ul 0), _, _, _, _, _] ++ va_pl L7 f7)) hP hD rfl
      refine lv_aload_n hx hb dX10_redo_74 rfl (lv_at hl 1 rfl) ?_
      refine va_get (D := (dC, dI)) (ci := 8) (v := .int (nI (dn + 1))) (C := RX10) (T := TX10) (N := 13) hx hb hts inX10 hown hK hP 0 rfl rfl 9 (Nat.le_of_ble_eq_true rfl) (hts _ mw_318) (fun _ h9 => h9) rfl dX10_redo_75 ?_
      obtain ⟨Lp2, fp2, hP, hD, hpin_2⟩ := pl_pn (X := [_, _, _, _]) (old := []) (new := [_, _]) (cs1 := [_, _]) (L := L7) (cs := []) outPl_nil hP hD rfl rfl rfl
      obtain ⟨hfr_2, hkp_2, hce_2, hsx_2, hpw_2⟩ := id hpin_2
      have hk79 : kpT (fun g => ¬ g % 8 = 0) L f own Lp2 fp2 own := kp_re (cs := [(ea, .inl (cO, cap5, .inr (.inr (.inr (.inr SA))))), (sp (dn + 1), .inr (11, [.int (wh (dn + 1)), .int (of9 (dn + 1)), .int (we (dn + 1)), .null, ch5]))]) (by rw [hT_1]; exact hk7) (hkp_2 own own _ (fun _ _ => rfl) trivial) (fun c hc g e h => by simp only [List.mem_cons, List.not_mem_nil, or_false] at hc; rcases hc with rfl | rfl; (obtain ⟨e1, e2⟩ := ce_eq h hce5; rw [e1, e2]; exact hce_2 own 0 _ _ _ rfl hce5.2.2); (obtain ⟨e1, e2⟩ := ce_eq h hs2; rw [e1, e2]; exact hce_2 own 1 _ _ _ rfl hs2.2.2))
      have hF79 : FeA cI Lp2 fp2 own (FT T) fe (la (dn + 1)) cl (fun _ => .null) rk wd tw pa pb := FeA_cg (FeA_kp (hkp_2 own own (fun _ => True) (fun _ _ => rfl) trivial) (fun _ _ => ⟨trivial, trivial⟩) hF7) (fun q hq => by by_cases m : q ∈ qs5; exact ((hn7 q).1 m).symm; rw [(hn7 q).2 m]; exact (hql5 q hq m).symm)
      have hK79 : loK cI L f own Lp2 fp2 own (FT T) fe := loK_tr (loK_kp (hko (fun g => g ≠ 8001 ∧ g ≠ 8002) (by simp) (by simp)) (fun q hq => ⟨⟨by omega, by omega⟩, ⟨by omega, by omega⟩⟩)) (loK_tr hE7 (loK_kp (hkp_2 own own (fun _ => True) (fun _ _ => rfl) trivial) (fun _ _ => ⟨trivial, trivial⟩)))
      have hB6 := U_pos (FA1 := FA) (ft1 := FT (dn + 1)) hF79 hk79 hG9 hH9 hft9 (by omega) (by omega) rfl (fun q hq => hFA9 q (by omega)) hc hO9 hK79
      obtain ⟨hP9, hD9⟩ := zu_part (cx := [(oc8 x (.ref sh) (.ref lw) (.ref ro) (.ref bq) (.ref bp) (.ref dq) (.ref dp) (.ref lv) (.ref sl) (nI (dn + 1)) (nI bs) ul 0), (oc10 sl mc9 (.ref ea) (nI T)), (oc7 sh (.ref fa) (nI ft)), (oq fa cF 200 FA)]) hP hD [true, true, true, true] rfl rfl
      have hE9 : (([(oc8 x (.ref sh) (.ref lw) (.ref ro) (.ref bq) (.ref bp) (.ref dq) (.ref dp) (.ref lv) (.ref sl) (nI (dn + 1)) (nI bs) ul 0), (oc10 sl mc9 (.ref ea) (nI T)), (oc7 sh (.ref fa) (nI ft)), (oq fa cF 200 FA)] ++ va_pl Lp2 fp2) : va_W) = ([(oc8 x (.ref sh) (.ref lw) (.ref ro) (.ref bq) (.ref bp) (.ref dq) (.ref dp) (.ref lv) (.ref sl) (nI (dn + 1)) (nI bs) ul 0), (oc10 sl mc9 (.ref ea) (nI T)), (oc7 sh (.ref fa) (nI (FT (dn + 1)))), (oq fa cF 200 FA)] ++ va_pl Lp2 fp2) := by rw [show ft = FT (dn + 1) by omega]
      rw [hE9] at hP9 hD9
      rw [hQ9]
      exact W.iret (v := nI (dn + 1)) hx hb hr (fun t ht hW => ⟨⟨rfl, Lp2, fp2, FA, (hB6), by rw [ht]; exact hP9, hD9⟩, hS.F ht⟩) hS.2.2 dX10_redo_78
    · have c_1 : ((T : Nat) : Int) ≤ ((dn : Nat) : Int) := zc_nlt (nI_toInt b9_2) (nI_toInt b9_3) c_1
      exfalso; omega
  · skip
    subst hm5
    have hc9_1 : inPl L f [(oq ea cO cap5 SA), (oc11 (sp (dn + 1)) (wh (dn + 1)) (of9 (dn + 1)) (we (dn + 1)) (.ref (fe (FT dn))) ch5)] := ⟨ce_pl hce5, ce_pl hs2, trivial⟩
    have hD0_1 := hD
    obtain ⟨T_1, hT_1, hP, hD⟩ := pl_oT hP hD hc9_1 (pw2 (ca_ne hs2.2.1 hce5.2.1).symm)
    obtain ⟨hP, hD⟩ := zre (W2 := ([_, _, _, _, _, _] ++ va_pl T_1 f)) hP hD rfl
    refine lv_aload_n hx hb dX10_redo_0 rfl (lv_at hl 0 rfl) ?_
    refine va_get (D := (dC, dI)) (ci := 8) (v := .int (nI dn)) (C := RX10) (T := TX10) (N := 13) hx hb hts inX10 hown hK hP 0 rfl rfl 9 (Nat.le_of_ble_eq_true rfl) (hts _ mw_318) (fun _ h9 => h9) rfl dX10_redo_1 ?_
    refine lv_aload_n hx hb dX10_redo_4 rfl (lv_at hl 0 rfl) ?_
    refine va_get (D := (dC, dI)) (ci := 8) (v := .ref sl) (C := RX10) (T := TX10) (N := 13) hx hb hts inX10 hown hK hP 0 rfl rfl 8 (Nat.le_of_ble_eq_true rfl) (hts _ mw_317) (fun _ h9 => h9) rfl dX10_redo_5 ?_
    obtain ⟨hPc, hDc, hFc, hI1⟩ := zi_sub (wc := [_]) hP hD hS hA [1] rfl rfl
    refine zcall (st1 := [.int (nI T), .int (nI dn)]) (va_runV (As := []) (rest := [.int (nI dn)]) ⟨hx, hb, hml, hown, hts⟩ (k_AL_size l dC dI cI cZ cF s.heap.size sl ea T mc9 ) (csV_90 hts rfl rfl ⟨Nat.le_of_ble_eq_true rfl, Nat.le_of_ble_eq_true rfl⟩) (zPV2 (q0 := 0) (ci := 10) hPc hDc hK3 hXN rfl rfl) rfl rfl hl.1 rfl (lv_room (Nat.le_of_ble_eq_true rfl)) dX10_redo_8 ⟨Nat.le_of_ble_eq_true rfl, Nat.le_of_ble_eq_true rfl⟩) hS hFc hFc rfl (fun t H locs ht hB hk1 hS => ?_)
    obtain ⟨hP1, hD1⟩ := hB
    rw [ht] at hP1
    replace hP := z0 hP hD hk1 hP1 hI1
    clear hk1 hPc hDc hFc hP1 hD1 ht hI1
    have b9_5 : zlt (dn) := show dn < 2147483648 by omega
    have b9_6 : zlt (T) := show T < 2147483648 by omega
    refine lv_icmp_lt (tgt := 21) hx hb dX10_redo_11 rfl (fun c_4 => ?_) (fun c_4 => ?_)
    · have c_4 : ((dn : Nat) : Int) < ((T : Nat) : Int) := zc_lt (nI_toInt b9_5) (nI_toInt b9_6) c_4
      refine lv_aload_n hx hb dX10_redo_21 rfl (lv_at hl 0 rfl) ?_
      refine va_get (D := (dC, dI)) (ci := 8) (v := .ref sl) (C := RX10) (T := TX10) (N := 13) hx hb hts inX10 hown hK hP 0 rfl rfl 8 (Nat.le_of_ble_eq_true rfl) (hts _ mw_317) (fun _ h9 => h9) rfl dX10_redo_22 ?_
      refine lv_aload_n hx hb dX10_redo_25 rfl (lv_at hl 0 rfl) ?_
      refine va_get (D := (dC, dI)) (ci := 8) (v := .int (nI dn)) (C := RX10) (T := TX10) (N := 13) hx hb hts inX10 hown hK hP 0 rfl rfl 9 (Nat.le_of_ble_eq_true rfl) (hts _ mw_318) (fun _ h9 => h9) rfl dX10_redo_26 ?_
      have hko : ∀ P : Nat → Prop, ¬ P 8001 → ¬ P 8002 → kpT P L f own T_1 f own := fun P h1 h2 => by rw [← hT_1]; exact kp_out (fun c hc => by simp only [List.mem_cons, List.not_mem_nil, or_false] at hc; rcases hc with rfl | rfl; (show ¬ P (own ea); rw [hce5.2.2]; exact h2); (show ¬ P (own (sp (dn + 1))); rw [hs2.2.2]; exact h1))
      obtain ⟨hPc, hDc, hFc, hI1⟩ := zi_sub (wc := [_, _]) hP hD hS hA [1, 4] rfl rfl
      refine zcall (st1 := [.ref (sp (dn + 1))]) (va_runV (As := [.int (nI dn)]) (rest := []) ⟨hx, hb, hml, hown, hts⟩ (k_AL_get l dC dI cI cZ cF H.size cO e0 mi sl ea T mc9 dn cap5 (sp (dn + 1)) SA (hs1) (by first | with_reducible assumption | omega) (by first | with_reducible assumption | omega) (by first | with_reducible assumption | omega) (by first | with_reducible assumption | omega)) (csV_112 hts rfl rfl ⟨Nat.le_of_ble_eq_true rfl, Nat.le_of_ble_eq_true rfl⟩) (zPVL (q0 := 0) (ci := 10) hPc hDc hK hXL hS hFc rfl rfl) rfl rfl hl.1 rfl (lv_room (Nat.le_of_ble_eq_true rfl)) dX10_redo_29 ⟨Nat.le_of_ble_eq_true rfl, Nat.le_of_ble_eq_true rfl⟩) hS hFc hFc rfl (fun t H locs ht hB hk1 hS => ?_)
      obtain ⟨hP1, hD1⟩ := hB
      rw [ht] at hP1
      replace hP := z0 hP hD hk1 hP1 hI1
      clear hk1 hPc hDc hFc hP1 hD1 ht hI1
      refine va_castE hx hb hown (hts _ mw_757) (z_cellR (i := 0) hK (hP 5 _ rfl) rfl) dX10_redo_32 ?_
      refine lv_astore_n (lv' := [(1, .ref (sp (dn + 1))), (0, .ref x)]) hx hb dX10_redo_35 rfl hl (Nat.le_of_ble_eq_true rfl) rfl (fun ls hl => ?_)
      refine lv_aload_n hx hb dX10_redo_36 rfl (lv_at hl 0 rfl) ?_
      obtain ⟨hPc, hDc, hFc⟩ := zo_part (cx := [_]) hP hD hS hA [5] rfl rfl
      refine zcall (st1 := []) (va_runV (As := []) (rest := []) ⟨hx, hb, hml, hown, hts⟩ (k_Step_repeat l dC dI cI cZ cF H.size (sp (dn + 1)) (wh (dn + 1)) (of9 (dn + 1)) (we (dn + 1)) (.ref (fe (FT dn))) ch5 own fe cl (la dn) (la dn) (la (dn + 1)) (FT T) qs5 rk wd tw pa pb T_1 f (FeA_kp (hko (fun g => g ≠ 8001 ∧ g ≠ 8002) (by simp) (by simp)) (fun q hq => ⟨⟨by omega, by omega⟩, ⟨by omega, by omega⟩⟩) hG9.1) (chn_kp (hko (fun g => g ≠ 8001 ∧ g ≠ 8002) (by simp) (by simp)) ⟨by omega, by omega⟩ hch5) (fun q hq => Nat.lt_of_lt_of_le (hqs5 q hq) (hN9.2.2.2.1 _ (by first | with_reducible assumption | omega) (by first | with_reducible assumption | omega)))) (csV_115 hts rfl rfl ⟨Nat.le_of_ble_eq_true rfl, Nat.le_of_ble_eq_true rfl⟩) (zPV2 (q0 := 0) (ci := 11) hPc hDc hK3 hXN rfl rfl) rfl rfl hl.1 rfl (lv_room (Nat.le_of_ble_eq_true rfl)) dX10_redo_37 ⟨Nat.le_of_ble_eq_true rfl, Nat.le_of_ble_eq_true rfl⟩) hS hFc hFc rfl (fun t H locs ht hB hk1 hS => ?_)
      obtain ⟨L7, f7, nw7, hF7, hn7, hk7, hE7, hP1, hD1⟩ := hB
      rw [ht] at hP1
      obtain ⟨hP, hD⟩ := znP (W2 := [_, _, _, _, _, _]) hP hD hk1 hFc hP1 hD1 [5] [true, true, true, true, true] [true, true, true, true, true, false] [5] (by decide +kernel) rfl rfl rfl rfl rfl
      clear hk1 hPc hDc hFc hP1 hD1 ht
      refine lv_aload_n hx hb dX10_redo_40 rfl (lv_at hl 0 rfl) ?_
      refine va_get (D := (dC, dI)) (ci := 11) (v := .ref (fe (FT dn))) (C := RX9) (T := TX9) (N := 5) hx hb hts inX9 hown hK hP 5 rfl rfl 3 (Nat.le_of_ble_eq_true rfl) (hts _ mw_770) (fun _ h9 => h9) rfl dX10_redo_41 ?_
      refine lv_ifnull hx hb dX10_redo_44 ?_
      have hlt8 : FT dn < FT T := by have := hN9.2.2.2.1 (dn + 1) (by omega) (by omega); omega
      obtain ⟨lo8, hcf8⟩ := FeA_c hF7 hlt8
      have hc9_2 : inPl L7 f7 [(oc1 (fe (FT dn)) (rk (FT dn)) (wd (FT dn)) (tw (FT dn)) (pa (FT dn)) (pb (FT dn)) (.ref lo8) (.ref (nw7 (FT dn))) .null)] := ⟨ce_pl hcf8, trivial⟩
      have hD0_2 := hD
      obtain ⟨T_2, hT_2, hP, hD⟩ := pl_oT hP hD hc9_2 (List.pairwise_singleton _ _)
      obtain ⟨hP, hD⟩ := zre (W2 := ([_, _, _, _, _, _, _] ++ va_pl T_2 f7)) hP hD rfl
      refine lv_aload_n hx hb dX10_redo_47 rfl (lv_at hl 1 rfl) ?_
      refine va_get (D := (dC, dI)) (ci := 8) (v := .ref sh) (C := RX10) (T := TX10) (N := 13) hx hb hts inX10 hown hK hP 0 rfl rfl 0 (Nat.le_of_ble_eq_true rfl) (hts _ mw_309) (fun _ h9 => h9) rfl dX10_redo_48 ?_
      refine lv_aload_n hx hb dX10_redo_51 rfl (lv_at hl 0 rfl) ?_
      refine va_get (D := (dC, dI)) (ci := 11) (v := .ref (fe (FT dn))) (C := RX9) (T := TX9) (N := 5) hx hb hts inX9 hown hK hP 5 rfl rfl 3 (Nat.le_of_ble_eq_true rfl) (hts _ mw_770) (fun _ h9 => h9) rfl dX10_redo_52 ?_
      obtain ⟨hPc, hDc, hFc⟩ := zo_sub (wc := [_, _, _]) hP hD hS hA [2, 3, 6] rfl rfl
      refine zcall (st1 := [.int (nI ft)]) (va_runV (As := [.ref (fe (FT dn))]) (rest := []) ⟨hx, hb, hml, hown, hts⟩ (k_Sheet_add l dC dI cI cZ cF H.size sh fa ft FA (fe (FT dn)) lo8 (rk (FT dn)) (wd (FT dn)) (tw (FT dn)) (pa (FT dn)) (pb (FT dn)) (nw7 (FT dn)) (by first | with_reducible assumption | omega)) (csV_106 hts rfl rfl ⟨Nat.le_of_ble_eq_true rfl, Nat.le_of_ble_eq_true rfl⟩) (zPV2 (q0 := 0) (ci := 7) hPc hDc hK3 hXN rfl rfl) rfl rfl hl.1 rfl (lv_room (Nat.le_of_ble_eq_true rfl)) dX10_redo_55 ⟨Nat.le_of_ble_eq_true rfl, Nat.le_of_ble_eq_true rfl⟩) hS hFc hFc rfl (fun t H locs ht hB hk1 hS => ?_)
      obtain ⟨hP1, hD1⟩ := hB
      rw [ht] at hP1
      obtain ⟨hP, hD⟩ := znQ (W2 := [_, _, (oc7 sh (.ref fa) (nI (ft + 1))), (oq fa cF 200 (va_up FA ft (some (fe (FT dn))))), _, _, _]) hP hD hk1 hFc hP1 hD1 [2, 3, 6] [true, true, false, false, true, true] [true, true, false, false, true, true, false] [2, 3, 6] (by decide +kernel) rfl rfl rfl rfl rfl
      clear hk1 hPc hDc hFc hP1 hD1 ht
      obtain ⟨hP, hD⟩ := pl_bk (X := [_, _, _, _, _, _]) hT_2 hP rfl hc9_2 hD0_2 rfl
      refine lv_pop hx hb dX10_redo_58 rfl ?_
      refine lv_aload_n hx hb dX10_redo_59 rfl (lv_at hl 1 rfl) ?_
      refine lv_dup hx hb dX10_redo_60 rfl ?_
      refine va_get (D := (dC, dI)) (ci := 8) (v := .int (nI dn)) (C := RX10) (T := TX10) (N := 13) hx hb hts inX10 hown hK hP 0 rfl rfl 9 (Nat.le_of_ble_eq_true rfl) (hts _ mw_318) (fun _ h9 => h9) rfl dX10_redo_61 ?_
      refine lv_iconst (v := 1) hx hb dX10_redo_64 rfl ?_
      refine lv_iadd hx hb dX10_redo_65 ?_
      refine zz_i (v := nI (dn + 1)) (nI_add dn 1) ?_
      refine va_put (D := (dC, dI)) (ci := 8) (v := .int (nI (dn + 1))) (ty := .int) (C := RX10) (T := TX10) (N := 13) hx hb hts inX10 tyX10 tyX10_ok nmX10 hown hK hP hD hS 0 rfl rfl 9 (by decide) (hts _ mw_318) (fun _ h9 => h9) rfl (by decide +kernel) rfl rfl (Nat.le_of_ble_eq_true rfl) dX10_redo_66 (fun H locs hP hD hS => ?_)
      obtain ⟨hP, hD⟩ := zre (W2 := ([(oc8 x (.ref sh) (.ref lw) (.ref ro) (.ref bq) (.ref bp) (.ref dq) (.ref dp) (.ref lv) (.ref sl) (nI (dn + 1)) (nI bs) ul su), _, _, _, _, _] ++ va_pl L7 f7)) hP hD rfl
      refine lv_aload_n hx hb dX10_redo_69 rfl (lv_at hl 1 rfl) ?_
      refine lv_iconst (v := 0) hx hb dX10_redo_70 rfl ?_
      refine va_put (D := (dC, dI)) (ci := 8) (v := .int 0) (ty := .int) (C := RX10) (T := TX10) (N := 13) hx hb hts inX10 tyX10 tyX10_ok nmX10 hown hK hP hD hS 0 rfl rfl 12 (by decide) (hts _ mw_321) (fun _ h9 => h9) rfl (by decide +kernel) rfl rfl (Nat.le_of_ble_eq_true rfl) dX10_redo_71 (fun H locs hP hD hS => ?_)
      obtain ⟨hP, hD⟩ := zre (W2 := ([(oc8 x (.ref sh) (.ref lw) (.ref ro) (.ref bq) (.ref bp) (.ref dq) (.ref dp) (.ref lv) (.ref sl) (nI (dn + 1)) (nI bs) ul 0), _, _, _, _, _] ++ va_pl L7 f7)) hP hD rfl
      refine lv_aload_n hx hb dX10_redo_74 rfl (lv_at hl 1 rfl) ?_
      refine va_get (D := (dC, dI)) (ci := 8) (v := .int (nI (dn + 1))) (C := RX10) (T := TX10) (N := 13) hx hb hts inX10 hown hK hP 0 rfl rfl 9 (Nat.le_of_ble_eq_true rfl) (hts _ mw_318) (fun _ h9 => h9) rfl dX10_redo_75 ?_
      obtain ⟨Lp3, fp3, hP, hD, hpin_3⟩ := pl_pn (X := [_, _, _, _]) (old := []) (new := [_, _]) (cs1 := [_, _]) (L := L7) (cs := []) outPl_nil hP hD rfl rfl rfl
      obtain ⟨hfr_3, hkp_3, hce_3, hsx_3, hpw_3⟩ := id hpin_3
      have hk79 : kpT (fun g => ¬ g % 8 = 0) L f own Lp3 fp3 own := kp_re (cs := [(ea, .inl (cO, cap5, .inr (.inr (.inr (.inr SA))))), (sp (dn + 1), .inr (11, [.int (wh (dn + 1)), .int (of9 (dn + 1)), .int (we (dn + 1)), .ref (fe (FT dn)), ch5]))]) (by rw [hT_1]; exact hk7) (hkp_3 own own _ (fun _ _ => rfl) trivial) (fun c hc g e h => by simp only [List.mem_cons, List.not_mem_nil, or_false] at hc; rcases hc with rfl | rfl; (obtain ⟨e1, e2⟩ := ce_eq h hce5; rw [e1, e2]; exact hce_3 own 0 _ _ _ rfl hce5.2.2); (obtain ⟨e1, e2⟩ := ce_eq h hs2; rw [e1, e2]; exact hce_3 own 1 _ _ _ rfl hs2.2.2))
      have hF79 : FeA cI Lp3 fp3 own (FT T) fe (la (dn + 1)) cl (fun _ => .null) rk wd tw pa pb := FeA_cg (FeA_kp (hkp_3 own own (fun _ => True) (fun _ _ => rfl) trivial) (fun _ _ => ⟨trivial, trivial⟩) hF7) (fun q hq => by by_cases m : q ∈ qs5; exact ((hn7 q).1 m).symm; rw [(hn7 q).2 m]; exact (hql5 q hq m).symm)
      have hK79 : loK cI L f own Lp3 fp3 own (FT T) fe := loK_tr (loK_kp (hko (fun g => g ≠ 8001 ∧ g ≠ 8002) (by simp) (by simp)) (fun q hq => ⟨⟨by omega, by omega⟩, ⟨by omega, by omega⟩⟩)) (loK_tr hE7 (loK_kp (hkp_3 own own (fun _ => True) (fun _ _ => rfl) trivial) (fun _ _ => ⟨trivial, trivial⟩)))
      have hB6 := U_pos (FA1 := (va_up FA ft (some (fe (FT dn))))) (ft1 := FT (dn + 1)) hF79 hk79 hG9 hH9 hft9 (by omega) (by omega) rfl (fun q hq => by unfold va_up; by_cases e : q = ft; (rw [if_pos e, e, hft9]); (rw [if_neg e]; exact hFA9 q (by omega))) hc hO9 hK79
      obtain ⟨hP9, hD9⟩ := zu_part (cx := [(oc8 x (.ref sh) (.ref lw) (.ref ro) (.ref bq) (.ref bp) (.ref dq) (.ref dp) (.ref lv) (.ref sl) (nI (dn + 1)) (nI bs) ul 0), (oc10 sl mc9 (.ref ea) (nI T)), (oc7 sh (.ref fa) (nI (ft + 1))), (oq fa cF 200 (va_up FA ft (some (fe (FT dn)))))]) hP hD [true, true, true, true] rfl rfl
      have hE9 : (([(oc8 x (.ref sh) (.ref lw) (.ref ro) (.ref bq) (.ref bp) (.ref dq) (.ref dp) (.ref lv) (.ref sl) (nI (dn + 1)) (nI bs) ul 0), (oc10 sl mc9 (.ref ea) (nI T)), (oc7 sh (.ref fa) (nI (ft + 1))), (oq fa cF 200 (va_up FA ft (some (fe (FT dn)))))] ++ va_pl Lp3 fp3) : va_W) = ([(oc8 x (.ref sh) (.ref lw) (.ref ro) (.ref bq) (.ref bp) (.ref dq) (.ref dp) (.ref lv) (.ref sl) (nI (dn + 1)) (nI bs) ul 0), (oc10 sl mc9 (.ref ea) (nI T)), (oc7 sh (.ref fa) (nI (FT (dn + 1)))), (oq fa cF 200 (va_up FA ft (some (fe (FT dn)))))] ++ va_pl Lp3 fp3) := by rw [show ft + 1 = FT (dn + 1) by omega]
      rw [hE9] at hP9 hD9
      rw [hQ9]
      exact W.iret (v := nI (dn + 1)) hx hb hr (fun t ht hW => ⟨⟨rfl, Lp3, fp3, (va_up FA ft (some (fe (FT dn)))), (hB6), by rw [ht]; exact hP9, hD9⟩, hS.F ht⟩) hS.2.2 dX10_redo_78
    · have c_4 : ((T : Nat) : Int) ≤ ((dn : Nat) : Int) := zc_nlt (nI_toInt b9_5) (nI_toInt b9_6) c_4
      exfalso; omega
set_option maxHeartbeats 4000000 in
set_option maxRecDepth 100000 in
theorem k_undo_r (l : Launch) (dC : Nat → ClassId) (dI : Nat → Nat → Nat) (cI cZ cF : ClassId) (sz : Nat) (x : Nat) (sh : Nat) (lw : Nat) (ro : Nat) (bq : Nat) (bp : Nat) (dq : Nat) (dp : Nat) (lv : Nat) (sl : Nat) (ul : Int32) (su : Int32) (bs : Nat) (dn : Nat) (heq : dn = bs) (hd5 : dn ≤ 512) : zM l yX10_undo cX10_undo 2 (some .int) ({ frames := 1, cells := 0, slots := 0, locals := 21 } : Room) [.ref x] (dC, dI) (zTy cI cZ cF) [(oc8 x (.ref sh) (.ref lw) (.ref ro) (.ref bq) (.ref bp) (.ref dq) (.ref dp) (.ref lv) (.ref sl) (nI dn) (nI bs) ul su)] sz (some (.int (-1))) (fun A t => zPD (dC, dI) classes A [(oc8 x (.ref sh) (.ref lw) (.ref ro) (.ref bq) (.ref bp) (.ref dq) (.ref dp) (.ref lv) (.ref sl) (nI dn) (nI bs) ul 8)] t.heap) 0 0 := by
  refine zIn (own := "ScaleShop") (loc := [(0, .ref x)]) rfl rfl rfl rfl (fun p e s m below meth c hx hb hr hts hown hlocks hml hnm9 A hA hS hP hD hK hXN Q9 hQ9 ls hl => ?_)
  refine lv_aload_n hx hb dX10_undo_0 rfl (lv_at hl 0 rfl) ?_
  refine va_get (D := (dC, dI)) (ci := 8) (v := .int (nI dn)) (C := RX10) (T := TX10) (N := 13) hx hb hts inX10 hown hK hP 0 rfl rfl 9 (Nat.le_of_ble_eq_true rfl) (hts _ mw_318) (fun _ h9 => h9) rfl dX10_undo_1 ?_
  refine lv_aload_n hx hb dX10_undo_4 rfl (lv_at hl 0 rfl) ?_
  refine va_get (D := (dC, dI)) (ci := 8) (v := .int (nI bs)) (C := RX10) (T := TX10) (N := 13) hx hb hts inX10 hown hK hP 0 rfl rfl 10 (Nat.le_of_ble_eq_true rfl) (hts _ mw_319) (fun _ h9 => h9) rfl dX10_undo_5 ?_
  have b9_2 : zlt (dn) := show dn < 2147483648 by omega
  have b9_3 : zlt (bs) := show bs < 2147483648 by omega
  refine lv_icmp_le (tgt := 25) hx hb dX10_undo_8 rfl (fun c_1 => ?_) (fun c_1 => ?_)
  · have c_1 : ((dn : Nat) : Int) ≤ ((bs : Nat) : Int) := zc_le (nI_toInt b9_2) (nI_toInt b9_3) c_1
    refine lv_aload_n hx hb dX10_undo_25 rfl (lv_at hl 0 rfl) ?_
    refine lv_bipush (v := 8) hx hb dX10_undo_26 rfl ?_
    obtain ⟨hPc, hDc, hFc⟩ := zo_sub (wc := [_]) hP hD hS hA [0] rfl rfl
    refine zcall (st1 := [.int (-1)]) (va_runV (As := [.int 8]) (rest := []) ⟨hx, hb, hml, hown, hts⟩ (k_refuse_8 l dC dI cI cZ cF s.heap.size x sh lw ro bq bp dq dp lv sl (nI bs) ul su (nI dn) ) (csV_95 hts rfl rfl ⟨Nat.le_of_ble_eq_true rfl, Nat.le_of_ble_eq_true rfl⟩) (zPV2 (q0 := 0) (ci := 8) hPc hDc hK hXN rfl rfl) rfl rfl hl.1 rfl (lv_room (Nat.le_of_ble_eq_true rfl)) dX10_undo_28 ⟨Nat.le_of_ble_eq_true rfl, Nat.le_of_ble_eq_true rfl⟩) hS hFc hFc rfl (fun t H locs ht hB hk1 hS => ?_)
    obtain ⟨hP1, hD1⟩ := hB
    rw [ht] at hP1
    obtain ⟨hP, hD⟩ := zn (W2 := [(oc8 x (.ref sh) (.ref lw) (.ref ro) (.ref bq) (.ref bp) (.ref dq) (.ref dp) (.ref lv) (.ref sl) (nI dn) (nI bs) ul 8)]) hP hD hk1 hFc hP1 hD1 [0] [] [false] [0] (by decide +kernel) rfl rfl rfl rfl rfl
    clear hk1 hPc hDc hFc hP1 hD1 ht
    obtain ⟨hP9, hD9⟩ := zu_sub (wc := [_]) hP hD [true] rfl rfl
    rw [hQ9]
    exact W.iret (v := (-1)) hx hb hr (fun t ht hW => ⟨⟨rfl, by rw [ht]; exact hP9, hD9⟩, hS.F ht⟩) hS.2.2 dX10_undo_31
  · have c_1 : ((bs : Nat) : Int) < ((dn : Nat) : Int) := zc_nle (nI_toInt b9_2) (nI_toInt b9_3) c_1
    exfalso; omega
set_option maxHeartbeats 4000000 in
set_option maxRecDepth 100000 in
theorem k_redo_r (l : Launch) (dC : Nat → ClassId) (dI : Nat → Nat → Nat) (cI cZ cF : ClassId) (sz : Nat) (x : Nat) (sh : Nat) (lw : Nat) (ro : Nat) (bq : Nat) (bp : Nat) (dq : Nat) (dp : Nat) (lv : Nat) (sl : Nat) (sd : Int32) (ul : Int32) (su : Int32) (ea : Nat) (dn : Nat) (T : Nat) (mc9 : Int32) (heq : dn = T) (hd5 : dn ≤ 512) : zM l yX10_redo cX10_redo 2 (some .int) ({ frames := 1, cells := 0, slots := 0, locals := 21 } : Room) [.ref x] (dC, dI) (zTy cI cZ cF) [(oc8 x (.ref sh) (.ref lw) (.ref ro) (.ref bq) (.ref bp) (.ref dq) (.ref dp) (.ref lv) (.ref sl) (nI dn) sd ul su), (oc10 sl mc9 (.ref ea) (nI T))] sz (some (.int (-1))) (fun A t => zPD (dC, dI) classes A [(oc8 x (.ref sh) (.ref lw) (.ref ro) (.ref bq) (.ref bp) (.ref dq) (.ref dp) (.ref lv) (.ref sl) (nI dn) sd ul 8), (oc10 sl mc9 (.ref ea) (nI T))] t.heap) 0 0 := by
  refine zIn (own := "ScaleShop") (loc := [(0, .ref x)]) rfl rfl rfl rfl (fun p e s m below meth c hx hb hr hts hown hlocks hml hnm9 A hA hS hP hD hK hXN Q9 hQ9 ls hl => ?_)
  refine lv_aload_n hx hb dX10_redo_0 rfl (lv_at hl 0 rfl) ?_
  refine va_get (D := (dC, dI)) (ci := 8) (v := .int (nI dn)) (C := RX10) (T := TX10) (N := 13) hx hb hts inX10 hown hK hP 0 rfl rfl 9 (Nat.le_of_ble_eq_true rfl) (hts _ mw_318) (fun _ h9 => h9) rfl dX10_redo_1 ?_
  refine lv_aload_n hx hb dX10_redo_4 rfl (lv_at hl 0 rfl) ?_
  refine va_get (D := (dC, dI)) (ci := 8) (v := .ref sl) (C := RX10) (T := TX10) (N := 13) hx hb hts inX10 hown hK hP 0 rfl rfl 8 (Nat.le_of_ble_eq_true rfl) (hts _ mw_317) (fun _ h9 => h9) rfl dX10_redo_5 ?_
  obtain ⟨hPc, hDc, hFc, hI1⟩ := zi_sub (wc := [_]) hP hD hS hA [1] rfl rfl
  refine zcall (st1 := [.int (nI T), .int (nI dn)]) (va_runV (As := []) (rest := [.int (nI dn)]) ⟨hx, hb, hml, hown, hts⟩ (k_AL_size l dC dI cI cZ cF s.heap.size sl ea T mc9 ) (csV_90 hts rfl rfl ⟨Nat.le_of_ble_eq_true rfl, Nat.le_of_ble_eq_true rfl⟩) (zPV2 (q0 := 0) (ci := 10) hPc hDc hK hXN rfl rfl) rfl rfl hl.1 rfl (lv_room (Nat.le_of_ble_eq_true rfl)) dX10_redo_8 ⟨Nat.le_of_ble_eq_true rfl, Nat.le_of_ble_eq_true rfl⟩) hS hFc hFc rfl (fun t H locs ht hB hk1 hS => ?_)
  obtain ⟨hP1, hD1⟩ := hB
  rw [ht] at hP1
  replace hP := z0 hP hD hk1 hP1 hI1
  clear hk1 hPc hDc hFc hP1 hD1 ht hI1
  have b9_2 : zlt (dn) := show dn < 2147483648 by omega
  have b9_3 : zlt (T) := show T < 2147483648 by omega
  refine lv_icmp_lt (tgt := 21) hx hb dX10_redo_11 rfl (fun c_1 => ?_) (fun c_1 => ?_)
  · have c_1 : ((dn : Nat) : Int) < ((T : Nat) : Int) := zc_lt (nI_toInt b9_2) (nI_toInt b9_3) c_1
    exfalso; omega
  · have c_1 : ((T : Nat) : Int) ≤ ((dn : Nat) : Int) := zc_nlt (nI_toInt b9_2) (nI_toInt b9_3) c_1
    refine lv_aload_n hx hb dX10_redo_14 rfl (lv_at hl 0 rfl) ?_
    refine lv_bipush (v := 8) hx hb dX10_redo_15 rfl ?_
    obtain ⟨hPc, hDc, hFc⟩ := zo_sub (wc := [_]) hP hD hS hA [0] rfl rfl
    refine zcall (st1 := [.int (-1)]) (va_runV (As := [.int 8]) (rest := []) ⟨hx, hb, hml, hown, hts⟩ (k_refuse_8 l dC dI cI cZ cF H.size x sh lw ro bq bp dq dp lv sl sd ul su (nI dn) ) (csV_95 hts rfl rfl ⟨Nat.le_of_ble_eq_true rfl, Nat.le_of_ble_eq_true rfl⟩) (zPV2 (q0 := 0) (ci := 8) hPc hDc hK hXN rfl rfl) rfl rfl hl.1 rfl (lv_room (Nat.le_of_ble_eq_true rfl)) dX10_redo_17 ⟨Nat.le_of_ble_eq_true rfl, Nat.le_of_ble_eq_true rfl⟩) hS hFc hFc rfl (fun t H locs ht hB hk1 hS => ?_)
    obtain ⟨hP1, hD1⟩ := hB
    rw [ht] at hP1
    obtain ⟨hP, hD⟩ := zn (W2 := [(oc8 x (.ref sh) (.ref lw) (.ref ro) (.ref bq) (.ref bp) (.ref dq) (.ref dp) (.ref lv) (.ref sl) (nI dn) sd ul 8), _]) hP hD hk1 hFc hP1 hD1 [0] [false, true] [false, true] [0] (by decide +kernel) rfl rfl rfl rfl rfl
    clear hk1 hPc hDc hFc hP1 hD1 ht
    obtain ⟨hP9, hD9⟩ := zu_sub (wc := [_, _]) hP hD [true, true] rfl rfl
    rw [hQ9]
    exact W.iret (v := (-1)) hx hb hr (fun t ht hW => ⟨⟨rfl, by rw [ht]; exact hP9, hD9⟩, hS.F ht⟩) hS.2.2 dX10_redo_20
end
section
/-! the law's words over a row that stands for the corners -/
section
variable {ft : Nat} {st tn kd mn cx cy : Nat → Int32} {f0 n nd : Nat} {X Y A B P Q : Nat → Int32} {rg rd k9 : Int32}
theorem apMv_cx (h1 : 1 ≤ n) (h : ∀ j, j < n → X j = A j ∧ Y j = B j) {q : Nat} : apMv mn cx cy n X Y nd P Q q = apMv mn cx cy n A B nd P Q q := by
  have e1 := (mnI_cg (z := (A 0).toInt) (fun j hj => (h j hj).1) n (Nat.le_refl _)); have e2 := (mnI_cg (z := (B 0).toInt) (fun j hj => (h j hj).2) n (Nat.le_refl _))
  unfold apMv
  rw [(h 0 (by omega)).1, (h 0 (by omega)).2, e1.1, e1.2, e2.1, e2.2]
theorem swR_cx (h : ∀ j, j < n → X j = A j ∧ Y j = B j) {x y : Int} {i : Nat} (hi : i < n) : swR n X Y P Q x y i = swR n A B P Q x y i := by
  have h1 := h i hi; have h2 := h _ (nxt_lt (n := n) (i := i) (by omega))
  unfold swR spr stay
  rw [h1.1, h1.2, h2.1, h2.2]
theorem alM_cx (h1 : 1 ≤ n) (h : ∀ j, j < n → X j = A j ∧ Y j = B j) : alM ft st tn kd mn cx cy f0 n X Y rg nd P Q rd k9 ↔ alM ft st tn kd mn cx cy f0 n A B rg nd P Q rd k9 := by
  unfold alM
  refine and_congr_right fun _ => and_congr_right fun _ => forall_congr' fun q => imp_congr_right fun _ => imp_congr_right fun _ => imp_congr_right fun _ => or_congr (by rw [apMv_cx h1 h]) (and_congr (asb_cx h1 h) (not_congr (exists_congr fun i => and_congr_right fun hi => exists_congr fun k => and_congr_right fun _ => by rw [swR_cx h (by have := edg_le n rg; omega)])))
theorem alW_cx (h1 : 1 ≤ n) (h : ∀ j, j < n → X j = A j ∧ Y j = B j) : alW ft st tn kd mn cx cy f0 n X Y rg nd P Q rd k9 ↔ alW ft st tn kd mn cx cy f0 n A B rg nd P Q rd k9 := by
  unfold alW
  refine and_congr_right fun _ => and_congr_right fun _ => forall_congr' fun q => imp_congr_right fun _ => imp_congr_right fun _ => imp_congr_right fun _ => or_congr (by rw [apMv_cx h1 h]) (and_congr (asb_cx h1 h) ?_)
  rw [(h 0 (by omega)).1, (h 0 (by omega)).2]
theorem alB_cx (h1 : 1 ≤ n) (h : ∀ j, j < n → X j = A j ∧ Y j = B j) : alB ft st tn kd mn cx cy f0 n X Y rg nd P Q rd ↔ alB ft st tn kd mn cx cy f0 n A B rg nd P Q rd := by
  unfold alB
  refine and_congr_right fun _ => and_congr_right fun _ => forall_congr' fun q => imp_congr_right fun _ => imp_congr_right fun _ => imp_congr_right fun _ => or_congr (by rw [apMv_cx h1 h]) (asb_cx h1 h)
end
theorem mv_alk {n : Nat} {VX VY C D P Q X Y : Nat → Int32} (hv : ∀ k, k < n → P k = VX k ∧ Q k = VY k) (hc : ∀ k, k < n → X k = C k ∧ Y k = D k) : (n = n ∧ ∀ k, k < n → (P k).toInt = (X k).toInt ∧ (Q k).toInt = (Y k).toInt) ↔ ¬ mvd n VX VY C D := by
  constructor
  · rintro ⟨_, h⟩ ⟨k, hk, g⟩
    refine g ⟨?_, ?_⟩
    · rw [← (hv k hk).1, ← (hc k hk).1]; exact Int32.toInt_inj.mp (h k hk).1
    · rw [← (hv k hk).2, ← (hc k hk).2]; exact Int32.toInt_inj.mp (h k hk).2
  · intro h
    refine ⟨rfl, fun k hk => ?_⟩
    have g := Classical.byContradiction fun g => h ⟨k, hk, g⟩
    rw [(hv k hk).1, (hv k hk).2, (hc k hk).1, (hc k hk).2, g.1, g.2]; exact ⟨rfl, rfl⟩
theorem sm_hv {kd : Int} {n : Nat} {P X C : Nat → Int32} {k : Nat} (hk : k < n) (hc : ∀ k, k < n → X k = C k) (h : P k = smv (pI ((rgK kd).toInt = 0 ∧ (k = 0 ∨ k = n - 1))) (X (prv n k)) (X k) (X (nxt n k))) : P k = smv (pI (¬ 5 ≤ kd ∧ (k = 0 ∨ k = n - 1))) (C (prv n k)) (C k) (C (nxt n k)) := by
  rw [h, hc _ (prv_lt (n := n) (i := k) hk), hc k hk, hc _ (nxt_lt (n := n) (i := k) (by omega))]
  congr 1
  exact zp_iff (and_congr_left fun _ => rgK_0 _)
theorem sh_hv {kd : Int} {n kk rr : Nat} {dx : Int32} {P X C : Nat → Int32} {k : Nat} (hk : k < n) (hc : ∀ k, k < n → X k = C k) (h : P k = shV kd n kk dx rr X k) : P k = shV kd n kk dx rr C k := by
  rw [h]; unfold shV; rw [hc k hk]
end
section
set_option maxHeartbeats 4000000 in
set_option maxRecDepth 100000 in
theorem k_smooth_y (l : Launch) (dC : Nat → ClassId) (dI : Nat → Nat → Nat) (cI cZ cF : ClassId) (sz : Nat) (cO : ClassId) (e0 : Nat) (mi : Nat) (x : Nat) (sh : Nat) (lw : Nat) (ro : Nat) (bq : Nat) (bp : Nat) (dq : Nat) (dp : Nat) (lv : Nat) (sl : Nat) (sd : Int32) (ul : Int32) (su : Int32) (ea : Nat) (mc9 : Int32) (fa : Nat) (FA : Nat → Option Nat) (bs : Nat) (dn : Nat) (T : Nat) (ft : Nat) (FT : Nat → Nat) (V : Nat → Nat → Nat → Int32) (VX : Nat → Nat → Int32) (VY : Nat → Nat → Int32) (tn : Nat → Int32) (rk : Nat → Int32) (wd : Nat → Int32) (tw : Nat → Int32) (pa : Nat → Int32) (pb : Nat → Int32) (wh : Nat → Int32) (of9 : Nat → Int32) (we : Nat → Int32) (kd : Nat → Int32) (st : Nat → Int32) (gb : Nat → Int32) (it : Nat → Int32) (mn : Nat → Int32) (cx : Nat → Int32) (cy : Nat → Int32) (L : List Nat) (f : Nat → va_E) (f0 : Nat) (dr : Nat) (tg : Nat) (wy : Nat) (br : Nat) (bo : Nat) (aa : Nat) (tx : Nat) (ty : Nat) (nt : Nat) (TX : Nat → Int32) (TY : Nat → Int32) (rt : Int32) (wx : Nat) (wz : Nat) (nw : Nat) (WX : Nat → Int32) (WY : Nat → Int32) (rw : Int32) (dx : Nat) (dy : Nat) (nd : Nat) (cd : Nat) (P : Nat → Int32) (Q : Nat → Int32) (rd : Int32) (b1 : Int32) (b2 : Int32) (b3 : Int32) (b4 : Int32) (b5 : Int32) (b6 : Int32) (b7 : Int32) (b8 : Int32) (hB : shB cI cO L f e0 FA ea bs dn T ft FT V VX VY tn rk wd tw pa pb wh of9 we kd st gb it mn cx cy) (hd5 : dn + 1 ≤ 512) (hf0 : f0 < ft) (htn : (tn f0).toInt = 0) (hst : (st f0).toInt = 1) (hwf : ∀ q, lvF ft st tn q → wfM mn cx cy q) (hkn : okN ft st tn kd mn) (hsm : mSm (kd f0).toInt (nN (mn f0)) (cF40 cx f0) (cF40 cy f0)) (hcd : 40 ≤ cd ∧ cd ≤ 1000) (hkd : 1 ≤ (kd f0).toInt ∧ (kd f0).toInt ≤ 5) (hlaw : lwM ft st tn kd mn cx cy f0 (nN (mn f0)) (fun i => smv (pI (¬ 5 ≤ (kd f0).toInt ∧ (i = 0 ∨ i = (nN (mn f0)) - 1))) (cF40 cx f0 (prv (nN (mn f0)) i)) (cF40 cx f0 i) (cF40 cx f0 (nxt (nN (mn f0)) i))) (fun i => smv (pI (¬ 5 ≤ (kd f0).toInt ∧ (i = 0 ∨ i = (nN (mn f0)) - 1))) (cF40 cy f0 (prv (nN (mn f0)) i)) (cF40 cy f0 i) (cF40 cy f0 (nxt (nN (mn f0)) i)))) (hmv : mvd (nN (mn f0)) (fun i => smv (pI (¬ 5 ≤ (kd f0).toInt ∧ (i = 0 ∨ i = (nN (mn f0)) - 1))) (cF40 cx f0 (prv (nN (mn f0)) i)) (cF40 cx f0 i) (cF40 cx f0 (nxt (nN (mn f0)) i))) (fun i => smv (pI (¬ 5 ≤ (kd f0).toInt ∧ (i = 0 ∨ i = (nN (mn f0)) - 1))) (cF40 cy f0 (prv (nN (mn f0)) i)) (cF40 cy f0 i) (cF40 cy f0 (nxt (nN (mn f0)) i))) (cF40 cx f0) (cF40 cy f0)) : zML l yX10_smooth cX10_smooth 4 (some .boolean) ({ frames := 9, cells := ft + 6, slots := 4 * ft + 2 * nN (mn f0) + 815, locals := 205 } : Room) [.ref x, .int (nI f0)] (dC, dI) (zTyO cI cZ cF cO) e0 mi ([(oc8 x (.ref sh) (.ref lw) (.ref ro) (.ref bq) (.ref bp) (.ref dq) (.ref dp) (.ref lv) (.ref sl) (nI dn) sd ul su), (oc10 sl mc9 (.ref ea) (nI T)), (oc3 lw (.ref dr) (.ref tg) (.ref wy) (.ref br) (.ref bo) (.ref aa)), (oc6 tg (.ref tx) (.ref ty) (nI nt) rt), (oa tx cI 3 TX), (oa ty cI 3 TY), (oc6 wy (.ref wx) (.ref wz) (nI nw) rw), (oa wx cI 2 WX), (oa wz cI 2 WY), (oc6 dr (.ref dx) (.ref dy) (nI nd) rd), (oa dx cI cd P), (oa dy cI cd Q), (oc0 br b1 b2 b3 b4), (oc0 bo b5 b6 b7 b8), (oc7 sh (.ref fa) (nI ft)), (oq fa cF 200 FA)] ++ va_pl L f) sz (some (.int 1)) (fun A t => ∃ (mc1 : Int32), ∃ (L1 : List Nat), ∃ (f1 : Nat → va_E), ∃ (ea1 : Nat), ∃ (nt1 : Nat), ∃ (TX1 : Nat → Int32), ∃ (TY1 : Nat → Int32), ∃ (rt1 : Int32), ∃ (nw1 : Nat), ∃ (WX1 : Nat → Int32), ∃ (WY1 : Nat → Int32), ∃ (rw1 : Int32), ∃ (d5 : Int32), ∃ (d6 : Int32), ∃ (d7 : Int32), ∃ (d8 : Int32), ∃ (e5 : Int32), ∃ (e6 : Int32), ∃ (e7 : Int32), ∃ (e8 : Int32), ∃ (P1 : Nat → Int32), ∃ (Q1 : Nat → Int32), (shB cI cO L1 f1 e0 FA ea1 bs (dn + 1) (dn + 1) ft (upN FT (dn + 1) ft) (upN V (dn + 1) (vC (V dn) kd st gb it mn)) (upN VX (dn + 1) (fgX f0 (nN (mn f0)) (fun i => smv (pI (¬ 5 ≤ (kd f0).toInt ∧ (i = 0 ∨ i = (nN (mn f0)) - 1))) (cF40 cx f0 (prv (nN (mn f0)) i)) (cF40 cx f0 i) (cF40 cx f0 (nxt (nN (mn f0)) i))) cx)) (upN VY (dn + 1) (fgX f0 (nN (mn f0)) (fun i => smv (pI (¬ 5 ≤ (kd f0).toInt ∧ (i = 0 ∨ i = (nN (mn f0)) - 1))) (cF40 cy f0 (prv (nN (mn f0)) i)) (cF40 cy f0 i) (cF40 cy f0 (nxt (nN (mn f0)) i))) cy)) tn rk wd tw pa pb (upd wh (dn + 1) (2 : Int32)) (upd of9 (dn + 1) (nI f0)) (upd we (dn + 1) (0 : Int32)) kd st gb it mn (fgX f0 (nN (mn f0)) (fun i => smv (pI (¬ 5 ≤ (kd f0).toInt ∧ (i = 0 ∨ i = (nN (mn f0)) - 1))) (cF40 cx f0 (prv (nN (mn f0)) i)) (cF40 cx f0 i) (cF40 cx f0 (nxt (nN (mn f0)) i))) cx) (fgX f0 (nN (mn f0)) (fun i => smv (pI (¬ 5 ≤ (kd f0).toInt ∧ (i = 0 ∨ i = (nN (mn f0)) - 1))) (cF40 cy f0 (prv (nN (mn f0)) i)) (cF40 cy f0 i) (cF40 cy f0 (nxt (nN (mn f0)) i))) cy)) ∧ zPD (dC, dI) classes A ([(oc8 x (.ref sh) (.ref lw) (.ref ro) (.ref bq) (.ref bp) (.ref dq) (.ref dp) (.ref lv) (.ref sl) (nI (dn + 1)) sd ul 0), (oc10 sl mc1 (.ref ea1) (nI (dn + 1))), (oc3 lw (.ref dr) (.ref tg) (.ref wy) (.ref br) (.ref bo) (.ref aa)), (oc6 tg (.ref tx) (.ref ty) (nI nt1) rt1), (oa tx cI 3 TX1), (oa ty cI 3 TY1), (oc6 wy (.ref wx) (.ref wz) (nI nw1) rw1), (oa wx cI 2 WX1), (oa wz cI 2 WY1), (oc6 dr (.ref dx) (.ref dy) (nI (nN (mn f0))) (rgK (kd f0).toInt)), (oa dx cI cd P1), (oa dy cI cd Q1), (oc0 br d5 d6 d7 d8), (oc0 bo e5 e6 e7 e8), (oc7 sh (.ref fa) (nI ft)), (oq fa cF 200 FA)] ++ va_pl L1 f1) t.heap) (ft + 6) (4 * ft + 2 * nN (mn f0) + 815) := by
  refine zInL (own := "ScaleShop") (loc := [(0, .ref x), (1, .int (nI f0))]) rfl rfl rfl rfl (fun p e s m below meth c hx hb hr hts hown hlocks hml hnm9 A hA hS hP hD hK hXL hXN hK3 Q9 hQ9 ls hl => ?_)
  obtain ⟨own, fe, cl, la, sp, SA, hG9, hH9, hft9, hO9⟩ := hB
  obtain ⟨hG, hM, hdT, hT5, hO⟩ := M_0 hG9 hH9 hft9 hO9
  have h200 : ft ≤ 200 := hG.2.2.2.2.2.1.2.2.2.2.2
  have hFA9 := hG.2.2.2.2.2.2
  refine ex13 (sh_fc hG.1 hG.2.1 (Nat.le_refl _) hf0 htn) (fun lo5 lx5 ly5 ln5 LX5 LY5 we5 r5 rx5 ry5 cap5 X5 Y5 hc5 => ?_)
  have hc5 := fc_0 hc5
  have hb5 := hc5.2.2.1
  have hb6 := hc5.2.1
  have hat9 := lo_at hO (Nat.le_refl _) hf0 hc5.1.1 hc5.1.2.2.2 (by omega) hc5.1.2.1 hb5.2.2
  have hlv : lvF ft st tn f0 := ⟨hf0, hst, htn⟩
  have hwf0 := hwf f0 hlv
  have hw1 := hwf0.2.1
  have hkn0 := hkn f0 hlv
  have hX5 := hc5.2.2.2.2.1
  have hc9_1 : inPl L f [(oc1 (fe f0) (rk f0) (wd f0) (tw f0) (pa f0) (pb f0) (.ref lo5) (.ref (la dn f0)) .null), (oc4 (la dn f0) (kd f0) (st f0) (.ref r5) (gb f0) (it f0) (nI we5)), (oc6 r5 (.ref rx5) (.ref ry5) (nI (nN (mn f0))) (rgK (kd f0).toInt)), (oa rx5 cI cap5 X5), (oa ry5 cI cap5 Y5), (oc6 lo5 (.ref lx5) (.ref ly5) (nI ln5) 0), (oa lx5 cI (cl f0) LX5), (oa ly5 cI (cl f0) LY5)] := ⟨ce_pl hc5.1.1, ce_pl hc5.1.2.1, ce_pl hc5.1.2.2.1.1, ce_pl hc5.1.2.2.1.2.1, ce_pl hc5.1.2.2.1.2.2.1, ce_pl hc5.1.2.2.2.1, ce_pl hc5.1.2.2.2.2.1, ce_pl hc5.1.2.2.2.2.2.1, trivial⟩
  have hD0_1 := hD
  obtain ⟨T_1, hT_1, hP, hD⟩ := pl_oT hP hD hc9_1 (pw8 hc5 (by omega))
  obtain ⟨hP, hD⟩ := zre (W2 := ([_, _, _, _, _, _, _, _, _, _, _, _, _, _, _, _, _, _, _, _, _, _, _, _] ++ va_pl T_1 f)) hP hD rfl
  refine lv_aload_n hx hb dX10_smooth_0 rfl (lv_at hl 0 rfl) ?_
  refine va_get (D := (dC, dI)) (ci := 8) (v := .ref sh) (C := RX10) (T := TX10) (N := 13) hx hb hts inX10 hown hK hP 0 rfl rfl 0 (Nat.le_of_ble_eq_true rfl) (hts _ mw_309) (fun _ h9 => h9) rfl dX10_smooth_1 ?_
  refine lv_iload_n hx hb dX10_smooth_4 rfl (lv_at hl 1 rfl) ?_
  obtain ⟨hPc, hDc, hFc, hI1⟩ := zi_sub (wc := [_, _]) hP hD hS hA [14, 15] rfl rfl
  refine zcall (st1 := [.ref (fe f0)]) (va_runV (As := [.int (nI f0)]) (rest := []) ⟨hx, hb, hml, hown, hts⟩ (k_Sheet_find l dC dI cI cZ cF s.heap.size sh fa ft FA f0 (fe f0) (by first | with_reducible assumption | omega) (by first | with_reducible assumption | omega) (hFA9 f0 (by first | with_reducible assumption | omega))) (csV_94 hts rfl rfl ⟨Nat.le_of_ble_eq_true rfl, Nat.le_of_ble_eq_true rfl⟩) (zPV2 (q0 := 0) (ci := 7) hPc hDc hK3 hXN rfl rfl) rfl rfl hl.1 rfl (lv_room (Nat.le_of_ble_eq_true rfl)) dX10_smooth_5 ⟨Nat.zero_le _, Nat.zero_le _⟩) hS hFc hFc rfl (fun t H locs ht hB hk1 hS => ?_)
  obtain ⟨hP1, hD1⟩ := hB
  rw [ht] at hP1
  replace hP := z0 hP hD hk1 hP1 hI1
  clear hk1 hPc hDc hFc hP1 hD1 ht hI1
  refine lv_astore_n (lv' := [(2, .ref (fe f0)), (0, .ref x), (1, .int (nI f0))]) hx hb dX10_smooth_8 rfl hl (Nat.le_of_ble_eq_true rfl) rfl (fun ls hl => ?_)
  refine lv_aload_n hx hb dX10_smooth_9 rfl (lv_at hl 0 rfl) ?_
  refine lv_ifnonnull (tgt := 19) hx hb dX10_smooth_10 rfl ?_
  refine lv_aload_n hx hb dX10_smooth_19 rfl (lv_at hl 0 rfl) ?_
  refine va_get (D := (dC, dI)) (ci := 1) (v := .ref (la dn f0)) (C := RX2) (T := TX2) (N := 8) hx hb hts inX2 hown hK hP 16 rfl rfl 6 (Nat.le_of_ble_eq_true rfl) (hts _ mw_433) (fun _ h9 => h9) rfl dX10_smooth_20 ?_
  refine va_get (D := (dC, dI)) (ci := 4) (v := .int (st f0)) (C := RX5) (T := TX5) (N := 6) hx hb hts inX5 hown hK hP 17 rfl rfl 1 (Nat.le_of_ble_eq_true rfl) (hts _ mw_385) (fun _ h9 => h9) rfl dX10_smooth_23 ?_
  refine lv_iconst (v := 1) hx hb dX10_smooth_26 rfl ?_
  refine lv_icmp_eq (tgt := 36) hx hb dX10_smooth_27 rfl (fun c_1 => ?_) (fun c_1 => ?_)
  · have c_1 : (st f0).toInt = 1 := zc_eq rfl rfl c_1
    refine lv_aload_n hx hb dX10_smooth_36 rfl (lv_at hl 0 rfl) ?_
    obtain ⟨hPc, hDc, hFc, hI1⟩ := zi_sub (wc := [_, _]) hP hD hS hA [16, 17] rfl rfl
    refine zcall (st1 := [.int (pI (1 ≤ (kd f0).toInt ∧ (kd f0).toInt ≤ 5))]) (va_runV (As := []) (rest := []) ⟨hx, hb, hml, hown, hts⟩ (k_Feature_bends_r l dC dI cI cZ cF H.size (fe f0) lo5 (rk f0) (wd f0) (tw f0) (pa f0) (pb f0) (la dn f0) (kd f0) (st f0) (gb f0) (it f0) (nI we5) r5 ) (csV_97 hts rfl rfl ⟨Nat.le_of_ble_eq_true rfl, Nat.le_of_ble_eq_true rfl⟩) (zPV2 (q0 := 0) (ci := 1) hPc hDc hK3 hXN rfl rfl) rfl rfl hl.1 rfl (lv_room (Nat.le_of_ble_eq_true rfl)) dX10_smooth_37 ⟨Nat.zero_le _, Nat.zero_le _⟩) hS hFc hFc rfl (fun t H locs ht hB hk1 hS => ?_)
    obtain ⟨hP1, hD1⟩ := hB
    rw [ht] at hP1
    replace hP := z0 hP hD hk1 hP1 hI1
    clear hk1 hPc hDc hFc hP1 hD1 ht hI1
    refine lv_if_ne (tgt := 49) hx hb dX10_smooth_40 rfl (fun c_2 => ?_) (fun c_2 => ?_)
    · have c_2 : 1 ≤ (kd f0).toInt ∧ (kd f0).toInt ≤ 5 := zp_1 c_2
      refine lv_aload_n hx hb dX10_smooth_49 rfl (lv_at hl 0 rfl) ?_
      refine va_get (D := (dC, dI)) (ci := 1) (v := .ref (la dn f0)) (C := RX2) (T := TX2) (N := 8) hx hb hts inX2 hown hK hP 16 rfl rfl 6 (Nat.le_of_ble_eq_true rfl) (hts _ mw_433) (fun _ h9 => h9) rfl dX10_smooth_50 ?_
      refine va_get (D := (dC, dI)) (ci := 4) (v := .ref r5) (C := RX5) (T := TX5) (N := 6) hx hb hts inX5 hown hK hP 17 rfl rfl 2 (Nat.le_of_ble_eq_true rfl) (hts _ mw_391) (fun _ h9 => h9) rfl dX10_smooth_53 ?_
      refine lv_astore_n (lv' := [(3, .ref r5), (2, .ref (fe f0)), (0, .ref x), (1, .int (nI f0))]) hx hb dX10_smooth_56 rfl hl (Nat.le_of_ble_eq_true rfl) rfl (fun ls hl => ?_)
      refine lv_aload_n hx hb dX10_smooth_57 rfl (lv_at hl 0 rfl) ?_
      refine lv_ifnonnull (tgt := 67) hx hb dX10_smooth_58 rfl ?_
      refine lv_aload_n hx hb dX10_smooth_67 rfl (lv_at hl 2 rfl) ?_
      refine va_get (D := (dC, dI)) (ci := 8) (v := .ref lw) (C := RX10) (T := TX10) (N := 13) hx hb hts inX10 hown hK hP 0 rfl rfl 1 (Nat.le_of_ble_eq_true rfl) (hts _ mw_310) (fun _ h9 => h9) rfl dX10_smooth_68 ?_
      refine va_get (D := (dC, dI)) (ci := 3) (v := .ref dr) (C := RX4) (T := TX4) (N := 6) hx hb hts inX4 hown hK hP 2 rfl rfl 0 (Nat.le_of_ble_eq_true rfl) (hts _ mw_220) (fun _ h9 => h9) rfl dX10_smooth_71 ?_
      refine lv_aload_n hx hb dX10_smooth_74 rfl (lv_at hl 0 rfl) ?_
      obtain ⟨hPc, hDc, hFc⟩ := zo_sub (wc := [_, _, _, _, _, _]) hP hD hS hA [9, 10, 11, 18, 19, 20] (by decide +kernel) rfl
      refine zcall (st1 := []) (va_runV (As := [.ref r5]) (rest := []) ⟨hx, hb, hml, hown, hts⟩ (k_Row_smoothFrom l dC dI cI cZ cF H.size dr dx dy nd cd P Q rd r5 rx5 ry5 (nN (mn f0)) cap5 X5 Y5 (rgK (kd f0).toInt) (by first | with_reducible assumption | omega) (by first | with_reducible assumption | omega) (by first | with_reducible assumption | omega) (by first | with_reducible assumption | omega) (rgK_01 _)) (csV_116 hts rfl rfl ⟨Nat.le_of_ble_eq_true rfl, Nat.le_of_ble_eq_true rfl⟩) (zPV2 (q0 := 0) (ci := 6) hPc hDc hK3 hXN rfl rfl) rfl rfl hl.1 rfl (lv_room (Nat.le_of_ble_eq_true rfl)) dX10_smooth_75 ⟨Nat.zero_le _, Nat.zero_le _⟩) hS hFc hFc rfl (fun t H locs ht hB hk1 hS => ?_)
      obtain ⟨P7, Q7, hall7, hP1, hD1⟩ := hB
      rw [ht] at hP1
      obtain ⟨hP, hD⟩ := znQ (W2 := [_, _, _, _, _, _, _, _, _, (oc6 dr (.ref dx) (.ref dy) (nI (nN (mn f0))) (rgK (kd f0).toInt)), (oa dx cI cd P7), (oa dy cI cd Q7), _, _, _, _, _, _, _, _, _, _, _, _]) hP hD hk1 hFc hP1 hD1 [9, 10, 11, 18, 19, 20] zl_77 zl_77 [9, 10, 11, 18, 19, 20] (by decide +kernel) rfl rfl rfl rfl rfl
      clear hk1 hPc hDc hFc hP1 hD1 ht
      have hv7 : ∀ k, k < nN (mn f0) → P7 k = (fun i => smv (pI (¬ 5 ≤ (kd f0).toInt ∧ (i = 0 ∨ i = (nN (mn f0)) - 1))) (cF40 cx f0 (prv (nN (mn f0)) i)) (cF40 cx f0 i) (cF40 cx f0 (nxt (nN (mn f0)) i))) k ∧ Q7 k = (fun i => smv (pI (¬ 5 ≤ (kd f0).toInt ∧ (i = 0 ∨ i = (nN (mn f0)) - 1))) (cF40 cy f0 (prv (nN (mn f0)) i)) (cF40 cy f0 i) (cF40 cy f0 (nxt (nN (mn f0)) i))) k := fun k hk => ⟨sm_hv hk (fun j hj => (hX5 j hj).1) (hall7 k hk).1, sm_hv hk (fun j hj => (hX5 j hj).2) (hall7 k hk).2⟩
      refine lv_aload_n hx hb dX10_smooth_78 rfl (lv_at hl 2 rfl) ?_
      refine lv_aload_n hx hb dX10_smooth_79 rfl (lv_at hl 1 rfl) ?_
      refine lv_iload_n hx hb dX10_smooth_80 rfl (lv_at hl 3 rfl) ?_
      refine lv_iconst (v := 2) hx hb dX10_smooth_81 rfl ?_
      obtain ⟨hPc, hDc, hFc⟩ := zo_part (cx := [_, _, _, _, _, _, _, _, _, _, _, _, _, _, _, _, _, _, _, _, _, _, _, _]) hP hD hS hA [0, 1, 2, 3, 4, 5, 6, 7, 8, 9, 10, 11, 12, 13, 16, 17, 18, 19, 20, 21, 22, 23, 14, 15] (by decide +kernel) rfl
      refine zcall (st1 := [.int 1]) (va_runV (As := [.ref (fe f0), .int (nI f0), .int 2]) (rest := []) ⟨hx, hb, hml, hown, hts⟩ (k_moveTo_m_y l dC dI cI cZ cF H.size cO e0 mi x sh lw ro bq bp dq dp lv sl sd ul su ea mc9 fa FA bs dn T ft FT V VX VY tn rk wd tw pa pb wh of9 we kd st gb it mn cx cy T_1 f L f0 own fe cl la sp SA lo5 lx5 ly5 ln5 LX5 LY5 we5 r5 rx5 ry5 cap5 X5 Y5 dr tg wy br bo aa tx ty nt TX TY rt wx wz nw WX WY rw dx dy cd P7 Q7 b1 b2 b3 b4 b5 b6 b7 b8 2 (fgX f0 (nN (mn f0)) (fun i => smv (pI (¬ 5 ≤ (kd f0).toInt ∧ (i = 0 ∨ i = (nN (mn f0)) - 1))) (cF40 cx f0 (prv (nN (mn f0)) i)) (cF40 cx f0 i) (cF40 cx f0 (nxt (nN (mn f0)) i))) cx) (fgX f0 (nN (mn f0)) (fun i => smv (pI (¬ 5 ≤ (kd f0).toInt ∧ (i = 0 ∨ i = (nN (mn f0)) - 1))) (cF40 cy f0 (prv (nN (mn f0)) i)) (cF40 cy f0 i) (cF40 cy f0 (nxt (nN (mn f0)) i))) cy) (hG9) (hH9) (hft9) (hO9) (hc5) (hT_1) (by first | with_reducible assumption | assumption) (by first | with_reducible assumption | assumption) (hst) (hwf) (hkn) (by first | with_reducible assumption | omega) (by have := hkn0; have := hsm.1; omega) (by first | with_reducible assumption | omega) (((alM_cx hw1.1 hX5).trans (alM_lw (VX := fun i => smv (pI (¬ 5 ≤ (kd f0).toInt ∧ (i = 0 ∨ i = (nN (mn f0)) - 1))) (cF40 cx f0 (prv (nN (mn f0)) i)) (cF40 cx f0 i) (cF40 cx f0 (nxt (nN (mn f0)) i))) (VY := fun i => smv (pI (¬ 5 ≤ (kd f0).toInt ∧ (i = 0 ∨ i = (nN (mn f0)) - 1))) (cF40 cy f0 (prv (nN (mn f0)) i)) (cF40 cy f0 i) (cF40 cy f0 (nxt (nN (mn f0)) i))) (by first | with_reducible assumption | omega) (by first | with_reducible assumption | omega) (hsm.2 (by first | with_reducible assumption | omega)).1 hv7 hwf hkn)).mpr hlaw) (fun h => absurd hmv ((mv_alk hv7 hX5).mp h)) (fun k hk => by rw [fgX_f k hk, fgX_f k hk]; exact hv7 k hk) (fun j hj => ⟨fgX_o (by first | with_reducible assumption | omega), fgX_o (by first | with_reducible assumption | omega)⟩)) (csV_117 hts rfl rfl ⟨Nat.le_of_ble_eq_true rfl, Nat.le_of_ble_eq_true rfl⟩) (zPVL (q0 := 0) (ci := 8) hPc hDc hK hXL hS hFc rfl rfl) rfl rfl hl.1 rfl (lv_room (Nat.le_of_ble_eq_true rfl)) dX10_smooth_82 ⟨show (0 + (ft + 6)) ≤ ft + 6 by omega, show (0 + (4 * ft + 2 * nN (mn f0) + 815)) ≤ 4 * ft + 2 * nN (mn f0) + 815 by omega⟩) hS hFc hFc rfl (fun t H locs ht hB hk1 hS => ?_)
      refine ex20 hB (fun mc8 L8 f8 ea8 nt8 TX8 TY8 rt8 nw8 WX8 WY8 rw8 g08 g18 g28 g38 g48 g58 g68 g78 hB0 => ?_)
      clear hB
      obtain ⟨hB6, hP1, hD1⟩ := hB0
      rw [ht] at hP1
      obtain ⟨hP, hD⟩ := znP (W2 := [(oc8 x (.ref sh) (.ref lw) (.ref ro) (.ref bq) (.ref bp) (.ref dq) (.ref dp) (.ref lv) (.ref sl) (nI (dn + 1)) sd ul 0), (oc10 sl mc8 (.ref ea8) (nI (dn + 1))), (oc3 lw (.ref dr) (.ref tg) (.ref wy) (.ref br) (.ref bo) (.ref aa)), (oc6 tg (.ref tx) (.ref ty) (nI nt8) rt8), (oa tx cI 3 TX8), (oa ty cI 3 TY8), (oc6 wy (.ref wx) (.ref wz) (nI nw8) rw8), (oa wx cI 2 WX8), (oa wz cI 2 WY8), (oc6 dr (.ref dx) (.ref dy) (nI (nN (mn f0))) (rgK (kd f0).toInt)), (oa dx cI cd P7), (oa dy cI cd Q7), (oc0 br g08 g18 g28 g38), (oc0 bo g48 g58 g68 g78), (oc7 sh (.ref fa) (nI ft)), (oq fa cF 200 FA)]) hP hD hk1 hFc hP1 hD1 zl_78 [] zl_79 zl_80 (by decide +kernel) rfl rfl rfl rfl rfl
      clear hk1 hPc hDc hFc hP1 hD1 ht
      obtain ⟨hP9, hD9⟩ := zu_part (cx := [_, _, _, _, _, _, _, _, _, _, _, _, _, _, _, _]) hP hD [true, true, true, true, true, true, true, true, true, true, true, true, true, true, true, true] rfl rfl
      refine W.widen (k := ft + 6) (n := 4 * ft + 2 * nN (mn f0) + 815) (by omega) (by omega) ?_
      rw [hQ9]
      exact W.zret (ty := .boolean) (v := 1) hx hb hr (rfl) (fun t ht hW => ⟨⟨rfl, mc8, L8, f8, ea8, nt8, TX8, TY8, rt8, nw8, WX8, WY8, rw8, g08, g18, g28, g38, g48, g58, g68, g78, P7, Q7, (hB6), by rw [ht]; exact hP9, hD9⟩, hS.F ht⟩) hS.2.2 dX10_smooth_85
    · have c_2 : ¬ (1 ≤ (kd f0).toInt ∧ (kd f0).toInt ≤ 5) := zp_0 c_2
      exfalso; exact absurd hkd (by first | with_reducible assumption | assumption)
  · have c_1 : ¬ (st f0).toInt = 1 := zc_ne rfl rfl c_1
    exfalso; omega
set_option maxHeartbeats 4000000 in
set_option maxRecDepth 100000 in
theorem k_smooth_n (l : Launch) (dC : Nat → ClassId) (dI : Nat → Nat → Nat) (cI cZ cF : ClassId) (sz : Nat) (cO : ClassId) (e0 : Nat) (mi : Nat) (x : Nat) (sh : Nat) (lw : Nat) (ro : Nat) (bq : Nat) (bp : Nat) (dq : Nat) (dp : Nat) (lv : Nat) (sl : Nat) (sd : Int32) (ul : Int32) (su : Int32) (ea : Nat) (mc9 : Int32) (fa : Nat) (FA : Nat → Option Nat) (bs : Nat) (dn : Nat) (T : Nat) (ft : Nat) (FT : Nat → Nat) (V : Nat → Nat → Nat → Int32) (VX : Nat → Nat → Int32) (VY : Nat → Nat → Int32) (tn : Nat → Int32) (rk : Nat → Int32) (wd : Nat → Int32) (tw : Nat → Int32) (pa : Nat → Int32) (pb : Nat → Int32) (wh : Nat → Int32) (of9 : Nat → Int32) (we : Nat → Int32) (kd : Nat → Int32) (st : Nat → Int32) (gb : Nat → Int32) (it : Nat → Int32) (mn : Nat → Int32) (cx : Nat → Int32) (cy : Nat → Int32) (L : List Nat) (f : Nat → va_E) (f0 : Nat) (dr : Nat) (tg : Nat) (wy : Nat) (br : Nat) (bo : Nat) (aa : Nat) (tx : Nat) (ty : Nat) (nt : Nat) (TX : Nat → Int32) (TY : Nat → Int32) (rt : Int32) (wx : Nat) (wz : Nat) (nw : Nat) (WX : Nat → Int32) (WY : Nat → Int32) (rw : Int32) (dx : Nat) (dy : Nat) (nd : Nat) (cd : Nat) (P : Nat → Int32) (Q : Nat → Int32) (rd : Int32) (b1 : Int32) (b2 : Int32) (b3 : Int32) (b4 : Int32) (b5 : Int32) (b6 : Int32) (b7 : Int32) (b8 : Int32) (hB : shB cI cO L f e0 FA ea bs dn T ft FT V VX VY tn rk wd tw pa pb wh of9 we kd st gb it mn cx cy) (hf0 : f0 < ft) (htn : (tn f0).toInt = 0) (hst : (st f0).toInt = 1) (hwf : ∀ q, lvF ft st tn q → wfM mn cx cy q) (hkn : okN ft st tn kd mn) (hsm : mSm (kd f0).toInt (nN (mn f0)) (cF40 cx f0) (cF40 cy f0)) (hcd : 40 ≤ cd ∧ cd ≤ 1000) (hkd : 1 ≤ (kd f0).toInt ∧ (kd f0).toInt ≤ 5) (hbad : ¬ ((lwM ft st tn kd mn cx cy f0 (nN (mn f0)) (fun i => smv (pI (¬ 5 ≤ (kd f0).toInt ∧ (i = 0 ∨ i = (nN (mn f0)) - 1))) (cF40 cx f0 (prv (nN (mn f0)) i)) (cF40 cx f0 i) (cF40 cx f0 (nxt (nN (mn f0)) i))) (fun i => smv (pI (¬ 5 ≤ (kd f0).toInt ∧ (i = 0 ∨ i = (nN (mn f0)) - 1))) (cF40 cy f0 (prv (nN (mn f0)) i)) (cF40 cy f0 i) (cF40 cy f0 (nxt (nN (mn f0)) i)))) ∧ mvd (nN (mn f0)) (fun i => smv (pI (¬ 5 ≤ (kd f0).toInt ∧ (i = 0 ∨ i = (nN (mn f0)) - 1))) (cF40 cx f0 (prv (nN (mn f0)) i)) (cF40 cx f0 i) (cF40 cx f0 (nxt (nN (mn f0)) i))) (fun i => smv (pI (¬ 5 ≤ (kd f0).toInt ∧ (i = 0 ∨ i = (nN (mn f0)) - 1))) (cF40 cy f0 (prv (nN (mn f0)) i)) (cF40 cy f0 i) (cF40 cy f0 (nxt (nN (mn f0)) i))) (cF40 cx f0) (cF40 cy f0))) : zML l yX10_smooth cX10_smooth 4 (some .boolean) ({ frames := 6, cells := 0, slots := 0, locals := 155 } : Room) [.ref x, .int (nI f0)] (dC, dI) (zTyO cI cZ cF cO) e0 mi ([(oc8 x (.ref sh) (.ref lw) (.ref ro) (.ref bq) (.ref bp) (.ref dq) (.ref dp) (.ref lv) (.ref sl) (nI dn) sd ul su), (oc10 sl mc9 (.ref ea) (nI T)), (oc3 lw (.ref dr) (.ref tg) (.ref wy) (.ref br) (.ref bo) (.ref aa)), (oc6 tg (.ref tx) (.ref ty) (nI nt) rt), (oa tx cI 3 TX), (oa ty cI 3 TY), (oc6 wy (.ref wx) (.ref wz) (nI nw) rw), (oa wx cI 2 WX), (oa wz cI 2 WY), (oc6 dr (.ref dx) (.ref dy) (nI nd) rd), (oa dx cI cd P), (oa dy cI cd Q), (oc0 br b1 b2 b3 b4), (oc0 bo b5 b6 b7 b8), (oc7 sh (.ref fa) (nI ft)), (oq fa cF 200 FA)] ++ va_pl L f) sz (some (.int 0)) (fun A t => ∃ (ul1 : Int32), ∃ (su1 : Int32), ∃ (nt1 : Nat), ∃ (TX1 : Nat → Int32), ∃ (TY1 : Nat → Int32), ∃ (rt1 : Int32), ∃ (nw1 : Nat), ∃ (WX1 : Nat → Int32), ∃ (WY1 : Nat → Int32), ∃ (rw1 : Int32), ∃ (d5 : Int32), ∃ (d6 : Int32), ∃ (d7 : Int32), ∃ (d8 : Int32), ∃ (e5 : Int32), ∃ (e6 : Int32), ∃ (e7 : Int32), ∃ (e8 : Int32), ∃ (P1 : Nat → Int32), ∃ (Q1 : Nat → Int32), zPD (dC, dI) classes A ([(oc8 x (.ref sh) (.ref lw) (.ref ro) (.ref bq) (.ref bp) (.ref dq) (.ref dp) (.ref lv) (.ref sl) (nI dn) sd ul1 su1), (oc10 sl mc9 (.ref ea) (nI T)), (oc3 lw (.ref dr) (.ref tg) (.ref wy) (.ref br) (.ref bo) (.ref aa)), (oc6 tg (.ref tx) (.ref ty) (nI nt1) rt1), (oa tx cI 3 TX1), (oa ty cI 3 TY1), (oc6 wy (.ref wx) (.ref wz) (nI nw1) rw1), (oa wx cI 2 WX1), (oa wz cI 2 WY1), (oc6 dr (.ref dx) (.ref dy) (nI (nN (mn f0))) (rgK (kd f0).toInt)), (oa dx cI cd P1), (oa dy cI cd Q1), (oc0 br d5 d6 d7 d8), (oc0 bo e5 e6 e7 e8), (oc7 sh (.ref fa) (nI ft)), (oq fa cF 200 FA)] ++ va_pl L f) t.heap) 0 0 := by
  refine zInL (own := "ScaleShop") (loc := [(0, .ref x), (1, .int (nI f0))]) rfl rfl rfl rfl (fun p e s m below meth c hx hb hr hts hown hlocks hml hnm9 A hA hS hP hD hK hXL hXN hK3 Q9 hQ9 ls hl => ?_)
  obtain ⟨own, fe, cl, la, sp, SA, hG9, hH9, hft9, hO9⟩ := hB
  obtain ⟨hG, hM, hdT, hT5, hO⟩ := M_0 hG9 hH9 hft9 hO9
  have h200 : ft ≤ 200 := hG.2.2.2.2.2.1.2.2.2.2.2
  have hFA9 := hG.2.2.2.2.2.2
  refine ex13 (sh_fc hG.1 hG.2.1 (Nat.le_refl _) hf0 htn) (fun lo5 lx5 ly5 ln5 LX5 LY5 we5 r5 rx5 ry5 cap5 X5 Y5 hc5 => ?_)
  have hc5 := fc_0 hc5
  have hb5 := hc5.2.2.1
  have hb6 := hc5.2.1
  have hat9 := lo_at hO (Nat.le_refl _) hf0 hc5.1.1 hc5.1.2.2.2 (by omega) hc5.1.2.1 hb5.2.2
  have hlv : lvF ft st tn f0 := ⟨hf0, hst, htn⟩
  have hwf0 := hwf f0 hlv
  have hw1 := hwf0.2.1
  have hkn0 := hkn f0 hlv
  have hX5 := hc5.2.2.2.2.1
  have hc9_1 : inPl L f [(oc1 (fe f0) (rk f0) (wd f0) (tw f0) (pa f0) (pb f0) (.ref lo5) (.ref (la dn f0)) .null), (oc4 (la dn f0) (kd f0) (st f0) (.ref r5) (gb f0) (it f0) (nI we5)), (oc6 r5 (.ref rx5) (.ref ry5) (nI (nN (mn f0))) (rgK (kd f0).toInt)), (oa rx5 cI cap5 X5), (oa ry5 cI cap5 Y5), (oc6 lo5 (.ref lx5) (.ref ly5) (nI ln5) 0), (oa lx5 cI (cl f0) LX5), (oa ly5 cI (cl f0) LY5)] := ⟨ce_pl hc5.1.1, ce_pl hc5.1.2.1, ce_pl hc5.1.2.2.1.1, ce_pl hc5.1.2.2.1.2.1, ce_pl hc5.1.2.2.1.2.2.1, ce_pl hc5.1.2.2.2.1, ce_pl hc5.1.2.2.2.2.1, ce_pl hc5.1.2.2.2.2.2.1, trivial⟩
  have hD0_1 := hD
  obtain ⟨T_1, hT_1, hP, hD⟩ := pl_oT hP hD hc9_1 (pw8 hc5 (by omega))
  obtain ⟨hP, hD⟩ := zre (W2 := ([_, _, _, _, _, _, _, _, _, _, _, _, _, _, _, _, _, _, _, _, _, _, _, _] ++ va_pl T_1 f)) hP hD rfl
  refine lv_aload_n hx hb dX10_smooth_0 rfl (lv_at hl 0 rfl) ?_
  refine va_get (D := (dC, dI)) (ci := 8) (v := .ref sh) (C := RX10) (T := TX10) (N := 13) hx hb hts inX10 hown hK hP 0 rfl rfl 0 (Nat.le_of_ble_eq_true rfl) (hts _ mw_309) (fun _ h9 => h9) rfl dX10_smooth_1 ?_
  refine lv_iload_n hx hb dX10_smooth_4 rfl (lv_at hl 1 rfl) ?_
  obtain ⟨hPc, hDc, hFc, hI1⟩ := zi_sub (wc := [_, _]) hP hD hS hA [14, 15] rfl rfl
  refine zcall (st1 := [.ref (fe f0)]) (va_runV (As := [.int (nI f0)]) (rest := []) ⟨hx, hb, hml, hown, hts⟩ (k_Sheet_find l dC dI cI cZ cF s.heap.size sh fa ft FA f0 (fe f0) (by first | with_reducible assumption | omega) (by first | with_reducible assumption | omega) (hFA9 f0 (by first | with_reducible assumption | omega))) (csV_94 hts rfl rfl ⟨Nat.le_of_ble_eq_true rfl, Nat.le_of_ble_eq_true rfl⟩) (zPV2 (q0 := 0) (ci := 7) hPc hDc hK3 hXN rfl rfl) rfl rfl hl.1 rfl (lv_room (Nat.le_of_ble_eq_true rfl)) dX10_smooth_5 ⟨Nat.le_of_ble_eq_true rfl, Nat.le_of_ble_eq_true rfl⟩) hS hFc hFc rfl (fun t H locs ht hB hk1 hS => ?_)
  obtain ⟨hP1, hD1⟩ := hB
  rw [ht] at hP1
  replace hP := z0 hP hD hk1 hP1 hI1
  clear hk1 hPc hDc hFc hP1 hD1 ht hI1
  refine lv_astore_n (lv' := [(2, .ref (fe f0)), (0, .ref x), (1, .int (nI f0))]) hx hb dX10_smooth_8 rfl hl (Nat.le_of_ble_eq_true rfl) rfl (fun ls hl => ?_)
  refine lv_aload_n hx hb dX10_smooth_9 rfl (lv_at hl 0 rfl) ?_
  refine lv_ifnonnull (tgt := 19) hx hb dX10_smooth_10 rfl ?_
  refine lv_aload_n hx hb dX10_smooth_19 rfl (lv_at hl 0 rfl) ?_
  refine va_get (D := (dC, dI)) (ci := 1) (v := .ref (la dn f0)) (C := RX2) (T := TX2) (N := 8) hx hb hts inX2 hown hK hP 16 rfl rfl 6 (Nat.le_of_ble_eq_true rfl) (hts _ mw_433) (fun _ h9 => h9) rfl dX10_smooth_20 ?_
  refine va_get (D := (dC, dI)) (ci := 4) (v := .int (st f0)) (C := RX5) (T := TX5) (N := 6) hx hb hts inX5 hown hK hP 17 rfl rfl 1 (Nat.le_of_ble_eq_true rfl) (hts _ mw_385) (fun _ h9 => h9) rfl dX10_smooth_23 ?_
  refine lv_iconst (v := 1) hx hb dX10_smooth_26 rfl ?_
  refine lv_icmp_eq (tgt := 36) hx hb dX10_smooth_27 rfl (fun c_1 => ?_) (fun c_1 => ?_)
  · have c_1 : (st f0).toInt = 1 := zc_eq rfl rfl c_1
    refine lv_aload_n hx hb dX10_smooth_36 rfl (lv_at hl 0 rfl) ?_
    obtain ⟨hPc, hDc, hFc, hI1⟩ := zi_sub (wc := [_, _]) hP hD hS hA [16, 17] rfl rfl
    refine zcall (st1 := [.int (pI (1 ≤ (kd f0).toInt ∧ (kd f0).toInt ≤ 5))]) (va_runV (As := []) (rest := []) ⟨hx, hb, hml, hown, hts⟩ (k_Feature_bends_r l dC dI cI cZ cF H.size (fe f0) lo5 (rk f0) (wd f0) (tw f0) (pa f0) (pb f0) (la dn f0) (kd f0) (st f0) (gb f0) (it f0) (nI we5) r5 ) (csV_97 hts rfl rfl ⟨Nat.le_of_ble_eq_true rfl, Nat.le_of_ble_eq_true rfl⟩) (zPV2 (q0 := 0) (ci := 1) hPc hDc hK3 hXN rfl rfl) rfl rfl hl.1 rfl (lv_room (Nat.le_of_ble_eq_true rfl)) dX10_smooth_37 ⟨Nat.le_of_ble_eq_true rfl, Nat.le_of_ble_eq_true rfl⟩) hS hFc hFc rfl (fun t H locs ht hB hk1 hS => ?_)
    obtain ⟨hP1, hD1⟩ := hB
    rw [ht] at hP1
    replace hP := z0 hP hD hk1 hP1 hI1
    clear hk1 hPc hDc hFc hP1 hD1 ht hI1
    refine lv_if_ne (tgt := 49) hx hb dX10_smooth_40 rfl (fun c_2 => ?_) (fun c_2 => ?_)
    · have c_2 : 1 ≤ (kd f0).toInt ∧ (kd f0).toInt ≤ 5 := zp_1 c_2
      refine lv_aload_n hx hb dX10_smooth_49 rfl (lv_at hl 0 rfl) ?_
      refine va_get (D := (dC, dI)) (ci := 1) (v := .ref (la dn f0)) (C := RX2) (T := TX2) (N := 8) hx hb hts inX2 hown hK hP 16 rfl rfl 6 (Nat.le_of_ble_eq_true rfl) (hts _ mw_433) (fun _ h9 => h9) rfl dX10_smooth_50 ?_
      refine va_get (D := (dC, dI)) (ci := 4) (v := .ref r5) (C := RX5) (T := TX5) (N := 6) hx hb hts inX5 hown hK hP 17 rfl rfl 2 (Nat.le_of_ble_eq_true rfl) (hts _ mw_391) (fun _ h9 => h9) rfl dX10_smooth_53 ?_
      refine lv_astore_n (lv' := [(3, .ref r5), (2, .ref (fe f0)), (0, .ref x), (1, .int (nI f0))]) hx hb dX10_smooth_56 rfl hl (Nat.le_of_ble_eq_true rfl) rfl (fun ls hl => ?_)
      refine lv_aload_n hx hb dX10_smooth_57 rfl (lv_at hl 0 rfl) ?_
      refine lv_ifnonnull (tgt := 67) hx hb dX10_smooth_58 rfl ?_
      refine lv_aload_n hx hb dX10_smooth_67 rfl (lv_at hl 2 rfl) ?_
      refine va_get (D := (dC, dI)) (ci := 8) (v := .ref lw) (C := RX10) (T := TX10) (N := 13) hx hb hts inX10 hown hK hP 0 rfl rfl 1 (Nat.le_of_ble_eq_true rfl) (hts _ mw_310) (fun _ h9 => h9) rfl dX10_smooth_68 ?_
      refine va_get (D := (dC, dI)) (ci := 3) (v := .ref dr) (C := RX4) (T := TX4) (N := 6) hx hb hts inX4 hown hK hP 2 rfl rfl 0 (Nat.le_of_ble_eq_true rfl) (hts _ mw_220) (fun _ h9 => h9) rfl dX10_smooth_71 ?_
      refine lv_aload_n hx hb dX10_smooth_74 rfl (lv_at hl 0 rfl) ?_
      obtain ⟨hPc, hDc, hFc⟩ := zo_sub (wc := [_, _, _, _, _, _]) hP hD hS hA [9, 10, 11, 18, 19, 20] (by decide +kernel) rfl
      refine zcall (st1 := []) (va_runV (As := [.ref r5]) (rest := []) ⟨hx, hb, hml, hown, hts⟩ (k_Row_smoothFrom l dC dI cI cZ cF H.size dr dx dy nd cd P Q rd r5 rx5 ry5 (nN (mn f0)) cap5 X5 Y5 (rgK (kd f0).toInt) (by first | with_reducible assumption | omega) (by first | with_reducible assumption | omega) (by first | with_reducible assumption | omega) (by first | with_reducible assumption | omega) (rgK_01 _)) (csV_116 hts rfl rfl ⟨Nat.le_of_ble_eq_true rfl, Nat.le_of_ble_eq_true rfl⟩) (zPV2 (q0 := 0) (ci := 6) hPc hDc hK3 hXN rfl rfl) rfl rfl hl.1 rfl (lv_room (Nat.le_of_ble_eq_true rfl)) dX10_smooth_75 ⟨Nat.le_of_ble_eq_true rfl, Nat.le_of_ble_eq_true rfl⟩) hS hFc hFc rfl (fun t H locs ht hB hk1 hS => ?_)
      obtain ⟨P7, Q7, hall7, hP1, hD1⟩ := hB
      rw [ht] at hP1
      obtain ⟨hP, hD⟩ := znQ (W2 := [_, _, _, _, _, _, _, _, _, (oc6 dr (.ref dx) (.ref dy) (nI (nN (mn f0))) (rgK (kd f0).toInt)), (oa dx cI cd P7), (oa dy cI cd Q7), _, _, _, _, _, _, _, _, _, _, _, _]) hP hD hk1 hFc hP1 hD1 [9, 10, 11, 18, 19, 20] zl_77 zl_77 [9, 10, 11, 18, 19, 20] (by decide +kernel) rfl rfl rfl rfl rfl
      clear hk1 hPc hDc hFc hP1 hD1 ht
      have hv7 : ∀ k, k < nN (mn f0) → P7 k = (fun i => smv (pI (¬ 5 ≤ (kd f0).toInt ∧ (i = 0 ∨ i = (nN (mn f0)) - 1))) (cF40 cx f0 (prv (nN (mn f0)) i)) (cF40 cx f0 i) (cF40 cx f0 (nxt (nN (mn f0)) i))) k ∧ Q7 k = (fun i => smv (pI (¬ 5 ≤ (kd f0).toInt ∧ (i = 0 ∨ i = (nN (mn f0)) - 1))) (cF40 cy f0 (prv (nN (mn f0)) i)) (cF40 cy f0 i) (cF40 cy f0 (nxt (nN (mn f0)) i))) k := fun k hk => ⟨sm_hv hk (fun j hj => (hX5 j hj).1) (hall7 k hk).1, sm_hv hk (fun j hj => (hX5 j hj).2) (hall7 k hk).2⟩
      refine lv_aload_n hx hb dX10_smooth_78 rfl (lv_at hl 2 rfl) ?_
      refine lv_aload_n hx hb dX10_smooth_79 rfl (lv_at hl 1 rfl) ?_
      refine lv_iload_n hx hb dX10_smooth_80 rfl (lv_at hl 3 rfl) ?_
      refine lv_iconst (v := 2) hx hb dX10_smooth_81 rfl ?_
      obtain ⟨hPc, hDc, hFc⟩ := zo_part (cx := [_, _, _, _, _, _, _, _, _, _, _, _, _, _, _, _, _, _, _, _, _, _, _, _]) hP hD hS hA [0, 1, 2, 3, 4, 5, 6, 7, 8, 9, 10, 11, 12, 13, 16, 17, 18, 19, 20, 21, 22, 23, 14, 15] (by decide +kernel) rfl
      refine zcall (st1 := [.int 0]) (va_runV (As := [.ref (fe f0), .int (nI f0), .int 2]) (rest := []) ⟨hx, hb, hml, hown, hts⟩ (k_moveTo_m_r l dC dI cI cZ cF H.size cO e0 mi x sh lw ro bq bp dq dp lv sl sd ul su ea mc9 fa FA bs dn T ft FT V VX VY tn rk wd tw pa pb wh of9 we kd st gb it mn cx cy T_1 f L f0 own fe cl la sp SA lo5 lx5 ly5 ln5 LX5 LY5 we5 r5 rx5 ry5 cap5 X5 Y5 dr tg wy br bo aa tx ty nt TX TY rt wx wz nw WX WY rw dx dy cd P7 Q7 b1 b2 b3 b4 b5 b6 b7 b8 2 (hG9) (hH9) (hft9) (hO9) (hc5) (hT_1) (by first | with_reducible assumption | assumption) (by first | with_reducible assumption | assumption) (hst) (hwf) (hkn) (by first | with_reducible assumption | omega) (by have := hkn0; have := hsm.1; omega) (fun h => hbad ⟨((alM_cx hw1.1 hX5).trans (alM_lw (VX := fun i => smv (pI (¬ 5 ≤ (kd f0).toInt ∧ (i = 0 ∨ i = (nN (mn f0)) - 1))) (cF40 cx f0 (prv (nN (mn f0)) i)) (cF40 cx f0 i) (cF40 cx f0 (nxt (nN (mn f0)) i))) (VY := fun i => smv (pI (¬ 5 ≤ (kd f0).toInt ∧ (i = 0 ∨ i = (nN (mn f0)) - 1))) (cF40 cy f0 (prv (nN (mn f0)) i)) (cF40 cy f0 i) (cF40 cy f0 (nxt (nN (mn f0)) i))) (by first | with_reducible assumption | omega) (by first | with_reducible assumption | omega) (hsm.2 (by first | with_reducible assumption | omega)).1 hv7 hwf hkn)).mp h.1, Classical.byContradiction fun g => h.2 ((mv_alk hv7 hX5).mpr g)⟩)) (csV_117 hts rfl rfl ⟨Nat.le_of_ble_eq_true rfl, Nat.le_of_ble_eq_true rfl⟩) (zPVL (q0 := 0) (ci := 8) hPc hDc hK hXL hS hFc rfl rfl) rfl rfl hl.1 rfl (lv_room (Nat.le_of_ble_eq_true rfl)) dX10_smooth_82 ⟨Nat.le_of_ble_eq_true rfl, Nat.le_of_ble_eq_true rfl⟩) hS hFc hFc rfl (fun t H locs ht hB hk1 hS => ?_)
      refine ex18 hB (fun ul8 su8 nt8 TX8 TY8 rt8 nw8 WX8 WY8 rw8 g08 g18 g28 g38 g48 g58 g68 g78 hB0 => ?_)
      clear hB
      obtain ⟨hP1, hD1⟩ := hB0
      rw [ht] at hP1
      obtain ⟨hP, hD⟩ := znP (W2 := [(oc8 x (.ref sh) (.ref lw) (.ref ro) (.ref bq) (.ref bp) (.ref dq) (.ref dp) (.ref lv) (.ref sl) (nI dn) sd ul8 su8), _, _, (oc6 tg (.ref tx) (.ref ty) (nI nt8) rt8), (oa tx cI 3 TX8), (oa ty cI 3 TY8), (oc6 wy (.ref wx) (.ref wz) (nI nw8) rw8), (oa wx cI 2 WX8), (oa wz cI 2 WY8), _, _, _, (oc0 br g08 g18 g28 g38), (oc0 bo g48 g58 g68 g78), _, _, _, _, _, _, _, _, _, _]) hP hD hk1 hFc hP1 hD1 zl_78 [] zl_81 zl_78 (by decide +kernel) rfl rfl rfl rfl rfl
      clear hk1 hPc hDc hFc hP1 hD1 ht
      obtain ⟨hP, hD⟩ := pl_bk (X := [_, _, _, _, _, _, _, _, _, _, _, _, _, _, _, _]) hT_1 hP rfl hc9_1 hD0_1 rfl
      obtain ⟨hP9, hD9⟩ := zu_part (cx := [_, _, _, _, _, _, _, _, _, _, _, _, _, _, _, _]) hP hD [true, true, true, true, true, true, true, true, true, true, true, true, true, true, true, true] rfl rfl
      rw [hQ9]
      exact W.zret (ty := .boolean) (v := 0) hx hb hr (rfl) (fun t ht hW => ⟨⟨rfl, ul8, su8, nt8, TX8, TY8, rt8, nw8, WX8, WY8, rw8, g08, g18, g28, g38, g48, g58, g68, g78, P7, Q7, by rw [ht]; exact hP9, hD9⟩, hS.F ht⟩) hS.2.2 dX10_smooth_85
    · have c_2 : ¬ (1 ≤ (kd f0).toInt ∧ (kd f0).toInt ≤ 5) := zp_0 c_2
      exfalso; exact absurd hkd (by first | with_reducible assumption | assumption)
  · have c_1 : ¬ (st f0).toInt = 1 := zc_ne rfl rfl c_1
    exfalso; omega
end
section
set_option maxHeartbeats 4000000 in
set_option maxRecDepth 100000 in
theorem k_grow_y (l : Launch) (dC : Nat → ClassId) (dI : Nat → Nat → Nat) (cI cZ cF : ClassId) (sz : Nat) (cO : ClassId) (e0 : Nat) (mi : Nat) (x : Nat) (sh : Nat) (lw : Nat) (ro : Nat) (bq : Nat) (bp : Nat) (dq : Nat) (dp : Nat) (lv : Nat) (sl : Nat) (sd : Int32) (ul : Int32) (su : Int32) (ea : Nat) (mc9 : Int32) (fa : Nat) (FA : Nat → Option Nat) (bs : Nat) (dn : Nat) (T : Nat) (ft : Nat) (FT : Nat → Nat) (V : Nat → Nat → Nat → Int32) (VX : Nat → Nat → Int32) (VY : Nat → Nat → Int32) (tn : Nat → Int32) (rk : Nat → Int32) (wd : Nat → Int32) (tw : Nat → Int32) (pa : Nat → Int32) (pb : Nat → Int32) (wh : Nat → Int32) (of9 : Nat → Int32) (we : Nat → Int32) (kd : Nat → Int32) (st : Nat → Int32) (gb : Nat → Int32) (it : Nat → Int32) (mn : Nat → Int32) (cx : Nat → Int32) (cy : Nat → Int32) (L : List Nat) (f : Nat → va_E) (f0 : Nat) (dr : Nat) (tg : Nat) (wy : Nat) (br : Nat) (bo : Nat) (aa : Nat) (tx : Nat) (ty : Nat) (nt : Nat) (TX : Nat → Int32) (TY : Nat → Int32) (rt : Int32) (wx : Nat) (wz : Nat) (nw : Nat) (WX : Nat → Int32) (WY : Nat → Int32) (rw : Int32) (dx : Nat) (dy : Nat) (nd : Nat) (cd : Nat) (P : Nat → Int32) (Q : Nat → Int32) (rd : Int32) (b1 : Int32) (b2 : Int32) (b3 : Int32) (b4 : Int32) (b5 : Int32) (b6 : Int32) (b7 : Int32) (b8 : Int32) (hB : shB cI cO L f e0 FA ea bs dn T ft FT V VX VY tn rk wd tw pa pb wh of9 we kd st gb it mn cx cy) (hd5 : dn + 1 ≤ 512) (hf0 : f0 < ft) (htn : (tn f0).toInt = 0) (hst : (st f0).toInt = 1) (hwf : ∀ q, lvF ft st tn q → wfM mn cx cy q) (hkn : okN ft st tn kd mn) (hsm : mSm (kd f0).toInt (nN (mn f0)) (cF40 cx f0) (cF40 cy f0)) (hcd : 40 ≤ cd ∧ cd ≤ 1000) (hkd : (kd f0).toInt = 6) (hlaw : lwM ft st tn kd mn cx cy f0 (nN (mn f0)) (fun i => 2 * cF40 cx f0 i - cF40 cx f0 0) (fun i => 2 * cF40 cy f0 i - cF40 cy f0 0)) (hmv : mvd (nN (mn f0)) (fun i => 2 * cF40 cx f0 i - cF40 cx f0 0) (fun i => 2 * cF40 cy f0 i - cF40 cy f0 0) (cF40 cx f0) (cF40 cy f0)) : zML l yX10_grow cX10_grow 4 (some .boolean) ({ frames := 9, cells := ft + 6, slots := 4 * ft + 2 * nN (mn f0) + 815, locals := 205 } : Room) [.ref x, .int (nI f0)] (dC, dI) (zTyO cI cZ cF cO) e0 mi ([(oc8 x (.ref sh) (.ref lw) (.ref ro) (.ref bq) (.ref bp) (.ref dq) (.ref dp) (.ref lv) (.ref sl) (nI dn) sd ul su), (oc10 sl mc9 (.ref ea) (nI T)), (oc3 lw (.ref dr) (.ref tg) (.ref wy) (.ref br) (.ref bo) (.ref aa)), (oc6 tg (.ref tx) (.ref ty) (nI nt) rt), (oa tx cI 3 TX), (oa ty cI 3 TY), (oc6 wy (.ref wx) (.ref wz) (nI nw) rw), (oa wx cI 2 WX), (oa wz cI 2 WY), (oc6 dr (.ref dx) (.ref dy) (nI nd) rd), (oa dx cI cd P), (oa dy cI cd Q), (oc0 br b1 b2 b3 b4), (oc0 bo b5 b6 b7 b8), (oc7 sh (.ref fa) (nI ft)), (oq fa cF 200 FA)] ++ va_pl L f) sz (some (.int 1)) (fun A t => ∃ (mc1 : Int32), ∃ (L1 : List Nat), ∃ (f1 : Nat → va_E), ∃ (ea1 : Nat), ∃ (nt1 : Nat), ∃ (TX1 : Nat → Int32), ∃ (TY1 : Nat → Int32), ∃ (rt1 : Int32), ∃ (nw1 : Nat), ∃ (WX1 : Nat → Int32), ∃ (WY1 : Nat → Int32), ∃ (rw1 : Int32), ∃ (d5 : Int32), ∃ (d6 : Int32), ∃ (d7 : Int32), ∃ (d8 : Int32), ∃ (e5 : Int32), ∃ (e6 : Int32), ∃ (e7 : Int32), ∃ (e8 : Int32), ∃ (P1 : Nat → Int32), ∃ (Q1 : Nat → Int32), (shB cI cO L1 f1 e0 FA ea1 bs (dn + 1) (dn + 1) ft (upN FT (dn + 1) ft) (upN V (dn + 1) (vC (V dn) kd st gb it mn)) (upN VX (dn + 1) (fgX f0 (nN (mn f0)) (fun i => 2 * cF40 cx f0 i - cF40 cx f0 0) cx)) (upN VY (dn + 1) (fgX f0 (nN (mn f0)) (fun i => 2 * cF40 cy f0 i - cF40 cy f0 0) cy)) tn rk wd tw pa pb (upd wh (dn + 1) (4 : Int32)) (upd of9 (dn + 1) (nI f0)) (upd we (dn + 1) (0 : Int32)) kd st gb it mn (fgX f0 (nN (mn f0)) (fun i => 2 * cF40 cx f0 i - cF40 cx f0 0) cx) (fgX f0 (nN (mn f0)) (fun i => 2 * cF40 cy f0 i - cF40 cy f0 0) cy)) ∧ zPD (dC, dI) classes A ([(oc8 x (.ref sh) (.ref lw) (.ref ro) (.ref bq) (.ref bp) (.ref dq) (.ref dp) (.ref lv) (.ref sl) (nI (dn + 1)) sd ul 0), (oc10 sl mc1 (.ref ea1) (nI (dn + 1))), (oc3 lw (.ref dr) (.ref tg) (.ref wy) (.ref br) (.ref bo) (.ref aa)), (oc6 tg (.ref tx) (.ref ty) (nI nt1) rt1), (oa tx cI 3 TX1), (oa ty cI 3 TY1), (oc6 wy (.ref wx) (.ref wz) (nI nw1) rw1), (oa wx cI 2 WX1), (oa wz cI 2 WY1), (oc6 dr (.ref dx) (.ref dy) (nI (nN (mn f0))) (rgK (kd f0).toInt)), (oa dx cI cd P1), (oa dy cI cd Q1), (oc0 br d5 d6 d7 d8), (oc0 bo e5 e6 e7 e8), (oc7 sh (.ref fa) (nI ft)), (oq fa cF 200 FA)] ++ va_pl L1 f1) t.heap) (ft + 6) (4 * ft + 2 * nN (mn f0) + 815) := by
  refine zInL (own := "ScaleShop") (loc := [(0, .ref x), (1, .int (nI f0))]) rfl rfl rfl rfl (fun p e s m below meth c hx hb hr hts hown hlocks hml hnm9 A hA hS hP hD hK hXL hXN hK3 Q9 hQ9 ls hl => ?_)
  obtain ⟨own, fe, cl, la, sp, SA, hG9, hH9, hft9, hO9⟩ := hB
  obtain ⟨hG, hM, hdT, hT5, hO⟩ := M_0 hG9 hH9 hft9 hO9
  have h200 : ft ≤ 200 := hG.2.2.2.2.2.1.2.2.2.2.2
  have hFA9 := hG.2.2.2.2.2.2
  refine ex13 (sh_fc hG.1 hG.2.1 (Nat.le_refl _) hf0 htn) (fun lo5 lx5 ly5 ln5 LX5 LY5 we5 r5 rx5 ry5 cap5 X5 Y5 hc5 => ?_)
  have hc5 := fc_0 hc5
  have hb5 := hc5.2.2.1
  have hb6 := hc5.2.1
  have hat9 := lo_at hO (Nat.le_refl _) hf0 hc5.1.1 hc5.1.2.2.2 (by omega) hc5.1.2.1 hb5.2.2
  have hlv : lvF ft st tn f0 := ⟨hf0, hst, htn⟩
  have hwf0 := hwf f0 hlv
  have hw1 := hwf0.2.1
  have hkn0 := hkn f0 hlv
  have hX5 := hc5.2.2.2.2.1
  have hc9_1 : inPl L f [(oc1 (fe f0) (rk f0) (wd f0) (tw f0) (pa f0) (pb f0) (.ref lo5) (.ref (la dn f0)) .null), (oc4 (la dn f0) (kd f0) (st f0) (.ref r5) (gb f0) (it f0) (nI we5)), (oc6 r5 (.ref rx5) (.ref ry5) (nI (nN (mn f0))) (rgK (kd f0).toInt)), (oa rx5 cI cap5 X5), (oa ry5 cI cap5 Y5), (oc6 lo5 (.ref lx5) (.ref ly5) (nI ln5) 0), (oa lx5 cI (cl f0) LX5), (oa ly5 cI (cl f0) LY5)] := ⟨ce_pl hc5.1.1, ce_pl hc5.1.2.1, ce_pl hc5.1.2.2.1.1, ce_pl hc5.1.2.2.1.2.1, ce_pl hc5.1.2.2.1.2.2.1, ce_pl hc5.1.2.2.2.1, ce_pl hc5.1.2.2.2.2.1, ce_pl hc5.1.2.2.2.2.2.1, trivial⟩
  have hD0_1 := hD
  obtain ⟨T_1, hT_1, hP, hD⟩ := pl_oT hP hD hc9_1 (pw8 hc5 (by omega))
  obtain ⟨hP, hD⟩ := zre (W2 := ([_, _, _, _, _, _, _, _, _, _, _, _, _, _, _, _, _, _, _, _, _, _, _, _] ++ va_pl T_1 f)) hP hD rfl
  refine lv_aload_n hx hb dX10_grow_0 rfl (lv_at hl 0 rfl) ?_
  refine va_get (D := (dC, dI)) (ci := 8) (v := .ref sh) (C := RX10) (T := TX10) (N := 13) hx hb hts inX10 hown hK hP 0 rfl rfl 0 (Nat.le_of_ble_eq_true rfl) (hts _ mw_309) (fun _ h9 => h9) rfl dX10_grow_1 ?_
  refine lv_iload_n hx hb dX10_grow_4 rfl (lv_at hl 1 rfl) ?_
  obtain ⟨hPc, hDc, hFc, hI1⟩ := zi_sub (wc := [_, _]) hP hD hS hA [14, 15] rfl rfl
  refine zcall (st1 := [.ref (fe f0)]) (va_runV (As := [.int (nI f0)]) (rest := []) ⟨hx, hb, hml, hown, hts⟩ (k_Sheet_find l dC dI cI cZ cF s.heap.size sh fa ft FA f0 (fe f0) (by first | with_reducible assumption | omega) (by first | with_reducible assumption | omega) (hFA9 f0 (by first | with_reducible assumption | omega))) (csV_94 hts rfl rfl ⟨Nat.le_of_ble_eq_true rfl, Nat.le_of_ble_eq_true rfl⟩) (zPV2 (q0 := 0) (ci := 7) hPc hDc hK3 hXN rfl rfl) rfl rfl hl.1 rfl (lv_room (Nat.le_of_ble_eq_true rfl)) dX10_grow_5 ⟨Nat.zero_le _, Nat.zero_le _⟩) hS hFc hFc rfl (fun t H locs ht hB hk1 hS => ?_)
  obtain ⟨hP1, hD1⟩ := hB
  rw [ht] at hP1
  replace hP := z0 hP hD hk1 hP1 hI1
  clear hk1 hPc hDc hFc hP1 hD1 ht hI1
  refine lv_astore_n (lv' := [(2, .ref (fe f0)), (0, .ref x), (1, .int (nI f0))]) hx hb dX10_grow_8 rfl hl (Nat.le_of_ble_eq_true rfl) rfl (fun ls hl => ?_)
  refine lv_aload_n hx hb dX10_grow_9 rfl (lv_at hl 0 rfl) ?_
  refine lv_ifnonnull (tgt := 19) hx hb dX10_grow_10 rfl ?_
  refine lv_aload_n hx hb dX10_grow_19 rfl (lv_at hl 0 rfl) ?_
  refine va_get (D := (dC, dI)) (ci := 1) (v := .ref (la dn f0)) (C := RX2) (T := TX2) (N := 8) hx hb hts inX2 hown hK hP 16 rfl rfl 6 (Nat.le_of_ble_eq_true rfl) (hts _ mw_433) (fun _ h9 => h9) rfl dX10_grow_20 ?_
  refine va_get (D := (dC, dI)) (ci := 4) (v := .int (st f0)) (C := RX5) (T := TX5) (N := 6) hx hb hts inX5 hown hK hP 17 rfl rfl 1 (Nat.le_of_ble_eq_true rfl) (hts _ mw_385) (fun _ h9 => h9) rfl dX10_grow_23 ?_
  refine lv_iconst (v := 1) hx hb dX10_grow_26 rfl ?_
  refine lv_icmp_eq (tgt := 36) hx hb dX10_grow_27 rfl (fun c_1 => ?_) (fun c_1 => ?_)
  · have c_1 : (st f0).toInt = 1 := zc_eq rfl rfl c_1
    refine lv_aload_n hx hb dX10_grow_36 rfl (lv_at hl 0 rfl) ?_
    refine va_get (D := (dC, dI)) (ci := 1) (v := .ref (la dn f0)) (C := RX2) (T := TX2) (N := 8) hx hb hts inX2 hown hK hP 16 rfl rfl 6 (Nat.le_of_ble_eq_true rfl) (hts _ mw_433) (fun _ h9 => h9) rfl dX10_grow_37 ?_
    refine va_get (D := (dC, dI)) (ci := 4) (v := .int (kd f0)) (C := RX5) (T := TX5) (N := 6) hx hb hts inX5 hown hK hP 17 rfl rfl 0 (Nat.le_of_ble_eq_true rfl) (hts _ mw_381) (fun _ h9 => h9) rfl dX10_grow_40 ?_
    refine lv_bipush (v := 6) hx hb dX10_grow_43 rfl ?_
    refine lv_icmp_eq (tgt := 54) hx hb dX10_grow_45 rfl (fun c_2 => ?_) (fun c_2 => ?_)
    · have c_2 : (kd f0).toInt = 6 := zc_eq rfl rfl c_2
      refine lv_aload_n hx hb dX10_grow_54 rfl (lv_at hl 0 rfl) ?_
      refine va_get (D := (dC, dI)) (ci := 1) (v := .ref (la dn f0)) (C := RX2) (T := TX2) (N := 8) hx hb hts inX2 hown hK hP 16 rfl rfl 6 (Nat.le_of_ble_eq_true rfl) (hts _ mw_433) (fun _ h9 => h9) rfl dX10_grow_55 ?_
      refine va_get (D := (dC, dI)) (ci := 4) (v := .ref r5) (C := RX5) (T := TX5) (N := 6) hx hb hts inX5 hown hK hP 17 rfl rfl 2 (Nat.le_of_ble_eq_true rfl) (hts _ mw_391) (fun _ h9 => h9) rfl dX10_grow_58 ?_
      refine lv_astore_n (lv' := [(3, .ref r5), (2, .ref (fe f0)), (0, .ref x), (1, .int (nI f0))]) hx hb dX10_grow_61 rfl hl (Nat.le_of_ble_eq_true rfl) rfl (fun ls hl => ?_)
      refine lv_aload_n hx hb dX10_grow_62 rfl (lv_at hl 0 rfl) ?_
      refine lv_ifnonnull (tgt := 72) hx hb dX10_grow_63 rfl ?_
      refine lv_aload_n hx hb dX10_grow_72 rfl (lv_at hl 2 rfl) ?_
      refine va_get (D := (dC, dI)) (ci := 8) (v := .ref lw) (C := RX10) (T := TX10) (N := 13) hx hb hts inX10 hown hK hP 0 rfl rfl 1 (Nat.le_of_ble_eq_true rfl) (hts _ mw_310) (fun _ h9 => h9) rfl dX10_grow_73 ?_
      refine va_get (D := (dC, dI)) (ci := 3) (v := .ref dr) (C := RX4) (T := TX4) (N := 6) hx hb hts inX4 hown hK hP 2 rfl rfl 0 (Nat.le_of_ble_eq_true rfl) (hts _ mw_220) (fun _ h9 => h9) rfl dX10_grow_76 ?_
      refine lv_aload_n hx hb dX10_grow_79 rfl (lv_at hl 0 rfl) ?_
      obtain ⟨hPc, hDc, hFc⟩ := zo_sub (wc := [_, _, _, _, _, _]) hP hD hS hA [9, 10, 11, 18, 19, 20] (by decide +kernel) rfl
      refine zcall (st1 := []) (va_runV (As := [.ref r5]) (rest := []) ⟨hx, hb, hml, hown, hts⟩ (k_Row_doubleFrom l dC dI cI cZ cF H.size dr dx dy nd cd P Q rd r5 rx5 ry5 (nN (mn f0)) cap5 X5 Y5 (rgK (kd f0).toInt) (by first | with_reducible assumption | omega) (by first | with_reducible assumption | omega) (by first | with_reducible assumption | omega) (by first | with_reducible assumption | omega) (rgK_01 _)) (csV_118 hts rfl rfl ⟨Nat.le_of_ble_eq_true rfl, Nat.le_of_ble_eq_true rfl⟩) (zPV2 (q0 := 0) (ci := 6) hPc hDc hK3 hXN rfl rfl) rfl rfl hl.1 rfl (lv_room (Nat.le_of_ble_eq_true rfl)) dX10_grow_80 ⟨Nat.zero_le _, Nat.zero_le _⟩) hS hFc hFc rfl (fun t H locs ht hB hk1 hS => ?_)
      obtain ⟨P7, Q7, hall7, hP1, hD1⟩ := hB
      rw [ht] at hP1
      obtain ⟨hP, hD⟩ := znQ (W2 := [_, _, _, _, _, _, _, _, _, (oc6 dr (.ref dx) (.ref dy) (nI (nN (mn f0))) (rgK (kd f0).toInt)), (oa dx cI cd P7), (oa dy cI cd Q7), _, _, _, _, _, _, _, _, _, _, _, _]) hP hD hk1 hFc hP1 hD1 [9, 10, 11, 18, 19, 20] zl_77 zl_77 [9, 10, 11, 18, 19, 20] (by decide +kernel) rfl rfl rfl rfl rfl
      clear hk1 hPc hDc hFc hP1 hD1 ht
      have hv7 : ∀ k, k < nN (mn f0) → P7 k = (fun i => 2 * cF40 cx f0 i - cF40 cx f0 0) k ∧ Q7 k = (fun i => 2 * cF40 cy f0 i - cF40 cy f0 0) k := fun k hk => by rw [(hall7 k hk).1, (hall7 k hk).2, (hX5 k hk).1, (hX5 k hk).2, (hX5 0 (by omega)).1, (hX5 0 (by omega)).2]; exact ⟨rfl, rfl⟩
      refine lv_aload_n hx hb dX10_grow_83 rfl (lv_at hl 2 rfl) ?_
      refine lv_aload_n hx hb dX10_grow_84 rfl (lv_at hl 1 rfl) ?_
      refine lv_iload_n hx hb dX10_grow_85 rfl (lv_at hl 3 rfl) ?_
      refine lv_iconst (v := 4) hx hb dX10_grow_86 rfl ?_
      obtain ⟨hPc, hDc, hFc⟩ := zo_part (cx := [_, _, _, _, _, _, _, _, _, _, _, _, _, _, _, _, _, _, _, _, _, _, _, _]) hP hD hS hA [0, 1, 2, 3, 4, 5, 6, 7, 8, 9, 10, 11, 12, 13, 16, 17, 18, 19, 20, 21, 22, 23, 14, 15] (by decide +kernel) rfl
      refine zcall (st1 := [.int 1]) (va_runV (As := [.ref (fe f0), .int (nI f0), .int 4]) (rest := []) ⟨hx, hb, hml, hown, hts⟩ (k_moveTo_m_y l dC dI cI cZ cF H.size cO e0 mi x sh lw ro bq bp dq dp lv sl sd ul su ea mc9 fa FA bs dn T ft FT V VX VY tn rk wd tw pa pb wh of9 we kd st gb it mn cx cy T_1 f L f0 own fe cl la sp SA lo5 lx5 ly5 ln5 LX5 LY5 we5 r5 rx5 ry5 cap5 X5 Y5 dr tg wy br bo aa tx ty nt TX TY rt wx wz nw WX WY rw dx dy cd P7 Q7 b1 b2 b3 b4 b5 b6 b7 b8 4 (fgX f0 (nN (mn f0)) (fun i => 2 * cF40 cx f0 i - cF40 cx f0 0) cx) (fgX f0 (nN (mn f0)) (fun i => 2 * cF40 cy f0 i - cF40 cy f0 0) cy) (hG9) (hH9) (hft9) (hO9) (hc5) (hT_1) (by first | with_reducible assumption | assumption) (by first | with_reducible assumption | assumption) (hst) (hwf) (hkn) (by first | with_reducible assumption | omega) (by have := hkn0; have := hsm.1; omega) (by first | with_reducible assumption | omega) (((alM_cx hw1.1 hX5).trans (alM_lw (VX := fun i => 2 * cF40 cx f0 i - cF40 cx f0 0) (VY := fun i => 2 * cF40 cy f0 i - cF40 cy f0 0) (by first | with_reducible assumption | omega) (by first | with_reducible assumption | omega) (hsm.2 (by first | with_reducible assumption | omega)).1 hv7 hwf hkn)).mpr hlaw) (fun h => absurd hmv ((mv_alk hv7 hX5).mp h)) (fun k hk => by rw [fgX_f k hk, fgX_f k hk]; exact hv7 k hk) (fun j hj => ⟨fgX_o (by first | with_reducible assumption | omega), fgX_o (by first | with_reducible assumption | omega)⟩)) (csV_117 hts rfl rfl ⟨Nat.le_of_ble_eq_true rfl, Nat.le_of_ble_eq_true rfl⟩) (zPVL (q0 := 0) (ci := 8) hPc hDc hK hXL hS hFc rfl rfl) rfl rfl hl.1 rfl (lv_room (Nat.le_of_ble_eq_true rfl)) dX10_grow_87 ⟨show (0 + (ft + 6)) ≤ ft + 6 by omega, show (0 + (4 * ft + 2 * nN (mn f0) + 815)) ≤ 4 * ft + 2 * nN (mn f0) + 815 by omega⟩) hS hFc hFc rfl (fun t H locs ht hB hk1 hS => ?_)
      refine ex20 hB (fun mc8 L8 f8 ea8 nt8 TX8 TY8 rt8 nw8 WX8 WY8 rw8 g08 g18 g28 g38 g48 g58 g68 g78 hB0 => ?_)
      clear hB
      obtain ⟨hB6, hP1, hD1⟩ := hB0
      rw [ht] at hP1
      obtain ⟨hP, hD⟩ := znP (W2 := [(oc8 x (.ref sh) (.ref lw) (.ref ro) (.ref bq) (.ref bp) (.ref dq) (.ref dp) (.ref lv) (.ref sl) (nI (dn + 1)) sd ul 0), (oc10 sl mc8 (.ref ea8) (nI (dn + 1))), (oc3 lw (.ref dr) (.ref tg) (.ref wy) (.ref br) (.ref bo) (.ref aa)), (oc6 tg (.ref tx) (.ref ty) (nI nt8) rt8), (oa tx cI 3 TX8), (oa ty cI 3 TY8), (oc6 wy (.ref wx) (.ref wz) (nI nw8) rw8), (oa wx cI 2 WX8), (oa wz cI 2 WY8), (oc6 dr (.ref dx) (.ref dy) (nI (nN (mn f0))) (rgK (kd f0).toInt)), (oa dx cI cd P7), (oa dy cI cd Q7), (oc0 br g08 g18 g28 g38), (oc0 bo g48 g58 g68 g78), (oc7 sh (.ref fa) (nI ft)), (oq fa cF 200 FA)]) hP hD hk1 hFc hP1 hD1 zl_78 [] zl_79 zl_80 (by decide +kernel) rfl rfl rfl rfl rfl
      clear hk1 hPc hDc hFc hP1 hD1 ht
      obtain ⟨hP9, hD9⟩ := zu_part (cx := [_, _, _, _, _, _, _, _, _, _, _, _, _, _, _, _]) hP hD [true, true, true, true, true, true, true, true, true, true, true, true, true, true, true, true] rfl rfl
      refine W.widen (k := ft + 6) (n := 4 * ft + 2 * nN (mn f0) + 815) (by omega) (by omega) ?_
      rw [hQ9]
      exact W.zret (ty := .boolean) (v := 1) hx hb hr (rfl) (fun t ht hW => ⟨⟨rfl, mc8, L8, f8, ea8, nt8, TX8, TY8, rt8, nw8, WX8, WY8, rw8, g08, g18, g28, g38, g48, g58, g68, g78, P7, Q7, (hB6), by rw [ht]; exact hP9, hD9⟩, hS.F ht⟩) hS.2.2 dX10_grow_90
    · have c_2 : ¬ (kd f0).toInt = 6 := zc_ne rfl rfl c_2
      exfalso; omega
  · have c_1 : ¬ (st f0).toInt = 1 := zc_ne rfl rfl c_1
    exfalso; omega
set_option maxHeartbeats 4000000 in
set_option maxRecDepth 100000 in
theorem k_grow_n (l : Launch) (dC : Nat → ClassId) (dI : Nat → Nat → Nat) (cI cZ cF : ClassId) (sz : Nat) (cO : ClassId) (e0 : Nat) (mi : Nat) (x : Nat) (sh : Nat) (lw : Nat) (ro : Nat) (bq : Nat) (bp : Nat) (dq : Nat) (dp : Nat) (lv : Nat) (sl : Nat) (sd : Int32) (ul : Int32) (su : Int32) (ea : Nat) (mc9 : Int32) (fa : Nat) (FA : Nat → Option Nat) (bs : Nat) (dn : Nat) (T : Nat) (ft : Nat) (FT : Nat → Nat) (V : Nat → Nat → Nat → Int32) (VX : Nat → Nat → Int32) (VY : Nat → Nat → Int32) (tn : Nat → Int32) (rk : Nat → Int32) (wd : Nat → Int32) (tw : Nat → Int32) (pa : Nat → Int32) (pb : Nat → Int32) (wh : Nat → Int32) (of9 : Nat → Int32) (we : Nat → Int32) (kd : Nat → Int32) (st : Nat → Int32) (gb : Nat → Int32) (it : Nat → Int32) (mn : Nat → Int32) (cx : Nat → Int32) (cy : Nat → Int32) (L : List Nat) (f : Nat → va_E) (f0 : Nat) (dr : Nat) (tg : Nat) (wy : Nat) (br : Nat) (bo : Nat) (aa : Nat) (tx : Nat) (ty : Nat) (nt : Nat) (TX : Nat → Int32) (TY : Nat → Int32) (rt : Int32) (wx : Nat) (wz : Nat) (nw : Nat) (WX : Nat → Int32) (WY : Nat → Int32) (rw : Int32) (dx : Nat) (dy : Nat) (nd : Nat) (cd : Nat) (P : Nat → Int32) (Q : Nat → Int32) (rd : Int32) (b1 : Int32) (b2 : Int32) (b3 : Int32) (b4 : Int32) (b5 : Int32) (b6 : Int32) (b7 : Int32) (b8 : Int32) (hB : shB cI cO L f e0 FA ea bs dn T ft FT V VX VY tn rk wd tw pa pb wh of9 we kd st gb it mn cx cy) (hf0 : f0 < ft) (htn : (tn f0).toInt = 0) (hst : (st f0).toInt = 1) (hwf : ∀ q, lvF ft st tn q → wfM mn cx cy q) (hkn : okN ft st tn kd mn) (hsm : mSm (kd f0).toInt (nN (mn f0)) (cF40 cx f0) (cF40 cy f0)) (hcd : 40 ≤ cd ∧ cd ≤ 1000) (hkd : (kd f0).toInt = 6) (hbad : ¬ ((lwM ft st tn kd mn cx cy f0 (nN (mn f0)) (fun i => 2 * cF40 cx f0 i - cF40 cx f0 0) (fun i => 2 * cF40 cy f0 i - cF40 cy f0 0)) ∧ mvd (nN (mn f0)) (fun i => 2 * cF40 cx f0 i - cF40 cx f0 0) (fun i => 2 * cF40 cy f0 i - cF40 cy f0 0) (cF40 cx f0) (cF40 cy f0))) : zML l yX10_grow cX10_grow 4 (some .boolean) ({ frames := 6, cells := 0, slots := 0, locals := 155 } : Room) [.ref x, .int (nI f0)] (dC, dI) (zTyO cI cZ cF cO) e0 mi ([(oc8 x (.ref sh) (.ref lw) (.ref ro) (.ref bq) (.ref bp) (.ref dq) (.ref dp) (.ref lv) (.ref sl) (nI dn) sd ul su), (oc10 sl mc9 (.ref ea) (nI T)), (oc3 lw (.ref dr) (.ref tg) (.ref wy) (.ref br) (.ref bo) (.ref aa)), (oc6 tg (.ref tx) (.ref ty) (nI nt) rt), (oa tx cI 3 TX), (oa ty cI 3 TY), (oc6 wy (.ref wx) (.ref wz) (nI nw) rw), (oa wx cI 2 WX), (oa wz cI 2 WY), (oc6 dr (.ref dx) (.ref dy) (nI nd) rd), (oa dx cI cd P), (oa dy cI cd Q), (oc0 br b1 b2 b3 b4), (oc0 bo b5 b6 b7 b8), (oc7 sh (.ref fa) (nI ft)), (oq fa cF 200 FA)] ++ va_pl L f) sz (some (.int 0)) (fun A t => ∃ (ul1 : Int32), ∃ (su1 : Int32), ∃ (nt1 : Nat), ∃ (TX1 : Nat → Int32), ∃ (TY1 : Nat → Int32), ∃ (rt1 : Int32), ∃ (nw1 : Nat), ∃ (WX1 : Nat → Int32), ∃ (WY1 : Nat → Int32), ∃ (rw1 : Int32), ∃ (d5 : Int32), ∃ (d6 : Int32), ∃ (d7 : Int32), ∃ (d8 : Int32), ∃ (e5 : Int32), ∃ (e6 : Int32), ∃ (e7 : Int32), ∃ (e8 : Int32), ∃ (P1 : Nat → Int32), ∃ (Q1 : Nat → Int32), zPD (dC, dI) classes A ([(oc8 x (.ref sh) (.ref lw) (.ref ro) (.ref bq) (.ref bp) (.ref dq) (.ref dp) (.ref lv) (.ref sl) (nI dn) sd ul1 su1), (oc10 sl mc9 (.ref ea) (nI T)), (oc3 lw (.ref dr) (.ref tg) (.ref wy) (.ref br) (.ref bo) (.ref aa)), (oc6 tg (.ref tx) (.ref ty) (nI nt1) rt1), (oa tx cI 3 TX1), (oa ty cI 3 TY1), (oc6 wy (.ref wx) (.ref wz) (nI nw1) rw1), (oa wx cI 2 WX1), (oa wz cI 2 WY1), (oc6 dr (.ref dx) (.ref dy) (nI (nN (mn f0))) (rgK (kd f0).toInt)), (oa dx cI cd P1), (oa dy cI cd Q1), (oc0 br d5 d6 d7 d8), (oc0 bo e5 e6 e7 e8), (oc7 sh (.ref fa) (nI ft)), (oq fa cF 200 FA)] ++ va_pl L f) t.heap) 0 0 := by
  refine zInL (own := "ScaleShop") (loc := [(0, .ref x), (1, .int (nI f0))]) rfl rfl rfl rfl (fun p e s m below meth c hx hb hr hts hown hlocks hml hnm9 A hA hS hP hD hK hXL hXN hK3 Q9 hQ9 ls hl => ?_)
  obtain ⟨own, fe, cl, la, sp, SA, hG9, hH9, hft9, hO9⟩ := hB
  obtain ⟨hG, hM, hdT, hT5, hO⟩ := M_0 hG9 hH9 hft9 hO9
  have h200 : ft ≤ 200 := hG.2.2.2.2.2.1.2.2.2.2.2
  have hFA9 := hG.2.2.2.2.2.2
  refine ex13 (sh_fc hG.1 hG.2.1 (Nat.le_refl _) hf0 htn) (fun lo5 lx5 ly5 ln5 LX5 LY5 we5 r5 rx5 ry5 cap5 X5 Y5 hc5 => ?_)
  have hc5 := fc_0 hc5
  have hb5 := hc5.2.2.1
  have hb6 := hc5.2.1
  have hat9 := lo_at hO (Nat.le_refl _) hf0 hc5.1.1 hc5.1.2.2.2 (by omega) hc5.1.2.1 hb5.2.2
  have hlv : lvF ft st tn f0 := ⟨hf0, hst, htn⟩
  have hwf0 := hwf f0 hlv
  have hw1 := hwf0.2.1
  have hkn0 := hkn f0 hlv
  have hX5 := hc5.2.2.2.2.1
  have hc9_1 : inPl L f [(oc1 (fe f0) (rk f0) (wd f0) (tw f0) (pa f0) (pb f0) (.ref lo5) (.ref (la dn f0)) .null), (oc4 (la dn f0) (kd f0) (st f0) (.ref r5) (gb f0) (it f0) (nI we5)), (oc6 r5 (.ref rx5) (.ref ry5) (nI (nN (mn f0))) (rgK (kd f0).toInt)), (oa rx5 cI cap5 X5), (oa ry5 cI cap5 Y5), (oc6 lo5 (.ref lx5) (.ref ly5) (nI ln5) 0), (oa lx5 cI (cl f0) LX5), (oa ly5 cI (cl f0) LY5)] := ⟨ce_pl hc5.1.1, ce_pl hc5.1.2.1, ce_pl hc5.1.2.2.1.1, ce_pl hc5.1.2.2.1.2.1, ce_pl hc5.1.2.2.1.2.2.1, ce_pl hc5.1.2.2.2.1, ce_pl hc5.1.2.2.2.2.1, ce_pl hc5.1.2.2.2.2.2.1, trivial⟩
  have hD0_1 := hD
  obtain ⟨T_1, hT_1, hP, hD⟩ := pl_oT hP hD hc9_1 (pw8 hc5 (by omega))
  obtain ⟨hP, hD⟩ := zre (W2 := ([_, _, _, _, _, _, _, _, _, _, _, _, _, _, _, _, _, _, _, _, _, _, _, _] ++ va_pl T_1 f)) hP hD rfl
  refine lv_aload_n hx hb dX10_grow_0 rfl (lv_at hl 0 rfl) ?_
  refine va_get (D := (dC, dI)) (ci := 8) (v := .ref sh) (C := RX10) (T := TX10) (N := 13) hx hb hts inX10 hown hK hP 0 rfl rfl 0 (Nat.le_of_ble_eq_true rfl) (hts _ mw_309) (fun _ h9 => h9) rfl dX10_grow_1 ?_
  refine lv_iload_n hx hb dX10_grow_4 rfl (lv_at hl 1 rfl) ?_
  obtain ⟨hPc, hDc, hFc, hI1⟩ := zi_sub (wc := [_, _]) hP hD hS hA [14, 15] rfl rfl
  refine zcall (st1 := [.ref (fe f0)]) (va_runV (As := [.int (nI f0)]) (rest := []) ⟨hx, hb, hml, hown, hts⟩ (k_Sheet_find l dC dI cI cZ cF s.heap.size sh fa ft FA f0 (fe f0) (by first | with_reducible assumption | omega) (by first | with_reducible assumption | omega) (hFA9 f0 (by first | with_reducible assumption | omega))) (csV_94 hts rfl rfl ⟨Nat.le_of_ble_eq_true rfl, Nat.le_of_ble_eq_true rfl⟩) (zPV2 (q0 := 0) (ci := 7) hPc hDc hK3 hXN rfl rfl) rfl rfl hl.1 rfl (lv_room (Nat.le_of_ble_eq_true rfl)) dX10_grow_5 ⟨Nat.le_of_ble_eq_true rfl, Nat.le_of_ble_eq_true rfl⟩) hS hFc hFc rfl (fun t H locs ht hB hk1 hS => ?_)
  obtain ⟨hP1, hD1⟩ := hB
  rw [ht] at hP1
  replace hP := z0 hP hD hk1 hP1 hI1
  clear hk1 hPc hDc hFc hP1 hD1 ht hI1
  refine lv_astore_n (lv' := [(2, .ref (fe f0)), (0, .ref x), (1, .int (nI f0))]) hx hb dX10_grow_8 rfl hl (Nat.le_of_ble_eq_true rfl) rfl (fun ls hl => ?_)
  refine lv_aload_n hx hb dX10_grow_9 rfl (lv_at hl 0 rfl) ?_
  refine lv_ifnonnull (tgt := 19) hx hb dX10_grow_10 rfl ?_
  refine lv_aload_n hx hb dX10_grow_19 rfl (lv_at hl 0 rfl) ?_
  refine va_get (D := (dC, dI)) (ci := 1) (v := .ref (la dn f0)) (C := RX2) (T := TX2) (N := 8) hx hb hts inX2 hown hK hP 16 rfl rfl 6 (Nat.le_of_ble_eq_true rfl) (hts _ mw_433) (fun _ h9 => h9) rfl dX10_grow_20 ?_
  refine va_get (D := (dC, dI)) (ci := 4) (v := .int (st f0)) (C := RX5) (T := TX5) (N := 6) hx hb hts inX5 hown hK hP 17 rfl rfl 1 (Nat.le_of_ble_eq_true rfl) (hts _ mw_385) (fun _ h9 => h9) rfl dX10_grow_23 ?_
  refine lv_iconst (v := 1) hx hb dX10_grow_26 rfl ?_
  refine lv_icmp_eq (tgt := 36) hx hb dX10_grow_27 rfl (fun c_1 => ?_) (fun c_1 => ?_)
  · have c_1 : (st f0).toInt = 1 := zc_eq rfl rfl c_1
    refine lv_aload_n hx hb dX10_grow_36 rfl (lv_at hl 0 rfl) ?_
    refine va_get (D := (dC, dI)) (ci := 1) (v := .ref (la dn f0)) (C := RX2) (T := TX2) (N := 8) hx hb hts inX2 hown hK hP 16 rfl rfl 6 (Nat.le_of_ble_eq_true rfl) (hts _ mw_433) (fun _ h9 => h9) rfl dX10_grow_37 ?_
    refine va_get (D := (dC, dI)) (ci := 4) (v := .int (kd f0)) (C := RX5) (T := TX5) (N := 6) hx hb hts inX5 hown hK hP 17 rfl rfl 0 (Nat.le_of_ble_eq_true rfl) (hts _ mw_381) (fun _ h9 => h9) rfl dX10_grow_40 ?_
    refine lv_bipush (v := 6) hx hb dX10_grow_43 rfl ?_
    refine lv_icmp_eq (tgt := 54) hx hb dX10_grow_45 rfl (fun c_2 => ?_) (fun c_2 => ?_)
    · have c_2 : (kd f0).toInt = 6 := zc_eq rfl rfl c_2
      refine lv_aload_n hx hb dX10_grow_54 rfl (lv_at hl 0 rfl) ?_
      refine va_get (D := (dC, dI)) (ci := 1) (v := .ref (la dn f0)) (C := RX2) (T := TX2) (N := 8) hx hb hts inX2 hown hK hP 16 rfl rfl 6 (Nat.le_of_ble_eq_true rfl) (hts _ mw_433) (fun _ h9 => h9) rfl dX10_grow_55 ?_
      refine va_get (D := (dC, dI)) (ci := 4) (v := .ref r5) (C := RX5) (T := TX5) (N := 6) hx hb hts inX5 hown hK hP 17 rfl rfl 2 (Nat.le_of_ble_eq_true rfl) (hts _ mw_391) (fun _ h9 => h9) rfl dX10_grow_58 ?_
      refine lv_astore_n (lv' := [(3, .ref r5), (2, .ref (fe f0)), (0, .ref x), (1, .int (nI f0))]) hx hb dX10_grow_61 rfl hl (Nat.le_of_ble_eq_true rfl) rfl (fun ls hl => ?_)
      refine lv_aload_n hx hb dX10_grow_62 rfl (lv_at hl 0 rfl) ?_
      refine lv_ifnonnull (tgt := 72) hx hb dX10_grow_63 rfl ?_
      refine lv_aload_n hx hb dX10_grow_72 rfl (lv_at hl 2 rfl) ?_
      refine va_get (D := (dC, dI)) (ci := 8) (v := .ref lw) (C := RX10) (T := TX10) (N := 13) hx hb hts inX10 hown hK hP 0 rfl rfl 1 (Nat.le_of_ble_eq_true rfl) (hts _ mw_310) (fun _ h9 => h9) rfl dX10_grow_73 ?_
      refine va_get (D := (dC, dI)) (ci := 3) (v := .ref dr) (C := RX4) (T := TX4) (N := 6) hx hb hts inX4 hown hK hP 2 rfl rfl 0 (Nat.le_of_ble_eq_true rfl) (hts _ mw_220) (fun _ h9 => h9) rfl dX10_grow_76 ?_
      refine lv_aload_n hx hb dX10_grow_79 rfl (lv_at hl 0 rfl) ?_
      obtain ⟨hPc, hDc, hFc⟩ := zo_sub (wc := [_, _, _, _, _, _]) hP hD hS hA [9, 10, 11, 18, 19, 20] (by decide +kernel) rfl
      refine zcall (st1 := []) (va_runV (As := [.ref r5]) (rest := []) ⟨hx, hb, hml, hown, hts⟩ (k_Row_doubleFrom l dC dI cI cZ cF H.size dr dx dy nd cd P Q rd r5 rx5 ry5 (nN (mn f0)) cap5 X5 Y5 (rgK (kd f0).toInt) (by first | with_reducible assumption | omega) (by first | with_reducible assumption | omega) (by first | with_reducible assumption | omega) (by first | with_reducible assumption | omega) (rgK_01 _)) (csV_118 hts rfl rfl ⟨Nat.le_of_ble_eq_true rfl, Nat.le_of_ble_eq_true rfl⟩) (zPV2 (q0 := 0) (ci := 6) hPc hDc hK3 hXN rfl rfl) rfl rfl hl.1 rfl (lv_room (Nat.le_of_ble_eq_true rfl)) dX10_grow_80 ⟨Nat.le_of_ble_eq_true rfl, Nat.le_of_ble_eq_true rfl⟩) hS hFc hFc rfl (fun t H locs ht hB hk1 hS => ?_)
      obtain ⟨P7, Q7, hall7, hP1, hD1⟩ := hB
      rw [ht] at hP1
      obtain ⟨hP, hD⟩ := znQ (W2 := [_, _, _, _, _, _, _, _, _, (oc6 dr (.ref dx) (.ref dy) (nI (nN (mn f0))) (rgK (kd f0).toInt)), (oa dx cI cd P7), (oa dy cI cd Q7), _, _, _, _, _, _, _, _, _, _, _, _]) hP hD hk1 hFc hP1 hD1 [9, 10, 11, 18, 19, 20] zl_77 zl_77 [9, 10, 11, 18, 19, 20] (by decide +kernel) rfl rfl rfl rfl rfl
      clear hk1 hPc hDc hFc hP1 hD1 ht
      have hv7 : ∀ k, k < nN (mn f0) → P7 k = (fun i => 2 * cF40 cx f0 i - cF40 cx f0 0) k ∧ Q7 k = (fun i => 2 * cF40 cy f0 i - cF40 cy f0 0) k := fun k hk => by rw [(hall7 k hk).1, (hall7 k hk).2, (hX5 k hk).1, (hX5 k hk).2, (hX5 0 (by omega)).1, (hX5 0 (by omega)).2]; exact ⟨rfl, rfl⟩
      refine lv_aload_n hx hb dX10_grow_83 rfl (lv_at hl 2 rfl) ?_
      refine lv_aload_n hx hb dX10_grow_84 rfl (lv_at hl 1 rfl) ?_
      refine lv_iload_n hx hb dX10_grow_85 rfl (lv_at hl 3 rfl) ?_
      refine lv_iconst (v := 4) hx hb dX10_grow_86 rfl ?_
      obtain ⟨hPc, hDc, hFc⟩ := zo_part (cx := [_, _, _, _, _, _, _, _, _, _, _, _, _, _, _, _, _, _, _, _, _, _, _, _]) hP hD hS hA [0, 1, 2, 3, 4, 5, 6, 7, 8, 9, 10, 11, 12, 13, 16, 17, 18, 19, 20, 21, 22, 23, 14, 15] (by decide +kernel) rfl
      refine zcall (st1 := [.int 0]) (va_runV (As := [.ref (fe f0), .int (nI f0), .int 4]) (rest := []) ⟨hx, hb, hml, hown, hts⟩ (k_moveTo_m_r l dC dI cI cZ cF H.size cO e0 mi x sh lw ro bq bp dq dp lv sl sd ul su ea mc9 fa FA bs dn T ft FT V VX VY tn rk wd tw pa pb wh of9 we kd st gb it mn cx cy T_1 f L f0 own fe cl la sp SA lo5 lx5 ly5 ln5 LX5 LY5 we5 r5 rx5 ry5 cap5 X5 Y5 dr tg wy br bo aa tx ty nt TX TY rt wx wz nw WX WY rw dx dy cd P7 Q7 b1 b2 b3 b4 b5 b6 b7 b8 4 (hG9) (hH9) (hft9) (hO9) (hc5) (hT_1) (by first | with_reducible assumption | assumption) (by first | with_reducible assumption | assumption) (hst) (hwf) (hkn) (by first | with_reducible assumption | omega) (by have := hkn0; have := hsm.1; omega) (fun h => hbad ⟨((alM_cx hw1.1 hX5).trans (alM_lw (VX := fun i => 2 * cF40 cx f0 i - cF40 cx f0 0) (VY := fun i => 2 * cF40 cy f0 i - cF40 cy f0 0) (by first | with_reducible assumption | omega) (by first | with_reducible assumption | omega) (hsm.2 (by first | with_reducible assumption | omega)).1 hv7 hwf hkn)).mp h.1, Classical.byContradiction fun g => h.2 ((mv_alk hv7 hX5).mpr g)⟩)) (csV_117 hts rfl rfl ⟨Nat.le_of_ble_eq_true rfl, Nat.le_of_ble_eq_true rfl⟩) (zPVL (q0 := 0) (ci := 8) hPc hDc hK hXL hS hFc rfl rfl) rfl rfl hl.1 rfl (lv_room (Nat.le_of_ble_eq_true rfl)) dX10_grow_87 ⟨Nat.le_of_ble_eq_true rfl, Nat.le_of_ble_eq_true rfl⟩) hS hFc hFc rfl (fun t H locs ht hB hk1 hS => ?_)
      refine ex18 hB (fun ul8 su8 nt8 TX8 TY8 rt8 nw8 WX8 WY8 rw8 g08 g18 g28 g38 g48 g58 g68 g78 hB0 => ?_)
      clear hB
      obtain ⟨hP1, hD1⟩ := hB0
      rw [ht] at hP1
      obtain ⟨hP, hD⟩ := znP (W2 := [(oc8 x (.ref sh) (.ref lw) (.ref ro) (.ref bq) (.ref bp) (.ref dq) (.ref dp) (.ref lv) (.ref sl) (nI dn) sd ul8 su8), _, _, (oc6 tg (.ref tx) (.ref ty) (nI nt8) rt8), (oa tx cI 3 TX8), (oa ty cI 3 TY8), (oc6 wy (.ref wx) (.ref wz) (nI nw8) rw8), (oa wx cI 2 WX8), (oa wz cI 2 WY8), _, _, _, (oc0 br g08 g18 g28 g38), (oc0 bo g48 g58 g68 g78), _, _, _, _, _, _, _, _, _, _]) hP hD hk1 hFc hP1 hD1 zl_78 [] zl_81 zl_78 (by decide +kernel) rfl rfl rfl rfl rfl
      clear hk1 hPc hDc hFc hP1 hD1 ht
      obtain ⟨hP, hD⟩ := pl_bk (X := [_, _, _, _, _, _, _, _, _, _, _, _, _, _, _, _]) hT_1 hP rfl hc9_1 hD0_1 rfl
      obtain ⟨hP9, hD9⟩ := zu_part (cx := [_, _, _, _, _, _, _, _, _, _, _, _, _, _, _, _]) hP hD [true, true, true, true, true, true, true, true, true, true, true, true, true, true, true, true] rfl rfl
      rw [hQ9]
      exact W.zret (ty := .boolean) (v := 0) hx hb hr (rfl) (fun t ht hW => ⟨⟨rfl, ul8, su8, nt8, TX8, TY8, rt8, nw8, WX8, WY8, rw8, g08, g18, g28, g38, g48, g58, g68, g78, P7, Q7, by rw [ht]; exact hP9, hD9⟩, hS.F ht⟩) hS.2.2 dX10_grow_90
    · have c_2 : ¬ (kd f0).toInt = 6 := zc_ne rfl rfl c_2
      exfalso; omega
  · have c_1 : ¬ (st f0).toInt = 1 := zc_ne rfl rfl c_1
    exfalso; omega
end
section
set_option maxHeartbeats 4000000 in
set_option maxRecDepth 100000 in
theorem k_shiftp_y (l : Launch) (dC : Nat → ClassId) (dI : Nat → Nat → Nat) (cI cZ cF : ClassId) (sz : Nat) (cO : ClassId) (e0 : Nat) (mi : Nat) (x : Nat) (sh : Nat) (lw : Nat) (ro : Nat) (bq : Nat) (bp : Nat) (dq : Nat) (dp : Nat) (lv : Nat) (sl : Nat) (sd : Int32) (ul : Int32) (su : Int32) (ea : Nat) (mc9 : Int32) (fa : Nat) (FA : Nat → Option Nat) (bs : Nat) (dn : Nat) (T : Nat) (ft : Nat) (FT : Nat → Nat) (V : Nat → Nat → Nat → Int32) (VX : Nat → Nat → Int32) (VY : Nat → Nat → Int32) (tn : Nat → Int32) (rk : Nat → Int32) (wd : Nat → Int32) (tw : Nat → Int32) (pa : Nat → Int32) (pb : Nat → Int32) (wh : Nat → Int32) (of9 : Nat → Int32) (we : Nat → Int32) (kd : Nat → Int32) (st : Nat → Int32) (gb : Nat → Int32) (it : Nat → Int32) (mn : Nat → Int32) (cx : Nat → Int32) (cy : Nat → Int32) (L : List Nat) (f : Nat → va_E) (f0 : Nat) (dr : Nat) (tg : Nat) (wy : Nat) (br : Nat) (bo : Nat) (aa : Nat) (tx : Nat) (ty : Nat) (nt : Nat) (TX : Nat → Int32) (TY : Nat → Int32) (rt : Int32) (wx : Nat) (wz : Nat) (nw : Nat) (WX : Nat → Int32) (WY : Nat → Int32) (rw : Int32) (dx : Nat) (dy : Nat) (nd : Nat) (cd : Nat) (P : Nat → Int32) (Q : Nat → Int32) (rd : Int32) (b1 : Int32) (b2 : Int32) (b3 : Int32) (b4 : Int32) (b5 : Int32) (b6 : Int32) (b7 : Int32) (b8 : Int32) (kk : Nat) (rr : Nat) (sx : Int32) (sy : Int32) (hB : shB cI cO L f e0 FA ea bs dn T ft FT V VX VY tn rk wd tw pa pb wh of9 we kd st gb it mn cx cy) (hd5 : dn + 1 ≤ 512) (hf0 : f0 < ft) (htn : (tn f0).toInt = 0) (hst : (st f0).toInt = 1) (hwf : ∀ q, lvF ft st tn q → wfM mn cx cy q) (hkn : okN ft st tn kd mn) (hsm : mSm (kd f0).toInt (nN (mn f0)) (cF40 cx f0) (cF40 cy f0)) (hcd : 40 ≤ cd ∧ cd ≤ 1000) (hkk : kk < nN (mn f0)) (hrr : rr ≤ 20) (hdx : -200 ≤ sx.toInt ∧ sx.toInt ≤ 200) (hdy : -200 ≤ sy.toInt ∧ sy.toInt ≤ 200) (hkd : 1 ≤ (kd f0).toInt ∧ (kd f0).toInt ≤ 5) (hlaw : lwM ft st tn kd mn cx cy f0 (nN (mn f0)) (fun i => shV (kd f0).toInt (nN (mn f0)) kk sx rr (cF40 cx f0) i) (fun i => shV (kd f0).toInt (nN (mn f0)) kk sy rr (cF40 cy f0) i)) (hmv : mvd (nN (mn f0)) (fun i => shV (kd f0).toInt (nN (mn f0)) kk sx rr (cF40 cx f0) i) (fun i => shV (kd f0).toInt (nN (mn f0)) kk sy rr (cF40 cy f0) i) (cF40 cx f0) (cF40 cy f0)) : zML l yX10_shift cX10_shift 8 (some .boolean) ({ frames := 9, cells := ft + 6, slots := 4 * ft + 2 * nN (mn f0) + 815, locals := 205 } : Room) [.ref x, .int (nI f0), .int (nI kk), .int sx, .int sy, .int (nI rr)] (dC, dI) (zTyO cI cZ cF cO) e0 mi ([(oc8 x (.ref sh) (.ref lw) (.ref ro) (.ref bq) (.ref bp) (.ref dq) (.ref dp) (.ref lv) (.ref sl) (nI dn) sd ul su), (oc10 sl mc9 (.ref ea) (nI T)), (oc3 lw (.ref dr) (.ref tg) (.ref wy) (.ref br) (.ref bo) (.ref aa)), (oc6 tg (.ref tx) (.ref ty) (nI nt) rt), (oa tx cI 3 TX), (oa ty cI 3 TY), (oc6 wy (.ref wx) (.ref wz) (nI nw) rw), (oa wx cI 2 WX), (oa wz cI 2 WY), (oc6 dr (.ref dx) (.ref dy) (nI nd) rd), (oa dx cI cd P), (oa dy cI cd Q), (oc0 br b1 b2 b3 b4), (oc0 bo b5 b6 b7 b8), (oc7 sh (.ref fa) (nI ft)), (oq fa cF 200 FA)] ++ va_pl L f) sz (some (.int 1)) (fun A t => ∃ (mc1 : Int32), ∃ (L1 : List Nat), ∃ (f1 : Nat → va_E), ∃ (ea1 : Nat), ∃ (nt1 : Nat), ∃ (TX1 : Nat → Int32), ∃ (TY1 : Nat → Int32), ∃ (rt1 : Int32), ∃ (nw1 : Nat), ∃ (WX1 : Nat → Int32), ∃ (WY1 : Nat → Int32), ∃ (rw1 : Int32), ∃ (d5 : Int32), ∃ (d6 : Int32), ∃ (d7 : Int32), ∃ (d8 : Int32), ∃ (e5 : Int32), ∃ (e6 : Int32), ∃ (e7 : Int32), ∃ (e8 : Int32), ∃ (P1 : Nat → Int32), ∃ (Q1 : Nat → Int32), (shB cI cO L1 f1 e0 FA ea1 bs (dn + 1) (dn + 1) ft (upN FT (dn + 1) ft) (upN V (dn + 1) (vC (V dn) kd st gb it mn)) (upN VX (dn + 1) (fgX f0 (nN (mn f0)) (fun i => shV (kd f0).toInt (nN (mn f0)) kk sx rr (cF40 cx f0) i) cx)) (upN VY (dn + 1) (fgX f0 (nN (mn f0)) (fun i => shV (kd f0).toInt (nN (mn f0)) kk sy rr (cF40 cy f0) i) cy)) tn rk wd tw pa pb (upd wh (dn + 1) (3 : Int32)) (upd of9 (dn + 1) (nI f0)) (upd we (dn + 1) (0 : Int32)) kd st gb it mn (fgX f0 (nN (mn f0)) (fun i => shV (kd f0).toInt (nN (mn f0)) kk sx rr (cF40 cx f0) i) cx) (fgX f0 (nN (mn f0)) (fun i => shV (kd f0).toInt (nN (mn f0)) kk sy rr (cF40 cy f0) i) cy)) ∧ zPD (dC, dI) classes A ([(oc8 x (.ref sh) (.ref lw) (.ref ro) (.ref bq) (.ref bp) (.ref dq) (.ref dp) (.ref lv) (.ref sl) (nI (dn + 1)) sd ul 0), (oc10 sl mc1 (.ref ea1) (nI (dn + 1))), (oc3 lw (.ref dr) (.ref tg) (.ref wy) (.ref br) (.ref bo) (.ref aa)), (oc6 tg (.ref tx) (.ref ty) (nI nt1) rt1), (oa tx cI 3 TX1), (oa ty cI 3 TY1), (oc6 wy (.ref wx) (.ref wz) (nI nw1) rw1), (oa wx cI 2 WX1), (oa wz cI 2 WY1), (oc6 dr (.ref dx) (.ref dy) (nI (nN (mn f0))) (rgK (kd f0).toInt)), (oa dx cI cd P1), (oa dy cI cd Q1), (oc0 br d5 d6 d7 d8), (oc0 bo e5 e6 e7 e8), (oc7 sh (.ref fa) (nI ft)), (oq fa cF 200 FA)] ++ va_pl L1 f1) t.heap) (ft + 6) (4 * ft + 2 * nN (mn f0) + 815) := by
  refine zInL (own := "ScaleShop") (loc := [(0, .ref x), (1, .int (nI f0)), (2, .int (nI kk)), (3, .int sx), (4, .int sy), (5, .int (nI rr))]) rfl rfl rfl rfl (fun p e s m below meth c hx hb hr hts hown hlocks hml hnm9 A hA hS hP hD hK hXL hXN hK3 Q9 hQ9 ls hl => ?_)
  obtain ⟨own, fe, cl, la, sp, SA, hG9, hH9, hft9, hO9⟩ := hB
  obtain ⟨hG, hM, hdT, hT5, hO⟩ := M_0 hG9 hH9 hft9 hO9
  have h200 : ft ≤ 200 := hG.2.2.2.2.2.1.2.2.2.2.2
  have hFA9 := hG.2.2.2.2.2.2
  refine ex13 (sh_fc hG.1 hG.2.1 (Nat.le_refl _) hf0 htn) (fun lo5 lx5 ly5 ln5 LX5 LY5 we5 r5 rx5 ry5 cap5 X5 Y5 hc5 => ?_)
  have hc5 := fc_0 hc5
  have hb5 := hc5.2.2.1
  have hb6 := hc5.2.1
  have hat9 := lo_at hO (Nat.le_refl _) hf0 hc5.1.1 hc5.1.2.2.2 (by omega) hc5.1.2.1 hb5.2.2
  have hlv : lvF ft st tn f0 := ⟨hf0, hst, htn⟩
  have hwf0 := hwf f0 hlv
  have hw1 := hwf0.2.1
  have hkn0 := hkn f0 hlv
  have hX5 := hc5.2.2.2.2.1
  have hkk9 : (nI kk).toInt = ((kk : Nat) : Int) := nI_toInt (by omega)
  have hrr9 : (nI rr).toInt = ((rr : Nat) : Int) := nI_toInt (by omega)
  have e_m200 : (-200 : Int32).toInt = -200 := (by decide)
  have e_200 : (200 : Int32).toInt = 200 := (by decide)
  have e_0 : (0 : Int32).toInt = 0 := (by decide)
  have e_20 : (20 : Int32).toInt = 20 := (by decide)
  have hc9_1 : inPl L f [(oc1 (fe f0) (rk f0) (wd f0) (tw f0) (pa f0) (pb f0) (.ref lo5) (.ref (la dn f0)) .null), (oc4 (la dn f0) (kd f0) (st f0) (.ref r5) (gb f0) (it f0) (nI we5)), (oc6 r5 (.ref rx5) (.ref ry5) (nI (nN (mn f0))) (rgK (kd f0).toInt)), (oa rx5 cI cap5 X5), (oa ry5 cI cap5 Y5), (oc6 lo5 (.ref lx5) (.ref ly5) (nI ln5) 0), (oa lx5 cI (cl f0) LX5), (oa ly5 cI (cl f0) LY5)] := ⟨ce_pl hc5.1.1, ce_pl hc5.1.2.1, ce_pl hc5.1.2.2.1.1, ce_pl hc5.1.2.2.1.2.1, ce_pl hc5.1.2.2.1.2.2.1, ce_pl hc5.1.2.2.2.1, ce_pl hc5.1.2.2.2.2.1, ce_pl hc5.1.2.2.2.2.2.1, trivial⟩
  have hD0_1 := hD
  obtain ⟨T_1, hT_1, hP, hD⟩ := pl_oT hP hD hc9_1 (pw8 hc5 (by omega))
  obtain ⟨hP, hD⟩ := zre (W2 := ([_, _, _, _, _, _, _, _, _, _, _, _, _, _, _, _, _, _, _, _, _, _, _, _] ++ va_pl T_1 f)) hP hD rfl
  refine lv_aload_n hx hb dX10_shift_0 rfl (lv_at hl 0 rfl) ?_
  refine va_get (D := (dC, dI)) (ci := 8) (v := .ref sh) (C := RX10) (T := TX10) (N := 13) hx hb hts inX10 hown hK hP 0 rfl rfl 0 (Nat.le_of_ble_eq_true rfl) (hts _ mw_309) (fun _ h9 => h9) rfl dX10_shift_1 ?_
  refine lv_iload_n hx hb dX10_shift_4 rfl (lv_at hl 1 rfl) ?_
  obtain ⟨hPc, hDc, hFc, hI1⟩ := zi_sub (wc := [_, _]) hP hD hS hA [14, 15] rfl rfl
  refine zcall (st1 := [.ref (fe f0)]) (va_runV (As := [.int (nI f0)]) (rest := []) ⟨hx, hb, hml, hown, hts⟩ (k_Sheet_find l dC dI cI cZ cF s.heap.size sh fa ft FA f0 (fe f0) (by first | with_reducible assumption | omega) (by first | with_reducible assumption | omega) (hFA9 f0 (by first | with_reducible assumption | omega))) (csV_94 hts rfl rfl ⟨Nat.le_of_ble_eq_true rfl, Nat.le_of_ble_eq_true rfl⟩) (zPV2 (q0 := 0) (ci := 7) hPc hDc hK3 hXN rfl rfl) rfl rfl hl.1 rfl (lv_room (Nat.le_of_ble_eq_true rfl)) dX10_shift_5 ⟨Nat.zero_le _, Nat.zero_le _⟩) hS hFc hFc rfl (fun t H locs ht hB hk1 hS => ?_)
  obtain ⟨hP1, hD1⟩ := hB
  rw [ht] at hP1
  replace hP := z0 hP hD hk1 hP1 hI1
  clear hk1 hPc hDc hFc hP1 hD1 ht hI1
  refine lv_astore (lv' := [(6, .ref (fe f0)), (0, .ref x), (1, .int (nI f0)), (2, .int (nI kk)), (3, .int sx), (4, .int sy), (5, .int (nI rr))]) hx hb dX10_shift_8 hl (Nat.le_of_ble_eq_true rfl) rfl (fun ls hl => ?_)
  refine lv_aload hx hb dX10_shift_10 (lv_at hl 0 rfl) ?_
  refine lv_ifnull hx hb dX10_shift_12 ?_
  refine lv_aload hx hb dX10_shift_15 (lv_at hl 0 rfl) ?_
  refine lv_iload_n hx hb dX10_shift_17 rfl (lv_at hl 3 rfl) ?_
  obtain ⟨hPc, hDc, hFc, hI1⟩ := zi_sub (wc := [_, _, _]) hP hD hS hA [16, 17, 18] rfl rfl
  refine zcall (st1 := [.int (pI (0 ≤ (nI kk).toInt ∧ (nI kk).toInt < (((nN (mn f0)) : Nat) : Int)))]) (va_runV (As := [.int (nI kk)]) (rest := []) ⟨hx, hb, hml, hown, hts⟩ (k_Feature_mayHaveCorner_r l dC dI cI cZ cF H.size (fe f0) lo5 (rk f0) (wd f0) (tw f0) (pa f0) (pb f0) (la dn f0) (kd f0) (st f0) (gb f0) (it f0) (nI we5) r5 rx5 ry5 (nN (mn f0)) (nI kk) (rgK (kd f0).toInt) (by first | with_reducible assumption | omega)) (csV_119 hts rfl rfl ⟨Nat.le_of_ble_eq_true rfl, Nat.le_of_ble_eq_true rfl⟩) (zPV2 (q0 := 0) (ci := 1) hPc hDc hK3 hXN rfl rfl) rfl rfl hl.1 rfl (lv_room (Nat.le_of_ble_eq_true rfl)) dX10_shift_18 ⟨Nat.zero_le _, Nat.zero_le _⟩) hS hFc hFc rfl (fun t H locs ht hB hk1 hS => ?_)
  obtain ⟨hP1, hD1⟩ := hB
  rw [ht] at hP1
  replace hP := z0 hP hD hk1 hP1 hI1
  clear hk1 hPc hDc hFc hP1 hD1 ht hI1
  refine lv_if_ne (tgt := 30) hx hb dX10_shift_21 rfl (fun c_1 => ?_) (fun c_1 => ?_)
  · have c_1 : 0 ≤ (nI kk).toInt ∧ (nI kk).toInt < (((nN (mn f0)) : Nat) : Int) := zp_1 c_1
    refine lv_aload hx hb dX10_shift_30 (lv_at hl 0 rfl) ?_
    refine va_get (D := (dC, dI)) (ci := 1) (v := .ref (la dn f0)) (C := RX2) (T := TX2) (N := 8) hx hb hts inX2 hown hK hP 16 rfl rfl 6 (Nat.le_of_ble_eq_true rfl) (hts _ mw_433) (fun _ h9 => h9) rfl dX10_shift_32 ?_
    refine va_get (D := (dC, dI)) (ci := 4) (v := .int (st f0)) (C := RX5) (T := TX5) (N := 6) hx hb hts inX5 hown hK hP 17 rfl rfl 1 (Nat.le_of_ble_eq_true rfl) (hts _ mw_385) (fun _ h9 => h9) rfl dX10_shift_35 ?_
    refine lv_iconst (v := 1) hx hb dX10_shift_38 rfl ?_
    refine lv_icmp_eq (tgt := 48) hx hb dX10_shift_39 rfl (fun c_2 => ?_) (fun c_2 => ?_)
    · have c_2 : (st f0).toInt = 1 := zc_eq rfl rfl c_2
      refine lv_iload_n hx hb dX10_shift_48 rfl (lv_at hl 4 rfl) ?_
      refine lv_sipush (v := (-200)) hx hb dX10_shift_49 rfl ?_
      refine lv_sipush (v := 200) hx hb dX10_shift_52 rfl ?_
      obtain ⟨hPc, hDc, hFc, hI1⟩ := zi_sub (wc := []) hP hD hS hA [] rfl rfl
      refine zcall (st1 := [.int (pI ((-200 : Int32).toInt ≤ sx.toInt ∧ sx.toInt ≤ (200 : Int32).toInt))]) (va_runS (As := [.int sx, .int (-200), .int 200]) (rest := []) ⟨hx, hb, hml, hown, hts⟩ (k_isWithin l dC dI cI cZ cF H.size sx (-200) 200 ) (csS_14 hts rfl rfl ⟨Nat.le_of_ble_eq_true rfl, Nat.le_of_ble_eq_true rfl⟩) (zPS2 hPc hDc hK3 hXN) rfl rfl hl.1 rfl (lv_room (Nat.le_of_ble_eq_true rfl)) dX10_shift_55 ⟨Nat.zero_le _, Nat.zero_le _⟩) hS hFc hFc rfl (fun t H locs ht hB hk1 hS => ?_)
      obtain ⟨hP1, hD1⟩ := hB
      rw [ht] at hP1
      replace hP := z0 hP hD hk1 hP1 hI1
      clear hk1 hPc hDc hFc hP1 hD1 ht hI1
      refine lv_if_eq (tgt := 75) hx hb dX10_shift_58 rfl (fun c_3 => ?_) (fun c_3 => ?_)
      · have c_3 : ¬ ((-200 : Int32).toInt ≤ sx.toInt ∧ sx.toInt ≤ (200 : Int32).toInt) := zp_0 c_3
        exfalso; omega
      · have c_3 : (-200 : Int32).toInt ≤ sx.toInt ∧ sx.toInt ≤ (200 : Int32).toInt := zp_1 c_3
        refine lv_iload hx hb dX10_shift_61 (lv_at hl 5 rfl) ?_
        refine lv_sipush (v := (-200)) hx hb dX10_shift_63 rfl ?_
        refine lv_sipush (v := 200) hx hb dX10_shift_66 rfl ?_
        obtain ⟨hPc, hDc, hFc, hI1⟩ := zi_sub (wc := []) hP hD hS hA [] rfl rfl
        refine zcall (st1 := [.int (pI ((-200 : Int32).toInt ≤ sy.toInt ∧ sy.toInt ≤ (200 : Int32).toInt))]) (va_runS (As := [.int sy, .int (-200), .int 200]) (rest := []) ⟨hx, hb, hml, hown, hts⟩ (k_isWithin l dC dI cI cZ cF H.size sy (-200) 200 ) (csS_14 hts rfl rfl ⟨Nat.le_of_ble_eq_true rfl, Nat.le_of_ble_eq_true rfl⟩) (zPS2 hPc hDc hK3 hXN) rfl rfl hl.1 rfl (lv_room (Nat.le_of_ble_eq_true rfl)) dX10_shift_69 ⟨Nat.zero_le _, Nat.zero_le _⟩) hS hFc hFc rfl (fun t H locs ht hB hk1 hS => ?_)
        obtain ⟨hP1, hD1⟩ := hB
        rw [ht] at hP1
        replace hP := z0 hP hD hk1 hP1 hI1
        clear hk1 hPc hDc hFc hP1 hD1 ht hI1
        refine lv_if_ne (tgt := 81) hx hb dX10_shift_72 rfl (fun c_4 => ?_) (fun c_4 => ?_)
        · have c_4 : (-200 : Int32).toInt ≤ sy.toInt ∧ sy.toInt ≤ (200 : Int32).toInt := zp_1 c_4
          refine lv_iload hx hb dX10_shift_81 (lv_at hl 6 rfl) ?_
          refine lv_iconst (v := 0) hx hb dX10_shift_83 rfl ?_
          refine lv_bipush (v := 20) hx hb dX10_shift_84 rfl ?_
          obtain ⟨hPc, hDc, hFc, hI1⟩ := zi_sub (wc := []) hP hD hS hA [] rfl rfl
          refine zcall (st1 := [.int (pI ((0 : Int32).toInt ≤ (nI rr).toInt ∧ (nI rr).toInt ≤ (20 : Int32).toInt))]) (va_runS (As := [.int (nI rr), .int 0, .int 20]) (rest := []) ⟨hx, hb, hml, hown, hts⟩ (k_isWithin l dC dI cI cZ cF H.size (nI rr) 0 20 ) (csS_14 hts rfl rfl ⟨Nat.le_of_ble_eq_true rfl, Nat.le_of_ble_eq_true rfl⟩) (zPS2 hPc hDc hK3 hXN) rfl rfl hl.1 rfl (lv_room (Nat.le_of_ble_eq_true rfl)) dX10_shift_86 ⟨Nat.zero_le _, Nat.zero_le _⟩) hS hFc hFc rfl (fun t H locs ht hB hk1 hS => ?_)
          obtain ⟨hP1, hD1⟩ := hB
          rw [ht] at hP1
          replace hP := z0 hP hD hk1 hP1 hI1
          clear hk1 hPc hDc hFc hP1 hD1 ht hI1
          refine lv_if_ne (tgt := 98) hx hb dX10_shift_89 rfl (fun c_5 => ?_) (fun c_5 => ?_)
          · have c_5 : (0 : Int32).toInt ≤ (nI rr).toInt ∧ (nI rr).toInt ≤ (20 : Int32).toInt := zp_1 c_5
            refine lv_aload hx hb dX10_shift_98 (lv_at hl 0 rfl) ?_
            refine va_get (D := (dC, dI)) (ci := 1) (v := .ref (la dn f0)) (C := RX2) (T := TX2) (N := 8) hx hb hts inX2 hown hK hP 16 rfl rfl 6 (Nat.le_of_ble_eq_true rfl) (hts _ mw_433) (fun _ h9 => h9) rfl dX10_shift_100 ?_
            refine va_get (D := (dC, dI)) (ci := 4) (v := .ref r5) (C := RX5) (T := TX5) (N := 6) hx hb hts inX5 hown hK hP 17 rfl rfl 2 (Nat.le_of_ble_eq_true rfl) (hts _ mw_391) (fun _ h9 => h9) rfl dX10_shift_103 ?_
            refine lv_astore (lv' := [(7, .ref r5), (6, .ref (fe f0)), (0, .ref x), (1, .int (nI f0)), (2, .int (nI kk)), (3, .int sx), (4, .int sy), (5, .int (nI rr))]) hx hb dX10_shift_106 hl (Nat.le_of_ble_eq_true rfl) rfl (fun ls hl => ?_)
            refine lv_aload hx hb dX10_shift_108 (lv_at hl 0 rfl) ?_
            refine lv_ifnonnull (tgt := 119) hx hb dX10_shift_110 rfl ?_
            refine lv_aload_n hx hb dX10_shift_119 rfl (lv_at hl 2 rfl) ?_
            refine va_get (D := (dC, dI)) (ci := 8) (v := .ref lw) (C := RX10) (T := TX10) (N := 13) hx hb hts inX10 hown hK hP 0 rfl rfl 1 (Nat.le_of_ble_eq_true rfl) (hts _ mw_310) (fun _ h9 => h9) rfl dX10_shift_120 ?_
            refine va_get (D := (dC, dI)) (ci := 3) (v := .ref dr) (C := RX4) (T := TX4) (N := 6) hx hb hts inX4 hown hK hP 2 rfl rfl 0 (Nat.le_of_ble_eq_true rfl) (hts _ mw_220) (fun _ h9 => h9) rfl dX10_shift_123 ?_
            refine lv_aload hx hb dX10_shift_126 (lv_at hl 0 rfl) ?_
            obtain ⟨hPc, hDc, hFc⟩ := zo_sub (wc := [_, _, _, _, _, _]) hP hD hS hA [9, 10, 11, 18, 19, 20] (by decide +kernel) rfl
            refine zcall (st1 := []) (va_runV (As := [.ref r5]) (rest := []) ⟨hx, hb, hml, hown, hts⟩ (k_Row_copyFrom l dC dI cI cZ cF H.size dr dx dy nd cd P Q rd r5 rx5 ry5 (nN (mn f0)) cap5 X5 Y5 (rgK (kd f0).toInt) (by first | with_reducible assumption | omega) (by first | with_reducible assumption | omega) (by first | with_reducible assumption | omega) (by first | with_reducible assumption | omega) (rgK_01 _)) (csV_120 hts rfl rfl ⟨Nat.le_of_ble_eq_true rfl, Nat.le_of_ble_eq_true rfl⟩) (zPV2 (q0 := 0) (ci := 6) hPc hDc hK3 hXN rfl rfl) rfl rfl hl.1 rfl (lv_room (Nat.le_of_ble_eq_true rfl)) dX10_shift_128 ⟨Nat.zero_le _, Nat.zero_le _⟩) hS hFc hFc rfl (fun t H locs ht hB hk1 hS => ?_)
            obtain ⟨P6, Q6, hcp7, hP1, hD1⟩ := hB
            rw [ht] at hP1
            obtain ⟨hP, hD⟩ := znQ (W2 := [_, _, _, _, _, _, _, _, _, (oc6 dr (.ref dx) (.ref dy) (nI (nN (mn f0))) (rgK (kd f0).toInt)), (oa dx cI cd P6), (oa dy cI cd Q6), _, _, _, _, _, _, _, _, _, _, _, _]) hP hD hk1 hFc hP1 hD1 [9, 10, 11, 18, 19, 20] zl_77 zl_77 [9, 10, 11, 18, 19, 20] (by decide +kernel) rfl rfl rfl rfl rfl
            clear hk1 hPc hDc hFc hP1 hD1 ht
            refine lv_aload hx hb dX10_shift_131 (lv_at hl 1 rfl) ?_
            obtain ⟨hPc, hDc, hFc, hI1⟩ := zi_sub (wc := [_, _]) hP hD hS hA [16, 17] rfl rfl
            refine zcall (st1 := [.int (pI (1 ≤ (kd f0).toInt ∧ (kd f0).toInt ≤ 5))]) (va_runV (As := []) (rest := []) ⟨hx, hb, hml, hown, hts⟩ (k_Feature_bends_r l dC dI cI cZ cF H.size (fe f0) lo5 (rk f0) (wd f0) (tw f0) (pa f0) (pb f0) (la dn f0) (kd f0) (st f0) (gb f0) (it f0) (nI we5) r5 ) (csV_97 hts rfl rfl ⟨Nat.le_of_ble_eq_true rfl, Nat.le_of_ble_eq_true rfl⟩) (zPV2 (q0 := 0) (ci := 1) hPc hDc hK3 hXN rfl rfl) rfl rfl hl.1 rfl (lv_room (Nat.le_of_ble_eq_true rfl)) dX10_shift_133 ⟨Nat.zero_le _, Nat.zero_le _⟩) hS hFc hFc rfl (fun t H locs ht hB hk1 hS => ?_)
            obtain ⟨hP1, hD1⟩ := hB
            rw [ht] at hP1
            replace hP := z0 hP hD hk1 hP1 hI1
            clear hk1 hPc hDc hFc hP1 hD1 ht hI1
            refine lv_if_eq (tgt := 158) hx hb dX10_shift_136 rfl (fun c_6 => ?_) (fun c_6 => ?_)
            · have c_6 : ¬ (1 ≤ (kd f0).toInt ∧ (kd f0).toInt ≤ 5) := zp_0 c_6
              exfalso; exact absurd hkd (by first | with_reducible assumption | assumption)
            · have c_6 : 1 ≤ (kd f0).toInt ∧ (kd f0).toInt ≤ 5 := zp_1 c_6
              refine lv_aload_n hx hb dX10_shift_139 rfl (lv_at hl 2 rfl) ?_
              refine va_get (D := (dC, dI)) (ci := 8) (v := .ref lw) (C := RX10) (T := TX10) (N := 13) hx hb hts inX10 hown hK hP 0 rfl rfl 1 (Nat.le_of_ble_eq_true rfl) (hts _ mw_310) (fun _ h9 => h9) rfl dX10_shift_140 ?_
              refine va_get (D := (dC, dI)) (ci := 3) (v := .ref dr) (C := RX4) (T := TX4) (N := 6) hx hb hts inX4 hown hK hP 2 rfl rfl 0 (Nat.le_of_ble_eq_true rfl) (hts _ mw_220) (fun _ h9 => h9) rfl dX10_shift_143 ?_
              refine lv_iload_n hx hb dX10_shift_146 rfl (lv_at hl 4 rfl) ?_
              refine lv_iload_n hx hb dX10_shift_147 rfl (lv_at hl 5 rfl) ?_
              refine lv_iload hx hb dX10_shift_148 (lv_at hl 6 rfl) ?_
              refine lv_iload hx hb dX10_shift_150 (lv_at hl 7 rfl) ?_
              obtain ⟨hPc, hDc, hFc⟩ := zo_sub (wc := [_, _, _]) hP hD hS hA [9, 10, 11] rfl rfl
              refine zcall (st1 := []) (va_runV (As := [.int (nI kk), .int sx, .int sy, .int (nI rr)]) (rest := []) ⟨hx, hb, hml, hown, hts⟩ (k_Row_pull l dC dI cI cZ cF H.size dr dx dy (nN (mn f0)) cd P6 Q6 (rgK (kd f0).toInt) kk rr sx sy ((kd f0).toInt) (by first | with_reducible assumption | omega) (by first | with_reducible assumption | omega) (by first | with_reducible assumption | omega) (by first | with_reducible assumption | omega) (by first | with_reducible assumption | omega) (rgK_0 _)) (csV_121 hts rfl rfl ⟨Nat.le_of_ble_eq_true rfl, Nat.le_of_ble_eq_true rfl⟩) (zPV2 (q0 := 0) (ci := 6) hPc hDc hK3 hXN rfl rfl) rfl rfl hl.1 rfl (lv_room (Nat.le_of_ble_eq_true rfl)) dX10_shift_152 ⟨Nat.zero_le _, Nat.zero_le _⟩) hS hFc hFc rfl (fun t H locs ht hB hk1 hS => ?_)
              obtain ⟨P7, Q7, hall7, hP1, hD1⟩ := hB
              rw [ht] at hP1
              obtain ⟨hP, hD⟩ := znQ (W2 := [_, _, _, _, _, _, _, _, _, _, (oa dx cI cd P7), (oa dy cI cd Q7), _, _, _, _, _, _, _, _, _, _, _, _]) hP hD hk1 hFc hP1 hD1 [9, 10, 11] zl_82 zl_82 [9, 10, 11] (by decide +kernel) rfl rfl rfl rfl rfl
              clear hk1 hPc hDc hFc hP1 hD1 ht
              refine lv_goto (tgt := 171) hx hb dX10_shift_155 rfl ?_
              have hv7 : ∀ k, k < nN (mn f0) → P7 k = (fun i => shV (kd f0).toInt (nN (mn f0)) kk sx rr (cF40 cx f0) i) k ∧ Q7 k = (fun i => shV (kd f0).toInt (nN (mn f0)) kk sy rr (cF40 cy f0) i) k := fun k hk => ⟨sh_hv hk (fun j hj => (hcp7 j hj).1.trans (hX5 j hj).1) (hall7 k hk).1, sh_hv hk (fun j hj => (hcp7 j hj).2.trans (hX5 j hj).2) (hall7 k hk).2⟩
              refine lv_aload_n hx hb dX10_shift_171 rfl (lv_at hl 2 rfl) ?_
              refine lv_aload hx hb dX10_shift_172 (lv_at hl 1 rfl) ?_
              refine lv_iload_n hx hb dX10_shift_174 rfl (lv_at hl 3 rfl) ?_
              refine lv_iconst (v := 3) hx hb dX10_shift_175 rfl ?_
              obtain ⟨hPc, hDc, hFc⟩ := zo_part (cx := [_, _, _, _, _, _, _, _, _, _, _, _, _, _, _, _, _, _, _, _, _, _, _, _]) hP hD hS hA [0, 1, 2, 3, 4, 5, 6, 7, 8, 9, 10, 11, 12, 13, 16, 17, 18, 19, 20, 21, 22, 23, 14, 15] (by decide +kernel) rfl
              refine zcall (st1 := [.int 1]) (va_runV (As := [.ref (fe f0), .int (nI f0), .int 3]) (rest := []) ⟨hx, hb, hml, hown, hts⟩ (k_moveTo_m_y l dC dI cI cZ cF H.size cO e0 mi x sh lw ro bq bp dq dp lv sl sd ul su ea mc9 fa FA bs dn T ft FT V VX VY tn rk wd tw pa pb wh of9 we kd st gb it mn cx cy T_1 f L f0 own fe cl la sp SA lo5 lx5 ly5 ln5 LX5 LY5 we5 r5 rx5 ry5 cap5 X5 Y5 dr tg wy br bo aa tx ty nt TX TY rt wx wz nw WX WY rw dx dy cd P7 Q7 b1 b2 b3 b4 b5 b6 b7 b8 3 (fgX f0 (nN (mn f0)) (fun i => shV (kd f0).toInt (nN (mn f0)) kk sx rr (cF40 cx f0) i) cx) (fgX f0 (nN (mn f0)) (fun i => shV (kd f0).toInt (nN (mn f0)) kk sy rr (cF40 cy f0) i) cy) (hG9) (hH9) (hft9) (hO9) (hc5) (hT_1) (by first | with_reducible assumption | assumption) (by first | with_reducible assumption | assumption) (hst) (hwf) (hkn) (by first | with_reducible assumption | omega) (by have := hkn0; have := hsm.1; omega) (by first | with_reducible assumption | omega) (((alM_cx hw1.1 hX5).trans (alM_lw (VX := fun i => shV (kd f0).toInt (nN (mn f0)) kk sx rr (cF40 cx f0) i) (VY := fun i => shV (kd f0).toInt (nN (mn f0)) kk sy rr (cF40 cy f0) i) (by first | with_reducible assumption | omega) (by first | with_reducible assumption | omega) (hsm.2 (by first | with_reducible assumption | omega)).1 hv7 hwf hkn)).mpr hlaw) (fun h => absurd hmv ((mv_alk hv7 hX5).mp h)) (fun k hk => by rw [fgX_f k hk, fgX_f k hk]; exact hv7 k hk) (fun j hj => ⟨fgX_o (by first | with_reducible assumption | omega), fgX_o (by first | with_reducible assumption | omega)⟩)) (csV_117 hts rfl rfl ⟨Nat.le_of_ble_eq_true rfl, Nat.le_of_ble_eq_true rfl⟩) (zPVL (q0 := 0) (ci := 8) hPc hDc hK hXL hS hFc rfl rfl) rfl rfl hl.1 rfl (lv_room (Nat.le_of_ble_eq_true rfl)) dX10_shift_176 ⟨show (0 + (ft + 6)) ≤ ft + 6 by omega, show (0 + (4 * ft + 2 * nN (mn f0) + 815)) ≤ 4 * ft + 2 * nN (mn f0) + 815 by omega⟩) hS hFc hFc rfl (fun t H locs ht hB hk1 hS => ?_)
              refine ex20 hB (fun mc8 L8 f8 ea8 nt8 TX8 TY8 rt8 nw8 WX8 WY8 rw8 g08 g18 g28 g38 g48 g58 g68 g78 hB0 => ?_)
              clear hB
              obtain ⟨hB6, hP1, hD1⟩ := hB0
              rw [ht] at hP1
              obtain ⟨hP, hD⟩ := znP (W2 := [(oc8 x (.ref sh) (.ref lw) (.ref ro) (.ref bq) (.ref bp) (.ref dq) (.ref dp) (.ref lv) (.ref sl) (nI (dn + 1)) sd ul 0), (oc10 sl mc8 (.ref ea8) (nI (dn + 1))), (oc3 lw (.ref dr) (.ref tg) (.ref wy) (.ref br) (.ref bo) (.ref aa)), (oc6 tg (.ref tx) (.ref ty) (nI nt8) rt8), (oa tx cI 3 TX8), (oa ty cI 3 TY8), (oc6 wy (.ref wx) (.ref wz) (nI nw8) rw8), (oa wx cI 2 WX8), (oa wz cI 2 WY8), (oc6 dr (.ref dx) (.ref dy) (nI (nN (mn f0))) (rgK (kd f0).toInt)), (oa dx cI cd P7), (oa dy cI cd Q7), (oc0 br g08 g18 g28 g38), (oc0 bo g48 g58 g68 g78), (oc7 sh (.ref fa) (nI ft)), (oq fa cF 200 FA)]) hP hD hk1 hFc hP1 hD1 zl_78 [] zl_79 zl_80 (by decide +kernel) rfl rfl rfl rfl rfl
              clear hk1 hPc hDc hFc hP1 hD1 ht
              obtain ⟨hP9, hD9⟩ := zu_part (cx := [_, _, _, _, _, _, _, _, _, _, _, _, _, _, _, _]) hP hD [true, true, true, true, true, true, true, true, true, true, true, true, true, true, true, true] rfl rfl
              refine W.widen (k := ft + 6) (n := 4 * ft + 2 * nN (mn f0) + 815) (by omega) (by omega) ?_
              rw [hQ9]
              exact W.zret (ty := .boolean) (v := 1) hx hb hr (rfl) (fun t ht hW => ⟨⟨rfl, mc8, L8, f8, ea8, nt8, TX8, TY8, rt8, nw8, WX8, WY8, rw8, g08, g18, g28, g38, g48, g58, g68, g78, P7, Q7, (hB6), by rw [ht]; exact hP9, hD9⟩, hS.F ht⟩) hS.2.2 dX10_shift_179
          · have c_5 : ¬ ((0 : Int32).toInt ≤ (nI rr).toInt ∧ (nI rr).toInt ≤ (20 : Int32).toInt) := zp_0 c_5
            exfalso; omega
        · have c_4 : ¬ ((-200 : Int32).toInt ≤ sy.toInt ∧ sy.toInt ≤ (200 : Int32).toInt) := zp_0 c_4
          exfalso; omega
    · have c_2 : ¬ (st f0).toInt = 1 := zc_ne rfl rfl c_2
      exfalso; omega
  · have c_1 : ¬ (0 ≤ (nI kk).toInt ∧ (nI kk).toInt < (((nN (mn f0)) : Nat) : Int)) := zp_0 c_1
    exfalso; omega
set_option maxHeartbeats 4000000 in
set_option maxRecDepth 100000 in
theorem k_shiftp_n (l : Launch) (dC : Nat → ClassId) (dI : Nat → Nat → Nat) (cI cZ cF : ClassId) (sz : Nat) (cO : ClassId) (e0 : Nat) (mi : Nat) (x : Nat) (sh : Nat) (lw : Nat) (ro : Nat) (bq : Nat) (bp : Nat) (dq : Nat) (dp : Nat) (lv : Nat) (sl : Nat) (sd : Int32) (ul : Int32) (su : Int32) (ea : Nat) (mc9 : Int32) (fa : Nat) (FA : Nat → Option Nat) (bs : Nat) (dn : Nat) (T : Nat) (ft : Nat) (FT : Nat → Nat) (V : Nat → Nat → Nat → Int32) (VX : Nat → Nat → Int32) (VY : Nat → Nat → Int32) (tn : Nat → Int32) (rk : Nat → Int32) (wd : Nat → Int32) (tw : Nat → Int32) (pa : Nat → Int32) (pb : Nat → Int32) (wh : Nat → Int32) (of9 : Nat → Int32) (we : Nat → Int32) (kd : Nat → Int32) (st : Nat → Int32) (gb : Nat → Int32) (it : Nat → Int32) (mn : Nat → Int32) (cx : Nat → Int32) (cy : Nat → Int32) (L : List Nat) (f : Nat → va_E) (f0 : Nat) (dr : Nat) (tg : Nat) (wy : Nat) (br : Nat) (bo : Nat) (aa : Nat) (tx : Nat) (ty : Nat) (nt : Nat) (TX : Nat → Int32) (TY : Nat → Int32) (rt : Int32) (wx : Nat) (wz : Nat) (nw : Nat) (WX : Nat → Int32) (WY : Nat → Int32) (rw : Int32) (dx : Nat) (dy : Nat) (nd : Nat) (cd : Nat) (P : Nat → Int32) (Q : Nat → Int32) (rd : Int32) (b1 : Int32) (b2 : Int32) (b3 : Int32) (b4 : Int32) (b5 : Int32) (b6 : Int32) (b7 : Int32) (b8 : Int32) (kk : Nat) (rr : Nat) (sx : Int32) (sy : Int32) (hB : shB cI cO L f e0 FA ea bs dn T ft FT V VX VY tn rk wd tw pa pb wh of9 we kd st gb it mn cx cy) (hf0 : f0 < ft) (htn : (tn f0).toInt = 0) (hst : (st f0).toInt = 1) (hwf : ∀ q, lvF ft st tn q → wfM mn cx cy q) (hkn : okN ft st tn kd mn) (hsm : mSm (kd f0).toInt (nN (mn f0)) (cF40 cx f0) (cF40 cy f0)) (hcd : 40 ≤ cd ∧ cd ≤ 1000) (hkk : kk < nN (mn f0)) (hrr : rr ≤ 20) (hdx : -200 ≤ sx.toInt ∧ sx.toInt ≤ 200) (hdy : -200 ≤ sy.toInt ∧ sy.toInt ≤ 200) (hkd : 1 ≤ (kd f0).toInt ∧ (kd f0).toInt ≤ 5) (hbad : ¬ ((lwM ft st tn kd mn cx cy f0 (nN (mn f0)) (fun i => shV (kd f0).toInt (nN (mn f0)) kk sx rr (cF40 cx f0) i) (fun i => shV (kd f0).toInt (nN (mn f0)) kk sy rr (cF40 cy f0) i)) ∧ mvd (nN (mn f0)) (fun i => shV (kd f0).toInt (nN (mn f0)) kk sx rr (cF40 cx f0) i) (fun i => shV (kd f0).toInt (nN (mn f0)) kk sy rr (cF40 cy f0) i) (cF40 cx f0) (cF40 cy f0))) : zML l yX10_shift cX10_shift 8 (some .boolean) ({ frames := 6, cells := 0, slots := 0, locals := 155 } : Room) [.ref x, .int (nI f0), .int (nI kk), .int sx, .int sy, .int (nI rr)] (dC, dI) (zTyO cI cZ cF cO) e0 mi ([(oc8 x (.ref sh) (.ref lw) (.ref ro) (.ref bq) (.ref bp) (.ref dq) (.ref dp) (.ref lv) (.ref sl) (nI dn) sd ul su), (oc10 sl mc9 (.ref ea) (nI T)), (oc3 lw (.ref dr) (.ref tg) (.ref wy) (.ref br) (.ref bo) (.ref aa)), (oc6 tg (.ref tx) (.ref ty) (nI nt) rt), (oa tx cI 3 TX), (oa ty cI 3 TY), (oc6 wy (.ref wx) (.ref wz) (nI nw) rw), (oa wx cI 2 WX), (oa wz cI 2 WY), (oc6 dr (.ref dx) (.ref dy) (nI nd) rd), (oa dx cI cd P), (oa dy cI cd Q), (oc0 br b1 b2 b3 b4), (oc0 bo b5 b6 b7 b8), (oc7 sh (.ref fa) (nI ft)), (oq fa cF 200 FA)] ++ va_pl L f) sz (some (.int 0)) (fun A t => ∃ (ul1 : Int32), ∃ (su1 : Int32), ∃ (nt1 : Nat), ∃ (TX1 : Nat → Int32), ∃ (TY1 : Nat → Int32), ∃ (rt1 : Int32), ∃ (nw1 : Nat), ∃ (WX1 : Nat → Int32), ∃ (WY1 : Nat → Int32), ∃ (rw1 : Int32), ∃ (d5 : Int32), ∃ (d6 : Int32), ∃ (d7 : Int32), ∃ (d8 : Int32), ∃ (e5 : Int32), ∃ (e6 : Int32), ∃ (e7 : Int32), ∃ (e8 : Int32), ∃ (P1 : Nat → Int32), ∃ (Q1 : Nat → Int32), zPD (dC, dI) classes A ([(oc8 x (.ref sh) (.ref lw) (.ref ro) (.ref bq) (.ref bp) (.ref dq) (.ref dp) (.ref lv) (.ref sl) (nI dn) sd ul1 su1), (oc10 sl mc9 (.ref ea) (nI T)), (oc3 lw (.ref dr) (.ref tg) (.ref wy) (.ref br) (.ref bo) (.ref aa)), (oc6 tg (.ref tx) (.ref ty) (nI nt1) rt1), (oa tx cI 3 TX1), (oa ty cI 3 TY1), (oc6 wy (.ref wx) (.ref wz) (nI nw1) rw1), (oa wx cI 2 WX1), (oa wz cI 2 WY1), (oc6 dr (.ref dx) (.ref dy) (nI (nN (mn f0))) (rgK (kd f0).toInt)), (oa dx cI cd P1), (oa dy cI cd Q1), (oc0 br d5 d6 d7 d8), (oc0 bo e5 e6 e7 e8), (oc7 sh (.ref fa) (nI ft)), (oq fa cF 200 FA)] ++ va_pl L f) t.heap) 0 0 := by
  refine zInL (own := "ScaleShop") (loc := [(0, .ref x), (1, .int (nI f0)), (2, .int (nI kk)), (3, .int sx), (4, .int sy), (5, .int (nI rr))]) rfl rfl rfl rfl (fun p e s m below meth c hx hb hr hts hown hlocks hml hnm9 A hA hS hP hD hK hXL hXN hK3 Q9 hQ9 ls hl => ?_)
  obtain ⟨own, fe, cl, la, sp, SA, hG9, hH9, hft9, hO9⟩ := hB
  obtain ⟨hG, hM, hdT, hT5, hO⟩ := M_0 hG9 hH9 hft9 hO9
  have h200 : ft ≤ 200 := hG.2.2.2.2.2.1.2.2.2.2.2
  have hFA9 := hG.2.2.2.2.2.2
  refine ex13 (sh_fc hG.1 hG.2.1 (Nat.le_refl _) hf0 htn) (fun lo5 lx5 ly5 ln5 LX5 LY5 we5 r5 rx5 ry5 cap5 X5 Y5 hc5 => ?_)
  have hc5 := fc_0 hc5
  have hb5 := hc5.2.2.1
  have hb6 := hc5.2.1
  have hat9 := lo_at hO (Nat.le_refl _) hf0 hc5.1.1 hc5.1.2.2.2 (by omega) hc5.1.2.1 hb5.2.2
  have hlv : lvF ft st tn f0 := ⟨hf0, hst, htn⟩
  have hwf0 := hwf f0 hlv
  have hw1 := hwf0.2.1
  have hkn0 := hkn f0 hlv
  have hX5 := hc5.2.2.2.2.1
  have hkk9 : (nI kk).toInt = ((kk : Nat) : Int) := nI_toInt (by omega)
  have hrr9 : (nI rr).toInt = ((rr : Nat) : Int) := nI_toInt (by omega)
  have e_m200 : (-200 : Int32).toInt = -200 := (by decide)
  have e_200 : (200 : Int32).toInt = 200 := (by decide)
  have e_0 : (0 : Int32).toInt = 0 := (by decide)
  have e_20 : (20 : Int32).toInt = 20 := (by decide)
  have hc9_1 : inPl L f [(oc1 (fe f0) (rk f0) (wd f0) (tw f0) (pa f0) (pb f0) (.ref lo5) (.ref (la dn f0)) .null), (oc4 (la dn f0) (kd f0) (st f0) (.ref r5) (gb f0) (it f0) (nI we5)), (oc6 r5 (.ref rx5) (.ref ry5) (nI (nN (mn f0))) (rgK (kd f0).toInt)), (oa rx5 cI cap5 X5), (oa ry5 cI cap5 Y5), (oc6 lo5 (.ref lx5) (.ref ly5) (nI ln5) 0), (oa lx5 cI (cl f0) LX5), (oa ly5 cI (cl f0) LY5)] := ⟨ce_pl hc5.1.1, ce_pl hc5.1.2.1, ce_pl hc5.1.2.2.1.1, ce_pl hc5.1.2.2.1.2.1, ce_pl hc5.1.2.2.1.2.2.1, ce_pl hc5.1.2.2.2.1, ce_pl hc5.1.2.2.2.2.1, ce_pl hc5.1.2.2.2.2.2.1, trivial⟩
  have hD0_1 := hD
  obtain ⟨T_1, hT_1, hP, hD⟩ := pl_oT hP hD hc9_1 (pw8 hc5 (by omega))
  obtain ⟨hP, hD⟩ := zre (W2 := ([_, _, _, _, _, _, _, _, _, _, _, _, _, _, _, _, _, _, _, _, _, _, _, _] ++ va_pl T_1 f)) hP hD rfl
  refine lv_aload_n hx hb dX10_shift_0 rfl (lv_at hl 0 rfl) ?_
  refine va_get (D := (dC, dI)) (ci := 8) (v := .ref sh) (C := RX10) (T := TX10) (N := 13) hx hb hts inX10 hown hK hP 0 rfl rfl 0 (Nat.le_of_ble_eq_true rfl) (hts _ mw_309) (fun _ h9 => h9) rfl dX10_shift_1 ?_
  refine lv_iload_n hx hb dX10_shift_4 rfl (lv_at hl 1 rfl) ?_
  obtain ⟨hPc, hDc, hFc, hI1⟩ := zi_sub (wc := [_, _]) hP hD hS hA [14, 15] rfl rfl
  refine zcall (st1 := [.ref (fe f0)]) (va_runV (As := [.int (nI f0)]) (rest := []) ⟨hx, hb, hml, hown, hts⟩ (k_Sheet_find l dC dI cI cZ cF s.heap.size sh fa ft FA f0 (fe f0) (by first | with_reducible assumption | omega) (by first | with_reducible assumption | omega) (hFA9 f0 (by first | with_reducible assumption | omega))) (csV_94 hts rfl rfl ⟨Nat.le_of_ble_eq_true rfl, Nat.le_of_ble_eq_true rfl⟩) (zPV2 (q0 := 0) (ci := 7) hPc hDc hK3 hXN rfl rfl) rfl rfl hl.1 rfl (lv_room (Nat.le_of_ble_eq_true rfl)) dX10_shift_5 ⟨Nat.le_of_ble_eq_true rfl, Nat.le_of_ble_eq_true rfl⟩) hS hFc hFc rfl (fun t H locs ht hB hk1 hS => ?_)
  obtain ⟨hP1, hD1⟩ := hB
  rw [ht] at hP1
  replace hP := z0 hP hD hk1 hP1 hI1
  clear hk1 hPc hDc hFc hP1 hD1 ht hI1
  refine lv_astore (lv' := [(6, .ref (fe f0)), (0, .ref x), (1, .int (nI f0)), (2, .int (nI kk)), (3, .int sx), (4, .int sy), (5, .int (nI rr))]) hx hb dX10_shift_8 hl (Nat.le_of_ble_eq_true rfl) rfl (fun ls hl => ?_)
  refine lv_aload hx hb dX10_shift_10 (lv_at hl 0 rfl) ?_
  refine lv_ifnull hx hb dX10_shift_12 ?_
  refine lv_aload hx hb dX10_shift_15 (lv_at hl 0 rfl) ?_
  refine lv_iload_n hx hb dX10_shift_17 rfl (lv_at hl 3 rfl) ?_
  obtain ⟨hPc, hDc, hFc, hI1⟩ := zi_sub (wc := [_, _, _]) hP hD hS hA [16, 17, 18] rfl rfl
  refine zcall (st1 := [.int (pI (0 ≤ (nI kk).toInt ∧ (nI kk).toInt < (((nN (mn f0)) : Nat) : Int)))]) (va_runV (As := [.int (nI kk)]) (rest := []) ⟨hx, hb, hml, hown, hts⟩ (k_Feature_mayHaveCorner_r l dC dI cI cZ cF H.size (fe f0) lo5 (rk f0) (wd f0) (tw f0) (pa f0) (pb f0) (la dn f0) (kd f0) (st f0) (gb f0) (it f0) (nI we5) r5 rx5 ry5 (nN (mn f0)) (nI kk) (rgK (kd f0).toInt) (by first | with_reducible assumption | omega)) (csV_119 hts rfl rfl ⟨Nat.le_of_ble_eq_true rfl, Nat.le_of_ble_eq_true rfl⟩) (zPV2 (q0 := 0) (ci := 1) hPc hDc hK3 hXN rfl rfl) rfl rfl hl.1 rfl (lv_room (Nat.le_of_ble_eq_true rfl)) dX10_shift_18 ⟨Nat.le_of_ble_eq_true rfl, Nat.le_of_ble_eq_true rfl⟩) hS hFc hFc rfl (fun t H locs ht hB hk1 hS => ?_)
  obtain ⟨hP1, hD1⟩ := hB
  rw [ht] at hP1
  replace hP := z0 hP hD hk1 hP1 hI1
  clear hk1 hPc hDc hFc hP1 hD1 ht hI1
  refine lv_if_ne (tgt := 30) hx hb dX10_shift_21 rfl (fun c_1 => ?_) (fun c_1 => ?_)
  · have c_1 : 0 ≤ (nI kk).toInt ∧ (nI kk).toInt < (((nN (mn f0)) : Nat) : Int) := zp_1 c_1
    refine lv_aload hx hb dX10_shift_30 (lv_at hl 0 rfl) ?_
    refine va_get (D := (dC, dI)) (ci := 1) (v := .ref (la dn f0)) (C := RX2) (T := TX2) (N := 8) hx hb hts inX2 hown hK hP 16 rfl rfl 6 (Nat.le_of_ble_eq_true rfl) (hts _ mw_433) (fun _ h9 => h9) rfl dX10_shift_32 ?_
    refine va_get (D := (dC, dI)) (ci := 4) (v := .int (st f0)) (C := RX5) (T := TX5) (N := 6) hx hb hts inX5 hown hK hP 17 rfl rfl 1 (Nat.le_of_ble_eq_true rfl) (hts _ mw_385) (fun _ h9 => h9) rfl dX10_shift_35 ?_
    refine lv_iconst (v := 1) hx hb dX10_shift_38 rfl ?_
    refine lv_icmp_eq (tgt := 48) hx hb dX10_shift_39 rfl (fun c_2 => ?_) (fun c_2 => ?_)
    · have c_2 : (st f0).toInt = 1 := zc_eq rfl rfl c_2
      refine lv_iload_n hx hb dX10_shift_48 rfl (lv_at hl 4 rfl) ?_
      refine lv_sipush (v := (-200)) hx hb dX10_shift_49 rfl ?_
      refine lv_sipush (v := 200) hx hb dX10_shift_52 rfl ?_
      obtain ⟨hPc, hDc, hFc, hI1⟩ := zi_sub (wc := []) hP hD hS hA [] rfl rfl
      refine zcall (st1 := [.int (pI ((-200 : Int32).toInt ≤ sx.toInt ∧ sx.toInt ≤ (200 : Int32).toInt))]) (va_runS (As := [.int sx, .int (-200), .int 200]) (rest := []) ⟨hx, hb, hml, hown, hts⟩ (k_isWithin l dC dI cI cZ cF H.size sx (-200) 200 ) (csS_14 hts rfl rfl ⟨Nat.le_of_ble_eq_true rfl, Nat.le_of_ble_eq_true rfl⟩) (zPS2 hPc hDc hK3 hXN) rfl rfl hl.1 rfl (lv_room (Nat.le_of_ble_eq_true rfl)) dX10_shift_55 ⟨Nat.le_of_ble_eq_true rfl, Nat.le_of_ble_eq_true rfl⟩) hS hFc hFc rfl (fun t H locs ht hB hk1 hS => ?_)
      obtain ⟨hP1, hD1⟩ := hB
      rw [ht] at hP1
      replace hP := z0 hP hD hk1 hP1 hI1
      clear hk1 hPc hDc hFc hP1 hD1 ht hI1
      refine lv_if_eq (tgt := 75) hx hb dX10_shift_58 rfl (fun c_3 => ?_) (fun c_3 => ?_)
      · have c_3 : ¬ ((-200 : Int32).toInt ≤ sx.toInt ∧ sx.toInt ≤ (200 : Int32).toInt) := zp_0 c_3
        exfalso; omega
      · have c_3 : (-200 : Int32).toInt ≤ sx.toInt ∧ sx.toInt ≤ (200 : Int32).toInt := zp_1 c_3
        refine lv_iload hx hb dX10_shift_61 (lv_at hl 5 rfl) ?_
        refine lv_sipush (v := (-200)) hx hb dX10_shift_63 rfl ?_
        refine lv_sipush (v := 200) hx hb dX10_shift_66 rfl ?_
        obtain ⟨hPc, hDc, hFc, hI1⟩ := zi_sub (wc := []) hP hD hS hA [] rfl rfl
        refine zcall (st1 := [.int (pI ((-200 : Int32).toInt ≤ sy.toInt ∧ sy.toInt ≤ (200 : Int32).toInt))]) (va_runS (As := [.int sy, .int (-200), .int 200]) (rest := []) ⟨hx, hb, hml, hown, hts⟩ (k_isWithin l dC dI cI cZ cF H.size sy (-200) 200 ) (csS_14 hts rfl rfl ⟨Nat.le_of_ble_eq_true rfl, Nat.le_of_ble_eq_true rfl⟩) (zPS2 hPc hDc hK3 hXN) rfl rfl hl.1 rfl (lv_room (Nat.le_of_ble_eq_true rfl)) dX10_shift_69 ⟨Nat.le_of_ble_eq_true rfl, Nat.le_of_ble_eq_true rfl⟩) hS hFc hFc rfl (fun t H locs ht hB hk1 hS => ?_)
        obtain ⟨hP1, hD1⟩ := hB
        rw [ht] at hP1
        replace hP := z0 hP hD hk1 hP1 hI1
        clear hk1 hPc hDc hFc hP1 hD1 ht hI1
        refine lv_if_ne (tgt := 81) hx hb dX10_shift_72 rfl (fun c_4 => ?_) (fun c_4 => ?_)
        · have c_4 : (-200 : Int32).toInt ≤ sy.toInt ∧ sy.toInt ≤ (200 : Int32).toInt := zp_1 c_4
          refine lv_iload hx hb dX10_shift_81 (lv_at hl 6 rfl) ?_
          refine lv_iconst (v := 0) hx hb dX10_shift_83 rfl ?_
          refine lv_bipush (v := 20) hx hb dX10_shift_84 rfl ?_
          obtain ⟨hPc, hDc, hFc, hI1⟩ := zi_sub (wc := []) hP hD hS hA [] rfl rfl
          refine zcall (st1 := [.int (pI ((0 : Int32).toInt ≤ (nI rr).toInt ∧ (nI rr).toInt ≤ (20 : Int32).toInt))]) (va_runS (As := [.int (nI rr), .int 0, .int 20]) (rest := []) ⟨hx, hb, hml, hown, hts⟩ (k_isWithin l dC dI cI cZ cF H.size (nI rr) 0 20 ) (csS_14 hts rfl rfl ⟨Nat.le_of_ble_eq_true rfl, Nat.le_of_ble_eq_true rfl⟩) (zPS2 hPc hDc hK3 hXN) rfl rfl hl.1 rfl (lv_room (Nat.le_of_ble_eq_true rfl)) dX10_shift_86 ⟨Nat.le_of_ble_eq_true rfl, Nat.le_of_ble_eq_true rfl⟩) hS hFc hFc rfl (fun t H locs ht hB hk1 hS => ?_)
          obtain ⟨hP1, hD1⟩ := hB
          rw [ht] at hP1
          replace hP := z0 hP hD hk1 hP1 hI1
          clear hk1 hPc hDc hFc hP1 hD1 ht hI1
          refine lv_if_ne (tgt := 98) hx hb dX10_shift_89 rfl (fun c_5 => ?_) (fun c_5 => ?_)
          · have c_5 : (0 : Int32).toInt ≤ (nI rr).toInt ∧ (nI rr).toInt ≤ (20 : Int32).toInt := zp_1 c_5
            refine lv_aload hx hb dX10_shift_98 (lv_at hl 0 rfl) ?_
            refine va_get (D := (dC, dI)) (ci := 1) (v := .ref (la dn f0)) (C := RX2) (T := TX2) (N := 8) hx hb hts inX2 hown hK hP 16 rfl rfl 6 (Nat.le_of_ble_eq_true rfl) (hts _ mw_433) (fun _ h9 => h9) rfl dX10_shift_100 ?_
            refine va_get (D := (dC, dI)) (ci := 4) (v := .ref r5) (C := RX5) (T := TX5) (N := 6) hx hb hts inX5 hown hK hP 17 rfl rfl 2 (Nat.le_of_ble_eq_true rfl) (hts _ mw_391) (fun _ h9 => h9) rfl dX10_shift_103 ?_
            refine lv_astore (lv' := [(7, .ref r5), (6, .ref (fe f0)), (0, .ref x), (1, .int (nI f0)), (2, .int (nI kk)), (3, .int sx), (4, .int sy), (5, .int (nI rr))]) hx hb dX10_shift_106 hl (Nat.le_of_ble_eq_true rfl) rfl (fun ls hl => ?_)
            refine lv_aload hx hb dX10_shift_108 (lv_at hl 0 rfl) ?_
            refine lv_ifnonnull (tgt := 119) hx hb dX10_shift_110 rfl ?_
            refine lv_aload_n hx hb dX10_shift_119 rfl (lv_at hl 2 rfl) ?_
            refine va_get (D := (dC, dI)) (ci := 8) (v := .ref lw) (C := RX10) (T := TX10) (N := 13) hx hb hts inX10 hown hK hP 0 rfl rfl 1 (Nat.le_of_ble_eq_true rfl) (hts _ mw_310) (fun _ h9 => h9) rfl dX10_shift_120 ?_
            refine va_get (D := (dC, dI)) (ci := 3) (v := .ref dr) (C := RX4) (T := TX4) (N := 6) hx hb hts inX4 hown hK hP 2 rfl rfl 0 (Nat.le_of_ble_eq_true rfl) (hts _ mw_220) (fun _ h9 => h9) rfl dX10_shift_123 ?_
            refine lv_aload hx hb dX10_shift_126 (lv_at hl 0 rfl) ?_
            obtain ⟨hPc, hDc, hFc⟩ := zo_sub (wc := [_, _, _, _, _, _]) hP hD hS hA [9, 10, 11, 18, 19, 20] (by decide +kernel) rfl
            refine zcall (st1 := []) (va_runV (As := [.ref r5]) (rest := []) ⟨hx, hb, hml, hown, hts⟩ (k_Row_copyFrom l dC dI cI cZ cF H.size dr dx dy nd cd P Q rd r5 rx5 ry5 (nN (mn f0)) cap5 X5 Y5 (rgK (kd f0).toInt) (by first | with_reducible assumption | omega) (by first | with_reducible assumption | omega) (by first | with_reducible assumption | omega) (by first | with_reducible assumption | omega) (rgK_01 _)) (csV_120 hts rfl rfl ⟨Nat.le_of_ble_eq_true rfl, Nat.le_of_ble_eq_true rfl⟩) (zPV2 (q0 := 0) (ci := 6) hPc hDc hK3 hXN rfl rfl) rfl rfl hl.1 rfl (lv_room (Nat.le_of_ble_eq_true rfl)) dX10_shift_128 ⟨Nat.le_of_ble_eq_true rfl, Nat.le_of_ble_eq_true rfl⟩) hS hFc hFc rfl (fun t H locs ht hB hk1 hS => ?_)
            obtain ⟨P6, Q6, hcp7, hP1, hD1⟩ := hB
            rw [ht] at hP1
            obtain ⟨hP, hD⟩ := znQ (W2 := [_, _, _, _, _, _, _, _, _, (oc6 dr (.ref dx) (.ref dy) (nI (nN (mn f0))) (rgK (kd f0).toInt)), (oa dx cI cd P6), (oa dy cI cd Q6), _, _, _, _, _, _, _, _, _, _, _, _]) hP hD hk1 hFc hP1 hD1 [9, 10, 11, 18, 19, 20] zl_77 zl_77 [9, 10, 11, 18, 19, 20] (by decide +kernel) rfl rfl rfl rfl rfl
            clear hk1 hPc hDc hFc hP1 hD1 ht
            refine lv_aload hx hb dX10_shift_131 (lv_at hl 1 rfl) ?_
            obtain ⟨hPc, hDc, hFc, hI1⟩ := zi_sub (wc := [_, _]) hP hD hS hA [16, 17] rfl rfl
            refine zcall (st1 := [.int (pI (1 ≤ (kd f0).toInt ∧ (kd f0).toInt ≤ 5))]) (va_runV (As := []) (rest := []) ⟨hx, hb, hml, hown, hts⟩ (k_Feature_bends_r l dC dI cI cZ cF H.size (fe f0) lo5 (rk f0) (wd f0) (tw f0) (pa f0) (pb f0) (la dn f0) (kd f0) (st f0) (gb f0) (it f0) (nI we5) r5 ) (csV_97 hts rfl rfl ⟨Nat.le_of_ble_eq_true rfl, Nat.le_of_ble_eq_true rfl⟩) (zPV2 (q0 := 0) (ci := 1) hPc hDc hK3 hXN rfl rfl) rfl rfl hl.1 rfl (lv_room (Nat.le_of_ble_eq_true rfl)) dX10_shift_133 ⟨Nat.le_of_ble_eq_true rfl, Nat.le_of_ble_eq_true rfl⟩) hS hFc hFc rfl (fun t H locs ht hB hk1 hS => ?_)
            obtain ⟨hP1, hD1⟩ := hB
            rw [ht] at hP1
            replace hP := z0 hP hD hk1 hP1 hI1
            clear hk1 hPc hDc hFc hP1 hD1 ht hI1
            refine lv_if_eq (tgt := 158) hx hb dX10_shift_136 rfl (fun c_6 => ?_) (fun c_6 => ?_)
            · have c_6 : ¬ (1 ≤ (kd f0).toInt ∧ (kd f0).toInt ≤ 5) := zp_0 c_6
              exfalso; exact absurd hkd (by first | with_reducible assumption | assumption)
            · have c_6 : 1 ≤ (kd f0).toInt ∧ (kd f0).toInt ≤ 5 := zp_1 c_6
              refine lv_aload_n hx hb dX10_shift_139 rfl (lv_at hl 2 rfl) ?_
              refine va_get (D := (dC, dI)) (ci := 8) (v := .ref lw) (C := RX10) (T := TX10) (N := 13) hx hb hts inX10 hown hK hP 0 rfl rfl 1 (Nat.le_of_ble_eq_true rfl) (hts _ mw_310) (fun _ h9 => h9) rfl dX10_shift_140 ?_
              refine va_get (D := (dC, dI)) (ci := 3) (v := .ref dr) (C := RX4) (T := TX4) (N := 6) hx hb hts inX4 hown hK hP 2 rfl rfl 0 (Nat.le_of_ble_eq_true rfl) (hts _ mw_220) (fun _ h9 => h9) rfl dX10_shift_143 ?_
              refine lv_iload_n hx hb dX10_shift_146 rfl (lv_at hl 4 rfl) ?_
              refine lv_iload_n hx hb dX10_shift_147 rfl (lv_at hl 5 rfl) ?_
              refine lv_iload hx hb dX10_shift_148 (lv_at hl 6 rfl) ?_
              refine lv_iload hx hb dX10_shift_150 (lv_at hl 7 rfl) ?_
              obtain ⟨hPc, hDc, hFc⟩ := zo_sub (wc := [_, _, _]) hP hD hS hA [9, 10, 11] rfl rfl
              refine zcall (st1 := []) (va_runV (As := [.int (nI kk), .int sx, .int sy, .int (nI rr)]) (rest := []) ⟨hx, hb, hml, hown, hts⟩ (k_Row_pull l dC dI cI cZ cF H.size dr dx dy (nN (mn f0)) cd P6 Q6 (rgK (kd f0).toInt) kk rr sx sy ((kd f0).toInt) (by first | with_reducible assumption | omega) (by first | with_reducible assumption | omega) (by first | with_reducible assumption | omega) (by first | with_reducible assumption | omega) (by first | with_reducible assumption | omega) (rgK_0 _)) (csV_121 hts rfl rfl ⟨Nat.le_of_ble_eq_true rfl, Nat.le_of_ble_eq_true rfl⟩) (zPV2 (q0 := 0) (ci := 6) hPc hDc hK3 hXN rfl rfl) rfl rfl hl.1 rfl (lv_room (Nat.le_of_ble_eq_true rfl)) dX10_shift_152 ⟨Nat.le_of_ble_eq_true rfl, Nat.le_of_ble_eq_true rfl⟩) hS hFc hFc rfl (fun t H locs ht hB hk1 hS => ?_)
              obtain ⟨P7, Q7, hall7, hP1, hD1⟩ := hB
              rw [ht] at hP1
              obtain ⟨hP, hD⟩ := znQ (W2 := [_, _, _, _, _, _, _, _, _, _, (oa dx cI cd P7), (oa dy cI cd Q7), _, _, _, _, _, _, _, _, _, _, _, _]) hP hD hk1 hFc hP1 hD1 [9, 10, 11] zl_82 zl_82 [9, 10, 11] (by decide +kernel) rfl rfl rfl rfl rfl
              clear hk1 hPc hDc hFc hP1 hD1 ht
              refine lv_goto (tgt := 171) hx hb dX10_shift_155 rfl ?_
              have hv7 : ∀ k, k < nN (mn f0) → P7 k = (fun i => shV (kd f0).toInt (nN (mn f0)) kk sx rr (cF40 cx f0) i) k ∧ Q7 k = (fun i => shV (kd f0).toInt (nN (mn f0)) kk sy rr (cF40 cy f0) i) k := fun k hk => ⟨sh_hv hk (fun j hj => (hcp7 j hj).1.trans (hX5 j hj).1) (hall7 k hk).1, sh_hv hk (fun j hj => (hcp7 j hj).2.trans (hX5 j hj).2) (hall7 k hk).2⟩
              refine lv_aload_n hx hb dX10_shift_171 rfl (lv_at hl 2 rfl) ?_
              refine lv_aload hx hb dX10_shift_172 (lv_at hl 1 rfl) ?_
              refine lv_iload_n hx hb dX10_shift_174 rfl (lv_at hl 3 rfl) ?_
              refine lv_iconst (v := 3) hx hb dX10_shift_175 rfl ?_
              obtain ⟨hPc, hDc, hFc⟩ := zo_part (cx := [_, _, _, _, _, _, _, _, _, _, _, _, _, _, _, _, _, _, _, _, _, _, _, _]) hP hD hS hA [0, 1, 2, 3, 4, 5, 6, 7, 8, 9, 10, 11, 12, 13, 16, 17, 18, 19, 20, 21, 22, 23, 14, 15] (by decide +kernel) rfl
              refine zcall (st1 := [.int 0]) (va_runV (As := [.ref (fe f0), .int (nI f0), .int 3]) (rest := []) ⟨hx, hb, hml, hown, hts⟩ (k_moveTo_m_r l dC dI cI cZ cF H.size cO e0 mi x sh lw ro bq bp dq dp lv sl sd ul su ea mc9 fa FA bs dn T ft FT V VX VY tn rk wd tw pa pb wh of9 we kd st gb it mn cx cy T_1 f L f0 own fe cl la sp SA lo5 lx5 ly5 ln5 LX5 LY5 we5 r5 rx5 ry5 cap5 X5 Y5 dr tg wy br bo aa tx ty nt TX TY rt wx wz nw WX WY rw dx dy cd P7 Q7 b1 b2 b3 b4 b5 b6 b7 b8 3 (hG9) (hH9) (hft9) (hO9) (hc5) (hT_1) (by first | with_reducible assumption | assumption) (by first | with_reducible assumption | assumption) (hst) (hwf) (hkn) (by first | with_reducible assumption | omega) (by have := hkn0; have := hsm.1; omega) (fun h => hbad ⟨((alM_cx hw1.1 hX5).trans (alM_lw (VX := fun i => shV (kd f0).toInt (nN (mn f0)) kk sx rr (cF40 cx f0) i) (VY := fun i => shV (kd f0).toInt (nN (mn f0)) kk sy rr (cF40 cy f0) i) (by first | with_reducible assumption | omega) (by first | with_reducible assumption | omega) (hsm.2 (by first | with_reducible assumption | omega)).1 hv7 hwf hkn)).mp h.1, Classical.byContradiction fun g => h.2 ((mv_alk hv7 hX5).mpr g)⟩)) (csV_117 hts rfl rfl ⟨Nat.le_of_ble_eq_true rfl, Nat.le_of_ble_eq_true rfl⟩) (zPVL (q0 := 0) (ci := 8) hPc hDc hK hXL hS hFc rfl rfl) rfl rfl hl.1 rfl (lv_room (Nat.le_of_ble_eq_true rfl)) dX10_shift_176 ⟨Nat.le_of_ble_eq_true rfl, Nat.le_of_ble_eq_true rfl⟩) hS hFc hFc rfl (fun t H locs ht hB hk1 hS => ?_)
              refine ex18 hB (fun ul8 su8 nt8 TX8 TY8 rt8 nw8 WX8 WY8 rw8 g08 g18 g28 g38 g48 g58 g68 g78 hB0 => ?_)
              clear hB
              obtain ⟨hP1, hD1⟩ := hB0
              rw [ht] at hP1
              obtain ⟨hP, hD⟩ := znP (W2 := [(oc8 x (.ref sh) (.ref lw) (.ref ro) (.ref bq) (.ref bp) (.ref dq) (.ref dp) (.ref lv) (.ref sl) (nI dn) sd ul8 su8), _, _, (oc6 tg (.ref tx) (.ref ty) (nI nt8) rt8), (oa tx cI 3 TX8), (oa ty cI 3 TY8), (oc6 wy (.ref wx) (.ref wz) (nI nw8) rw8), (oa wx cI 2 WX8), (oa wz cI 2 WY8), _, _, _, (oc0 br g08 g18 g28 g38), (oc0 bo g48 g58 g68 g78), _, _, _, _, _, _, _, _, _, _]) hP hD hk1 hFc hP1 hD1 zl_78 [] zl_81 zl_78 (by decide +kernel) rfl rfl rfl rfl rfl
              clear hk1 hPc hDc hFc hP1 hD1 ht
              obtain ⟨hP, hD⟩ := pl_bk (X := [_, _, _, _, _, _, _, _, _, _, _, _, _, _, _, _]) hT_1 hP rfl hc9_1 hD0_1 rfl
              obtain ⟨hP9, hD9⟩ := zu_part (cx := [_, _, _, _, _, _, _, _, _, _, _, _, _, _, _, _]) hP hD [true, true, true, true, true, true, true, true, true, true, true, true, true, true, true, true] rfl rfl
              rw [hQ9]
              exact W.zret (ty := .boolean) (v := 0) hx hb hr (rfl) (fun t ht hW => ⟨⟨rfl, ul8, su8, nt8, TX8, TY8, rt8, nw8, WX8, WY8, rw8, g08, g18, g28, g38, g48, g58, g68, g78, P7, Q7, by rw [ht]; exact hP9, hD9⟩, hS.F ht⟩) hS.2.2 dX10_shift_179
          · have c_5 : ¬ ((0 : Int32).toInt ≤ (nI rr).toInt ∧ (nI rr).toInt ≤ (20 : Int32).toInt) := zp_0 c_5
            exfalso; omega
        · have c_4 : ¬ ((-200 : Int32).toInt ≤ sy.toInt ∧ sy.toInt ≤ (200 : Int32).toInt) := zp_0 c_4
          exfalso; omega
    · have c_2 : ¬ (st f0).toInt = 1 := zc_ne rfl rfl c_2
      exfalso; omega
  · have c_1 : ¬ (0 ≤ (nI kk).toInt ∧ (nI kk).toInt < (((nN (mn f0)) : Nat) : Int)) := zp_0 c_1
    exfalso; omega
end
section
/-! a box's area; numbers of the square -/
theorem nn_sub {a b : Nat} (ha : a < 2147483648) (hb : b < 2147483648) : nI a - nI b = iI (((a : Nat) : Int) - ((b : Nat) : Int)) := iI_of (by
  have h1 := nI_toInt (n := a) (by omega); have h2 := nI_toInt (n := b) (by omega)
  rw [fb_subI (by rw [h1, h2]; omega) (by rw [h1, h2]; omega), h1, h2])
theorem bx_id (a b c d : Int) : a * c - b * c + (b * d - b * c) + (b * d - a * d) + (a * c - a * d) = 2 * (b - a) * (d - c) := by grind
theorem bx_ar {X Y : Nat → Int32} {a b c d : Int} (h0 : (X 0).toInt = a ∧ (Y 0).toInt = c) (h1 : (X 1).toInt = b ∧ (Y 1).toInt = c) (h2 : (X 2).toInt = b ∧ (Y 2).toInt = d) (h3 : (X 3).toInt = a ∧ (Y 3).toInt = d) (hab : a ≤ b) (hcd : c ≤ d) : ((Int.natAbs (ar2 4 X Y 4) : Nat) : Int) = 2 * (b - a) * (d - c) := by
  have e : ar2 4 X Y 4 = 2 * (b - a) * (d - c) := by
    have n0 : nxt 4 0 = 1 := by decide
    have n1 : nxt 4 1 = 2 := by decide
    have n2 : nxt 4 2 = 3 := by decide
    have n3 : nxt 4 3 = 0 := by decide
    show 0 + ((X 0).toInt * (Y (nxt 4 0)).toInt - (X (nxt 4 0)).toInt * (Y 0).toInt) + ((X 1).toInt * (Y (nxt 4 1)).toInt - (X (nxt 4 1)).toInt * (Y 1).toInt) + ((X 2).toInt * (Y (nxt 4 2)).toInt - (X (nxt 4 2)).toInt * (Y 2).toInt) + ((X 3).toInt * (Y (nxt 4 3)).toInt - (X (nxt 4 3)).toInt * (Y 3).toInt) = _
    rw [n0, n1, n2, n3, h0.1, h0.2, h1.1, h1.2, h2.1, h2.2, h3.1, h3.2, ← bx_id]
    omega
  have hp : 0 ≤ 2 * (b - a) * (d - c) := Int.mul_nonneg (by omega) (by omega)
  rw [e, Int.natAbs_of_nonneg hp]
theorem bx_4 {P : Nat → Int32} {a b : Int32} : (upd (upd (upd (upd P 0 a) 1 b) 2 b) 3 a) 0 = a ∧ (upd (upd (upd (upd P 0 a) 1 b) 2 b) 3 a) 1 = b ∧ (upd (upd (upd (upd P 0 a) 1 b) 2 b) 3 a) 2 = b ∧ (upd (upd (upd (upd P 0 a) 1 b) 2 b) 3 a) 3 = a := by simp [upd]
theorem bx_5 {P : Nat → Int32} {a b : Int32} : (upd (upd (upd (upd P 0 a) 1 a) 2 b) 3 b) 0 = a ∧ (upd (upd (upd (upd P 0 a) 1 a) 2 b) 3 b) 1 = a ∧ (upd (upd (upd (upd P 0 a) 1 a) 2 b) 3 b) 2 = b ∧ (upd (upd (upd (upd P 0 a) 1 a) 2 b) 3 b) 3 = b := by simp [upd]
theorem mn_mx {z : Int} {X : Nat → Int32} : ∀ i, mnI z X i ≤ z ∧ z ≤ mxI z X i := by
  intro i
  induction i with
  | zero => exact ⟨Int.le_refl _, Int.le_refl _⟩
  | succ i ih => rw [mnI_s, mxI_s]; omega
/-- the box of a row of places -/
theorem bx_sq {n : Nat} {X Y P Q : Nat → Int32} (hp : pls n X Y) (h1 : 1 ≤ n) (p0 : P 0 = iI (mnI (X 0).toInt X n) ∧ P 1 = iI (mxI (X 0).toInt X n) ∧ P 2 = iI (mxI (X 0).toInt X n) ∧ P 3 = iI (mnI (X 0).toInt X n)) (q0 : Q 0 = iI (mnI (Y 0).toInt Y n) ∧ Q 1 = iI (mnI (Y 0).toInt Y n) ∧ Q 2 = iI (mxI (Y 0).toInt Y n) ∧ Q 3 = iI (mxI (Y 0).toInt Y n)) :
    pls 4 P Q ∧ ((Int.natAbs (ar2 4 P Q 4) : Nat) : Int) - ((Int.natAbs (ar2 n X Y n) : Nat) : Int) = dfB n X Y ∧ Int.natAbs (ar2 4 P Q 4) ≤ 4000000 ∧ Int.natAbs (ar2 n X Y n) ≤ 1000000 * n := by
  have a1 := mnP (z := (X 0).toInt) (hp 0 (by omega)).1 hp n (Nat.le_refl _)
  have a2 := mnP (z := (Y 0).toInt) (hp 0 (by omega)).2 hp n (Nat.le_refl _)
  have m1 := mn_mx (z := (X 0).toInt) (X := X) n
  have m2 := mn_mx (z := (Y 0).toInt) (X := Y) n
  have t1 : (iI (mnI (X 0).toInt X n)).toInt = mnI (X 0).toInt X n := iI_toInt (by omega)
  have t2 : (iI (mxI (X 0).toInt X n)).toInt = mxI (X 0).toInt X n := iI_toInt (by omega)
  have t3 : (iI (mnI (Y 0).toInt Y n)).toInt = mnI (Y 0).toInt Y n := iI_toInt (by omega)
  have t4 : (iI (mxI (Y 0).toInt Y n)).toInt = mxI (Y 0).toInt Y n := iI_toInt (by omega)
  have ar := bx_ar (X := P) (Y := Q) (a := mnI (X 0).toInt X n) (b := mxI (X 0).toInt X n) (c := mnI (Y 0).toInt Y n) (d := mxI (Y 0).toInt Y n) ⟨by rw [p0.1, t1], by rw [q0.1, t3]⟩ ⟨by rw [p0.2.1, t2], by rw [q0.2.1, t3]⟩ ⟨by rw [p0.2.2.1, t2], by rw [q0.2.2.1, t4]⟩ ⟨by rw [p0.2.2.2, t1], by rw [q0.2.2.2, t4]⟩ (by omega) (by omega)
  have c := mulB (u := mxI (X 0).toInt X n - mnI (X 0).toInt X n) (v := mxI (Y 0).toInt Y n - mnI (Y 0).toInt Y n) (by omega) (by omega) (by omega) (by omega)
  have d := ar2B hp n (Nat.le_refl _)
  refine ⟨fun j hj => ?_, by rw [ar, dfB_eq], ?_, by omega⟩
  · unfold pl
    rcases (by omega : j = 0 ∨ j = 1 ∨ j = 2 ∨ j = 3) with e | e | e | e
    · rw [e, p0.1, q0.1, t1, t3]; omega
    · rw [e, p0.2.1, q0.2.1, t2, t3]; omega
    · rw [e, p0.2.2.1, q0.2.2.1, t2, t4]; omega
    · rw [e, p0.2.2.2, q0.2.2.2, t1, t4]; omega
  · rw [Int.mul_assoc] at ar
    generalize (mxI (X 0).toInt X n - mnI (X 0).toInt X n) * (mxI (Y 0).toInt Y n - mnI (Y 0).toInt Y n) = m at *
    omega
end
section
/-! a feature, with all its numbers -/
def vwA (cI : ClassId) (L : List Nat) (f : Nat → va_E) (FA : Nat → Option Nat) (rk wd tw pa pb kd st gb it tn mn cx cy : Nat → Int32) (i : Nat) : Prop :=
  ∃ (fe lk lo : Nat) (we : Int32) (fm rv : Value), FA i = some fe ∧ (fe ∈ L ∧ f fe = .inr (1, [.int (rk i), .int (wd i), .int (tw i), .int (pa i), .int (pb i), .ref lo, .ref lk, fm])) ∧ (lk ∈ L ∧ f lk = .inr (4, [.int (kd i), .int (st i), rv, .int (gb i), .int (it i), .int we])) ∧
    (¬ (tn i).toInt = 0 → rv = .null) ∧ ((tn i).toInt = 0 → ∃ (r rx ry cap : Nat) (X Y : Nat → Int32) (rg : Int32), rv = .ref r ∧ rwA cI L f r rx ry (nN (mn i)) cap X Y rg ∧ rwR kd mn cx cy i cap X Y rg)
theorem vwA_2 {cI : ClassId} {L : List Nat} {f : Nat → va_E} {FA : Nat → Option Nat} {rk wd tw pa pb kd st gb it tn mn cx cy : Nat → Int32} {i : Nat} (h : vwA cI L f FA rk wd tw pa pb kd st gb it tn mn cx cy i) :
    (¬ (tn i).toInt = 0 ∧ ∃ (fe lk lo : Nat) (we : Int32) (fm : Value), FA i = some fe ∧ (fe ∈ L ∧ f fe = .inr (1, [.int (rk i), .int (wd i), .int (tw i), .int (pa i), .int (pb i), .ref lo, .ref lk, fm])) ∧ (lk ∈ L ∧ f lk = .inr (4, [.int (kd i), .int (st i), .null, .int (gb i), .int (it i), .int we]))) ∨
    ((tn i).toInt = 0 ∧ ∃ (fe lk lo : Nat) (we : Int32) (fm : Value) (r rx ry cap : Nat) (X Y : Nat → Int32) (rg : Int32), FA i = some fe ∧ (fe ∈ L ∧ f fe = .inr (1, [.int (rk i), .int (wd i), .int (tw i), .int (pa i), .int (pb i), .ref lo, .ref lk, fm])) ∧ (lk ∈ L ∧ f lk = .inr (4, [.int (kd i), .int (st i), .ref r, .int (gb i), .int (it i), .int we])) ∧ rwA cI L f r rx ry (nN (mn i)) cap X Y rg ∧ rwR kd mn cx cy i cap X Y rg) := by
  obtain ⟨fe, lk, lo, we, fm, rv, h1, h2, h3, h4, h5⟩ := h
  by_cases t0 : (tn i).toInt = 0
  · obtain ⟨r, rx, ry, cap, X, Y, rg, e, h6, h7⟩ := h5 t0
    subst e
    exact Or.inr ⟨t0, fe, lk, lo, we, fm, r, rx, ry, cap, X, Y, rg, h1, h2, h3, h6, h7⟩
  · have e := h4 t0
    subst e
    exact Or.inl ⟨t0, fe, lk, lo, we, fm, h1, h2, h3⟩
section
variable {cI cO : ClassId} {L : List Nat} {f : Nat → va_E} {own : Nat → Nat} {e0 ea n9 : Nat} {FA : Nat → Option Nat} {fe cl nw md sp : Nat → Nat} {la : Nat → Nat → Nat} {fm : Nat → Value} {SA : Nat → Option Nat} {bs dn T ft fN : Nat} {FT : Nat → Nat} {V : Nat → Nat → Nat → Int32} {VX VY : Nat → Nat → Int32} {tn rk wd tw pa pb wh of9 we kd st gb it mn cx cy : Nat → Int32}
theorem sh_va {cs : va_W} {q : Nat} (hF : FeA cI L f own fN fe nw cl fm rk wd tw pa pb) (hN : NwA cI L f own ft nw cl md kd st gb it tn mn cx cy) (hA : ∀ q, q < ft → FA q = some (fe q)) (hf : ft ≤ fN) (hq : q < ft) (hc : ∀ c ∈ cs, own c.1 / 8 ≠ q) : vwA cI (outPl L cs) f FA rk wd tw pa pb kd st gb it tn mn cx cy q := by
  have hg : ∀ g, g / 8 = q → ∀ c ∈ cs, own c.1 ≠ g := fun g hg c h1 e => hc c h1 (by rw [e]; exact hg)
  have t1 : glM (md q) q / 8 = q := by unfold glM; split <;> omega
  have t2 : grM (md q) q / 8 = q := by unfold grM; split <;> omega
  obtain ⟨lo, lx, ly, ln, LX, LY, f1, f2, f3⟩ := hF q (by omega)
  obtain ⟨we, rv, n1, n2, n3, n4, n5⟩ := hN q hq
  refine ⟨fe q, nw q, lo, nI we, fm q, rv, hA q hq, ce_pl (ce_out f1 (hg _ (by omega))), ce_pl (ce_out n1 (hg _ t1)), n4, fun h0 => ?_⟩
  obtain ⟨r, rx, ry, cap, X, Y, e, r1, r2, r3, r4, r5, r6⟩ := n5 h0
  refine ⟨r, rx, ry, cap, X, Y, rgK (kd q).toInt, e, ⟨ce_pl (ce_out r1.1 (hg _ t2)), ce_pl (ce_out r1.2.1 (hg _ t2)), ce_pl (ce_out r1.2.2.1 (hg _ t2)), r1.2.2.2⟩, r2, r3, rgK_01 _, ?_, r5⟩
  unfold rgK; split <;> rfl
theorem shB_va (h : shB cI cO L f e0 FA ea bs dn T ft FT V VX VY tn rk wd tw pa pb wh of9 we kd st gb it mn cx cy) : ∀ q, q < ft → vwA cI L f FA rk wd tw pa pb kd st gb it tn mn cx cy q := by
  obtain ⟨own, fe, cl, la, sp, SA, ⟨h1, h2, h3, h4, h5, h6, h7⟩, h8, h9⟩ := h
  intro q hq
  have := sh_va (cs := []) h1 h2 h7 h6.2.2.2.2.1 hq (fun c hc => by cases hc)
  rw [outPl_nil] at this
  exact this
theorem M_thf {gh gh1 : Nat → Nat → Int32} {q : Nat} {lo lx ly ln ln1 : Nat} {LX LY LX1 LY1 : Nat → Int32} {we9 we1 r rx ry cap n1 : Nat} {X Y X1 Y1 : Nat → Int32} {Xw : va_W} {mn1 cx1 cy1 : Nat → Int32} {L1 : List Nat} {f1 : Nat → va_E}
    (hG : shG cI cO L f e0 FA ea n9 own fe cl la nw md sp fm SA bs dn dn ft ft FT V VX VY tn rk wd tw pa pb wh of9 we kd st gb it mn cx cy) (hM : mdA dn ft FT la nw md fm V kd st gb it) (hm : md q = 1) (hq : q < ft) (ht : (tn q).toInt = 0) (hbd : 1 ≤ (kd q).toInt ∧ (kd q).toInt ≤ 5)
    (hc : fcA cI L f own q (8 * q + 4) (8 * q + 5) (fe q) (nw q) (cl q) (.ref (la dn q)) (rk q) (wd q) (tw q) (pa q) (pb q) (kd q) (st q) (gb q) (it q) (nN (mn q)) (cF40 cx q) (cF40 cy q) lo lx ly ln LX LY we9 r rx ry cap X Y)
    (hp : pinD L f Xw [(fe q, .inr (1, [.int (rk q), .int (wd q), .int (tw q), .int (pa q), .int (pb q), .ref lo, .ref (nw q), .ref (la dn q)])), (nw q, .inr (4, [.int (kd q), .int (st q), .ref r, .int (gb q), .int (it q), .int (nI we1)])), (r, .inr (6, [.ref rx, .ref ry, .int (nI n1), .int (rgK (kd q).toInt)])), (rx, .inl (cI, cap, .inl X1)), (ry, .inl (cI, cap, .inl Y1)), (lo, .inr (6, [.ref lx, .ref ly, .int (nI ln1), .int 0])), (lx, .inl (cI, cl q, .inl LX1)), (ly, .inl (cI, cl q, .inl LY1))] []
      [(fe q, .inr (1, [.int (rk q), .int (wd q), .int (tw q), .int (pa q), .int (pb q), .ref lo, .ref (nw q), .ref (la dn q)])), (nw q, .inr (4, [.int (kd q), .int (st q), .ref r, .int (gb q), .int (it q), .int (nI we1)])), (r, .inr (6, [.ref rx, .ref ry, .int (nI n1), .int (rgK (kd q).toInt)])), (rx, .inl (cI, cap, .inl X1)), (ry, .inl (cI, cap, .inl Y1)), (lo, .inr (6, [.ref lx, .ref ly, .int (nI ln1), .int 0])), (lx, .inl (cI, cl q, .inl LX1)), (ly, .inl (cI, cl q, .inl LY1))] L1 f1)
    (ho : othS q kd st gb it mn cx cy kd st gb it mn1 cx1 cy1) (hn1 : nN (mn1 q) = n1) (hX1 : ∀ k, k < n1 → X1 k = cF40 cx1 q k ∧ Y1 k = cF40 cy1 q k) (hcap : n1 ≤ cap ∧ we1 + n1 ≤ 40) (hln : ln1 ≤ cl q) (hO : loG cI L f own fe nw md la bs dn dn ft ft FT V gh) (hgl : ∀ i, i < we9 → LX1 i = LX i ∧ LY1 i = LY i) (hwl : we9 ≤ we1 ∧ we1 ≤ ln1) (hgE : gE LX1 LY1 we1 gh1 q) (hgo : ∀ p, p ≠ q → ∀ j, gh1 j p = gh j p) :
    ∃ (own1 nw1 md1 : Nat → Nat) (fm1 : Nat → Value), shG cI cO L1 f1 e0 FA ea n9 own1 fe cl la nw1 md1 sp fm1 SA bs dn dn ft ft FT V VX VY tn rk wd tw pa pb wh of9 we kd st gb it mn1 cx1 cy1 ∧ mdA dn ft FT la nw1 md1 fm1 V kd st gb it ∧ md1 = upN md q 1 ∧ loG cI L1 f1 own1 fe nw1 md1 la bs dn dn ft ft FT V gh1 := by
  obtain ⟨hfr, hkp, hce, hsx, hpw⟩ := hp
  obtain ⟨⟨a1, a2, ⟨a3, a4, a5, a6⟩, ⟨a7, a8, a9, a10⟩⟩, b1, b2, b3, b4, b5⟩ := hc
  have hmq := (hM q hq).2 (by omega)
  have hk := hkp own own (notQ q) (fun _ _ => rfl) ⟨fun _ h => absurd a1.2.2 h.1, fun _ h => absurd a2.2.2 h.2.2.1, fun _ h => absurd a3.2.2 h.2.2.2, fun _ h => absurd a4.2.2 h.2.2.2, fun _ h => absurd a5.2.2 h.2.2.2, fun _ h => absurd a7.2.2 h.2.1, fun _ h => absurd a8.2.2 h.2.1, fun _ h => absurd a9.2.2 h.2.1, trivial⟩
  have hfe : feG cI L1 f1 own q (fe q) (nw q) (cl q) (.ref (la dn q)) (rk q) (wd q) (tw q) (pa q) (pb q) := ⟨lo, lx, ly, ln1, LX1, LY1, hce _ 0 _ _ _ rfl a1.2.2, ⟨hce _ 5 _ _ _ rfl a7.2.2, hce _ 6 _ _ _ rfl a8.2.2, hce _ 7 _ _ _ rfl a9.2.2, a10⟩, hln, b1.2⟩
  have hlk : lkG cI L1 f1 own (glM 1 q) (grM 1 q) (nw q) (cl q) (kd q) (st q) (gb q) (it q) (tn q) (nN (mn1 q)) (cF40 cx1 q) (cF40 cy1 q) := by
    rw [hn1]
    exact ⟨we1, .ref r, hce _ 1 _ _ _ rfl a2.2.2, by omega, fun g => (b5 g).1, fun g => absurd ht g, fun _ => ⟨r, rx, ry, cap, X1, Y1, rfl, ⟨hce _ 2 _ _ _ rfl a3.2.2, hce _ 3 _ _ _ rfl a4.2.2, hce _ 4 _ _ _ rfl a5.2.2, a6⟩, hcap.1, b2.2.1, fun g => absurd g hmq.2.2.2, hX1, fun _ => hcap.2⟩⟩
  have hres := M_new (m := 1) (nq := nw q) hG hM hk hfe hlk ho (by decide) hq hmq.2.1 hmq.2.2.1 hmq.2.2.2
  have hl0 : loQ cI L f own q (fe q) ln LX LY := ⟨_, _, _, _, _, _, _, lo, lx, ly, cl q, a1, ⟨a7, a8, a9, a10⟩, by omega⟩
  have hw0 : weQ L f own (glM (md q) q) (nw q) we9 := by rw [hm]; exact ⟨b2.2.2, _, _, _, _, _, a2⟩
  have hl1 : loQ cI L1 f1 own q (fe q) ln1 LX1 LY1 := ⟨_, _, _, _, _, _, _, lo, lx, ly, cl q, hce _ 0 _ _ _ rfl a1.2.2, ⟨hce _ 5 _ _ _ rfl a7.2.2, hce _ 6 _ _ _ rfl a8.2.2, hce _ 7 _ _ _ rfl a9.2.2, a10⟩, by omega⟩
  have hw1 : weQ L1 f1 own (glM 1 q) (nw q) we1 := ⟨by omega, _, _, _, _, _, hce _ 1 _ _ _ rfl a2.2.2⟩
  exact ⟨_, _, _, _, hres.1, hres.2, rfl, loN (m := 1) (nq := nw q) hO hk hl0 hw0 hl1 hw1 hgE hgl hwl hgo hq⟩
end
theorem vwA_3 {cI : ClassId} {L : List Nat} {f : Nat → va_E} {FA : Nat → Option Nat} {rk wd tw pa pb kd st gb it tn mn cx cy : Nat → Int32} {i : Nat} {P9 : Prop} (h : vwA cI L f FA rk wd tw pa pb kd st gb it tn mn cx cy i) :
    (¬ (tn i).toInt = 0 ∧ ∃ (fe lk lo : Nat) (we : Int32) (fm : Value), FA i = some fe ∧ (fe ∈ L ∧ f fe = .inr (1, [.int (rk i), .int (wd i), .int (tw i), .int (pa i), .int (pb i), .ref lo, .ref lk, fm])) ∧ (lk ∈ L ∧ f lk = .inr (4, [.int (kd i), .int (st i), .null, .int (gb i), .int (it i), .int we]))) ∨
    ((tn i).toInt = 0 ∧ P9 ∧ ∃ (fe lk lo : Nat) (we : Int32) (fm : Value) (r rx ry cap : Nat) (X Y : Nat → Int32) (rg : Int32), FA i = some fe ∧ (fe ∈ L ∧ f fe = .inr (1, [.int (rk i), .int (wd i), .int (tw i), .int (pa i), .int (pb i), .ref lo, .ref lk, fm])) ∧ (lk ∈ L ∧ f lk = .inr (4, [.int (kd i), .int (st i), .ref r, .int (gb i), .int (it i), .int we])) ∧ rwA cI L f r rx ry (nN (mn i)) cap X Y rg ∧ rwR kd mn cx cy i cap X Y rg) ∨
    ((tn i).toInt = 0 ∧ ¬ P9 ∧ ∃ (fe lk lo : Nat) (we : Int32) (fm : Value) (r rx ry cap : Nat) (X Y : Nat → Int32) (rg : Int32), FA i = some fe ∧ (fe ∈ L ∧ f fe = .inr (1, [.int (rk i), .int (wd i), .int (tw i), .int (pa i), .int (pb i), .ref lo, .ref lk, fm])) ∧ (lk ∈ L ∧ f lk = .inr (4, [.int (kd i), .int (st i), .ref r, .int (gb i), .int (it i), .int we])) ∧ rwA cI L f r rx ry (nN (mn i)) cap X Y rg ∧ rwR kd mn cx cy i cap X Y rg) := by
  rcases vwA_2 h with g | ⟨t0, g⟩
  · exact Or.inl g
  · by_cases p : P9
    · exact Or.inr (Or.inl ⟨t0, p, g⟩)
    · exact Or.inr (Or.inr ⟨t0, p, g⟩)
end
section
/-! what holds of all that are there -/
def okA (ft : Nat) (st tn kd mn cx cy : Nat → Int32) : Prop := ∀ q, lvF ft st tn q → wfM mn cx cy q ∧ mSm (kd q).toInt (nN (mn q)) (cF40 cx q) (cF40 cy q)
section
variable {ft : Nat} {st tn kd mn cx cy mn1 cx1 cy1 : Nat → Int32}
theorem okA_kn (h : okA ft st tn kd mn cx cy) : okN ft st tn kd mn := fun q hq => by
  have hs := (h q hq).2
  by_cases e : (kd q).toInt = 0
  · exact Or.inl ⟨e, hs.1 e⟩
  · refine Or.inr ⟨e, ?_⟩
    have := (hs.2 e).1
    unfold mnc at this
    split at this <;> omega
theorem okA_al (h : okA ft st tn kd mn cx cy) : allI ft st tn kd mn cx cy := fun q hq => ⟨(h q hq).1, fun g => by
  have := ((h q hq).2.2 (by omega)).1
  unfold mnc at this
  rw [if_pos g] at this; exact this⟩
theorem okA_th {f : Nat} (h : okA ft st tn kd mn cx cy) (hf : lvF ft st tn f) (hb : 1 ≤ (kd f).toInt ∧ (kd f).toInt ≤ 5) : thI ft st tn kd f mn cx cy (nN (mn f)) := by
  have hk := okA_kn h f hf
  refine ⟨allI_p (okA_al h) hf, (h f hf).2, okA_kn h, hb, by omega, (okA_al h f hf).2, hf⟩
theorem thI_e {f L : Nat} : ∀ (m n : Nat) (mn cx cy mn1 cx1 cy1 : Nat → Int32) (n1 : Nat), thI ft st tn kd f mn cx cy n → plN ft st tn kd f L m mn cx cy n mn1 cx1 cy1 n1 → thI ft st tn kd f mn1 cx1 cy1 n1 := by
  intro m
  induction m with
  | zero =>
    intro n mn cx cy mn1 cx1 cy1 n1 h hp
    obtain ⟨e1, e2, e3, e4, _⟩ := plN_z rfl hp
    rw [e1, e2, e3, e4]; exact h
  | succ m ih =>
    intro n mn cx cy mn1 cx1 cy1 n1 h hp
    obtain ⟨r, k, e, hb, hr⟩ := plN_p (by omega) hp
    have e : r = m := by omega
    subst e
    exact ih _ _ _ _ _ _ _ _ (thI_s h hb) hr
theorem okA_s {f L m n1 : Nat} (h : okA ft st tn kd mn cx cy) (hf : lvF ft st tn f) (hb : 1 ≤ (kd f).toInt ∧ (kd f).toInt ≤ 5) (hp : plN ft st tn kd f L m mn cx cy (nN (mn f)) mn1 cx1 cy1 n1) : okA ft st tn kd mn1 cx1 cy1 := by
  have hI := okA_th h hf hb
  have hE := thI_e _ _ _ _ _ _ _ _ _ hI hp
  have h2 := plN_end _ _ _ _ _ _ _ _ _ hI.1 hp
  intro q hq
  refine ⟨h2.1.2.2.2.1 q hq, ?_⟩
  by_cases e : q = f
  · subst e
    rw [h2.1.1, nN_n9 (by have := h2.1.2.1; omega)]; exact hE.2.1
  · rw [h2.2.2.1 q e]
    exact mSm_cg (fun j hj => by
      have w := (h q hq).1.2.1
      have := h2.2.2.2.1 (40 * q + j) (by omega)
      exact ⟨this.1.symm, this.2.symm⟩) (h q hq).2
end
/-! RUN by the class: what is counted -/
def cmd (md : Nat → Nat) : Nat → Nat
  | 0 => 0
  | k + 1 => cmd md k + (if md k = 0 then 0 else 1)
def smd (md n0 : Nat → Nat) : Nat → Nat
  | 0 => 0
  | k + 1 => smd md n0 k + (if md k = 0 then 0 else 2 * n0 k + 10)
theorem cmd_le (md : Nat → Nat) : ∀ k, cmd md k ≤ k := by
  intro k
  induction k with
  | zero => exact Nat.le_refl _
  | succ k ih => show cmd md k + (if md k = 0 then 0 else 1) ≤ k + 1; split <;> omega
theorem smd_le (md n0 : Nat → Nat) : ∀ k, smd md n0 k ≤ smd (fun _ => 1) n0 k := by
  intro k
  induction k with
  | zero => exact Nat.le_refl _
  | succ k ih => show smd md n0 k + (if md k = 0 then 0 else 2 * n0 k + 10) ≤ smd (fun _ => 1) n0 k + (2 * n0 k + 10); split <;> omega
theorem cmd_o {md : Nat → Nat} {q v : Nat} : ∀ k, k ≤ q → cmd (upN md q v) k = cmd md k := by
  intro k
  induction k with
  | zero => intro _; rfl
  | succ k ih => intro h; show cmd (upN md q v) k + (if upN md q v k = 0 then 0 else 1) = _; rw [ih (by omega), upN_o (by omega)]; rfl
theorem smd_o {md n0 : Nat → Nat} {q v : Nat} : ∀ k, k ≤ q → smd (upN md q v) n0 k = smd md n0 k := by
  intro k
  induction k with
  | zero => intro _; rfl
  | succ k ih => intro h; show smd (upN md q v) n0 k + (if upN md q v k = 0 then 0 else 2 * n0 k + 10) = _; rw [ih (by omega), upN_o (by omega)]; rfl
theorem cmd_s {md : Nat → Nat} {q : Nat} : ∀ k, q < k → cmd (upN md q 1) k = cmd md k + (if md q = 0 then 1 else 0) := by
  intro k
  induction k with
  | zero => intro h; omega
  | succ k ih =>
    intro h
    show cmd (upN md q 1) k + (if upN md q 1 k = 0 then 0 else 1) = cmd md k + (if md k = 0 then 0 else 1) + _
    by_cases e : k = q
    · subst e; rw [cmd_o k (Nat.le_refl _), upN_at, if_neg (by decide)]; split <;> omega
    · rw [ih (by omega), upN_o e]; omega
theorem smd_s {md n0 : Nat → Nat} {q : Nat} : ∀ k, q < k → smd (upN md q 1) n0 k = smd md n0 k + (if md q = 0 then 2 * n0 q + 10 else 0) := by
  intro k
  induction k with
  | zero => intro h; omega
  | succ k ih =>
    intro h
    show smd (upN md q 1) n0 k + (if upN md q 1 k = 0 then 0 else 2 * n0 k + 10) = smd md n0 k + (if md k = 0 then 0 else 2 * n0 k + 10) + _
    by_cases e : k = q
    · subst e; rw [smd_o k (Nat.le_refl _), upN_at, if_neg (by decide)]; split <;> omega
    · rw [ih (by omega), upN_o e]; omega
theorem run_c {cI : ClassId} {L : List Nat} {f : Nat → va_E} {FA : Nat → Option Nat} {kd st tn mn cx cy : Nat → Int32} {ft i : Nat} (h : ∀ q, q < ft → vwO cI L f FA kd st tn mn cx cy q) (hi : i < ft) :
    (¬ (tn i).toInt = 0 ∧ vwT L f FA kd st i) ∨ ((tn i).toInt = 0 ∧ ¬ ((st i).toInt = 1 ∧ (1 ≤ (kd i).toInt ∧ (kd i).toInt ≤ 5)) ∧ vwL cI L f FA kd st mn cx cy i) ∨ (lvF ft st tn i ∧ (1 ≤ (kd i).toInt ∧ (kd i).toInt ≤ 5)) := by
  by_cases t0 : (tn i).toInt = 0
  · by_cases s1 : (st i).toInt = 1 ∧ (1 ≤ (kd i).toInt ∧ (kd i).toInt ≤ 5)
    · exact Or.inr (Or.inr ⟨⟨hi, s1.1, t0⟩, s1.2⟩)
    · exact Or.inr (Or.inl ⟨t0, s1, (h i hi).2.2 t0⟩)
  · exact Or.inl ⟨t0, (h i hi).2.1 t0⟩
theorem run_c6 {cI : ClassId} {L : List Nat} {f : Nat → va_E} {FA : Nat → Option Nat} {kd st tn mn cx cy : Nat → Int32} {ft i m : Nat} {md : Nat → Nat} (h : ∀ q, q < ft → vwO cI L f FA kd st tn mn cx cy q) (hi : i < ft) (hm : md i ≤ 1) :
    (¬ (tn i).toInt = 0 ∧ vwT L f FA kd st i) ∨ ((tn i).toInt = 0 ∧ ¬ ((st i).toInt = 1 ∧ (1 ≤ (kd i).toInt ∧ (kd i).toInt ≤ 5)) ∧ vwL cI L f FA kd st mn cx cy i) ∨ ((lvF ft st tn i ∧ (1 ≤ (kd i).toInt ∧ (kd i).toInt ≤ 5)) ∧ m = 0 ∧ md i = 0) ∨ ((lvF ft st tn i ∧ (1 ≤ (kd i).toInt ∧ (kd i).toInt ≤ 5)) ∧ m = 0 ∧ md i = 1) ∨ ((lvF ft st tn i ∧ (1 ≤ (kd i).toInt ∧ (kd i).toInt ≤ 5)) ∧ 1 ≤ m ∧ md i = 0) ∨ ((lvF ft st tn i ∧ (1 ≤ (kd i).toInt ∧ (kd i).toInt ≤ 5)) ∧ 1 ≤ m ∧ md i = 1) := by
  rcases run_c h hi with g | g | g
  · exact Or.inl g
  · exact Or.inr (Or.inl g)
  · by_cases e : m = 0
    · by_cases e2 : md i = 0
      · exact Or.inr (Or.inr (Or.inl ⟨g, e, e2⟩))
      · exact Or.inr (Or.inr (Or.inr (Or.inl ⟨g, e, by omega⟩)))
    · by_cases e2 : md i = 0
      · exact Or.inr (Or.inr (Or.inr (Or.inr (Or.inl ⟨g, by omega, e2⟩))))
      · exact Or.inr (Or.inr (Or.inr (Or.inr (Or.inr ⟨g, by omega, by omega⟩))))
/-! what went by RUN -/
def gR (g g1 : Nat → Nat → Int32) (ft : Nat) (st tn kd mn cx cy mn1 cx1 cy1 : Nat → Int32) : Prop :=
  ∀ q, q < ft → ((lvF ft st tn q ∧ 1 ≤ (kd q).toInt ∧ (kd q).toInt ≤ 5) → gL g g1 q (nN (mn q)) (cF40 cx q) (cF40 cy q) (nN (mn1 q)) (cF40 cx1 q) (cF40 cy1 q)) ∧ (¬ (lvF ft st tn q ∧ 1 ≤ (kd q).toInt ∧ (kd q).toInt ≤ 5) → ∀ j, g1 j q = g j q)
theorem gR_0 {cI : ClassId} {L : List Nat} {f : Nat → va_E} {own fe nw md : Nat → Nat} {la : Nat → Nat → Nat} {bs dn T ft fN : Nat} {FT : Nat → Nat} {V : Nat → Nat → Nat → Int32} {g : Nat → Nat → Int32} {st tn kd mn cx cy : Nat → Int32} (h : loG cI L f own fe nw md la bs dn T ft fN FT V g) (hf : ft ≤ fN) (hok : okA ft st tn kd mn cx cy) : gR g g ft st tn kd mn cx cy mn cx cy := by
  intro q hq
  refine ⟨fun hl => ?_, fun _ _ => rfl⟩
  obtain ⟨ln, wn, LX, LY, w, a1, a2, a3, a4⟩ := h q (by omega)
  obtain ⟨b1, b2, b3⟩ := a2 hq
  have hb := b2.1
  exact ⟨wn, wn, b3.1, b3.1, hb, lsC_0 (mSm_ds (by have := hl.2; omega) (hok q hl.1).2)⟩
theorem gR_s {ft f0 : Nat} {st tn kd mn cx cy mnk cxk cyk mn6 cx6 cy6 : Nat → Int32} {g g1 g2 : Nat → Nat → Int32} (h : gR g g1 ft st tn kd mn cx cy mnk cxk cyk) (hl : lvF ft st tn f0 ∧ 1 ≤ (kd f0).toInt ∧ (kd f0).toInt ≤ 5) (hs : gL g1 g2 f0 (nN (mnk f0)) (cF40 cxk f0) (cF40 cyk f0) (nN (mn6 f0)) (cF40 cx6 f0) (cF40 cy6 f0)) (hg : ∀ p, p ≠ f0 → ∀ j, g2 j p = g1 j p) (hm : ∀ p, p ≠ f0 → mn6 p = mnk p) (hn : ∀ p, lvF ft st tn p → nN (mnk p) ≤ 40) (hc : ∀ p, p ≠ f0 → ∀ k, k < 40 → cF40 cx6 p k = cF40 cxk p k ∧ cF40 cy6 p k = cF40 cyk p k) : gR g g2 ft st tn kd mn cx cy mn6 cx6 cy6 := by
  intro q hq
  obtain ⟨h1, h2⟩ := h q hq
  by_cases e : q = f0
  · subst e
    exact ⟨fun z => gL_t (h1 z) hs, fun z => absurd hl z⟩
  · refine ⟨fun z => ?_, fun z j => (hg q e j).trans (h2 z j)⟩
    have h40 := hn q z.1
    rw [hm q e]
    exact gL_cg (fun _ _ => ⟨rfl, rfl⟩) (fun j hj => ⟨(hc q e j (by omega)).1.symm, (hc q e j (by omega)).2.symm⟩) (gL_o (hg q e) (h1 z))
end
section
set_option maxHeartbeats 4000000 in
set_option maxRecDepth 100000 in
theorem k_Sheet_houseThere_yv (l : Launch) (dC : Nat → ClassId) (dI : Nat → Nat → Nat) (cI cZ cF : ClassId) (sz : Nat) (sh : Nat) (fa : Nat) (ft : Nat) (FA : Nat → Option Nat) (i : Nat) (fe : Nat) (lo : Nat) (rk9 : Int32) (wd9 : Int32) (tw9 : Int32) (pa9 : Int32) (pb9 : Int32) (lk : Nat) (kd9 : Int32) (st9 : Int32) (gb9 : Int32) (jt9 : Int32) (we9 : Int32) (r : Nat) (fm9 : Value) (h200 : ft ≤ 200) (hi : i < ft) (hFA : FA i = some fe) (hs1 : st9.toInt = 1) (hkd : kd9.toInt = 6) : zM l yX8_houseThere cX8_houseThere 3 (some (.object "ScaleShop$Row")) ({ frames := 2, cells := 0, slots := 0, locals := 43 } : Room) [.ref sh, .int (nI i)] (dC, dI) (zTy cI cZ cF) [(oc7 sh (.ref fa) (nI ft)), (oq fa cF 200 FA), (oc1 fe rk9 wd9 tw9 pa9 pb9 (.ref lo) (.ref lk) fm9), (oc4 lk kd9 st9 (.ref r) gb9 jt9 we9)] sz (some (.ref r)) (fun A t => zPD (dC, dI) classes A [(oc7 sh (.ref fa) (nI ft)), (oq fa cF 200 FA), (oc1 fe rk9 wd9 tw9 pa9 pb9 (.ref lo) (.ref lk) fm9), (oc4 lk kd9 st9 (.ref r) gb9 jt9 we9)] t.heap) 0 0 := by
  refine zIn (own := "ScaleShop$Sheet") (loc := [(0, .ref sh), (1, .int (nI i))]) rfl rfl rfl rfl (fun p e s m below meth c hx hb hr hts hown hlocks hml hnm9 A hA hS hP hD hK hXN Q9 hQ9 ls hl => ?_)
  refine lv_aload_n hx hb dX8_houseThere_0 rfl (lv_at hl 0 rfl) ?_
  refine lv_iload_n hx hb dX8_houseThere_1 rfl (lv_at hl 1 rfl) ?_
  obtain ⟨hPc, hDc, hFc, hI1⟩ := zi_sub (wc := [_, _]) hP hD hS hA [0, 1] rfl rfl
  refine zcall (st1 := [.ref fe]) (va_runV (As := [.int (nI i)]) (rest := []) ⟨hx, hb, hml, hown, hts⟩ (k_Sheet_find l dC dI cI cZ cF s.heap.size sh fa ft FA i fe (by first | with_reducible assumption | omega) (by first | with_reducible assumption | omega) (hFA)) (csV_36 hts rfl rfl ⟨Nat.le_of_ble_eq_true rfl, Nat.le_of_ble_eq_true rfl⟩) (zPV2 (q0 := 0) (ci := 7) hPc hDc hK hXN rfl rfl) rfl rfl hl.1 rfl (lv_room (Nat.le_of_ble_eq_true rfl)) dX8_houseThere_2 ⟨Nat.le_of_ble_eq_true rfl, Nat.le_of_ble_eq_true rfl⟩) hS hFc hFc rfl (fun t H locs ht hB hk1 hS => ?_)
  obtain ⟨hP1, hD1⟩ := hB
  rw [ht] at hP1
  replace hP := z0 hP hD hk1 hP1 hI1
  clear hk1 hPc hDc hFc hP1 hD1 ht hI1
  refine lv_astore_n (lv' := [(2, .ref fe), (0, .ref sh), (1, .int (nI i))]) hx hb dX8_houseThere_5 rfl hl (Nat.le_of_ble_eq_true rfl) rfl (fun ls hl => ?_)
  refine lv_aload_n hx hb dX8_houseThere_6 rfl (lv_at hl 0 rfl) ?_
  refine lv_ifnull hx hb dX8_houseThere_7 ?_
  refine lv_aload_n hx hb dX8_houseThere_10 rfl (lv_at hl 0 rfl) ?_
  refine va_get (D := (dC, dI)) (ci := 1) (v := .ref lk) (C := RX2) (T := TX2) (N := 8) hx hb hts inX2 hown hK hP 2 rfl rfl 6 (Nat.le_of_ble_eq_true rfl) (hts _ mw_434) (fun _ h9 => h9) rfl dX8_houseThere_11 ?_
  refine va_get (D := (dC, dI)) (ci := 4) (v := .int kd9) (C := RX5) (T := TX5) (N := 6) hx hb hts inX5 hown hK hP 3 rfl rfl 0 (Nat.le_of_ble_eq_true rfl) (hts _ mw_383) (fun _ h9 => h9) rfl dX8_houseThere_14 ?_
  refine lv_bipush (v := 6) hx hb dX8_houseThere_17 rfl ?_
  refine lv_icmp_ne (tgt := 30) hx hb dX8_houseThere_19 rfl (fun c_1 => ?_) (fun c_1 => ?_)
  · have c_1 : ¬ kd9.toInt = 6 := zc_ne rfl rfl c_1
    exfalso; omega
  · have c_1 : kd9.toInt = 6 := zc_eq rfl rfl c_1
    refine lv_aload_n hx hb dX8_houseThere_22 rfl (lv_at hl 1 rfl) ?_
    refine lv_iload_n hx hb dX8_houseThere_23 rfl (lv_at hl 2 rfl) ?_
    obtain ⟨hPc, hDc, hFc, hI1⟩ := zi_sub (wc := [_, _, _, _]) hP hD hS hA [0, 1, 2, 3] (by decide +kernel) rfl
    refine zcall (st1 := [.ref r]) (va_runV (As := [.int (nI i)]) (rest := []) ⟨hx, hb, hml, hown, hts⟩ (k_Sheet_rowThere_yv l dC dI cI cZ cF H.size sh fa ft FA i fe lo rk9 wd9 tw9 pa9 pb9 lk kd9 st9 gb9 jt9 we9 r fm9 (by first | with_reducible assumption | omega) (by first | with_reducible assumption | omega) (hFA) (by first | with_reducible assumption | omega)) (csV_37 hts rfl rfl ⟨Nat.le_of_ble_eq_true rfl, Nat.le_of_ble_eq_true rfl⟩) (zPV2 (q0 := 0) (ci := 7) hPc hDc hK hXN rfl rfl) rfl rfl hl.1 rfl (lv_room (Nat.le_of_ble_eq_true rfl)) dX8_houseThere_24 ⟨Nat.le_of_ble_eq_true rfl, Nat.le_of_ble_eq_true rfl⟩) hS hFc hFc rfl (fun t H locs ht hB hk1 hS => ?_)
    obtain ⟨hP1, hD1⟩ := hB
    rw [ht] at hP1
    replace hP := z0 hP hD hk1 hP1 hI1
    clear hk1 hPc hDc hFc hP1 hD1 ht hI1
    refine lv_goto (tgt := 31) hx hb dX8_houseThere_27 rfl ?_
    obtain ⟨hP9, hD9⟩ := zu_sub (wc := [_, _, _, _]) hP hD [true, true, true, true] rfl rfl
    rw [hQ9]
    exact W.aret hx hb hr (Or.inl ⟨_, rfl⟩) (Or.inr ⟨_, rfl⟩) (fun t ht hW => ⟨⟨rfl, by rw [ht]; exact hP9, hD9⟩, hS.F ht⟩) hS.2.2 dX8_houseThere_31
set_option maxHeartbeats 4000000 in
set_option maxRecDepth 100000 in
theorem k_Sheet_houseThere_sv (l : Launch) (dC : Nat → ClassId) (dI : Nat → Nat → Nat) (cI cZ cF : ClassId) (sz : Nat) (sh : Nat) (fa : Nat) (ft : Nat) (FA : Nat → Option Nat) (i : Nat) (fe : Nat) (lo : Nat) (rk9 : Int32) (wd9 : Int32) (tw9 : Int32) (pa9 : Int32) (pb9 : Int32) (lk : Nat) (kd9 : Int32) (st9 : Int32) (gb9 : Int32) (jt9 : Int32) (we9 : Int32) (fm9 : Value) (rw9 : Value) (h200 : ft ≤ 200) (hi : i < ft) (hFA : FA i = some fe) (hs1 : ¬ (st9.toInt = 1 ∧ kd9.toInt = 6)) : zM l yX8_houseThere cX8_houseThere 3 (some (.object "ScaleShop$Row")) ({ frames := 2, cells := 0, slots := 0, locals := 43 } : Room) [.ref sh, .int (nI i)] (dC, dI) (zTy cI cZ cF) [(oc7 sh (.ref fa) (nI ft)), (oq fa cF 200 FA), (oc1 fe rk9 wd9 tw9 pa9 pb9 (.ref lo) (.ref lk) fm9), (oc4 lk kd9 st9 rw9 gb9 jt9 we9)] sz (some (.null)) (fun A t => zPD (dC, dI) classes A [(oc7 sh (.ref fa) (nI ft)), (oq fa cF 200 FA), (oc1 fe rk9 wd9 tw9 pa9 pb9 (.ref lo) (.ref lk) fm9), (oc4 lk kd9 st9 rw9 gb9 jt9 we9)] t.heap) 0 0 := by
  refine zIn (own := "ScaleShop$Sheet") (loc := [(0, .ref sh), (1, .int (nI i))]) rfl rfl rfl rfl (fun p e s m below meth c hx hb hr hts hown hlocks hml hnm9 A hA hS hP hD hK hXN Q9 hQ9 ls hl => ?_)
  refine lv_aload_n hx hb dX8_houseThere_0 rfl (lv_at hl 0 rfl) ?_
  refine lv_iload_n hx hb dX8_houseThere_1 rfl (lv_at hl 1 rfl) ?_
  obtain ⟨hPc, hDc, hFc, hI1⟩ := zi_sub (wc := [_, _]) hP hD hS hA [0, 1] rfl rfl
  refine zcall (st1 := [.ref fe]) (va_runV (As := [.int (nI i)]) (rest := []) ⟨hx, hb, hml, hown, hts⟩ (k_Sheet_find l dC dI cI cZ cF s.heap.size sh fa ft FA i fe (by first | with_reducible assumption | omega) (by first | with_reducible assumption | omega) (hFA)) (csV_36 hts rfl rfl ⟨Nat.le_of_ble_eq_true rfl, Nat.le_of_ble_eq_true rfl⟩) (zPV2 (q0 := 0) (ci := 7) hPc hDc hK hXN rfl rfl) rfl rfl hl.1 rfl (lv_room (Nat.le_of_ble_eq_true rfl)) dX8_houseThere_2 ⟨Nat.le_of_ble_eq_true rfl, Nat.le_of_ble_eq_true rfl⟩) hS hFc hFc rfl (fun t H locs ht hB hk1 hS => ?_)
  obtain ⟨hP1, hD1⟩ := hB
  rw [ht] at hP1
  replace hP := z0 hP hD hk1 hP1 hI1
  clear hk1 hPc hDc hFc hP1 hD1 ht hI1
  refine lv_astore_n (lv' := [(2, .ref fe), (0, .ref sh), (1, .int (nI i))]) hx hb dX8_houseThere_5 rfl hl (Nat.le_of_ble_eq_true rfl) rfl (fun ls hl => ?_)
  refine lv_aload_n hx hb dX8_houseThere_6 rfl (lv_at hl 0 rfl) ?_
  refine lv_ifnull hx hb dX8_houseThere_7 ?_
  refine lv_aload_n hx hb dX8_houseThere_10 rfl (lv_at hl 0 rfl) ?_
  refine va_get (D := (dC, dI)) (ci := 1) (v := .ref lk) (C := RX2) (T := TX2) (N := 8) hx hb hts inX2 hown hK hP 2 rfl rfl 6 (Nat.le_of_ble_eq_true rfl) (hts _ mw_434) (fun _ h9 => h9) rfl dX8_houseThere_11 ?_
  refine va_get (D := (dC, dI)) (ci := 4) (v := .int kd9) (C := RX5) (T := TX5) (N := 6) hx hb hts inX5 hown hK hP 3 rfl rfl 0 (Nat.le_of_ble_eq_true rfl) (hts _ mw_383) (fun _ h9 => h9) rfl dX8_houseThere_14 ?_
  refine lv_bipush (v := 6) hx hb dX8_houseThere_17 rfl ?_
  refine lv_icmp_ne (tgt := 30) hx hb dX8_houseThere_19 rfl (fun c_1 => ?_) (fun c_1 => ?_)
  · have c_1 : ¬ kd9.toInt = 6 := zc_ne rfl rfl c_1
    refine lv_null hx hb dX8_houseThere_30 ?_
    obtain ⟨hP9, hD9⟩ := zu_sub (wc := [_, _, _, _]) hP hD [true, true, true, true] rfl rfl
    rw [hQ9]
    exact W.aret hx hb hr (Or.inl ⟨_, rfl⟩) (Or.inl rfl) (fun t ht hW => ⟨⟨rfl, by rw [ht]; exact hP9, hD9⟩, hS.F ht⟩) hS.2.2 dX8_houseThere_31
  · have c_1 : kd9.toInt = 6 := zc_eq rfl rfl c_1
    refine lv_aload_n hx hb dX8_houseThere_22 rfl (lv_at hl 1 rfl) ?_
    refine lv_iload_n hx hb dX8_houseThere_23 rfl (lv_at hl 2 rfl) ?_
    obtain ⟨hPc, hDc, hFc, hI1⟩ := zi_sub (wc := [_, _, _, _]) hP hD hS hA [0, 1, 2, 3] (by decide +kernel) rfl
    refine zcall (st1 := [.null]) (va_runV (As := [.int (nI i)]) (rest := []) ⟨hx, hb, hml, hown, hts⟩ (k_Sheet_rowThere_sv l dC dI cI cZ cF H.size sh fa ft FA i fe lo rk9 wd9 tw9 pa9 pb9 lk kd9 st9 gb9 jt9 we9 fm9 rw9 (by first | with_reducible assumption | omega) (by first | with_reducible assumption | omega) (hFA) (by first | with_reducible assumption | omega)) (csV_37 hts rfl rfl ⟨Nat.le_of_ble_eq_true rfl, Nat.le_of_ble_eq_true rfl⟩) (zPV2 (q0 := 0) (ci := 7) hPc hDc hK hXN rfl rfl) rfl rfl hl.1 rfl (lv_room (Nat.le_of_ble_eq_true rfl)) dX8_houseThere_24 ⟨Nat.le_of_ble_eq_true rfl, Nat.le_of_ble_eq_true rfl⟩) hS hFc hFc rfl (fun t H locs ht hB hk1 hS => ?_)
    obtain ⟨hP1, hD1⟩ := hB
    rw [ht] at hP1
    replace hP := z0 hP hD hk1 hP1 hI1
    clear hk1 hPc hDc hFc hP1 hD1 ht hI1
    refine lv_goto (tgt := 31) hx hb dX8_houseThere_27 rfl ?_
    obtain ⟨hP9, hD9⟩ := zu_sub (wc := [_, _, _, _]) hP hD [true, true, true, true] rfl rfl
    rw [hQ9]
    exact W.aret hx hb hr (Or.inl ⟨_, rfl⟩) (Or.inl rfl) (fun t ht hW => ⟨⟨rfl, by rw [ht]; exact hP9, hD9⟩, hS.F ht⟩) hS.2.2 dX8_houseThere_31
set_option maxHeartbeats 4000000 in
set_option maxRecDepth 100000 in
theorem k_Sheet_houseThere_tv (l : Launch) (dC : Nat → ClassId) (dI : Nat → Nat → Nat) (cI cZ cF : ClassId) (sz : Nat) (sh : Nat) (fa : Nat) (ft : Nat) (FA : Nat → Option Nat) (i : Nat) (fe : Nat) (lo : Nat) (rk9 : Int32) (wd9 : Int32) (tw9 : Int32) (pa9 : Int32) (pb9 : Int32) (lk : Nat) (kd9 : Int32) (st9 : Int32) (gb9 : Int32) (jt9 : Int32) (we9 : Int32) (fm9 : Value) (h200 : ft ≤ 200) (hi : i < ft) (hFA : FA i = some fe) : zM l yX8_houseThere cX8_houseThere 3 (some (.object "ScaleShop$Row")) ({ frames := 2, cells := 0, slots := 0, locals := 43 } : Room) [.ref sh, .int (nI i)] (dC, dI) (zTy cI cZ cF) [(oc7 sh (.ref fa) (nI ft)), (oq fa cF 200 FA), (oc1 fe rk9 wd9 tw9 pa9 pb9 (.ref lo) (.ref lk) fm9), (oc4 lk kd9 st9 .null gb9 jt9 we9)] sz (some (.null)) (fun A t => zPD (dC, dI) classes A [(oc7 sh (.ref fa) (nI ft)), (oq fa cF 200 FA), (oc1 fe rk9 wd9 tw9 pa9 pb9 (.ref lo) (.ref lk) fm9), (oc4 lk kd9 st9 .null gb9 jt9 we9)] t.heap) 0 0 := by
  refine zIn (own := "ScaleShop$Sheet") (loc := [(0, .ref sh), (1, .int (nI i))]) rfl rfl rfl rfl (fun p e s m below meth c hx hb hr hts hown hlocks hml hnm9 A hA hS hP hD hK hXN Q9 hQ9 ls hl => ?_)
  refine lv_aload_n hx hb dX8_houseThere_0 rfl (lv_at hl 0 rfl) ?_
  refine lv_iload_n hx hb dX8_houseThere_1 rfl (lv_at hl 1 rfl) ?_
  obtain ⟨hPc, hDc, hFc, hI1⟩ := zi_sub (wc := [_, _]) hP hD hS hA [0, 1] rfl rfl
  refine zcall (st1 := [.ref fe]) (va_runV (As := [.int (nI i)]) (rest := []) ⟨hx, hb, hml, hown, hts⟩ (k_Sheet_find l dC dI cI cZ cF s.heap.size sh fa ft FA i fe (by first | with_reducible assumption | omega) (by first | with_reducible assumption | omega) (hFA)) (csV_36 hts rfl rfl ⟨Nat.le_of_ble_eq_true rfl, Nat.le_of_ble_eq_true rfl⟩) (zPV2 (q0 := 0) (ci := 7) hPc hDc hK hXN rfl rfl) rfl rfl hl.1 rfl (lv_room (Nat.le_of_ble_eq_true rfl)) dX8_houseThere_2 ⟨Nat.le_of_ble_eq_true rfl, Nat.le_of_ble_eq_true rfl⟩) hS hFc hFc rfl (fun t H locs ht hB hk1 hS => ?_)
  obtain ⟨hP1, hD1⟩ := hB
  rw [ht] at hP1
  replace hP := z0 hP hD hk1 hP1 hI1
  clear hk1 hPc hDc hFc hP1 hD1 ht hI1
  refine lv_astore_n (lv' := [(2, .ref fe), (0, .ref sh), (1, .int (nI i))]) hx hb dX8_houseThere_5 rfl hl (Nat.le_of_ble_eq_true rfl) rfl (fun ls hl => ?_)
  refine lv_aload_n hx hb dX8_houseThere_6 rfl (lv_at hl 0 rfl) ?_
  refine lv_ifnull hx hb dX8_houseThere_7 ?_
  refine lv_aload_n hx hb dX8_houseThere_10 rfl (lv_at hl 0 rfl) ?_
  refine va_get (D := (dC, dI)) (ci := 1) (v := .ref lk) (C := RX2) (T := TX2) (N := 8) hx hb hts inX2 hown hK hP 2 rfl rfl 6 (Nat.le_of_ble_eq_true rfl) (hts _ mw_434) (fun _ h9 => h9) rfl dX8_houseThere_11 ?_
  refine va_get (D := (dC, dI)) (ci := 4) (v := .int kd9) (C := RX5) (T := TX5) (N := 6) hx hb hts inX5 hown hK hP 3 rfl rfl 0 (Nat.le_of_ble_eq_true rfl) (hts _ mw_383) (fun _ h9 => h9) rfl dX8_houseThere_14 ?_
  refine lv_bipush (v := 6) hx hb dX8_houseThere_17 rfl ?_
  refine lv_icmp_ne (tgt := 30) hx hb dX8_houseThere_19 rfl (fun c_1 => ?_) (fun c_1 => ?_)
  · have c_1 : ¬ kd9.toInt = 6 := zc_ne rfl rfl c_1
    refine lv_null hx hb dX8_houseThere_30 ?_
    obtain ⟨hP9, hD9⟩ := zu_sub (wc := [_, _, _, _]) hP hD [true, true, true, true] rfl rfl
    rw [hQ9]
    exact W.aret hx hb hr (Or.inl ⟨_, rfl⟩) (Or.inl rfl) (fun t ht hW => ⟨⟨rfl, by rw [ht]; exact hP9, hD9⟩, hS.F ht⟩) hS.2.2 dX8_houseThere_31
  · have c_1 : kd9.toInt = 6 := zc_eq rfl rfl c_1
    refine lv_aload_n hx hb dX8_houseThere_22 rfl (lv_at hl 1 rfl) ?_
    refine lv_iload_n hx hb dX8_houseThere_23 rfl (lv_at hl 2 rfl) ?_
    obtain ⟨hPc, hDc, hFc, hI1⟩ := zi_sub (wc := [_, _, _, _]) hP hD hS hA [0, 1, 2, 3] (by decide +kernel) rfl
    refine zcall (st1 := [.null]) (va_runV (As := [.int (nI i)]) (rest := []) ⟨hx, hb, hml, hown, hts⟩ (k_Sheet_rowThere_tv l dC dI cI cZ cF H.size sh fa ft FA i fe lo rk9 wd9 tw9 pa9 pb9 lk kd9 st9 gb9 jt9 we9 fm9 (by first | with_reducible assumption | omega) (by first | with_reducible assumption | omega) (hFA)) (csV_37 hts rfl rfl ⟨Nat.le_of_ble_eq_true rfl, Nat.le_of_ble_eq_true rfl⟩) (zPV2 (q0 := 0) (ci := 7) hPc hDc hK hXN rfl rfl) rfl rfl hl.1 rfl (lv_room (Nat.le_of_ble_eq_true rfl)) dX8_houseThere_24 ⟨Nat.le_of_ble_eq_true rfl, Nat.le_of_ble_eq_true rfl⟩) hS hFc hFc rfl (fun t H locs ht hB hk1 hS => ?_)
    obtain ⟨hP1, hD1⟩ := hB
    rw [ht] at hP1
    replace hP := z0 hP hD hk1 hP1 hI1
    clear hk1 hPc hDc hFc hP1 hD1 ht hI1
    refine lv_goto (tgt := 31) hx hb dX8_houseThere_27 rfl ?_
    obtain ⟨hP9, hD9⟩ := zu_sub (wc := [_, _, _, _]) hP hD [true, true, true, true] rfl rfl
    rw [hQ9]
    exact W.aret hx hb hr (Or.inl ⟨_, rfl⟩) (Or.inl rfl) (fun t ht hW => ⟨⟨rfl, by rw [ht]; exact hP9, hD9⟩, hS.F ht⟩) hS.2.2 dX8_houseThere_31
set_option maxHeartbeats 4000000 in
set_option maxRecDepth 100000 in
theorem k_isSmallHouse (l : Launch) (dC : Nat → ClassId) (dI : Nat → Nat → Nat) (cI cZ cF : ClassId) (sz : Nat) (x : Nat) (sh : Nat) (lw : Nat) (ro : Nat) (bq : Nat) (bp : Nat) (dq : Nat) (dp : Nat) (lv : Nat) (sl : Nat) (sd : Int32) (ul : Int32) (su : Int32) (ds : Int32) (fa : Nat) (ft : Nat) (FA : Nat → Option Nat) (i9 : Nat) (le9 : Int32) (L : List Nat) (f : Nat → va_E) (kd : Nat → Int32) (st : Nat → Int32) (tn : Nat → Int32) (mn : Nat → Int32) (cx : Nat → Int32) (cy : Nat → Int32) (rk : Nat → Int32) (wd : Nat → Int32) (tw : Nat → Int32) (pa : Nat → Int32) (pb : Nat → Int32) (gb : Nat → Int32) (it : Nat → Int32) (h200 : ft ≤ 200) (hi9 : i9 < ft) (hva : ∀ q, q < ft → vwA cI L f FA rk wd tw pa pb kd st gb it tn mn cx cy q) (hok : okA ft st tn kd mn cx cy) : zM l yX10_isSmallHouse cX10_isSmallHouse 4 (some .boolean) ({ frames := 3, cells := 0, slots := 0, locals := 65 } : Room) [.ref x, .int (nI i9), .int le9] (dC, dI) (zTy cI cZ cF) ([(oc8 x (.ref sh) (.ref lw) (.ref ro) (.ref bq) (.ref bp) (.ref dq) (.ref dp) (.ref lv) (.ref sl) ds sd ul su), (oc7 sh (.ref fa) (nI ft)), (oq fa cF 200 FA)] ++ va_pl L f) sz (some (.int (pI (smF ft st tn kd mn cx cy le9.toInt i9)))) (fun A t => zPD (dC, dI) classes A ([(oc8 x (.ref sh) (.ref lw) (.ref ro) (.ref bq) (.ref bp) (.ref dq) (.ref dp) (.ref lv) (.ref sl) ds sd ul su), (oc7 sh (.ref fa) (nI ft)), (oq fa cF 200 FA)] ++ va_pl L f) t.heap) 0 0 := by
  refine zIn (own := "ScaleShop") (loc := [(0, .ref x), (1, .int (nI i9)), (2, .int le9)]) rfl rfl rfl rfl (fun p e s m below meth c hx hb hr hts hown hlocks hml hnm9 A hA hS hP hD hK hXN Q9 hQ9 ls hl => ?_)
  rcases vwA_3 (P9 := ((st i9).toInt = 1 ∧ (kd i9).toInt = 6)) (hva i9 (by omega)) with ⟨ht2, fe2, lk2, lo2, we2, fm2, hFA2, hfe2, hlk2⟩ | ⟨ht2, hA2, fe2, lk2, lo2, we2, fm2, r2, rx2, ry2, cap2, U2, V2, rg2, hFA2, hfe2, hlk2, ⟨hr2, hrx2, hry2, hne2⟩, hrr2⟩ | ⟨ht2, hA2, fe2, lk2, lo2, we2, fm2, r2, rx2, ry2, cap2, U2, V2, rg2, hFA2, hfe2, hlk2, ⟨hr2, hrx2, hry2, hne2⟩, hrr2⟩
  · skip
    have hc9_1 : inPl L f [(oc1 fe2 (rk i9) (wd i9) (tw i9) (pa i9) (pb i9) (.ref lo2) (.ref lk2) fm2), (oc4 lk2 (kd i9) (st i9) .null (gb i9) (it i9) we2)] := ⟨hfe2, hlk2, trivial⟩
    have hD0_1 := hD
    obtain ⟨T_1, hT_1, hP, hD⟩ := pl_oT hP hD hc9_1 (pwF hfe2.2 hlk2.2)
    obtain ⟨hP, hD⟩ := zre (W2 := ([_, _, _, _, _] ++ va_pl T_1 f)) hP hD rfl
    refine lv_aload_n hx hb dX10_isSmallHouse_0 rfl (lv_at hl 0 rfl) ?_
    refine va_get (D := (dC, dI)) (ci := 8) (v := .ref sh) (C := RX10) (T := TX10) (N := 13) hx hb hts inX10 hown hK hP 0 rfl rfl 0 (Nat.le_of_ble_eq_true rfl) (hts _ mw_309) (fun _ h9 => h9) rfl dX10_isSmallHouse_1 ?_
    refine lv_iload_n hx hb dX10_isSmallHouse_4 rfl (lv_at hl 1 rfl) ?_
    obtain ⟨hPc, hDc, hFc, hI1⟩ := zi_sub (wc := [_, _, _, _]) hP hD hS hA [1, 2, 3, 4] (by decide +kernel) rfl
    refine zcall (st1 := [.null]) (va_runV (As := [.int (nI i9)]) (rest := []) ⟨hx, hb, hml, hown, hts⟩ (k_Sheet_houseThere_tv l dC dI cI cZ cF s.heap.size sh fa ft FA i9 fe2 lo2 (rk i9) (wd i9) (tw i9) (pa i9) (pb i9) lk2 (kd i9) (st i9) (gb i9) (it i9) we2 fm2 (by first | with_reducible assumption | omega) (by first | with_reducible assumption | omega) (hFA2)) (csV_122 hts rfl rfl ⟨Nat.le_of_ble_eq_true rfl, Nat.le_of_ble_eq_true rfl⟩) (zPV2 (q0 := 0) (ci := 7) hPc hDc hK hXN rfl rfl) rfl rfl hl.1 rfl (lv_room (Nat.le_of_ble_eq_true rfl)) dX10_isSmallHouse_5 ⟨Nat.le_of_ble_eq_true rfl, Nat.le_of_ble_eq_true rfl⟩) hS hFc hFc rfl (fun t H locs ht hB hk1 hS => ?_)
    obtain ⟨hP1, hD1⟩ := hB
    rw [ht] at hP1
    replace hP := z0 hP hD hk1 hP1 hI1
    clear hk1 hPc hDc hFc hP1 hD1 ht hI1
    refine lv_astore_nN (lv' := [(3, .null), (0, .ref x), (1, .int (nI i9)), (2, .int le9)]) hx hb dX10_isSmallHouse_8 rfl hl (Nat.le_of_ble_eq_true rfl) rfl (fun ls hl => ?_)
    refine lv_aload_nN hx hb dX10_isSmallHouse_9 rfl (lv_at hl 0 rfl) ?_
    refine lv_ifnullN (tgt := 25) hx hb dX10_isSmallHouse_10 rfl ?_
    refine lv_iconst (v := 0) hx hb dX10_isSmallHouse_25 rfl ?_
    obtain ⟨hP, hD⟩ := pl_bk (X := [_, _, _]) hT_1 hP rfl hc9_1 hD0_1 rfl
    obtain ⟨hP9, hD9⟩ := zu_part (cx := [_, _, _]) hP hD [true, true, true] rfl rfl
    rw [hQ9]
    exact W.zret (ty := .boolean) (v := 0) hx hb hr (rfl) (fun t ht hW => ⟨⟨congrArg (fun z => Outcome.returned (some (Value.int z))) (show (0 : Int32) = pI (smF ft st tn kd mn cx cy le9.toInt i9) from (zp_f (by first | exact ⟨hlv2, hA2.2, by have e9 := ar2_cg hrr2.2.2.2.2 _ (Nat.le_refl _); unfold arF; rw [← e9]; omega⟩ | exact fun h => by first | exact absurd h.1.2.2 ht2 | exact absurd ⟨h.1.2.1, h.2.1⟩ hA2 | (have e9 := ar2_cg hrr2.2.2.2.2 _ (Nat.le_refl _); have h9 := h.2.2; unfold arF at h9; rw [← e9] at h9; omega))).symm), by rw [ht]; exact hP9, hD9⟩, hS.F ht⟩) hS.2.2 dX10_isSmallHouse_26
  · skip
    have hcap2 := hrr2.1
    have hcap3 := hrr2.2.1
    have hlv2 : lvF ft st tn i9 := ⟨by omega, hA2.1, ht2⟩
    have hw2 := (hok i9 hlv2).1
    have hq2 := rw_pls hrr2 hw2
    have hn2 := hw2.2.1
    have hab2 := ar2B hq2 _ (Nat.le_refl _)
    have hc9_1 : inPl L f [(oc1 fe2 (rk i9) (wd i9) (tw i9) (pa i9) (pb i9) (.ref lo2) (.ref lk2) fm2), (oc4 lk2 (kd i9) (st i9) (.ref r2) (gb i9) (it i9) we2), (oc6 r2 (.ref rx2) (.ref ry2) (nI (nN (mn i9))) rg2), (oa rx2 cI cap2 U2), (oa ry2 cI cap2 V2)] := ⟨hfe2, hlk2, hr2, hrx2, hry2, trivial⟩
    have hD0_1 := hD
    obtain ⟨T_1, hT_1, hP, hD⟩ := pl_oT hP hD hc9_1 (pwR hfe2.2 hlk2.2 hr2.2 hrx2.2 hry2.2 hne2)
    obtain ⟨hP, hD⟩ := zre (W2 := ([_, _, _, _, _, _, _, _] ++ va_pl T_1 f)) hP hD rfl
    refine lv_aload_n hx hb dX10_isSmallHouse_0 rfl (lv_at hl 0 rfl) ?_
    refine va_get (D := (dC, dI)) (ci := 8) (v := .ref sh) (C := RX10) (T := TX10) (N := 13) hx hb hts inX10 hown hK hP 0 rfl rfl 0 (Nat.le_of_ble_eq_true rfl) (hts _ mw_309) (fun _ h9 => h9) rfl dX10_isSmallHouse_1 ?_
    refine lv_iload_n hx hb dX10_isSmallHouse_4 rfl (lv_at hl 1 rfl) ?_
    obtain ⟨hPc, hDc, hFc, hI1⟩ := zi_sub (wc := [_, _, _, _]) hP hD hS hA [1, 2, 3, 4] (by decide +kernel) rfl
    refine zcall (st1 := [.ref r2]) (va_runV (As := [.int (nI i9)]) (rest := []) ⟨hx, hb, hml, hown, hts⟩ (k_Sheet_houseThere_yv l dC dI cI cZ cF s.heap.size sh fa ft FA i9 fe2 lo2 (rk i9) (wd i9) (tw i9) (pa i9) (pb i9) lk2 (kd i9) (st i9) (gb i9) (it i9) we2 r2 fm2 (by first | with_reducible assumption | omega) (by first | with_reducible assumption | omega) (hFA2) (by first | exact hA2.1 | exact hA2) (hA2.2)) (csV_122 hts rfl rfl ⟨Nat.le_of_ble_eq_true rfl, Nat.le_of_ble_eq_true rfl⟩) (zPV2 (q0 := 0) (ci := 7) hPc hDc hK hXN rfl rfl) rfl rfl hl.1 rfl (lv_room (Nat.le_of_ble_eq_true rfl)) dX10_isSmallHouse_5 ⟨Nat.le_of_ble_eq_true rfl, Nat.le_of_ble_eq_true rfl⟩) hS hFc hFc rfl (fun t H locs ht hB hk1 hS => ?_)
    obtain ⟨hP1, hD1⟩ := hB
    rw [ht] at hP1
    replace hP := z0 hP hD hk1 hP1 hI1
    clear hk1 hPc hDc hFc hP1 hD1 ht hI1
    refine lv_astore_n (lv' := [(3, .ref r2), (0, .ref x), (1, .int (nI i9)), (2, .int le9)]) hx hb dX10_isSmallHouse_8 rfl hl (Nat.le_of_ble_eq_true rfl) rfl (fun ls hl => ?_)
    refine lv_aload_n hx hb dX10_isSmallHouse_9 rfl (lv_at hl 0 rfl) ?_
    refine lv_ifnull hx hb dX10_isSmallHouse_10 ?_
    refine lv_aload_n hx hb dX10_isSmallHouse_13 rfl (lv_at hl 0 rfl) ?_
    obtain ⟨hPc, hDc, hFc, hI1⟩ := zi_sub (wc := [_, _, _]) hP hD hS hA [5, 6, 7] rfl rfl
    refine zcall (st1 := [.int (nI (Int.natAbs (ar2 (nN (mn i9)) U2 V2 (nN (mn i9)))))]) (va_runV (As := []) (rest := []) ⟨hx, hb, hml, hown, hts⟩ (k_Row_doubleArea l dC dI cI cZ cF H.size r2 rx2 ry2 (nN (mn i9)) cap2 U2 V2 rg2 (by first | with_reducible assumption | omega) (by first | with_reducible assumption | omega) (hq2)) (csV_123 hts rfl rfl ⟨Nat.le_of_ble_eq_true rfl, Nat.le_of_ble_eq_true rfl⟩) (zPV2 (q0 := 0) (ci := 6) hPc hDc hK hXN rfl rfl) rfl rfl hl.1 rfl (lv_room (Nat.le_of_ble_eq_true rfl)) dX10_isSmallHouse_14 ⟨Nat.le_of_ble_eq_true rfl, Nat.le_of_ble_eq_true rfl⟩) hS hFc hFc rfl (fun t H locs ht hB hk1 hS => ?_)
    obtain ⟨hP1, hD1⟩ := hB
    rw [ht] at hP1
    replace hP := z0 hP hD hk1 hP1 hI1
    clear hk1 hPc hDc hFc hP1 hD1 ht hI1
    refine lv_iload_n hx hb dX10_isSmallHouse_17 rfl (lv_at hl 3 rfl) ?_
    have b9_2 : zlt ((Int.natAbs (ar2 (nN (mn i9)) U2 V2 (nN (mn i9))))) := show (Int.natAbs (ar2 (nN (mn i9)) U2 V2 (nN (mn i9)))) < 2147483648 by omega
    refine lv_icmp_ge (tgt := 25) hx hb dX10_isSmallHouse_18 rfl (fun c_1 => ?_) (fun c_1 => ?_)
    · have c_1 : le9.toInt ≤ ((Int.natAbs (ar2 (nN (mn i9)) U2 V2 (nN (mn i9))) : Nat) : Int) := zc_le rfl (nI_toInt b9_2) c_1
      refine lv_iconst (v := 0) hx hb dX10_isSmallHouse_25 rfl ?_
      obtain ⟨hP, hD⟩ := pl_bk (X := [_, _, _]) hT_1 hP rfl hc9_1 hD0_1 rfl
      obtain ⟨hP9, hD9⟩ := zu_part (cx := [_, _, _]) hP hD [true, true, true] rfl rfl
      rw [hQ9]
      exact W.zret (ty := .boolean) (v := 0) hx hb hr (rfl) (fun t ht hW => ⟨⟨congrArg (fun z => Outcome.returned (some (Value.int z))) (show (0 : Int32) = pI (smF ft st tn kd mn cx cy le9.toInt i9) from (zp_f (by first | exact ⟨hlv2, hA2.2, by have e9 := ar2_cg hrr2.2.2.2.2 _ (Nat.le_refl _); unfold arF; rw [← e9]; omega⟩ | exact fun h => by first | exact absurd h.1.2.2 ht2 | exact absurd ⟨h.1.2.1, h.2.1⟩ hA2 | (have e9 := ar2_cg hrr2.2.2.2.2 _ (Nat.le_refl _); have h9 := h.2.2; unfold arF at h9; rw [← e9] at h9; omega))).symm), by rw [ht]; exact hP9, hD9⟩, hS.F ht⟩) hS.2.2 dX10_isSmallHouse_26
    · have c_1 : ((Int.natAbs (ar2 (nN (mn i9)) U2 V2 (nN (mn i9))) : Nat) : Int) < le9.toInt := zc_nle rfl (nI_toInt b9_2) c_1
      refine lv_iconst (v := 1) hx hb dX10_isSmallHouse_21 rfl ?_
      refine lv_goto (tgt := 26) hx hb dX10_isSmallHouse_22 rfl ?_
      obtain ⟨hP, hD⟩ := pl_bk (X := [_, _, _]) hT_1 hP rfl hc9_1 hD0_1 rfl
      obtain ⟨hP9, hD9⟩ := zu_part (cx := [_, _, _]) hP hD [true, true, true] rfl rfl
      rw [hQ9]
      exact W.zret (ty := .boolean) (v := 1) hx hb hr (rfl) (fun t ht hW => ⟨⟨congrArg (fun z => Outcome.returned (some (Value.int z))) (show (1 : Int32) = pI (smF ft st tn kd mn cx cy le9.toInt i9) from (zp_t (by first | exact ⟨hlv2, hA2.2, by have e9 := ar2_cg hrr2.2.2.2.2 _ (Nat.le_refl _); unfold arF; rw [← e9]; omega⟩ | exact fun h => by first | exact absurd h.1.2.2 ht2 | exact absurd ⟨h.1.2.1, h.2.1⟩ hA2 | (have e9 := ar2_cg hrr2.2.2.2.2 _ (Nat.le_refl _); have h9 := h.2.2; unfold arF at h9; rw [← e9] at h9; omega))).symm), by rw [ht]; exact hP9, hD9⟩, hS.F ht⟩) hS.2.2 dX10_isSmallHouse_26
  · skip
    have hcap2 := hrr2.1
    have hcap3 := hrr2.2.1
    have hc9_1 : inPl L f [(oc1 fe2 (rk i9) (wd i9) (tw i9) (pa i9) (pb i9) (.ref lo2) (.ref lk2) fm2), (oc4 lk2 (kd i9) (st i9) (.ref r2) (gb i9) (it i9) we2), (oc6 r2 (.ref rx2) (.ref ry2) (nI (nN (mn i9))) rg2), (oa rx2 cI cap2 U2), (oa ry2 cI cap2 V2)] := ⟨hfe2, hlk2, hr2, hrx2, hry2, trivial⟩
    have hD0_1 := hD
    obtain ⟨T_1, hT_1, hP, hD⟩ := pl_oT hP hD hc9_1 (pwR hfe2.2 hlk2.2 hr2.2 hrx2.2 hry2.2 hne2)
    obtain ⟨hP, hD⟩ := zre (W2 := ([_, _, _, _, _, _, _, _] ++ va_pl T_1 f)) hP hD rfl
    refine lv_aload_n hx hb dX10_isSmallHouse_0 rfl (lv_at hl 0 rfl) ?_
    refine va_get (D := (dC, dI)) (ci := 8) (v := .ref sh) (C := RX10) (T := TX10) (N := 13) hx hb hts inX10 hown hK hP 0 rfl rfl 0 (Nat.le_of_ble_eq_true rfl) (hts _ mw_309) (fun _ h9 => h9) rfl dX10_isSmallHouse_1 ?_
    refine lv_iload_n hx hb dX10_isSmallHouse_4 rfl (lv_at hl 1 rfl) ?_
    obtain ⟨hPc, hDc, hFc, hI1⟩ := zi_sub (wc := [_, _, _, _]) hP hD hS hA [1, 2, 3, 4] (by decide +kernel) rfl
    refine zcall (st1 := [.null]) (va_runV (As := [.int (nI i9)]) (rest := []) ⟨hx, hb, hml, hown, hts⟩ (k_Sheet_houseThere_sv l dC dI cI cZ cF s.heap.size sh fa ft FA i9 fe2 lo2 (rk i9) (wd i9) (tw i9) (pa i9) (pb i9) lk2 (kd i9) (st i9) (gb i9) (it i9) we2 fm2 (.ref r2) (by first | with_reducible assumption | omega) (by first | with_reducible assumption | omega) (hFA2) (by first | exact hA2.1 | exact hA2)) (csV_122 hts rfl rfl ⟨Nat.le_of_ble_eq_true rfl, Nat.le_of_ble_eq_true rfl⟩) (zPV2 (q0 := 0) (ci := 7) hPc hDc hK hXN rfl rfl) rfl rfl hl.1 rfl (lv_room (Nat.le_of_ble_eq_true rfl)) dX10_isSmallHouse_5 ⟨Nat.le_of_ble_eq_true rfl, Nat.le_of_ble_eq_true rfl⟩) hS hFc hFc rfl (fun t H locs ht hB hk1 hS => ?_)
    obtain ⟨hP1, hD1⟩ := hB
    rw [ht] at hP1
    replace hP := z0 hP hD hk1 hP1 hI1
    clear hk1 hPc hDc hFc hP1 hD1 ht hI1
    refine lv_astore_nN (lv' := [(3, .null), (0, .ref x), (1, .int (nI i9)), (2, .int le9)]) hx hb dX10_isSmallHouse_8 rfl hl (Nat.le_of_ble_eq_true rfl) rfl (fun ls hl => ?_)
    refine lv_aload_nN hx hb dX10_isSmallHouse_9 rfl (lv_at hl 0 rfl) ?_
    refine lv_ifnullN (tgt := 25) hx hb dX10_isSmallHouse_10 rfl ?_
    refine lv_iconst (v := 0) hx hb dX10_isSmallHouse_25 rfl ?_
    obtain ⟨hP, hD⟩ := pl_bk (X := [_, _, _]) hT_1 hP rfl hc9_1 hD0_1 rfl
    obtain ⟨hP9, hD9⟩ := zu_part (cx := [_, _, _]) hP hD [true, true, true] rfl rfl
    rw [hQ9]
    exact W.zret (ty := .boolean) (v := 0) hx hb hr (rfl) (fun t ht hW => ⟨⟨congrArg (fun z => Outcome.returned (some (Value.int z))) (show (0 : Int32) = pI (smF ft st tn kd mn cx cy le9.toInt i9) from (zp_f (by first | exact ⟨hlv2, hA2.2, by have e9 := ar2_cg hrr2.2.2.2.2 _ (Nat.le_refl _); unfold arF; rw [← e9]; omega⟩ | exact fun h => by first | exact absurd h.1.2.2 ht2 | exact absurd ⟨h.1.2.1, h.2.1⟩ hA2 | (have e9 := ar2_cg hrr2.2.2.2.2 _ (Nat.le_refl _); have h9 := h.2.2; unfold arF at h9; rw [← e9] at h9; omega))).symm), by rw [ht]; exact hP9, hD9⟩, hS.F ht⟩) hS.2.2 dX10_isSmallHouse_26
end
section
/-! two features at a time -/
theorem fc_ne {cI : ClassId} {L : List Nat} {f : Nat → va_E} {own : Nat → Nat} {q gl gr fq nq cq p : Nat} {fv : Value} {rk9 wd9 tw9 pa9 pb9 kd9 st9 gb9 it9 : Int32} {n : Nat} {C D : Nat → Int32} {lo lx ly ln : Nat} {LX LY : Nat → Int32} {we9 r rx ry cap : Nat} {X Y : Nat → Int32} {x1 x2 x3 x4 x5 x6 x7 x8 : va_E} (h : fcA cI L f own q gl gr fq nq cq fv rk9 wd9 tw9 pa9 pb9 kd9 st9 gb9 it9 n C D lo lx ly ln LX LY we9 r rx ry cap X Y) (hgl : gl / 8 = q) (hgr : gr / 8 = q) (hp : p ≠ q) :
    ∀ c ∈ ([(fq, x1), (nq, x2), (r, x3), (rx, x4), (ry, x5), (lo, x6), (lx, x7), (ly, x8)] : va_W), own c.1 / 8 ≠ p := by
  obtain ⟨⟨a1, a2, ⟨a3, a4, a5, a6⟩, ⟨a7, a8, a9, a10⟩⟩, _⟩ := h
  intro c hc
  simp only [List.mem_cons, List.not_mem_nil, or_false] at hc
  rcases hc with rfl | rfl | rfl | rfl | rfl | rfl | rfl | rfl
  · rw [a1.2.2]; omega
  · rw [a2.2.2, hgl]; omega
  · rw [a3.2.2, hgr]; omega
  · rw [a4.2.2, hgr]; omega
  · rw [a5.2.2, hgr]; omega
  · rw [a7.2.2]; omega
  · rw [a8.2.2]; omega
  · rw [a9.2.2]; omega
theorem rk_c {cI : ClassId} {L : List Nat} {f : Nat → va_E} {FA : Nat → Option Nat} {rk wd tw pa pb kd st gb it tn mn cx cy : Nat → Int32} {i j ft : Nat} (hi : i < ft) (h : i ≠ j → vwA cI L f FA rk wd tw pa pb kd st gb it tn mn cx cy i) :
    i = j ∨ (i ≠ j ∧ ¬ (tn i).toInt = 0 ∧ ∃ (fe lk lo : Nat) (we : Int32) (fm : Value), FA i = some fe ∧ (fe ∈ L ∧ f fe = .inr (1, [.int (rk i), .int (wd i), .int (tw i), .int (pa i), .int (pb i), .ref lo, .ref lk, fm])) ∧ (lk ∈ L ∧ f lk = .inr (4, [.int (kd i), .int (st i), .null, .int (gb i), .int (it i), .int we]))) ∨
    (i ≠ j ∧ (tn i).toInt = 0 ∧ ((st i).toInt = 1 ∧ (kd i).toInt = 6) ∧ ∃ (fe lk lo : Nat) (we : Int32) (fm : Value) (r rx ry cap : Nat) (X Y : Nat → Int32) (rg : Int32), FA i = some fe ∧ (fe ∈ L ∧ f fe = .inr (1, [.int (rk i), .int (wd i), .int (tw i), .int (pa i), .int (pb i), .ref lo, .ref lk, fm])) ∧ (lk ∈ L ∧ f lk = .inr (4, [.int (kd i), .int (st i), .ref r, .int (gb i), .int (it i), .int we])) ∧ rwA cI L f r rx ry (nN (mn i)) cap X Y rg ∧ rwR kd mn cx cy i cap X Y rg) ∨
    (i ≠ j ∧ (tn i).toInt = 0 ∧ ¬ ((st i).toInt = 1 ∧ (kd i).toInt = 6) ∧ ∃ (fe lk lo : Nat) (we : Int32) (fm : Value) (r rx ry cap : Nat) (X Y : Nat → Int32) (rg : Int32), FA i = some fe ∧ (fe ∈ L ∧ f fe = .inr (1, [.int (rk i), .int (wd i), .int (tw i), .int (pa i), .int (pb i), .ref lo, .ref lk, fm])) ∧ (lk ∈ L ∧ f lk = .inr (4, [.int (kd i), .int (st i), .ref r, .int (gb i), .int (it i), .int we])) ∧ rwA cI L f r rx ry (nN (mn i)) cap X Y rg ∧ rwR kd mn cx cy i cap X Y rg) := by
  by_cases e : i = j
  · exact Or.inl e
  · rcases vwA_3 (P9 := (st i).toInt = 1 ∧ (kd i).toInt = 6) (h e) with ⟨t0, g⟩ | ⟨t0, p, g⟩ | ⟨t0, p, g⟩
    · exact Or.inr (Or.inl ⟨e, t0, g⟩)
    · exact Or.inr (Or.inr (Or.inl ⟨e, t0, p, g⟩))
    · exact Or.inr (Or.inr (Or.inr ⟨e, t0, p, g⟩))
end
section
set_option maxHeartbeats 4000000 in
set_option maxRecDepth 100000 in
theorem k_rankInTown (l : Launch) (dC : Nat → ClassId) (dI : Nat → Nat → Nat) (cI cZ cF : ClassId) (sz : Nat) (x : Nat) (sh : Nat) (lw : Nat) (ro : Nat) (bq : Nat) (bp : Nat) (dq : Nat) (dp : Nat) (lv : Nat) (sl : Nat) (sd : Int32) (ul : Int32) (su : Int32) (ds : Int32) (fa : Nat) (ft : Nat) (FA : Nat → Option Nat) (f0 : Nat) (L : List Nat) (f : Nat → va_E) (kd : Nat → Int32) (st : Nat → Int32) (tn : Nat → Int32) (mn : Nat → Int32) (cx : Nat → Int32) (cy : Nat → Int32) (rk : Nat → Int32) (wd : Nat → Int32) (tw : Nat → Int32) (pa : Nat → Int32) (pb : Nat → Int32) (gb : Nat → Int32) (it : Nat → Int32) (own : Nat → Nat) (fe : Nat → Nat) (cl : Nat → Nat) (nw : Nat → Nat) (md : Nat → Nat) (fm : Nat → Value) (h200 : ft ≤ 200) (hf0 : f0 < ft) (hF : FeA cI L f own ft fe nw cl fm rk wd tw pa pb) (hN : NwA cI L f own ft nw cl md kd st gb it tn mn cx cy) (hAf : ∀ q, q < ft → FA q = some (fe q)) (hok : okA ft st tn kd mn cx cy) (hst : (st f0).toInt = 1) (htn : (tn f0).toInt = 0) (hk6 : (kd f0).toInt = 6) : zM l yX10_rankInTown cX10_rankInTown 9 (some .int) ({ frames := 3, cells := 0, slots := 0, locals := 65 } : Room) [.ref x, .int (nI f0)] (dC, dI) (zTy cI cZ cF) ([(oc8 x (.ref sh) (.ref lw) (.ref ro) (.ref bq) (.ref bp) (.ref dq) (.ref dp) (.ref lv) (.ref sl) ds sd ul su), (oc7 sh (.ref fa) (nI ft)), (oq fa cF 200 FA)] ++ va_pl L f) sz (some (.int (nI (cntP (gtF ft st tn kd mn tw cx cy f0) ft)))) (fun A t => zPD (dC, dI) classes A ([(oc8 x (.ref sh) (.ref lw) (.ref ro) (.ref bq) (.ref bp) (.ref dq) (.ref dp) (.ref lv) (.ref sl) ds sd ul su), (oc7 sh (.ref fa) (nI ft)), (oq fa cF 200 FA)] ++ va_pl L f) t.heap) 0 0 := by
  refine zIn (own := "ScaleShop") (loc := [(0, .ref x), (1, .int (nI f0))]) rfl rfl rfl rfl (fun p e s m below meth c hx hb hr hts hown hlocks hml hnm9 A hA hS hP hD hK hXN Q9 hQ9 ls hl => ?_)
  refine ex13 (sh_fc hF hN (Nat.le_refl _) hf0 htn) (fun lo5 lx5 ly5 ln5 LX5 LY5 we5 r5 rx5 ry5 cap5 X5 Y5 hc5 => ?_)
  have hgl : glM (md f0) f0 / 8 = f0 := (by unfold glM; split <;> omega)
  have hgr : grM (md f0) f0 / 8 = f0 := (by unfold grM; split <;> omega)
  have hg1 : grM (md f0) f0 ≠ 8 * f0 + 1 := (by unfold grM; split <;> omega)
  have hlv0 : lvF ft st tn f0 := ⟨hf0, hst, htn⟩
  have hw0 := (hok f0 hlv0).1
  have hX5 := hc5.2.2.2.2.1
  have hp5 := (pls_cg hX5).mpr hw0.2.2
  have hn5 := hw0.2.1
  have hb5 := hc5.2.2.1
  have ea5 := ar2_cg hX5 _ (Nat.le_refl _)
  have hab5 := ar2B hp5 _ (Nat.le_refl _)
  have hc9_1 : inPl L f [(oc1 (fe f0) (rk f0) (wd f0) (tw f0) (pa f0) (pb f0) (.ref lo5) (.ref (nw f0)) (fm f0)), (oc4 (nw f0) (kd f0) (st f0) (.ref r5) (gb f0) (it f0) (nI we5)), (oc6 r5 (.ref rx5) (.ref ry5) (nI (nN (mn f0))) (rgK (kd f0).toInt)), (oa rx5 cI cap5 X5), (oa ry5 cI cap5 Y5), (oc6 lo5 (.ref lx5) (.ref ly5) (nI ln5) 0), (oa lx5 cI (cl f0) LX5), (oa ly5 cI (cl f0) LY5)] := ⟨ce_pl hc5.1.1, ce_pl hc5.1.2.1, ce_pl hc5.1.2.2.1.1, ce_pl hc5.1.2.2.1.2.1, ce_pl hc5.1.2.2.1.2.2.1, ce_pl hc5.1.2.2.2.1, ce_pl hc5.1.2.2.2.2.1, ce_pl hc5.1.2.2.2.2.2.1, trivial⟩
  have hD0_1 := hD
  obtain ⟨T_1, hT_1, hP, hD⟩ := pl_oT hP hD hc9_1 (pw8 hc5 hg1)
  obtain ⟨hP, hD⟩ := zre (W2 := ([_, _, _, _, _, _, _, _, _, _, _] ++ va_pl T_1 f)) hP hD rfl
  refine lv_aload_n hx hb dX10_rankInTown_0 rfl (lv_at hl 0 rfl) ?_
  refine va_get (D := (dC, dI)) (ci := 8) (v := .ref sh) (C := RX10) (T := TX10) (N := 13) hx hb hts inX10 hown hK hP 0 rfl rfl 0 (Nat.le_of_ble_eq_true rfl) (hts _ mw_309) (fun _ h9 => h9) rfl dX10_rankInTown_1 ?_
  refine lv_iload_n hx hb dX10_rankInTown_4 rfl (lv_at hl 1 rfl) ?_
  obtain ⟨hPc, hDc, hFc, hI1⟩ := zi_sub (wc := [_, _]) hP hD hS hA [1, 2] rfl rfl
  refine zcall (st1 := [.ref (fe f0)]) (va_runV (As := [.int (nI f0)]) (rest := []) ⟨hx, hb, hml, hown, hts⟩ (k_Sheet_find l dC dI cI cZ cF s.heap.size sh fa ft FA f0 (fe f0) (by first | with_reducible assumption | omega) (by first | with_reducible assumption | omega) (hAf f0 hf0)) (csV_94 hts rfl rfl ⟨Nat.le_of_ble_eq_true rfl, Nat.le_of_ble_eq_true rfl⟩) (zPV2 (q0 := 0) (ci := 7) hPc hDc hK hXN rfl rfl) rfl rfl hl.1 rfl (lv_room (Nat.le_of_ble_eq_true rfl)) dX10_rankInTown_5 ⟨Nat.le_of_ble_eq_true rfl, Nat.le_of_ble_eq_true rfl⟩) hS hFc hFc rfl (fun t H locs ht hB hk1 hS => ?_)
  obtain ⟨hP1, hD1⟩ := hB
  rw [ht] at hP1
  replace hP := z0 hP hD hk1 hP1 hI1
  clear hk1 hPc hDc hFc hP1 hD1 ht hI1
  refine lv_astore_n (lv' := [(2, .ref (fe f0)), (0, .ref x), (1, .int (nI f0))]) hx hb dX10_rankInTown_8 rfl hl (Nat.le_of_ble_eq_true rfl) rfl (fun ls hl => ?_)
  refine lv_aload_n hx hb dX10_rankInTown_9 rfl (lv_at hl 1 rfl) ?_
  refine va_get (D := (dC, dI)) (ci := 8) (v := .ref sh) (C := RX10) (T := TX10) (N := 13) hx hb hts inX10 hown hK hP 0 rfl rfl 0 (Nat.le_of_ble_eq_true rfl) (hts _ mw_309) (fun _ h9 => h9) rfl dX10_rankInTown_10 ?_
  refine lv_iload_n hx hb dX10_rankInTown_13 rfl (lv_at hl 2 rfl) ?_
  obtain ⟨hPc, hDc, hFc, hI1⟩ := zi_sub (wc := [_, _, _, _]) hP hD hS hA [1, 2, 3, 4] (by decide +kernel) rfl
  refine zcall (st1 := [.ref r5]) (va_runV (As := [.int (nI f0)]) (rest := []) ⟨hx, hb, hml, hown, hts⟩ (k_Sheet_houseThere_yv l dC dI cI cZ cF H.size sh fa ft FA f0 (fe f0) lo5 (rk f0) (wd f0) (tw f0) (pa f0) (pb f0) (nw f0) (kd f0) (st f0) (gb f0) (it f0) (nI we5) r5 (fm f0) (by first | with_reducible assumption | omega) (by first | with_reducible assumption | omega) (hAf f0 hf0) (hst) (hk6)) (csV_122 hts rfl rfl ⟨Nat.le_of_ble_eq_true rfl, Nat.le_of_ble_eq_true rfl⟩) (zPV2 (q0 := 0) (ci := 7) hPc hDc hK hXN rfl rfl) rfl rfl hl.1 rfl (lv_room (Nat.le_of_ble_eq_true rfl)) dX10_rankInTown_14 ⟨Nat.le_of_ble_eq_true rfl, Nat.le_of_ble_eq_true rfl⟩) hS hFc hFc rfl (fun t H locs ht hB hk1 hS => ?_)
  obtain ⟨hP1, hD1⟩ := hB
  rw [ht] at hP1
  replace hP := z0 hP hD hk1 hP1 hI1
  clear hk1 hPc hDc hFc hP1 hD1 ht hI1
  refine lv_astore_n (lv' := [(3, .ref r5), (2, .ref (fe f0)), (0, .ref x), (1, .int (nI f0))]) hx hb dX10_rankInTown_17 rfl hl (Nat.le_of_ble_eq_true rfl) rfl (fun ls hl => ?_)
  refine lv_aload_n hx hb dX10_rankInTown_18 rfl (lv_at hl 1 rfl) ?_
  refine lv_ifnull hx hb dX10_rankInTown_19 ?_
  refine lv_aload_n hx hb dX10_rankInTown_22 rfl (lv_at hl 0 rfl) ?_
  refine lv_ifnonnull (tgt := 28) hx hb dX10_rankInTown_23 rfl ?_
  refine lv_iconst (v := 0) hx hb dX10_rankInTown_28 rfl ?_
  refine lv_istore (lv' := [(4, .int 0), (3, .ref r5), (2, .ref (fe f0)), (0, .ref x), (1, .int (nI f0))]) hx hb dX10_rankInTown_29 hl (Nat.le_of_ble_eq_true rfl) rfl (fun ls hl => ?_)
  refine lv_iconst (v := 0) hx hb dX10_rankInTown_31 rfl ?_
  refine lv_istore (lv' := [(5, .int 0), (4, .int 0), (3, .ref r5), (2, .ref (fe f0)), (0, .ref x), (1, .int (nI f0))]) hx hb dX10_rankInTown_32 hl (Nat.le_of_ble_eq_true rfl) rfl (fun ls hl => ?_)
  have hl_34 : ∀ (n9 : Nat) (g5 : Nat) (H : Heap) (locs : List Loc) (ls : Array Slot), ft - g5 < n9 → (g5 ≤ ft) → va_P (dC, dI) classes ([(oc8 x (.ref sh) (.ref lw) (.ref ro) (.ref bq) (.ref bp) (.ref dq) (.ref dp) (.ref lv) (.ref sl) ds sd ul su), (oc7 sh (.ref fa) (nI ft)), (oq fa cF 200 FA), (oc1 (fe f0) (rk f0) (wd f0) (tw f0) (pa f0) (pb f0) (.ref lo5) (.ref (nw f0)) (fm f0)), (oc4 (nw f0) (kd f0) (st f0) (.ref r5) (gb f0) (it f0) (nI we5)), (oc6 r5 (.ref rx5) (.ref ry5) (nI (nN (mn f0))) (rgK (kd f0).toInt)), (oa rx5 cI cap5 X5), (oa ry5 cI cap5 Y5), (oc6 lo5 (.ref lx5) (.ref ly5) (nI ln5) 0), (oa lx5 cI (cl f0) LX5), (oa ly5 cI (cl f0) LY5)] ++ va_pl T_1 f) H → va_D A ([(oc8 x (.ref sh) (.ref lw) (.ref ro) (.ref bq) (.ref bp) (.ref dq) (.ref dp) (.ref lv) (.ref sl) ds sd ul su), (oc7 sh (.ref fa) (nI ft)), (oq fa cF 200 FA), (oc1 (fe f0) (rk f0) (wd f0) (tw f0) (pa f0) (pb f0) (.ref lo5) (.ref (nw f0)) (fm f0)), (oc4 (nw f0) (kd f0) (st f0) (.ref r5) (gb f0) (it f0) (nI we5)), (oc6 r5 (.ref rx5) (.ref ry5) (nI (nN (mn f0))) (rgK (kd f0).toInt)), (oa rx5 cI cap5 X5), (oa ry5 cI cap5 Y5), (oc6 lo5 (.ref lx5) (.ref ly5) (nI ln5) 0), (oa lx5 cI (cl f0) LX5), (oa ly5 cI (cl f0) LY5)] ++ va_pl T_1 f) → va_S A s.heap H locs → lv_has ls 9 [(5, .int (nI g5)), (4, .int (nI (cntP (gtF ft st tn kd mn tw cx cy f0) g5))), (3, .ref r5), (2, .ref (fe f0)), (0, .ref x), (1, .int (nI f0))] → W p l e ({ frames := 3, cells := 0, slots := 0, locals := 65 } : Room) s m ([.ref x, .int (nI f0)] : List Value).toArray below meth c H locs 0 0 Q9 (F0 m 34 ls []) := by
    intro n9
    induction n9 with
    | zero => intro g5 H locs ls hm; exact absurd hm (Nat.not_lt_zero _)
    | succ n9 ih_34 =>
      intro g5 H locs ls hm hg5 hP hD hS hl
      have hcb := cntP_b (gtF ft st tn kd mn tw cx cy f0) g5
      refine lv_iload hx hb dX10_rankInTown_34 (lv_at hl 0 rfl) ?_
      refine lv_aload_n hx hb dX10_rankInTown_36 rfl (lv_at hl 4 rfl) ?_
      refine va_get (D := (dC, dI)) (ci := 8) (v := .ref sh) (C := RX10) (T := TX10) (N := 13) hx hb hts inX10 hown hK hP 0 rfl rfl 0 (Nat.le_of_ble_eq_true rfl) (hts _ mw_309) (fun _ h9 => h9) rfl dX10_rankInTown_37 ?_
      refine va_get (D := (dC, dI)) (ci := 7) (v := .int (nI ft)) (C := RX8) (T := TX8) (N := 2) hx hb hts inX8 hown hK hP 1 rfl rfl 1 (Nat.le_of_ble_eq_true rfl) (hts _ mw_140) (fun _ h9 => h9) rfl dX10_rankInTown_40 ?_
      have b9_2 : zlt (g5) := show g5 < 2147483648 by omega
      have b9_3 : zlt (ft) := show ft < 2147483648 by omega
      refine lv_icmp_ge (tgt := 130) hx hb dX10_rankInTown_43 rfl (fun c_1 => ?_) (fun c_1 => ?_)
      · have c_1 : ((ft : Nat) : Int) ≤ ((g5 : Nat) : Int) := zc_le (nI_toInt b9_3) (nI_toInt b9_2) c_1
        obtain ⟨hP, hD⟩ := pl_bk (X := [_, _, _]) hT_1 hP rfl hc9_1 hD0_1 rfl
        refine lv_iload hx hb dX10_rankInTown_130 (lv_at hl 1 rfl) ?_
        have hge : g5 = ft := (by omega)
        obtain ⟨hP9, hD9⟩ := zu_part (cx := [_, _, _]) hP hD [true, true, true] rfl rfl
        rw [hQ9]
        exact W.iret (v := nI (cntP (gtF ft st tn kd mn tw cx cy f0) g5)) hx hb hr (fun t ht hW => ⟨⟨congrArg (fun z => Outcome.returned (some (Value.int z))) (show (nI (cntP (gtF ft st tn kd mn tw cx cy f0) g5) : Int32) = nI (cntP (gtF ft st tn kd mn tw cx cy f0) ft) from by rw [hge]), by rw [ht]; exact hP9, hD9⟩, hS.F ht⟩) hS.2.2 dX10_rankInTown_132
      · have c_1 : ((g5 : Nat) : Int) < ((ft : Nat) : Int) := zc_nle (nI_toInt b9_3) (nI_toInt b9_2) c_1
        rcases rk_c (show g5 < ft by omega) (fun hif : g5 ≠ f0 => (by rw [← hT_1]; exact sh_va hF hN hAf (Nat.le_refl _) (show g5 < ft by omega) (fc_ne hc5 hgl hgr hif) : vwA cI T_1 f FA rk wd tw pa pb kd st gb it tn mn cx cy g5)) with hif | ⟨hif, ht2, fe2, lk2, lo2, we2, fm2, hFA2, hfe2, hlk2⟩ | ⟨hif, ht2, hA2, fe2, lk2, lo2, we2, fm2, r2, rx2, ry2, cap2, U2, V2, rg2, hFA2, hfe2, hlk2, ⟨hr2, hrx2, hry2, hne2⟩, hrr2⟩ | ⟨hif, ht2, hA2, fe2, lk2, lo2, we2, fm2, r2, rx2, ry2, cap2, U2, V2, rg2, hFA2, hfe2, hlk2, ⟨hr2, hrx2, hry2, hne2⟩, hrr2⟩
        · skip
          refine lv_aload_n hx hb dX10_rankInTown_46 rfl (lv_at hl 4 rfl) ?_
          refine va_get (D := (dC, dI)) (ci := 8) (v := .ref sh) (C := RX10) (T := TX10) (N := 13) hx hb hts inX10 hown hK hP 0 rfl rfl 0 (Nat.le_of_ble_eq_true rfl) (hts _ mw_309) (fun _ h9 => h9) rfl dX10_rankInTown_47 ?_
          refine lv_iload hx hb dX10_rankInTown_50 (lv_at hl 0 rfl) ?_
          obtain ⟨hPc, hDc, hFc, hI1⟩ := zi_sub (wc := [_, _]) hP hD hS hA [1, 2] rfl rfl
          refine zcall (st1 := [.ref (fe f0)]) (va_runV (As := [.int (nI g5)]) (rest := []) ⟨hx, hb, hml, hown, hts⟩ (k_Sheet_find l dC dI cI cZ cF H.size sh fa ft FA g5 (fe f0) (by first | with_reducible assumption | omega) (by first | with_reducible assumption | omega) (by first | exact hFA2 | (rw [hif]; exact hAf f0 hf0))) (csV_94 hts rfl rfl ⟨Nat.le_of_ble_eq_true rfl, Nat.le_of_ble_eq_true rfl⟩) (zPV2 (q0 := 0) (ci := 7) hPc hDc hK hXN rfl rfl) rfl rfl hl.1 rfl (lv_room (Nat.le_of_ble_eq_true rfl)) dX10_rankInTown_52 ⟨Nat.le_of_ble_eq_true rfl, Nat.le_of_ble_eq_true rfl⟩) hS hFc hFc rfl (fun t H locs ht hB hk1 hS => ?_)
          obtain ⟨hP1, hD1⟩ := hB
          rw [ht] at hP1
          replace hP := z0 hP hD hk1 hP1 hI1
          clear hk1 hPc hDc hFc hP1 hD1 ht hI1
          refine lv_astore (lv' := [(6, .ref (fe f0)), (5, .int (nI g5)), (4, .int (nI (cntP (gtF ft st tn kd mn tw cx cy f0) g5))), (3, .ref r5), (2, .ref (fe f0)), (0, .ref x), (1, .int (nI f0))]) hx hb dX10_rankInTown_55 hl (Nat.le_of_ble_eq_true rfl) rfl (fun ls hl => ?_)
          refine lv_aload_n hx hb dX10_rankInTown_57 rfl (lv_at hl 5 rfl) ?_
          refine va_get (D := (dC, dI)) (ci := 8) (v := .ref sh) (C := RX10) (T := TX10) (N := 13) hx hb hts inX10 hown hK hP 0 rfl rfl 0 (Nat.le_of_ble_eq_true rfl) (hts _ mw_309) (fun _ h9 => h9) rfl dX10_rankInTown_58 ?_
          refine lv_iload hx hb dX10_rankInTown_61 (lv_at hl 1 rfl) ?_
          obtain ⟨hPc, hDc, hFc, hI1⟩ := zi_sub (wc := [_, _, _, _]) hP hD hS hA [1, 2, 3, 4] (by decide +kernel) rfl
          refine zcall (st1 := [.ref r5]) (va_runV (As := [.int (nI g5)]) (rest := []) ⟨hx, hb, hml, hown, hts⟩ (k_Sheet_houseThere_yv l dC dI cI cZ cF H.size sh fa ft FA g5 (fe f0) lo5 (rk f0) (wd f0) (tw f0) (pa f0) (pb f0) (nw f0) (kd f0) (st f0) (gb f0) (it f0) (nI we5) r5 (fm f0) (by first | with_reducible assumption | omega) (by first | with_reducible assumption | omega) (by first | exact hFA2 | (rw [hif]; exact hAf f0 hf0)) (by first | exact hst | exact hA2.1 | exact hA2) (by first | exact hk6 | exact hA2.2)) (csV_122 hts rfl rfl ⟨Nat.le_of_ble_eq_true rfl, Nat.le_of_ble_eq_true rfl⟩) (zPV2 (q0 := 0) (ci := 7) hPc hDc hK hXN rfl rfl) rfl rfl hl.1 rfl (lv_room (Nat.le_of_ble_eq_true rfl)) dX10_rankInTown_63 ⟨Nat.le_of_ble_eq_true rfl, Nat.le_of_ble_eq_true rfl⟩) hS hFc hFc rfl (fun t H locs ht hB hk1 hS => ?_)
          obtain ⟨hP1, hD1⟩ := hB
          rw [ht] at hP1
          replace hP := z0 hP hD hk1 hP1 hI1
          clear hk1 hPc hDc hFc hP1 hD1 ht hI1
          refine lv_astore (lv' := [(7, .ref r5), (6, .ref (fe f0)), (5, .int (nI g5)), (4, .int (nI (cntP (gtF ft st tn kd mn tw cx cy f0) g5))), (3, .ref r5), (2, .ref (fe f0)), (0, .ref x), (1, .int (nI f0))]) hx hb dX10_rankInTown_66 hl (Nat.le_of_ble_eq_true rfl) rfl (fun ls hl => ?_)
          refine lv_aload hx hb dX10_rankInTown_68 (lv_at hl 1 rfl) ?_
          refine lv_ifnull hx hb dX10_rankInTown_70 ?_
          refine lv_aload hx hb dX10_rankInTown_73 (lv_at hl 0 rfl) ?_
          refine lv_ifnull hx hb dX10_rankInTown_75 ?_
          refine lv_aload hx hb dX10_rankInTown_78 (lv_at hl 1 rfl) ?_
          refine va_get (D := (dC, dI)) (ci := 1) (v := .int (tw f0)) (C := RX2) (T := TX2) (N := 8) hx hb hts inX2 hown hK hP 3 rfl rfl 2 (Nat.le_of_ble_eq_true rfl) (hts _ mw_421) (fun _ h9 => h9) rfl dX10_rankInTown_80 ?_
          refine lv_aload_n hx hb dX10_rankInTown_83 rfl (lv_at hl 5 rfl) ?_
          refine va_get (D := (dC, dI)) (ci := 1) (v := .int (tw f0)) (C := RX2) (T := TX2) (N := 8) hx hb hts inX2 hown hK hP 3 rfl rfl 2 (Nat.le_of_ble_eq_true rfl) (hts _ mw_421) (fun _ h9 => h9) rfl dX10_rankInTown_84 ?_
          refine lv_icmp_eq (tgt := 93) hx hb dX10_rankInTown_87 rfl (fun c_4 => ?_) (fun c_4 => ?_)
          · have c_4 : (tw f0).toInt = (tw f0).toInt := zc_eq rfl rfl c_4
            refine lv_aload hx hb dX10_rankInTown_93 (lv_at hl 0 rfl) ?_
            obtain ⟨hPc, hDc, hFc, hI1⟩ := zi_sub (wc := [_, _, _]) hP hD hS hA [5, 6, 7] rfl rfl
            refine zcall (st1 := [.int (nI (Int.natAbs (ar2 (nN (mn f0)) X5 Y5 (nN (mn f0)))))]) (va_runV (As := []) (rest := []) ⟨hx, hb, hml, hown, hts⟩ (k_Row_doubleArea l dC dI cI cZ cF H.size r5 rx5 ry5 (nN (mn f0)) cap5 X5 Y5 (rgK (kd f0).toInt) (by first | with_reducible assumption | omega) (by first | with_reducible assumption | omega) (by first | exact hq2 | exact hp5)) (csV_123 hts rfl rfl ⟨Nat.le_of_ble_eq_true rfl, Nat.le_of_ble_eq_true rfl⟩) (zPV2 (q0 := 0) (ci := 6) hPc hDc hK hXN rfl rfl) rfl rfl hl.1 rfl (lv_room (Nat.le_of_ble_eq_true rfl)) dX10_rankInTown_95 ⟨Nat.le_of_ble_eq_true rfl, Nat.le_of_ble_eq_true rfl⟩) hS hFc hFc rfl (fun t H locs ht hB hk1 hS => ?_)
            obtain ⟨hP1, hD1⟩ := hB
            rw [ht] at hP1
            replace hP := z0 hP hD hk1 hP1 hI1
            clear hk1 hPc hDc hFc hP1 hD1 ht hI1
            refine lv_aload_n hx hb dX10_rankInTown_98 rfl (lv_at hl 4 rfl) ?_
            obtain ⟨hPc, hDc, hFc, hI1⟩ := zi_sub (wc := [_, _, _]) hP hD hS hA [5, 6, 7] rfl rfl
            refine zcall (st1 := [.int (nI (Int.natAbs (ar2 (nN (mn f0)) X5 Y5 (nN (mn f0))))), .int (nI (Int.natAbs (ar2 (nN (mn f0)) X5 Y5 (nN (mn f0)))))]) (va_runV (As := []) (rest := [.int (nI (Int.natAbs (ar2 (nN (mn f0)) X5 Y5 (nN (mn f0)))))]) ⟨hx, hb, hml, hown, hts⟩ (k_Row_doubleArea l dC dI cI cZ cF H.size r5 rx5 ry5 (nN (mn f0)) cap5 X5 Y5 (rgK (kd f0).toInt) (by first | with_reducible assumption | omega) (by first | with_reducible assumption | omega) (hp5)) (csV_123 hts rfl rfl ⟨Nat.le_of_ble_eq_true rfl, Nat.le_of_ble_eq_true rfl⟩) (zPV2 (q0 := 0) (ci := 6) hPc hDc hK hXN rfl rfl) rfl rfl hl.1 rfl (lv_room (Nat.le_of_ble_eq_true rfl)) dX10_rankInTown_99 ⟨Nat.le_of_ble_eq_true rfl, Nat.le_of_ble_eq_true rfl⟩) hS hFc hFc rfl (fun t H locs ht hB hk1 hS => ?_)
            obtain ⟨hP1, hD1⟩ := hB
            rw [ht] at hP1
            replace hP := z0 hP hD hk1 hP1 hI1
            clear hk1 hPc hDc hFc hP1 hD1 ht hI1
            refine lv_isub hx hb dX10_rankInTown_102 ?_
            refine zz_i (v := iI (((Int.natAbs (ar2 (nN (mn f0)) X5 Y5 (nN (mn f0))) : Nat) : Int) - ((Int.natAbs (ar2 (nN (mn f0)) X5 Y5 (nN (mn f0))) : Nat) : Int))) (nn_sub (by omega) (by omega)) ?_
            refine lv_istore (lv' := [(8, .int (iI (((Int.natAbs (ar2 (nN (mn f0)) X5 Y5 (nN (mn f0))) : Nat) : Int) - ((Int.natAbs (ar2 (nN (mn f0)) X5 Y5 (nN (mn f0))) : Nat) : Int)))), (7, .ref r5), (6, .ref (fe f0)), (5, .int (nI g5)), (4, .int (nI (cntP (gtF ft st tn kd mn tw cx cy f0) g5))), (3, .ref r5), (2, .ref (fe f0)), (0, .ref x), (1, .int (nI f0))]) hx hb dX10_rankInTown_103 hl (Nat.le_of_ble_eq_true rfl) rfl (fun ls hl => ?_)
            refine lv_iload hx hb dX10_rankInTown_105 (lv_at hl 0 rfl) ?_
            refine lv_if_gt (tgt := 121) hx hb dX10_rankInTown_107 rfl (fun c_5 => ?_) (fun c_5 => ?_)
            · have c_5 : 0 < (((Int.natAbs (ar2 (nN (mn f0)) X5 Y5 (nN (mn f0))) : Nat) : Int) - ((Int.natAbs (ar2 (nN (mn f0)) X5 Y5 (nN (mn f0))) : Nat) : Int)) := zc_lt rfl (iI_toInt (by omega)) c_5
              exfalso; omega
            · have c_5 : (((Int.natAbs (ar2 (nN (mn f0)) X5 Y5 (nN (mn f0))) : Nat) : Int) - ((Int.natAbs (ar2 (nN (mn f0)) X5 Y5 (nN (mn f0))) : Nat) : Int)) ≤ 0 := zc_nlt rfl (iI_toInt (by omega)) c_5
              refine lv_iload hx hb dX10_rankInTown_110 (lv_at hl 0 rfl) ?_
              refine lv_if_ne (tgt := 124) hx hb dX10_rankInTown_112 rfl (fun c_6 => ?_) (fun c_6 => ?_)
              · have c_6 : ¬ (((Int.natAbs (ar2 (nN (mn f0)) X5 Y5 (nN (mn f0))) : Nat) : Int) - ((Int.natAbs (ar2 (nN (mn f0)) X5 Y5 (nN (mn f0))) : Nat) : Int)) = 0 := zc_ne (iI_toInt (by omega)) rfl c_6
                exfalso; omega
              · have c_6 : (((Int.natAbs (ar2 (nN (mn f0)) X5 Y5 (nN (mn f0))) : Nat) : Int) - ((Int.natAbs (ar2 (nN (mn f0)) X5 Y5 (nN (mn f0))) : Nat) : Int)) = 0 := zc_eq (iI_toInt (by omega)) rfl c_6
                refine lv_iload hx hb dX10_rankInTown_115 (lv_at hl 3 rfl) ?_
                refine lv_iload_n hx hb dX10_rankInTown_117 rfl (lv_at hl 8 rfl) ?_
                have b9_8 : zlt (g5) := show g5 < 2147483648 by omega
                have b9_9 : zlt (f0) := show f0 < 2147483648 by omega
                refine lv_icmp_ge (tgt := 124) hx hb dX10_rankInTown_118 rfl (fun c_7 => ?_) (fun c_7 => ?_)
                · have c_7 : ((f0 : Nat) : Int) ≤ ((g5 : Nat) : Int) := zc_le (nI_toInt b9_9) (nI_toInt b9_8) c_7
                  have hn9 : ¬ gtF ft st tn kd mn tw cx cy f0 g5 := fun h => h.1 hif
                  refine lv_iinc (v := nI (g5 + 1)) (lv' := [(5, .int (nI (g5 + 1))), (8, .int (iI (((Int.natAbs (ar2 (nN (mn f0)) X5 Y5 (nN (mn f0))) : Nat) : Int) - ((Int.natAbs (ar2 (nN (mn f0)) X5 Y5 (nN (mn f0))) : Nat) : Int)))), (7, .ref r5), (6, .ref (fe f0)), (4, .int (nI (cntP (gtF ft st tn kd mn tw cx cy f0) g5))), (3, .ref r5), (2, .ref (fe f0)), (0, .ref x), (1, .int (nI f0))]) hx hb dX10_rankInTown_124 hl (k := 3) rfl (nI_add g5 1) (Nat.le_of_ble_eq_true rfl) rfl (fun ls hl => ?_)
                  refine lv_goto (tgt := 34) hx hb dX10_rankInTown_127 rfl ?_
                  have hl9 := lv_sub hl [0, 4, 5, 6, 7, 8] rfl
                  have e9_4 : nI (cntP (gtF ft st tn kd mn tw cx cy f0) (g5 + 1)) = (nI (cntP (gtF ft st tn kd mn tw cx cy f0) g5) : Int32) := by first | (rw [cntP_y hy9]; done) | (rw [cntP_n hn9]; first | done | rfl) | rfl
                  have hl9 : lv_has ls 9 [(5, .int (nI (g5 + 1))), (4, .int (nI (cntP (gtF ft st tn kd mn tw cx cy f0) (g5 + 1)))), (3, .ref r5), (2, .ref (fe f0)), (0, .ref x), (1, .int (nI f0))] := by rw [e9_4]; exact hl9
                  exact ih_34 (g5 + 1) H locs ls (by first | with_reducible assumption | omega) (by first | with_reducible assumption | omega) hP hD hS hl9
                · have c_7 : ((g5 : Nat) : Int) < ((f0 : Nat) : Int) := zc_nle (nI_toInt b9_9) (nI_toInt b9_8) c_7
                  exfalso; omega
          · have c_4 : ¬ (tw f0).toInt = (tw f0).toInt := zc_ne rfl rfl c_4
            refine lv_goto (tgt := 124) hx hb dX10_rankInTown_90 rfl ?_
            have hn9 : ¬ gtF ft st tn kd mn tw cx cy f0 g5 := fun h => h.1 hif
            refine lv_iinc (v := nI (g5 + 1)) (lv' := [(5, .int (nI (g5 + 1))), (7, .ref r5), (6, .ref (fe f0)), (4, .int (nI (cntP (gtF ft st tn kd mn tw cx cy f0) g5))), (3, .ref r5), (2, .ref (fe f0)), (0, .ref x), (1, .int (nI f0))]) hx hb dX10_rankInTown_124 hl (k := 2) rfl (nI_add g5 1) (Nat.le_of_ble_eq_true rfl) rfl (fun ls hl => ?_)
            refine lv_goto (tgt := 34) hx hb dX10_rankInTown_127 rfl ?_
            have hl9 := lv_sub hl [0, 3, 4, 5, 6, 7] rfl
            have e9_4 : nI (cntP (gtF ft st tn kd mn tw cx cy f0) (g5 + 1)) = (nI (cntP (gtF ft st tn kd mn tw cx cy f0) g5) : Int32) := by first | (rw [cntP_y hy9]; done) | (rw [cntP_n hn9]; first | done | rfl) | rfl
            have hl9 : lv_has ls 9 [(5, .int (nI (g5 + 1))), (4, .int (nI (cntP (gtF ft st tn kd mn tw cx cy f0) (g5 + 1)))), (3, .ref r5), (2, .ref (fe f0)), (0, .ref x), (1, .int (nI f0))] := by rw [e9_4]; exact hl9
            exact ih_34 (g5 + 1) H locs ls (by first | with_reducible assumption | omega) (by first | with_reducible assumption | omega) hP hD hS hl9
        · skip
          have hc9_2 : inPl T_1 f [(oc1 fe2 (rk g5) (wd g5) (tw g5) (pa g5) (pb g5) (.ref lo2) (.ref lk2) fm2), (oc4 lk2 (kd g5) (st g5) .null (gb g5) (it g5) we2)] := ⟨hfe2, hlk2, trivial⟩
          have hD0_2 := hD
          obtain ⟨T_2, hT_2, hP, hD⟩ := pl_oT hP hD hc9_2 (pwF hfe2.2 hlk2.2)
          obtain ⟨hP, hD⟩ := zre (W2 := ([_, _, _, _, _, _, _, _, _, _, _, _, _] ++ va_pl T_2 f)) hP hD rfl
          refine lv_aload_n hx hb dX10_rankInTown_46 rfl (lv_at hl 4 rfl) ?_
          refine va_get (D := (dC, dI)) (ci := 8) (v := .ref sh) (C := RX10) (T := TX10) (N := 13) hx hb hts inX10 hown hK hP 0 rfl rfl 0 (Nat.le_of_ble_eq_true rfl) (hts _ mw_309) (fun _ h9 => h9) rfl dX10_rankInTown_47 ?_
          refine lv_iload hx hb dX10_rankInTown_50 (lv_at hl 0 rfl) ?_
          obtain ⟨hPc, hDc, hFc, hI1⟩ := zi_sub (wc := [_, _]) hP hD hS hA [1, 2] rfl rfl
          refine zcall (st1 := [.ref fe2]) (va_runV (As := [.int (nI g5)]) (rest := []) ⟨hx, hb, hml, hown, hts⟩ (k_Sheet_find l dC dI cI cZ cF H.size sh fa ft FA g5 fe2 (by first | with_reducible assumption | omega) (by first | with_reducible assumption | omega) (by first | exact hFA2 | (rw [hif]; exact hAf f0 hf0))) (csV_94 hts rfl rfl ⟨Nat.le_of_ble_eq_true rfl, Nat.le_of_ble_eq_true rfl⟩) (zPV2 (q0 := 0) (ci := 7) hPc hDc hK hXN rfl rfl) rfl rfl hl.1 rfl (lv_room (Nat.le_of_ble_eq_true rfl)) dX10_rankInTown_52 ⟨Nat.le_of_ble_eq_true rfl, Nat.le_of_ble_eq_true rfl⟩) hS hFc hFc rfl (fun t H locs ht hB hk1 hS => ?_)
          obtain ⟨hP1, hD1⟩ := hB
          rw [ht] at hP1
          replace hP := z0 hP hD hk1 hP1 hI1
          clear hk1 hPc hDc hFc hP1 hD1 ht hI1
          refine lv_astore (lv' := [(6, .ref fe2), (5, .int (nI g5)), (4, .int (nI (cntP (gtF ft st tn kd mn tw cx cy f0) g5))), (3, .ref r5), (2, .ref (fe f0)), (0, .ref x), (1, .int (nI f0))]) hx hb dX10_rankInTown_55 hl (Nat.le_of_ble_eq_true rfl) rfl (fun ls hl => ?_)
          refine lv_aload_n hx hb dX10_rankInTown_57 rfl (lv_at hl 5 rfl) ?_
          refine va_get (D := (dC, dI)) (ci := 8) (v := .ref sh) (C := RX10) (T := TX10) (N := 13) hx hb hts inX10 hown hK hP 0 rfl rfl 0 (Nat.le_of_ble_eq_true rfl) (hts _ mw_309) (fun _ h9 => h9) rfl dX10_rankInTown_58 ?_
          refine lv_iload hx hb dX10_rankInTown_61 (lv_at hl 1 rfl) ?_
          obtain ⟨hPc, hDc, hFc, hI1⟩ := zi_sub (wc := [_, _, _, _]) hP hD hS hA [1, 2, 11, 12] (by decide +kernel) rfl
          refine zcall (st1 := [.null]) (va_runV (As := [.int (nI g5)]) (rest := []) ⟨hx, hb, hml, hown, hts⟩ (k_Sheet_houseThere_tv l dC dI cI cZ cF H.size sh fa ft FA g5 fe2 lo2 (rk g5) (wd g5) (tw g5) (pa g5) (pb g5) lk2 (kd g5) (st g5) (gb g5) (it g5) we2 fm2 (by first | with_reducible assumption | omega) (by first | with_reducible assumption | omega) (by first | exact hFA2 | (rw [hif]; exact hAf f0 hf0))) (csV_122 hts rfl rfl ⟨Nat.le_of_ble_eq_true rfl, Nat.le_of_ble_eq_true rfl⟩) (zPV2 (q0 := 0) (ci := 7) hPc hDc hK hXN rfl rfl) rfl rfl hl.1 rfl (lv_room (Nat.le_of_ble_eq_true rfl)) dX10_rankInTown_63 ⟨Nat.le_of_ble_eq_true rfl, Nat.le_of_ble_eq_true rfl⟩) hS hFc hFc rfl (fun t H locs ht hB hk1 hS => ?_)
          obtain ⟨hP1, hD1⟩ := hB
          rw [ht] at hP1
          replace hP := z0 hP hD hk1 hP1 hI1
          clear hk1 hPc hDc hFc hP1 hD1 ht hI1
          refine lv_astoreN (lv' := [(7, .null), (6, .ref fe2), (5, .int (nI g5)), (4, .int (nI (cntP (gtF ft st tn kd mn tw cx cy f0) g5))), (3, .ref r5), (2, .ref (fe f0)), (0, .ref x), (1, .int (nI f0))]) hx hb dX10_rankInTown_66 hl (Nat.le_of_ble_eq_true rfl) rfl (fun ls hl => ?_)
          refine lv_aload hx hb dX10_rankInTown_68 (lv_at hl 1 rfl) ?_
          refine lv_ifnull hx hb dX10_rankInTown_70 ?_
          refine lv_aloadN hx hb dX10_rankInTown_73 (lv_at hl 0 rfl) ?_
          refine lv_ifnullN (tgt := 124) hx hb dX10_rankInTown_75 rfl ?_
          obtain ⟨hP, hD⟩ := pl_bk (X := [_, _, _, _, _, _, _, _, _, _, _]) hT_2 hP rfl hc9_2 hD0_2 rfl
          have hn9 : ¬ gtF ft st tn kd mn tw cx cy f0 g5 := fun h => absurd h.2.1.2.2 ht2
          refine lv_iinc (v := nI (g5 + 1)) (lv' := [(5, .int (nI (g5 + 1))), (7, .null), (6, .ref fe2), (4, .int (nI (cntP (gtF ft st tn kd mn tw cx cy f0) g5))), (3, .ref r5), (2, .ref (fe f0)), (0, .ref x), (1, .int (nI f0))]) hx hb dX10_rankInTown_124 hl (k := 2) rfl (nI_add g5 1) (Nat.le_of_ble_eq_true rfl) rfl (fun ls hl => ?_)
          refine lv_goto (tgt := 34) hx hb dX10_rankInTown_127 rfl ?_
          have hl9 := lv_sub hl [0, 3, 4, 5, 6, 7] rfl
          have e9_4 : nI (cntP (gtF ft st tn kd mn tw cx cy f0) (g5 + 1)) = (nI (cntP (gtF ft st tn kd mn tw cx cy f0) g5) : Int32) := by first | (rw [cntP_y hy9]; done) | (rw [cntP_n hn9]; first | done | rfl) | rfl
          have hl9 : lv_has ls 9 [(5, .int (nI (g5 + 1))), (4, .int (nI (cntP (gtF ft st tn kd mn tw cx cy f0) (g5 + 1)))), (3, .ref r5), (2, .ref (fe f0)), (0, .ref x), (1, .int (nI f0))] := by rw [e9_4]; exact hl9
          exact ih_34 (g5 + 1) H locs ls (by first | with_reducible assumption | omega) (by first | with_reducible assumption | omega) hP hD hS hl9
        · skip
          have hcap2 := hrr2.1
          have hcap3 := hrr2.2.1
          have hlv2 : lvF ft st tn g5 := ⟨by omega, hA2.1, ht2⟩
          have hw2 := (hok g5 hlv2).1
          have hq2 := rw_pls hrr2 hw2
          have hn2 := hw2.2.1
          have ea2 := ar2_cg hrr2.2.2.2.2 _ (Nat.le_refl _)
          have hab2 := ar2B hq2 _ (Nat.le_refl _)
          have hc9_2 : inPl T_1 f [(oc1 fe2 (rk g5) (wd g5) (tw g5) (pa g5) (pb g5) (.ref lo2) (.ref lk2) fm2), (oc4 lk2 (kd g5) (st g5) (.ref r2) (gb g5) (it g5) we2), (oc6 r2 (.ref rx2) (.ref ry2) (nI (nN (mn g5))) rg2), (oa rx2 cI cap2 U2), (oa ry2 cI cap2 V2)] := ⟨hfe2, hlk2, hr2, hrx2, hry2, trivial⟩
          have hD0_2 := hD
          obtain ⟨T_2, hT_2, hP, hD⟩ := pl_oT hP hD hc9_2 (pwR hfe2.2 hlk2.2 hr2.2 hrx2.2 hry2.2 hne2)
          obtain ⟨hP, hD⟩ := zre (W2 := ([_, _, _, _, _, _, _, _, _, _, _, _, _, _, _, _] ++ va_pl T_2 f)) hP hD rfl
          refine lv_aload_n hx hb dX10_rankInTown_46 rfl (lv_at hl 4 rfl) ?_
          refine va_get (D := (dC, dI)) (ci := 8) (v := .ref sh) (C := RX10) (T := TX10) (N := 13) hx hb hts inX10 hown hK hP 0 rfl rfl 0 (Nat.le_of_ble_eq_true rfl) (hts _ mw_309) (fun _ h9 => h9) rfl dX10_rankInTown_47 ?_
          refine lv_iload hx hb dX10_rankInTown_50 (lv_at hl 0 rfl) ?_
          obtain ⟨hPc, hDc, hFc, hI1⟩ := zi_sub (wc := [_, _]) hP hD hS hA [1, 2] rfl rfl
          refine zcall (st1 := [.ref fe2]) (va_runV (As := [.int (nI g5)]) (rest := []) ⟨hx, hb, hml, hown, hts⟩ (k_Sheet_find l dC dI cI cZ cF H.size sh fa ft FA g5 fe2 (by first | with_reducible assumption | omega) (by first | with_reducible assumption | omega) (by first | exact hFA2 | (rw [hif]; exact hAf f0 hf0))) (csV_94 hts rfl rfl ⟨Nat.le_of_ble_eq_true rfl, Nat.le_of_ble_eq_true rfl⟩) (zPV2 (q0 := 0) (ci := 7) hPc hDc hK hXN rfl rfl) rfl rfl hl.1 rfl (lv_room (Nat.le_of_ble_eq_true rfl)) dX10_rankInTown_52 ⟨Nat.le_of_ble_eq_true rfl, Nat.le_of_ble_eq_true rfl⟩) hS hFc hFc rfl (fun t H locs ht hB hk1 hS => ?_)
          obtain ⟨hP1, hD1⟩ := hB
          rw [ht] at hP1
          replace hP := z0 hP hD hk1 hP1 hI1
          clear hk1 hPc hDc hFc hP1 hD1 ht hI1
          refine lv_astore (lv' := [(6, .ref fe2), (5, .int (nI g5)), (4, .int (nI (cntP (gtF ft st tn kd mn tw cx cy f0) g5))), (3, .ref r5), (2, .ref (fe f0)), (0, .ref x), (1, .int (nI f0))]) hx hb dX10_rankInTown_55 hl (Nat.le_of_ble_eq_true rfl) rfl (fun ls hl => ?_)
          refine lv_aload_n hx hb dX10_rankInTown_57 rfl (lv_at hl 5 rfl) ?_
          refine va_get (D := (dC, dI)) (ci := 8) (v := .ref sh) (C := RX10) (T := TX10) (N := 13) hx hb hts inX10 hown hK hP 0 rfl rfl 0 (Nat.le_of_ble_eq_true rfl) (hts _ mw_309) (fun _ h9 => h9) rfl dX10_rankInTown_58 ?_
          refine lv_iload hx hb dX10_rankInTown_61 (lv_at hl 1 rfl) ?_
          obtain ⟨hPc, hDc, hFc, hI1⟩ := zi_sub (wc := [_, _, _, _]) hP hD hS hA [1, 2, 11, 12] (by decide +kernel) rfl
          refine zcall (st1 := [.ref r2]) (va_runV (As := [.int (nI g5)]) (rest := []) ⟨hx, hb, hml, hown, hts⟩ (k_Sheet_houseThere_yv l dC dI cI cZ cF H.size sh fa ft FA g5 fe2 lo2 (rk g5) (wd g5) (tw g5) (pa g5) (pb g5) lk2 (kd g5) (st g5) (gb g5) (it g5) we2 r2 fm2 (by first | with_reducible assumption | omega) (by first | with_reducible assumption | omega) (by first | exact hFA2 | (rw [hif]; exact hAf f0 hf0)) (by first | exact hst | exact hA2.1 | exact hA2) (by first | exact hk6 | exact hA2.2)) (csV_122 hts rfl rfl ⟨Nat.le_of_ble_eq_true rfl, Nat.le_of_ble_eq_true rfl⟩) (zPV2 (q0 := 0) (ci := 7) hPc hDc hK hXN rfl rfl) rfl rfl hl.1 rfl (lv_room (Nat.le_of_ble_eq_true rfl)) dX10_rankInTown_63 ⟨Nat.le_of_ble_eq_true rfl, Nat.le_of_ble_eq_true rfl⟩) hS hFc hFc rfl (fun t H locs ht hB hk1 hS => ?_)
          obtain ⟨hP1, hD1⟩ := hB
          rw [ht] at hP1
          replace hP := z0 hP hD hk1 hP1 hI1
          clear hk1 hPc hDc hFc hP1 hD1 ht hI1
          refine lv_astore (lv' := [(7, .ref r2), (6, .ref fe2), (5, .int (nI g5)), (4, .int (nI (cntP (gtF ft st tn kd mn tw cx cy f0) g5))), (3, .ref r5), (2, .ref (fe f0)), (0, .ref x), (1, .int (nI f0))]) hx hb dX10_rankInTown_66 hl (Nat.le_of_ble_eq_true rfl) rfl (fun ls hl => ?_)
          refine lv_aload hx hb dX10_rankInTown_68 (lv_at hl 1 rfl) ?_
          refine lv_ifnull hx hb dX10_rankInTown_70 ?_
          refine lv_aload hx hb dX10_rankInTown_73 (lv_at hl 0 rfl) ?_
          refine lv_ifnull hx hb dX10_rankInTown_75 ?_
          refine lv_aload hx hb dX10_rankInTown_78 (lv_at hl 1 rfl) ?_
          refine va_get (D := (dC, dI)) (ci := 1) (v := .int (tw g5)) (C := RX2) (T := TX2) (N := 8) hx hb hts inX2 hown hK hP 11 rfl rfl 2 (Nat.le_of_ble_eq_true rfl) (hts _ mw_421) (fun _ h9 => h9) rfl dX10_rankInTown_80 ?_
          refine lv_aload_n hx hb dX10_rankInTown_83 rfl (lv_at hl 5 rfl) ?_
          refine va_get (D := (dC, dI)) (ci := 1) (v := .int (tw f0)) (C := RX2) (T := TX2) (N := 8) hx hb hts inX2 hown hK hP 3 rfl rfl 2 (Nat.le_of_ble_eq_true rfl) (hts _ mw_421) (fun _ h9 => h9) rfl dX10_rankInTown_84 ?_
          refine lv_icmp_eq (tgt := 93) hx hb dX10_rankInTown_87 rfl (fun c_10 => ?_) (fun c_10 => ?_)
          · have c_10 : (tw g5).toInt = (tw f0).toInt := zc_eq rfl rfl c_10
            refine lv_aload hx hb dX10_rankInTown_93 (lv_at hl 0 rfl) ?_
            obtain ⟨hPc, hDc, hFc, hI1⟩ := zi_sub (wc := [_, _, _]) hP hD hS hA [13, 14, 15] rfl rfl
            refine zcall (st1 := [.int (nI (Int.natAbs (ar2 (nN (mn g5)) U2 V2 (nN (mn g5)))))]) (va_runV (As := []) (rest := []) ⟨hx, hb, hml, hown, hts⟩ (k_Row_doubleArea l dC dI cI cZ cF H.size r2 rx2 ry2 (nN (mn g5)) cap2 U2 V2 rg2 (by first | with_reducible assumption | omega) (by first | with_reducible assumption | omega) (by first | exact hq2 | exact hp5)) (csV_123 hts rfl rfl ⟨Nat.le_of_ble_eq_true rfl, Nat.le_of_ble_eq_true rfl⟩) (zPV2 (q0 := 0) (ci := 6) hPc hDc hK hXN rfl rfl) rfl rfl hl.1 rfl (lv_room (Nat.le_of_ble_eq_true rfl)) dX10_rankInTown_95 ⟨Nat.le_of_ble_eq_true rfl, Nat.le_of_ble_eq_true rfl⟩) hS hFc hFc rfl (fun t H locs ht hB hk1 hS => ?_)
            obtain ⟨hP1, hD1⟩ := hB
            rw [ht] at hP1
            replace hP := z0 hP hD hk1 hP1 hI1
            clear hk1 hPc hDc hFc hP1 hD1 ht hI1
            refine lv_aload_n hx hb dX10_rankInTown_98 rfl (lv_at hl 4 rfl) ?_
            obtain ⟨hPc, hDc, hFc, hI1⟩ := zi_sub (wc := [_, _, _]) hP hD hS hA [5, 6, 7] rfl rfl
            refine zcall (st1 := [.int (nI (Int.natAbs (ar2 (nN (mn f0)) X5 Y5 (nN (mn f0))))), .int (nI (Int.natAbs (ar2 (nN (mn g5)) U2 V2 (nN (mn g5)))))]) (va_runV (As := []) (rest := [.int (nI (Int.natAbs (ar2 (nN (mn g5)) U2 V2 (nN (mn g5)))))]) ⟨hx, hb, hml, hown, hts⟩ (k_Row_doubleArea l dC dI cI cZ cF H.size r5 rx5 ry5 (nN (mn f0)) cap5 X5 Y5 (rgK (kd f0).toInt) (by first | with_reducible assumption | omega) (by first | with_reducible assumption | omega) (hp5)) (csV_123 hts rfl rfl ⟨Nat.le_of_ble_eq_true rfl, Nat.le_of_ble_eq_true rfl⟩) (zPV2 (q0 := 0) (ci := 6) hPc hDc hK hXN rfl rfl) rfl rfl hl.1 rfl (lv_room (Nat.le_of_ble_eq_true rfl)) dX10_rankInTown_99 ⟨Nat.le_of_ble_eq_true rfl, Nat.le_of_ble_eq_true rfl⟩) hS hFc hFc rfl (fun t H locs ht hB hk1 hS => ?_)
            obtain ⟨hP1, hD1⟩ := hB
            rw [ht] at hP1
            replace hP := z0 hP hD hk1 hP1 hI1
            clear hk1 hPc hDc hFc hP1 hD1 ht hI1
            refine lv_isub hx hb dX10_rankInTown_102 ?_
            refine zz_i (v := iI (((Int.natAbs (ar2 (nN (mn g5)) U2 V2 (nN (mn g5))) : Nat) : Int) - ((Int.natAbs (ar2 (nN (mn f0)) X5 Y5 (nN (mn f0))) : Nat) : Int))) (nn_sub (by omega) (by omega)) ?_
            refine lv_istore (lv' := [(8, .int (iI (((Int.natAbs (ar2 (nN (mn g5)) U2 V2 (nN (mn g5))) : Nat) : Int) - ((Int.natAbs (ar2 (nN (mn f0)) X5 Y5 (nN (mn f0))) : Nat) : Int)))), (7, .ref r2), (6, .ref fe2), (5, .int (nI g5)), (4, .int (nI (cntP (gtF ft st tn kd mn tw cx cy f0) g5))), (3, .ref r5), (2, .ref (fe f0)), (0, .ref x), (1, .int (nI f0))]) hx hb dX10_rankInTown_103 hl (Nat.le_of_ble_eq_true rfl) rfl (fun ls hl => ?_)
            refine lv_iload hx hb dX10_rankInTown_105 (lv_at hl 0 rfl) ?_
            refine lv_if_gt (tgt := 121) hx hb dX10_rankInTown_107 rfl (fun c_11 => ?_) (fun c_11 => ?_)
            · have c_11 : 0 < (((Int.natAbs (ar2 (nN (mn g5)) U2 V2 (nN (mn g5))) : Nat) : Int) - ((Int.natAbs (ar2 (nN (mn f0)) X5 Y5 (nN (mn f0))) : Nat) : Int)) := zc_lt rfl (iI_toInt (by omega)) c_11
              have hy9 : gtF ft st tn kd mn tw cx cy f0 g5 := ⟨hif, hlv2, hA2.2, by omega, by unfold arF; rw [← ea2, ← ea5]; omega⟩
              refine lv_iinc (v := nI ((cntP (gtF ft st tn kd mn tw cx cy f0) g5) + 1)) (lv' := [(4, .int (nI ((cntP (gtF ft st tn kd mn tw cx cy f0) g5) + 1))), (8, .int (iI (((Int.natAbs (ar2 (nN (mn g5)) U2 V2 (nN (mn g5))) : Nat) : Int) - ((Int.natAbs (ar2 (nN (mn f0)) X5 Y5 (nN (mn f0))) : Nat) : Int)))), (7, .ref r2), (6, .ref fe2), (5, .int (nI g5)), (3, .ref r5), (2, .ref (fe f0)), (0, .ref x), (1, .int (nI f0))]) hx hb dX10_rankInTown_121 hl (k := 4) rfl (nI_add (cntP (gtF ft st tn kd mn tw cx cy f0) g5) 1) (Nat.le_of_ble_eq_true rfl) rfl (fun ls hl => ?_)
              obtain ⟨hP, hD⟩ := pl_bk (X := [_, _, _, _, _, _, _, _, _, _, _]) hT_2 hP rfl hc9_2 hD0_2 rfl
              refine lv_iinc (v := nI (g5 + 1)) (lv' := [(5, .int (nI (g5 + 1))), (4, .int (nI ((cntP (gtF ft st tn kd mn tw cx cy f0) g5) + 1))), (8, .int (iI (((Int.natAbs (ar2 (nN (mn g5)) U2 V2 (nN (mn g5))) : Nat) : Int) - ((Int.natAbs (ar2 (nN (mn f0)) X5 Y5 (nN (mn f0))) : Nat) : Int)))), (7, .ref r2), (6, .ref fe2), (3, .ref r5), (2, .ref (fe f0)), (0, .ref x), (1, .int (nI f0))]) hx hb dX10_rankInTown_124 hl (k := 4) rfl (nI_add g5 1) (Nat.le_of_ble_eq_true rfl) rfl (fun ls hl => ?_)
              refine lv_goto (tgt := 34) hx hb dX10_rankInTown_127 rfl ?_
              have hl9 := lv_sub hl [0, 1, 5, 6, 7, 8] rfl
              have e9_4 : nI (cntP (gtF ft st tn kd mn tw cx cy f0) (g5 + 1)) = (nI ((cntP (gtF ft st tn kd mn tw cx cy f0) g5) + 1) : Int32) := by first | (rw [cntP_y hy9]; done) | (rw [cntP_n hn9]; first | done | rfl) | rfl
              have hl9 : lv_has ls 9 [(5, .int (nI (g5 + 1))), (4, .int (nI (cntP (gtF ft st tn kd mn tw cx cy f0) (g5 + 1)))), (3, .ref r5), (2, .ref (fe f0)), (0, .ref x), (1, .int (nI f0))] := by rw [e9_4]; exact hl9
              exact ih_34 (g5 + 1) H locs ls (by first | with_reducible assumption | omega) (by first | with_reducible assumption | omega) hP hD hS hl9
            · have c_11 : (((Int.natAbs (ar2 (nN (mn g5)) U2 V2 (nN (mn g5))) : Nat) : Int) - ((Int.natAbs (ar2 (nN (mn f0)) X5 Y5 (nN (mn f0))) : Nat) : Int)) ≤ 0 := zc_nlt rfl (iI_toInt (by omega)) c_11
              refine lv_iload hx hb dX10_rankInTown_110 (lv_at hl 0 rfl) ?_
              refine lv_if_ne (tgt := 124) hx hb dX10_rankInTown_112 rfl (fun c_12 => ?_) (fun c_12 => ?_)
              · have c_12 : ¬ (((Int.natAbs (ar2 (nN (mn g5)) U2 V2 (nN (mn g5))) : Nat) : Int) - ((Int.natAbs (ar2 (nN (mn f0)) X5 Y5 (nN (mn f0))) : Nat) : Int)) = 0 := zc_ne (iI_toInt (by omega)) rfl c_12
                obtain ⟨hP, hD⟩ := pl_bk (X := [_, _, _, _, _, _, _, _, _, _, _]) hT_2 hP rfl hc9_2 hD0_2 rfl
                have hn9 : ¬ gtF ft st tn kd mn tw cx cy f0 g5 := fun h => by have h9 := h.2.2.2; unfold arF at h9; rw [← ea2, ← ea5] at h9; omega
                refine lv_iinc (v := nI (g5 + 1)) (lv' := [(5, .int (nI (g5 + 1))), (8, .int (iI (((Int.natAbs (ar2 (nN (mn g5)) U2 V2 (nN (mn g5))) : Nat) : Int) - ((Int.natAbs (ar2 (nN (mn f0)) X5 Y5 (nN (mn f0))) : Nat) : Int)))), (7, .ref r2), (6, .ref fe2), (4, .int (nI (cntP (gtF ft st tn kd mn tw cx cy f0) g5))), (3, .ref r5), (2, .ref (fe f0)), (0, .ref x), (1, .int (nI f0))]) hx hb dX10_rankInTown_124 hl (k := 3) rfl (nI_add g5 1) (Nat.le_of_ble_eq_true rfl) rfl (fun ls hl => ?_)
                refine lv_goto (tgt := 34) hx hb dX10_rankInTown_127 rfl ?_
                have hl9 := lv_sub hl [0, 4, 5, 6, 7, 8] rfl
                have e9_4 : nI (cntP (gtF ft st tn kd mn tw cx cy f0) (g5 + 1)) = (nI (cntP (gtF ft st tn kd mn tw cx cy f0) g5) : Int32) := by first | (rw [cntP_y hy9]; done) | (rw [cntP_n hn9]; first | done | rfl) | rfl
                have hl9 : lv_has ls 9 [(5, .int (nI (g5 + 1))), (4, .int (nI (cntP (gtF ft st tn kd mn tw cx cy f0) (g5 + 1)))), (3, .ref r5), (2, .ref (fe f0)), (0, .ref x), (1, .int (nI f0))] := by rw [e9_4]; exact hl9
                exact ih_34 (g5 + 1) H locs ls (by first | with_reducible assumption | omega) (by first | with_reducible assumption | omega) hP hD hS hl9
              · have c_12 : (((Int.natAbs (ar2 (nN (mn g5)) U2 V2 (nN (mn g5))) : Nat) : Int) - ((Int.natAbs (ar2 (nN (mn f0)) X5 Y5 (nN (mn f0))) : Nat) : Int)) = 0 := zc_eq (iI_toInt (by omega)) rfl c_12
                refine lv_iload hx hb dX10_rankInTown_115 (lv_at hl 3 rfl) ?_
                refine lv_iload_n hx hb dX10_rankInTown_117 rfl (lv_at hl 8 rfl) ?_
                have b9_14 : zlt (g5) := show g5 < 2147483648 by omega
                have b9_15 : zlt (f0) := show f0 < 2147483648 by omega
                refine lv_icmp_ge (tgt := 124) hx hb dX10_rankInTown_118 rfl (fun c_13 => ?_) (fun c_13 => ?_)
                · have c_13 : ((f0 : Nat) : Int) ≤ ((g5 : Nat) : Int) := zc_le (nI_toInt b9_15) (nI_toInt b9_14) c_13
                  obtain ⟨hP, hD⟩ := pl_bk (X := [_, _, _, _, _, _, _, _, _, _, _]) hT_2 hP rfl hc9_2 hD0_2 rfl
                  have hn9 : ¬ gtF ft st tn kd mn tw cx cy f0 g5 := fun h => by have h9 := h.2.2.2; unfold arF at h9; rw [← ea2, ← ea5] at h9; omega
                  refine lv_iinc (v := nI (g5 + 1)) (lv' := [(5, .int (nI (g5 + 1))), (8, .int (iI (((Int.natAbs (ar2 (nN (mn g5)) U2 V2 (nN (mn g5))) : Nat) : Int) - ((Int.natAbs (ar2 (nN (mn f0)) X5 Y5 (nN (mn f0))) : Nat) : Int)))), (7, .ref r2), (6, .ref fe2), (4, .int (nI (cntP (gtF ft st tn kd mn tw cx cy f0) g5))), (3, .ref r5), (2, .ref (fe f0)), (0, .ref x), (1, .int (nI f0))]) hx hb dX10_rankInTown_124 hl (k := 3) rfl (nI_add g5 1) (Nat.le_of_ble_eq_true rfl) rfl (fun ls hl => ?_)
                  refine lv_goto (tgt := 34) hx hb dX10_rankInTown_127 rfl ?_
                  have hl9 := lv_sub hl [0, 4, 5, 6, 7, 8] rfl
                  have e9_4 : nI (cntP (gtF ft st tn kd mn tw cx cy f0) (g5 + 1)) = (nI (cntP (gtF ft st tn kd mn tw cx cy f0) g5) : Int32) := by first | (rw [cntP_y hy9]; done) | (rw [cntP_n hn9]; first | done | rfl) | rfl
                  have hl9 : lv_has ls 9 [(5, .int (nI (g5 + 1))), (4, .int (nI (cntP (gtF ft st tn kd mn tw cx cy f0) (g5 + 1)))), (3, .ref r5), (2, .ref (fe f0)), (0, .ref x), (1, .int (nI f0))] := by rw [e9_4]; exact hl9
                  exact ih_34 (g5 + 1) H locs ls (by first | with_reducible assumption | omega) (by first | with_reducible assumption | omega) hP hD hS hl9
                · have c_13 : ((g5 : Nat) : Int) < ((f0 : Nat) : Int) := zc_nle (nI_toInt b9_15) (nI_toInt b9_14) c_13
                  have hy9 : gtF ft st tn kd mn tw cx cy f0 g5 := ⟨hif, hlv2, hA2.2, by omega, by unfold arF; rw [← ea2, ← ea5]; omega⟩
                  refine lv_iinc (v := nI ((cntP (gtF ft st tn kd mn tw cx cy f0) g5) + 1)) (lv' := [(4, .int (nI ((cntP (gtF ft st tn kd mn tw cx cy f0) g5) + 1))), (8, .int (iI (((Int.natAbs (ar2 (nN (mn g5)) U2 V2 (nN (mn g5))) : Nat) : Int) - ((Int.natAbs (ar2 (nN (mn f0)) X5 Y5 (nN (mn f0))) : Nat) : Int)))), (7, .ref r2), (6, .ref fe2), (5, .int (nI g5)), (3, .ref r5), (2, .ref (fe f0)), (0, .ref x), (1, .int (nI f0))]) hx hb dX10_rankInTown_121 hl (k := 4) rfl (nI_add (cntP (gtF ft st tn kd mn tw cx cy f0) g5) 1) (Nat.le_of_ble_eq_true rfl) rfl (fun ls hl => ?_)
                  obtain ⟨hP, hD⟩ := pl_bk (X := [_, _, _, _, _, _, _, _, _, _, _]) hT_2 hP rfl hc9_2 hD0_2 rfl
                  refine lv_iinc (v := nI (g5 + 1)) (lv' := [(5, .int (nI (g5 + 1))), (4, .int (nI ((cntP (gtF ft st tn kd mn tw cx cy f0) g5) + 1))), (8, .int (iI (((Int.natAbs (ar2 (nN (mn g5)) U2 V2 (nN (mn g5))) : Nat) : Int) - ((Int.natAbs (ar2 (nN (mn f0)) X5 Y5 (nN (mn f0))) : Nat) : Int)))), (7, .ref r2), (6, .ref fe2), (3, .ref r5), (2, .ref (fe f0)), (0, .ref x), (1, .int (nI f0))]) hx hb dX10_rankInTown_124 hl (k := 4) rfl (nI_add g5 1) (Nat.le_of_ble_eq_true rfl) rfl (fun ls hl => ?_)
                  refine lv_goto (tgt := 34) hx hb dX10_rankInTown_127 rfl ?_
                  have hl9 := lv_sub hl [0, 1, 5, 6, 7, 8] rfl
                  have e9_4 : nI (cntP (gtF ft st tn kd mn tw cx cy f0) (g5 + 1)) = (nI ((cntP (gtF ft st tn kd mn tw cx cy f0) g5) + 1) : Int32) := by first | (rw [cntP_y hy9]; done) | (rw [cntP_n hn9]; first | done | rfl) | rfl
                  have hl9 : lv_has ls 9 [(5, .int (nI (g5 + 1))), (4, .int (nI (cntP (gtF ft st tn kd mn tw cx cy f0) (g5 + 1)))), (3, .ref r5), (2, .ref (fe f0)), (0, .ref x), (1, .int (nI f0))] := by rw [e9_4]; exact hl9
                  exact ih_34 (g5 + 1) H locs ls (by first | with_reducible assumption | omega) (by first | with_reducible assumption | omega) hP hD hS hl9
          · have c_10 : ¬ (tw g5).toInt = (tw f0).toInt := zc_ne rfl rfl c_10
            refine lv_goto (tgt := 124) hx hb dX10_rankInTown_90 rfl ?_
            obtain ⟨hP, hD⟩ := pl_bk (X := [_, _, _, _, _, _, _, _, _, _, _]) hT_2 hP rfl hc9_2 hD0_2 rfl
            have hn9 : ¬ gtF ft st tn kd mn tw cx cy f0 g5 := fun h => by have h9 := h.2.2.2; unfold arF at h9; rw [← ea2, ← ea5] at h9; omega
            refine lv_iinc (v := nI (g5 + 1)) (lv' := [(5, .int (nI (g5 + 1))), (7, .ref r2), (6, .ref fe2), (4, .int (nI (cntP (gtF ft st tn kd mn tw cx cy f0) g5))), (3, .ref r5), (2, .ref (fe f0)), (0, .ref x), (1, .int (nI f0))]) hx hb dX10_rankInTown_124 hl (k := 2) rfl (nI_add g5 1) (Nat.le_of_ble_eq_true rfl) rfl (fun ls hl => ?_)
            refine lv_goto (tgt := 34) hx hb dX10_rankInTown_127 rfl ?_
            have hl9 := lv_sub hl [0, 3, 4, 5, 6, 7] rfl
            have e9_4 : nI (cntP (gtF ft st tn kd mn tw cx cy f0) (g5 + 1)) = (nI (cntP (gtF ft st tn kd mn tw cx cy f0) g5) : Int32) := by first | (rw [cntP_y hy9]; done) | (rw [cntP_n hn9]; first | done | rfl) | rfl
            have hl9 : lv_has ls 9 [(5, .int (nI (g5 + 1))), (4, .int (nI (cntP (gtF ft st tn kd mn tw cx cy f0) (g5 + 1)))), (3, .ref r5), (2, .ref (fe f0)), (0, .ref x), (1, .int (nI f0))] := by rw [e9_4]; exact hl9
            exact ih_34 (g5 + 1) H locs ls (by first | with_reducible assumption | omega) (by first | with_reducible assumption | omega) hP hD hS hl9
        · skip
          have hcap2 := hrr2.1
          have hcap3 := hrr2.2.1
          have hc9_2 : inPl T_1 f [(oc1 fe2 (rk g5) (wd g5) (tw g5) (pa g5) (pb g5) (.ref lo2) (.ref lk2) fm2), (oc4 lk2 (kd g5) (st g5) (.ref r2) (gb g5) (it g5) we2), (oc6 r2 (.ref rx2) (.ref ry2) (nI (nN (mn g5))) rg2), (oa rx2 cI cap2 U2), (oa ry2 cI cap2 V2)] := ⟨hfe2, hlk2, hr2, hrx2, hry2, trivial⟩
          have hD0_2 := hD
          obtain ⟨T_2, hT_2, hP, hD⟩ := pl_oT hP hD hc9_2 (pwR hfe2.2 hlk2.2 hr2.2 hrx2.2 hry2.2 hne2)
          obtain ⟨hP, hD⟩ := zre (W2 := ([_, _, _, _, _, _, _, _, _, _, _, _, _, _, _, _] ++ va_pl T_2 f)) hP hD rfl
          refine lv_aload_n hx hb dX10_rankInTown_46 rfl (lv_at hl 4 rfl) ?_
          refine va_get (D := (dC, dI)) (ci := 8) (v := .ref sh) (C := RX10) (T := TX10) (N := 13) hx hb hts inX10 hown hK hP 0 rfl rfl 0 (Nat.le_of_ble_eq_true rfl) (hts _ mw_309) (fun _ h9 => h9) rfl dX10_rankInTown_47 ?_
          refine lv_iload hx hb dX10_rankInTown_50 (lv_at hl 0 rfl) ?_
          obtain ⟨hPc, hDc, hFc, hI1⟩ := zi_sub (wc := [_, _]) hP hD hS hA [1, 2] rfl rfl
          refine zcall (st1 := [.ref fe2]) (va_runV (As := [.int (nI g5)]) (rest := []) ⟨hx, hb, hml, hown, hts⟩ (k_Sheet_find l dC dI cI cZ cF H.size sh fa ft FA g5 fe2 (by first | with_reducible assumption | omega) (by first | with_reducible assumption | omega) (by first | exact hFA2 | (rw [hif]; exact hAf f0 hf0))) (csV_94 hts rfl rfl ⟨Nat.le_of_ble_eq_true rfl, Nat.le_of_ble_eq_true rfl⟩) (zPV2 (q0 := 0) (ci := 7) hPc hDc hK hXN rfl rfl) rfl rfl hl.1 rfl (lv_room (Nat.le_of_ble_eq_true rfl)) dX10_rankInTown_52 ⟨Nat.le_of_ble_eq_true rfl, Nat.le_of_ble_eq_true rfl⟩) hS hFc hFc rfl (fun t H locs ht hB hk1 hS => ?_)
          obtain ⟨hP1, hD1⟩ := hB
          rw [ht] at hP1
          replace hP := z0 hP hD hk1 hP1 hI1
          clear hk1 hPc hDc hFc hP1 hD1 ht hI1
          refine lv_astore (lv' := [(6, .ref fe2), (5, .int (nI g5)), (4, .int (nI (cntP (gtF ft st tn kd mn tw cx cy f0) g5))), (3, .ref r5), (2, .ref (fe f0)), (0, .ref x), (1, .int (nI f0))]) hx hb dX10_rankInTown_55 hl (Nat.le_of_ble_eq_true rfl) rfl (fun ls hl => ?_)
          refine lv_aload_n hx hb dX10_rankInTown_57 rfl (lv_at hl 5 rfl) ?_
          refine va_get (D := (dC, dI)) (ci := 8) (v := .ref sh) (C := RX10) (T := TX10) (N := 13) hx hb hts inX10 hown hK hP 0 rfl rfl 0 (Nat.le_of_ble_eq_true rfl) (hts _ mw_309) (fun _ h9 => h9) rfl dX10_rankInTown_58 ?_
          refine lv_iload hx hb dX10_rankInTown_61 (lv_at hl 1 rfl) ?_
          obtain ⟨hPc, hDc, hFc, hI1⟩ := zi_sub (wc := [_, _, _, _]) hP hD hS hA [1, 2, 11, 12] (by decide +kernel) rfl
          refine zcall (st1 := [.null]) (va_runV (As := [.int (nI g5)]) (rest := []) ⟨hx, hb, hml, hown, hts⟩ (k_Sheet_houseThere_sv l dC dI cI cZ cF H.size sh fa ft FA g5 fe2 lo2 (rk g5) (wd g5) (tw g5) (pa g5) (pb g5) lk2 (kd g5) (st g5) (gb g5) (it g5) we2 fm2 (.ref r2) (by first | with_reducible assumption | omega) (by first | with_reducible assumption | omega) (by first | exact hFA2 | (rw [hif]; exact hAf f0 hf0)) (by first | exact hst | exact hA2.1 | exact hA2)) (csV_122 hts rfl rfl ⟨Nat.le_of_ble_eq_true rfl, Nat.le_of_ble_eq_true rfl⟩) (zPV2 (q0 := 0) (ci := 7) hPc hDc hK hXN rfl rfl) rfl rfl hl.1 rfl (lv_room (Nat.le_of_ble_eq_true rfl)) dX10_rankInTown_63 ⟨Nat.le_of_ble_eq_true rfl, Nat.le_of_ble_eq_true rfl⟩) hS hFc hFc rfl (fun t H locs ht hB hk1 hS => ?_)
          obtain ⟨hP1, hD1⟩ := hB
          rw [ht] at hP1
          replace hP := z0 hP hD hk1 hP1 hI1
          clear hk1 hPc hDc hFc hP1 hD1 ht hI1
          refine lv_astoreN (lv' := [(7, .null), (6, .ref fe2), (5, .int (nI g5)), (4, .int (nI (cntP (gtF ft st tn kd mn tw cx cy f0) g5))), (3, .ref r5), (2, .ref (fe f0)), (0, .ref x), (1, .int (nI f0))]) hx hb dX10_rankInTown_66 hl (Nat.le_of_ble_eq_true rfl) rfl (fun ls hl => ?_)
          refine lv_aload hx hb dX10_rankInTown_68 (lv_at hl 1 rfl) ?_
          refine lv_ifnull hx hb dX10_rankInTown_70 ?_
          refine lv_aloadN hx hb dX10_rankInTown_73 (lv_at hl 0 rfl) ?_
          refine lv_ifnullN (tgt := 124) hx hb dX10_rankInTown_75 rfl ?_
          obtain ⟨hP, hD⟩ := pl_bk (X := [_, _, _, _, _, _, _, _, _, _, _]) hT_2 hP rfl hc9_2 hD0_2 rfl
          have hn9 : ¬ gtF ft st tn kd mn tw cx cy f0 g5 := fun h => absurd ⟨h.2.1.2.1, h.2.2.1⟩ hA2
          refine lv_iinc (v := nI (g5 + 1)) (lv' := [(5, .int (nI (g5 + 1))), (7, .null), (6, .ref fe2), (4, .int (nI (cntP (gtF ft st tn kd mn tw cx cy f0) g5))), (3, .ref r5), (2, .ref (fe f0)), (0, .ref x), (1, .int (nI f0))]) hx hb dX10_rankInTown_124 hl (k := 2) rfl (nI_add g5 1) (Nat.le_of_ble_eq_true rfl) rfl (fun ls hl => ?_)
          refine lv_goto (tgt := 34) hx hb dX10_rankInTown_127 rfl ?_
          have hl9 := lv_sub hl [0, 3, 4, 5, 6, 7] rfl
          have e9_4 : nI (cntP (gtF ft st tn kd mn tw cx cy f0) (g5 + 1)) = (nI (cntP (gtF ft st tn kd mn tw cx cy f0) g5) : Int32) := by first | (rw [cntP_y hy9]; done) | (rw [cntP_n hn9]; first | done | rfl) | rfl
          have hl9 : lv_has ls 9 [(5, .int (nI (g5 + 1))), (4, .int (nI (cntP (gtF ft st tn kd mn tw cx cy f0) (g5 + 1)))), (3, .ref r5), (2, .ref (fe f0)), (0, .ref x), (1, .int (nI f0))] := by rw [e9_4]; exact hl9
          exact ih_34 (g5 + 1) H locs ls (by first | with_reducible assumption | omega) (by first | with_reducible assumption | omega) hP hD hS hl9
  have e9_4 : nI (cntP (gtF ft st tn kd mn tw cx cy f0) 0) = (0 : Int32) := by rfl
  have hl9 : lv_has ls 9 [(5, .int (nI 0)), (4, .int (nI (cntP (gtF ft st tn kd mn tw cx cy f0) 0))), (3, .ref r5), (2, .ref (fe f0)), (0, .ref x), (1, .int (nI f0))] := by rw [e9_4]; exact lv_sub hl [0, 1, 2, 3, 4, 5] rfl
  exact hl_34 _ 0 H locs ls (Nat.lt_succ_self _) (by first | with_reducible assumption | omega) hP hD hS hl9
end
section
/-! those marked go one by one -/
theorem gnA_o {P : Nat → Prop} {q g : Nat} {x : Int32} {k : Nat → Int32} (h : q ≤ g) : gnA P q x k g = k g := by unfold gnA; rw [if_neg (fun h2 => by omega)]
end
