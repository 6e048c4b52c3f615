section
set_option maxHeartbeats 4000000 in
set_option maxRecDepth 100000 in
theorem k_isClash_y (l : Launch) (dC : Nat → ClassId) (dI : Nat → Nat → Nat) (cI cZ cF : ClassId) (sz : Nat) (cO : ClassId) (e0 : Nat) (mi : Nat) (x : Nat) (sh : Nat) (lw : Nat) (ro : Nat) (bq : Nat) (bp : Nat) (dq : Nat) (dp : Nat) (lv : Nat) (sl : Nat) (sd : Int32) (ul : Int32) (su : Int32) (ea : Nat) (mc9 : Int32) (fa : Nat) (FA : Nat → Option Nat) (bs : Nat) (dn : Nat) (T : Nat) (ft : Nat) (FT : Nat → Nat) (V : Nat → Nat → Nat → Int32) (VX : Nat → Nat → Int32) (VY : Nat → Nat → Int32) (tn : Nat → Int32) (rk : Nat → Int32) (wd : Nat → Int32) (tw : Nat → Int32) (pa : Nat → Int32) (pb : Nat → Int32) (wh : Nat → Int32) (of9 : Nat → Int32) (we : Nat → Int32) (kd : Nat → Int32) (st : Nat → Int32) (gb : Nat → Int32) (it : Nat → Int32) (mn : Nat → Int32) (cx : Nat → Int32) (cy : Nat → Int32) (L : List Nat) (f : Nat → va_E) (f0 : Nat) (g0 : Nat) (c1 : Int32) (c2 : Int32) (c3 : Int32) (c4 : Int32) (a1 : Int32) (a2 : Int32) (a3 : Int32) (a4 : Int32) (y1 : Int64) (y2 : Int64) (gp9 : Int32) (hB : shB cI cO L f e0 FA ea bs dn T ft FT V VX VY tn rk wd tw pa pb wh of9 we kd st gb it mn cx cy) (hf0 : f0 < ft) (hg0 : g0 < ft) (hgf : g0 ≠ f0) (hwf : ∀ q, lvF ft st tn q → wfM mn cx cy q) (hkn : okN ft st tn kd mn) (hgp : 0 ≤ gp9.toInt ∧ gp9.toInt ≤ 200) (hwd : ∀ q, q < ft → 0 ≤ (wd q).toInt ∧ (wd q).toInt ≤ 100) : zML l yX10_isClash cX10_isClash 9 (some .boolean) ({ frames := 4, cells := 0, slots := 0, locals := 104 } : Room) [.ref x, .int (nI f0), .int (nI g0), .int gp9] (dC, dI) (zTyO cI cZ cF cO) e0 mi ([(oc8 x (.ref sh) (.ref lw) (.ref ro) (.ref bq) (.ref bp) (.ref dq) (.ref dp) (.ref lv) (.ref sl) (nI dn) sd ul su), (oc10 sl mc9 (.ref ea) (nI T)), (oc0 bq c1 c2 c3 c4), (oc0 bp a1 a2 a3 a4), (oc2 dq y1 y2), (oc7 sh (.ref fa) (nI ft)), (oq fa cF 200 FA)] ++ va_pl L f) sz (some (.int (pI (clP ft st tn kd mn cx cy wd gp9 f0 g0)))) (fun A t => ∃ (c5 : Int32), ∃ (c6 : Int32), ∃ (c7 : Int32), ∃ (c8 : Int32), ∃ (a5 : Int32), ∃ (a6 : Int32), ∃ (a7 : Int32), ∃ (a8 : Int32), ∃ (y5 : Int64), ∃ (y6 : Int64), zPD (dC, dI) classes A ([(oc8 x (.ref sh) (.ref lw) (.ref ro) (.ref bq) (.ref bp) (.ref dq) (.ref dp) (.ref lv) (.ref sl) (nI dn) sd ul su), (oc10 sl mc9 (.ref ea) (nI T)), (oc0 bq c5 c6 c7 c8), (oc0 bp a5 a6 a7 a8), (oc2 dq y5 y6), (oc7 sh (.ref fa) (nI ft)), (oq fa cF 200 FA)] ++ va_pl L f) t.heap) 0 0 := by
  refine zInL (own := "ScaleShop") (loc := [(0, .ref x), (1, .int (nI f0)), (2, .int (nI g0)), (3, .int gp9)]) rfl rfl rfl rfl (fun p e s m below meth c hx hb hr hts hown hlocks hml hnm9 A hA hS hP hD hK hXL hXN hK3 Q9 hQ9 ls hl => ?_)
  have hva := shB_va hB
  obtain ⟨own, fe, cl, la, sp, SA, hG9, hH9, hft9⟩ := hB
  obtain ⟨hG, hM, hdT, hT5⟩ := M_0 hG9 hH9 hft9
  have h200 : ft ≤ 200 := hG.2.2.2.2.2.1.2.2.2.2.2
  have hFA9 := hG.2.2.2.2.2.2
  by_cases hb9 : lvF ft st tn f0 ∧ lvF ft st tn g0
  · skip
    obtain ⟨hlv, hlg⟩ := hb9
    have htn := hlv.2.2
    have htg := hlg.2.2
    have hst := hlv.2.1
    have hsg := hlg.2.1
    obtain ⟨lo5, lx5, ly5, ln5, LX5, LY5, we5, r5, rx5, ry5, cap5, X5, Y5, hc5⟩ := sh_fc hG.1 hG.2.1 (Nat.le_refl _) hf0 htn
    have hc5 := fc_0 hc5
    have hb5 := hc5.2.2.1
    have hb6 := hc5.2.1
    obtain ⟨lo6, lx6, ly6, ln6, LX6, LY6, we6, r6, rx6, ry6, cap6, X6, Y6, hc6⟩ := sh_fc hG.1 hG.2.1 (Nat.le_refl _) hg0 htg
    have hc6 := fc_0 hc6
    have hb7 := hc6.2.2.1
    have hb8 := hc6.2.1
    have hwf0 := hwf f0 hlv
    have hwfg := hwf g0 hlg
    have hw1 := hwf0.2.1
    have hw2 := hwfg.2.1
    have hkn0 := hkn f0 hlv
    have hkng := hkn g0 hlg
    have hX5 := hc5.2.2.2.2.1
    have hX6 := hc6.2.2.2.2.1
    have hp5 := (pls_cg hX5).mpr hwf0.2.2
    have hp6 := (pls_cg hX6).mpr hwfg.2.2
    have hc9_1 : inPl L f [(oc1 (fe f0) (rk f0) (wd f0) (tw f0) (pa f0) (pb f0) (.ref lo5) (.ref (la dn f0)) .null), (oc4 (la dn f0) (kd f0) (st f0) (.ref r5) (gb f0) (it f0) (nI we5)), (oc6 r5 (.ref rx5) (.ref ry5) (nI (nN (mn f0))) (rgK (kd f0).toInt)), (oa rx5 cI cap5 X5), (oa ry5 cI cap5 Y5), (oc6 lo5 (.ref lx5) (.ref ly5) (nI ln5) 0), (oa lx5 cI (cl f0) LX5), (oa ly5 cI (cl f0) LY5), (oc1 (fe g0) (rk g0) (wd g0) (tw g0) (pa g0) (pb g0) (.ref lo6) (.ref (la dn g0)) .null), (oc4 (la dn g0) (kd g0) (st g0) (.ref r6) (gb g0) (it g0) (nI we6)), (oc6 r6 (.ref rx6) (.ref ry6) (nI (nN (mn g0))) (rgK (kd g0).toInt)), (oa rx6 cI cap6 X6), (oa ry6 cI cap6 Y6), (oc6 lo6 (.ref lx6) (.ref ly6) (nI ln6) 0), (oa lx6 cI (cl g0) LX6), (oa ly6 cI (cl g0) LY6)] := ⟨ce_pl hc5.1.1, ce_pl hc5.1.2.1, ce_pl hc5.1.2.2.1.1, ce_pl hc5.1.2.2.1.2.1, ce_pl hc5.1.2.2.1.2.2.1, ce_pl hc5.1.2.2.2.1, ce_pl hc5.1.2.2.2.2.1, ce_pl hc5.1.2.2.2.2.2.1, ce_pl hc6.1.1, ce_pl hc6.1.2.1, ce_pl hc6.1.2.2.1.1, ce_pl hc6.1.2.2.1.2.1, ce_pl hc6.1.2.2.1.2.2.1, ce_pl hc6.1.2.2.2.1, ce_pl hc6.1.2.2.2.2.1, ce_pl hc6.1.2.2.2.2.2.1, trivial⟩
    have hD0_1 := hD
    obtain ⟨hP, hD⟩ := pl_out hP hD [(oc1 (fe f0) (rk f0) (wd f0) (tw f0) (pa f0) (pb f0) (.ref lo5) (.ref (la dn f0)) .null), (oc4 (la dn f0) (kd f0) (st f0) (.ref r5) (gb f0) (it f0) (nI we5)), (oc6 r5 (.ref rx5) (.ref ry5) (nI (nN (mn f0))) (rgK (kd f0).toInt)), (oa rx5 cI cap5 X5), (oa ry5 cI cap5 Y5), (oc6 lo5 (.ref lx5) (.ref ly5) (nI ln5) 0), (oa lx5 cI (cl f0) LX5), (oa ly5 cI (cl f0) LY5), (oc1 (fe g0) (rk g0) (wd g0) (tw g0) (pa g0) (pb g0) (.ref lo6) (.ref (la dn g0)) .null), (oc4 (la dn g0) (kd g0) (st g0) (.ref r6) (gb g0) (it g0) (nI we6)), (oc6 r6 (.ref rx6) (.ref ry6) (nI (nN (mn g0))) (rgK (kd g0).toInt)), (oa rx6 cI cap6 X6), (oa ry6 cI cap6 Y6), (oc6 lo6 (.ref lx6) (.ref ly6) (nI ln6) 0), (oa lx6 cI (cl g0) LX6), (oa ly6 cI (cl g0) LY6)] hc9_1 (pw_ap (own := own) (p := g0) (A := [(oc1 (fe f0) (rk f0) (wd f0) (tw f0) (pa f0) (pb f0) (.ref lo5) (.ref (la dn f0)) .null), (oc4 (la dn f0) (kd f0) (st f0) (.ref r5) (gb f0) (it f0) (nI we5)), (oc6 r5 (.ref rx5) (.ref ry5) (nI (nN (mn f0))) (rgK (kd f0).toInt)), (oa rx5 cI cap5 X5), (oa ry5 cI cap5 Y5), (oc6 lo5 (.ref lx5) (.ref ly5) (nI ln5) 0), (oa lx5 cI (cl f0) LX5), (oa ly5 cI (cl f0) LY5)]) (B := [(oc1 (fe g0) (rk g0) (wd g0) (tw g0) (pa g0) (pb g0) (.ref lo6) (.ref (la dn g0)) .null), (oc4 (la dn g0) (kd g0) (st g0) (.ref r6) (gb g0) (it g0) (nI we6)), (oc6 r6 (.ref rx6) (.ref ry6) (nI (nN (mn g0))) (rgK (kd g0).toInt)), (oa rx6 cI cap6 X6), (oa ry6 cI cap6 Y6), (oc6 lo6 (.ref lx6) (.ref ly6) (nI ln6) 0), (oa lx6 cI (cl g0) LX6), (oa ly6 cI (cl g0) LY6)]) (pw8 hc5 (by omega)) (pw8 hc6 (by omega)) (fc_ne hc5 (by omega) (by omega) hgf) (fun r hr => fc_ne hc6 (by omega) (by omega) hr))
    generalize hT_1 : outPl L [(oc1 (fe f0) (rk f0) (wd f0) (tw f0) (pa f0) (pb f0) (.ref lo5) (.ref (la dn f0)) .null), (oc4 (la dn f0) (kd f0) (st f0) (.ref r5) (gb f0) (it f0) (nI we5)), (oc6 r5 (.ref rx5) (.ref ry5) (nI (nN (mn f0))) (rgK (kd f0).toInt)), (oa rx5 cI cap5 X5), (oa ry5 cI cap5 Y5), (oc6 lo5 (.ref lx5) (.ref ly5) (nI ln5) 0), (oa lx5 cI (cl f0) LX5), (oa ly5 cI (cl f0) LY5), (oc1 (fe g0) (rk g0) (wd g0) (tw g0) (pa g0) (pb g0) (.ref lo6) (.ref (la dn g0)) .null), (oc4 (la dn g0) (kd g0) (st g0) (.ref r6) (gb g0) (it g0) (nI we6)), (oc6 r6 (.ref rx6) (.ref ry6) (nI (nN (mn g0))) (rgK (kd g0).toInt)), (oa rx6 cI cap6 X6), (oa ry6 cI cap6 Y6), (oc6 lo6 (.ref lx6) (.ref ly6) (nI ln6) 0), (oa lx6 cI (cl g0) LX6), (oa ly6 cI (cl g0) LY6)] = T_1 at hP hD
    obtain ⟨hP, hD⟩ := zre (W2 := ([_, _, _, _, _, _, _, _, _, _, _, _, _, _, _, _, _, _, _, _, _, _, _] ++ va_pl T_1 f)) hP hD rfl
    refine lv_aload_n hx hb dX10_isClash_0 rfl (lv_at hl 0 rfl) ?_
    refine va_get (D := (dC, dI)) (ci := 8) (v := .ref sh) (C := RX10) (T := TX10) (N := 13) hx hb hts inX10 hown hK hP 0 rfl rfl 0 (by decide) (hts _ mw_309) (fun _ h9 => h9) rfl dX10_isClash_1 ?_
    refine lv_iload_n hx hb dX10_isClash_4 rfl (lv_at hl 1 rfl) ?_
    obtain ⟨hPc, hDc, hFc⟩ := zc_sub (wc := [(oc7 sh (.ref fa) (nI ft)), (oq fa cF 200 FA)]) hP hD hS hA [5, 6] (by decide) rfl
    refine zcall (st1 := [.ref (fe f0)]) (va_runV (As := [.int (nI f0)]) (rest := []) ⟨hx, hb, hml, hown, hts⟩ (k_Sheet_find l dC dI cI cZ cF s.heap.size sh fa ft FA f0 (fe f0) (by omega) (by omega) (by first | exact hFA2 | exact hFA9 f0 (by omega))) (csV_94 hts rfl rfl ⟨Nat.le_of_ble_eq_true rfl, Nat.le_of_ble_eq_true rfl⟩) (zPV2 (q0 := 0) (ci := 7) hPc hDc hK3 hXN rfl rfl) rfl rfl hl.1 rfl (lv_room (Nat.le_of_ble_eq_true rfl)) dX10_isClash_5 ⟨Nat.le_of_ble_eq_true rfl, Nat.le_of_ble_eq_true rfl⟩) hS hFc hFc rfl (fun t H locs ht hB hk1 hS => ?_)
    obtain ⟨hP1, hD1⟩ := hB
    rw [ht] at hP1
    obtain ⟨hP, hD⟩ := zkQ (W2 := [_, _, _, _, _, _, _, _, _, _, _, _, _, _, _, _, _, _, _, _, _, _, _]) hP hD [5, 6] [0, 1, 2, 3, 4, 7, 8, 9, 10, 11, 12, 13, 14, 15, 16, 17, 18, 19, 20, 21, 22] [0, 1, 2, 3, 4, 7, 8, 9, 10, 11, 12, 13, 14, 15, 16, 17, 18, 19, 20, 21, 22] [5, 6] [0, 1, 2, 3, 4, 21, 22, 5, 6, 7, 8, 9, 10, 11, 12, 13, 14, 15, 16, 17, 18, 19, 20] 23 rfl rfl rfl rfl rfl rfl rfl rfl rfl hk1 hFc hP1 hD1
    clear hk1 hPc hDc hFc hP1 hD1 ht
    refine lv_astore (lv' := [(4, .ref (fe f0)), (0, .ref x), (1, .int (nI f0)), (2, .int (nI g0)), (3, .int gp9)]) hx hb dX10_isClash_8 hl (by decide) rfl (fun ls hl => ?_)
    refine lv_aload_n hx hb dX10_isClash_10 rfl (lv_at hl 1 rfl) ?_
    refine va_get (D := (dC, dI)) (ci := 8) (v := .ref sh) (C := RX10) (T := TX10) (N := 13) hx hb hts inX10 hown hK hP 0 rfl rfl 0 (by decide) (hts _ mw_309) (fun _ h9 => h9) rfl dX10_isClash_11 ?_
    refine lv_iload_n hx hb dX10_isClash_14 rfl (lv_at hl 3 rfl) ?_
    obtain ⟨hPc, hDc, hFc⟩ := zc_sub (wc := [(oc7 sh (.ref fa) (nI ft)), (oq fa cF 200 FA)]) hP hD hS hA [5, 6] (by decide) rfl
    refine zcall (st1 := [.ref (fe g0)]) (va_runV (As := [.int (nI g0)]) (rest := []) ⟨hx, hb, hml, hown, hts⟩ (k_Sheet_find l dC dI cI cZ cF H.size sh fa ft FA g0 (fe g0) (by omega) (by omega) (by first | exact hFA3 | exact hFA9 g0 (by omega))) (csV_94 hts rfl rfl ⟨Nat.le_of_ble_eq_true rfl, Nat.le_of_ble_eq_true rfl⟩) (zPV2 (q0 := 0) (ci := 7) hPc hDc hK3 hXN rfl rfl) rfl rfl hl.1 rfl (lv_room (Nat.le_of_ble_eq_true rfl)) dX10_isClash_15 ⟨Nat.le_of_ble_eq_true rfl, Nat.le_of_ble_eq_true rfl⟩) hS hFc hFc rfl (fun t H locs ht hB hk1 hS => ?_)
    obtain ⟨hP1, hD1⟩ := hB
    rw [ht] at hP1
    obtain ⟨hP, hD⟩ := zkQ (W2 := [_, _, _, _, _, _, _, _, _, _, _, _, _, _, _, _, _, _, _, _, _, _, _]) hP hD [5, 6] [0, 1, 2, 3, 4, 7, 8, 9, 10, 11, 12, 13, 14, 15, 16, 17, 18, 19, 20, 21, 22] [0, 1, 2, 3, 4, 7, 8, 9, 10, 11, 12, 13, 14, 15, 16, 17, 18, 19, 20, 21, 22] [5, 6] [0, 1, 2, 3, 4, 21, 22, 5, 6, 7, 8, 9, 10, 11, 12, 13, 14, 15, 16, 17, 18, 19, 20] 23 rfl rfl rfl rfl rfl rfl rfl rfl rfl hk1 hFc hP1 hD1
    clear hk1 hPc hDc hFc hP1 hD1 ht
    refine lv_astore (lv' := [(5, .ref (fe g0)), (4, .ref (fe f0)), (0, .ref x), (1, .int (nI f0)), (2, .int (nI g0)), (3, .int gp9)]) hx hb dX10_isClash_18 hl (by decide) rfl (fun ls hl => ?_)
    refine lv_aload_n hx hb dX10_isClash_20 rfl (lv_at hl 2 rfl) ?_
    refine va_get (D := (dC, dI)) (ci := 8) (v := .ref sh) (C := RX10) (T := TX10) (N := 13) hx hb hts inX10 hown hK hP 0 rfl rfl 0 (by decide) (hts _ mw_309) (fun _ h9 => h9) rfl dX10_isClash_21 ?_
    refine lv_iload_n hx hb dX10_isClash_24 rfl (lv_at hl 3 rfl) ?_
    obtain ⟨hPc, hDc, hFc⟩ := zc_sub (wc := [(oc7 sh (.ref fa) (nI ft)), (oq fa cF 200 FA), (oc1 (fe f0) (rk f0) (wd f0) (tw f0) (pa f0) (pb f0) (.ref lo5) (.ref (la dn f0)) .null), (oc4 (la dn f0) (kd f0) (st f0) (.ref r5) (gb f0) (it f0) (nI we5))]) hP hD hS hA [5, 6, 7, 8] (by decide) rfl
    refine zcall (st1 := [.ref r5]) (va_runV (As := [.int (nI f0)]) (rest := []) ⟨hx, hb, hml, hown, hts⟩ (k_Sheet_rowThere_yv l dC dI cI cZ cF H.size sh fa ft FA f0 (fe f0) lo5 (rk f0) (wd f0) (tw f0) (pa f0) (pb f0) (la dn f0) (kd f0) (st f0) (gb f0) (it f0) (nI we5) r5 (.null) (by omega) (by omega) (by first | exact hFA2 | exact hFA9 f0 (by omega)) (by first | exact hst | exact hA2 | omega)) (csV_144 hts rfl rfl ⟨Nat.le_of_ble_eq_true rfl, Nat.le_of_ble_eq_true rfl⟩) (zPV2 (q0 := 0) (ci := 7) hPc hDc hK3 hXN rfl rfl) rfl rfl hl.1 rfl (lv_room (Nat.le_of_ble_eq_true rfl)) dX10_isClash_25 ⟨Nat.le_of_ble_eq_true rfl, Nat.le_of_ble_eq_true rfl⟩) hS hFc hFc rfl (fun t H locs ht hB hk1 hS => ?_)
    obtain ⟨hP1, hD1⟩ := hB
    rw [ht] at hP1
    obtain ⟨hP, hD⟩ := zkQ (W2 := [_, _, _, _, _, _, _, _, _, _, _, _, _, _, _, _, _, _, _, _, _, _, _]) hP hD [5, 6, 7, 8] [0, 1, 2, 3, 4, 9, 10, 11, 12, 13, 14, 15, 16, 17, 18, 19, 20, 21, 22] [0, 1, 2, 3, 4, 9, 10, 11, 12, 13, 14, 15, 16, 17, 18, 19, 20, 21, 22] [5, 6, 7, 8] [0, 1, 2, 3, 4, 19, 20, 21, 22, 5, 6, 7, 8, 9, 10, 11, 12, 13, 14, 15, 16, 17, 18] 23 rfl rfl rfl rfl rfl rfl rfl rfl rfl hk1 hFc hP1 hD1
    clear hk1 hPc hDc hFc hP1 hD1 ht
    refine lv_astore (lv' := [(6, .ref r5), (5, .ref (fe g0)), (4, .ref (fe f0)), (0, .ref x), (1, .int (nI f0)), (2, .int (nI g0)), (3, .int gp9)]) hx hb dX10_isClash_28 hl (by decide) rfl (fun ls hl => ?_)
    refine lv_aload_n hx hb dX10_isClash_30 rfl (lv_at hl 3 rfl) ?_
    refine va_get (D := (dC, dI)) (ci := 8) (v := .ref sh) (C := RX10) (T := TX10) (N := 13) hx hb hts inX10 hown hK hP 0 rfl rfl 0 (by decide) (hts _ mw_309) (fun _ h9 => h9) rfl dX10_isClash_31 ?_
    refine lv_iload_n hx hb dX10_isClash_34 rfl (lv_at hl 5 rfl) ?_
    obtain ⟨hPc, hDc, hFc⟩ := zc_sub (wc := [(oc7 sh (.ref fa) (nI ft)), (oq fa cF 200 FA), (oc1 (fe g0) (rk g0) (wd g0) (tw g0) (pa g0) (pb g0) (.ref lo6) (.ref (la dn g0)) .null), (oc4 (la dn g0) (kd g0) (st g0) (.ref r6) (gb g0) (it g0) (nI we6))]) hP hD hS hA [5, 6, 15, 16] (by decide) rfl
    refine zcall (st1 := [.ref r6]) (va_runV (As := [.int (nI g0)]) (rest := []) ⟨hx, hb, hml, hown, hts⟩ (k_Sheet_rowThere_yv l dC dI cI cZ cF H.size sh fa ft FA g0 (fe g0) lo6 (rk g0) (wd g0) (tw g0) (pa g0) (pb g0) (la dn g0) (kd g0) (st g0) (gb g0) (it g0) (nI we6) r6 (.null) (by omega) (by omega) (by first | exact hFA3 | exact hFA9 g0 (by omega)) (by first | exact hsg | exact hA3 | omega)) (csV_144 hts rfl rfl ⟨Nat.le_of_ble_eq_true rfl, Nat.le_of_ble_eq_true rfl⟩) (zPV2 (q0 := 0) (ci := 7) hPc hDc hK3 hXN rfl rfl) rfl rfl hl.1 rfl (lv_room (Nat.le_of_ble_eq_true rfl)) dX10_isClash_35 ⟨Nat.le_of_ble_eq_true rfl, Nat.le_of_ble_eq_true rfl⟩) hS hFc hFc rfl (fun t H locs ht hB hk1 hS => ?_)
    obtain ⟨hP1, hD1⟩ := hB
    rw [ht] at hP1
    obtain ⟨hP, hD⟩ := zkQ (W2 := [_, _, _, _, _, _, _, _, _, _, _, _, _, _, _, _, _, _, _, _, _, _, _]) hP hD [5, 6, 15, 16] [0, 1, 2, 3, 4, 7, 8, 9, 10, 11, 12, 13, 14, 17, 18, 19, 20, 21, 22] [0, 1, 2, 3, 4, 7, 8, 9, 10, 11, 12, 13, 14, 17, 18, 19, 20, 21, 22] [5, 6, 15, 16] [0, 1, 2, 3, 4, 19, 20, 5, 6, 7, 8, 9, 10, 11, 12, 21, 22, 13, 14, 15, 16, 17, 18] 23 rfl rfl rfl rfl rfl rfl rfl rfl rfl hk1 hFc hP1 hD1
    clear hk1 hPc hDc hFc hP1 hD1 ht
    refine lv_astore (lv' := [(7, .ref r6), (6, .ref r5), (5, .ref (fe g0)), (4, .ref (fe f0)), (0, .ref x), (1, .int (nI f0)), (2, .int (nI g0)), (3, .int gp9)]) hx hb dX10_isClash_38 hl (by decide) rfl (fun ls hl => ?_)
    refine lv_aload hx hb dX10_isClash_40 (lv_at hl 3 rfl) ?_
    refine lv_ifnull hx hb dX10_isClash_42 ?_
    refine lv_aload hx hb dX10_isClash_45 (lv_at hl 2 rfl) ?_
    refine lv_ifnull hx hb dX10_isClash_47 ?_
    refine lv_aload hx hb dX10_isClash_50 (lv_at hl 1 rfl) ?_
    refine lv_ifnull hx hb dX10_isClash_52 ?_
    refine lv_aload hx hb dX10_isClash_55 (lv_at hl 0 rfl) ?_
    refine lv_ifnonnull (tgt := 62) hx hb dX10_isClash_57 (by decide) ?_
    obtain ⟨R9, hR9⟩ : ∃ R9 : Int, R9 = rch wd gp9 f0 g0 := ⟨_, rfl⟩
    have hwd1 := hwd f0 hf0
    have hwd2 := hwd g0 hg0
    have hRb : 0 ≤ R9 ∧ R9 ≤ 600 := (by rw [hR9]; unfold rch; omega)
    have hRR : 0 ≤ R9 * R9 ∧ R9 * R9 ≤ 360000 := ⟨sqZ, Int.mul_le_mul hRb.2 hRb.2 hRb.1 (by omega)⟩
    have hti := jtch_iff hw1.1 hw2.1 hX5 hX6 hkn0 hkng
    refine lv_aload hx hb dX10_isClash_62 (lv_at hl 3 rfl) ?_
    refine va_get (D := (dC, dI)) (ci := 1) (v := .int (wd f0)) (C := RX2) (T := TX2) (N := 8) hx hb hts inX2 hown hK hP 7 rfl rfl 1 (by decide) (hts _ mw_419) (fun _ h9 => h9) rfl dX10_isClash_64 ?_
    refine lv_aload hx hb dX10_isClash_67 (lv_at hl 2 rfl) ?_
    refine va_get (D := (dC, dI)) (ci := 1) (v := .int (wd g0)) (C := RX2) (T := TX2) (N := 8) hx hb hts inX2 hown hK hP 15 rfl rfl 1 (by decide) (hts _ mw_419) (fun _ h9 => h9) rfl dX10_isClash_69 ?_
    refine lv_iadd hx hb dX10_isClash_72 ?_
    refine lv_iconst (v := 2) hx hb dX10_isClash_73 (by decide) ?_
    refine lv_iload_n hx hb dX10_isClash_74 rfl (lv_at hl 7 rfl) ?_
    refine lv_imul hx hb dX10_isClash_75 ?_
    refine lv_iadd hx hb dX10_isClash_76 ?_
    refine zz_i (v := iI R9) (rch_i hR9 hwd1 hwd2 hgp) ?_
    refine lv_istore (lv' := [(8, .int (iI R9)), (7, .ref r6), (6, .ref r5), (5, .ref (fe g0)), (4, .ref (fe f0)), (0, .ref x), (1, .int (nI f0)), (2, .int (nI g0)), (3, .int gp9)]) hx hb dX10_isClash_77 hl (by decide) rfl (fun ls hl => ?_)
    refine lv_aload_n hx hb dX10_isClash_79 rfl (lv_at hl 5 rfl) ?_
    refine va_get (D := (dC, dI)) (ci := 8) (v := .ref bq) (C := RX10) (T := TX10) (N := 13) hx hb hts inX10 hown hK hP 0 rfl rfl 3 (by decide) (hts _ mw_312) (fun _ h9 => h9) rfl dX10_isClash_80 ?_
    refine lv_aload hx hb dX10_isClash_83 (lv_at hl 2 rfl) ?_
    obtain ⟨hPc, hDc, hFc⟩ := zc_sub (wc := [(oc0 bq c1 c2 c3 c4), (oc6 r5 (.ref rx5) (.ref ry5) (nI (nN (mn f0))) (rgK (kd f0).toInt)), (oa rx5 cI cap5 X5), (oa ry5 cI cap5 Y5)]) hP hD hS hA [2, 9, 10, 11] (by decide) rfl
    refine zcall (st1 := []) (va_runV (As := [.ref r5]) (rest := []) ⟨hx, hb, hml, hown, hts⟩ (k_Box_cover l dC dI cI cZ cF H.size bq c1 c2 c3 c4 r5 rx5 ry5 (nN (mn f0)) cap5 X5 Y5 (rgK (kd f0).toInt) (by omega) (by omega) ((pls_nr hp5).1) ((pls_nr hp5).2) (by omega)) (csV_129 hts rfl rfl ⟨Nat.le_of_ble_eq_true rfl, Nat.le_of_ble_eq_true rfl⟩) (zPV2 (q0 := 0) (ci := 0) hPc hDc hK3 hXN rfl rfl) rfl rfl hl.1 rfl (lv_room (Nat.le_of_ble_eq_true rfl)) dX10_isClash_85 ⟨Nat.le_of_ble_eq_true rfl, Nat.le_of_ble_eq_true rfl⟩) hS hFc hFc rfl (fun t H locs ht hB hk1 hS => ?_)
    obtain ⟨hP1, hD1⟩ := hB
    rw [ht] at hP1
    obtain ⟨hP, hD⟩ := zkQ (W2 := [_, _, (oc0 bq (iI (mnI (X5 0).toInt X5 (nN (mn f0)))) (iI (mnI (Y5 0).toInt Y5 (nN (mn f0)))) (iI (mxI (X5 0).toInt X5 (nN (mn f0)))) (iI (mxI (Y5 0).toInt Y5 (nN (mn f0))))), _, _, _, _, _, _, _, _, _, _, _, _, _, _, _, _, _, _, _, _]) hP hD [2, 9, 10, 11] [0, 1, 3, 4, 5, 6, 7, 8, 12, 13, 14, 15, 16, 17, 18, 19, 20, 21, 22] [0, 1, 3, 4, 5, 6, 7, 8, 12, 13, 14, 15, 16, 17, 18, 19, 20, 21, 22] [2, 9, 10, 11] [0, 1, 19, 2, 3, 4, 5, 6, 7, 20, 21, 22, 8, 9, 10, 11, 12, 13, 14, 15, 16, 17, 18] 23 rfl rfl rfl rfl rfl rfl rfl rfl rfl hk1 hFc hP1 hD1
    clear hk1 hPc hDc hFc hP1 hD1 ht
    refine lv_aload_n hx hb dX10_isClash_88 rfl (lv_at hl 5 rfl) ?_
    refine va_get (D := (dC, dI)) (ci := 8) (v := .ref bp) (C := RX10) (T := TX10) (N := 13) hx hb hts inX10 hown hK hP 0 rfl rfl 4 (by decide) (hts _ mw_313) (fun _ h9 => h9) rfl dX10_isClash_89 ?_
    refine lv_aload hx hb dX10_isClash_92 (lv_at hl 1 rfl) ?_
    obtain ⟨hPc, hDc, hFc⟩ := zc_sub (wc := [(oc0 bp a1 a2 a3 a4), (oc6 r6 (.ref rx6) (.ref ry6) (nI (nN (mn g0))) (rgK (kd g0).toInt)), (oa rx6 cI cap6 X6), (oa ry6 cI cap6 Y6)]) hP hD hS hA [3, 17, 18, 19] (by decide) rfl
    refine zcall (st1 := []) (va_runV (As := [.ref r6]) (rest := []) ⟨hx, hb, hml, hown, hts⟩ (k_Box_cover l dC dI cI cZ cF H.size bp a1 a2 a3 a4 r6 rx6 ry6 (nN (mn g0)) cap6 X6 Y6 (rgK (kd g0).toInt) (by omega) (by omega) ((pls_nr hp6).1) ((pls_nr hp6).2) (by omega)) (csV_129 hts rfl rfl ⟨Nat.le_of_ble_eq_true rfl, Nat.le_of_ble_eq_true rfl⟩) (zPV2 (q0 := 0) (ci := 0) hPc hDc hK3 hXN rfl rfl) rfl rfl hl.1 rfl (lv_room (Nat.le_of_ble_eq_true rfl)) dX10_isClash_94 ⟨Nat.le_of_ble_eq_true rfl, Nat.le_of_ble_eq_true rfl⟩) hS hFc hFc rfl (fun t H locs ht hB hk1 hS => ?_)
    obtain ⟨hP1, hD1⟩ := hB
    rw [ht] at hP1
    obtain ⟨hP, hD⟩ := zkQ (W2 := [_, _, _, (oc0 bp (iI (mnI (X6 0).toInt X6 (nN (mn g0)))) (iI (mnI (Y6 0).toInt Y6 (nN (mn g0)))) (iI (mxI (X6 0).toInt X6 (nN (mn g0)))) (iI (mxI (Y6 0).toInt Y6 (nN (mn g0))))), _, _, _, _, _, _, _, _, _, _, _, _, _, _, _, _, _, _, _]) hP hD [3, 17, 18, 19] [0, 1, 2, 4, 5, 6, 7, 8, 9, 10, 11, 12, 13, 14, 15, 16, 20, 21, 22] [0, 1, 2, 4, 5, 6, 7, 8, 9, 10, 11, 12, 13, 14, 15, 16, 20, 21, 22] [3, 17, 18, 19] [0, 1, 2, 19, 3, 4, 5, 6, 7, 8, 9, 10, 11, 12, 13, 14, 15, 20, 21, 22, 16, 17, 18] 23 rfl rfl rfl rfl rfl rfl rfl rfl rfl hk1 hFc hP1 hD1
    clear hk1 hPc hDc hFc hP1 hD1 ht
    obtain ⟨S9, hS9⟩ : ∃ S9 : Int, S9 = (gp (mnI (X5 0).toInt X5 (nN (mn f0))) (mxI (X5 0).toInt X5 (nN (mn f0))) (mnI (X6 0).toInt X6 (nN (mn g0))) (mxI (X6 0).toInt X6 (nN (mn g0)))) * (gp (mnI (X5 0).toInt X5 (nN (mn f0))) (mxI (X5 0).toInt X5 (nN (mn f0))) (mnI (X6 0).toInt X6 (nN (mn g0))) (mxI (X6 0).toInt X6 (nN (mn g0)))) + (gp (mnI (Y5 0).toInt Y5 (nN (mn f0))) (mxI (Y5 0).toInt Y5 (nN (mn f0))) (mnI (Y6 0).toInt Y6 (nN (mn g0))) (mxI (Y6 0).toInt Y6 (nN (mn g0)))) * (gp (mnI (Y5 0).toInt Y5 (nN (mn f0))) (mxI (Y5 0).toInt Y5 (nN (mn f0))) (mnI (Y6 0).toInt Y6 (nN (mn g0))) (mxI (Y6 0).toInt Y6 (nN (mn g0)))) := ⟨_, rfl⟩
    have hSb : 0 ≤ S9 ∧ S9 ≤ 2000000 := (by rw [hS9]; have a1 := bx_k (n := (nN (mn f0))) (m := (nN (mn g0))) (X := X5) (U := X6) (hp5 0 (by omega)).1 (hp6 0 (by omega)).1; have a2 := bx_k (n := (nN (mn f0))) (m := (nN (mn g0))) (X := Y5) (U := Y6) (hp5 0 (by omega)).2 (hp6 0 (by omega)).2; have a3 := sqZ (u := gp (mnI (X5 0).toInt X5 (nN (mn f0))) (mxI (X5 0).toInt X5 (nN (mn f0))) (mnI (X6 0).toInt X6 (nN (mn g0))) (mxI (X6 0).toInt X6 (nN (mn g0)))); have a4 := sqZ (u := gp (mnI (Y5 0).toInt Y5 (nN (mn f0))) (mxI (Y5 0).toInt Y5 (nN (mn f0))) (mnI (Y6 0).toInt Y6 (nN (mn g0))) (mxI (Y6 0).toInt Y6 (nN (mn g0)))); omega)
    refine lv_iconst (v := 4) hx hb dX10_isClash_97 (by decide) ?_
    refine lv_aload_n hx hb dX10_isClash_98 rfl (lv_at hl 5 rfl) ?_
    refine va_get (D := (dC, dI)) (ci := 8) (v := .ref bq) (C := RX10) (T := TX10) (N := 13) hx hb hts inX10 hown hK hP 0 rfl rfl 3 (by decide) (hts _ mw_312) (fun _ h9 => h9) rfl dX10_isClash_99 ?_
    refine lv_aload_n hx hb dX10_isClash_102 rfl (lv_at hl 5 rfl) ?_
    refine va_get (D := (dC, dI)) (ci := 8) (v := .ref bp) (C := RX10) (T := TX10) (N := 13) hx hb hts inX10 hown hK hP 0 rfl rfl 4 (by decide) (hts _ mw_313) (fun _ h9 => h9) rfl dX10_isClash_103 ?_
    obtain ⟨hPc, hDc, hFc⟩ := zc_sub (wc := [(oc0 bq (iI (mnI (X5 0).toInt X5 (nN (mn f0)))) (iI (mnI (Y5 0).toInt Y5 (nN (mn f0)))) (iI (mxI (X5 0).toInt X5 (nN (mn f0)))) (iI (mxI (Y5 0).toInt Y5 (nN (mn f0))))), (oc0 bp (iI (mnI (X6 0).toInt X6 (nN (mn g0)))) (iI (mnI (Y6 0).toInt Y6 (nN (mn g0)))) (iI (mxI (X6 0).toInt X6 (nN (mn g0)))) (iI (mxI (Y6 0).toInt Y6 (nN (mn g0)))))]) hP hD hS hA [2, 3] (by decide) rfl
    refine zcall (st1 := [.int (iI ((gp (mnI (X5 0).toInt X5 (nN (mn f0))) (mxI (X5 0).toInt X5 (nN (mn f0))) (mnI (X6 0).toInt X6 (nN (mn g0))) (mxI (X6 0).toInt X6 (nN (mn g0)))) * (gp (mnI (X5 0).toInt X5 (nN (mn f0))) (mxI (X5 0).toInt X5 (nN (mn f0))) (mnI (X6 0).toInt X6 (nN (mn g0))) (mxI (X6 0).toInt X6 (nN (mn g0)))) + (gp (mnI (Y5 0).toInt Y5 (nN (mn f0))) (mxI (Y5 0).toInt Y5 (nN (mn f0))) (mnI (Y6 0).toInt Y6 (nN (mn g0))) (mxI (Y6 0).toInt Y6 (nN (mn g0)))) * (gp (mnI (Y5 0).toInt Y5 (nN (mn f0))) (mxI (Y5 0).toInt Y5 (nN (mn f0))) (mnI (Y6 0).toInt Y6 (nN (mn g0))) (mxI (Y6 0).toInt Y6 (nN (mn g0)))))), .int 4]) (va_runV (As := [.ref bp]) (rest := [.int 4]) ⟨hx, hb, hml, hown, hts⟩ (k_Box_squareApart l dC dI cI cZ cF H.size bq (mnI (X5 0).toInt X5 (nN (mn f0))) (mnI (Y5 0).toInt Y5 (nN (mn f0))) (mxI (X5 0).toInt X5 (nN (mn f0))) (mxI (Y5 0).toInt Y5 (nN (mn f0))) bp (mnI (X6 0).toInt X6 (nN (mn g0))) (mnI (Y6 0).toInt Y6 (nN (mn g0))) (mxI (X6 0).toInt X6 (nN (mn g0))) (mxI (Y6 0).toInt Y6 (nN (mn g0))) (⟨mnB ((pls_nr hp5).1 0 (by omega)) (pls_nr hp5).1 _ (Nat.le_refl _), mnB ((pls_nr hp5).2 0 (by omega)) (pls_nr hp5).2 _ (Nat.le_refl _), mxB ((pls_nr hp5).1 0 (by omega)) (pls_nr hp5).1 _ (Nat.le_refl _), mxB ((pls_nr hp5).2 0 (by omega)) (pls_nr hp5).2 _ (Nat.le_refl _)⟩) (⟨mnB ((pls_nr hp6).1 0 (by omega)) (pls_nr hp6).1 _ (Nat.le_refl _), mnB ((pls_nr hp6).2 0 (by omega)) (pls_nr hp6).2 _ (Nat.le_refl _), mxB ((pls_nr hp6).1 0 (by omega)) (pls_nr hp6).1 _ (Nat.le_refl _), mxB ((pls_nr hp6).2 0 (by omega)) (pls_nr hp6).2 _ (Nat.le_refl _)⟩)) (csV_157 hts rfl rfl ⟨Nat.le_of_ble_eq_true rfl, Nat.le_of_ble_eq_true rfl⟩) (zPV2 (q0 := 0) (ci := 0) hPc hDc hK3 hXN rfl rfl) rfl rfl hl.1 rfl (lv_room (Nat.le_of_ble_eq_true rfl)) dX10_isClash_106 ⟨Nat.le_of_ble_eq_true rfl, Nat.le_of_ble_eq_true rfl⟩) hS hFc hFc rfl (fun t H locs ht hB hk1 hS => ?_)
    obtain ⟨hP1, hD1⟩ := hB
    rw [ht] at hP1
    obtain ⟨hP, hD⟩ := zkQ (W2 := [_, _, _, _, _, _, _, _, _, _, _, _, _, _, _, _, _, _, _, _, _, _, _]) hP hD [2, 3] [0, 1, 4, 5, 6, 7, 8, 9, 10, 11, 12, 13, 14, 15, 16, 17, 18, 19, 20, 21, 22] [0, 1, 4, 5, 6, 7, 8, 9, 10, 11, 12, 13, 14, 15, 16, 17, 18, 19, 20, 21, 22] [2, 3] [0, 1, 21, 22, 2, 3, 4, 5, 6, 7, 8, 9, 10, 11, 12, 13, 14, 15, 16, 17, 18, 19, 20] 23 rfl rfl rfl rfl rfl rfl rfl rfl rfl hk1 hFc hP1 hD1
    clear hk1 hPc hDc hFc hP1 hD1 ht
    refine zz_i (v := iI S9) (congrArg iI hS9.symm) ?_
    refine lv_imul hx hb dX10_isClash_109 ?_
    refine zz_i (v := iI (4 * S9)) (i4_ml (by omega)) ?_
    refine lv_iload hx hb dX10_isClash_110 (lv_at hl 0 rfl) ?_
    refine lv_iload hx hb dX10_isClash_112 (lv_at hl 0 rfl) ?_
    refine lv_imul hx hb dX10_isClash_114 ?_
    refine zz_i (v := iI (R9 * R9)) (iI_sq (by omega)) ?_
    refine lv_icmp_lt (tgt := 120) hx hb dX10_isClash_115 (by decide) (fun c_1 => ?_) (fun c_1 => ?_)
    · have c_1 : (4 * S9) < (R9 * R9) := zc_lt (iI_toInt (by omega)) (iI_toInt (by omega)) c_1
      by_cases htc : ∃ i, i < prt (nN (mn f0)) (rgK (kd f0).toInt) ∧ ∃ j, j < prt (nN (mn g0)) (rgK (kd g0).toInt) ∧ eMt (nN (mn f0)) X5 Y5 i (nN (mn g0)) X6 Y6 j
      · skip
        refine lv_aload_n hx hb dX10_isClash_120 rfl (lv_at hl 5 rfl) ?_
        refine va_get (D := (dC, dI)) (ci := 8) (v := .ref dq) (C := RX10) (T := TX10) (N := 13) hx hb hts inX10 hown hK hP 0 rfl rfl 5 (by decide) (hts _ mw_314) (fun _ h9 => h9) rfl dX10_isClash_121 ?_
        refine lv_aload hx hb dX10_isClash_124 (lv_at hl 2 rfl) ?_
        refine lv_aload hx hb dX10_isClash_126 (lv_at hl 1 rfl) ?_
        obtain ⟨hPc, hDc, hFc⟩ := zc_sub (wc := [(oc2 dq y1 y2), (oc6 r5 (.ref rx5) (.ref ry5) (nI (nN (mn f0))) (rgK (kd f0).toInt)), (oa rx5 cI cap5 X5), (oa ry5 cI cap5 Y5), (oc6 r6 (.ref rx6) (.ref ry6) (nI (nN (mn g0))) (rgK (kd g0).toInt)), (oa rx6 cI cap6 X6), (oa ry6 cI cap6 Y6)]) hP hD hS hA [4, 9, 10, 11, 17, 18, 19] (by decide) rfl
        refine zcall (st1 := []) (va_runV (As := [.ref r5, .ref r6]) (rest := []) ⟨hx, hb, hml, hown, hts⟩ (k_Fr_between_m l dC dI cI cZ cF H.size dq y1 y2 r5 rx5 ry5 (nN (mn f0)) cap5 X5 Y5 (rgK (kd f0).toInt) r6 rx6 ry6 (nN (mn g0)) cap6 X6 Y6 (rgK (kd g0).toInt) (by omega) (by omega) (hp5) (by omega) (by omega) (hp6) (htc)) (csV_127 hts rfl rfl ⟨Nat.le_of_ble_eq_true rfl, Nat.le_of_ble_eq_true rfl⟩) (zPV2 (q0 := 0) (ci := 2) hPc hDc hK3 hXN rfl rfl) rfl rfl hl.1 rfl (lv_room (Nat.le_of_ble_eq_true rfl)) dX10_isClash_128 ⟨Nat.le_of_ble_eq_true rfl, Nat.le_of_ble_eq_true rfl⟩) hS hFc hFc rfl (fun t H locs ht hB hk1 hS => ?_)
        obtain ⟨hP1, hD1⟩ := hB
        rw [ht] at hP1
        obtain ⟨hP, hD⟩ := zkQ (W2 := [_, _, _, _, (oc2 dq (jI 0) (jI 1)), _, _, _, _, _, _, _, _, _, _, _, _, _, _, _, _, _, _]) hP hD [4, 9, 10, 11, 17, 18, 19] [0, 1, 2, 3, 5, 6, 7, 8, 12, 13, 14, 15, 16, 20, 21, 22] [0, 1, 2, 3, 5, 6, 7, 8, 12, 13, 14, 15, 16, 20, 21, 22] [4, 9, 10, 11, 17, 18, 19] [0, 1, 2, 3, 16, 4, 5, 6, 7, 17, 18, 19, 8, 9, 10, 11, 12, 20, 21, 22, 13, 14, 15] 23 rfl rfl rfl rfl rfl rfl rfl rfl rfl hk1 hFc hP1 hD1
        clear hk1 hPc hDc hFc hP1 hD1 ht
        have hcl0 : ¬ clP ft st tn kd mn cx cy wd gp9 f0 g0 := fun h => h.2.2.1 (hti.mp htc)
        refine lv_aload_n hx hb dX10_isClash_131 rfl (lv_at hl 5 rfl) ?_
        refine va_get (D := (dC, dI)) (ci := 8) (v := .ref dq) (C := RX10) (T := TX10) (N := 13) hx hb hts inX10 hown hK hP 0 rfl rfl 5 (by decide) (hts _ mw_314) (fun _ h9 => h9) rfl dX10_isClash_132 ?_
        refine va_get (D := (dC, dI)) (ci := 2) (v := .long (jI 0)) (C := RX3) (T := TX3) (N := 2) hx hb hts inX3 hown hK hP 4 rfl rfl 0 (by decide) (hts _ mw_274) (fun _ h9 => h9) rfl dX10_isClash_135 ?_
        refine lv_lconst (v := 0) hx hb dX10_isClash_138 (by decide) ?_
        refine W.lcmp hx hb dX10_isClash_139 ?_
        refine lv_if_le (tgt := 159) hx hb dX10_isClash_140 (by decide) (fun c_2 => ?_) (fun c_2 => ?_)
        · have c_2 : (0 : Int) ≤ (0 : Int) := zl_le (jI_toInt (by omega)) (by decide) c_2
          refine lv_iconst (v := 0) hx hb dX10_isClash_159 (by decide) ?_
          obtain ⟨hP, hD⟩ := pl_bk (X := [_, _, _, _, _, _, _]) hT_1 hP rfl hc9_1 hD0_1 rfl
          obtain ⟨hP9, hD9⟩ := zq_part (cx := [(oc8 x (.ref sh) (.ref lw) (.ref ro) (.ref bq) (.ref bp) (.ref dq) (.ref dp) (.ref lv) (.ref sl) (nI dn) sd ul su), (oc10 sl mc9 (.ref ea) (nI T)), (oc0 bq (iI (mnI (X5 0).toInt X5 (nN (mn f0)))) (iI (mnI (Y5 0).toInt Y5 (nN (mn f0)))) (iI (mxI (X5 0).toInt X5 (nN (mn f0)))) (iI (mxI (Y5 0).toInt Y5 (nN (mn f0))))), (oc0 bp (iI (mnI (X6 0).toInt X6 (nN (mn g0)))) (iI (mnI (Y6 0).toInt Y6 (nN (mn g0)))) (iI (mxI (X6 0).toInt X6 (nN (mn g0)))) (iI (mxI (Y6 0).toInt Y6 (nN (mn g0))))), (oc2 dq (jI 0) (jI 1)), (oc7 sh (.ref fa) (nI ft)), (oq fa cF 200 FA)]) hP hD [0, 1, 2, 3, 4, 5, 6] (by decide) rfl
          rw [hQ9]
          exact W.zret (ty := .boolean) (v := 0) hx hb hr (rfl) (fun t ht hW => ⟨⟨congrArg (fun z => Outcome.returned (some (Value.int z))) (show (0 : Int32) = pI (clP ft st tn kd mn cx cy wd gp9 f0 g0) from (zp_f (by first | exact hcl9.mpr (by assumption) | exact fun h => absurd (hcl9.mp h) (by assumption) | exact hcl0 | (exfalso; omega))).symm), (iI (mnI (X5 0).toInt X5 (nN (mn f0)))), (iI (mnI (Y5 0).toInt Y5 (nN (mn f0)))), (iI (mxI (X5 0).toInt X5 (nN (mn f0)))), (iI (mxI (Y5 0).toInt Y5 (nN (mn f0)))), (iI (mnI (X6 0).toInt X6 (nN (mn g0)))), (iI (mnI (Y6 0).toInt Y6 (nN (mn g0)))), (iI (mxI (X6 0).toInt X6 (nN (mn g0)))), (iI (mxI (Y6 0).toInt Y6 (nN (mn g0)))), (jI 0), (jI 1), by rw [ht]; exact hP9, hD9⟩, hS.F ht⟩) hS.2.2 dX10_isClash_160
        · have c_2 : (0 : Int) < (0 : Int) := zl_nle (jI_toInt (by omega)) (by decide) c_2
          refine lv_aload_n hx hb dX10_isClash_143 rfl (lv_at hl 5 rfl) ?_
          refine va_get (D := (dC, dI)) (ci := 8) (v := .ref dq) (C := RX10) (T := TX10) (N := 13) hx hb hts inX10 hown hK hP 0 rfl rfl 5 (by decide) (hts _ mw_314) (fun _ h9 => h9) rfl dX10_isClash_144 ?_
          refine lv_iload hx hb dX10_isClash_147 (lv_at hl 0 rfl) ?_
          obtain ⟨hPc, hDc, hFc⟩ := zc_sub (wc := [(oc2 dq (jI 0) (jI 1))]) hP hD hS hA [4] (by decide) rfl
          refine zcall (st1 := [.int (pI (4 * 0 < (iI R9).toInt * (iI R9).toInt * 1))]) (va_runV (As := [.int (iI R9)]) (rest := []) ⟨hx, hb, hml, hown, hts⟩ (k_Fr_isHalfBelow l dC dI cI cZ cF H.size dq 0 1 (iI R9) (by omega) (by omega) (by rw [iI_toInt (by omega)]; omega)) (csV_158 hts rfl rfl ⟨Nat.le_of_ble_eq_true rfl, Nat.le_of_ble_eq_true rfl⟩) (zPV2 (q0 := 0) (ci := 2) hPc hDc hK3 hXN rfl rfl) rfl rfl hl.1 rfl (lv_room (Nat.le_of_ble_eq_true rfl)) dX10_isClash_149 ⟨Nat.le_of_ble_eq_true rfl, Nat.le_of_ble_eq_true rfl⟩) hS hFc hFc rfl (fun t H locs ht hB hk1 hS => ?_)
          obtain ⟨hP1, hD1⟩ := hB
          rw [ht] at hP1
          obtain ⟨hP, hD⟩ := zkQ (W2 := [_, _, _, _, _, _, _, _, _, _, _, _, _, _, _, _, _, _, _, _, _, _, _]) hP hD [4] [0, 1, 2, 3, 5, 6, 7, 8, 9, 10, 11, 12, 13, 14, 15, 16, 17, 18, 19, 20, 21, 22] [0, 1, 2, 3, 5, 6, 7, 8, 9, 10, 11, 12, 13, 14, 15, 16, 17, 18, 19, 20, 21, 22] [4] [0, 1, 2, 3, 22, 4, 5, 6, 7, 8, 9, 10, 11, 12, 13, 14, 15, 16, 17, 18, 19, 20, 21] 23 rfl rfl rfl rfl rfl rfl rfl rfl rfl hk1 hFc hP1 hD1
          clear hk1 hPc hDc hFc hP1 hD1 ht
          refine lv_if_eq (tgt := 159) hx hb dX10_isClash_152 (by decide) (fun c_3 => ?_) (fun c_3 => ?_)
          · have c_3 : ¬ (4 * 0 < (iI R9).toInt * (iI R9).toInt * 1) := zp_0 c_3
            refine lv_iconst (v := 0) hx hb dX10_isClash_159 (by decide) ?_
            obtain ⟨hP, hD⟩ := pl_bk (X := [_, _, _, _, _, _, _]) hT_1 hP rfl hc9_1 hD0_1 rfl
            obtain ⟨hP9, hD9⟩ := zq_part (cx := [(oc8 x (.ref sh) (.ref lw) (.ref ro) (.ref bq) (.ref bp) (.ref dq) (.ref dp) (.ref lv) (.ref sl) (nI dn) sd ul su), (oc10 sl mc9 (.ref ea) (nI T)), (oc0 bq (iI (mnI (X5 0).toInt X5 (nN (mn f0)))) (iI (mnI (Y5 0).toInt Y5 (nN (mn f0)))) (iI (mxI (X5 0).toInt X5 (nN (mn f0)))) (iI (mxI (Y5 0).toInt Y5 (nN (mn f0))))), (oc0 bp (iI (mnI (X6 0).toInt X6 (nN (mn g0)))) (iI (mnI (Y6 0).toInt Y6 (nN (mn g0)))) (iI (mxI (X6 0).toInt X6 (nN (mn g0)))) (iI (mxI (Y6 0).toInt Y6 (nN (mn g0))))), (oc2 dq (jI 0) (jI 1)), (oc7 sh (.ref fa) (nI ft)), (oq fa cF 200 FA)]) hP hD [0, 1, 2, 3, 4, 5, 6] (by decide) rfl
            rw [hQ9]
            exact W.zret (ty := .boolean) (v := 0) hx hb hr (rfl) (fun t ht hW => ⟨⟨congrArg (fun z => Outcome.returned (some (Value.int z))) (show (0 : Int32) = pI (clP ft st tn kd mn cx cy wd gp9 f0 g0) from (zp_f (by first | exact hcl9.mpr (by assumption) | exact fun h => absurd (hcl9.mp h) (by assumption) | exact hcl0 | (exfalso; omega))).symm), (iI (mnI (X5 0).toInt X5 (nN (mn f0)))), (iI (mnI (Y5 0).toInt Y5 (nN (mn f0)))), (iI (mxI (X5 0).toInt X5 (nN (mn f0)))), (iI (mxI (Y5 0).toInt Y5 (nN (mn f0)))), (iI (mnI (X6 0).toInt X6 (nN (mn g0)))), (iI (mnI (Y6 0).toInt Y6 (nN (mn g0)))), (iI (mxI (X6 0).toInt X6 (nN (mn g0)))), (iI (mxI (Y6 0).toInt Y6 (nN (mn g0)))), (jI 0), (jI 1), by rw [ht]; exact hP9, hD9⟩, hS.F ht⟩) hS.2.2 dX10_isClash_160
          · have c_3 : 4 * 0 < (iI R9).toInt * (iI R9).toInt * 1 := zp_1 c_3
            refine lv_iconst (v := 1) hx hb dX10_isClash_155 (by decide) ?_
            refine lv_goto (tgt := 160) hx hb dX10_isClash_156 (by decide) ?_
            obtain ⟨hP, hD⟩ := pl_bk (X := [_, _, _, _, _, _, _]) hT_1 hP rfl hc9_1 hD0_1 rfl
            obtain ⟨hP9, hD9⟩ := zq_part (cx := [(oc8 x (.ref sh) (.ref lw) (.ref ro) (.ref bq) (.ref bp) (.ref dq) (.ref dp) (.ref lv) (.ref sl) (nI dn) sd ul su), (oc10 sl mc9 (.ref ea) (nI T)), (oc0 bq (iI (mnI (X5 0).toInt X5 (nN (mn f0)))) (iI (mnI (Y5 0).toInt Y5 (nN (mn f0)))) (iI (mxI (X5 0).toInt X5 (nN (mn f0)))) (iI (mxI (Y5 0).toInt Y5 (nN (mn f0))))), (oc0 bp (iI (mnI (X6 0).toInt X6 (nN (mn g0)))) (iI (mnI (Y6 0).toInt Y6 (nN (mn g0)))) (iI (mxI (X6 0).toInt X6 (nN (mn g0)))) (iI (mxI (Y6 0).toInt Y6 (nN (mn g0))))), (oc2 dq (jI 0) (jI 1)), (oc7 sh (.ref fa) (nI ft)), (oq fa cF 200 FA)]) hP hD [0, 1, 2, 3, 4, 5, 6] (by decide) rfl
            rw [hQ9]
            exact W.zret (ty := .boolean) (v := 1) hx hb hr (rfl) (fun t ht hW => ⟨⟨congrArg (fun z => Outcome.returned (some (Value.int z))) (show (1 : Int32) = pI (clP ft st tn kd mn cx cy wd gp9 f0 g0) from (zp_t (by first | exact hcl9.mpr (by assumption) | exact fun h => absurd (hcl9.mp h) (by assumption) | exact hcl0 | (exfalso; omega))).symm), (iI (mnI (X5 0).toInt X5 (nN (mn f0)))), (iI (mnI (Y5 0).toInt Y5 (nN (mn f0)))), (iI (mxI (X5 0).toInt X5 (nN (mn f0)))), (iI (mxI (Y5 0).toInt Y5 (nN (mn f0)))), (iI (mnI (X6 0).toInt X6 (nN (mn g0)))), (iI (mnI (Y6 0).toInt Y6 (nN (mn g0)))), (iI (mxI (X6 0).toInt X6 (nN (mn g0)))), (iI (mxI (Y6 0).toInt Y6 (nN (mn g0)))), (jI 0), (jI 1), by rw [ht]; exact hP9, hD9⟩, hS.F ht⟩) hS.2.2 dX10_isClash_160
      · skip
        refine lv_aload_n hx hb dX10_isClash_120 rfl (lv_at hl 5 rfl) ?_
        refine va_get (D := (dC, dI)) (ci := 8) (v := .ref dq) (C := RX10) (T := TX10) (N := 13) hx hb hts inX10 hown hK hP 0 rfl rfl 5 (by decide) (hts _ mw_314) (fun _ h9 => h9) rfl dX10_isClash_121 ?_
        refine lv_aload hx hb dX10_isClash_124 (lv_at hl 2 rfl) ?_
        refine lv_aload hx hb dX10_isClash_126 (lv_at hl 1 rfl) ?_
        obtain ⟨hPc, hDc, hFc⟩ := zc_sub (wc := [(oc2 dq y1 y2), (oc6 r5 (.ref rx5) (.ref ry5) (nI (nN (mn f0))) (rgK (kd f0).toInt)), (oa rx5 cI cap5 X5), (oa ry5 cI cap5 Y5), (oc6 r6 (.ref rx6) (.ref ry6) (nI (nN (mn g0))) (rgK (kd g0).toInt)), (oa rx6 cI cap6 X6), (oa ry6 cI cap6 Y6)]) hP hD hS hA [4, 9, 10, 11, 17, 18, 19] (by decide) rfl
        refine zcall (st1 := []) (va_runV (As := [.ref r5, .ref r6]) (rest := []) ⟨hx, hb, hml, hown, hts⟩ (k_Fr_between_n l dC dI cI cZ cF H.size dq y1 y2 r5 rx5 ry5 (nN (mn f0)) cap5 X5 Y5 (rgK (kd f0).toInt) r6 rx6 ry6 (nN (mn g0)) cap6 X6 Y6 (rgK (kd g0).toInt) (by omega) (by omega) (hp5) (by omega) (by omega) (hp6) (htc) (by omega) (by omega) (prt_1 hkn0) (prt_1 hkng)) (csV_127 hts rfl rfl ⟨Nat.le_of_ble_eq_true rfl, Nat.le_of_ble_eq_true rfl⟩) (zPV2 (q0 := 0) (ci := 2) hPc hDc hK3 hXN rfl rfl) rfl rfl hl.1 rfl (lv_room (Nat.le_of_ble_eq_true rfl)) dX10_isClash_128 ⟨Nat.le_of_ble_eq_true rfl, Nat.le_of_ble_eq_true rfl⟩) hS hFc hFc rfl (fun t H locs ht hB hk1 hS => ?_)
        obtain ⟨zu7, zd7, him7, hzb7, hP1, hD1⟩ := hB
        rw [ht] at hP1
        obtain ⟨hP, hD⟩ := zkQ (W2 := [_, _, _, _, (oc2 dq (jI zu7) (jI zd7)), _, _, _, _, _, _, _, _, _, _, _, _, _, _, _, _, _, _]) hP hD [4, 9, 10, 11, 17, 18, 19] [0, 1, 2, 3, 5, 6, 7, 8, 12, 13, 14, 15, 16, 20, 21, 22] [0, 1, 2, 3, 5, 6, 7, 8, 12, 13, 14, 15, 16, 20, 21, 22] [4, 9, 10, 11, 17, 18, 19] [0, 1, 2, 3, 16, 4, 5, 6, 7, 17, 18, 19, 8, 9, 10, 11, 12, 20, 21, 22, 13, 14, 15] 23 rfl rfl rfl rfl rfl rfl rfl rfl rfl hk1 hFc hP1 hD1
        clear hk1 hPc hDc hFc hP1 hD1 ht
        obtain ⟨un7, hun7⟩ := Int.eq_ofNat_of_zero_le (show 0 ≤ zu7 by omega)
        obtain ⟨dd7, hdd7⟩ := Int.eq_ofNat_of_zero_le (show 0 ≤ zd7 by omega)
        subst hun7
        subst hdd7
        have him8 := bt_IM hX5 hX6 hkn0 hkng him7
        have hnm : ¬ mtF (kd f0).toInt (nN (mn f0)) (cF40 cx f0) (cF40 cy f0) (kd g0).toInt (nN (mn g0)) (cF40 cx g0) (cF40 cy g0) := fun h => htc (hti.mpr h)
        have hpo8 := dc_pos him8 (by omega) hnm
        have hcl9 : clP ft st tn kd mn cx cy wd gp9 f0 g0 ↔ 4 * ((un7 : Nat) : Int) < (iI R9).toInt * (iI R9).toInt * ((dd7 : Nat) : Int) := (by rw [iI_toInt (by omega), hR9]; exact clP_iff hlv hlg hnm (by omega) him8)
        obtain ⟨hP, hD⟩ := zre (W2 := ([_, _, _, _, _, _, _, _, _, _, _, _, _, _, _, _, _, _, _, _, _, _, _] ++ va_pl T_1 f)) hP hD rfl
        refine lv_aload_n hx hb dX10_isClash_131 rfl (lv_at hl 5 rfl) ?_
        refine va_get (D := (dC, dI)) (ci := 8) (v := .ref dq) (C := RX10) (T := TX10) (N := 13) hx hb hts inX10 hown hK hP 0 rfl rfl 5 (by decide) (hts _ mw_314) (fun _ h9 => h9) rfl dX10_isClash_132 ?_
        refine va_get (D := (dC, dI)) (ci := 2) (v := .long (jI ((un7 : Nat) : Int))) (C := RX3) (T := TX3) (N := 2) hx hb hts inX3 hown hK hP 4 rfl rfl 0 (by decide) (hts _ mw_274) (fun _ h9 => h9) rfl dX10_isClash_135 ?_
        refine lv_lconst (v := 0) hx hb dX10_isClash_138 (by decide) ?_
        refine W.lcmp hx hb dX10_isClash_139 ?_
        refine lv_if_le (tgt := 159) hx hb dX10_isClash_140 (by decide) (fun c_4 => ?_) (fun c_4 => ?_)
        · have c_4 : ((un7 : Nat) : Int) ≤ 0 := zl_le (jI_toInt (by omega)) (by decide) c_4
          refine lv_iconst (v := 0) hx hb dX10_isClash_159 (by decide) ?_
          obtain ⟨hP, hD⟩ := pl_bk (X := [_, _, _, _, _, _, _]) hT_1 hP rfl hc9_1 hD0_1 rfl
          obtain ⟨hP9, hD9⟩ := zq_part (cx := [(oc8 x (.ref sh) (.ref lw) (.ref ro) (.ref bq) (.ref bp) (.ref dq) (.ref dp) (.ref lv) (.ref sl) (nI dn) sd ul su), (oc10 sl mc9 (.ref ea) (nI T)), (oc0 bq (iI (mnI (X5 0).toInt X5 (nN (mn f0)))) (iI (mnI (Y5 0).toInt Y5 (nN (mn f0)))) (iI (mxI (X5 0).toInt X5 (nN (mn f0)))) (iI (mxI (Y5 0).toInt Y5 (nN (mn f0))))), (oc0 bp (iI (mnI (X6 0).toInt X6 (nN (mn g0)))) (iI (mnI (Y6 0).toInt Y6 (nN (mn g0)))) (iI (mxI (X6 0).toInt X6 (nN (mn g0)))) (iI (mxI (Y6 0).toInt Y6 (nN (mn g0))))), (oc2 dq (jI ((un7 : Nat) : Int)) (jI ((dd7 : Nat) : Int))), (oc7 sh (.ref fa) (nI ft)), (oq fa cF 200 FA)]) hP hD [0, 1, 2, 3, 4, 5, 6] (by decide) rfl
          rw [hQ9]
          exact W.zret (ty := .boolean) (v := 0) hx hb hr (rfl) (fun t ht hW => ⟨⟨congrArg (fun z => Outcome.returned (some (Value.int z))) (show (0 : Int32) = pI (clP ft st tn kd mn cx cy wd gp9 f0 g0) from (zp_f (by first | exact hcl9.mpr (by assumption) | exact fun h => absurd (hcl9.mp h) (by assumption) | exact hcl0 | (exfalso; omega))).symm), (iI (mnI (X5 0).toInt X5 (nN (mn f0)))), (iI (mnI (Y5 0).toInt Y5 (nN (mn f0)))), (iI (mxI (X5 0).toInt X5 (nN (mn f0)))), (iI (mxI (Y5 0).toInt Y5 (nN (mn f0)))), (iI (mnI (X6 0).toInt X6 (nN (mn g0)))), (iI (mnI (Y6 0).toInt Y6 (nN (mn g0)))), (iI (mxI (X6 0).toInt X6 (nN (mn g0)))), (iI (mxI (Y6 0).toInt Y6 (nN (mn g0)))), (jI ((un7 : Nat) : Int)), (jI ((dd7 : Nat) : Int)), by rw [ht]; exact hP9, hD9⟩, hS.F ht⟩) hS.2.2 dX10_isClash_160
        · have c_4 : 0 < ((un7 : Nat) : Int) := zl_nle (jI_toInt (by omega)) (by decide) c_4
          refine lv_aload_n hx hb dX10_isClash_143 rfl (lv_at hl 5 rfl) ?_
          refine va_get (D := (dC, dI)) (ci := 8) (v := .ref dq) (C := RX10) (T := TX10) (N := 13) hx hb hts inX10 hown hK hP 0 rfl rfl 5 (by decide) (hts _ mw_314) (fun _ h9 => h9) rfl dX10_isClash_144 ?_
          refine lv_iload hx hb dX10_isClash_147 (lv_at hl 0 rfl) ?_
          obtain ⟨hPc, hDc, hFc⟩ := zc_sub (wc := [(oc2 dq (jI ((un7 : Nat) : Int)) (jI ((dd7 : Nat) : Int)))]) hP hD hS hA [4] (by decide) rfl
          refine zcall (st1 := [.int (pI (4 * ((un7 : Nat) : Int) < (iI R9).toInt * (iI R9).toInt * ((dd7 : Nat) : Int)))]) (va_runV (As := [.int (iI R9)]) (rest := []) ⟨hx, hb, hml, hown, hts⟩ (k_Fr_isHalfBelow l dC dI cI cZ cF H.size dq ((un7 : Nat) : Int) ((dd7 : Nat) : Int) (iI R9) (by omega) (by omega) (by rw [iI_toInt (by omega)]; omega)) (csV_158 hts rfl rfl ⟨Nat.le_of_ble_eq_true rfl, Nat.le_of_ble_eq_true rfl⟩) (zPV2 (q0 := 0) (ci := 2) hPc hDc hK3 hXN rfl rfl) rfl rfl hl.1 rfl (lv_room (Nat.le_of_ble_eq_true rfl)) dX10_isClash_149 ⟨Nat.le_of_ble_eq_true rfl, Nat.le_of_ble_eq_true rfl⟩) hS hFc hFc rfl (fun t H locs ht hB hk1 hS => ?_)
          obtain ⟨hP1, hD1⟩ := hB
          rw [ht] at hP1
          obtain ⟨hP, hD⟩ := zkQ (W2 := [_, _, _, _, _, _, _, _, _, _, _, _, _, _, _, _, _, _, _, _, _, _, _]) hP hD [4] [0, 1, 2, 3, 5, 6, 7, 8, 9, 10, 11, 12, 13, 14, 15, 16, 17, 18, 19, 20, 21, 22] [0, 1, 2, 3, 5, 6, 7, 8, 9, 10, 11, 12, 13, 14, 15, 16, 17, 18, 19, 20, 21, 22] [4] [0, 1, 2, 3, 22, 4, 5, 6, 7, 8, 9, 10, 11, 12, 13, 14, 15, 16, 17, 18, 19, 20, 21] 23 rfl rfl rfl rfl rfl rfl rfl rfl rfl hk1 hFc hP1 hD1
          clear hk1 hPc hDc hFc hP1 hD1 ht
          refine lv_if_eq (tgt := 159) hx hb dX10_isClash_152 (by decide) (fun c_5 => ?_) (fun c_5 => ?_)
          · have c_5 : ¬ (4 * ((un7 : Nat) : Int) < (iI R9).toInt * (iI R9).toInt * ((dd7 : Nat) : Int)) := zp_0 c_5
            refine lv_iconst (v := 0) hx hb dX10_isClash_159 (by decide) ?_
            obtain ⟨hP, hD⟩ := pl_bk (X := [_, _, _, _, _, _, _]) hT_1 hP rfl hc9_1 hD0_1 rfl
            obtain ⟨hP9, hD9⟩ := zq_part (cx := [(oc8 x (.ref sh) (.ref lw) (.ref ro) (.ref bq) (.ref bp) (.ref dq) (.ref dp) (.ref lv) (.ref sl) (nI dn) sd ul su), (oc10 sl mc9 (.ref ea) (nI T)), (oc0 bq (iI (mnI (X5 0).toInt X5 (nN (mn f0)))) (iI (mnI (Y5 0).toInt Y5 (nN (mn f0)))) (iI (mxI (X5 0).toInt X5 (nN (mn f0)))) (iI (mxI (Y5 0).toInt Y5 (nN (mn f0))))), (oc0 bp (iI (mnI (X6 0).toInt X6 (nN (mn g0)))) (iI (mnI (Y6 0).toInt Y6 (nN (mn g0)))) (iI (mxI (X6 0).toInt X6 (nN (mn g0)))) (iI (mxI (Y6 0).toInt Y6 (nN (mn g0))))), (oc2 dq (jI ((un7 : Nat) : Int)) (jI ((dd7 : Nat) : Int))), (oc7 sh (.ref fa) (nI ft)), (oq fa cF 200 FA)]) hP hD [0, 1, 2, 3, 4, 5, 6] (by decide) rfl
            rw [hQ9]
            exact W.zret (ty := .boolean) (v := 0) hx hb hr (rfl) (fun t ht hW => ⟨⟨congrArg (fun z => Outcome.returned (some (Value.int z))) (show (0 : Int32) = pI (clP ft st tn kd mn cx cy wd gp9 f0 g0) from (zp_f (by first | exact hcl9.mpr (by assumption) | exact fun h => absurd (hcl9.mp h) (by assumption) | exact hcl0 | (exfalso; omega))).symm), (iI (mnI (X5 0).toInt X5 (nN (mn f0)))), (iI (mnI (Y5 0).toInt Y5 (nN (mn f0)))), (iI (mxI (X5 0).toInt X5 (nN (mn f0)))), (iI (mxI (Y5 0).toInt Y5 (nN (mn f0)))), (iI (mnI (X6 0).toInt X6 (nN (mn g0)))), (iI (mnI (Y6 0).toInt Y6 (nN (mn g0)))), (iI (mxI (X6 0).toInt X6 (nN (mn g0)))), (iI (mxI (Y6 0).toInt Y6 (nN (mn g0)))), (jI ((un7 : Nat) : Int)), (jI ((dd7 : Nat) : Int)), by rw [ht]; exact hP9, hD9⟩, hS.F ht⟩) hS.2.2 dX10_isClash_160
          · have c_5 : 4 * ((un7 : Nat) : Int) < (iI R9).toInt * (iI R9).toInt * ((dd7 : Nat) : Int) := zp_1 c_5
            refine lv_iconst (v := 1) hx hb dX10_isClash_155 (by decide) ?_
            refine lv_goto (tgt := 160) hx hb dX10_isClash_156 (by decide) ?_
            obtain ⟨hP, hD⟩ := pl_bk (X := [_, _, _, _, _, _, _]) hT_1 hP rfl hc9_1 hD0_1 rfl
            obtain ⟨hP9, hD9⟩ := zq_part (cx := [(oc8 x (.ref sh) (.ref lw) (.ref ro) (.ref bq) (.ref bp) (.ref dq) (.ref dp) (.ref lv) (.ref sl) (nI dn) sd ul su), (oc10 sl mc9 (.ref ea) (nI T)), (oc0 bq (iI (mnI (X5 0).toInt X5 (nN (mn f0)))) (iI (mnI (Y5 0).toInt Y5 (nN (mn f0)))) (iI (mxI (X5 0).toInt X5 (nN (mn f0)))) (iI (mxI (Y5 0).toInt Y5 (nN (mn f0))))), (oc0 bp (iI (mnI (X6 0).toInt X6 (nN (mn g0)))) (iI (mnI (Y6 0).toInt Y6 (nN (mn g0)))) (iI (mxI (X6 0).toInt X6 (nN (mn g0)))) (iI (mxI (Y6 0).toInt Y6 (nN (mn g0))))), (oc2 dq (jI ((un7 : Nat) : Int)) (jI ((dd7 : Nat) : Int))), (oc7 sh (.ref fa) (nI ft)), (oq fa cF 200 FA)]) hP hD [0, 1, 2, 3, 4, 5, 6] (by decide) rfl
            rw [hQ9]
            exact W.zret (ty := .boolean) (v := 1) hx hb hr (rfl) (fun t ht hW => ⟨⟨congrArg (fun z => Outcome.returned (some (Value.int z))) (show (1 : Int32) = pI (clP ft st tn kd mn cx cy wd gp9 f0 g0) from (zp_t (by first | exact hcl9.mpr (by assumption) | exact fun h => absurd (hcl9.mp h) (by assumption) | exact hcl0 | (exfalso; omega))).symm), (iI (mnI (X5 0).toInt X5 (nN (mn f0)))), (iI (mnI (Y5 0).toInt Y5 (nN (mn f0)))), (iI (mxI (X5 0).toInt X5 (nN (mn f0)))), (iI (mxI (Y5 0).toInt Y5 (nN (mn f0)))), (iI (mnI (X6 0).toInt X6 (nN (mn g0)))), (iI (mnI (Y6 0).toInt Y6 (nN (mn g0)))), (iI (mxI (X6 0).toInt X6 (nN (mn g0)))), (iI (mxI (Y6 0).toInt Y6 (nN (mn g0)))), (jI ((un7 : Nat) : Int)), (jI ((dd7 : Nat) : Int)), by rw [ht]; exact hP9, hD9⟩, hS.F ht⟩) hS.2.2 dX10_isClash_160
    · have c_1 : (R9 * R9) ≤ (4 * S9) := zc_nlt (iI_toInt (by omega)) (iI_toInt (by omega)) c_1
      refine lv_iconst (v := 0) hx hb dX10_isClash_118 (by decide) ?_
      obtain ⟨hP, hD⟩ := pl_bk (X := [_, _, _, _, _, _, _]) hT_1 hP rfl hc9_1 hD0_1 rfl
      obtain ⟨hP9, hD9⟩ := zq_part (cx := [(oc8 x (.ref sh) (.ref lw) (.ref ro) (.ref bq) (.ref bp) (.ref dq) (.ref dp) (.ref lv) (.ref sl) (nI dn) sd ul su), (oc10 sl mc9 (.ref ea) (nI T)), (oc0 bq (iI (mnI (X5 0).toInt X5 (nN (mn f0)))) (iI (mnI (Y5 0).toInt Y5 (nN (mn f0)))) (iI (mxI (X5 0).toInt X5 (nN (mn f0)))) (iI (mxI (Y5 0).toInt Y5 (nN (mn f0))))), (oc0 bp (iI (mnI (X6 0).toInt X6 (nN (mn g0)))) (iI (mnI (Y6 0).toInt Y6 (nN (mn g0)))) (iI (mxI (X6 0).toInt X6 (nN (mn g0)))) (iI (mxI (Y6 0).toInt Y6 (nN (mn g0))))), (oc2 dq y1 y2), (oc7 sh (.ref fa) (nI ft)), (oq fa cF 200 FA)]) hP hD [0, 1, 2, 3, 4, 5, 6] (by decide) rfl
      rw [hQ9]
      exact W.zret (ty := .boolean) (v := 0) hx hb hr (rfl) (fun t ht hW => ⟨⟨congrArg (fun z => Outcome.returned (some (Value.int z))) (show (0 : Int32) = pI (clP ft st tn kd mn cx cy wd gp9 f0 g0) from (zp_f (clP_far hwf0 hwfg (eO_1 hkn0) (eO_1 hkng) (inB_cg hX5) (inB_cg hX6) (by rw [← hR9, ← hS9]; omega))).symm), (iI (mnI (X5 0).toInt X5 (nN (mn f0)))), (iI (mnI (Y5 0).toInt Y5 (nN (mn f0)))), (iI (mxI (X5 0).toInt X5 (nN (mn f0)))), (iI (mxI (Y5 0).toInt Y5 (nN (mn f0)))), (iI (mnI (X6 0).toInt X6 (nN (mn g0)))), (iI (mnI (Y6 0).toInt Y6 (nN (mn g0)))), (iI (mxI (X6 0).toInt X6 (nN (mn g0)))), (iI (mxI (Y6 0).toInt Y6 (nN (mn g0)))), y1, y2, by rw [ht]; exact hP9, hD9⟩, hS.F ht⟩) hS.2.2 dX10_isClash_119
  · skip
    refine lv_aload_n hx hb dX10_isClash_0 rfl (lv_at hl 0 rfl) ?_
    rcases vwA_3 (P9 := ((st f0).toInt = 1)) (hva f0 (by omega)) with ⟨ht2, fe2, lk2, lo2, we2, fm2, hFA2, hfe2, hlk2⟩ | ⟨ht2, hA2, fe2, lk2, lo2, we2, fm2, r2, rx2, ry2, cap2, U2, V2, rg2, hFA2, hfe2, hlk2, ⟨hr2, hrx2, hry2, hne2⟩, hrr2⟩ | ⟨ht2, hA2, fe2, lk2, lo2, we2, fm2, r2, rx2, ry2, cap2, U2, V2, rg2, hFA2, hfe2, hlk2, ⟨hr2, hrx2, hry2, hne2⟩, hrr2⟩
    · skip
      refine va_get (D := (dC, dI)) (ci := 8) (v := .ref sh) (C := RX10) (T := TX10) (N := 13) hx hb hts inX10 hown hK hP 0 rfl rfl 0 (by decide) (hts _ mw_309) (fun _ h9 => h9) rfl dX10_isClash_1 ?_
      refine lv_iload_n hx hb dX10_isClash_4 rfl (lv_at hl 1 rfl) ?_
      obtain ⟨hPc, hDc, hFc⟩ := zc_sub (wc := [(oc7 sh (.ref fa) (nI ft)), (oq fa cF 200 FA)]) hP hD hS hA [5, 6] (by decide) rfl
      refine zcall (st1 := [.ref fe2]) (va_runV (As := [.int (nI f0)]) (rest := []) ⟨hx, hb, hml, hown, hts⟩ (k_Sheet_find l dC dI cI cZ cF s.heap.size sh fa ft FA f0 fe2 (by omega) (by omega) (by first | exact hFA2 | exact hFA9 f0 (by omega))) (csV_94 hts rfl rfl ⟨Nat.le_of_ble_eq_true rfl, Nat.le_of_ble_eq_true rfl⟩) (zPV2 (q0 := 0) (ci := 7) hPc hDc hK3 hXN rfl rfl) rfl rfl hl.1 rfl (lv_room (Nat.le_of_ble_eq_true rfl)) dX10_isClash_5 ⟨Nat.le_of_ble_eq_true rfl, Nat.le_of_ble_eq_true rfl⟩) hS hFc hFc rfl (fun t H locs ht hB hk1 hS => ?_)
      obtain ⟨hP1, hD1⟩ := hB
      rw [ht] at hP1
      obtain ⟨hP, hD⟩ := zkQ (W2 := [_, _, _, _, _, _, _]) hP hD [5, 6] [0, 1, 2, 3, 4] [0, 1, 2, 3, 4] [5, 6] [0, 1, 2, 3, 4, 5, 6] 7 rfl rfl rfl rfl rfl rfl rfl rfl rfl hk1 hFc hP1 hD1
      clear hk1 hPc hDc hFc hP1 hD1 ht
      refine lv_astore (lv' := [(4, .ref fe2), (0, .ref x), (1, .int (nI f0)), (2, .int (nI g0)), (3, .int gp9)]) hx hb dX10_isClash_8 hl (by decide) rfl (fun ls hl => ?_)
      rcases vwA_3 (P9 := ((st g0).toInt = 1)) (hva g0 (by omega)) with ⟨ht3, fe3, lk3, lo3, we3, fm3, hFA3, hfe3, hlk3⟩ | ⟨ht3, hA3, fe3, lk3, lo3, we3, fm3, r3, rx3, ry3, cap3, U3, V3, rg3, hFA3, hfe3, hlk3, ⟨hr3, hrx3, hry3, hne3⟩, hrr3⟩ | ⟨ht3, hA3, fe3, lk3, lo3, we3, fm3, r3, rx3, ry3, cap3, U3, V3, rg3, hFA3, hfe3, hlk3, ⟨hr3, hrx3, hry3, hne3⟩, hrr3⟩
      · skip
        refine lv_aload_n hx hb dX10_isClash_10 rfl (lv_at hl 1 rfl) ?_
        refine va_get (D := (dC, dI)) (ci := 8) (v := .ref sh) (C := RX10) (T := TX10) (N := 13) hx hb hts inX10 hown hK hP 0 rfl rfl 0 (by decide) (hts _ mw_309) (fun _ h9 => h9) rfl dX10_isClash_11 ?_
        refine lv_iload_n hx hb dX10_isClash_14 rfl (lv_at hl 3 rfl) ?_
        obtain ⟨hPc, hDc, hFc⟩ := zc_sub (wc := [(oc7 sh (.ref fa) (nI ft)), (oq fa cF 200 FA)]) hP hD hS hA [5, 6] (by decide) rfl
        refine zcall (st1 := [.ref fe3]) (va_runV (As := [.int (nI g0)]) (rest := []) ⟨hx, hb, hml, hown, hts⟩ (k_Sheet_find l dC dI cI cZ cF H.size sh fa ft FA g0 fe3 (by omega) (by omega) (by first | exact hFA3 | exact hFA9 g0 (by omega))) (csV_94 hts rfl rfl ⟨Nat.le_of_ble_eq_true rfl, Nat.le_of_ble_eq_true rfl⟩) (zPV2 (q0 := 0) (ci := 7) hPc hDc hK3 hXN rfl rfl) rfl rfl hl.1 rfl (lv_room (Nat.le_of_ble_eq_true rfl)) dX10_isClash_15 ⟨Nat.le_of_ble_eq_true rfl, Nat.le_of_ble_eq_true rfl⟩) hS hFc hFc rfl (fun t H locs ht hB hk1 hS => ?_)
        obtain ⟨hP1, hD1⟩ := hB
        rw [ht] at hP1
        obtain ⟨hP, hD⟩ := zkQ (W2 := [_, _, _, _, _, _, _]) hP hD [5, 6] [0, 1, 2, 3, 4] [0, 1, 2, 3, 4] [5, 6] [0, 1, 2, 3, 4, 5, 6] 7 rfl rfl rfl rfl rfl rfl rfl rfl rfl hk1 hFc hP1 hD1
        clear hk1 hPc hDc hFc hP1 hD1 ht
        refine lv_astore (lv' := [(5, .ref fe3), (4, .ref fe2), (0, .ref x), (1, .int (nI f0)), (2, .int (nI g0)), (3, .int gp9)]) hx hb dX10_isClash_18 hl (by decide) rfl (fun ls hl => ?_)
        refine lv_aload_n hx hb dX10_isClash_20 rfl (lv_at hl 2 rfl) ?_
        refine va_get (D := (dC, dI)) (ci := 8) (v := .ref sh) (C := RX10) (T := TX10) (N := 13) hx hb hts inX10 hown hK hP 0 rfl rfl 0 (by decide) (hts _ mw_309) (fun _ h9 => h9) rfl dX10_isClash_21 ?_
        have hc9_1 : inPl L f [(oc1 fe2 (rk f0) (wd f0) (tw f0) (pa f0) (pb f0) (.ref lo2) (.ref lk2) fm2), (oc4 lk2 (kd f0) (st f0) .null (gb f0) (it f0) we2)] := ⟨hfe2, hlk2, trivial⟩
        have hD0_1 := hD
        obtain ⟨hP, hD⟩ := pl_out hP hD [(oc1 fe2 (rk f0) (wd f0) (tw f0) (pa f0) (pb f0) (.ref lo2) (.ref lk2) fm2), (oc4 lk2 (kd f0) (st f0) .null (gb f0) (it f0) we2)] hc9_1 (pwF hfe2.2 hlk2.2)
        generalize hT_1 : outPl L [(oc1 fe2 (rk f0) (wd f0) (tw f0) (pa f0) (pb f0) (.ref lo2) (.ref lk2) fm2), (oc4 lk2 (kd f0) (st f0) .null (gb f0) (it f0) we2)] = T_1 at hP hD
        obtain ⟨hP, hD⟩ := zre (W2 := ([_, _, _, _, _, _, _, _, _] ++ va_pl T_1 f)) hP hD rfl
        refine lv_iload_n hx hb dX10_isClash_24 rfl (lv_at hl 3 rfl) ?_
        obtain ⟨hPc, hDc, hFc⟩ := zc_sub (wc := [(oc7 sh (.ref fa) (nI ft)), (oq fa cF 200 FA), (oc1 fe2 (rk f0) (wd f0) (tw f0) (pa f0) (pb f0) (.ref lo2) (.ref lk2) fm2), (oc4 lk2 (kd f0) (st f0) .null (gb f0) (it f0) we2)]) hP hD hS hA [5, 6, 7, 8] (by decide) rfl
        refine zcall (st1 := [.null]) (va_runV (As := [.int (nI f0)]) (rest := []) ⟨hx, hb, hml, hown, hts⟩ (k_Sheet_rowThere_tv l dC dI cI cZ cF H.size sh fa ft FA f0 fe2 lo2 (rk f0) (wd f0) (tw f0) (pa f0) (pb f0) lk2 (kd f0) (st f0) (gb f0) (it f0) we2 fm2 (by omega) (by omega) (by first | exact hFA2 | exact hFA9 f0 (by omega))) (csV_144 hts rfl rfl ⟨Nat.le_of_ble_eq_true rfl, Nat.le_of_ble_eq_true rfl⟩) (zPV2 (q0 := 0) (ci := 7) hPc hDc hK3 hXN rfl rfl) rfl rfl hl.1 rfl (lv_room (Nat.le_of_ble_eq_true rfl)) dX10_isClash_25 ⟨Nat.le_of_ble_eq_true rfl, Nat.le_of_ble_eq_true rfl⟩) hS hFc hFc rfl (fun t H locs ht hB hk1 hS => ?_)
        obtain ⟨hP1, hD1⟩ := hB
        rw [ht] at hP1
        obtain ⟨hP, hD⟩ := zkQ (W2 := [_, _, _, _, _, _, _, _, _]) hP hD [5, 6, 7, 8] [0, 1, 2, 3, 4] [0, 1, 2, 3, 4] [5, 6, 7, 8] [0, 1, 2, 3, 4, 5, 6, 7, 8] 9 rfl rfl rfl rfl rfl rfl rfl rfl rfl hk1 hFc hP1 hD1
        clear hk1 hPc hDc hFc hP1 hD1 ht
        obtain ⟨hP, hD⟩ := pl_bk (X := [_, _, _, _, _, _, _]) hT_1 hP rfl hc9_1 hD0_1 rfl
        refine lv_astoreN (lv' := [(6, .null), (5, .ref fe3), (4, .ref fe2), (0, .ref x), (1, .int (nI f0)), (2, .int (nI g0)), (3, .int gp9)]) hx hb dX10_isClash_28 hl (by decide) rfl (fun ls hl => ?_)
        refine lv_aload_n hx hb dX10_isClash_30 rfl (lv_at hl 3 rfl) ?_
        refine va_get (D := (dC, dI)) (ci := 8) (v := .ref sh) (C := RX10) (T := TX10) (N := 13) hx hb hts inX10 hown hK hP 0 rfl rfl 0 (by decide) (hts _ mw_309) (fun _ h9 => h9) rfl dX10_isClash_31 ?_
        have hc9_2 : inPl L f [(oc1 fe3 (rk g0) (wd g0) (tw g0) (pa g0) (pb g0) (.ref lo3) (.ref lk3) fm3), (oc4 lk3 (kd g0) (st g0) .null (gb g0) (it g0) we3)] := ⟨hfe3, hlk3, trivial⟩
        have hD0_2 := hD
        obtain ⟨hP, hD⟩ := pl_out hP hD [(oc1 fe3 (rk g0) (wd g0) (tw g0) (pa g0) (pb g0) (.ref lo3) (.ref lk3) fm3), (oc4 lk3 (kd g0) (st g0) .null (gb g0) (it g0) we3)] hc9_2 (pwF hfe3.2 hlk3.2)
        generalize hT_2 : outPl L [(oc1 fe3 (rk g0) (wd g0) (tw g0) (pa g0) (pb g0) (.ref lo3) (.ref lk3) fm3), (oc4 lk3 (kd g0) (st g0) .null (gb g0) (it g0) we3)] = T_2 at hP hD
        obtain ⟨hP, hD⟩ := zre (W2 := ([_, _, _, _, _, _, _, _, _] ++ va_pl T_2 f)) hP hD rfl
        refine lv_iload_n hx hb dX10_isClash_34 rfl (lv_at hl 5 rfl) ?_
        obtain ⟨hPc, hDc, hFc⟩ := zc_sub (wc := [(oc7 sh (.ref fa) (nI ft)), (oq fa cF 200 FA), (oc1 fe3 (rk g0) (wd g0) (tw g0) (pa g0) (pb g0) (.ref lo3) (.ref lk3) fm3), (oc4 lk3 (kd g0) (st g0) .null (gb g0) (it g0) we3)]) hP hD hS hA [5, 6, 7, 8] (by decide) rfl
        refine zcall (st1 := [.null]) (va_runV (As := [.int (nI g0)]) (rest := []) ⟨hx, hb, hml, hown, hts⟩ (k_Sheet_rowThere_tv l dC dI cI cZ cF H.size sh fa ft FA g0 fe3 lo3 (rk g0) (wd g0) (tw g0) (pa g0) (pb g0) lk3 (kd g0) (st g0) (gb g0) (it g0) we3 fm3 (by omega) (by omega) (by first | exact hFA3 | exact hFA9 g0 (by omega))) (csV_144 hts rfl rfl ⟨Nat.le_of_ble_eq_true rfl, Nat.le_of_ble_eq_true rfl⟩) (zPV2 (q0 := 0) (ci := 7) hPc hDc hK3 hXN rfl rfl) rfl rfl hl.1 rfl (lv_room (Nat.le_of_ble_eq_true rfl)) dX10_isClash_35 ⟨Nat.le_of_ble_eq_true rfl, Nat.le_of_ble_eq_true rfl⟩) hS hFc hFc rfl (fun t H locs ht hB hk1 hS => ?_)
        obtain ⟨hP1, hD1⟩ := hB
        rw [ht] at hP1
        obtain ⟨hP, hD⟩ := zkQ (W2 := [_, _, _, _, _, _, _, _, _]) hP hD [5, 6, 7, 8] [0, 1, 2, 3, 4] [0, 1, 2, 3, 4] [5, 6, 7, 8] [0, 1, 2, 3, 4, 5, 6, 7, 8] 9 rfl rfl rfl rfl rfl rfl rfl rfl rfl hk1 hFc hP1 hD1
        clear hk1 hPc hDc hFc hP1 hD1 ht
        obtain ⟨hP, hD⟩ := pl_bk (X := [_, _, _, _, _, _, _]) hT_2 hP rfl hc9_2 hD0_2 rfl
        refine lv_astoreN (lv' := [(7, .null), (6, .null), (5, .ref fe3), (4, .ref fe2), (0, .ref x), (1, .int (nI f0)), (2, .int (nI g0)), (3, .int gp9)]) hx hb dX10_isClash_38 hl (by decide) rfl (fun ls hl => ?_)
        refine lv_aload hx hb dX10_isClash_40 (lv_at hl 3 rfl) ?_
        refine lv_ifnull hx hb dX10_isClash_42 ?_
        refine lv_aload hx hb dX10_isClash_45 (lv_at hl 2 rfl) ?_
        refine lv_ifnull hx hb dX10_isClash_47 ?_
        refine lv_aloadN hx hb dX10_isClash_50 (lv_at hl 1 rfl) ?_
        refine lv_ifnullN (tgt := 60) hx hb dX10_isClash_52 (by decide) ?_
        refine lv_iconst (v := 0) hx hb dX10_isClash_60 (by decide) ?_
        obtain ⟨hP9, hD9⟩ := zq_part (cx := [(oc8 x (.ref sh) (.ref lw) (.ref ro) (.ref bq) (.ref bp) (.ref dq) (.ref dp) (.ref lv) (.ref sl) (nI dn) sd ul su), (oc10 sl mc9 (.ref ea) (nI T)), (oc0 bq c1 c2 c3 c4), (oc0 bp a1 a2 a3 a4), (oc2 dq y1 y2), (oc7 sh (.ref fa) (nI ft)), (oq fa cF 200 FA)]) hP hD [0, 1, 2, 3, 4, 5, 6] (by decide) rfl
        rw [hQ9]
        exact W.zret (ty := .boolean) (v := 0) hx hb hr (rfl) (fun t ht hW => ⟨⟨congrArg (fun z => Outcome.returned (some (Value.int z))) (show (0 : Int32) = pI (clP ft st tn kd mn cx cy wd gp9 f0 g0) from (zp_f (fun h => hb9 ⟨h.1, h.2.1⟩)).symm), c1, c2, c3, c4, a1, a2, a3, a4, y1, y2, by rw [ht]; exact hP9, hD9⟩, hS.F ht⟩) hS.2.2 dX10_isClash_61
      · skip
        refine lv_aload_n hx hb dX10_isClash_10 rfl (lv_at hl 1 rfl) ?_
        refine va_get (D := (dC, dI)) (ci := 8) (v := .ref sh) (C := RX10) (T := TX10) (N := 13) hx hb hts inX10 hown hK hP 0 rfl rfl 0 (by decide) (hts _ mw_309) (fun _ h9 => h9) rfl dX10_isClash_11 ?_
        refine lv_iload_n hx hb dX10_isClash_14 rfl (lv_at hl 3 rfl) ?_
        obtain ⟨hPc, hDc, hFc⟩ := zc_sub (wc := [(oc7 sh (.ref fa) (nI ft)), (oq fa cF 200 FA)]) hP hD hS hA [5, 6] (by decide) rfl
        refine zcall (st1 := [.ref fe3]) (va_runV (As := [.int (nI g0)]) (rest := []) ⟨hx, hb, hml, hown, hts⟩ (k_Sheet_find l dC dI cI cZ cF H.size sh fa ft FA g0 fe3 (by omega) (by omega) (by first | exact hFA3 | exact hFA9 g0 (by omega))) (csV_94 hts rfl rfl ⟨Nat.le_of_ble_eq_true rfl, Nat.le_of_ble_eq_true rfl⟩) (zPV2 (q0 := 0) (ci := 7) hPc hDc hK3 hXN rfl rfl) rfl rfl hl.1 rfl (lv_room (Nat.le_of_ble_eq_true rfl)) dX10_isClash_15 ⟨Nat.le_of_ble_eq_true rfl, Nat.le_of_ble_eq_true rfl⟩) hS hFc hFc rfl (fun t H locs ht hB hk1 hS => ?_)
        obtain ⟨hP1, hD1⟩ := hB
        rw [ht] at hP1
        obtain ⟨hP, hD⟩ := zkQ (W2 := [_, _, _, _, _, _, _]) hP hD [5, 6] [0, 1, 2, 3, 4] [0, 1, 2, 3, 4] [5, 6] [0, 1, 2, 3, 4, 5, 6] 7 rfl rfl rfl rfl rfl rfl rfl rfl rfl hk1 hFc hP1 hD1
        clear hk1 hPc hDc hFc hP1 hD1 ht
        refine lv_astore (lv' := [(5, .ref fe3), (4, .ref fe2), (0, .ref x), (1, .int (nI f0)), (2, .int (nI g0)), (3, .int gp9)]) hx hb dX10_isClash_18 hl (by decide) rfl (fun ls hl => ?_)
        refine lv_aload_n hx hb dX10_isClash_20 rfl (lv_at hl 2 rfl) ?_
        refine va_get (D := (dC, dI)) (ci := 8) (v := .ref sh) (C := RX10) (T := TX10) (N := 13) hx hb hts inX10 hown hK hP 0 rfl rfl 0 (by decide) (hts _ mw_309) (fun _ h9 => h9) rfl dX10_isClash_21 ?_
        have hc9_1 : inPl L f [(oc1 fe2 (rk f0) (wd f0) (tw f0) (pa f0) (pb f0) (.ref lo2) (.ref lk2) fm2), (oc4 lk2 (kd f0) (st f0) .null (gb f0) (it f0) we2)] := ⟨hfe2, hlk2, trivial⟩
        have hD0_1 := hD
        obtain ⟨hP, hD⟩ := pl_out hP hD [(oc1 fe2 (rk f0) (wd f0) (tw f0) (pa f0) (pb f0) (.ref lo2) (.ref lk2) fm2), (oc4 lk2 (kd f0) (st f0) .null (gb f0) (it f0) we2)] hc9_1 (pwF hfe2.2 hlk2.2)
        generalize hT_1 : outPl L [(oc1 fe2 (rk f0) (wd f0) (tw f0) (pa f0) (pb f0) (.ref lo2) (.ref lk2) fm2), (oc4 lk2 (kd f0) (st f0) .null (gb f0) (it f0) we2)] = T_1 at hP hD
        obtain ⟨hP, hD⟩ := zre (W2 := ([_, _, _, _, _, _, _, _, _] ++ va_pl T_1 f)) hP hD rfl
        refine lv_iload_n hx hb dX10_isClash_24 rfl (lv_at hl 3 rfl) ?_
        obtain ⟨hPc, hDc, hFc⟩ := zc_sub (wc := [(oc7 sh (.ref fa) (nI ft)), (oq fa cF 200 FA), (oc1 fe2 (rk f0) (wd f0) (tw f0) (pa f0) (pb f0) (.ref lo2) (.ref lk2) fm2), (oc4 lk2 (kd f0) (st f0) .null (gb f0) (it f0) we2)]) hP hD hS hA [5, 6, 7, 8] (by decide) rfl
        refine zcall (st1 := [.null]) (va_runV (As := [.int (nI f0)]) (rest := []) ⟨hx, hb, hml, hown, hts⟩ (k_Sheet_rowThere_tv l dC dI cI cZ cF H.size sh fa ft FA f0 fe2 lo2 (rk f0) (wd f0) (tw f0) (pa f0) (pb f0) lk2 (kd f0) (st f0) (gb f0) (it f0) we2 fm2 (by omega) (by omega) (by first | exact hFA2 | exact hFA9 f0 (by omega))) (csV_144 hts rfl rfl ⟨Nat.le_of_ble_eq_true rfl, Nat.le_of_ble_eq_true rfl⟩) (zPV2 (q0 := 0) (ci := 7) hPc hDc hK3 hXN rfl rfl) rfl rfl hl.1 rfl (lv_room (Nat.le_of_ble_eq_true rfl)) dX10_isClash_25 ⟨Nat.le_of_ble_eq_true rfl, Nat.le_of_ble_eq_true rfl⟩) hS hFc hFc rfl (fun t H locs ht hB hk1 hS => ?_)
        obtain ⟨hP1, hD1⟩ := hB
        rw [ht] at hP1
        obtain ⟨hP, hD⟩ := zkQ (W2 := [_, _, _, _, _, _, _, _, _]) hP hD [5, 6, 7, 8] [0, 1, 2, 3, 4] [0, 1, 2, 3, 4] [5, 6, 7, 8] [0, 1, 2, 3, 4, 5, 6, 7, 8] 9 rfl rfl rfl rfl rfl rfl rfl rfl rfl hk1 hFc hP1 hD1
        clear hk1 hPc hDc hFc hP1 hD1 ht
        obtain ⟨hP, hD⟩ := pl_bk (X := [_, _, _, _, _, _, _]) hT_1 hP rfl hc9_1 hD0_1 rfl
        refine lv_astoreN (lv' := [(6, .null), (5, .ref fe3), (4, .ref fe2), (0, .ref x), (1, .int (nI f0)), (2, .int (nI g0)), (3, .int gp9)]) hx hb dX10_isClash_28 hl (by decide) rfl (fun ls hl => ?_)
        refine lv_aload_n hx hb dX10_isClash_30 rfl (lv_at hl 3 rfl) ?_
        refine va_get (D := (dC, dI)) (ci := 8) (v := .ref sh) (C := RX10) (T := TX10) (N := 13) hx hb hts inX10 hown hK hP 0 rfl rfl 0 (by decide) (hts _ mw_309) (fun _ h9 => h9) rfl dX10_isClash_31 ?_
        have hc9_2 : inPl L f [(oc1 fe3 (rk g0) (wd g0) (tw g0) (pa g0) (pb g0) (.ref lo3) (.ref lk3) fm3), (oc4 lk3 (kd g0) (st g0) (.ref r3) (gb g0) (it g0) we3)] := ⟨hfe3, hlk3, trivial⟩
        have hD0_2 := hD
        obtain ⟨hP, hD⟩ := pl_out hP hD [(oc1 fe3 (rk g0) (wd g0) (tw g0) (pa g0) (pb g0) (.ref lo3) (.ref lk3) fm3), (oc4 lk3 (kd g0) (st g0) (.ref r3) (gb g0) (it g0) we3)] hc9_2 (pwF hfe3.2 hlk3.2)
        generalize hT_2 : outPl L [(oc1 fe3 (rk g0) (wd g0) (tw g0) (pa g0) (pb g0) (.ref lo3) (.ref lk3) fm3), (oc4 lk3 (kd g0) (st g0) (.ref r3) (gb g0) (it g0) we3)] = T_2 at hP hD
        obtain ⟨hP, hD⟩ := zre (W2 := ([_, _, _, _, _, _, _, _, _] ++ va_pl T_2 f)) hP hD rfl
        refine lv_iload_n hx hb dX10_isClash_34 rfl (lv_at hl 5 rfl) ?_
        obtain ⟨hPc, hDc, hFc⟩ := zc_sub (wc := [(oc7 sh (.ref fa) (nI ft)), (oq fa cF 200 FA), (oc1 fe3 (rk g0) (wd g0) (tw g0) (pa g0) (pb g0) (.ref lo3) (.ref lk3) fm3), (oc4 lk3 (kd g0) (st g0) (.ref r3) (gb g0) (it g0) we3)]) hP hD hS hA [5, 6, 7, 8] (by decide) rfl
        refine zcall (st1 := [.ref r3]) (va_runV (As := [.int (nI g0)]) (rest := []) ⟨hx, hb, hml, hown, hts⟩ (k_Sheet_rowThere_yv l dC dI cI cZ cF H.size sh fa ft FA g0 fe3 lo3 (rk g0) (wd g0) (tw g0) (pa g0) (pb g0) lk3 (kd g0) (st g0) (gb g0) (it g0) we3 r3 fm3 (by omega) (by omega) (by first | exact hFA3 | exact hFA9 g0 (by omega)) (by first | exact hsg | exact hA3 | omega)) (csV_144 hts rfl rfl ⟨Nat.le_of_ble_eq_true rfl, Nat.le_of_ble_eq_true rfl⟩) (zPV2 (q0 := 0) (ci := 7) hPc hDc hK3 hXN rfl rfl) rfl rfl hl.1 rfl (lv_room (Nat.le_of_ble_eq_true rfl)) dX10_isClash_35 ⟨Nat.le_of_ble_eq_true rfl, Nat.le_of_ble_eq_true rfl⟩) hS hFc hFc rfl (fun t H locs ht hB hk1 hS => ?_)
        obtain ⟨hP1, hD1⟩ := hB
        rw [ht] at hP1
        obtain ⟨hP, hD⟩ := zkQ (W2 := [_, _, _, _, _, _, _, _, _]) hP hD [5, 6, 7, 8] [0, 1, 2, 3, 4] [0, 1, 2, 3, 4] [5, 6, 7, 8] [0, 1, 2, 3, 4, 5, 6, 7, 8] 9 rfl rfl rfl rfl rfl rfl rfl rfl rfl hk1 hFc hP1 hD1
        clear hk1 hPc hDc hFc hP1 hD1 ht
        obtain ⟨hP, hD⟩ := pl_bk (X := [_, _, _, _, _, _, _]) hT_2 hP rfl hc9_2 hD0_2 rfl
        refine lv_astore (lv' := [(7, .ref r3), (6, .null), (5, .ref fe3), (4, .ref fe2), (0, .ref x), (1, .int (nI f0)), (2, .int (nI g0)), (3, .int gp9)]) hx hb dX10_isClash_38 hl (by decide) rfl (fun ls hl => ?_)
        refine lv_aload hx hb dX10_isClash_40 (lv_at hl 3 rfl) ?_
        refine lv_ifnull hx hb dX10_isClash_42 ?_
        refine lv_aload hx hb dX10_isClash_45 (lv_at hl 2 rfl) ?_
        refine lv_ifnull hx hb dX10_isClash_47 ?_
        refine lv_aloadN hx hb dX10_isClash_50 (lv_at hl 1 rfl) ?_
        refine lv_ifnullN (tgt := 60) hx hb dX10_isClash_52 (by decide) ?_
        refine lv_iconst (v := 0) hx hb dX10_isClash_60 (by decide) ?_
        obtain ⟨hP9, hD9⟩ := zq_part (cx := [(oc8 x (.ref sh) (.ref lw) (.ref ro) (.ref bq) (.ref bp) (.ref dq) (.ref dp) (.ref lv) (.ref sl) (nI dn) sd ul su), (oc10 sl mc9 (.ref ea) (nI T)), (oc0 bq c1 c2 c3 c4), (oc0 bp a1 a2 a3 a4), (oc2 dq y1 y2), (oc7 sh (.ref fa) (nI ft)), (oq fa cF 200 FA)]) hP hD [0, 1, 2, 3, 4, 5, 6] (by decide) rfl
        rw [hQ9]
        exact W.zret (ty := .boolean) (v := 0) hx hb hr (rfl) (fun t ht hW => ⟨⟨congrArg (fun z => Outcome.returned (some (Value.int z))) (show (0 : Int32) = pI (clP ft st tn kd mn cx cy wd gp9 f0 g0) from (zp_f (fun h => hb9 ⟨h.1, h.2.1⟩)).symm), c1, c2, c3, c4, a1, a2, a3, a4, y1, y2, by rw [ht]; exact hP9, hD9⟩, hS.F ht⟩) hS.2.2 dX10_isClash_61
      · skip
        refine lv_aload_n hx hb dX10_isClash_10 rfl (lv_at hl 1 rfl) ?_
        refine va_get (D := (dC, dI)) (ci := 8) (v := .ref sh) (C := RX10) (T := TX10) (N := 13) hx hb hts inX10 hown hK hP 0 rfl rfl 0 (by decide) (hts _ mw_309) (fun _ h9 => h9) rfl dX10_isClash_11 ?_
        refine lv_iload_n hx hb dX10_isClash_14 rfl (lv_at hl 3 rfl) ?_
        obtain ⟨hPc, hDc, hFc⟩ := zc_sub (wc := [(oc7 sh (.ref fa) (nI ft)), (oq fa cF 200 FA)]) hP hD hS hA [5, 6] (by decide) rfl
        refine zcall (st1 := [.ref fe3]) (va_runV (As := [.int (nI g0)]) (rest := []) ⟨hx, hb, hml, hown, hts⟩ (k_Sheet_find l dC dI cI cZ cF H.size sh fa ft FA g0 fe3 (by omega) (by omega) (by first | exact hFA3 | exact hFA9 g0 (by omega))) (csV_94 hts rfl rfl ⟨Nat.le_of_ble_eq_true rfl, Nat.le_of_ble_eq_true rfl⟩) (zPV2 (q0 := 0) (ci := 7) hPc hDc hK3 hXN rfl rfl) rfl rfl hl.1 rfl (lv_room (Nat.le_of_ble_eq_true rfl)) dX10_isClash_15 ⟨Nat.le_of_ble_eq_true rfl, Nat.le_of_ble_eq_true rfl⟩) hS hFc hFc rfl (fun t H locs ht hB hk1 hS => ?_)
        obtain ⟨hP1, hD1⟩ := hB
        rw [ht] at hP1
        obtain ⟨hP, hD⟩ := zkQ (W2 := [_, _, _, _, _, _, _]) hP hD [5, 6] [0, 1, 2, 3, 4] [0, 1, 2, 3, 4] [5, 6] [0, 1, 2, 3, 4, 5, 6] 7 rfl rfl rfl rfl rfl rfl rfl rfl rfl hk1 hFc hP1 hD1
        clear hk1 hPc hDc hFc hP1 hD1 ht
        refine lv_astore (lv' := [(5, .ref fe3), (4, .ref fe2), (0, .ref x), (1, .int (nI f0)), (2, .int (nI g0)), (3, .int gp9)]) hx hb dX10_isClash_18 hl (by decide) rfl (fun ls hl => ?_)
        refine lv_aload_n hx hb dX10_isClash_20 rfl (lv_at hl 2 rfl) ?_
        refine va_get (D := (dC, dI)) (ci := 8) (v := .ref sh) (C := RX10) (T := TX10) (N := 13) hx hb hts inX10 hown hK hP 0 rfl rfl 0 (by decide) (hts _ mw_309) (fun _ h9 => h9) rfl dX10_isClash_21 ?_
        have hc9_1 : inPl L f [(oc1 fe2 (rk f0) (wd f0) (tw f0) (pa f0) (pb f0) (.ref lo2) (.ref lk2) fm2), (oc4 lk2 (kd f0) (st f0) .null (gb f0) (it f0) we2)] := ⟨hfe2, hlk2, trivial⟩
        have hD0_1 := hD
        obtain ⟨hP, hD⟩ := pl_out hP hD [(oc1 fe2 (rk f0) (wd f0) (tw f0) (pa f0) (pb f0) (.ref lo2) (.ref lk2) fm2), (oc4 lk2 (kd f0) (st f0) .null (gb f0) (it f0) we2)] hc9_1 (pwF hfe2.2 hlk2.2)
        generalize hT_1 : outPl L [(oc1 fe2 (rk f0) (wd f0) (tw f0) (pa f0) (pb f0) (.ref lo2) (.ref lk2) fm2), (oc4 lk2 (kd f0) (st f0) .null (gb f0) (it f0) we2)] = T_1 at hP hD
        obtain ⟨hP, hD⟩ := zre (W2 := ([_, _, _, _, _, _, _, _, _] ++ va_pl T_1 f)) hP hD rfl
        refine lv_iload_n hx hb dX10_isClash_24 rfl (lv_at hl 3 rfl) ?_
        obtain ⟨hPc, hDc, hFc⟩ := zc_sub (wc := [(oc7 sh (.ref fa) (nI ft)), (oq fa cF 200 FA), (oc1 fe2 (rk f0) (wd f0) (tw f0) (pa f0) (pb f0) (.ref lo2) (.ref lk2) fm2), (oc4 lk2 (kd f0) (st f0) .null (gb f0) (it f0) we2)]) hP hD hS hA [5, 6, 7, 8] (by decide) rfl
        refine zcall (st1 := [.null]) (va_runV (As := [.int (nI f0)]) (rest := []) ⟨hx, hb, hml, hown, hts⟩ (k_Sheet_rowThere_tv l dC dI cI cZ cF H.size sh fa ft FA f0 fe2 lo2 (rk f0) (wd f0) (tw f0) (pa f0) (pb f0) lk2 (kd f0) (st f0) (gb f0) (it f0) we2 fm2 (by omega) (by omega) (by first | exact hFA2 | exact hFA9 f0 (by omega))) (csV_144 hts rfl rfl ⟨Nat.le_of_ble_eq_true rfl, Nat.le_of_ble_eq_true rfl⟩) (zPV2 (q0 := 0) (ci := 7) hPc hDc hK3 hXN rfl rfl) rfl rfl hl.1 rfl (lv_room (Nat.le_of_ble_eq_true rfl)) dX10_isClash_25 ⟨Nat.le_of_ble_eq_true rfl, Nat.le_of_ble_eq_true rfl⟩) hS hFc hFc rfl (fun t H locs ht hB hk1 hS => ?_)
        obtain ⟨hP1, hD1⟩ := hB
        rw [ht] at hP1
        obtain ⟨hP, hD⟩ := zkQ (W2 := [_, _, _, _, _, _, _, _, _]) hP hD [5, 6, 7, 8] [0, 1, 2, 3, 4] [0, 1, 2, 3, 4] [5, 6, 7, 8] [0, 1, 2, 3, 4, 5, 6, 7, 8] 9 rfl rfl rfl rfl rfl rfl rfl rfl rfl hk1 hFc hP1 hD1
        clear hk1 hPc hDc hFc hP1 hD1 ht
        obtain ⟨hP, hD⟩ := pl_bk (X := [_, _, _, _, _, _, _]) hT_1 hP rfl hc9_1 hD0_1 rfl
        refine lv_astoreN (lv' := [(6, .null), (5, .ref fe3), (4, .ref fe2), (0, .ref x), (1, .int (nI f0)), (2, .int (nI g0)), (3, .int gp9)]) hx hb dX10_isClash_28 hl (by decide) rfl (fun ls hl => ?_)
        refine lv_aload_n hx hb dX10_isClash_30 rfl (lv_at hl 3 rfl) ?_
        refine va_get (D := (dC, dI)) (ci := 8) (v := .ref sh) (C := RX10) (T := TX10) (N := 13) hx hb hts inX10 hown hK hP 0 rfl rfl 0 (by decide) (hts _ mw_309) (fun _ h9 => h9) rfl dX10_isClash_31 ?_
        have hc9_2 : inPl L f [(oc1 fe3 (rk g0) (wd g0) (tw g0) (pa g0) (pb g0) (.ref lo3) (.ref lk3) fm3), (oc4 lk3 (kd g0) (st g0) (.ref r3) (gb g0) (it g0) we3)] := ⟨hfe3, hlk3, trivial⟩
        have hD0_2 := hD
        obtain ⟨hP, hD⟩ := pl_out hP hD [(oc1 fe3 (rk g0) (wd g0) (tw g0) (pa g0) (pb g0) (.ref lo3) (.ref lk3) fm3), (oc4 lk3 (kd g0) (st g0) (.ref r3) (gb g0) (it g0) we3)] hc9_2 (pwF hfe3.2 hlk3.2)
        generalize hT_2 : outPl L [(oc1 fe3 (rk g0) (wd g0) (tw g0) (pa g0) (pb g0) (.ref lo3) (.ref lk3) fm3), (oc4 lk3 (kd g0) (st g0) (.ref r3) (gb g0) (it g0) we3)] = T_2 at hP hD
        obtain ⟨hP, hD⟩ := zre (W2 := ([_, _, _, _, _, _, _, _, _] ++ va_pl T_2 f)) hP hD rfl
        refine lv_iload_n hx hb dX10_isClash_34 rfl (lv_at hl 5 rfl) ?_
        obtain ⟨hPc, hDc, hFc⟩ := zc_sub (wc := [(oc7 sh (.ref fa) (nI ft)), (oq fa cF 200 FA), (oc1 fe3 (rk g0) (wd g0) (tw g0) (pa g0) (pb g0) (.ref lo3) (.ref lk3) fm3), (oc4 lk3 (kd g0) (st g0) (.ref r3) (gb g0) (it g0) we3)]) hP hD hS hA [5, 6, 7, 8] (by decide) rfl
        refine zcall (st1 := [.null]) (va_runV (As := [.int (nI g0)]) (rest := []) ⟨hx, hb, hml, hown, hts⟩ (k_Sheet_rowThere_sv l dC dI cI cZ cF H.size sh fa ft FA g0 fe3 lo3 (rk g0) (wd g0) (tw g0) (pa g0) (pb g0) lk3 (kd g0) (st g0) (gb g0) (it g0) we3 fm3 (.ref r3) (by omega) (by omega) (by first | exact hFA3 | exact hFA9 g0 (by omega)) (by first | exact hsg | exact hA3 | omega)) (csV_144 hts rfl rfl ⟨Nat.le_of_ble_eq_true rfl, Nat.le_of_ble_eq_true rfl⟩) (zPV2 (q0 := 0) (ci := 7) hPc hDc hK3 hXN rfl rfl) rfl rfl hl.1 rfl (lv_room (Nat.le_of_ble_eq_true rfl)) dX10_isClash_35 ⟨Nat.le_of_ble_eq_true rfl, Nat.le_of_ble_eq_true rfl⟩) hS hFc hFc rfl (fun t H locs ht hB hk1 hS => ?_)
        obtain ⟨hP1, hD1⟩ := hB
        rw [ht] at hP1
        obtain ⟨hP, hD⟩ := zkQ (W2 := [_, _, _, _, _, _, _, _, _]) hP hD [5, 6, 7, 8] [0, 1, 2, 3, 4] [0, 1, 2, 3, 4] [5, 6, 7, 8] [0, 1, 2, 3, 4, 5, 6, 7, 8] 9 rfl rfl rfl rfl rfl rfl rfl rfl rfl hk1 hFc hP1 hD1
        clear hk1 hPc hDc hFc hP1 hD1 ht
        obtain ⟨hP, hD⟩ := pl_bk (X := [_, _, _, _, _, _, _]) hT_2 hP rfl hc9_2 hD0_2 rfl
        refine lv_astoreN (lv' := [(7, .null), (6, .null), (5, .ref fe3), (4, .ref fe2), (0, .ref x), (1, .int (nI f0)), (2, .int (nI g0)), (3, .int gp9)]) hx hb dX10_isClash_38 hl (by decide) rfl (fun ls hl => ?_)
        refine lv_aload hx hb dX10_isClash_40 (lv_at hl 3 rfl) ?_
        refine lv_ifnull hx hb dX10_isClash_42 ?_
        refine lv_aload hx hb dX10_isClash_45 (lv_at hl 2 rfl) ?_
        refine lv_ifnull hx hb dX10_isClash_47 ?_
        refine lv_aloadN hx hb dX10_isClash_50 (lv_at hl 1 rfl) ?_
        refine lv_ifnullN (tgt := 60) hx hb dX10_isClash_52 (by decide) ?_
        refine lv_iconst (v := 0) hx hb dX10_isClash_60 (by decide) ?_
        obtain ⟨hP9, hD9⟩ := zq_part (cx := [(oc8 x (.ref sh) (.ref lw) (.ref ro) (.ref bq) (.ref bp) (.ref dq) (.ref dp) (.ref lv) (.ref sl) (nI dn) sd ul su), (oc10 sl mc9 (.ref ea) (nI T)), (oc0 bq c1 c2 c3 c4), (oc0 bp a1 a2 a3 a4), (oc2 dq y1 y2), (oc7 sh (.ref fa) (nI ft)), (oq fa cF 200 FA)]) hP hD [0, 1, 2, 3, 4, 5, 6] (by decide) rfl
        rw [hQ9]
        exact W.zret (ty := .boolean) (v := 0) hx hb hr (rfl) (fun t ht hW => ⟨⟨congrArg (fun z => Outcome.returned (some (Value.int z))) (show (0 : Int32) = pI (clP ft st tn kd mn cx cy wd gp9 f0 g0) from (zp_f (fun h => hb9 ⟨h.1, h.2.1⟩)).symm), c1, c2, c3, c4, a1, a2, a3, a4, y1, y2, by rw [ht]; exact hP9, hD9⟩, hS.F ht⟩) hS.2.2 dX10_isClash_61
    · skip
      refine va_get (D := (dC, dI)) (ci := 8) (v := .ref sh) (C := RX10) (T := TX10) (N := 13) hx hb hts inX10 hown hK hP 0 rfl rfl 0 (by decide) (hts _ mw_309) (fun _ h9 => h9) rfl dX10_isClash_1 ?_
      refine lv_iload_n hx hb dX10_isClash_4 rfl (lv_at hl 1 rfl) ?_
      obtain ⟨hPc, hDc, hFc⟩ := zc_sub (wc := [(oc7 sh (.ref fa) (nI ft)), (oq fa cF 200 FA)]) hP hD hS hA [5, 6] (by decide) rfl
      refine zcall (st1 := [.ref fe2]) (va_runV (As := [.int (nI f0)]) (rest := []) ⟨hx, hb, hml, hown, hts⟩ (k_Sheet_find l dC dI cI cZ cF s.heap.size sh fa ft FA f0 fe2 (by omega) (by omega) (by first | exact hFA2 | exact hFA9 f0 (by omega))) (csV_94 hts rfl rfl ⟨Nat.le_of_ble_eq_true rfl, Nat.le_of_ble_eq_true rfl⟩) (zPV2 (q0 := 0) (ci := 7) hPc hDc hK3 hXN rfl rfl) rfl rfl hl.1 rfl (lv_room (Nat.le_of_ble_eq_true rfl)) dX10_isClash_5 ⟨Nat.le_of_ble_eq_true rfl, Nat.le_of_ble_eq_true rfl⟩) hS hFc hFc rfl (fun t H locs ht hB hk1 hS => ?_)
      obtain ⟨hP1, hD1⟩ := hB
      rw [ht] at hP1
      obtain ⟨hP, hD⟩ := zkQ (W2 := [_, _, _, _, _, _, _]) hP hD [5, 6] [0, 1, 2, 3, 4] [0, 1, 2, 3, 4] [5, 6] [0, 1, 2, 3, 4, 5, 6] 7 rfl rfl rfl rfl rfl rfl rfl rfl rfl hk1 hFc hP1 hD1
      clear hk1 hPc hDc hFc hP1 hD1 ht
      refine lv_astore (lv' := [(4, .ref fe2), (0, .ref x), (1, .int (nI f0)), (2, .int (nI g0)), (3, .int gp9)]) hx hb dX10_isClash_8 hl (by decide) rfl (fun ls hl => ?_)
      rcases vwA_3 (P9 := ((st g0).toInt = 1)) (hva g0 (by omega)) with ⟨ht3, fe3, lk3, lo3, we3, fm3, hFA3, hfe3, hlk3⟩ | ⟨ht3, hA3, fe3, lk3, lo3, we3, fm3, r3, rx3, ry3, cap3, U3, V3, rg3, hFA3, hfe3, hlk3, ⟨hr3, hrx3, hry3, hne3⟩, hrr3⟩ | ⟨ht3, hA3, fe3, lk3, lo3, we3, fm3, r3, rx3, ry3, cap3, U3, V3, rg3, hFA3, hfe3, hlk3, ⟨hr3, hrx3, hry3, hne3⟩, hrr3⟩
      · skip
        refine lv_aload_n hx hb dX10_isClash_10 rfl (lv_at hl 1 rfl) ?_
        refine va_get (D := (dC, dI)) (ci := 8) (v := .ref sh) (C := RX10) (T := TX10) (N := 13) hx hb hts inX10 hown hK hP 0 rfl rfl 0 (by decide) (hts _ mw_309) (fun _ h9 => h9) rfl dX10_isClash_11 ?_
        refine lv_iload_n hx hb dX10_isClash_14 rfl (lv_at hl 3 rfl) ?_
        obtain ⟨hPc, hDc, hFc⟩ := zc_sub (wc := [(oc7 sh (.ref fa) (nI ft)), (oq fa cF 200 FA)]) hP hD hS hA [5, 6] (by decide) rfl
        refine zcall (st1 := [.ref fe3]) (va_runV (As := [.int (nI g0)]) (rest := []) ⟨hx, hb, hml, hown, hts⟩ (k_Sheet_find l dC dI cI cZ cF H.size sh fa ft FA g0 fe3 (by omega) (by omega) (by first | exact hFA3 | exact hFA9 g0 (by omega))) (csV_94 hts rfl rfl ⟨Nat.le_of_ble_eq_true rfl, Nat.le_of_ble_eq_true rfl⟩) (zPV2 (q0 := 0) (ci := 7) hPc hDc hK3 hXN rfl rfl) rfl rfl hl.1 rfl (lv_room (Nat.le_of_ble_eq_true rfl)) dX10_isClash_15 ⟨Nat.le_of_ble_eq_true rfl, Nat.le_of_ble_eq_true rfl⟩) hS hFc hFc rfl (fun t H locs ht hB hk1 hS => ?_)
        obtain ⟨hP1, hD1⟩ := hB
        rw [ht] at hP1
        obtain ⟨hP, hD⟩ := zkQ (W2 := [_, _, _, _, _, _, _]) hP hD [5, 6] [0, 1, 2, 3, 4] [0, 1, 2, 3, 4] [5, 6] [0, 1, 2, 3, 4, 5, 6] 7 rfl rfl rfl rfl rfl rfl rfl rfl rfl hk1 hFc hP1 hD1
        clear hk1 hPc hDc hFc hP1 hD1 ht
        refine lv_astore (lv' := [(5, .ref fe3), (4, .ref fe2), (0, .ref x), (1, .int (nI f0)), (2, .int (nI g0)), (3, .int gp9)]) hx hb dX10_isClash_18 hl (by decide) rfl (fun ls hl => ?_)
        refine lv_aload_n hx hb dX10_isClash_20 rfl (lv_at hl 2 rfl) ?_
        refine va_get (D := (dC, dI)) (ci := 8) (v := .ref sh) (C := RX10) (T := TX10) (N := 13) hx hb hts inX10 hown hK hP 0 rfl rfl 0 (by decide) (hts _ mw_309) (fun _ h9 => h9) rfl dX10_isClash_21 ?_
        have hc9_1 : inPl L f [(oc1 fe2 (rk f0) (wd f0) (tw f0) (pa f0) (pb f0) (.ref lo2) (.ref lk2) fm2), (oc4 lk2 (kd f0) (st f0) (.ref r2) (gb f0) (it f0) we2)] := ⟨hfe2, hlk2, trivial⟩
        have hD0_1 := hD
        obtain ⟨hP, hD⟩ := pl_out hP hD [(oc1 fe2 (rk f0) (wd f0) (tw f0) (pa f0) (pb f0) (.ref lo2) (.ref lk2) fm2), (oc4 lk2 (kd f0) (st f0) (.ref r2) (gb f0) (it f0) we2)] hc9_1 (pwF hfe2.2 hlk2.2)
        generalize hT_1 : outPl L [(oc1 fe2 (rk f0) (wd f0) (tw f0) (pa f0) (pb f0) (.ref lo2) (.ref lk2) fm2), (oc4 lk2 (kd f0) (st f0) (.ref r2) (gb f0) (it f0) we2)] = T_1 at hP hD
        obtain ⟨hP, hD⟩ := zre (W2 := ([_, _, _, _, _, _, _, _, _] ++ va_pl T_1 f)) hP hD rfl
        refine lv_iload_n hx hb dX10_isClash_24 rfl (lv_at hl 3 rfl) ?_
        obtain ⟨hPc, hDc, hFc⟩ := zc_sub (wc := [(oc7 sh (.ref fa) (nI ft)), (oq fa cF 200 FA), (oc1 fe2 (rk f0) (wd f0) (tw f0) (pa f0) (pb f0) (.ref lo2) (.ref lk2) fm2), (oc4 lk2 (kd f0) (st f0) (.ref r2) (gb f0) (it f0) we2)]) hP hD hS hA [5, 6, 7, 8] (by decide) rfl
        refine zcall (st1 := [.ref r2]) (va_runV (As := [.int (nI f0)]) (rest := []) ⟨hx, hb, hml, hown, hts⟩ (k_Sheet_rowThere_yv l dC dI cI cZ cF H.size sh fa ft FA f0 fe2 lo2 (rk f0) (wd f0) (tw f0) (pa f0) (pb f0) lk2 (kd f0) (st f0) (gb f0) (it f0) we2 r2 fm2 (by omega) (by omega) (by first | exact hFA2 | exact hFA9 f0 (by omega)) (by first | exact hst | exact hA2 | omega)) (csV_144 hts rfl rfl ⟨Nat.le_of_ble_eq_true rfl, Nat.le_of_ble_eq_true rfl⟩) (zPV2 (q0 := 0) (ci := 7) hPc hDc hK3 hXN rfl rfl) rfl rfl hl.1 rfl (lv_room (Nat.le_of_ble_eq_true rfl)) dX10_isClash_25 ⟨Nat.le_of_ble_eq_true rfl, Nat.le_of_ble_eq_true rfl⟩) hS hFc hFc rfl (fun t H locs ht hB hk1 hS => ?_)
        obtain ⟨hP1, hD1⟩ := hB
        rw [ht] at hP1
        obtain ⟨hP, hD⟩ := zkQ (W2 := [_, _, _, _, _, _, _, _, _]) hP hD [5, 6, 7, 8] [0, 1, 2, 3, 4] [0, 1, 2, 3, 4] [5, 6, 7, 8] [0, 1, 2, 3, 4, 5, 6, 7, 8] 9 rfl rfl rfl rfl rfl rfl rfl rfl rfl hk1 hFc hP1 hD1
        clear hk1 hPc hDc hFc hP1 hD1 ht
        obtain ⟨hP, hD⟩ := pl_bk (X := [_, _, _, _, _, _, _]) hT_1 hP rfl hc9_1 hD0_1 rfl
        refine lv_astore (lv' := [(6, .ref r2), (5, .ref fe3), (4, .ref fe2), (0, .ref x), (1, .int (nI f0)), (2, .int (nI g0)), (3, .int gp9)]) hx hb dX10_isClash_28 hl (by decide) rfl (fun ls hl => ?_)
        refine lv_aload_n hx hb dX10_isClash_30 rfl (lv_at hl 3 rfl) ?_
        refine va_get (D := (dC, dI)) (ci := 8) (v := .ref sh) (C := RX10) (T := TX10) (N := 13) hx hb hts inX10 hown hK hP 0 rfl rfl 0 (by decide) (hts _ mw_309) (fun _ h9 => h9) rfl dX10_isClash_31 ?_
        have hc9_2 : inPl L f [(oc1 fe3 (rk g0) (wd g0) (tw g0) (pa g0) (pb g0) (.ref lo3) (.ref lk3) fm3), (oc4 lk3 (kd g0) (st g0) .null (gb g0) (it g0) we3)] := ⟨hfe3, hlk3, trivial⟩
        have hD0_2 := hD
        obtain ⟨hP, hD⟩ := pl_out hP hD [(oc1 fe3 (rk g0) (wd g0) (tw g0) (pa g0) (pb g0) (.ref lo3) (.ref lk3) fm3), (oc4 lk3 (kd g0) (st g0) .null (gb g0) (it g0) we3)] hc9_2 (pwF hfe3.2 hlk3.2)
        generalize hT_2 : outPl L [(oc1 fe3 (rk g0) (wd g0) (tw g0) (pa g0) (pb g0) (.ref lo3) (.ref lk3) fm3), (oc4 lk3 (kd g0) (st g0) .null (gb g0) (it g0) we3)] = T_2 at hP hD
        obtain ⟨hP, hD⟩ := zre (W2 := ([_, _, _, _, _, _, _, _, _] ++ va_pl T_2 f)) hP hD rfl
        refine lv_iload_n hx hb dX10_isClash_34 rfl (lv_at hl 5 rfl) ?_
        obtain ⟨hPc, hDc, hFc⟩ := zc_sub (wc := [(oc7 sh (.ref fa) (nI ft)), (oq fa cF 200 FA), (oc1 fe3 (rk g0) (wd g0) (tw g0) (pa g0) (pb g0) (.ref lo3) (.ref lk3) fm3), (oc4 lk3 (kd g0) (st g0) .null (gb g0) (it g0) we3)]) hP hD hS hA [5, 6, 7, 8] (by decide) rfl
        refine zcall (st1 := [.null]) (va_runV (As := [.int (nI g0)]) (rest := []) ⟨hx, hb, hml, hown, hts⟩ (k_Sheet_rowThere_tv l dC dI cI cZ cF H.size sh fa ft FA g0 fe3 lo3 (rk g0) (wd g0) (tw g0) (pa g0) (pb g0) lk3 (kd g0) (st g0) (gb g0) (it g0) we3 fm3 (by omega) (by omega) (by first | exact hFA3 | exact hFA9 g0 (by omega))) (csV_144 hts rfl rfl ⟨Nat.le_of_ble_eq_true rfl, Nat.le_of_ble_eq_true rfl⟩) (zPV2 (q0 := 0) (ci := 7) hPc hDc hK3 hXN rfl rfl) rfl rfl hl.1 rfl (lv_room (Nat.le_of_ble_eq_true rfl)) dX10_isClash_35 ⟨Nat.le_of_ble_eq_true rfl, Nat.le_of_ble_eq_true rfl⟩) hS hFc hFc rfl (fun t H locs ht hB hk1 hS => ?_)
        obtain ⟨hP1, hD1⟩ := hB
        rw [ht] at hP1
        obtain ⟨hP, hD⟩ := zkQ (W2 := [_, _, _, _, _, _, _, _, _]) hP hD [5, 6, 7, 8] [0, 1, 2, 3, 4] [0, 1, 2, 3, 4] [5, 6, 7, 8] [0, 1, 2, 3, 4, 5, 6, 7, 8] 9 rfl rfl rfl rfl rfl rfl rfl rfl rfl hk1 hFc hP1 hD1
        clear hk1 hPc hDc hFc hP1 hD1 ht
        obtain ⟨hP, hD⟩ := pl_bk (X := [_, _, _, _, _, _, _]) hT_2 hP rfl hc9_2 hD0_2 rfl
        refine lv_astoreN (lv' := [(7, .null), (6, .ref r2), (5, .ref fe3), (4, .ref fe2), (0, .ref x), (1, .int (nI f0)), (2, .int (nI g0)), (3, .int gp9)]) hx hb dX10_isClash_38 hl (by decide) rfl (fun ls hl => ?_)
        refine lv_aload hx hb dX10_isClash_40 (lv_at hl 3 rfl) ?_
        refine lv_ifnull hx hb dX10_isClash_42 ?_
        refine lv_aload hx hb dX10_isClash_45 (lv_at hl 2 rfl) ?_
        refine lv_ifnull hx hb dX10_isClash_47 ?_
        refine lv_aload hx hb dX10_isClash_50 (lv_at hl 1 rfl) ?_
        refine lv_ifnull hx hb dX10_isClash_52 ?_
        refine lv_aloadN hx hb dX10_isClash_55 (lv_at hl 0 rfl) ?_
        refine lv_ifnonnullN hx hb dX10_isClash_57 ?_
        refine lv_iconst (v := 0) hx hb dX10_isClash_60 (by decide) ?_
        obtain ⟨hP9, hD9⟩ := zq_part (cx := [(oc8 x (.ref sh) (.ref lw) (.ref ro) (.ref bq) (.ref bp) (.ref dq) (.ref dp) (.ref lv) (.ref sl) (nI dn) sd ul su), (oc10 sl mc9 (.ref ea) (nI T)), (oc0 bq c1 c2 c3 c4), (oc0 bp a1 a2 a3 a4), (oc2 dq y1 y2), (oc7 sh (.ref fa) (nI ft)), (oq fa cF 200 FA)]) hP hD [0, 1, 2, 3, 4, 5, 6] (by decide) rfl
        rw [hQ9]
        exact W.zret (ty := .boolean) (v := 0) hx hb hr (rfl) (fun t ht hW => ⟨⟨congrArg (fun z => Outcome.returned (some (Value.int z))) (show (0 : Int32) = pI (clP ft st tn kd mn cx cy wd gp9 f0 g0) from (zp_f (fun h => hb9 ⟨h.1, h.2.1⟩)).symm), c1, c2, c3, c4, a1, a2, a3, a4, y1, y2, by rw [ht]; exact hP9, hD9⟩, hS.F ht⟩) hS.2.2 dX10_isClash_61
      · skip
        refine lv_aload_n hx hb dX10_isClash_10 rfl (lv_at hl 1 rfl) ?_
        refine va_get (D := (dC, dI)) (ci := 8) (v := .ref sh) (C := RX10) (T := TX10) (N := 13) hx hb hts inX10 hown hK hP 0 rfl rfl 0 (by decide) (hts _ mw_309) (fun _ h9 => h9) rfl dX10_isClash_11 ?_
        refine lv_iload_n hx hb dX10_isClash_14 rfl (lv_at hl 3 rfl) ?_
        obtain ⟨hPc, hDc, hFc⟩ := zc_sub (wc := [(oc7 sh (.ref fa) (nI ft)), (oq fa cF 200 FA)]) hP hD hS hA [5, 6] (by decide) rfl
        refine zcall (st1 := [.ref fe3]) (va_runV (As := [.int (nI g0)]) (rest := []) ⟨hx, hb, hml, hown, hts⟩ (k_Sheet_find l dC dI cI cZ cF H.size sh fa ft FA g0 fe3 (by omega) (by omega) (by first | exact hFA3 | exact hFA9 g0 (by omega))) (csV_94 hts rfl rfl ⟨Nat.le_of_ble_eq_true rfl, Nat.le_of_ble_eq_true rfl⟩) (zPV2 (q0 := 0) (ci := 7) hPc hDc hK3 hXN rfl rfl) rfl rfl hl.1 rfl (lv_room (Nat.le_of_ble_eq_true rfl)) dX10_isClash_15 ⟨Nat.le_of_ble_eq_true rfl, Nat.le_of_ble_eq_true rfl⟩) hS hFc hFc rfl (fun t H locs ht hB hk1 hS => ?_)
        obtain ⟨hP1, hD1⟩ := hB
        rw [ht] at hP1
        obtain ⟨hP, hD⟩ := zkQ (W2 := [_, _, _, _, _, _, _]) hP hD [5, 6] [0, 1, 2, 3, 4] [0, 1, 2, 3, 4] [5, 6] [0, 1, 2, 3, 4, 5, 6] 7 rfl rfl rfl rfl rfl rfl rfl rfl rfl hk1 hFc hP1 hD1
        clear hk1 hPc hDc hFc hP1 hD1 ht
        refine lv_astore (lv' := [(5, .ref fe3), (4, .ref fe2), (0, .ref x), (1, .int (nI f0)), (2, .int (nI g0)), (3, .int gp9)]) hx hb dX10_isClash_18 hl (by decide) rfl (fun ls hl => ?_)
        refine lv_aload_n hx hb dX10_isClash_20 rfl (lv_at hl 2 rfl) ?_
        refine va_get (D := (dC, dI)) (ci := 8) (v := .ref sh) (C := RX10) (T := TX10) (N := 13) hx hb hts inX10 hown hK hP 0 rfl rfl 0 (by decide) (hts _ mw_309) (fun _ h9 => h9) rfl dX10_isClash_21 ?_
        have hc9_1 : inPl L f [(oc1 fe2 (rk f0) (wd f0) (tw f0) (pa f0) (pb f0) (.ref lo2) (.ref lk2) fm2), (oc4 lk2 (kd f0) (st f0) (.ref r2) (gb f0) (it f0) we2)] := ⟨hfe2, hlk2, trivial⟩
        have hD0_1 := hD
        obtain ⟨hP, hD⟩ := pl_out hP hD [(oc1 fe2 (rk f0) (wd f0) (tw f0) (pa f0) (pb f0) (.ref lo2) (.ref lk2) fm2), (oc4 lk2 (kd f0) (st f0) (.ref r2) (gb f0) (it f0) we2)] hc9_1 (pwF hfe2.2 hlk2.2)
        generalize hT_1 : outPl L [(oc1 fe2 (rk f0) (wd f0) (tw f0) (pa f0) (pb f0) (.ref lo2) (.ref lk2) fm2), (oc4 lk2 (kd f0) (st f0) (.ref r2) (gb f0) (it f0) we2)] = T_1 at hP hD
        obtain ⟨hP, hD⟩ := zre (W2 := ([_, _, _, _, _, _, _, _, _] ++ va_pl T_1 f)) hP hD rfl
        refine lv_iload_n hx hb dX10_isClash_24 rfl (lv_at hl 3 rfl) ?_
        obtain ⟨hPc, hDc, hFc⟩ := zc_sub (wc := [(oc7 sh (.ref fa) (nI ft)), (oq fa cF 200 FA), (oc1 fe2 (rk f0) (wd f0) (tw f0) (pa f0) (pb f0) (.ref lo2) (.ref lk2) fm2), (oc4 lk2 (kd f0) (st f0) (.ref r2) (gb f0) (it f0) we2)]) hP hD hS hA [5, 6, 7, 8] (by decide) rfl
        refine zcall (st1 := [.ref r2]) (va_runV (As := [.int (nI f0)]) (rest := []) ⟨hx, hb, hml, hown, hts⟩ (k_Sheet_rowThere_yv l dC dI cI cZ cF H.size sh fa ft FA f0 fe2 lo2 (rk f0) (wd f0) (tw f0) (pa f0) (pb f0) lk2 (kd f0) (st f0) (gb f0) (it f0) we2 r2 fm2 (by omega) (by omega) (by first | exact hFA2 | exact hFA9 f0 (by omega)) (by first | exact hst | exact hA2 | omega)) (csV_144 hts rfl rfl ⟨Nat.le_of_ble_eq_true rfl, Nat.le_of_ble_eq_true rfl⟩) (zPV2 (q0 := 0) (ci := 7) hPc hDc hK3 hXN rfl rfl) rfl rfl hl.1 rfl (lv_room (Nat.le_of_ble_eq_true rfl)) dX10_isClash_25 ⟨Nat.le_of_ble_eq_true rfl, Nat.le_of_ble_eq_true rfl⟩) hS hFc hFc rfl (fun t H locs ht hB hk1 hS => ?_)
        obtain ⟨hP1, hD1⟩ := hB
        rw [ht] at hP1
        obtain ⟨hP, hD⟩ := zkQ (W2 := [_, _, _, _, _, _, _, _, _]) hP hD [5, 6, 7, 8] [0, 1, 2, 3, 4] [0, 1, 2, 3, 4] [5, 6, 7, 8] [0, 1, 2, 3, 4, 5, 6, 7, 8] 9 rfl rfl rfl rfl rfl rfl rfl rfl rfl hk1 hFc hP1 hD1
        clear hk1 hPc hDc hFc hP1 hD1 ht
        obtain ⟨hP, hD⟩ := pl_bk (X := [_, _, _, _, _, _, _]) hT_1 hP rfl hc9_1 hD0_1 rfl
        refine lv_astore (lv' := [(6, .ref r2), (5, .ref fe3), (4, .ref fe2), (0, .ref x), (1, .int (nI f0)), (2, .int (nI g0)), (3, .int gp9)]) hx hb dX10_isClash_28 hl (by decide) rfl (fun ls hl => ?_)
        refine lv_aload_n hx hb dX10_isClash_30 rfl (lv_at hl 3 rfl) ?_
        refine va_get (D := (dC, dI)) (ci := 8) (v := .ref sh) (C := RX10) (T := TX10) (N := 13) hx hb hts inX10 hown hK hP 0 rfl rfl 0 (by decide) (hts _ mw_309) (fun _ h9 => h9) rfl dX10_isClash_31 ?_
        have hc9_2 : inPl L f [(oc1 fe3 (rk g0) (wd g0) (tw g0) (pa g0) (pb g0) (.ref lo3) (.ref lk3) fm3), (oc4 lk3 (kd g0) (st g0) (.ref r3) (gb g0) (it g0) we3)] := ⟨hfe3, hlk3, trivial⟩
        have hD0_2 := hD
        obtain ⟨hP, hD⟩ := pl_out hP hD [(oc1 fe3 (rk g0) (wd g0) (tw g0) (pa g0) (pb g0) (.ref lo3) (.ref lk3) fm3), (oc4 lk3 (kd g0) (st g0) (.ref r3) (gb g0) (it g0) we3)] hc9_2 (pwF hfe3.2 hlk3.2)
        generalize hT_2 : outPl L [(oc1 fe3 (rk g0) (wd g0) (tw g0) (pa g0) (pb g0) (.ref lo3) (.ref lk3) fm3), (oc4 lk3 (kd g0) (st g0) (.ref r3) (gb g0) (it g0) we3)] = T_2 at hP hD
        obtain ⟨hP, hD⟩ := zre (W2 := ([_, _, _, _, _, _, _, _, _] ++ va_pl T_2 f)) hP hD rfl
        refine lv_iload_n hx hb dX10_isClash_34 rfl (lv_at hl 5 rfl) ?_
        obtain ⟨hPc, hDc, hFc⟩ := zc_sub (wc := [(oc7 sh (.ref fa) (nI ft)), (oq fa cF 200 FA), (oc1 fe3 (rk g0) (wd g0) (tw g0) (pa g0) (pb g0) (.ref lo3) (.ref lk3) fm3), (oc4 lk3 (kd g0) (st g0) (.ref r3) (gb g0) (it g0) we3)]) hP hD hS hA [5, 6, 7, 8] (by decide) rfl
        refine zcall (st1 := [.ref r3]) (va_runV (As := [.int (nI g0)]) (rest := []) ⟨hx, hb, hml, hown, hts⟩ (k_Sheet_rowThere_yv l dC dI cI cZ cF H.size sh fa ft FA g0 fe3 lo3 (rk g0) (wd g0) (tw g0) (pa g0) (pb g0) lk3 (kd g0) (st g0) (gb g0) (it g0) we3 r3 fm3 (by omega) (by omega) (by first | exact hFA3 | exact hFA9 g0 (by omega)) (by first | exact hsg | exact hA3 | omega)) (csV_144 hts rfl rfl ⟨Nat.le_of_ble_eq_true rfl, Nat.le_of_ble_eq_true rfl⟩) (zPV2 (q0 := 0) (ci := 7) hPc hDc hK3 hXN rfl rfl) rfl rfl hl.1 rfl (lv_room (Nat.le_of_ble_eq_true rfl)) dX10_isClash_35 ⟨Nat.le_of_ble_eq_true rfl, Nat.le_of_ble_eq_true rfl⟩) hS hFc hFc rfl (fun t H locs ht hB hk1 hS => ?_)
        obtain ⟨hP1, hD1⟩ := hB
        rw [ht] at hP1
        obtain ⟨hP, hD⟩ := zkQ (W2 := [_, _, _, _, _, _, _, _, _]) hP hD [5, 6, 7, 8] [0, 1, 2, 3, 4] [0, 1, 2, 3, 4] [5, 6, 7, 8] [0, 1, 2, 3, 4, 5, 6, 7, 8] 9 rfl rfl rfl rfl rfl rfl rfl rfl rfl hk1 hFc hP1 hD1
        clear hk1 hPc hDc hFc hP1 hD1 ht
        obtain ⟨hP, hD⟩ := pl_bk (X := [_, _, _, _, _, _, _]) hT_2 hP rfl hc9_2 hD0_2 rfl
        refine lv_astore (lv' := [(7, .ref r3), (6, .ref r2), (5, .ref fe3), (4, .ref fe2), (0, .ref x), (1, .int (nI f0)), (2, .int (nI g0)), (3, .int gp9)]) hx hb dX10_isClash_38 hl (by decide) rfl (fun ls hl => ?_)
        refine lv_aload hx hb dX10_isClash_40 (lv_at hl 3 rfl) ?_
        refine lv_ifnull hx hb dX10_isClash_42 ?_
        refine lv_aload hx hb dX10_isClash_45 (lv_at hl 2 rfl) ?_
        refine lv_ifnull hx hb dX10_isClash_47 ?_
        refine lv_aload hx hb dX10_isClash_50 (lv_at hl 1 rfl) ?_
        refine lv_ifnull hx hb dX10_isClash_52 ?_
        refine lv_aload hx hb dX10_isClash_55 (lv_at hl 0 rfl) ?_
        refine lv_ifnonnull (tgt := 62) hx hb dX10_isClash_57 (by decide) ?_
        exact absurd ⟨⟨by omega, hA2, ht2⟩, ⟨by omega, hA3, ht3⟩⟩ hb9
      · skip
        refine lv_aload_n hx hb dX10_isClash_10 rfl (lv_at hl 1 rfl) ?_
        refine va_get (D := (dC, dI)) (ci := 8) (v := .ref sh) (C := RX10) (T := TX10) (N := 13) hx hb hts inX10 hown hK hP 0 rfl rfl 0 (by decide) (hts _ mw_309) (fun _ h9 => h9) rfl dX10_isClash_11 ?_
        refine lv_iload_n hx hb dX10_isClash_14 rfl (lv_at hl 3 rfl) ?_
        obtain ⟨hPc, hDc, hFc⟩ := zc_sub (wc := [(oc7 sh (.ref fa) (nI ft)), (oq fa cF 200 FA)]) hP hD hS hA [5, 6] (by decide) rfl
        refine zcall (st1 := [.ref fe3]) (va_runV (As := [.int (nI g0)]) (rest := []) ⟨hx, hb, hml, hown, hts⟩ (k_Sheet_find l dC dI cI cZ cF H.size sh fa ft FA g0 fe3 (by omega) (by omega) (by first | exact hFA3 | exact hFA9 g0 (by omega))) (csV_94 hts rfl rfl ⟨Nat.le_of_ble_eq_true rfl, Nat.le_of_ble_eq_true rfl⟩) (zPV2 (q0 := 0) (ci := 7) hPc hDc hK3 hXN rfl rfl) rfl rfl hl.1 rfl (lv_room (Nat.le_of_ble_eq_true rfl)) dX10_isClash_15 ⟨Nat.le_of_ble_eq_true rfl, Nat.le_of_ble_eq_true rfl⟩) hS hFc hFc rfl (fun t H locs ht hB hk1 hS => ?_)
        obtain ⟨hP1, hD1⟩ := hB
        rw [ht] at hP1
        obtain ⟨hP, hD⟩ := zkQ (W2 := [_, _, _, _, _, _, _]) hP hD [5, 6] [0, 1, 2, 3, 4] [0, 1, 2, 3, 4] [5, 6] [0, 1, 2, 3, 4, 5, 6] 7 rfl rfl rfl rfl rfl rfl rfl rfl rfl hk1 hFc hP1 hD1
        clear hk1 hPc hDc hFc hP1 hD1 ht
        refine lv_astore (lv' := [(5, .ref fe3), (4, .ref fe2), (0, .ref x), (1, .int (nI f0)), (2, .int (nI g0)), (3, .int gp9)]) hx hb dX10_isClash_18 hl (by decide) rfl (fun ls hl => ?_)
        refine lv_aload_n hx hb dX10_isClash_20 rfl (lv_at hl 2 rfl) ?_
        refine va_get (D := (dC, dI)) (ci := 8) (v := .ref sh) (C := RX10) (T := TX10) (N := 13) hx hb hts inX10 hown hK hP 0 rfl rfl 0 (by decide) (hts _ mw_309) (fun _ h9 => h9) rfl dX10_isClash_21 ?_
        have hc9_1 : inPl L f [(oc1 fe2 (rk f0) (wd f0) (tw f0) (pa f0) (pb f0) (.ref lo2) (.ref lk2) fm2), (oc4 lk2 (kd f0) (st f0) (.ref r2) (gb f0) (it f0) we2)] := ⟨hfe2, hlk2, trivial⟩
        have hD0_1 := hD
        obtain ⟨hP, hD⟩ := pl_out hP hD [(oc1 fe2 (rk f0) (wd f0) (tw f0) (pa f0) (pb f0) (.ref lo2) (.ref lk2) fm2), (oc4 lk2 (kd f0) (st f0) (.ref r2) (gb f0) (it f0) we2)] hc9_1 (pwF hfe2.2 hlk2.2)
        generalize hT_1 : outPl L [(oc1 fe2 (rk f0) (wd f0) (tw f0) (pa f0) (pb f0) (.ref lo2) (.ref lk2) fm2), (oc4 lk2 (kd f0) (st f0) (.ref r2) (gb f0) (it f0) we2)] = T_1 at hP hD
        obtain ⟨hP, hD⟩ := zre (W2 := ([_, _, _, _, _, _, _, _, _] ++ va_pl T_1 f)) hP hD rfl
        refine lv_iload_n hx hb dX10_isClash_24 rfl (lv_at hl 3 rfl) ?_
        obtain ⟨hPc, hDc, hFc⟩ := zc_sub (wc := [(oc7 sh (.ref fa) (nI ft)), (oq fa cF 200 FA), (oc1 fe2 (rk f0) (wd f0) (tw f0) (pa f0) (pb f0) (.ref lo2) (.ref lk2) fm2), (oc4 lk2 (kd f0) (st f0) (.ref r2) (gb f0) (it f0) we2)]) hP hD hS hA [5, 6, 7, 8] (by decide) rfl
        refine zcall (st1 := [.ref r2]) (va_runV (As := [.int (nI f0)]) (rest := []) ⟨hx, hb, hml, hown, hts⟩ (k_Sheet_rowThere_yv l dC dI cI cZ cF H.size sh fa ft FA f0 fe2 lo2 (rk f0) (wd f0) (tw f0) (pa f0) (pb f0) lk2 (kd f0) (st f0) (gb f0) (it f0) we2 r2 fm2 (by omega) (by omega) (by first | exact hFA2 | exact hFA9 f0 (by omega)) (by first | exact hst | exact hA2 | omega)) (csV_144 hts rfl rfl ⟨Nat.le_of_ble_eq_true rfl, Nat.le_of_ble_eq_true rfl⟩) (zPV2 (q0 := 0) (ci := 7) hPc hDc hK3 hXN rfl rfl) rfl rfl hl.1 rfl (lv_room (Nat.le_of_ble_eq_true rfl)) dX10_isClash_25 ⟨Nat.le_of_ble_eq_true rfl, Nat.le_of_ble_eq_true rfl⟩) hS hFc hFc rfl (fun t H locs ht hB hk1 hS => ?_)
        obtain ⟨hP1, hD1⟩ := hB
        rw [ht] at hP1
        obtain ⟨hP, hD⟩ := zkQ (W2 := [_, _, _, _, _, _, _, _, _]) hP hD [5, 6, 7, 8] [0, 1, 2, 3, 4] [0, 1, 2, 3, 4] [5, 6, 7, 8] [0, 1, 2, 3, 4, 5, 6, 7, 8] 9 rfl rfl rfl rfl rfl rfl rfl rfl rfl hk1 hFc hP1 hD1
        clear hk1 hPc hDc hFc hP1 hD1 ht
        obtain ⟨hP, hD⟩ := pl_bk (X := [_, _, _, _, _, _, _]) hT_1 hP rfl hc9_1 hD0_1 rfl
        refine lv_astore (lv' := [(6, .ref r2), (5, .ref fe3), (4, .ref fe2), (0, .ref x), (1, .int (nI f0)), (2, .int (nI g0)), (3, .int gp9)]) hx hb dX10_isClash_28 hl (by decide) rfl (fun ls hl => ?_)
        refine lv_aload_n hx hb dX10_isClash_30 rfl (lv_at hl 3 rfl) ?_
        refine va_get (D := (dC, dI)) (ci := 8) (v := .ref sh) (C := RX10) (T := TX10) (N := 13) hx hb hts inX10 hown hK hP 0 rfl rfl 0 (by decide) (hts _ mw_309) (fun _ h9 => h9) rfl dX10_isClash_31 ?_
        have hc9_2 : inPl L f [(oc1 fe3 (rk g0) (wd g0) (tw g0) (pa g0) (pb g0) (.ref lo3) (.ref lk3) fm3), (oc4 lk3 (kd g0) (st g0) (.ref r3) (gb g0) (it g0) we3)] := ⟨hfe3, hlk3, trivial⟩
        have hD0_2 := hD
        obtain ⟨hP, hD⟩ := pl_out hP hD [(oc1 fe3 (rk g0) (wd g0) (tw g0) (pa g0) (pb g0) (.ref lo3) (.ref lk3) fm3), (oc4 lk3 (kd g0) (st g0) (.ref r3) (gb g0) (it g0) we3)] hc9_2 (pwF hfe3.2 hlk3.2)
        generalize hT_2 : outPl L [(oc1 fe3 (rk g0) (wd g0) (tw g0) (pa g0) (pb g0) (.ref lo3) (.ref lk3) fm3), (oc4 lk3 (kd g0) (st g0) (.ref r3) (gb g0) (it g0) we3)] = T_2 at hP hD
        obtain ⟨hP, hD⟩ := zre (W2 := ([_, _, _, _, _, _, _, _, _] ++ va_pl T_2 f)) hP hD rfl
        refine lv_iload_n hx hb dX10_isClash_34 rfl (lv_at hl 5 rfl) ?_
        obtain ⟨hPc, hDc, hFc⟩ := zc_sub (wc := [(oc7 sh (.ref fa) (nI ft)), (oq fa cF 200 FA), (oc1 fe3 (rk g0) (wd g0) (tw g0) (pa g0) (pb g0) (.ref lo3) (.ref lk3) fm3), (oc4 lk3 (kd g0) (st g0) (.ref r3) (gb g0) (it g0) we3)]) hP hD hS hA [5, 6, 7, 8] (by decide) rfl
        refine zcall (st1 := [.null]) (va_runV (As := [.int (nI g0)]) (rest := []) ⟨hx, hb, hml, hown, hts⟩ (k_Sheet_rowThere_sv l dC dI cI cZ cF H.size sh fa ft FA g0 fe3 lo3 (rk g0) (wd g0) (tw g0) (pa g0) (pb g0) lk3 (kd g0) (st g0) (gb g0) (it g0) we3 fm3 (.ref r3) (by omega) (by omega) (by first | exact hFA3 | exact hFA9 g0 (by omega)) (by first | exact hsg | exact hA3 | omega)) (csV_144 hts rfl rfl ⟨Nat.le_of_ble_eq_true rfl, Nat.le_of_ble_eq_true rfl⟩) (zPV2 (q0 := 0) (ci := 7) hPc hDc hK3 hXN rfl rfl) rfl rfl hl.1 rfl (lv_room (Nat.le_of_ble_eq_true rfl)) dX10_isClash_35 ⟨Nat.le_of_ble_eq_true rfl, Nat.le_of_ble_eq_true rfl⟩) hS hFc hFc rfl (fun t H locs ht hB hk1 hS => ?_)
        obtain ⟨hP1, hD1⟩ := hB
        rw [ht] at hP1
        obtain ⟨hP, hD⟩ := zkQ (W2 := [_, _, _, _, _, _, _, _, _]) hP hD [5, 6, 7, 8] [0, 1, 2, 3, 4] [0, 1, 2, 3, 4] [5, 6, 7, 8] [0, 1, 2, 3, 4, 5, 6, 7, 8] 9 rfl rfl rfl rfl rfl rfl rfl rfl rfl hk1 hFc hP1 hD1
        clear hk1 hPc hDc hFc hP1 hD1 ht
        obtain ⟨hP, hD⟩ := pl_bk (X := [_, _, _, _, _, _, _]) hT_2 hP rfl hc9_2 hD0_2 rfl
        refine lv_astoreN (lv' := [(7, .null), (6, .ref r2), (5, .ref fe3), (4, .ref fe2), (0, .ref x), (1, .int (nI f0)), (2, .int (nI g0)), (3, .int gp9)]) hx hb dX10_isClash_38 hl (by decide) rfl (fun ls hl => ?_)
        refine lv_aload hx hb dX10_isClash_40 (lv_at hl 3 rfl) ?_
        refine lv_ifnull hx hb dX10_isClash_42 ?_
        refine lv_aload hx hb dX10_isClash_45 (lv_at hl 2 rfl) ?_
        refine lv_ifnull hx hb dX10_isClash_47 ?_
        refine lv_aload hx hb dX10_isClash_50 (lv_at hl 1 rfl) ?_
        refine lv_ifnull hx hb dX10_isClash_52 ?_
        refine lv_aloadN hx hb dX10_isClash_55 (lv_at hl 0 rfl) ?_
        refine lv_ifnonnullN hx hb dX10_isClash_57 ?_
        refine lv_iconst (v := 0) hx hb dX10_isClash_60 (by decide) ?_
        obtain ⟨hP9, hD9⟩ := zq_part (cx := [(oc8 x (.ref sh) (.ref lw) (.ref ro) (.ref bq) (.ref bp) (.ref dq) (.ref dp) (.ref lv) (.ref sl) (nI dn) sd ul su), (oc10 sl mc9 (.ref ea) (nI T)), (oc0 bq c1 c2 c3 c4), (oc0 bp a1 a2 a3 a4), (oc2 dq y1 y2), (oc7 sh (.ref fa) (nI ft)), (oq fa cF 200 FA)]) hP hD [0, 1, 2, 3, 4, 5, 6] (by decide) rfl
        rw [hQ9]
        exact W.zret (ty := .boolean) (v := 0) hx hb hr (rfl) (fun t ht hW => ⟨⟨congrArg (fun z => Outcome.returned (some (Value.int z))) (show (0 : Int32) = pI (clP ft st tn kd mn cx cy wd gp9 f0 g0) from (zp_f (fun h => hb9 ⟨h.1, h.2.1⟩)).symm), c1, c2, c3, c4, a1, a2, a3, a4, y1, y2, by rw [ht]; exact hP9, hD9⟩, hS.F ht⟩) hS.2.2 dX10_isClash_61
    · skip
      refine va_get (D := (dC, dI)) (ci := 8) (v := .ref sh) (C := RX10) (T := TX10) (N := 13) hx hb hts inX10 hown hK hP 0 rfl rfl 0 (by decide) (hts _ mw_309) (fun _ h9 => h9) rfl dX10_isClash_1 ?_
      refine lv_iload_n hx hb dX10_isClash_4 rfl (lv_at hl 1 rfl) ?_
      obtain ⟨hPc, hDc, hFc⟩ := zc_sub (wc := [(oc7 sh (.ref fa) (nI ft)), (oq fa cF 200 FA)]) hP hD hS hA [5, 6] (by decide) rfl
      refine zcall (st1 := [.ref fe2]) (va_runV (As := [.int (nI f0)]) (rest := []) ⟨hx, hb, hml, hown, hts⟩ (k_Sheet_find l dC dI cI cZ cF s.heap.size sh fa ft FA f0 fe2 (by omega) (by omega) (by first | exact hFA2 | exact hFA9 f0 (by omega))) (csV_94 hts rfl rfl ⟨Nat.le_of_ble_eq_true rfl, Nat.le_of_ble_eq_true rfl⟩) (zPV2 (q0 := 0) (ci := 7) hPc hDc hK3 hXN rfl rfl) rfl rfl hl.1 rfl (lv_room (Nat.le_of_ble_eq_true rfl)) dX10_isClash_5 ⟨Nat.le_of_ble_eq_true rfl, Nat.le_of_ble_eq_true rfl⟩) hS hFc hFc rfl (fun t H locs ht hB hk1 hS => ?_)
      obtain ⟨hP1, hD1⟩ := hB
      rw [ht] at hP1
      obtain ⟨hP, hD⟩ := zkQ (W2 := [_, _, _, _, _, _, _]) hP hD [5, 6] [0, 1, 2, 3, 4] [0, 1, 2, 3, 4] [5, 6] [0, 1, 2, 3, 4, 5, 6] 7 rfl rfl rfl rfl rfl rfl rfl rfl rfl hk1 hFc hP1 hD1
      clear hk1 hPc hDc hFc hP1 hD1 ht
      refine lv_astore (lv' := [(4, .ref fe2), (0, .ref x), (1, .int (nI f0)), (2, .int (nI g0)), (3, .int gp9)]) hx hb dX10_isClash_8 hl (by decide) rfl (fun ls hl => ?_)
      rcases vwA_3 (P9 := ((st g0).toInt = 1)) (hva g0 (by omega)) with ⟨ht3, fe3, lk3, lo3, we3, fm3, hFA3, hfe3, hlk3⟩ | ⟨ht3, hA3, fe3, lk3, lo3, we3, fm3, r3, rx3, ry3, cap3, U3, V3, rg3, hFA3, hfe3, hlk3, ⟨hr3, hrx3, hry3, hne3⟩, hrr3⟩ | ⟨ht3, hA3, fe3, lk3, lo3, we3, fm3, r3, rx3, ry3, cap3, U3, V3, rg3, hFA3, hfe3, hlk3, ⟨hr3, hrx3, hry3, hne3⟩, hrr3⟩
      · skip
        refine lv_aload_n hx hb dX10_isClash_10 rfl (lv_at hl 1 rfl) ?_
        refine va_get (D := (dC, dI)) (ci := 8) (v := .ref sh) (C := RX10) (T := TX10) (N := 13) hx hb hts inX10 hown hK hP 0 rfl rfl 0 (by decide) (hts _ mw_309) (fun _ h9 => h9) rfl dX10_isClash_11 ?_
        refine lv_iload_n hx hb dX10_isClash_14 rfl (lv_at hl 3 rfl) ?_
        obtain ⟨hPc, hDc, hFc⟩ := zc_sub (wc := [(oc7 sh (.ref fa) (nI ft)), (oq fa cF 200 FA)]) hP hD hS hA [5, 6] (by decide) rfl
        refine zcall (st1 := [.ref fe3]) (va_runV (As := [.int (nI g0)]) (rest := []) ⟨hx, hb, hml, hown, hts⟩ (k_Sheet_find l dC dI cI cZ cF H.size sh fa ft FA g0 fe3 (by omega) (by omega) (by first | exact hFA3 | exact hFA9 g0 (by omega))) (csV_94 hts rfl rfl ⟨Nat.le_of_ble_eq_true rfl, Nat.le_of_ble_eq_true rfl⟩) (zPV2 (q0 := 0) (ci := 7) hPc hDc hK3 hXN rfl rfl) rfl rfl hl.1 rfl (lv_room (Nat.le_of_ble_eq_true rfl)) dX10_isClash_15 ⟨Nat.le_of_ble_eq_true rfl, Nat.le_of_ble_eq_true rfl⟩) hS hFc hFc rfl (fun t H locs ht hB hk1 hS => ?_)
        obtain ⟨hP1, hD1⟩ := hB
        rw [ht] at hP1
        obtain ⟨hP, hD⟩ := zkQ (W2 := [_, _, _, _, _, _, _]) hP hD [5, 6] [0, 1, 2, 3, 4] [0, 1, 2, 3, 4] [5, 6] [0, 1, 2, 3, 4, 5, 6] 7 rfl rfl rfl rfl rfl rfl rfl rfl rfl hk1 hFc hP1 hD1
        clear hk1 hPc hDc hFc hP1 hD1 ht
        refine lv_astore (lv' := [(5, .ref fe3), (4, .ref fe2), (0, .ref x), (1, .int (nI f0)), (2, .int (nI g0)), (3, .int gp9)]) hx hb dX10_isClash_18 hl (by decide) rfl (fun ls hl => ?_)
        refine lv_aload_n hx hb dX10_isClash_20 rfl (lv_at hl 2 rfl) ?_
        refine va_get (D := (dC, dI)) (ci := 8) (v := .ref sh) (C := RX10) (T := TX10) (N := 13) hx hb hts inX10 hown hK hP 0 rfl rfl 0 (by decide) (hts _ mw_309) (fun _ h9 => h9) rfl dX10_isClash_21 ?_
        have hc9_1 : inPl L f [(oc1 fe2 (rk f0) (wd f0) (tw f0) (pa f0) (pb f0) (.ref lo2) (.ref lk2) fm2), (oc4 lk2 (kd f0) (st f0) (.ref r2) (gb f0) (it f0) we2)] := ⟨hfe2, hlk2, trivial⟩
        have hD0_1 := hD
        obtain ⟨hP, hD⟩ := pl_out hP hD [(oc1 fe2 (rk f0) (wd f0) (tw f0) (pa f0) (pb f0) (.ref lo2) (.ref lk2) fm2), (oc4 lk2 (kd f0) (st f0) (.ref r2) (gb f0) (it f0) we2)] hc9_1 (pwF hfe2.2 hlk2.2)
        generalize hT_1 : outPl L [(oc1 fe2 (rk f0) (wd f0) (tw f0) (pa f0) (pb f0) (.ref lo2) (.ref lk2) fm2), (oc4 lk2 (kd f0) (st f0) (.ref r2) (gb f0) (it f0) we2)] = T_1 at hP hD
        obtain ⟨hP, hD⟩ := zre (W2 := ([_, _, _, _, _, _, _, _, _] ++ va_pl T_1 f)) hP hD rfl
        refine lv_iload_n hx hb dX10_isClash_24 rfl (lv_at hl 3 rfl) ?_
        obtain ⟨hPc, hDc, hFc⟩ := zc_sub (wc := [(oc7 sh (.ref fa) (nI ft)), (oq fa cF 200 FA), (oc1 fe2 (rk f0) (wd f0) (tw f0) (pa f0) (pb f0) (.ref lo2) (.ref lk2) fm2), (oc4 lk2 (kd f0) (st f0) (.ref r2) (gb f0) (it f0) we2)]) hP hD hS hA [5, 6, 7, 8] (by decide) rfl
        refine zcall (st1 := [.null]) (va_runV (As := [.int (nI f0)]) (rest := []) ⟨hx, hb, hml, hown, hts⟩ (k_Sheet_rowThere_sv l dC dI cI cZ cF H.size sh fa ft FA f0 fe2 lo2 (rk f0) (wd f0) (tw f0) (pa f0) (pb f0) lk2 (kd f0) (st f0) (gb f0) (it f0) we2 fm2 (.ref r2) (by omega) (by omega) (by first | exact hFA2 | exact hFA9 f0 (by omega)) (by first | exact hst | exact hA2 | omega)) (csV_144 hts rfl rfl ⟨Nat.le_of_ble_eq_true rfl, Nat.le_of_ble_eq_true rfl⟩) (zPV2 (q0 := 0) (ci := 7) hPc hDc hK3 hXN rfl rfl) rfl rfl hl.1 rfl (lv_room (Nat.le_of_ble_eq_true rfl)) dX10_isClash_25 ⟨Nat.le_of_ble_eq_true rfl, Nat.le_of_ble_eq_true rfl⟩) hS hFc hFc rfl (fun t H locs ht hB hk1 hS => ?_)
        obtain ⟨hP1, hD1⟩ := hB
        rw [ht] at hP1
        obtain ⟨hP, hD⟩ := zkQ (W2 := [_, _, _, _, _, _, _, _, _]) hP hD [5, 6, 7, 8] [0, 1, 2, 3, 4] [0, 1, 2, 3, 4] [5, 6, 7, 8] [0, 1, 2, 3, 4, 5, 6, 7, 8] 9 rfl rfl rfl rfl rfl rfl rfl rfl rfl hk1 hFc hP1 hD1
        clear hk1 hPc hDc hFc hP1 hD1 ht
        obtain ⟨hP, hD⟩ := pl_bk (X := [_, _, _, _, _, _, _]) hT_1 hP rfl hc9_1 hD0_1 rfl
        refine lv_astoreN (lv' := [(6, .null), (5, .ref fe3), (4, .ref fe2), (0, .ref x), (1, .int (nI f0)), (2, .int (nI g0)), (3, .int gp9)]) hx hb dX10_isClash_28 hl (by decide) rfl (fun ls hl => ?_)
        refine lv_aload_n hx hb dX10_isClash_30 rfl (lv_at hl 3 rfl) ?_
        refine va_get (D := (dC, dI)) (ci := 8) (v := .ref sh) (C := RX10) (T := TX10) (N := 13) hx hb hts inX10 hown hK hP 0 rfl rfl 0 (by decide) (hts _ mw_309) (fun _ h9 => h9) rfl dX10_isClash_31 ?_
        have hc9_2 : inPl L f [(oc1 fe3 (rk g0) (wd g0) (tw g0) (pa g0) (pb g0) (.ref lo3) (.ref lk3) fm3), (oc4 lk3 (kd g0) (st g0) .null (gb g0) (it g0) we3)] := ⟨hfe3, hlk3, trivial⟩
        have hD0_2 := hD
        obtain ⟨hP, hD⟩ := pl_out hP hD [(oc1 fe3 (rk g0) (wd g0) (tw g0) (pa g0) (pb g0) (.ref lo3) (.ref lk3) fm3), (oc4 lk3 (kd g0) (st g0) .null (gb g0) (it g0) we3)] hc9_2 (pwF hfe3.2 hlk3.2)
        generalize hT_2 : outPl L [(oc1 fe3 (rk g0) (wd g0) (tw g0) (pa g0) (pb g0) (.ref lo3) (.ref lk3) fm3), (oc4 lk3 (kd g0) (st g0) .null (gb g0) (it g0) we3)] = T_2 at hP hD
        obtain ⟨hP, hD⟩ := zre (W2 := ([_, _, _, _, _, _, _, _, _] ++ va_pl T_2 f)) hP hD rfl
        refine lv_iload_n hx hb dX10_isClash_34 rfl (lv_at hl 5 rfl) ?_
        obtain ⟨hPc, hDc, hFc⟩ := zc_sub (wc := [(oc7 sh (.ref fa) (nI ft)), (oq fa cF 200 FA), (oc1 fe3 (rk g0) (wd g0) (tw g0) (pa g0) (pb g0) (.ref lo3) (.ref lk3) fm3), (oc4 lk3 (kd g0) (st g0) .null (gb g0) (it g0) we3)]) hP hD hS hA [5, 6, 7, 8] (by decide) rfl
        refine zcall (st1 := [.null]) (va_runV (As := [.int (nI g0)]) (rest := []) ⟨hx, hb, hml, hown, hts⟩ (k_Sheet_rowThere_tv l dC dI cI cZ cF H.size sh fa ft FA g0 fe3 lo3 (rk g0) (wd g0) (tw g0) (pa g0) (pb g0) lk3 (kd g0) (st g0) (gb g0) (it g0) we3 fm3 (by omega) (by omega) (by first | exact hFA3 | exact hFA9 g0 (by omega))) (csV_144 hts rfl rfl ⟨Nat.le_of_ble_eq_true rfl, Nat.le_of_ble_eq_true rfl⟩) (zPV2 (q0 := 0) (ci := 7) hPc hDc hK3 hXN rfl rfl) rfl rfl hl.1 rfl (lv_room (Nat.le_of_ble_eq_true rfl)) dX10_isClash_35 ⟨Nat.le_of_ble_eq_true rfl, Nat.le_of_ble_eq_true rfl⟩) hS hFc hFc rfl (fun t H locs ht hB hk1 hS => ?_)
        obtain ⟨hP1, hD1⟩ := hB
        rw [ht] at hP1
        obtain ⟨hP, hD⟩ := zkQ (W2 := [_, _, _, _, _, _, _, _, _]) hP hD [5, 6, 7, 8] [0, 1, 2, 3, 4] [0, 1, 2, 3, 4] [5, 6, 7, 8] [0, 1, 2, 3, 4, 5, 6, 7, 8] 9 rfl rfl rfl rfl rfl rfl rfl rfl rfl hk1 hFc hP1 hD1
        clear hk1 hPc hDc hFc hP1 hD1 ht
        obtain ⟨hP, hD⟩ := pl_bk (X := [_, _, _, _, _, _, _]) hT_2 hP rfl hc9_2 hD0_2 rfl
        refine lv_astoreN (lv' := [(7, .null), (6, .null), (5, .ref fe3), (4, .ref fe2), (0, .ref x), (1, .int (nI f0)), (2, .int (nI g0)), (3, .int gp9)]) hx hb dX10_isClash_38 hl (by decide) rfl (fun ls hl => ?_)
        refine lv_aload hx hb dX10_isClash_40 (lv_at hl 3 rfl) ?_
        refine lv_ifnull hx hb dX10_isClash_42 ?_
        refine lv_aload hx hb dX10_isClash_45 (lv_at hl 2 rfl) ?_
        refine lv_ifnull hx hb dX10_isClash_47 ?_
        refine lv_aloadN hx hb dX10_isClash_50 (lv_at hl 1 rfl) ?_
        refine lv_ifnullN (tgt := 60) hx hb dX10_isClash_52 (by decide) ?_
        refine lv_iconst (v := 0) hx hb dX10_isClash_60 (by decide) ?_
        obtain ⟨hP9, hD9⟩ := zq_part (cx := [(oc8 x (.ref sh) (.ref lw) (.ref ro) (.ref bq) (.ref bp) (.ref dq) (.ref dp) (.ref lv) (.ref sl) (nI dn) sd ul su), (oc10 sl mc9 (.ref ea) (nI T)), (oc0 bq c1 c2 c3 c4), (oc0 bp a1 a2 a3 a4), (oc2 dq y1 y2), (oc7 sh (.ref fa) (nI ft)), (oq fa cF 200 FA)]) hP hD [0, 1, 2, 3, 4, 5, 6] (by decide) rfl
        rw [hQ9]
        exact W.zret (ty := .boolean) (v := 0) hx hb hr (rfl) (fun t ht hW => ⟨⟨congrArg (fun z => Outcome.returned (some (Value.int z))) (show (0 : Int32) = pI (clP ft st tn kd mn cx cy wd gp9 f0 g0) from (zp_f (fun h => hb9 ⟨h.1, h.2.1⟩)).symm), c1, c2, c3, c4, a1, a2, a3, a4, y1, y2, by rw [ht]; exact hP9, hD9⟩, hS.F ht⟩) hS.2.2 dX10_isClash_61
      · skip
        refine lv_aload_n hx hb dX10_isClash_10 rfl (lv_at hl 1 rfl) ?_
        refine va_get (D := (dC, dI)) (ci := 8) (v := .ref sh) (C := RX10) (T := TX10) (N := 13) hx hb hts inX10 hown hK hP 0 rfl rfl 0 (by decide) (hts _ mw_309) (fun _ h9 => h9) rfl dX10_isClash_11 ?_
        refine lv_iload_n hx hb dX10_isClash_14 rfl (lv_at hl 3 rfl) ?_
        obtain ⟨hPc, hDc, hFc⟩ := zc_sub (wc := [(oc7 sh (.ref fa) (nI ft)), (oq fa cF 200 FA)]) hP hD hS hA [5, 6] (by decide) rfl
        refine zcall (st1 := [.ref fe3]) (va_runV (As := [.int (nI g0)]) (rest := []) ⟨hx, hb, hml, hown, hts⟩ (k_Sheet_find l dC dI cI cZ cF H.size sh fa ft FA g0 fe3 (by omega) (by omega) (by first | exact hFA3 | exact hFA9 g0 (by omega))) (csV_94 hts rfl rfl ⟨Nat.le_of_ble_eq_true rfl, Nat.le_of_ble_eq_true rfl⟩) (zPV2 (q0 := 0) (ci := 7) hPc hDc hK3 hXN rfl rfl) rfl rfl hl.1 rfl (lv_room (Nat.le_of_ble_eq_true rfl)) dX10_isClash_15 ⟨Nat.le_of_ble_eq_true rfl, Nat.le_of_ble_eq_true rfl⟩) hS hFc hFc rfl (fun t H locs ht hB hk1 hS => ?_)
        obtain ⟨hP1, hD1⟩ := hB
        rw [ht] at hP1
        obtain ⟨hP, hD⟩ := zkQ (W2 := [_, _, _, _, _, _, _]) hP hD [5, 6] [0, 1, 2, 3, 4] [0, 1, 2, 3, 4] [5, 6] [0, 1, 2, 3, 4, 5, 6] 7 rfl rfl rfl rfl rfl rfl rfl rfl rfl hk1 hFc hP1 hD1
        clear hk1 hPc hDc hFc hP1 hD1 ht
        refine lv_astore (lv' := [(5, .ref fe3), (4, .ref fe2), (0, .ref x), (1, .int (nI f0)), (2, .int (nI g0)), (3, .int gp9)]) hx hb dX10_isClash_18 hl (by decide) rfl (fun ls hl => ?_)
        refine lv_aload_n hx hb dX10_isClash_20 rfl (lv_at hl 2 rfl) ?_
        refine va_get (D := (dC, dI)) (ci := 8) (v := .ref sh) (C := RX10) (T := TX10) (N := 13) hx hb hts inX10 hown hK hP 0 rfl rfl 0 (by decide) (hts _ mw_309) (fun _ h9 => h9) rfl dX10_isClash_21 ?_
        have hc9_1 : inPl L f [(oc1 fe2 (rk f0) (wd f0) (tw f0) (pa f0) (pb f0) (.ref lo2) (.ref lk2) fm2), (oc4 lk2 (kd f0) (st f0) (.ref r2) (gb f0) (it f0) we2)] := ⟨hfe2, hlk2, trivial⟩
        have hD0_1 := hD
        obtain ⟨hP, hD⟩ := pl_out hP hD [(oc1 fe2 (rk f0) (wd f0) (tw f0) (pa f0) (pb f0) (.ref lo2) (.ref lk2) fm2), (oc4 lk2 (kd f0) (st f0) (.ref r2) (gb f0) (it f0) we2)] hc9_1 (pwF hfe2.2 hlk2.2)
        generalize hT_1 : outPl L [(oc1 fe2 (rk f0) (wd f0) (tw f0) (pa f0) (pb f0) (.ref lo2) (.ref lk2) fm2), (oc4 lk2 (kd f0) (st f0) (.ref r2) (gb f0) (it f0) we2)] = T_1 at hP hD
        obtain ⟨hP, hD⟩ := zre (W2 := ([_, _, _, _, _, _, _, _, _] ++ va_pl T_1 f)) hP hD rfl
        refine lv_iload_n hx hb dX10_isClash_24 rfl (lv_at hl 3 rfl) ?_
        obtain ⟨hPc, hDc, hFc⟩ := zc_sub (wc := [(oc7 sh (.ref fa) (nI ft)), (oq fa cF 200 FA), (oc1 fe2 (rk f0) (wd f0) (tw f0) (pa f0) (pb f0) (.ref lo2) (.ref lk2) fm2), (oc4 lk2 (kd f0) (st f0) (.ref r2) (gb f0) (it f0) we2)]) hP hD hS hA [5, 6, 7, 8] (by decide) rfl
        refine zcall (st1 := [.null]) (va_runV (As := [.int (nI f0)]) (rest := []) ⟨hx, hb, hml, hown, hts⟩ (k_Sheet_rowThere_sv l dC dI cI cZ cF H.size sh fa ft FA f0 fe2 lo2 (rk f0) (wd f0) (tw f0) (pa f0) (pb f0) lk2 (kd f0) (st f0) (gb f0) (it f0) we2 fm2 (.ref r2) (by omega) (by omega) (by first | exact hFA2 | exact hFA9 f0 (by omega)) (by first | exact hst | exact hA2 | omega)) (csV_144 hts rfl rfl ⟨Nat.le_of_ble_eq_true rfl, Nat.le_of_ble_eq_true rfl⟩) (zPV2 (q0 := 0) (ci := 7) hPc hDc hK3 hXN rfl rfl) rfl rfl hl.1 rfl (lv_room (Nat.le_of_ble_eq_true rfl)) dX10_isClash_25 ⟨Nat.le_of_ble_eq_true rfl, Nat.le_of_ble_eq_true rfl⟩) hS hFc hFc rfl (fun t H locs ht hB hk1 hS => ?_)
        obtain ⟨hP1, hD1⟩ := hB
        rw [ht] at hP1
        obtain ⟨hP, hD⟩ := zkQ (W2 := [_, _, _, _, _, _, _, _, _]) hP hD [5, 6, 7, 8] [0, 1, 2, 3, 4] [0, 1, 2, 3, 4] [5, 6, 7, 8] [0, 1, 2, 3, 4, 5, 6, 7, 8] 9 rfl rfl rfl rfl rfl rfl rfl rfl rfl hk1 hFc hP1 hD1
        clear hk1 hPc hDc hFc hP1 hD1 ht
        obtain ⟨hP, hD⟩ := pl_bk (X := [_, _, _, _, _, _, _]) hT_1 hP rfl hc9_1 hD0_1 rfl
        refine lv_astoreN (lv' := [(6, .null), (5, .ref fe3), (4, .ref fe2), (0, .ref x), (1, .int (nI f0)), (2, .int (nI g0)), (3, .int gp9)]) hx hb dX10_isClash_28 hl (by decide) rfl (fun ls hl => ?_)
        refine lv_aload_n hx hb dX10_isClash_30 rfl (lv_at hl 3 rfl) ?_
        refine va_get (D := (dC, dI)) (ci := 8) (v := .ref sh) (C := RX10) (T := TX10) (N := 13) hx hb hts inX10 hown hK hP 0 rfl rfl 0 (by decide) (hts _ mw_309) (fun _ h9 => h9) rfl dX10_isClash_31 ?_
        have hc9_2 : inPl L f [(oc1 fe3 (rk g0) (wd g0) (tw g0) (pa g0) (pb g0) (.ref lo3) (.ref lk3) fm3), (oc4 lk3 (kd g0) (st g0) (.ref r3) (gb g0) (it g0) we3)] := ⟨hfe3, hlk3, trivial⟩
        have hD0_2 := hD
        obtain ⟨hP, hD⟩ := pl_out hP hD [(oc1 fe3 (rk g0) (wd g0) (tw g0) (pa g0) (pb g0) (.ref lo3) (.ref lk3) fm3), (oc4 lk3 (kd g0) (st g0) (.ref r3) (gb g0) (it g0) we3)] hc9_2 (pwF hfe3.2 hlk3.2)
        generalize hT_2 : outPl L [(oc1 fe3 (rk g0) (wd g0) (tw g0) (pa g0) (pb g0) (.ref lo3) (.ref lk3) fm3), (oc4 lk3 (kd g0) (st g0) (.ref r3) (gb g0) (it g0) we3)] = T_2 at hP hD
        obtain ⟨hP, hD⟩ := zre (W2 := ([_, _, _, _, _, _, _, _, _] ++ va_pl T_2 f)) hP hD rfl
        refine lv_iload_n hx hb dX10_isClash_34 rfl (lv_at hl 5 rfl) ?_
        obtain ⟨hPc, hDc, hFc⟩ := zc_sub (wc := [(oc7 sh (.ref fa) (nI ft)), (oq fa cF 200 FA), (oc1 fe3 (rk g0) (wd g0) (tw g0) (pa g0) (pb g0) (.ref lo3) (.ref lk3) fm3), (oc4 lk3 (kd g0) (st g0) (.ref r3) (gb g0) (it g0) we3)]) hP hD hS hA [5, 6, 7, 8] (by decide) rfl
        refine zcall (st1 := [.ref r3]) (va_runV (As := [.int (nI g0)]) (rest := []) ⟨hx, hb, hml, hown, hts⟩ (k_Sheet_rowThere_yv l dC dI cI cZ cF H.size sh fa ft FA g0 fe3 lo3 (rk g0) (wd g0) (tw g0) (pa g0) (pb g0) lk3 (kd g0) (st g0) (gb g0) (it g0) we3 r3 fm3 (by omega) (by omega) (by first | exact hFA3 | exact hFA9 g0 (by omega)) (by first | exact hsg | exact hA3 | omega)) (csV_144 hts rfl rfl ⟨Nat.le_of_ble_eq_true rfl, Nat.le_of_ble_eq_true rfl⟩) (zPV2 (q0 := 0) (ci := 7) hPc hDc hK3 hXN rfl rfl) rfl rfl hl.1 rfl (lv_room (Nat.le_of_ble_eq_true rfl)) dX10_isClash_35 ⟨Nat.le_of_ble_eq_true rfl, Nat.le_of_ble_eq_true rfl⟩) hS hFc hFc rfl (fun t H locs ht hB hk1 hS => ?_)
        obtain ⟨hP1, hD1⟩ := hB
        rw [ht] at hP1
        obtain ⟨hP, hD⟩ := zkQ (W2 := [_, _, _, _, _, _, _, _, _]) hP hD [5, 6, 7, 8] [0, 1, 2, 3, 4] [0, 1, 2, 3, 4] [5, 6, 7, 8] [0, 1, 2, 3, 4, 5, 6, 7, 8] 9 rfl rfl rfl rfl rfl rfl rfl rfl rfl hk1 hFc hP1 hD1
        clear hk1 hPc hDc hFc hP1 hD1 ht
        obtain ⟨hP, hD⟩ := pl_bk (X := [_, _, _, _, _, _, _]) hT_2 hP rfl hc9_2 hD0_2 rfl
        refine lv_astore (lv' := [(7, .ref r3), (6, .null), (5, .ref fe3), (4, .ref fe2), (0, .ref x), (1, .int (nI f0)), (2, .int (nI g0)), (3, .int gp9)]) hx hb dX10_isClash_38 hl (by decide) rfl (fun ls hl => ?_)
        refine lv_aload hx hb dX10_isClash_40 (lv_at hl 3 rfl) ?_
        refine lv_ifnull hx hb dX10_isClash_42 ?_
        refine lv_aload hx hb dX10_isClash_45 (lv_at hl 2 rfl) ?_
        refine lv_ifnull hx hb dX10_isClash_47 ?_
        refine lv_aloadN hx hb dX10_isClash_50 (lv_at hl 1 rfl) ?_
        refine lv_ifnullN (tgt := 60) hx hb dX10_isClash_52 (by decide) ?_
        refine lv_iconst (v := 0) hx hb dX10_isClash_60 (by decide) ?_
        obtain ⟨hP9, hD9⟩ := zq_part (cx := [(oc8 x (.ref sh) (.ref lw) (.ref ro) (.ref bq) (.ref bp) (.ref dq) (.ref dp) (.ref lv) (.ref sl) (nI dn) sd ul su), (oc10 sl mc9 (.ref ea) (nI T)), (oc0 bq c1 c2 c3 c4), (oc0 bp a1 a2 a3 a4), (oc2 dq y1 y2), (oc7 sh (.ref fa) (nI ft)), (oq fa cF 200 FA)]) hP hD [0, 1, 2, 3, 4, 5, 6] (by decide) rfl
        rw [hQ9]
        exact W.zret (ty := .boolean) (v := 0) hx hb hr (rfl) (fun t ht hW => ⟨⟨congrArg (fun z => Outcome.returned (some (Value.int z))) (show (0 : Int32) = pI (clP ft st tn kd mn cx cy wd gp9 f0 g0) from (zp_f (fun h => hb9 ⟨h.1, h.2.1⟩)).symm), c1, c2, c3, c4, a1, a2, a3, a4, y1, y2, by rw [ht]; exact hP9, hD9⟩, hS.F ht⟩) hS.2.2 dX10_isClash_61
      · skip
        refine lv_aload_n hx hb dX10_isClash_10 rfl (lv_at hl 1 rfl) ?_
        refine va_get (D := (dC, dI)) (ci := 8) (v := .ref sh) (C := RX10) (T := TX10) (N := 13) hx hb hts inX10 hown hK hP 0 rfl rfl 0 (by decide) (hts _ mw_309) (fun _ h9 => h9) rfl dX10_isClash_11 ?_
        refine lv_iload_n hx hb dX10_isClash_14 rfl (lv_at hl 3 rfl) ?_
        obtain ⟨hPc, hDc, hFc⟩ := zc_sub (wc := [(oc7 sh (.ref fa) (nI ft)), (oq fa cF 200 FA)]) hP hD hS hA [5, 6] (by decide) rfl
        refine zcall (st1 := [.ref fe3]) (va_runV (As := [.int (nI g0)]) (rest := []) ⟨hx, hb, hml, hown, hts⟩ (k_Sheet_find l dC dI cI cZ cF H.size sh fa ft FA g0 fe3 (by omega) (by omega) (by first | exact hFA3 | exact hFA9 g0 (by omega))) (csV_94 hts rfl rfl ⟨Nat.le_of_ble_eq_true rfl, Nat.le_of_ble_eq_true rfl⟩) (zPV2 (q0 := 0) (ci := 7) hPc hDc hK3 hXN rfl rfl) rfl rfl hl.1 rfl (lv_room (Nat.le_of_ble_eq_true rfl)) dX10_isClash_15 ⟨Nat.le_of_ble_eq_true rfl, Nat.le_of_ble_eq_true rfl⟩) hS hFc hFc rfl (fun t H locs ht hB hk1 hS => ?_)
        obtain ⟨hP1, hD1⟩ := hB
        rw [ht] at hP1
        obtain ⟨hP, hD⟩ := zkQ (W2 := [_, _, _, _, _, _, _]) hP hD [5, 6] [0, 1, 2, 3, 4] [0, 1, 2, 3, 4] [5, 6] [0, 1, 2, 3, 4, 5, 6] 7 rfl rfl rfl rfl rfl rfl rfl rfl rfl hk1 hFc hP1 hD1
        clear hk1 hPc hDc hFc hP1 hD1 ht
        refine lv_astore (lv' := [(5, .ref fe3), (4, .ref fe2), (0, .ref x), (1, .int (nI f0)), (2, .int (nI g0)), (3, .int gp9)]) hx hb dX10_isClash_18 hl (by decide) rfl (fun ls hl => ?_)
        refine lv_aload_n hx hb dX10_isClash_20 rfl (lv_at hl 2 rfl) ?_
        refine va_get (D := (dC, dI)) (ci := 8) (v := .ref sh) (C := RX10) (T := TX10) (N := 13) hx hb hts inX10 hown hK hP 0 rfl rfl 0 (by decide) (hts _ mw_309) (fun _ h9 => h9) rfl dX10_isClash_21 ?_
        have hc9_1 : inPl L f [(oc1 fe2 (rk f0) (wd f0) (tw f0) (pa f0) (pb f0) (.ref lo2) (.ref lk2) fm2), (oc4 lk2 (kd f0) (st f0) (.ref r2) (gb f0) (it f0) we2)] := ⟨hfe2, hlk2, trivial⟩
        have hD0_1 := hD
        obtain ⟨hP, hD⟩ := pl_out hP hD [(oc1 fe2 (rk f0) (wd f0) (tw f0) (pa f0) (pb f0) (.ref lo2) (.ref lk2) fm2), (oc4 lk2 (kd f0) (st f0) (.ref r2) (gb f0) (it f0) we2)] hc9_1 (pwF hfe2.2 hlk2.2)
        generalize hT_1 : outPl L [(oc1 fe2 (rk f0) (wd f0) (tw f0) (pa f0) (pb f0) (.ref lo2) (.ref lk2) fm2), (oc4 lk2 (kd f0) (st f0) (.ref r2) (gb f0) (it f0) we2)] = T_1 at hP hD
        obtain ⟨hP, hD⟩ := zre (W2 := ([_, _, _, _, _, _, _, _, _] ++ va_pl T_1 f)) hP hD rfl
        refine lv_iload_n hx hb dX10_isClash_24 rfl (lv_at hl 3 rfl) ?_
        obtain ⟨hPc, hDc, hFc⟩ := zc_sub (wc := [(oc7 sh (.ref fa) (nI ft)), (oq fa cF 200 FA), (oc1 fe2 (rk f0) (wd f0) (tw f0) (pa f0) (pb f0) (.ref lo2) (.ref lk2) fm2), (oc4 lk2 (kd f0) (st f0) (.ref r2) (gb f0) (it f0) we2)]) hP hD hS hA [5, 6, 7, 8] (by decide) rfl
        refine zcall (st1 := [.null]) (va_runV (As := [.int (nI f0)]) (rest := []) ⟨hx, hb, hml, hown, hts⟩ (k_Sheet_rowThere_sv l dC dI cI cZ cF H.size sh fa ft FA f0 fe2 lo2 (rk f0) (wd f0) (tw f0) (pa f0) (pb f0) lk2 (kd f0) (st f0) (gb f0) (it f0) we2 fm2 (.ref r2) (by omega) (by omega) (by first | exact hFA2 | exact hFA9 f0 (by omega)) (by first | exact hst | exact hA2 | omega)) (csV_144 hts rfl rfl ⟨Nat.le_of_ble_eq_true rfl, Nat.le_of_ble_eq_true rfl⟩) (zPV2 (q0 := 0) (ci := 7) hPc hDc hK3 hXN rfl rfl) rfl rfl hl.1 rfl (lv_room (Nat.le_of_ble_eq_true rfl)) dX10_isClash_25 ⟨Nat.le_of_ble_eq_true rfl, Nat.le_of_ble_eq_true rfl⟩) hS hFc hFc rfl (fun t H locs ht hB hk1 hS => ?_)
        obtain ⟨hP1, hD1⟩ := hB
        rw [ht] at hP1
        obtain ⟨hP, hD⟩ := zkQ (W2 := [_, _, _, _, _, _, _, _, _]) hP hD [5, 6, 7, 8] [0, 1, 2, 3, 4] [0, 1, 2, 3, 4] [5, 6, 7, 8] [0, 1, 2, 3, 4, 5, 6, 7, 8] 9 rfl rfl rfl rfl rfl rfl rfl rfl rfl hk1 hFc hP1 hD1
        clear hk1 hPc hDc hFc hP1 hD1 ht
        obtain ⟨hP, hD⟩ := pl_bk (X := [_, _, _, _, _, _, _]) hT_1 hP rfl hc9_1 hD0_1 rfl
        refine lv_astoreN (lv' := [(6, .null), (5, .ref fe3), (4, .ref fe2), (0, .ref x), (1, .int (nI f0)), (2, .int (nI g0)), (3, .int gp9)]) hx hb dX10_isClash_28 hl (by decide) rfl (fun ls hl => ?_)
        refine lv_aload_n hx hb dX10_isClash_30 rfl (lv_at hl 3 rfl) ?_
        refine va_get (D := (dC, dI)) (ci := 8) (v := .ref sh) (C := RX10) (T := TX10) (N := 13) hx hb hts inX10 hown hK hP 0 rfl rfl 0 (by decide) (hts _ mw_309) (fun _ h9 => h9) rfl dX10_isClash_31 ?_
        have hc9_2 : inPl L f [(oc1 fe3 (rk g0) (wd g0) (tw g0) (pa g0) (pb g0) (.ref lo3) (.ref lk3) fm3), (oc4 lk3 (kd g0) (st g0) (.ref r3) (gb g0) (it g0) we3)] := ⟨hfe3, hlk3, trivial⟩
        have hD0_2 := hD
        obtain ⟨hP, hD⟩ := pl_out hP hD [(oc1 fe3 (rk g0) (wd g0) (tw g0) (pa g0) (pb g0) (.ref lo3) (.ref lk3) fm3), (oc4 lk3 (kd g0) (st g0) (.ref r3) (gb g0) (it g0) we3)] hc9_2 (pwF hfe3.2 hlk3.2)
        generalize hT_2 : outPl L [(oc1 fe3 (rk g0) (wd g0) (tw g0) (pa g0) (pb g0) (.ref lo3) (.ref lk3) fm3), (oc4 lk3 (kd g0) (st g0) (.ref r3) (gb g0) (it g0) we3)] = T_2 at hP hD
        obtain ⟨hP, hD⟩ := zre (W2 := ([_, _, _, _, _, _, _, _, _] ++ va_pl T_2 f)) hP hD rfl
        refine lv_iload_n hx hb dX10_isClash_34 rfl (lv_at hl 5 rfl) ?_
        obtain ⟨hPc, hDc, hFc⟩ := zc_sub (wc := [(oc7 sh (.ref fa) (nI ft)), (oq fa cF 200 FA), (oc1 fe3 (rk g0) (wd g0) (tw g0) (pa g0) (pb g0) (.ref lo3) (.ref lk3) fm3), (oc4 lk3 (kd g0) (st g0) (.ref r3) (gb g0) (it g0) we3)]) hP hD hS hA [5, 6, 7, 8] (by decide) rfl
        refine zcall (st1 := [.null]) (va_runV (As := [.int (nI g0)]) (rest := []) ⟨hx, hb, hml, hown, hts⟩ (k_Sheet_rowThere_sv l dC dI cI cZ cF H.size sh fa ft FA g0 fe3 lo3 (rk g0) (wd g0) (tw g0) (pa g0) (pb g0) lk3 (kd g0) (st g0) (gb g0) (it g0) we3 fm3 (.ref r3) (by omega) (by omega) (by first | exact hFA3 | exact hFA9 g0 (by omega)) (by first | exact hsg | exact hA3 | omega)) (csV_144 hts rfl rfl ⟨Nat.le_of_ble_eq_true rfl, Nat.le_of_ble_eq_true rfl⟩) (zPV2 (q0 := 0) (ci := 7) hPc hDc hK3 hXN rfl rfl) rfl rfl hl.1 rfl (lv_room (Nat.le_of_ble_eq_true rfl)) dX10_isClash_35 ⟨Nat.le_of_ble_eq_true rfl, Nat.le_of_ble_eq_true rfl⟩) hS hFc hFc rfl (fun t H locs ht hB hk1 hS => ?_)
        obtain ⟨hP1, hD1⟩ := hB
        rw [ht] at hP1
        obtain ⟨hP, hD⟩ := zkQ (W2 := [_, _, _, _, _, _, _, _, _]) hP hD [5, 6, 7, 8] [0, 1, 2, 3, 4] [0, 1, 2, 3, 4] [5, 6, 7, 8] [0, 1, 2, 3, 4, 5, 6, 7, 8] 9 rfl rfl rfl rfl rfl rfl rfl rfl rfl hk1 hFc hP1 hD1
        clear hk1 hPc hDc hFc hP1 hD1 ht
        obtain ⟨hP, hD⟩ := pl_bk (X := [_, _, _, _, _, _, _]) hT_2 hP rfl hc9_2 hD0_2 rfl
        refine lv_astoreN (lv' := [(7, .null), (6, .null), (5, .ref fe3), (4, .ref fe2), (0, .ref x), (1, .int (nI f0)), (2, .int (nI g0)), (3, .int gp9)]) hx hb dX10_isClash_38 hl (by decide) rfl (fun ls hl => ?_)
        refine lv_aload hx hb dX10_isClash_40 (lv_at hl 3 rfl) ?_
        refine lv_ifnull hx hb dX10_isClash_42 ?_
        refine lv_aload hx hb dX10_isClash_45 (lv_at hl 2 rfl) ?_
        refine lv_ifnull hx hb dX10_isClash_47 ?_
        refine lv_aloadN hx hb dX10_isClash_50 (lv_at hl 1 rfl) ?_
        refine lv_ifnullN (tgt := 60) hx hb dX10_isClash_52 (by decide) ?_
        refine lv_iconst (v := 0) hx hb dX10_isClash_60 (by decide) ?_
        obtain ⟨hP9, hD9⟩ := zq_part (cx := [(oc8 x (.ref sh) (.ref lw) (.ref ro) (.ref bq) (.ref bp) (.ref dq) (.ref dp) (.ref lv) (.ref sl) (nI dn) sd ul su), (oc10 sl mc9 (.ref ea) (nI T)), (oc0 bq c1 c2 c3 c4), (oc0 bp a1 a2 a3 a4), (oc2 dq y1 y2), (oc7 sh (.ref fa) (nI ft)), (oq fa cF 200 FA)]) hP hD [0, 1, 2, 3, 4, 5, 6] (by decide) rfl
        rw [hQ9]
        exact W.zret (ty := .boolean) (v := 0) hx hb hr (rfl) (fun t ht hW => ⟨⟨congrArg (fun z => Outcome.returned (some (Value.int z))) (show (0 : Int32) = pI (clP ft st tn kd mn cx cy wd gp9 f0 g0) from (zp_f (fun h => hb9 ⟨h.1, h.2.1⟩)).symm), c1, c2, c3, c4, a1, a2, a3, a4, y1, y2, by rw [ht]; exact hP9, hD9⟩, hS.F ht⟩) hS.2.2 dX10_isClash_61
set_option maxHeartbeats 4000000 in
set_option maxRecDepth 100000 in
theorem k_nextClash_y (l : Launch) (dC : Nat → ClassId) (dI : Nat → Nat → Nat) (cI cZ cF : ClassId) (sz : Nat) (cO : ClassId) (e0 : Nat) (mi : Nat) (x : Nat) (sh : Nat) (lw : Nat) (ro : Nat) (bq : Nat) (bp : Nat) (dq : Nat) (dp : Nat) (lv : Nat) (sl : Nat) (sd : Int32) (ul : Int32) (su : Int32) (ea : Nat) (mc9 : Int32) (fa : Nat) (FA : Nat → Option Nat) (bs : Nat) (dn : Nat) (T : Nat) (ft : Nat) (FT : Nat → Nat) (V : Nat → Nat → Nat → Int32) (VX : Nat → Nat → Int32) (VY : Nat → Nat → Int32) (tn : Nat → Int32) (rk : Nat → Int32) (wd : Nat → Int32) (tw : Nat → Int32) (pa : Nat → Int32) (pb : Nat → Int32) (wh : Nat → Int32) (of9 : Nat → Int32) (we : Nat → Int32) (kd : Nat → Int32) (st : Nat → Int32) (gb : Nat → Int32) (it : Nat → Int32) (mn : Nat → Int32) (cx : Nat → Int32) (cy : Nat → Int32) (L : List Nat) (f : Nat → va_E) (pr : Nat) (c1 : Int32) (c2 : Int32) (c3 : Int32) (c4 : Int32) (a1 : Int32) (a2 : Int32) (a3 : Int32) (a4 : Int32) (y1 : Int64) (y2 : Int64) (gp9 : Int32) (hB : shB cI cO L f e0 FA ea bs dn T ft FT V VX VY tn rk wd tw pa pb wh of9 we kd st gb it mn cx cy) (hwf : ∀ q, lvF ft st tn q → wfM mn cx cy q) (hkn : okN ft st tn kd mn) (hgp : 0 ≤ gp9.toInt ∧ gp9.toInt ≤ 200) (hwd : ∀ q, q < ft → 0 ≤ (wd q).toInt ∧ (wd q).toInt ≤ 100) (hpr : pr ≤ 40200 ∧ pr / 200 ≤ pr % 200) : Met l yX10_nextClash (.code yX10_nextClash cX10_nextClash 7 (some .int) :: ws0) ({ frames := 5, cells := 0, slots := 0, locals := 132 } : Room) (va_Pc [.ref x, .int gp9, .int (nI pr)] (zPre (dC, dI) classes (zTyO cI cZ cF cO) ([(oc8 x (.ref sh) (.ref lw) (.ref ro) (.ref bq) (.ref bp) (.ref dq) (.ref dp) (.ref lv) (.ref sl) (nI dn) sd ul su), (oc10 sl mc9 (.ref ea) (nI T)), (oc0 bq c1 c2 c3 c4), (oc0 bp a1 a2 a3 a4), (oc2 dq y1 y2), (oc7 sh (.ref fa) (nI ft)), (oq fa cF 200 FA)] ++ va_pl L f) sz (zXL e0 mi (va_A ([(oc8 x (.ref sh) (.ref lw) (.ref ro) (.ref bq) (.ref bp) (.ref dq) (.ref dp) (.ref lv) (.ref sl) (nI dn) sd ul su), (oc10 sl mc9 (.ref ea) (nI T)), (oc0 bq c1 c2 c3 c4), (oc0 bp a1 a2 a3 a4), (oc2 dq y1 y2), (oc7 sh (.ref fa) (nI ft)), (oq fa cF 200 FA)] ++ va_pl L f) sz)))) (zQe (fun v9 t => ∃ (b9 : Int32), ∃ (c5 : Int32), ∃ (c6 : Int32), ∃ (c7 : Int32), ∃ (c8 : Int32), ∃ (a5 : Int32), ∃ (a6 : Int32), ∃ (a7 : Int32), ∃ (a8 : Int32), ∃ (y5 : Int64), ∃ (y6 : Int64), v9 = (some (.int b9)) ∧ (nxC (clP ft st tn kd mn cx cy wd gp9) ft (pr / 200) (pr % 200) b9) ∧ va_P (dC, dI) classes ([(oc8 x (.ref sh) (.ref lw) (.ref ro) (.ref bq) (.ref bp) (.ref dq) (.ref dp) (.ref lv) (.ref sl) (nI dn) sd ul su), (oc10 sl mc9 (.ref ea) (nI T)), (oc0 bq c5 c6 c7 c8), (oc0 bp a5 a6 a7 a8), (oc2 dq y5 y6), (oc7 sh (.ref fa) (nI ft)), (oq fa cF 200 FA)] ++ va_pl L f) t.heap ∧ va_D (va_A ([(oc8 x (.ref sh) (.ref lw) (.ref ro) (.ref bq) (.ref bp) (.ref dq) (.ref dp) (.ref lv) (.ref sl) (nI dn) sd ul su), (oc10 sl mc9 (.ref ea) (nI T)), (oc0 bq c1 c2 c3 c4), (oc0 bp a1 a2 a3 a4), (oc2 dq y1 y2), (oc7 sh (.ref fa) (nI ft)), (oq fa cF 200 FA)] ++ va_pl L f) sz) ([(oc8 x (.ref sh) (.ref lw) (.ref ro) (.ref bq) (.ref bp) (.ref dq) (.ref dp) (.ref lv) (.ref sl) (nI dn) sd ul su), (oc10 sl mc9 (.ref ea) (nI T)), (oc0 bq c5 c6 c7 c8), (oc0 bp a5 a6 a7 a8), (oc2 dq y5 y6), (oc7 sh (.ref fa) (nI ft)), (oq fa cF 200 FA)] ++ va_pl L f)) (va_A ([(oc8 x (.ref sh) (.ref lw) (.ref ro) (.ref bq) (.ref bp) (.ref dq) (.ref dp) (.ref lv) (.ref sl) (nI dn) sd ul su), (oc10 sl mc9 (.ref ea) (nI T)), (oc0 bq c1 c2 c3 c4), (oc0 bp a1 a2 a3 a4), (oc2 dq y1 y2), (oc7 sh (.ref fa) (nI ft)), (oq fa cF 200 FA)] ++ va_pl L f) sz)) 0 0 (va_A ([(oc8 x (.ref sh) (.ref lw) (.ref ro) (.ref bq) (.ref bp) (.ref dq) (.ref dp) (.ref lv) (.ref sl) (nI dn) sd ul su), (oc10 sl mc9 (.ref ea) (nI T)), (oc0 bq c1 c2 c3 c4), (oc0 bp a1 a2 a3 a4), (oc2 dq y1 y2), (oc7 sh (.ref fa) (nI ft)), (oq fa cF 200 FA)] ++ va_pl L f) sz) := by
  refine Met.ofW (cc := cX10_nextClash) (maxL := 7) (ret := (some .int)) (by decide) rfl ?_
  intro p e s m args below meth c s₁ B hml hv
  obtain ⟨rfl, hsz, hP, hK, hD0, hXL⟩ := hv
  have hx := B.exec
  have hb := B.bytes
  have hr := B.returns
  have hts0 := atoms_spec (ws := .code yX10_nextClash cX10_nextClash 7 (some .int) :: ws0) B.pre
  have hts : ∀ w9 ∈ ws0, w9.before ([.ref x, .int gp9, .int (nI pr)] : List Value).toArray s = true := fun w9 h => hts0 w9 (List.mem_cons_of_mem _ h)
  have hown : s.vm.findClass "ScaleShop" = some m.cls := findClass_of_methodNamed B.named
  have hlocks := B.notSynchronized
  subst hsz
  have hD := hD0.self (sz := s.heap.size)
  clear hD0
  generalize hAe : va_A ([(oc8 x (.ref sh) (.ref lw) (.ref ro) (.ref bq) (.ref bp) (.ref dq) (.ref dp) (.ref lv) (.ref sl) (nI dn) sd ul su), (oc10 sl mc9 (.ref ea) (nI T)), (oc0 bq c1 c2 c3 c4), (oc0 bp a1 a2 a3 a4), (oc2 dq y1 y2), (oc7 sh (.ref fa) (nI ft)), (oq fa cF 200 FA)] ++ va_pl L f) s.heap.size = A at hD hXL ⊢
  have hA : ∀ q : Nat, s.heap.size ≤ q → A q := fun q h => by rw [← hAe]; exact Or.inr h
  clear hAe
  have hS : va_S A s.heap s.heap [] := va_S.rf
  have hXN := hXL.1
  have hK3 := hK.sub [0, 1, 2] rfl
  have hP : va_P (dC, dI) classes ([(oc8 x (.ref sh) (.ref lw) (.ref ro) (.ref bq) (.ref bp) (.ref dq) (.ref dp) (.ref lv) (.ref sl) (nI dn) sd ul su), (oc10 sl mc9 (.ref ea) (nI T)), (oc0 bq c1 c2 c3 c4), (oc0 bp a1 a2 a3 a4), (oc2 dq y1 y2), (oc7 sh (.ref fa) (nI ft)), (oq fa cF 200 FA)] ++ va_pl L f) s.heap := hP
  obtain ⟨Q9, hQ9⟩ : ∃ Q9 : State → Prop, Q9 = MQ below (zQe (fun v9 t => ∃ (b9 : Int32), ∃ (c5 : Int32), ∃ (c6 : Int32), ∃ (c7 : Int32), ∃ (c8 : Int32), ∃ (a5 : Int32), ∃ (a6 : Int32), ∃ (a7 : Int32), ∃ (a8 : Int32), ∃ (y5 : Int64), ∃ (y6 : Int64), v9 = (some (.int b9)) ∧ (nxC (clP ft st tn kd mn cx cy wd gp9) ft (pr / 200) (pr % 200) b9) ∧ va_P (dC, dI) classes ([(oc8 x (.ref sh) (.ref lw) (.ref ro) (.ref bq) (.ref bp) (.ref dq) (.ref dp) (.ref lv) (.ref sl) (nI dn) sd ul su), (oc10 sl mc9 (.ref ea) (nI T)), (oc0 bq c5 c6 c7 c8), (oc0 bp a5 a6 a7 a8), (oc2 dq y5 y6), (oc7 sh (.ref fa) (nI ft)), (oq fa cF 200 FA)] ++ va_pl L f) t.heap ∧ va_D A ([(oc8 x (.ref sh) (.ref lw) (.ref ro) (.ref bq) (.ref bp) (.ref dq) (.ref dp) (.ref lv) (.ref sl) (nI dn) sd ul su), (oc10 sl mc9 (.ref ea) (nI T)), (oc0 bq c5 c6 c7 c8), (oc0 bp a5 a6 a7 a8), (oc2 dq y5 y6), (oc7 sh (.ref fa) (nI ft)), (oq fa cF 200 FA)] ++ va_pl L f)) A) ([.ref x, .int gp9, .int (nI pr)] : List Value).toArray s 0 0 A := ⟨_, rfl⟩
  rw [← hQ9]
  have hl := lv_entry ([.ref x, .int gp9, .int (nI pr)]) (n := 7) (Nat.le_of_ble_eq_true rfl)
  rw [lg_entry_eq]
  generalize (lg_sl ([.ref x, .int gp9, .int (nI pr)]) ++ List.replicate (7 - (lg_sl ([.ref x, .int gp9, .int (nI pr)])).length) Slot.unset).toArray = ls at hl ⊢
  have hl : lv_has ls 7 [(0, .ref x), (1, .int gp9), (2, .int (nI pr))] := hl
  have hG0 := hB
  obtain ⟨own0, fe0, cl0, la0, sp0, SA0, hG90, hH90, hft90⟩ := hG0
  have h200 : ft ≤ 200 := Nat.le_trans hG90.2.2.2.2.2.1.2.2.2.2.1 hG90.2.2.2.2.2.1.2.2.2.2.2
  refine lv_iload_n hx hb dX10_nextClash_0 rfl (lv_at hl 2 rfl) ?_
  refine lv_sipush (v := 200) hx hb dX10_nextClash_1 (by decide) ?_
  refine lv_idiv hx hb dX10_nextClash_4 (by decide) ?_
  refine zz_i (v := nI (pr / 200)) (zn_d200 (by omega)) ?_
  refine lv_istore_n (lv' := [(3, .int (nI (pr / 200))), (0, .ref x), (1, .int gp9), (2, .int (nI pr))]) hx hb dX10_nextClash_5 rfl hl (by decide) rfl (fun ls hl => ?_)
  refine lv_iload_n hx hb dX10_nextClash_6 rfl (lv_at hl 0 rfl) ?_
  refine lv_istore (lv' := [(4, .int (nI (pr / 200))), (3, .int (nI (pr / 200))), (0, .ref x), (1, .int gp9), (2, .int (nI pr))]) hx hb dX10_nextClash_7 hl (by decide) rfl (fun ls hl => ?_)
  have hl_9 : ∀ (n9 : Nat) (l5 : Nat) (u1 : Int32) (u2 : Int32) (u3 : Int32) (u4 : Int32) (u5 : Int32) (u6 : Int32) (u7 : Int32) (u8 : Int32) (w1 : Int64) (w2 : Int64) (H : Heap) (locs : List Loc) (ls : Array Slot), ft - l5 < n9 → (pr / 200 ≤ l5 ∧ l5 ≤ 300) → (nxO (clP ft st tn kd mn cx cy wd gp9) ft (pr / 200) (pr % 200) l5) → va_P (dC, dI) classes ([(oc8 x (.ref sh) (.ref lw) (.ref ro) (.ref bq) (.ref bp) (.ref dq) (.ref dp) (.ref lv) (.ref sl) (nI dn) sd ul su), (oc10 sl mc9 (.ref ea) (nI T)), (oc0 bq u1 u2 u3 u4), (oc0 bp u5 u6 u7 u8), (oc2 dq w1 w2), (oc7 sh (.ref fa) (nI ft)), (oq fa cF 200 FA)] ++ va_pl L f) H → va_D A ([(oc8 x (.ref sh) (.ref lw) (.ref ro) (.ref bq) (.ref bp) (.ref dq) (.ref dp) (.ref lv) (.ref sl) (nI dn) sd ul su), (oc10 sl mc9 (.ref ea) (nI T)), (oc0 bq u1 u2 u3 u4), (oc0 bp u5 u6 u7 u8), (oc2 dq w1 w2), (oc7 sh (.ref fa) (nI ft)), (oq fa cF 200 FA)] ++ va_pl L f) → va_S A s.heap H locs → lv_has ls 7 [(4, .int (nI l5)), (3, .int (nI (pr / 200))), (0, .ref x), (1, .int gp9), (2, .int (nI pr))] → W p l e ((headSpec (.code yX10_nextClash cX10_nextClash 7 (some .int) :: ws0) ({ frames := 5, cells := 0, slots := 0, locals := 132 } : Room)).room) s m ([.ref x, .int gp9, .int (nI pr)] : List Value).toArray below meth c H locs 0 0 Q9 (F0 m 9 ls []) := by
    intro n9
    induction n9 with
    | zero => intro l5 u1 u2 u3 u4 u5 u6 u7 u8 w1 w2 H locs ls hm; exact absurd hm (Nat.not_lt_zero _)
    | succ n9 ih_9 =>
      intro l5 u1 u2 u3 u4 u5 u6 u7 u8 w1 w2 H locs ls hm hl5 hnl hP hD hS hl
      refine lv_iload hx hb dX10_nextClash_9 (lv_at hl 0 rfl) ?_
      refine lv_aload_n hx hb dX10_nextClash_11 rfl (lv_at hl 2 rfl) ?_
      refine va_get (D := (dC, dI)) (ci := 8) (v := .ref sh) (C := RX10) (T := TX10) (N := 13) hx hb hts inX10 hown hK hP 0 rfl rfl 0 (by decide) (hts _ mw_309) (fun _ h9 => h9) rfl dX10_nextClash_12 ?_
      refine va_get (D := (dC, dI)) (ci := 7) (v := .int (nI ft)) (C := RX8) (T := TX8) (N := 2) hx hb hts inX8 hown hK hP 5 rfl rfl 1 (by decide) (hts _ mw_140) (fun _ h9 => h9) rfl dX10_nextClash_15 ?_
      have b9_2 : l5 < 2147483648 := by omega
      have b9_3 : ft < 2147483648 := by omega
      refine lv_icmp_ge (tgt := 91) hx hb dX10_nextClash_18 (by decide) (fun c_1 => ?_) (fun c_1 => ?_)
      · have c_1 : ((ft : Nat) : Int) ≤ ((l5 : Nat) : Int) := zc_le (nI_toInt b9_3) (nI_toInt b9_2) c_1
        refine lv_iconst (v := (-1)) hx hb dX10_nextClash_91 (by decide) ?_
        obtain ⟨hP9, hD9⟩ := zq_part (cx := [(oc8 x (.ref sh) (.ref lw) (.ref ro) (.ref bq) (.ref bp) (.ref dq) (.ref dp) (.ref lv) (.ref sl) (nI dn) sd ul su), (oc10 sl mc9 (.ref ea) (nI T)), (oc0 bq u1 u2 u3 u4), (oc0 bp u5 u6 u7 u8), (oc2 dq w1 w2), (oc7 sh (.ref fa) (nI ft)), (oq fa cF 200 FA)]) hP hD [0, 1, 2, 3, 4, 5, 6] (by decide) rfl
        rw [hQ9]
        exact W.iret (v := (-1)) hx hb hr (fun t ht hW => ⟨⟨_, rfl, (-1), u1, u2, u3, u4, u5, u6, u7, u8, w1, w2, rfl, (nxC_n hnl (by omega)), by rw [ht]; exact hP9, hD9⟩, hS.F ht⟩) hS.2.2 dX10_nextClash_92
      · have c_1 : ((l5 : Nat) : Int) < ((ft : Nat) : Int) := zc_nle (nI_toInt b9_3) (nI_toInt b9_2) c_1
        refine lv_iload hx hb dX10_nextClash_21 (lv_at hl 0 rfl) ?_
        refine lv_iload_n hx hb dX10_nextClash_23 rfl (lv_at hl 1 rfl) ?_
        have b9_5 : (pr / 200) < 2147483648 := by omega
        refine lv_icmp_ne (tgt := 35) hx hb dX10_nextClash_24 (by decide) (fun c_4 => ?_) (fun c_4 => ?_)
        · have c_4 : ¬ ((l5 : Nat) : Int) = ((pr / 200 : Nat) : Int) := zc_ne (nI_toInt b9_2) (nI_toInt b9_5) c_4
          refine lv_iload hx hb dX10_nextClash_35 (lv_at hl 0 rfl) ?_
          refine lv_istore (lv' := [(5, .int (nI l5)), (4, .int (nI l5)), (3, .int (nI (pr / 200))), (0, .ref x), (1, .int gp9), (2, .int (nI pr))]) hx hb dX10_nextClash_37 hl (by decide) rfl (fun ls hl => ?_)
          refine lv_iload hx hb dX10_nextClash_39 (lv_at hl 0 rfl) ?_
          refine lv_iconst (v := 1) hx hb dX10_nextClash_41 (by decide) ?_
          refine lv_iadd hx hb dX10_nextClash_42 ?_
          refine zz_i (v := nI (l5 + 1)) (nI_add l5 1) ?_
          refine lv_istore (lv' := [(6, .int (nI (l5 + 1))), (5, .int (nI l5)), (4, .int (nI l5)), (3, .int (nI (pr / 200))), (0, .ref x), (1, .int gp9), (2, .int (nI pr))]) hx hb dX10_nextClash_43 hl (by decide) rfl (fun ls hl => ?_)
          have hl_45 : ∀ (n9 : Nat) (h5 : Nat) (s1 : Int32) (s2 : Int32) (s3 : Int32) (s4 : Int32) (s5 : Int32) (s6 : Int32) (s7 : Int32) (s8 : Int32) (r1 : Int64) (r2 : Int64) (H : Heap) (locs : List Loc) (ls : Array Slot), ft - h5 < n9 → (l5 < h5 ∧ h5 ≤ 300) → (nxI (clP ft st tn kd mn cx cy wd gp9) ft (pr / 200) (pr % 200) l5 h5) → (prL (pr / 200) (pr % 200) l5 h5) → va_P (dC, dI) classes ([(oc8 x (.ref sh) (.ref lw) (.ref ro) (.ref bq) (.ref bp) (.ref dq) (.ref dp) (.ref lv) (.ref sl) (nI dn) sd ul su), (oc10 sl mc9 (.ref ea) (nI T)), (oc0 bq s1 s2 s3 s4), (oc0 bp s5 s6 s7 s8), (oc2 dq r1 r2), (oc7 sh (.ref fa) (nI ft)), (oq fa cF 200 FA)] ++ va_pl L f) H → va_D A ([(oc8 x (.ref sh) (.ref lw) (.ref ro) (.ref bq) (.ref bp) (.ref dq) (.ref dp) (.ref lv) (.ref sl) (nI dn) sd ul su), (oc10 sl mc9 (.ref ea) (nI T)), (oc0 bq s1 s2 s3 s4), (oc0 bp s5 s6 s7 s8), (oc2 dq r1 r2), (oc7 sh (.ref fa) (nI ft)), (oq fa cF 200 FA)] ++ va_pl L f) → va_S A s.heap H locs → lv_has ls 7 [(6, .int (nI h5)), (5, .int (nI l5)), (4, .int (nI l5)), (3, .int (nI (pr / 200))), (0, .ref x), (1, .int gp9), (2, .int (nI pr))] → W p l e ((headSpec (.code yX10_nextClash cX10_nextClash 7 (some .int) :: ws0) ({ frames := 5, cells := 0, slots := 0, locals := 132 } : Room)).room) s m ([.ref x, .int gp9, .int (nI pr)] : List Value).toArray below meth c H locs 0 0 Q9 (F0 m 45 ls []) := by
            intro n9
            induction n9 with
            | zero => intro h5 s1 s2 s3 s4 s5 s6 s7 s8 r1 r2 H locs ls hm; exact absurd hm (Nat.not_lt_zero _)
            | succ n9 ih_45 =>
              intro h5 s1 s2 s3 s4 s5 s6 s7 s8 r1 r2 H locs ls hm hh5 hnh hpl hP hD hS hl
              refine lv_iload hx hb dX10_nextClash_45 (lv_at hl 0 rfl) ?_
              refine lv_aload_n hx hb dX10_nextClash_47 rfl (lv_at hl 4 rfl) ?_
              refine va_get (D := (dC, dI)) (ci := 8) (v := .ref sh) (C := RX10) (T := TX10) (N := 13) hx hb hts inX10 hown hK hP 0 rfl rfl 0 (by decide) (hts _ mw_309) (fun _ h9 => h9) rfl dX10_nextClash_48 ?_
              refine va_get (D := (dC, dI)) (ci := 7) (v := .int (nI ft)) (C := RX8) (T := TX8) (N := 2) hx hb hts inX8 hown hK hP 5 rfl rfl 1 (by decide) (hts _ mw_140) (fun _ h9 => h9) rfl dX10_nextClash_51 ?_
              have b9_7 : h5 < 2147483648 := by omega
              refine lv_icmp_ge (tgt := 85) hx hb dX10_nextClash_54 (by decide) (fun c_6 => ?_) (fun c_6 => ?_)
              · have c_6 : ((ft : Nat) : Int) ≤ ((h5 : Nat) : Int) := zc_le (nI_toInt b9_3) (nI_toInt b9_7) c_6
                refine lv_iinc (v := nI (l5 + 1)) (lv' := [(4, .int (nI (l5 + 1))), (6, .int (nI h5)), (5, .int (nI l5)), (3, .int (nI (pr / 200))), (0, .ref x), (1, .int gp9), (2, .int (nI pr))]) hx hb dX10_nextClash_85 hl (k := 2) rfl (nI_add l5 1) (by decide) rfl (fun ls hl => ?_)
                refine lv_goto (tgt := 9) hx hb dX10_nextClash_88 (by decide) ?_
                exact ih_9 (l5 + 1) s1 s2 s3 s4 s5 s6 s7 s8 r1 r2 H locs ls (by omega) (by omega) (nxO_s hnl hnh (by omega)) hP hD hS (lv_sub hl [0, 3, 4, 5, 6] rfl)
              · have c_6 : ((h5 : Nat) : Int) < ((ft : Nat) : Int) := zc_nle (nI_toInt b9_3) (nI_toInt b9_7) c_6
                refine lv_aload_n hx hb dX10_nextClash_57 rfl (lv_at hl 4 rfl) ?_
                refine lv_iload hx hb dX10_nextClash_58 (lv_at hl 2 rfl) ?_
                refine lv_iload hx hb dX10_nextClash_60 (lv_at hl 0 rfl) ?_
                refine lv_iload_n hx hb dX10_nextClash_62 rfl (lv_at hl 5 rfl) ?_
                obtain ⟨hPc, hDc, hFc⟩ := zc_part (cx := [(oc8 x (.ref sh) (.ref lw) (.ref ro) (.ref bq) (.ref bp) (.ref dq) (.ref dp) (.ref lv) (.ref sl) (nI dn) sd ul su), (oc10 sl mc9 (.ref ea) (nI T)), (oc0 bq s1 s2 s3 s4), (oc0 bp s5 s6 s7 s8), (oc2 dq r1 r2), (oc7 sh (.ref fa) (nI ft)), (oq fa cF 200 FA)]) hP hD hS hA [0, 1, 2, 3, 4, 5, 6] (by decide) rfl
                refine zcall (st1 := [.int (pI (clP ft st tn kd mn cx cy wd gp9 l5 h5))]) (va_runV (As := [.int (nI l5), .int (nI h5), .int gp9]) (rest := []) ⟨hx, hb, hml, hown, hts⟩ (k_isClash_y l dC dI cI cZ cF H.size cO e0 mi x sh lw ro bq bp dq dp lv sl sd ul su ea mc9 fa FA bs dn T ft FT V VX VY tn rk wd tw pa pb wh of9 we kd st gb it mn cx cy L f l5 h5 s1 s2 s3 s4 s5 s6 s7 s8 r1 r2 gp9 (hB) (by omega) (by omega) (by omega) (hwf) (hkn) (hgp) (hwd)) (csV_159 hts rfl rfl ⟨Nat.le_of_ble_eq_true rfl, Nat.le_of_ble_eq_true rfl⟩) (zPVL (q0 := 0) (ci := 8) hPc hDc hK hXL hS hFc rfl rfl) rfl rfl hl.1 rfl (lv_room (Nat.le_of_ble_eq_true rfl)) dX10_nextClash_63 ⟨Nat.le_of_ble_eq_true rfl, Nat.le_of_ble_eq_true rfl⟩) hS hFc hFc rfl (fun t H locs ht hB hk1 hS => ?_)
                obtain ⟨v1, v2, v3, v4, v5, v6, v7, v8, v9, w9, hP1, hD1⟩ := hB
                rw [ht] at hP1
                obtain ⟨hP, hD⟩ := zkP (W2 := [_, _, (oc0 bq v1 v2 v3 v4), (oc0 bp v5 v6 v7 v8), (oc2 dq v9 w9), _, _]) hP hD [0, 1, 2, 3, 4, 5, 6] [] [] [0, 1, 2, 3, 4, 5, 6] [0, 1, 2, 3, 4, 5, 6] 7 rfl rfl rfl rfl rfl rfl rfl rfl rfl hk1 hFc hP1 hD1
                clear hk1 hPc hDc hFc hP1 hD1 ht
                refine lv_if_eq (tgt := 79) hx hb dX10_nextClash_66 (by decide) (fun c_8 => ?_) (fun c_8 => ?_)
                · have c_8 : ¬ (clP ft st tn kd mn cx cy wd gp9 l5 h5) := zp_0 c_8
                  refine lv_iinc (v := nI (h5 + 1)) (lv' := [(6, .int (nI (h5 + 1))), (5, .int (nI l5)), (4, .int (nI l5)), (3, .int (nI (pr / 200))), (0, .ref x), (1, .int gp9), (2, .int (nI pr))]) hx hb dX10_nextClash_79 hl (k := 0) rfl (nI_add h5 1) (by decide) rfl (fun ls hl => ?_)
                  refine lv_goto (tgt := 45) hx hb dX10_nextClash_82 (by decide) ?_
                  exact ih_45 (h5 + 1) v1 v2 v3 v4 v5 v6 v7 v8 v9 w9 H locs ls (by omega) (by omega) (nxI_s hnh (by assumption)) (prL_s hpl) hP hD hS (lv_sub hl [0, 1, 2, 3, 4, 5, 6] rfl)
                · have c_8 : clP ft st tn kd mn cx cy wd gp9 l5 h5 := zp_1 c_8
                  refine lv_iload hx hb dX10_nextClash_69 (lv_at hl 2 rfl) ?_
                  refine lv_sipush (v := 200) hx hb dX10_nextClash_71 (by decide) ?_
                  refine lv_imul hx hb dX10_nextClash_74 ?_
                  refine zz_i (v := nI (l5 * 200)) (pk_mul l5 200) ?_
                  refine lv_iload hx hb dX10_nextClash_75 (lv_at hl 0 rfl) ?_
                  refine lv_iadd hx hb dX10_nextClash_77 ?_
                  refine zz_i (v := nI (l5 * 200 + h5)) (nI_add (l5 * 200) h5) ?_
                  obtain ⟨hP9, hD9⟩ := zq_part (cx := [(oc8 x (.ref sh) (.ref lw) (.ref ro) (.ref bq) (.ref bp) (.ref dq) (.ref dp) (.ref lv) (.ref sl) (nI dn) sd ul su), (oc10 sl mc9 (.ref ea) (nI T)), (oc0 bq v1 v2 v3 v4), (oc0 bp v5 v6 v7 v8), (oc2 dq v9 w9), (oc7 sh (.ref fa) (nI ft)), (oq fa cF 200 FA)]) hP hD [0, 1, 2, 3, 4, 5, 6] (by decide) rfl
                  rw [hQ9]
                  exact W.iret (v := nI (l5 * 200 + h5)) hx hb hr (fun t ht hW => ⟨⟨_, rfl, (nI (l5 * 200 + h5)), v1, v2, v3, v4, v5, v6, v7, v8, v9, w9, rfl, (nxC_y hnl hnh (by omega) (by omega) (by assumption) hpl), by rw [ht]; exact hP9, hD9⟩, hS.F ht⟩) hS.2.2 dX10_nextClash_78
          exact hl_45 _ (l5 + 1) u1 u2 u3 u4 u5 u6 u7 u8 w1 w2 H locs ls (Nat.lt_succ_self _) (by omega) (by first | exact nxI_1 | (rw [show l5 = pr / 200 by omega]; exact nxI_0)) (by unfold prL; omega) hP hD hS (lv_sub hl [0, 1, 2, 3, 4, 5, 6] rfl)
        · have c_4 : ((l5 : Nat) : Int) = ((pr / 200 : Nat) : Int) := zc_eq (nI_toInt b9_2) (nI_toInt b9_5) c_4
          refine lv_iload_n hx hb dX10_nextClash_27 rfl (lv_at hl 4 rfl) ?_
          refine lv_sipush (v := 200) hx hb dX10_nextClash_28 (by decide) ?_
          refine lv_irem hx hb dX10_nextClash_31 (by decide) ?_
          refine zz_i (v := nI (pr % 200)) (zn_r200 (by omega)) ?_
          refine lv_goto (tgt := 37) hx hb dX10_nextClash_32 (by decide) ?_
          refine lv_istore (lv' := [(5, .int (nI (pr % 200))), (4, .int (nI l5)), (3, .int (nI (pr / 200))), (0, .ref x), (1, .int gp9), (2, .int (nI pr))]) hx hb dX10_nextClash_37 hl (by decide) rfl (fun ls hl => ?_)
          refine lv_iload hx hb dX10_nextClash_39 (lv_at hl 0 rfl) ?_
          refine lv_iconst (v := 1) hx hb dX10_nextClash_41 (by decide) ?_
          refine lv_iadd hx hb dX10_nextClash_42 ?_
          refine zz_i (v := nI ((pr % 200) + 1)) (nI_add (pr % 200) 1) ?_
          refine lv_istore (lv' := [(6, .int (nI ((pr % 200) + 1))), (5, .int (nI (pr % 200))), (4, .int (nI l5)), (3, .int (nI (pr / 200))), (0, .ref x), (1, .int gp9), (2, .int (nI pr))]) hx hb dX10_nextClash_43 hl (by decide) rfl (fun ls hl => ?_)
          have hl_45 : ∀ (n9 : Nat) (h5 : Nat) (s1 : Int32) (s2 : Int32) (s3 : Int32) (s4 : Int32) (s5 : Int32) (s6 : Int32) (s7 : Int32) (s8 : Int32) (r1 : Int64) (r2 : Int64) (H : Heap) (locs : List Loc) (ls : Array Slot), ft - h5 < n9 → (l5 < h5 ∧ h5 ≤ 300) → (nxI (clP ft st tn kd mn cx cy wd gp9) ft (pr / 200) (pr % 200) l5 h5) → (prL (pr / 200) (pr % 200) l5 h5) → va_P (dC, dI) classes ([(oc8 x (.ref sh) (.ref lw) (.ref ro) (.ref bq) (.ref bp) (.ref dq) (.ref dp) (.ref lv) (.ref sl) (nI dn) sd ul su), (oc10 sl mc9 (.ref ea) (nI T)), (oc0 bq s1 s2 s3 s4), (oc0 bp s5 s6 s7 s8), (oc2 dq r1 r2), (oc7 sh (.ref fa) (nI ft)), (oq fa cF 200 FA)] ++ va_pl L f) H → va_D A ([(oc8 x (.ref sh) (.ref lw) (.ref ro) (.ref bq) (.ref bp) (.ref dq) (.ref dp) (.ref lv) (.ref sl) (nI dn) sd ul su), (oc10 sl mc9 (.ref ea) (nI T)), (oc0 bq s1 s2 s3 s4), (oc0 bp s5 s6 s7 s8), (oc2 dq r1 r2), (oc7 sh (.ref fa) (nI ft)), (oq fa cF 200 FA)] ++ va_pl L f) → va_S A s.heap H locs → lv_has ls 7 [(6, .int (nI h5)), (5, .int (nI (pr % 200))), (4, .int (nI l5)), (3, .int (nI (pr / 200))), (0, .ref x), (1, .int gp9), (2, .int (nI pr))] → W p l e ((headSpec (.code yX10_nextClash cX10_nextClash 7 (some .int) :: ws0) ({ frames := 5, cells := 0, slots := 0, locals := 132 } : Room)).room) s m ([.ref x, .int gp9, .int (nI pr)] : List Value).toArray below meth c H locs 0 0 Q9 (F0 m 45 ls []) := by
            intro n9
            induction n9 with
            | zero => intro h5 s1 s2 s3 s4 s5 s6 s7 s8 r1 r2 H locs ls hm; exact absurd hm (Nat.not_lt_zero _)
            | succ n9 ih_45 =>
              intro h5 s1 s2 s3 s4 s5 s6 s7 s8 r1 r2 H locs ls hm hh5 hnh hpl hP hD hS hl
              refine lv_iload hx hb dX10_nextClash_45 (lv_at hl 0 rfl) ?_
              refine lv_aload_n hx hb dX10_nextClash_47 rfl (lv_at hl 4 rfl) ?_
              refine va_get (D := (dC, dI)) (ci := 8) (v := .ref sh) (C := RX10) (T := TX10) (N := 13) hx hb hts inX10 hown hK hP 0 rfl rfl 0 (by decide) (hts _ mw_309) (fun _ h9 => h9) rfl dX10_nextClash_48 ?_
              refine va_get (D := (dC, dI)) (ci := 7) (v := .int (nI ft)) (C := RX8) (T := TX8) (N := 2) hx hb hts inX8 hown hK hP 5 rfl rfl 1 (by decide) (hts _ mw_140) (fun _ h9 => h9) rfl dX10_nextClash_51 ?_
              have b9_10 : h5 < 2147483648 := by omega
              refine lv_icmp_ge (tgt := 85) hx hb dX10_nextClash_54 (by decide) (fun c_9 => ?_) (fun c_9 => ?_)
              · have c_9 : ((ft : Nat) : Int) ≤ ((h5 : Nat) : Int) := zc_le (nI_toInt b9_3) (nI_toInt b9_10) c_9
                refine lv_iinc (v := nI (l5 + 1)) (lv' := [(4, .int (nI (l5 + 1))), (6, .int (nI h5)), (5, .int (nI (pr % 200))), (3, .int (nI (pr / 200))), (0, .ref x), (1, .int gp9), (2, .int (nI pr))]) hx hb dX10_nextClash_85 hl (k := 2) rfl (nI_add l5 1) (by decide) rfl (fun ls hl => ?_)
                refine lv_goto (tgt := 9) hx hb dX10_nextClash_88 (by decide) ?_
                exact ih_9 (l5 + 1) s1 s2 s3 s4 s5 s6 s7 s8 r1 r2 H locs ls (by omega) (by omega) (nxO_s hnl hnh (by omega)) hP hD hS (lv_sub hl [0, 3, 4, 5, 6] rfl)
              · have c_9 : ((h5 : Nat) : Int) < ((ft : Nat) : Int) := zc_nle (nI_toInt b9_3) (nI_toInt b9_10) c_9
                refine lv_aload_n hx hb dX10_nextClash_57 rfl (lv_at hl 4 rfl) ?_
                refine lv_iload hx hb dX10_nextClash_58 (lv_at hl 2 rfl) ?_
                refine lv_iload hx hb dX10_nextClash_60 (lv_at hl 0 rfl) ?_
                refine lv_iload_n hx hb dX10_nextClash_62 rfl (lv_at hl 5 rfl) ?_
                obtain ⟨hPc, hDc, hFc⟩ := zc_part (cx := [(oc8 x (.ref sh) (.ref lw) (.ref ro) (.ref bq) (.ref bp) (.ref dq) (.ref dp) (.ref lv) (.ref sl) (nI dn) sd ul su), (oc10 sl mc9 (.ref ea) (nI T)), (oc0 bq s1 s2 s3 s4), (oc0 bp s5 s6 s7 s8), (oc2 dq r1 r2), (oc7 sh (.ref fa) (nI ft)), (oq fa cF 200 FA)]) hP hD hS hA [0, 1, 2, 3, 4, 5, 6] (by decide) rfl
                refine zcall (st1 := [.int (pI (clP ft st tn kd mn cx cy wd gp9 l5 h5))]) (va_runV (As := [.int (nI l5), .int (nI h5), .int gp9]) (rest := []) ⟨hx, hb, hml, hown, hts⟩ (k_isClash_y l dC dI cI cZ cF H.size cO e0 mi x sh lw ro bq bp dq dp lv sl sd ul su ea mc9 fa FA bs dn T ft FT V VX VY tn rk wd tw pa pb wh of9 we kd st gb it mn cx cy L f l5 h5 s1 s2 s3 s4 s5 s6 s7 s8 r1 r2 gp9 (hB) (by omega) (by omega) (by omega) (hwf) (hkn) (hgp) (hwd)) (csV_159 hts rfl rfl ⟨Nat.le_of_ble_eq_true rfl, Nat.le_of_ble_eq_true rfl⟩) (zPVL (q0 := 0) (ci := 8) hPc hDc hK hXL hS hFc rfl rfl) rfl rfl hl.1 rfl (lv_room (Nat.le_of_ble_eq_true rfl)) dX10_nextClash_63 ⟨Nat.le_of_ble_eq_true rfl, Nat.le_of_ble_eq_true rfl⟩) hS hFc hFc rfl (fun t H locs ht hB hk1 hS => ?_)
                obtain ⟨v1, v2, v3, v4, v5, v6, v7, v8, v9, w9, hP1, hD1⟩ := hB
                rw [ht] at hP1
                obtain ⟨hP, hD⟩ := zkP (W2 := [_, _, (oc0 bq v1 v2 v3 v4), (oc0 bp v5 v6 v7 v8), (oc2 dq v9 w9), _, _]) hP hD [0, 1, 2, 3, 4, 5, 6] [] [] [0, 1, 2, 3, 4, 5, 6] [0, 1, 2, 3, 4, 5, 6] 7 rfl rfl rfl rfl rfl rfl rfl rfl rfl hk1 hFc hP1 hD1
                clear hk1 hPc hDc hFc hP1 hD1 ht
                refine lv_if_eq (tgt := 79) hx hb dX10_nextClash_66 (by decide) (fun c_11 => ?_) (fun c_11 => ?_)
                · have c_11 : ¬ (clP ft st tn kd mn cx cy wd gp9 l5 h5) := zp_0 c_11
                  refine lv_iinc (v := nI (h5 + 1)) (lv' := [(6, .int (nI (h5 + 1))), (5, .int (nI (pr % 200))), (4, .int (nI l5)), (3, .int (nI (pr / 200))), (0, .ref x), (1, .int gp9), (2, .int (nI pr))]) hx hb dX10_nextClash_79 hl (k := 0) rfl (nI_add h5 1) (by decide) rfl (fun ls hl => ?_)
                  refine lv_goto (tgt := 45) hx hb dX10_nextClash_82 (by decide) ?_
                  exact ih_45 (h5 + 1) v1 v2 v3 v4 v5 v6 v7 v8 v9 w9 H locs ls (by omega) (by omega) (nxI_s hnh (by assumption)) (prL_s hpl) hP hD hS (lv_sub hl [0, 1, 2, 3, 4, 5, 6] rfl)
                · have c_11 : clP ft st tn kd mn cx cy wd gp9 l5 h5 := zp_1 c_11
                  refine lv_iload hx hb dX10_nextClash_69 (lv_at hl 2 rfl) ?_
                  refine lv_sipush (v := 200) hx hb dX10_nextClash_71 (by decide) ?_
                  refine lv_imul hx hb dX10_nextClash_74 ?_
                  refine zz_i (v := nI (l5 * 200)) (pk_mul l5 200) ?_
                  refine lv_iload hx hb dX10_nextClash_75 (lv_at hl 0 rfl) ?_
                  refine lv_iadd hx hb dX10_nextClash_77 ?_
                  refine zz_i (v := nI (l5 * 200 + h5)) (nI_add (l5 * 200) h5) ?_
                  obtain ⟨hP9, hD9⟩ := zq_part (cx := [(oc8 x (.ref sh) (.ref lw) (.ref ro) (.ref bq) (.ref bp) (.ref dq) (.ref dp) (.ref lv) (.ref sl) (nI dn) sd ul su), (oc10 sl mc9 (.ref ea) (nI T)), (oc0 bq v1 v2 v3 v4), (oc0 bp v5 v6 v7 v8), (oc2 dq v9 w9), (oc7 sh (.ref fa) (nI ft)), (oq fa cF 200 FA)]) hP hD [0, 1, 2, 3, 4, 5, 6] (by decide) rfl
                  rw [hQ9]
                  exact W.iret (v := nI (l5 * 200 + h5)) hx hb hr (fun t ht hW => ⟨⟨_, rfl, (nI (l5 * 200 + h5)), v1, v2, v3, v4, v5, v6, v7, v8, v9, w9, rfl, (nxC_y hnl hnh (by omega) (by omega) (by assumption) hpl), by rw [ht]; exact hP9, hD9⟩, hS.F ht⟩) hS.2.2 dX10_nextClash_78
          exact hl_45 _ ((pr % 200) + 1) u1 u2 u3 u4 u5 u6 u7 u8 w1 w2 H locs ls (Nat.lt_succ_self _) (by omega) (by first | exact nxI_1 | (rw [show l5 = pr / 200 by omega]; exact nxI_0)) (by unfold prL; omega) hP hD hS (lv_sub hl [0, 1, 2, 3, 4, 5, 6] rfl)
  exact hl_9 _ (pr / 200) c1 c2 c3 c4 a1 a2 a3 a4 y1 y2 s.heap [] ls (Nat.lt_succ_self _) (by omega) (nxO_0) hP hD hS (lv_sub hl [0, 1, 2, 3, 4] rfl)
set_option maxHeartbeats 4000000 in
set_option maxRecDepth 100000 in
theorem k_clash_y0 (l : Launch) (dC : Nat → ClassId) (dI : Nat → Nat → Nat) (cI cZ cF : ClassId) (sz : Nat) (cO : ClassId) (e0 : Nat) (mi : Nat) (x : Nat) (sh : Nat) (lw : Nat) (ro : Nat) (bq : Nat) (bp : Nat) (dq : Nat) (dp : Nat) (lv : Nat) (sl : Nat) (sd : Int32) (ul : Int32) (su : Int32) (ea : Nat) (mc9 : Int32) (fa : Nat) (FA : Nat → Option Nat) (bs : Nat) (dn : Nat) (T : Nat) (ft : Nat) (FT : Nat → Nat) (V : Nat → Nat → Nat → Int32) (VX : Nat → Nat → Int32) (VY : Nat → Nat → Int32) (tn : Nat → Int32) (rk : Nat → Int32) (wd : Nat → Int32) (tw : Nat → Int32) (pa : Nat → Int32) (pb : Nat → Int32) (wh : Nat → Int32) (of9 : Nat → Int32) (we : Nat → Int32) (kd : Nat → Int32) (st : Nat → Int32) (gb : Nat → Int32) (it : Nat → Int32) (mn : Nat → Int32) (cx : Nat → Int32) (cy : Nat → Int32) (L : List Nat) (f : Nat → va_E) (i5 : Nat) (fa7 : Nat) (fb7 : Nat) (c1 : Int32) (c2 : Int32) (c3 : Int32) (c4 : Int32) (a1 : Int32) (a2 : Int32) (a3 : Int32) (a4 : Int32) (y1 : Int64) (y2 : Int64) (gp9 : Int32) (hB : shB cI cO L f e0 FA ea bs dn T ft FT V VX VY tn rk wd tw pa pb wh of9 we kd st gb it mn cx cy) (hwf : ∀ q, lvF ft st tn q → wfM mn cx cy q) (hkn : okN ft st tn kd mn) (hgp : 0 ≤ gp9.toInt ∧ gp9.toInt ≤ 200) (hwd : ∀ q, q < ft → 0 ≤ (wd q).toInt ∧ (wd q).toInt ≤ 100) (hi31 : i5 < 2147483648) (hit : clI (clP ft st tn kd mn cx cy wd gp9) ft fa7 fb7 i5) : zML l yX10_clash cX10_clash 6 (some .int) ({ frames := 6, cells := 0, slots := 0, locals := 158 } : Room) [.ref x, .int gp9, .int (nI i5), .int 0] (dC, dI) (zTyO cI cZ cF cO) e0 mi ([(oc8 x (.ref sh) (.ref lw) (.ref ro) (.ref bq) (.ref bp) (.ref dq) (.ref dp) (.ref lv) (.ref sl) (nI dn) sd ul su), (oc10 sl mc9 (.ref ea) (nI T)), (oc0 bq c1 c2 c3 c4), (oc0 bp a1 a2 a3 a4), (oc2 dq y1 y2), (oc7 sh (.ref fa) (nI ft)), (oq fa cF 200 FA)] ++ va_pl L f) sz (some (.int (nI fa7))) (fun A t => ∃ (c5 : Int32), ∃ (c6 : Int32), ∃ (c7 : Int32), ∃ (c8 : Int32), ∃ (a5 : Int32), ∃ (a6 : Int32), ∃ (a7 : Int32), ∃ (a8 : Int32), ∃ (y5 : Int64), ∃ (y6 : Int64), zPD (dC, dI) classes A ([(oc8 x (.ref sh) (.ref lw) (.ref ro) (.ref bq) (.ref bp) (.ref dq) (.ref dp) (.ref lv) (.ref sl) (nI dn) sd ul su), (oc10 sl mc9 (.ref ea) (nI T)), (oc0 bq c5 c6 c7 c8), (oc0 bp a5 a6 a7 a8), (oc2 dq y5 y6), (oc7 sh (.ref fa) (nI ft)), (oq fa cF 200 FA)] ++ va_pl L f) t.heap) 0 0 := by
  refine zInL (own := "ScaleShop") (loc := [(0, .ref x), (1, .int gp9), (2, .int (nI i5)), (3, .int 0)]) rfl rfl rfl rfl (fun p e s m below meth c hx hb hr hts hown hlocks hml hnm9 A hA hS hP hD hK hXL hXN hK3 Q9 hQ9 ls hl => ?_)
  have hG0 := hB
  obtain ⟨own0, fe0, cl0, la0, sp0, SA0, hG90, hH90, hft90⟩ := hG0
  have h200 : ft ≤ 200 := Nat.le_trans hG90.2.2.2.2.2.1.2.2.2.2.1 hG90.2.2.2.2.2.1.2.2.2.2.2
  have e_0 : (0 : Int32).toInt = 0 := (by decide)
  have e_200 : (200 : Int32).toInt = 200 := (by decide)
  have e_1 : (1 : Int32).toInt = 1 := (by decide)
  have e_40000 : (40000 : Int32).toInt = 40000 := (by decide)
  have hi9 : (nI i5).toInt = ((i5 : Nat) : Int) := nI_toInt (by omega)
  have hib := clI_b hit
  have hib2 := clT_200 (clP ft st tn kd mn cx cy wd gp9) h200 (Nat.le_refl ft)
  refine lv_iload_n hx hb dX10_clash_0 rfl (lv_at hl 1 rfl) ?_
  refine lv_iconst (v := 0) hx hb dX10_clash_1 (by decide) ?_
  refine lv_sipush (v := 200) hx hb dX10_clash_2 (by decide) ?_
  obtain ⟨hPc, hDc, hFc⟩ := zc_sub (wc := []) hP hD hS hA [] (by decide) rfl
  refine zcall (st1 := [.int (pI ((0 : Int32).toInt ≤ gp9.toInt ∧ gp9.toInt ≤ (200 : Int32).toInt))]) (va_runS (As := [.int gp9, .int 0, .int 200]) (rest := []) ⟨hx, hb, hml, hown, hts⟩ (k_isWithin l dC dI cI cZ cF s.heap.size gp9 0 200 ) (csS_14 hts rfl rfl ⟨Nat.le_of_ble_eq_true rfl, Nat.le_of_ble_eq_true rfl⟩) (zPS2 hPc hDc hK3 hXN) rfl rfl hl.1 rfl (lv_room (Nat.le_of_ble_eq_true rfl)) dX10_clash_5 ⟨Nat.le_of_ble_eq_true rfl, Nat.le_of_ble_eq_true rfl⟩) hS hFc hFc rfl (fun t H locs ht hB hk1 hS => ?_)
  obtain ⟨hP1, hD1⟩ := hB
  rw [ht] at hP1
  obtain ⟨hP, hD⟩ := zkQ (W2 := [_, _, _, _, _, _, _]) hP hD [] [0, 1, 2, 3, 4, 5, 6] [0, 1, 2, 3, 4, 5, 6] [] [0, 1, 2, 3, 4, 5, 6] 7 rfl rfl rfl rfl rfl rfl rfl rfl rfl hk1 hFc hP1 hD1
  clear hk1 hPc hDc hFc hP1 hD1 ht
  refine lv_if_eq (tgt := 22) hx hb dX10_clash_8 (by decide) (fun c_1 => ?_) (fun c_1 => ?_)
  · have c_1 : ¬ ((0 : Int32).toInt ≤ gp9.toInt ∧ gp9.toInt ≤ (200 : Int32).toInt) := zp_0 c_1
    exfalso; first | exact absurd hgp (by assumption) | omega
  · have c_1 : (0 : Int32).toInt ≤ gp9.toInt ∧ gp9.toInt ≤ (200 : Int32).toInt := zp_1 c_1
    refine lv_iload_n hx hb dX10_clash_11 rfl (lv_at hl 2 rfl) ?_
    refine lv_iconst (v := 0) hx hb dX10_clash_12 (by decide) ?_
    refine lv_ldcw hx hb hown (hts _ mw_1100) dX10_clash_13 ?_
    obtain ⟨hPc, hDc, hFc⟩ := zc_sub (wc := []) hP hD hS hA [] (by decide) rfl
    refine zcall (st1 := [.int (pI ((0 : Int32).toInt ≤ (nI i5).toInt ∧ (nI i5).toInt ≤ (40000 : Int32).toInt))]) (va_runS (As := [.int (nI i5), .int 0, .int 40000]) (rest := []) ⟨hx, hb, hml, hown, hts⟩ (k_isWithin l dC dI cI cZ cF H.size (nI i5) 0 40000 ) (csS_14 hts rfl rfl ⟨Nat.le_of_ble_eq_true rfl, Nat.le_of_ble_eq_true rfl⟩) (zPS2 hPc hDc hK3 hXN) rfl rfl hl.1 rfl (lv_room (Nat.le_of_ble_eq_true rfl)) dX10_clash_16 ⟨Nat.le_of_ble_eq_true rfl, Nat.le_of_ble_eq_true rfl⟩) hS hFc hFc rfl (fun t H locs ht hB hk1 hS => ?_)
    obtain ⟨hP1, hD1⟩ := hB
    rw [ht] at hP1
    obtain ⟨hP, hD⟩ := zkQ (W2 := [_, _, _, _, _, _, _]) hP hD [] [0, 1, 2, 3, 4, 5, 6] [0, 1, 2, 3, 4, 5, 6] [] [0, 1, 2, 3, 4, 5, 6] 7 rfl rfl rfl rfl rfl rfl rfl rfl rfl hk1 hFc hP1 hD1
    clear hk1 hPc hDc hFc hP1 hD1 ht
    refine lv_if_ne (tgt := 24) hx hb dX10_clash_19 (by decide) (fun c_2 => ?_) (fun c_2 => ?_)
    · have c_2 : (0 : Int32).toInt ≤ (nI i5).toInt ∧ (nI i5).toInt ≤ (40000 : Int32).toInt := zp_1 c_2
      refine lv_iload_n hx hb dX10_clash_24 rfl (lv_at hl 3 rfl) ?_
      refine lv_iconst (v := 0) hx hb dX10_clash_25 (by decide) ?_
      refine lv_iconst (v := 1) hx hb dX10_clash_26 (by decide) ?_
      obtain ⟨hPc, hDc, hFc⟩ := zc_sub (wc := []) hP hD hS hA [] (by decide) rfl
      refine zcall (st1 := [.int (pI ((0 : Int32).toInt ≤ (0 : Int32).toInt ∧ (0 : Int32).toInt ≤ (1 : Int32).toInt))]) (va_runS (As := [.int 0, .int 0, .int 1]) (rest := []) ⟨hx, hb, hml, hown, hts⟩ (k_isWithin l dC dI cI cZ cF H.size 0 0 1 ) (csS_14 hts rfl rfl ⟨Nat.le_of_ble_eq_true rfl, Nat.le_of_ble_eq_true rfl⟩) (zPS2 hPc hDc hK3 hXN) rfl rfl hl.1 rfl (lv_room (Nat.le_of_ble_eq_true rfl)) dX10_clash_27 ⟨Nat.le_of_ble_eq_true rfl, Nat.le_of_ble_eq_true rfl⟩) hS hFc hFc rfl (fun t H locs ht hB hk1 hS => ?_)
      obtain ⟨hP1, hD1⟩ := hB
      rw [ht] at hP1
      obtain ⟨hP, hD⟩ := zkQ (W2 := [_, _, _, _, _, _, _]) hP hD [] [0, 1, 2, 3, 4, 5, 6] [0, 1, 2, 3, 4, 5, 6] [] [0, 1, 2, 3, 4, 5, 6] 7 rfl rfl rfl rfl rfl rfl rfl rfl rfl hk1 hFc hP1 hD1
      clear hk1 hPc hDc hFc hP1 hD1 ht
      refine lv_if_ne (tgt := 35) hx hb dX10_clash_30 (by decide) (fun c_3 => ?_) (fun c_3 => ?_)
      · have c_3 : (0 : Int32).toInt ≤ (0 : Int32).toInt ∧ (0 : Int32).toInt ≤ (1 : Int32).toInt := zp_1 c_3
        refine lv_aload_n hx hb dX10_clash_35 rfl (lv_at hl 0 rfl) ?_
        refine lv_iload_n hx hb dX10_clash_36 rfl (lv_at hl 1 rfl) ?_
        refine lv_iconst (v := 0) hx hb dX10_clash_37 (by decide) ?_
        obtain ⟨hPc, hDc, hFc⟩ := zc_part (cx := [(oc8 x (.ref sh) (.ref lw) (.ref ro) (.ref bq) (.ref bp) (.ref dq) (.ref dp) (.ref lv) (.ref sl) (nI dn) sd ul su), (oc10 sl mc9 (.ref ea) (nI T)), (oc0 bq c1 c2 c3 c4), (oc0 bp a1 a2 a3 a4), (oc2 dq y1 y2), (oc7 sh (.ref fa) (nI ft)), (oq fa cF 200 FA)]) hP hD hS hA [0, 1, 2, 3, 4, 5, 6] (by decide) rfl
        refine zcalle (va_runV (As := [.int gp9, .int 0]) (rest := []) ⟨hx, hb, hml, hown, hts⟩ (k_nextClash_y l dC dI cI cZ cF H.size cO e0 mi x sh lw ro bq bp dq dp lv sl sd ul su ea mc9 fa FA bs dn T ft FT V VX VY tn rk wd tw pa pb wh of9 we kd st gb it mn cx cy L f 0 c1 c2 c3 c4 a1 a2 a3 a4 y1 y2 gp9 (hB) (hwf) (hkn) (hgp) (hwd) (by omega)) (csV_160 hts rfl rfl ⟨Nat.le_of_ble_eq_true rfl, Nat.le_of_ble_eq_true rfl⟩) (zPVL (q0 := 0) (ci := 8) hPc hDc hK hXL hS hFc rfl rfl) rfl rfl hl.1 rfl (lv_room (Nat.le_of_ble_eq_true rfl)) dX10_clash_38 ⟨Nat.le_of_ble_eq_true rfl, Nat.le_of_ble_eq_true rfl⟩) hS hFc hFc (fun v9 t H locs ht hB hk1 hS => ?_)
        obtain ⟨za, v0a, v1a, v2a, v3a, v4a, v5a, v6a, v7a, w0a, w1a, rfl, hza, hP1, hD1⟩ := hB
        refine W.eq (g2 := F0 m 41 ls [.int za]) rfl ?_
        rw [ht] at hP1
        obtain ⟨hP, hD⟩ := zkP (W2 := [_, _, (oc0 bq v0a v1a v2a v3a), (oc0 bp v4a v5a v6a v7a), (oc2 dq w0a w1a), _, _]) hP hD [0, 1, 2, 3, 4, 5, 6] [] [] [0, 1, 2, 3, 4, 5, 6] [0, 1, 2, 3, 4, 5, 6] 7 rfl rfl rfl rfl rfl rfl rfl rfl rfl hk1 hFc hP1 hD1
        clear hk1 hPc hDc hFc hP1 hD1 ht
        refine lv_istore (lv' := [(4, .int za), (0, .ref x), (1, .int gp9), (2, .int (nI i5)), (3, .int 0)]) hx hb dX10_clash_41 hl (by decide) rfl (fun ls hl => ?_)
        refine lv_iconst (v := 0) hx hb dX10_clash_43 (by decide) ?_
        refine lv_istore (lv' := [(5, .int 0), (4, .int za), (0, .ref x), (1, .int gp9), (2, .int (nI i5)), (3, .int 0)]) hx hb dX10_clash_44 hl (by decide) rfl (fun ls hl => ?_)
        have hl_46 : ∀ (n9 : Nat) (i : Nat) (z5 : Int32) (u1 : Int32) (u2 : Int32) (u3 : Int32) (u4 : Int32) (u5 : Int32) (u6 : Int32) (u7 : Int32) (u8 : Int32) (w1 : Int64) (w2 : Int64) (H : Heap) (locs : List Loc) (ls : Array Slot), 40001 - i < n9 → (i ≤ i5) → (clZ (clP ft st tn kd mn cx cy wd gp9) ft i z5) → va_P (dC, dI) classes ([(oc8 x (.ref sh) (.ref lw) (.ref ro) (.ref bq) (.ref bp) (.ref dq) (.ref dp) (.ref lv) (.ref sl) (nI dn) sd ul su), (oc10 sl mc9 (.ref ea) (nI T)), (oc0 bq u1 u2 u3 u4), (oc0 bp u5 u6 u7 u8), (oc2 dq w1 w2), (oc7 sh (.ref fa) (nI ft)), (oq fa cF 200 FA)] ++ va_pl L f) H → va_D A ([(oc8 x (.ref sh) (.ref lw) (.ref ro) (.ref bq) (.ref bp) (.ref dq) (.ref dp) (.ref lv) (.ref sl) (nI dn) sd ul su), (oc10 sl mc9 (.ref ea) (nI T)), (oc0 bq u1 u2 u3 u4), (oc0 bp u5 u6 u7 u8), (oc2 dq w1 w2), (oc7 sh (.ref fa) (nI ft)), (oq fa cF 200 FA)] ++ va_pl L f) → va_S A s.heap H locs → lv_has ls 6 [(5, .int (nI i)), (4, .int z5), (0, .ref x), (1, .int gp9), (2, .int (nI i5)), (3, .int 0)] → W p l e ({ frames := 6, cells := 0, slots := 0, locals := 158 } : Room) s m ([.ref x, .int gp9, .int (nI i5), .int 0] : List Value).toArray below meth c H locs 0 0 Q9 (F0 m 46 ls []) := by
          intro n9
          induction n9 with
          | zero => intro i z5 u1 u2 u3 u4 u5 u6 u7 u8 w1 w2 H locs ls hm; exact absurd hm (Nat.not_lt_zero _)
          | succ n9 ih_46 =>
            intro i z5 u1 u2 u3 u4 u5 u6 u7 u8 w1 w2 H locs ls hm hi hz hP hD hS hl
            refine lv_iload hx hb dX10_clash_46 (lv_at hl 0 rfl) ?_
            refine lv_iload_n hx hb dX10_clash_48 rfl (lv_at hl 4 rfl) ?_
            have b9_5 : i < 2147483648 := by omega
            have b9_6 : i5 < 2147483648 := by omega
            refine lv_icmp_ge (tgt := 73) hx hb dX10_clash_49 (by decide) (fun c_4 => ?_) (fun c_4 => ?_)
            · have c_4 : ((i5 : Nat) : Int) ≤ ((i : Nat) : Int) := zc_le (nI_toInt b9_6) (nI_toInt b9_5) c_4
              refine lv_iload hx hb dX10_clash_73 (lv_at hl 1 rfl) ?_
              refine lv_iconst (v := (-1)) hx hb dX10_clash_75 (by decide) ?_
              refine lv_icmp_ne (tgt := 81) hx hb dX10_clash_76 (by decide) (fun c_7 => ?_) (fun c_7 => ?_)
              · have c_7 : ¬ z5.toInt = (-1) := zc_ne rfl (by decide) c_7
                skip
                · skip
                  obtain ⟨qa, qb, hz5, hI5⟩ := clZ_get hz (by assumption)
                  subst hz5
                  have hpr5 := clI_p h200 hI5
                  have hie : i = i5 := (by omega)
                  subst hie
                  have hu5 := clI_u hI5 hit
                  have hd5 := clI_d h200 hI5
                  refine lv_iload_n hx hb dX10_clash_81 rfl (lv_at hl 5 rfl) ?_
                  refine lv_if_ne (tgt := 94) hx hb dX10_clash_82 (by decide) (fun c_8 => ?_) (fun c_8 => ?_)
                  · exact absurd (by decide) c_8
                  · refine lv_iload hx hb dX10_clash_85 (lv_at hl 1 rfl) ?_
                    refine lv_sipush (v := 200) hx hb dX10_clash_87 (by decide) ?_
                    refine lv_idiv hx hb dX10_clash_90 (by decide) ?_
                    refine zz_i (v := nI fa7) (by rw [zn_d200 (by omega)]; exact zn_eq (by omega)) ?_
                    refine lv_goto (tgt := 100) hx hb dX10_clash_91 (by decide) ?_
                    obtain ⟨hP9, hD9⟩ := zq_part (cx := [(oc8 x (.ref sh) (.ref lw) (.ref ro) (.ref bq) (.ref bp) (.ref dq) (.ref dp) (.ref lv) (.ref sl) (nI dn) sd ul su), (oc10 sl mc9 (.ref ea) (nI T)), (oc0 bq u1 u2 u3 u4), (oc0 bp u5 u6 u7 u8), (oc2 dq w1 w2), (oc7 sh (.ref fa) (nI ft)), (oq fa cF 200 FA)]) hP hD [0, 1, 2, 3, 4, 5, 6] (by decide) rfl
                    rw [hQ9]
                    exact W.iret (v := nI fa7) hx hb hr (fun t ht hW => ⟨⟨rfl, u1, u2, u3, u4, u5, u6, u7, u8, w1, w2, by rw [ht]; exact hP9, hD9⟩, hS.F ht⟩) hS.2.2 dX10_clash_100
              · have c_7 : z5.toInt = (-1) := zc_eq rfl (by decide) c_7
                exfalso; have h8 := clZ_e h200 hz (by assumption); omega
            · have c_4 : ((i : Nat) : Int) < ((i5 : Nat) : Int) := zc_nle (nI_toInt b9_6) (nI_toInt b9_5) c_4
              refine lv_iload hx hb dX10_clash_52 (lv_at hl 1 rfl) ?_
              refine lv_iconst (v := (-1)) hx hb dX10_clash_54 (by decide) ?_
              refine lv_icmp_eq (tgt := 73) hx hb dX10_clash_55 (by decide) (fun c_9 => ?_) (fun c_9 => ?_)
              · have c_9 : z5.toInt = (-1) := zc_eq rfl (by decide) c_9
                refine lv_iload hx hb dX10_clash_73 (lv_at hl 1 rfl) ?_
                refine lv_iconst (v := (-1)) hx hb dX10_clash_75 (by decide) ?_
                refine lv_icmp_ne (tgt := 81) hx hb dX10_clash_76 (by decide) (fun c_10 => ?_) (fun c_10 => ?_)
                · have c_10 : ¬ z5.toInt = (-1) := zc_ne rfl (by decide) c_10
                  skip
                  · skip
                    obtain ⟨qa, qb, hz5, hI5⟩ := clZ_get hz (by assumption)
                    subst hz5
                    have hpr5 := clI_p h200 hI5
                    have hie : i = i5 := (by omega)
                    subst hie
                    have hu5 := clI_u hI5 hit
                    have hd5 := clI_d h200 hI5
                    refine lv_iload_n hx hb dX10_clash_81 rfl (lv_at hl 5 rfl) ?_
                    refine lv_if_ne (tgt := 94) hx hb dX10_clash_82 (by decide) (fun c_11 => ?_) (fun c_11 => ?_)
                    · exact absurd (by decide) c_11
                    · refine lv_iload hx hb dX10_clash_85 (lv_at hl 1 rfl) ?_
                      refine lv_sipush (v := 200) hx hb dX10_clash_87 (by decide) ?_
                      refine lv_idiv hx hb dX10_clash_90 (by decide) ?_
                      refine zz_i (v := nI fa7) (by rw [zn_d200 (by omega)]; exact zn_eq (by omega)) ?_
                      refine lv_goto (tgt := 100) hx hb dX10_clash_91 (by decide) ?_
                      obtain ⟨hP9, hD9⟩ := zq_part (cx := [(oc8 x (.ref sh) (.ref lw) (.ref ro) (.ref bq) (.ref bp) (.ref dq) (.ref dp) (.ref lv) (.ref sl) (nI dn) sd ul su), (oc10 sl mc9 (.ref ea) (nI T)), (oc0 bq u1 u2 u3 u4), (oc0 bp u5 u6 u7 u8), (oc2 dq w1 w2), (oc7 sh (.ref fa) (nI ft)), (oq fa cF 200 FA)]) hP hD [0, 1, 2, 3, 4, 5, 6] (by decide) rfl
                      rw [hQ9]
                      exact W.iret (v := nI fa7) hx hb hr (fun t ht hW => ⟨⟨rfl, u1, u2, u3, u4, u5, u6, u7, u8, w1, w2, by rw [ht]; exact hP9, hD9⟩, hS.F ht⟩) hS.2.2 dX10_clash_100
                · have c_10 : z5.toInt = (-1) := zc_eq rfl (by decide) c_10
                  exfalso; have h8 := clZ_e h200 hz (by assumption); omega
              · have c_9 : ¬ z5.toInt = (-1) := zc_ne rfl (by decide) c_9
                obtain ⟨qa, qb, hz5, hI5⟩ := clZ_get hz (by assumption)
                subst hz5
                have hpr5 := clI_p h200 hI5
                refine lv_aload_n hx hb dX10_clash_58 rfl (lv_at hl 2 rfl) ?_
                refine lv_iload_n hx hb dX10_clash_59 rfl (lv_at hl 3 rfl) ?_
                refine lv_iload hx hb dX10_clash_60 (lv_at hl 1 rfl) ?_
                obtain ⟨hPc, hDc, hFc⟩ := zc_part (cx := [(oc8 x (.ref sh) (.ref lw) (.ref ro) (.ref bq) (.ref bp) (.ref dq) (.ref dp) (.ref lv) (.ref sl) (nI dn) sd ul su), (oc10 sl mc9 (.ref ea) (nI T)), (oc0 bq u1 u2 u3 u4), (oc0 bp u5 u6 u7 u8), (oc2 dq w1 w2), (oc7 sh (.ref fa) (nI ft)), (oq fa cF 200 FA)]) hP hD hS hA [0, 1, 2, 3, 4, 5, 6] (by decide) rfl
                refine zcalle (va_runV (As := [.int gp9, .int (nI (qa * 200 + qb))]) (rest := []) ⟨hx, hb, hml, hown, hts⟩ (k_nextClash_y l dC dI cI cZ cF H.size cO e0 mi x sh lw ro bq bp dq dp lv sl sd ul su ea mc9 fa FA bs dn T ft FT V VX VY tn rk wd tw pa pb wh of9 we kd st gb it mn cx cy L f (qa * 200 + qb) u1 u2 u3 u4 u5 u6 u7 u8 w1 w2 gp9 (hB) (hwf) (hkn) (hgp) (hwd) (by omega)) (csV_160 hts rfl rfl ⟨Nat.le_of_ble_eq_true rfl, Nat.le_of_ble_eq_true rfl⟩) (zPVL (q0 := 0) (ci := 8) hPc hDc hK hXL hS hFc rfl rfl) rfl rfl hl.1 rfl (lv_room (Nat.le_of_ble_eq_true rfl)) dX10_clash_62 ⟨Nat.le_of_ble_eq_true rfl, Nat.le_of_ble_eq_true rfl⟩) hS hFc hFc (fun v9 t H locs ht hB hk1 hS => ?_)
                obtain ⟨zb, v0b, v1b, v2b, v3b, v4b, v5b, v6b, v7b, w0b, w1b, rfl, hzb, hP1, hD1⟩ := hB
                refine W.eq (g2 := F0 m 65 ls [.int zb]) rfl ?_
                rw [ht] at hP1
                obtain ⟨hP, hD⟩ := zkP (W2 := [_, _, (oc0 bq v0b v1b v2b v3b), (oc0 bp v4b v5b v6b v7b), (oc2 dq w0b w1b), _, _]) hP hD [0, 1, 2, 3, 4, 5, 6] [] [] [0, 1, 2, 3, 4, 5, 6] [0, 1, 2, 3, 4, 5, 6] 7 rfl rfl rfl rfl rfl rfl rfl rfl rfl hk1 hFc hP1 hD1
                clear hk1 hPc hDc hFc hP1 hD1 ht
                refine lv_istore (lv' := [(4, .int zb), (5, .int (nI i)), (0, .ref x), (1, .int gp9), (2, .int (nI i5)), (3, .int 0)]) hx hb dX10_clash_65 hl (by decide) rfl (fun ls hl => ?_)
                refine lv_iinc (v := nI (i + 1)) (lv' := [(5, .int (nI (i + 1))), (4, .int zb), (0, .ref x), (1, .int gp9), (2, .int (nI i5)), (3, .int 0)]) hx hb dX10_clash_67 hl (k := 1) rfl (nI_add i 1) (by decide) rfl (fun ls hl => ?_)
                refine lv_goto (tgt := 46) hx hb dX10_clash_70 (by decide) ?_
                exact ih_46 (i + 1) zb v0b v1b v2b v3b v4b v5b v6b v7b w0b w1b H locs ls (by omega) (by omega) (clZ_s h200 hI5 hzb) hP hD hS (lv_sub hl [0, 1, 2, 3, 4, 5] rfl)
        exact hl_46 _ 0 za v0a v1a v2a v3a v4a v5a v6a v7a w0a w1a H locs ls (Nat.lt_succ_self _) (by omega) (clZ_0 hza) hP hD hS (lv_sub hl [0, 1, 2, 3, 4, 5] rfl)
      · have c_3 : ¬ ((0 : Int32).toInt ≤ (0 : Int32).toInt ∧ (0 : Int32).toInt ≤ (1 : Int32).toInt) := zp_0 c_3
        exfalso; omega
    · have c_2 : ¬ ((0 : Int32).toInt ≤ (nI i5).toInt ∧ (nI i5).toInt ≤ (40000 : Int32).toInt) := zp_0 c_2
      exfalso; first | exact absurd hgp (by assumption) | omega
set_option maxHeartbeats 4000000 in
set_option maxRecDepth 100000 in
theorem k_clash_y1 (l : Launch) (dC : Nat → ClassId) (dI : Nat → Nat → Nat) (cI cZ cF : ClassId) (sz : Nat) (cO : ClassId) (e0 : Nat) (mi : Nat) (x : Nat) (sh : Nat) (lw : Nat) (ro : Nat) (bq : Nat) (bp : Nat) (dq : Nat) (dp : Nat) (lv : Nat) (sl : Nat) (sd : Int32) (ul : Int32) (su : Int32) (ea : Nat) (mc9 : Int32) (fa : Nat) (FA : Nat → Option Nat) (bs : Nat) (dn : Nat) (T : Nat) (ft : Nat) (FT : Nat → Nat) (V : Nat → Nat → Nat → Int32) (VX : Nat → Nat → Int32) (VY : Nat → Nat → Int32) (tn : Nat → Int32) (rk : Nat → Int32) (wd : Nat → Int32) (tw : Nat → Int32) (pa : Nat → Int32) (pb : Nat → Int32) (wh : Nat → Int32) (of9 : Nat → Int32) (we : Nat → Int32) (kd : Nat → Int32) (st : Nat → Int32) (gb : Nat → Int32) (it : Nat → Int32) (mn : Nat → Int32) (cx : Nat → Int32) (cy : Nat → Int32) (L : List Nat) (f : Nat → va_E) (i5 : Nat) (fa7 : Nat) (fb7 : Nat) (c1 : Int32) (c2 : Int32) (c3 : Int32) (c4 : Int32) (a1 : Int32) (a2 : Int32) (a3 : Int32) (a4 : Int32) (y1 : Int64) (y2 : Int64) (gp9 : Int32) (hB : shB cI cO L f e0 FA ea bs dn T ft FT V VX VY tn rk wd tw pa pb wh of9 we kd st gb it mn cx cy) (hwf : ∀ q, lvF ft st tn q → wfM mn cx cy q) (hkn : okN ft st tn kd mn) (hgp : 0 ≤ gp9.toInt ∧ gp9.toInt ≤ 200) (hwd : ∀ q, q < ft → 0 ≤ (wd q).toInt ∧ (wd q).toInt ≤ 100) (hi31 : i5 < 2147483648) (hit : clI (clP ft st tn kd mn cx cy wd gp9) ft fa7 fb7 i5) : zML l yX10_clash cX10_clash 6 (some .int) ({ frames := 6, cells := 0, slots := 0, locals := 158 } : Room) [.ref x, .int gp9, .int (nI i5), .int 1] (dC, dI) (zTyO cI cZ cF cO) e0 mi ([(oc8 x (.ref sh) (.ref lw) (.ref ro) (.ref bq) (.ref bp) (.ref dq) (.ref dp) (.ref lv) (.ref sl) (nI dn) sd ul su), (oc10 sl mc9 (.ref ea) (nI T)), (oc0 bq c1 c2 c3 c4), (oc0 bp a1 a2 a3 a4), (oc2 dq y1 y2), (oc7 sh (.ref fa) (nI ft)), (oq fa cF 200 FA)] ++ va_pl L f) sz (some (.int (nI fb7))) (fun A t => ∃ (c5 : Int32), ∃ (c6 : Int32), ∃ (c7 : Int32), ∃ (c8 : Int32), ∃ (a5 : Int32), ∃ (a6 : Int32), ∃ (a7 : Int32), ∃ (a8 : Int32), ∃ (y5 : Int64), ∃ (y6 : Int64), zPD (dC, dI) classes A ([(oc8 x (.ref sh) (.ref lw) (.ref ro) (.ref bq) (.ref bp) (.ref dq) (.ref dp) (.ref lv) (.ref sl) (nI dn) sd ul su), (oc10 sl mc9 (.ref ea) (nI T)), (oc0 bq c5 c6 c7 c8), (oc0 bp a5 a6 a7 a8), (oc2 dq y5 y6), (oc7 sh (.ref fa) (nI ft)), (oq fa cF 200 FA)] ++ va_pl L f) t.heap) 0 0 := by
  refine zInL (own := "ScaleShop") (loc := [(0, .ref x), (1, .int gp9), (2, .int (nI i5)), (3, .int 1)]) rfl rfl rfl rfl (fun p e s m below meth c hx hb hr hts hown hlocks hml hnm9 A hA hS hP hD hK hXL hXN hK3 Q9 hQ9 ls hl => ?_)
  have hG0 := hB
  obtain ⟨own0, fe0, cl0, la0, sp0, SA0, hG90, hH90, hft90⟩ := hG0
  have h200 : ft ≤ 200 := Nat.le_trans hG90.2.2.2.2.2.1.2.2.2.2.1 hG90.2.2.2.2.2.1.2.2.2.2.2
  have e_0 : (0 : Int32).toInt = 0 := (by decide)
  have e_200 : (200 : Int32).toInt = 200 := (by decide)
  have e_1 : (1 : Int32).toInt = 1 := (by decide)
  have e_40000 : (40000 : Int32).toInt = 40000 := (by decide)
  have hi9 : (nI i5).toInt = ((i5 : Nat) : Int) := nI_toInt (by omega)
  have hib := clI_b hit
  have hib2 := clT_200 (clP ft st tn kd mn cx cy wd gp9) h200 (Nat.le_refl ft)
  refine lv_iload_n hx hb dX10_clash_0 rfl (lv_at hl 1 rfl) ?_
  refine lv_iconst (v := 0) hx hb dX10_clash_1 (by decide) ?_
  refine lv_sipush (v := 200) hx hb dX10_clash_2 (by decide) ?_
  obtain ⟨hPc, hDc, hFc⟩ := zc_sub (wc := []) hP hD hS hA [] (by decide) rfl
  refine zcall (st1 := [.int (pI ((0 : Int32).toInt ≤ gp9.toInt ∧ gp9.toInt ≤ (200 : Int32).toInt))]) (va_runS (As := [.int gp9, .int 0, .int 200]) (rest := []) ⟨hx, hb, hml, hown, hts⟩ (k_isWithin l dC dI cI cZ cF s.heap.size gp9 0 200 ) (csS_14 hts rfl rfl ⟨Nat.le_of_ble_eq_true rfl, Nat.le_of_ble_eq_true rfl⟩) (zPS2 hPc hDc hK3 hXN) rfl rfl hl.1 rfl (lv_room (Nat.le_of_ble_eq_true rfl)) dX10_clash_5 ⟨Nat.le_of_ble_eq_true rfl, Nat.le_of_ble_eq_true rfl⟩) hS hFc hFc rfl (fun t H locs ht hB hk1 hS => ?_)
  obtain ⟨hP1, hD1⟩ := hB
  rw [ht] at hP1
  obtain ⟨hP, hD⟩ := zkQ (W2 := [_, _, _, _, _, _, _]) hP hD [] [0, 1, 2, 3, 4, 5, 6] [0, 1, 2, 3, 4, 5, 6] [] [0, 1, 2, 3, 4, 5, 6] 7 rfl rfl rfl rfl rfl rfl rfl rfl rfl hk1 hFc hP1 hD1
  clear hk1 hPc hDc hFc hP1 hD1 ht
  refine lv_if_eq (tgt := 22) hx hb dX10_clash_8 (by decide) (fun c_1 => ?_) (fun c_1 => ?_)
  · have c_1 : ¬ ((0 : Int32).toInt ≤ gp9.toInt ∧ gp9.toInt ≤ (200 : Int32).toInt) := zp_0 c_1
    exfalso; first | exact absurd hgp (by assumption) | omega
  · have c_1 : (0 : Int32).toInt ≤ gp9.toInt ∧ gp9.toInt ≤ (200 : Int32).toInt := zp_1 c_1
    refine lv_iload_n hx hb dX10_clash_11 rfl (lv_at hl 2 rfl) ?_
    refine lv_iconst (v := 0) hx hb dX10_clash_12 (by decide) ?_
    refine lv_ldcw hx hb hown (hts _ mw_1100) dX10_clash_13 ?_
    obtain ⟨hPc, hDc, hFc⟩ := zc_sub (wc := []) hP hD hS hA [] (by decide) rfl
    refine zcall (st1 := [.int (pI ((0 : Int32).toInt ≤ (nI i5).toInt ∧ (nI i5).toInt ≤ (40000 : Int32).toInt))]) (va_runS (As := [.int (nI i5), .int 0, .int 40000]) (rest := []) ⟨hx, hb, hml, hown, hts⟩ (k_isWithin l dC dI cI cZ cF H.size (nI i5) 0 40000 ) (csS_14 hts rfl rfl ⟨Nat.le_of_ble_eq_true rfl, Nat.le_of_ble_eq_true rfl⟩) (zPS2 hPc hDc hK3 hXN) rfl rfl hl.1 rfl (lv_room (Nat.le_of_ble_eq_true rfl)) dX10_clash_16 ⟨Nat.le_of_ble_eq_true rfl, Nat.le_of_ble_eq_true rfl⟩) hS hFc hFc rfl (fun t H locs ht hB hk1 hS => ?_)
    obtain ⟨hP1, hD1⟩ := hB
    rw [ht] at hP1
    obtain ⟨hP, hD⟩ := zkQ (W2 := [_, _, _, _, _, _, _]) hP hD [] [0, 1, 2, 3, 4, 5, 6] [0, 1, 2, 3, 4, 5, 6] [] [0, 1, 2, 3, 4, 5, 6] 7 rfl rfl rfl rfl rfl rfl rfl rfl rfl hk1 hFc hP1 hD1
    clear hk1 hPc hDc hFc hP1 hD1 ht
    refine lv_if_ne (tgt := 24) hx hb dX10_clash_19 (by decide) (fun c_2 => ?_) (fun c_2 => ?_)
    · have c_2 : (0 : Int32).toInt ≤ (nI i5).toInt ∧ (nI i5).toInt ≤ (40000 : Int32).toInt := zp_1 c_2
      refine lv_iload_n hx hb dX10_clash_24 rfl (lv_at hl 3 rfl) ?_
      refine lv_iconst (v := 0) hx hb dX10_clash_25 (by decide) ?_
      refine lv_iconst (v := 1) hx hb dX10_clash_26 (by decide) ?_
      obtain ⟨hPc, hDc, hFc⟩ := zc_sub (wc := []) hP hD hS hA [] (by decide) rfl
      refine zcall (st1 := [.int (pI ((0 : Int32).toInt ≤ (1 : Int32).toInt ∧ (1 : Int32).toInt ≤ (1 : Int32).toInt))]) (va_runS (As := [.int 1, .int 0, .int 1]) (rest := []) ⟨hx, hb, hml, hown, hts⟩ (k_isWithin l dC dI cI cZ cF H.size 1 0 1 ) (csS_14 hts rfl rfl ⟨Nat.le_of_ble_eq_true rfl, Nat.le_of_ble_eq_true rfl⟩) (zPS2 hPc hDc hK3 hXN) rfl rfl hl.1 rfl (lv_room (Nat.le_of_ble_eq_true rfl)) dX10_clash_27 ⟨Nat.le_of_ble_eq_true rfl, Nat.le_of_ble_eq_true rfl⟩) hS hFc hFc rfl (fun t H locs ht hB hk1 hS => ?_)
      obtain ⟨hP1, hD1⟩ := hB
      rw [ht] at hP1
      obtain ⟨hP, hD⟩ := zkQ (W2 := [_, _, _, _, _, _, _]) hP hD [] [0, 1, 2, 3, 4, 5, 6] [0, 1, 2, 3, 4, 5, 6] [] [0, 1, 2, 3, 4, 5, 6] 7 rfl rfl rfl rfl rfl rfl rfl rfl rfl hk1 hFc hP1 hD1
      clear hk1 hPc hDc hFc hP1 hD1 ht
      refine lv_if_ne (tgt := 35) hx hb dX10_clash_30 (by decide) (fun c_3 => ?_) (fun c_3 => ?_)
      · have c_3 : (0 : Int32).toInt ≤ (1 : Int32).toInt ∧ (1 : Int32).toInt ≤ (1 : Int32).toInt := zp_1 c_3
        refine lv_aload_n hx hb dX10_clash_35 rfl (lv_at hl 0 rfl) ?_
        refine lv_iload_n hx hb dX10_clash_36 rfl (lv_at hl 1 rfl) ?_
        refine lv_iconst (v := 0) hx hb dX10_clash_37 (by decide) ?_
        obtain ⟨hPc, hDc, hFc⟩ := zc_part (cx := [(oc8 x (.ref sh) (.ref lw) (.ref ro) (.ref bq) (.ref bp) (.ref dq) (.ref dp) (.ref lv) (.ref sl) (nI dn) sd ul su), (oc10 sl mc9 (.ref ea) (nI T)), (oc0 bq c1 c2 c3 c4), (oc0 bp a1 a2 a3 a4), (oc2 dq y1 y2), (oc7 sh (.ref fa) (nI ft)), (oq fa cF 200 FA)]) hP hD hS hA [0, 1, 2, 3, 4, 5, 6] (by decide) rfl
        refine zcalle (va_runV (As := [.int gp9, .int 0]) (rest := []) ⟨hx, hb, hml, hown, hts⟩ (k_nextClash_y l dC dI cI cZ cF H.size cO e0 mi x sh lw ro bq bp dq dp lv sl sd ul su ea mc9 fa FA bs dn T ft FT V VX VY tn rk wd tw pa pb wh of9 we kd st gb it mn cx cy L f 0 c1 c2 c3 c4 a1 a2 a3 a4 y1 y2 gp9 (hB) (hwf) (hkn) (hgp) (hwd) (by omega)) (csV_160 hts rfl rfl ⟨Nat.le_of_ble_eq_true rfl, Nat.le_of_ble_eq_true rfl⟩) (zPVL (q0 := 0) (ci := 8) hPc hDc hK hXL hS hFc rfl rfl) rfl rfl hl.1 rfl (lv_room (Nat.le_of_ble_eq_true rfl)) dX10_clash_38 ⟨Nat.le_of_ble_eq_true rfl, Nat.le_of_ble_eq_true rfl⟩) hS hFc hFc (fun v9 t H locs ht hB hk1 hS => ?_)
        obtain ⟨za, v0a, v1a, v2a, v3a, v4a, v5a, v6a, v7a, w0a, w1a, rfl, hza, hP1, hD1⟩ := hB
        refine W.eq (g2 := F0 m 41 ls [.int za]) rfl ?_
        rw [ht] at hP1
        obtain ⟨hP, hD⟩ := zkP (W2 := [_, _, (oc0 bq v0a v1a v2a v3a), (oc0 bp v4a v5a v6a v7a), (oc2 dq w0a w1a), _, _]) hP hD [0, 1, 2, 3, 4, 5, 6] [] [] [0, 1, 2, 3, 4, 5, 6] [0, 1, 2, 3, 4, 5, 6] 7 rfl rfl rfl rfl rfl rfl rfl rfl rfl hk1 hFc hP1 hD1
        clear hk1 hPc hDc hFc hP1 hD1 ht
        refine lv_istore (lv' := [(4, .int za), (0, .ref x), (1, .int gp9), (2, .int (nI i5)), (3, .int 1)]) hx hb dX10_clash_41 hl (by decide) rfl (fun ls hl => ?_)
        refine lv_iconst (v := 0) hx hb dX10_clash_43 (by decide) ?_
        refine lv_istore (lv' := [(5, .int 0), (4, .int za), (0, .ref x), (1, .int gp9), (2, .int (nI i5)), (3, .int 1)]) hx hb dX10_clash_44 hl (by decide) rfl (fun ls hl => ?_)
        have hl_46 : ∀ (n9 : Nat) (i : Nat) (z5 : Int32) (u1 : Int32) (u2 : Int32) (u3 : Int32) (u4 : Int32) (u5 : Int32) (u6 : Int32) (u7 : Int32) (u8 : Int32) (w1 : Int64) (w2 : Int64) (H : Heap) (locs : List Loc) (ls : Array Slot), 40001 - i < n9 → (i ≤ i5) → (clZ (clP ft st tn kd mn cx cy wd gp9) ft i z5) → va_P (dC, dI) classes ([(oc8 x (.ref sh) (.ref lw) (.ref ro) (.ref bq) (.ref bp) (.ref dq) (.ref dp) (.ref lv) (.ref sl) (nI dn) sd ul su), (oc10 sl mc9 (.ref ea) (nI T)), (oc0 bq u1 u2 u3 u4), (oc0 bp u5 u6 u7 u8), (oc2 dq w1 w2), (oc7 sh (.ref fa) (nI ft)), (oq fa cF 200 FA)] ++ va_pl L f) H → va_D A ([(oc8 x (.ref sh) (.ref lw) (.ref ro) (.ref bq) (.ref bp) (.ref dq) (.ref dp) (.ref lv) (.ref sl) (nI dn) sd ul su), (oc10 sl mc9 (.ref ea) (nI T)), (oc0 bq u1 u2 u3 u4), (oc0 bp u5 u6 u7 u8), (oc2 dq w1 w2), (oc7 sh (.ref fa) (nI ft)), (oq fa cF 200 FA)] ++ va_pl L f) → va_S A s.heap H locs → lv_has ls 6 [(5, .int (nI i)), (4, .int z5), (0, .ref x), (1, .int gp9), (2, .int (nI i5)), (3, .int 1)] → W p l e ({ frames := 6, cells := 0, slots := 0, locals := 158 } : Room) s m ([.ref x, .int gp9, .int (nI i5), .int 1] : List Value).toArray below meth c H locs 0 0 Q9 (F0 m 46 ls []) := by
          intro n9
          induction n9 with
          | zero => intro i z5 u1 u2 u3 u4 u5 u6 u7 u8 w1 w2 H locs ls hm; exact absurd hm (Nat.not_lt_zero _)
          | succ n9 ih_46 =>
            intro i z5 u1 u2 u3 u4 u5 u6 u7 u8 w1 w2 H locs ls hm hi hz hP hD hS hl
            refine lv_iload hx hb dX10_clash_46 (lv_at hl 0 rfl) ?_
            refine lv_iload_n hx hb dX10_clash_48 rfl (lv_at hl 4 rfl) ?_
            have b9_5 : i < 2147483648 := by omega
            have b9_6 : i5 < 2147483648 := by omega
            refine lv_icmp_ge (tgt := 73) hx hb dX10_clash_49 (by decide) (fun c_4 => ?_) (fun c_4 => ?_)
            · have c_4 : ((i5 : Nat) : Int) ≤ ((i : Nat) : Int) := zc_le (nI_toInt b9_6) (nI_toInt b9_5) c_4
              refine lv_iload hx hb dX10_clash_73 (lv_at hl 1 rfl) ?_
              refine lv_iconst (v := (-1)) hx hb dX10_clash_75 (by decide) ?_
              refine lv_icmp_ne (tgt := 81) hx hb dX10_clash_76 (by decide) (fun c_7 => ?_) (fun c_7 => ?_)
              · have c_7 : ¬ z5.toInt = (-1) := zc_ne rfl (by decide) c_7
                skip
                · skip
                  obtain ⟨qa, qb, hz5, hI5⟩ := clZ_get hz (by assumption)
                  subst hz5
                  have hpr5 := clI_p h200 hI5
                  have hie : i = i5 := (by omega)
                  subst hie
                  have hu5 := clI_u hI5 hit
                  have hd5 := clI_d h200 hI5
                  refine lv_iload_n hx hb dX10_clash_81 rfl (lv_at hl 5 rfl) ?_
                  refine lv_if_ne (tgt := 94) hx hb dX10_clash_82 (by decide) (fun c_8 => ?_) (fun c_8 => ?_)
                  · refine lv_iload hx hb dX10_clash_94 (lv_at hl 1 rfl) ?_
                    refine lv_sipush (v := 200) hx hb dX10_clash_96 (by decide) ?_
                    refine lv_irem hx hb dX10_clash_99 (by decide) ?_
                    refine zz_i (v := nI fb7) (by rw [zn_r200 (by omega)]; exact zn_eq (by omega)) ?_
                    obtain ⟨hP9, hD9⟩ := zq_part (cx := [(oc8 x (.ref sh) (.ref lw) (.ref ro) (.ref bq) (.ref bp) (.ref dq) (.ref dp) (.ref lv) (.ref sl) (nI dn) sd ul su), (oc10 sl mc9 (.ref ea) (nI T)), (oc0 bq u1 u2 u3 u4), (oc0 bp u5 u6 u7 u8), (oc2 dq w1 w2), (oc7 sh (.ref fa) (nI ft)), (oq fa cF 200 FA)]) hP hD [0, 1, 2, 3, 4, 5, 6] (by decide) rfl
                    rw [hQ9]
                    exact W.iret (v := nI fb7) hx hb hr (fun t ht hW => ⟨⟨rfl, u1, u2, u3, u4, u5, u6, u7, u8, w1, w2, by rw [ht]; exact hP9, hD9⟩, hS.F ht⟩) hS.2.2 dX10_clash_100
                  · exact absurd c_8 (by decide)
              · have c_7 : z5.toInt = (-1) := zc_eq rfl (by decide) c_7
                exfalso; have h8 := clZ_e h200 hz (by assumption); omega
            · have c_4 : ((i : Nat) : Int) < ((i5 : Nat) : Int) := zc_nle (nI_toInt b9_6) (nI_toInt b9_5) c_4
              refine lv_iload hx hb dX10_clash_52 (lv_at hl 1 rfl) ?_
              refine lv_iconst (v := (-1)) hx hb dX10_clash_54 (by decide) ?_
              refine lv_icmp_eq (tgt := 73) hx hb dX10_clash_55 (by decide) (fun c_9 => ?_) (fun c_9 => ?_)
              · have c_9 : z5.toInt = (-1) := zc_eq rfl (by decide) c_9
                refine lv_iload hx hb dX10_clash_73 (lv_at hl 1 rfl) ?_
                refine lv_iconst (v := (-1)) hx hb dX10_clash_75 (by decide) ?_
                refine lv_icmp_ne (tgt := 81) hx hb dX10_clash_76 (by decide) (fun c_10 => ?_) (fun c_10 => ?_)
                · have c_10 : ¬ z5.toInt = (-1) := zc_ne rfl (by decide) c_10
                  skip
                  · skip
                    obtain ⟨qa, qb, hz5, hI5⟩ := clZ_get hz (by assumption)
                    subst hz5
                    have hpr5 := clI_p h200 hI5
                    have hie : i = i5 := (by omega)
                    subst hie
                    have hu5 := clI_u hI5 hit
                    have hd5 := clI_d h200 hI5
                    refine lv_iload_n hx hb dX10_clash_81 rfl (lv_at hl 5 rfl) ?_
                    refine lv_if_ne (tgt := 94) hx hb dX10_clash_82 (by decide) (fun c_11 => ?_) (fun c_11 => ?_)
                    · refine lv_iload hx hb dX10_clash_94 (lv_at hl 1 rfl) ?_
                      refine lv_sipush (v := 200) hx hb dX10_clash_96 (by decide) ?_
                      refine lv_irem hx hb dX10_clash_99 (by decide) ?_
                      refine zz_i (v := nI fb7) (by rw [zn_r200 (by omega)]; exact zn_eq (by omega)) ?_
                      obtain ⟨hP9, hD9⟩ := zq_part (cx := [(oc8 x (.ref sh) (.ref lw) (.ref ro) (.ref bq) (.ref bp) (.ref dq) (.ref dp) (.ref lv) (.ref sl) (nI dn) sd ul su), (oc10 sl mc9 (.ref ea) (nI T)), (oc0 bq u1 u2 u3 u4), (oc0 bp u5 u6 u7 u8), (oc2 dq w1 w2), (oc7 sh (.ref fa) (nI ft)), (oq fa cF 200 FA)]) hP hD [0, 1, 2, 3, 4, 5, 6] (by decide) rfl
                      rw [hQ9]
                      exact W.iret (v := nI fb7) hx hb hr (fun t ht hW => ⟨⟨rfl, u1, u2, u3, u4, u5, u6, u7, u8, w1, w2, by rw [ht]; exact hP9, hD9⟩, hS.F ht⟩) hS.2.2 dX10_clash_100
                    · exact absurd c_11 (by decide)
                · have c_10 : z5.toInt = (-1) := zc_eq rfl (by decide) c_10
                  exfalso; have h8 := clZ_e h200 hz (by assumption); omega
              · have c_9 : ¬ z5.toInt = (-1) := zc_ne rfl (by decide) c_9
                obtain ⟨qa, qb, hz5, hI5⟩ := clZ_get hz (by assumption)
                subst hz5
                have hpr5 := clI_p h200 hI5
                refine lv_aload_n hx hb dX10_clash_58 rfl (lv_at hl 2 rfl) ?_
                refine lv_iload_n hx hb dX10_clash_59 rfl (lv_at hl 3 rfl) ?_
                refine lv_iload hx hb dX10_clash_60 (lv_at hl 1 rfl) ?_
                obtain ⟨hPc, hDc, hFc⟩ := zc_part (cx := [(oc8 x (.ref sh) (.ref lw) (.ref ro) (.ref bq) (.ref bp) (.ref dq) (.ref dp) (.ref lv) (.ref sl) (nI dn) sd ul su), (oc10 sl mc9 (.ref ea) (nI T)), (oc0 bq u1 u2 u3 u4), (oc0 bp u5 u6 u7 u8), (oc2 dq w1 w2), (oc7 sh (.ref fa) (nI ft)), (oq fa cF 200 FA)]) hP hD hS hA [0, 1, 2, 3, 4, 5, 6] (by decide) rfl
                refine zcalle (va_runV (As := [.int gp9, .int (nI (qa * 200 + qb))]) (rest := []) ⟨hx, hb, hml, hown, hts⟩ (k_nextClash_y l dC dI cI cZ cF H.size cO e0 mi x sh lw ro bq bp dq dp lv sl sd ul su ea mc9 fa FA bs dn T ft FT V VX VY tn rk wd tw pa pb wh of9 we kd st gb it mn cx cy L f (qa * 200 + qb) u1 u2 u3 u4 u5 u6 u7 u8 w1 w2 gp9 (hB) (hwf) (hkn) (hgp) (hwd) (by omega)) (csV_160 hts rfl rfl ⟨Nat.le_of_ble_eq_true rfl, Nat.le_of_ble_eq_true rfl⟩) (zPVL (q0 := 0) (ci := 8) hPc hDc hK hXL hS hFc rfl rfl) rfl rfl hl.1 rfl (lv_room (Nat.le_of_ble_eq_true rfl)) dX10_clash_62 ⟨Nat.le_of_ble_eq_true rfl, Nat.le_of_ble_eq_true rfl⟩) hS hFc hFc (fun v9 t H locs ht hB hk1 hS => ?_)
                obtain ⟨zb, v0b, v1b, v2b, v3b, v4b, v5b, v6b, v7b, w0b, w1b, rfl, hzb, hP1, hD1⟩ := hB
                refine W.eq (g2 := F0 m 65 ls [.int zb]) rfl ?_
                rw [ht] at hP1
                obtain ⟨hP, hD⟩ := zkP (W2 := [_, _, (oc0 bq v0b v1b v2b v3b), (oc0 bp v4b v5b v6b v7b), (oc2 dq w0b w1b), _, _]) hP hD [0, 1, 2, 3, 4, 5, 6] [] [] [0, 1, 2, 3, 4, 5, 6] [0, 1, 2, 3, 4, 5, 6] 7 rfl rfl rfl rfl rfl rfl rfl rfl rfl hk1 hFc hP1 hD1
                clear hk1 hPc hDc hFc hP1 hD1 ht
                refine lv_istore (lv' := [(4, .int zb), (5, .int (nI i)), (0, .ref x), (1, .int gp9), (2, .int (nI i5)), (3, .int 1)]) hx hb dX10_clash_65 hl (by decide) rfl (fun ls hl => ?_)
                refine lv_iinc (v := nI (i + 1)) (lv' := [(5, .int (nI (i + 1))), (4, .int zb), (0, .ref x), (1, .int gp9), (2, .int (nI i5)), (3, .int 1)]) hx hb dX10_clash_67 hl (k := 1) rfl (nI_add i 1) (by decide) rfl (fun ls hl => ?_)
                refine lv_goto (tgt := 46) hx hb dX10_clash_70 (by decide) ?_
                exact ih_46 (i + 1) zb v0b v1b v2b v3b v4b v5b v6b v7b w0b w1b H locs ls (by omega) (by omega) (clZ_s h200 hI5 hzb) hP hD hS (lv_sub hl [0, 1, 2, 3, 4, 5] rfl)
        exact hl_46 _ 0 za v0a v1a v2a v3a v4a v5a v6a v7a w0a w1a H locs ls (Nat.lt_succ_self _) (by omega) (clZ_0 hza) hP hD hS (lv_sub hl [0, 1, 2, 3, 4, 5] rfl)
      · have c_3 : ¬ ((0 : Int32).toInt ≤ (1 : Int32).toInt ∧ (1 : Int32).toInt ≤ (1 : Int32).toInt) := zp_0 c_3
        exfalso; omega
    · have c_2 : ¬ ((0 : Int32).toInt ≤ (nI i5).toInt ∧ (nI i5).toInt ≤ (40000 : Int32).toInt) := zp_0 c_2
      exfalso; first | exact absurd hgp (by assumption) | omega
set_option maxHeartbeats 4000000 in
set_option maxRecDepth 100000 in
theorem k_clash_n (l : Launch) (dC : Nat → ClassId) (dI : Nat → Nat → Nat) (cI cZ cF : ClassId) (sz : Nat) (cO : ClassId) (e0 : Nat) (mi : Nat) (x : Nat) (sh : Nat) (lw : Nat) (ro : Nat) (bq : Nat) (bp : Nat) (dq : Nat) (dp : Nat) (lv : Nat) (sl : Nat) (sd : Int32) (ul : Int32) (su : Int32) (ea : Nat) (mc9 : Int32) (fa : Nat) (FA : Nat → Option Nat) (bs : Nat) (dn : Nat) (T : Nat) (ft : Nat) (FT : Nat → Nat) (V : Nat → Nat → Nat → Int32) (VX : Nat → Nat → Int32) (VY : Nat → Nat → Int32) (tn : Nat → Int32) (rk : Nat → Int32) (wd : Nat → Int32) (tw : Nat → Int32) (pa : Nat → Int32) (pb : Nat → Int32) (wh : Nat → Int32) (of9 : Nat → Int32) (we : Nat → Int32) (kd : Nat → Int32) (st : Nat → Int32) (gb : Nat → Int32) (it : Nat → Int32) (mn : Nat → Int32) (cx : Nat → Int32) (cy : Nat → Int32) (L : List Nat) (f : Nat → va_E) (i5 : Nat) (c1 : Int32) (c2 : Int32) (c3 : Int32) (c4 : Int32) (a1 : Int32) (a2 : Int32) (a3 : Int32) (a4 : Int32) (y1 : Int64) (y2 : Int64) (gp9 : Int32) (wv : Int32) (hB : shB cI cO L f e0 FA ea bs dn T ft FT V VX VY tn rk wd tw pa pb wh of9 we kd st gb it mn cx cy) (hwf : ∀ q, lvF ft st tn q → wfM mn cx cy q) (hkn : okN ft st tn kd mn) (hgp : 0 ≤ gp9.toInt ∧ gp9.toInt ≤ 200) (hwd : ∀ q, q < ft → 0 ≤ (wd q).toInt ∧ (wd q).toInt ≤ 100) (hi31 : i5 < 2147483648) (hit : ∀ fa7 fb7, ¬ clI (clP ft st tn kd mn cx cy wd gp9) ft fa7 fb7 i5) : zML l yX10_clash cX10_clash 6 (some .int) ({ frames := 6, cells := 0, slots := 0, locals := 158 } : Room) [.ref x, .int gp9, .int (nI i5), .int wv] (dC, dI) (zTyO cI cZ cF cO) e0 mi ([(oc8 x (.ref sh) (.ref lw) (.ref ro) (.ref bq) (.ref bp) (.ref dq) (.ref dp) (.ref lv) (.ref sl) (nI dn) sd ul su), (oc10 sl mc9 (.ref ea) (nI T)), (oc0 bq c1 c2 c3 c4), (oc0 bp a1 a2 a3 a4), (oc2 dq y1 y2), (oc7 sh (.ref fa) (nI ft)), (oq fa cF 200 FA)] ++ va_pl L f) sz (some (.int (-1))) (fun A t => ∃ (c5 : Int32), ∃ (c6 : Int32), ∃ (c7 : Int32), ∃ (c8 : Int32), ∃ (a5 : Int32), ∃ (a6 : Int32), ∃ (a7 : Int32), ∃ (a8 : Int32), ∃ (y5 : Int64), ∃ (y6 : Int64), zPD (dC, dI) classes A ([(oc8 x (.ref sh) (.ref lw) (.ref ro) (.ref bq) (.ref bp) (.ref dq) (.ref dp) (.ref lv) (.ref sl) (nI dn) sd ul su), (oc10 sl mc9 (.ref ea) (nI T)), (oc0 bq c5 c6 c7 c8), (oc0 bp a5 a6 a7 a8), (oc2 dq y5 y6), (oc7 sh (.ref fa) (nI ft)), (oq fa cF 200 FA)] ++ va_pl L f) t.heap) 0 0 := by
  refine zInL (own := "ScaleShop") (loc := [(0, .ref x), (1, .int gp9), (2, .int (nI i5)), (3, .int wv)]) rfl rfl rfl rfl (fun p e s m below meth c hx hb hr hts hown hlocks hml hnm9 A hA hS hP hD hK hXL hXN hK3 Q9 hQ9 ls hl => ?_)
  have hG0 := hB
  obtain ⟨own0, fe0, cl0, la0, sp0, SA0, hG90, hH90, hft90⟩ := hG0
  have h200 : ft ≤ 200 := Nat.le_trans hG90.2.2.2.2.2.1.2.2.2.2.1 hG90.2.2.2.2.2.1.2.2.2.2.2
  have e_0 : (0 : Int32).toInt = 0 := (by decide)
  have e_200 : (200 : Int32).toInt = 200 := (by decide)
  have e_1 : (1 : Int32).toInt = 1 := (by decide)
  have e_40000 : (40000 : Int32).toInt = 40000 := (by decide)
  have hi9 : (nI i5).toInt = ((i5 : Nat) : Int) := nI_toInt (by omega)
  refine lv_iload_n hx hb dX10_clash_0 rfl (lv_at hl 1 rfl) ?_
  refine lv_iconst (v := 0) hx hb dX10_clash_1 (by decide) ?_
  refine lv_sipush (v := 200) hx hb dX10_clash_2 (by decide) ?_
  obtain ⟨hPc, hDc, hFc⟩ := zc_sub (wc := []) hP hD hS hA [] (by decide) rfl
  refine zcall (st1 := [.int (pI ((0 : Int32).toInt ≤ gp9.toInt ∧ gp9.toInt ≤ (200 : Int32).toInt))]) (va_runS (As := [.int gp9, .int 0, .int 200]) (rest := []) ⟨hx, hb, hml, hown, hts⟩ (k_isWithin l dC dI cI cZ cF s.heap.size gp9 0 200 ) (csS_14 hts rfl rfl ⟨Nat.le_of_ble_eq_true rfl, Nat.le_of_ble_eq_true rfl⟩) (zPS2 hPc hDc hK3 hXN) rfl rfl hl.1 rfl (lv_room (Nat.le_of_ble_eq_true rfl)) dX10_clash_5 ⟨Nat.le_of_ble_eq_true rfl, Nat.le_of_ble_eq_true rfl⟩) hS hFc hFc rfl (fun t H locs ht hB hk1 hS => ?_)
  obtain ⟨hP1, hD1⟩ := hB
  rw [ht] at hP1
  obtain ⟨hP, hD⟩ := zkQ (W2 := [_, _, _, _, _, _, _]) hP hD [] [0, 1, 2, 3, 4, 5, 6] [0, 1, 2, 3, 4, 5, 6] [] [0, 1, 2, 3, 4, 5, 6] 7 rfl rfl rfl rfl rfl rfl rfl rfl rfl hk1 hFc hP1 hD1
  clear hk1 hPc hDc hFc hP1 hD1 ht
  refine lv_if_eq (tgt := 22) hx hb dX10_clash_8 (by decide) (fun c_1 => ?_) (fun c_1 => ?_)
  · have c_1 : ¬ ((0 : Int32).toInt ≤ gp9.toInt ∧ gp9.toInt ≤ (200 : Int32).toInt) := zp_0 c_1
    refine lv_iconst (v := (-1)) hx hb dX10_clash_22 (by decide) ?_
    obtain ⟨hP9, hD9⟩ := zq_part (cx := [(oc8 x (.ref sh) (.ref lw) (.ref ro) (.ref bq) (.ref bp) (.ref dq) (.ref dp) (.ref lv) (.ref sl) (nI dn) sd ul su), (oc10 sl mc9 (.ref ea) (nI T)), (oc0 bq c1 c2 c3 c4), (oc0 bp a1 a2 a3 a4), (oc2 dq y1 y2), (oc7 sh (.ref fa) (nI ft)), (oq fa cF 200 FA)]) hP hD [0, 1, 2, 3, 4, 5, 6] (by decide) rfl
    rw [hQ9]
    exact W.iret (v := (-1)) hx hb hr (fun t ht hW => ⟨⟨rfl, c1, c2, c3, c4, a1, a2, a3, a4, y1, y2, by rw [ht]; exact hP9, hD9⟩, hS.F ht⟩) hS.2.2 dX10_clash_23
  · have c_1 : (0 : Int32).toInt ≤ gp9.toInt ∧ gp9.toInt ≤ (200 : Int32).toInt := zp_1 c_1
    refine lv_iload_n hx hb dX10_clash_11 rfl (lv_at hl 2 rfl) ?_
    refine lv_iconst (v := 0) hx hb dX10_clash_12 (by decide) ?_
    refine lv_ldcw hx hb hown (hts _ mw_1100) dX10_clash_13 ?_
    obtain ⟨hPc, hDc, hFc⟩ := zc_sub (wc := []) hP hD hS hA [] (by decide) rfl
    refine zcall (st1 := [.int (pI ((0 : Int32).toInt ≤ (nI i5).toInt ∧ (nI i5).toInt ≤ (40000 : Int32).toInt))]) (va_runS (As := [.int (nI i5), .int 0, .int 40000]) (rest := []) ⟨hx, hb, hml, hown, hts⟩ (k_isWithin l dC dI cI cZ cF H.size (nI i5) 0 40000 ) (csS_14 hts rfl rfl ⟨Nat.le_of_ble_eq_true rfl, Nat.le_of_ble_eq_true rfl⟩) (zPS2 hPc hDc hK3 hXN) rfl rfl hl.1 rfl (lv_room (Nat.le_of_ble_eq_true rfl)) dX10_clash_16 ⟨Nat.le_of_ble_eq_true rfl, Nat.le_of_ble_eq_true rfl⟩) hS hFc hFc rfl (fun t H locs ht hB hk1 hS => ?_)
    obtain ⟨hP1, hD1⟩ := hB
    rw [ht] at hP1
    obtain ⟨hP, hD⟩ := zkQ (W2 := [_, _, _, _, _, _, _]) hP hD [] [0, 1, 2, 3, 4, 5, 6] [0, 1, 2, 3, 4, 5, 6] [] [0, 1, 2, 3, 4, 5, 6] 7 rfl rfl rfl rfl rfl rfl rfl rfl rfl hk1 hFc hP1 hD1
    clear hk1 hPc hDc hFc hP1 hD1 ht
    refine lv_if_ne (tgt := 24) hx hb dX10_clash_19 (by decide) (fun c_2 => ?_) (fun c_2 => ?_)
    · have c_2 : (0 : Int32).toInt ≤ (nI i5).toInt ∧ (nI i5).toInt ≤ (40000 : Int32).toInt := zp_1 c_2
      refine lv_iload_n hx hb dX10_clash_24 rfl (lv_at hl 3 rfl) ?_
      refine lv_iconst (v := 0) hx hb dX10_clash_25 (by decide) ?_
      refine lv_iconst (v := 1) hx hb dX10_clash_26 (by decide) ?_
      obtain ⟨hPc, hDc, hFc⟩ := zc_sub (wc := []) hP hD hS hA [] (by decide) rfl
      refine zcall (st1 := [.int (pI ((0 : Int32).toInt ≤ wv.toInt ∧ wv.toInt ≤ (1 : Int32).toInt))]) (va_runS (As := [.int wv, .int 0, .int 1]) (rest := []) ⟨hx, hb, hml, hown, hts⟩ (k_isWithin l dC dI cI cZ cF H.size wv 0 1 ) (csS_14 hts rfl rfl ⟨Nat.le_of_ble_eq_true rfl, Nat.le_of_ble_eq_true rfl⟩) (zPS2 hPc hDc hK3 hXN) rfl rfl hl.1 rfl (lv_room (Nat.le_of_ble_eq_true rfl)) dX10_clash_27 ⟨Nat.le_of_ble_eq_true rfl, Nat.le_of_ble_eq_true rfl⟩) hS hFc hFc rfl (fun t H locs ht hB hk1 hS => ?_)
      obtain ⟨hP1, hD1⟩ := hB
      rw [ht] at hP1
      obtain ⟨hP, hD⟩ := zkQ (W2 := [_, _, _, _, _, _, _]) hP hD [] [0, 1, 2, 3, 4, 5, 6] [0, 1, 2, 3, 4, 5, 6] [] [0, 1, 2, 3, 4, 5, 6] 7 rfl rfl rfl rfl rfl rfl rfl rfl rfl hk1 hFc hP1 hD1
      clear hk1 hPc hDc hFc hP1 hD1 ht
      refine lv_if_ne (tgt := 35) hx hb dX10_clash_30 (by decide) (fun c_3 => ?_) (fun c_3 => ?_)
      · have c_3 : (0 : Int32).toInt ≤ wv.toInt ∧ wv.toInt ≤ (1 : Int32).toInt := zp_1 c_3
        refine lv_aload_n hx hb dX10_clash_35 rfl (lv_at hl 0 rfl) ?_
        refine lv_iload_n hx hb dX10_clash_36 rfl (lv_at hl 1 rfl) ?_
        refine lv_iconst (v := 0) hx hb dX10_clash_37 (by decide) ?_
        obtain ⟨hPc, hDc, hFc⟩ := zc_part (cx := [(oc8 x (.ref sh) (.ref lw) (.ref ro) (.ref bq) (.ref bp) (.ref dq) (.ref dp) (.ref lv) (.ref sl) (nI dn) sd ul su), (oc10 sl mc9 (.ref ea) (nI T)), (oc0 bq c1 c2 c3 c4), (oc0 bp a1 a2 a3 a4), (oc2 dq y1 y2), (oc7 sh (.ref fa) (nI ft)), (oq fa cF 200 FA)]) hP hD hS hA [0, 1, 2, 3, 4, 5, 6] (by decide) rfl
        refine zcalle (va_runV (As := [.int gp9, .int 0]) (rest := []) ⟨hx, hb, hml, hown, hts⟩ (k_nextClash_y l dC dI cI cZ cF H.size cO e0 mi x sh lw ro bq bp dq dp lv sl sd ul su ea mc9 fa FA bs dn T ft FT V VX VY tn rk wd tw pa pb wh of9 we kd st gb it mn cx cy L f 0 c1 c2 c3 c4 a1 a2 a3 a4 y1 y2 gp9 (hB) (hwf) (hkn) (hgp) (hwd) (by omega)) (csV_160 hts rfl rfl ⟨Nat.le_of_ble_eq_true rfl, Nat.le_of_ble_eq_true rfl⟩) (zPVL (q0 := 0) (ci := 8) hPc hDc hK hXL hS hFc rfl rfl) rfl rfl hl.1 rfl (lv_room (Nat.le_of_ble_eq_true rfl)) dX10_clash_38 ⟨Nat.le_of_ble_eq_true rfl, Nat.le_of_ble_eq_true rfl⟩) hS hFc hFc (fun v9 t H locs ht hB hk1 hS => ?_)
        obtain ⟨za, v0a, v1a, v2a, v3a, v4a, v5a, v6a, v7a, w0a, w1a, rfl, hza, hP1, hD1⟩ := hB
        refine W.eq (g2 := F0 m 41 ls [.int za]) rfl ?_
        rw [ht] at hP1
        obtain ⟨hP, hD⟩ := zkP (W2 := [_, _, (oc0 bq v0a v1a v2a v3a), (oc0 bp v4a v5a v6a v7a), (oc2 dq w0a w1a), _, _]) hP hD [0, 1, 2, 3, 4, 5, 6] [] [] [0, 1, 2, 3, 4, 5, 6] [0, 1, 2, 3, 4, 5, 6] 7 rfl rfl rfl rfl rfl rfl rfl rfl rfl hk1 hFc hP1 hD1
        clear hk1 hPc hDc hFc hP1 hD1 ht
        refine lv_istore (lv' := [(4, .int za), (0, .ref x), (1, .int gp9), (2, .int (nI i5)), (3, .int wv)]) hx hb dX10_clash_41 hl (by decide) rfl (fun ls hl => ?_)
        refine lv_iconst (v := 0) hx hb dX10_clash_43 (by decide) ?_
        refine lv_istore (lv' := [(5, .int 0), (4, .int za), (0, .ref x), (1, .int gp9), (2, .int (nI i5)), (3, .int wv)]) hx hb dX10_clash_44 hl (by decide) rfl (fun ls hl => ?_)
        have hl_46 : ∀ (n9 : Nat) (i : Nat) (z5 : Int32) (u1 : Int32) (u2 : Int32) (u3 : Int32) (u4 : Int32) (u5 : Int32) (u6 : Int32) (u7 : Int32) (u8 : Int32) (w1 : Int64) (w2 : Int64) (H : Heap) (locs : List Loc) (ls : Array Slot), 40001 - i < n9 → (i ≤ i5 ∧ i ≤ 40000) → (clZ (clP ft st tn kd mn cx cy wd gp9) ft i z5) → va_P (dC, dI) classes ([(oc8 x (.ref sh) (.ref lw) (.ref ro) (.ref bq) (.ref bp) (.ref dq) (.ref dp) (.ref lv) (.ref sl) (nI dn) sd ul su), (oc10 sl mc9 (.ref ea) (nI T)), (oc0 bq u1 u2 u3 u4), (oc0 bp u5 u6 u7 u8), (oc2 dq w1 w2), (oc7 sh (.ref fa) (nI ft)), (oq fa cF 200 FA)] ++ va_pl L f) H → va_D A ([(oc8 x (.ref sh) (.ref lw) (.ref ro) (.ref bq) (.ref bp) (.ref dq) (.ref dp) (.ref lv) (.ref sl) (nI dn) sd ul su), (oc10 sl mc9 (.ref ea) (nI T)), (oc0 bq u1 u2 u3 u4), (oc0 bp u5 u6 u7 u8), (oc2 dq w1 w2), (oc7 sh (.ref fa) (nI ft)), (oq fa cF 200 FA)] ++ va_pl L f) → va_S A s.heap H locs → lv_has ls 6 [(5, .int (nI i)), (4, .int z5), (0, .ref x), (1, .int gp9), (2, .int (nI i5)), (3, .int wv)] → W p l e ({ frames := 6, cells := 0, slots := 0, locals := 158 } : Room) s m ([.ref x, .int gp9, .int (nI i5), .int wv] : List Value).toArray below meth c H locs 0 0 Q9 (F0 m 46 ls []) := by
          intro n9
          induction n9 with
          | zero => intro i z5 u1 u2 u3 u4 u5 u6 u7 u8 w1 w2 H locs ls hm; exact absurd hm (Nat.not_lt_zero _)
          | succ n9 ih_46 =>
            intro i z5 u1 u2 u3 u4 u5 u6 u7 u8 w1 w2 H locs ls hm hi hz hP hD hS hl
            refine lv_iload hx hb dX10_clash_46 (lv_at hl 0 rfl) ?_
            refine lv_iload_n hx hb dX10_clash_48 rfl (lv_at hl 4 rfl) ?_
            have b9_5 : i < 2147483648 := by omega
            have b9_6 : i5 < 2147483648 := by omega
            refine lv_icmp_ge (tgt := 73) hx hb dX10_clash_49 (by decide) (fun c_4 => ?_) (fun c_4 => ?_)
            · have c_4 : ((i5 : Nat) : Int) ≤ ((i : Nat) : Int) := zc_le (nI_toInt b9_6) (nI_toInt b9_5) c_4
              refine lv_iload hx hb dX10_clash_73 (lv_at hl 1 rfl) ?_
              refine lv_iconst (v := (-1)) hx hb dX10_clash_75 (by decide) ?_
              refine lv_icmp_ne (tgt := 81) hx hb dX10_clash_76 (by decide) (fun c_7 => ?_) (fun c_7 => ?_)
              · have c_7 : ¬ z5.toInt = (-1) := zc_ne rfl (by decide) c_7
                exfalso; obtain ⟨qa, qb, hz5, hI5⟩ := clZ_get hz (by assumption); first | exact hit qa qb (by rw [show i5 = i by omega]; exact hI5) | omega
              · have c_7 : z5.toInt = (-1) := zc_eq rfl (by decide) c_7
                refine lv_iconst (v := (-1)) hx hb dX10_clash_79 (by decide) ?_
                obtain ⟨hP9, hD9⟩ := zq_part (cx := [(oc8 x (.ref sh) (.ref lw) (.ref ro) (.ref bq) (.ref bp) (.ref dq) (.ref dp) (.ref lv) (.ref sl) (nI dn) sd ul su), (oc10 sl mc9 (.ref ea) (nI T)), (oc0 bq u1 u2 u3 u4), (oc0 bp u5 u6 u7 u8), (oc2 dq w1 w2), (oc7 sh (.ref fa) (nI ft)), (oq fa cF 200 FA)]) hP hD [0, 1, 2, 3, 4, 5, 6] (by decide) rfl
                rw [hQ9]
                exact W.iret (v := (-1)) hx hb hr (fun t ht hW => ⟨⟨rfl, u1, u2, u3, u4, u5, u6, u7, u8, w1, w2, by rw [ht]; exact hP9, hD9⟩, hS.F ht⟩) hS.2.2 dX10_clash_80
            · have c_4 : ((i : Nat) : Int) < ((i5 : Nat) : Int) := zc_nle (nI_toInt b9_6) (nI_toInt b9_5) c_4
              refine lv_iload hx hb dX10_clash_52 (lv_at hl 1 rfl) ?_
              refine lv_iconst (v := (-1)) hx hb dX10_clash_54 (by decide) ?_
              refine lv_icmp_eq (tgt := 73) hx hb dX10_clash_55 (by decide) (fun c_8 => ?_) (fun c_8 => ?_)
              · have c_8 : z5.toInt = (-1) := zc_eq rfl (by decide) c_8
                refine lv_iload hx hb dX10_clash_73 (lv_at hl 1 rfl) ?_
                refine lv_iconst (v := (-1)) hx hb dX10_clash_75 (by decide) ?_
                refine lv_icmp_ne (tgt := 81) hx hb dX10_clash_76 (by decide) (fun c_9 => ?_) (fun c_9 => ?_)
                · have c_9 : ¬ z5.toInt = (-1) := zc_ne rfl (by decide) c_9
                  exfalso; obtain ⟨qa, qb, hz5, hI5⟩ := clZ_get hz (by assumption); first | exact hit qa qb (by rw [show i5 = i by omega]; exact hI5) | omega
                · have c_9 : z5.toInt = (-1) := zc_eq rfl (by decide) c_9
                  refine lv_iconst (v := (-1)) hx hb dX10_clash_79 (by decide) ?_
                  obtain ⟨hP9, hD9⟩ := zq_part (cx := [(oc8 x (.ref sh) (.ref lw) (.ref ro) (.ref bq) (.ref bp) (.ref dq) (.ref dp) (.ref lv) (.ref sl) (nI dn) sd ul su), (oc10 sl mc9 (.ref ea) (nI T)), (oc0 bq u1 u2 u3 u4), (oc0 bp u5 u6 u7 u8), (oc2 dq w1 w2), (oc7 sh (.ref fa) (nI ft)), (oq fa cF 200 FA)]) hP hD [0, 1, 2, 3, 4, 5, 6] (by decide) rfl
                  rw [hQ9]
                  exact W.iret (v := (-1)) hx hb hr (fun t ht hW => ⟨⟨rfl, u1, u2, u3, u4, u5, u6, u7, u8, w1, w2, by rw [ht]; exact hP9, hD9⟩, hS.F ht⟩) hS.2.2 dX10_clash_80
              · have c_8 : ¬ z5.toInt = (-1) := zc_ne rfl (by decide) c_8
                obtain ⟨qa, qb, hz5, hI5⟩ := clZ_get hz (by assumption)
                subst hz5
                have hpr5 := clI_p h200 hI5
                refine lv_aload_n hx hb dX10_clash_58 rfl (lv_at hl 2 rfl) ?_
                refine lv_iload_n hx hb dX10_clash_59 rfl (lv_at hl 3 rfl) ?_
                refine lv_iload hx hb dX10_clash_60 (lv_at hl 1 rfl) ?_
                obtain ⟨hPc, hDc, hFc⟩ := zc_part (cx := [(oc8 x (.ref sh) (.ref lw) (.ref ro) (.ref bq) (.ref bp) (.ref dq) (.ref dp) (.ref lv) (.ref sl) (nI dn) sd ul su), (oc10 sl mc9 (.ref ea) (nI T)), (oc0 bq u1 u2 u3 u4), (oc0 bp u5 u6 u7 u8), (oc2 dq w1 w2), (oc7 sh (.ref fa) (nI ft)), (oq fa cF 200 FA)]) hP hD hS hA [0, 1, 2, 3, 4, 5, 6] (by decide) rfl
                refine zcalle (va_runV (As := [.int gp9, .int (nI (qa * 200 + qb))]) (rest := []) ⟨hx, hb, hml, hown, hts⟩ (k_nextClash_y l dC dI cI cZ cF H.size cO e0 mi x sh lw ro bq bp dq dp lv sl sd ul su ea mc9 fa FA bs dn T ft FT V VX VY tn rk wd tw pa pb wh of9 we kd st gb it mn cx cy L f (qa * 200 + qb) u1 u2 u3 u4 u5 u6 u7 u8 w1 w2 gp9 (hB) (hwf) (hkn) (hgp) (hwd) (by omega)) (csV_160 hts rfl rfl ⟨Nat.le_of_ble_eq_true rfl, Nat.le_of_ble_eq_true rfl⟩) (zPVL (q0 := 0) (ci := 8) hPc hDc hK hXL hS hFc rfl rfl) rfl rfl hl.1 rfl (lv_room (Nat.le_of_ble_eq_true rfl)) dX10_clash_62 ⟨Nat.le_of_ble_eq_true rfl, Nat.le_of_ble_eq_true rfl⟩) hS hFc hFc (fun v9 t H locs ht hB hk1 hS => ?_)
                obtain ⟨zb, v0b, v1b, v2b, v3b, v4b, v5b, v6b, v7b, w0b, w1b, rfl, hzb, hP1, hD1⟩ := hB
                refine W.eq (g2 := F0 m 65 ls [.int zb]) rfl ?_
                rw [ht] at hP1
                obtain ⟨hP, hD⟩ := zkP (W2 := [_, _, (oc0 bq v0b v1b v2b v3b), (oc0 bp v4b v5b v6b v7b), (oc2 dq w0b w1b), _, _]) hP hD [0, 1, 2, 3, 4, 5, 6] [] [] [0, 1, 2, 3, 4, 5, 6] [0, 1, 2, 3, 4, 5, 6] 7 rfl rfl rfl rfl rfl rfl rfl rfl rfl hk1 hFc hP1 hD1
                clear hk1 hPc hDc hFc hP1 hD1 ht
                refine lv_istore (lv' := [(4, .int zb), (5, .int (nI i)), (0, .ref x), (1, .int gp9), (2, .int (nI i5)), (3, .int wv)]) hx hb dX10_clash_65 hl (by decide) rfl (fun ls hl => ?_)
                refine lv_iinc (v := nI (i + 1)) (lv' := [(5, .int (nI (i + 1))), (4, .int zb), (0, .ref x), (1, .int gp9), (2, .int (nI i5)), (3, .int wv)]) hx hb dX10_clash_67 hl (k := 1) rfl (nI_add i 1) (by decide) rfl (fun ls hl => ?_)
                refine lv_goto (tgt := 46) hx hb dX10_clash_70 (by decide) ?_
                exact ih_46 (i + 1) zb v0b v1b v2b v3b v4b v5b v6b v7b w0b w1b H locs ls (by omega) (by omega) (clZ_s h200 hI5 hzb) hP hD hS (lv_sub hl [0, 1, 2, 3, 4, 5] rfl)
        exact hl_46 _ 0 za v0a v1a v2a v3a v4a v5a v6a v7a w0a w1a H locs ls (Nat.lt_succ_self _) (by omega) (clZ_0 hza) hP hD hS (lv_sub hl [0, 1, 2, 3, 4, 5] rfl)
      · have c_3 : ¬ ((0 : Int32).toInt ≤ wv.toInt ∧ wv.toInt ≤ (1 : Int32).toInt) := zp_0 c_3
        refine lv_iconst (v := (-1)) hx hb dX10_clash_33 (by decide) ?_
        obtain ⟨hP9, hD9⟩ := zq_part (cx := [(oc8 x (.ref sh) (.ref lw) (.ref ro) (.ref bq) (.ref bp) (.ref dq) (.ref dp) (.ref lv) (.ref sl) (nI dn) sd ul su), (oc10 sl mc9 (.ref ea) (nI T)), (oc0 bq c1 c2 c3 c4), (oc0 bp a1 a2 a3 a4), (oc2 dq y1 y2), (oc7 sh (.ref fa) (nI ft)), (oq fa cF 200 FA)]) hP hD [0, 1, 2, 3, 4, 5, 6] (by decide) rfl
        rw [hQ9]
        exact W.iret (v := (-1)) hx hb hr (fun t ht hW => ⟨⟨rfl, c1, c2, c3, c4, a1, a2, a3, a4, y1, y2, by rw [ht]; exact hP9, hD9⟩, hS.F ht⟩) hS.2.2 dX10_clash_34
    · have c_2 : ¬ ((0 : Int32).toInt ≤ (nI i5).toInt ∧ (nI i5).toInt ≤ (40000 : Int32).toInt) := zp_0 c_2
      refine lv_iconst (v := (-1)) hx hb dX10_clash_22 (by decide) ?_
      obtain ⟨hP9, hD9⟩ := zq_part (cx := [(oc8 x (.ref sh) (.ref lw) (.ref ro) (.ref bq) (.ref bp) (.ref dq) (.ref dp) (.ref lv) (.ref sl) (nI dn) sd ul su), (oc10 sl mc9 (.ref ea) (nI T)), (oc0 bq c1 c2 c3 c4), (oc0 bp a1 a2 a3 a4), (oc2 dq y1 y2), (oc7 sh (.ref fa) (nI ft)), (oq fa cF 200 FA)]) hP hD [0, 1, 2, 3, 4, 5, 6] (by decide) rfl
      rw [hQ9]
      exact W.iret (v := (-1)) hx hb hr (fun t ht hW => ⟨⟨rfl, c1, c2, c3, c4, a1, a2, a3, a4, y1, y2, by rw [ht]; exact hP9, hD9⟩, hS.F ht⟩) hS.2.2 dX10_clash_23
set_option maxHeartbeats 4000000 in
set_option maxRecDepth 100000 in
theorem k_clash_r (l : Launch) (dC : Nat → ClassId) (dI : Nat → Nat → Nat) (cI cZ cF : ClassId) (sz : Nat) (cO : ClassId) (e0 : Nat) (mi : Nat) (x : Nat) (sh : Nat) (lw : Nat) (ro : Nat) (bq : Nat) (bp : Nat) (dq : Nat) (dp : Nat) (lv : Nat) (sl : Nat) (sd : Int32) (ul : Int32) (su : Int32) (ea : Nat) (mc9 : Int32) (fa : Nat) (FA : Nat → Option Nat) (bs : Nat) (dn : Nat) (T : Nat) (ft : Nat) (FT : Nat → Nat) (V : Nat → Nat → Nat → Int32) (VX : Nat → Nat → Int32) (VY : Nat → Nat → Int32) (tn : Nat → Int32) (rk : Nat → Int32) (wd : Nat → Int32) (tw : Nat → Int32) (pa : Nat → Int32) (pb : Nat → Int32) (wh : Nat → Int32) (of9 : Nat → Int32) (we : Nat → Int32) (kd : Nat → Int32) (st : Nat → Int32) (gb : Nat → Int32) (it : Nat → Int32) (mn : Nat → Int32) (cx : Nat → Int32) (cy : Nat → Int32) (L : List Nat) (f : Nat → va_E) (c1 : Int32) (c2 : Int32) (c3 : Int32) (c4 : Int32) (a1 : Int32) (a2 : Int32) (a3 : Int32) (a4 : Int32) (y1 : Int64) (y2 : Int64) (gp9 : Int32) (iv : Int32) (wv : Int32) (hB : shB cI cO L f e0 FA ea bs dn T ft FT V VX VY tn rk wd tw pa pb wh of9 we kd st gb it mn cx cy) (hbad : ¬ ((0 ≤ gp9.toInt ∧ gp9.toInt ≤ 200) ∧ 0 ≤ iv.toInt ∧ 0 ≤ wv.toInt ∧ wv.toInt ≤ 1)) : zML l yX10_clash cX10_clash 6 (some .int) ({ frames := 1, cells := 0, slots := 0, locals := 22 } : Room) [.ref x, .int gp9, .int iv, .int wv] (dC, dI) (zTyO cI cZ cF cO) e0 mi ([(oc8 x (.ref sh) (.ref lw) (.ref ro) (.ref bq) (.ref bp) (.ref dq) (.ref dp) (.ref lv) (.ref sl) (nI dn) sd ul su), (oc10 sl mc9 (.ref ea) (nI T)), (oc0 bq c1 c2 c3 c4), (oc0 bp a1 a2 a3 a4), (oc2 dq y1 y2), (oc7 sh (.ref fa) (nI ft)), (oq fa cF 200 FA)] ++ va_pl L f) sz (some (.int (-1))) (fun A t => zPD (dC, dI) classes A ([(oc8 x (.ref sh) (.ref lw) (.ref ro) (.ref bq) (.ref bp) (.ref dq) (.ref dp) (.ref lv) (.ref sl) (nI dn) sd ul su), (oc10 sl mc9 (.ref ea) (nI T)), (oc0 bq c1 c2 c3 c4), (oc0 bp a1 a2 a3 a4), (oc2 dq y1 y2), (oc7 sh (.ref fa) (nI ft)), (oq fa cF 200 FA)] ++ va_pl L f) t.heap) 0 0 := by
  refine zInL (own := "ScaleShop") (loc := [(0, .ref x), (1, .int gp9), (2, .int iv), (3, .int wv)]) rfl rfl rfl rfl (fun p e s m below meth c hx hb hr hts hown hlocks hml hnm9 A hA hS hP hD hK hXL hXN hK3 Q9 hQ9 ls hl => ?_)
  have hG0 := hB
  obtain ⟨own0, fe0, cl0, la0, sp0, SA0, hG90, hH90, hft90⟩ := hG0
  have h200 : ft ≤ 200 := Nat.le_trans hG90.2.2.2.2.2.1.2.2.2.2.1 hG90.2.2.2.2.2.1.2.2.2.2.2
  have e_0 : (0 : Int32).toInt = 0 := (by decide)
  have e_200 : (200 : Int32).toInt = 200 := (by decide)
  have e_1 : (1 : Int32).toInt = 1 := (by decide)
  have e_40000 : (40000 : Int32).toInt = 40000 := (by decide)
  refine lv_iload_n hx hb dX10_clash_0 rfl (lv_at hl 1 rfl) ?_
  refine lv_iconst (v := 0) hx hb dX10_clash_1 (by decide) ?_
  refine lv_sipush (v := 200) hx hb dX10_clash_2 (by decide) ?_
  obtain ⟨hPc, hDc, hFc⟩ := zc_sub (wc := []) hP hD hS hA [] (by decide) rfl
  refine zcall (st1 := [.int (pI ((0 : Int32).toInt ≤ gp9.toInt ∧ gp9.toInt ≤ (200 : Int32).toInt))]) (va_runS (As := [.int gp9, .int 0, .int 200]) (rest := []) ⟨hx, hb, hml, hown, hts⟩ (k_isWithin l dC dI cI cZ cF s.heap.size gp9 0 200 ) (csS_14 hts rfl rfl ⟨Nat.le_of_ble_eq_true rfl, Nat.le_of_ble_eq_true rfl⟩) (zPS2 hPc hDc hK3 hXN) rfl rfl hl.1 rfl (lv_room (Nat.le_of_ble_eq_true rfl)) dX10_clash_5 ⟨Nat.le_of_ble_eq_true rfl, Nat.le_of_ble_eq_true rfl⟩) hS hFc hFc rfl (fun t H locs ht hB hk1 hS => ?_)
  obtain ⟨hP1, hD1⟩ := hB
  rw [ht] at hP1
  obtain ⟨hP, hD⟩ := zkQ (W2 := [_, _, _, _, _, _, _]) hP hD [] [0, 1, 2, 3, 4, 5, 6] [0, 1, 2, 3, 4, 5, 6] [] [0, 1, 2, 3, 4, 5, 6] 7 rfl rfl rfl rfl rfl rfl rfl rfl rfl hk1 hFc hP1 hD1
  clear hk1 hPc hDc hFc hP1 hD1 ht
  refine lv_if_eq (tgt := 22) hx hb dX10_clash_8 (by decide) (fun c_1 => ?_) (fun c_1 => ?_)
  · have c_1 : ¬ ((0 : Int32).toInt ≤ gp9.toInt ∧ gp9.toInt ≤ (200 : Int32).toInt) := zp_0 c_1
    refine lv_iconst (v := (-1)) hx hb dX10_clash_22 (by decide) ?_
    obtain ⟨hP9, hD9⟩ := zq_part (cx := [(oc8 x (.ref sh) (.ref lw) (.ref ro) (.ref bq) (.ref bp) (.ref dq) (.ref dp) (.ref lv) (.ref sl) (nI dn) sd ul su), (oc10 sl mc9 (.ref ea) (nI T)), (oc0 bq c1 c2 c3 c4), (oc0 bp a1 a2 a3 a4), (oc2 dq y1 y2), (oc7 sh (.ref fa) (nI ft)), (oq fa cF 200 FA)]) hP hD [0, 1, 2, 3, 4, 5, 6] (by decide) rfl
    rw [hQ9]
    exact W.iret (v := (-1)) hx hb hr (fun t ht hW => ⟨⟨rfl, by rw [ht]; exact hP9, hD9⟩, hS.F ht⟩) hS.2.2 dX10_clash_23
  · have c_1 : (0 : Int32).toInt ≤ gp9.toInt ∧ gp9.toInt ≤ (200 : Int32).toInt := zp_1 c_1
    refine lv_iload_n hx hb dX10_clash_11 rfl (lv_at hl 2 rfl) ?_
    refine lv_iconst (v := 0) hx hb dX10_clash_12 (by decide) ?_
    refine lv_ldcw hx hb hown (hts _ mw_1100) dX10_clash_13 ?_
    obtain ⟨hPc, hDc, hFc⟩ := zc_sub (wc := []) hP hD hS hA [] (by decide) rfl
    refine zcall (st1 := [.int (pI ((0 : Int32).toInt ≤ iv.toInt ∧ iv.toInt ≤ (40000 : Int32).toInt))]) (va_runS (As := [.int iv, .int 0, .int 40000]) (rest := []) ⟨hx, hb, hml, hown, hts⟩ (k_isWithin l dC dI cI cZ cF H.size iv 0 40000 ) (csS_14 hts rfl rfl ⟨Nat.le_of_ble_eq_true rfl, Nat.le_of_ble_eq_true rfl⟩) (zPS2 hPc hDc hK3 hXN) rfl rfl hl.1 rfl (lv_room (Nat.le_of_ble_eq_true rfl)) dX10_clash_16 ⟨Nat.le_of_ble_eq_true rfl, Nat.le_of_ble_eq_true rfl⟩) hS hFc hFc rfl (fun t H locs ht hB hk1 hS => ?_)
    obtain ⟨hP1, hD1⟩ := hB
    rw [ht] at hP1
    obtain ⟨hP, hD⟩ := zkQ (W2 := [_, _, _, _, _, _, _]) hP hD [] [0, 1, 2, 3, 4, 5, 6] [0, 1, 2, 3, 4, 5, 6] [] [0, 1, 2, 3, 4, 5, 6] 7 rfl rfl rfl rfl rfl rfl rfl rfl rfl hk1 hFc hP1 hD1
    clear hk1 hPc hDc hFc hP1 hD1 ht
    refine lv_if_ne (tgt := 24) hx hb dX10_clash_19 (by decide) (fun c_2 => ?_) (fun c_2 => ?_)
    · have c_2 : (0 : Int32).toInt ≤ iv.toInt ∧ iv.toInt ≤ (40000 : Int32).toInt := zp_1 c_2
      refine lv_iload_n hx hb dX10_clash_24 rfl (lv_at hl 3 rfl) ?_
      refine lv_iconst (v := 0) hx hb dX10_clash_25 (by decide) ?_
      refine lv_iconst (v := 1) hx hb dX10_clash_26 (by decide) ?_
      obtain ⟨hPc, hDc, hFc⟩ := zc_sub (wc := []) hP hD hS hA [] (by decide) rfl
      refine zcall (st1 := [.int (pI ((0 : Int32).toInt ≤ wv.toInt ∧ wv.toInt ≤ (1 : Int32).toInt))]) (va_runS (As := [.int wv, .int 0, .int 1]) (rest := []) ⟨hx, hb, hml, hown, hts⟩ (k_isWithin l dC dI cI cZ cF H.size wv 0 1 ) (csS_14 hts rfl rfl ⟨Nat.le_of_ble_eq_true rfl, Nat.le_of_ble_eq_true rfl⟩) (zPS2 hPc hDc hK3 hXN) rfl rfl hl.1 rfl (lv_room (Nat.le_of_ble_eq_true rfl)) dX10_clash_27 ⟨Nat.le_of_ble_eq_true rfl, Nat.le_of_ble_eq_true rfl⟩) hS hFc hFc rfl (fun t H locs ht hB hk1 hS => ?_)
      obtain ⟨hP1, hD1⟩ := hB
      rw [ht] at hP1
      obtain ⟨hP, hD⟩ := zkQ (W2 := [_, _, _, _, _, _, _]) hP hD [] [0, 1, 2, 3, 4, 5, 6] [0, 1, 2, 3, 4, 5, 6] [] [0, 1, 2, 3, 4, 5, 6] 7 rfl rfl rfl rfl rfl rfl rfl rfl rfl hk1 hFc hP1 hD1
      clear hk1 hPc hDc hFc hP1 hD1 ht
      refine lv_if_ne (tgt := 35) hx hb dX10_clash_30 (by decide) (fun c_3 => ?_) (fun c_3 => ?_)
      · have c_3 : (0 : Int32).toInt ≤ wv.toInt ∧ wv.toInt ≤ (1 : Int32).toInt := zp_1 c_3
        exfalso; omega
      · have c_3 : ¬ ((0 : Int32).toInt ≤ wv.toInt ∧ wv.toInt ≤ (1 : Int32).toInt) := zp_0 c_3
        refine lv_iconst (v := (-1)) hx hb dX10_clash_33 (by decide) ?_
        obtain ⟨hP9, hD9⟩ := zq_part (cx := [(oc8 x (.ref sh) (.ref lw) (.ref ro) (.ref bq) (.ref bp) (.ref dq) (.ref dp) (.ref lv) (.ref sl) (nI dn) sd ul su), (oc10 sl mc9 (.ref ea) (nI T)), (oc0 bq c1 c2 c3 c4), (oc0 bp a1 a2 a3 a4), (oc2 dq y1 y2), (oc7 sh (.ref fa) (nI ft)), (oq fa cF 200 FA)]) hP hD [0, 1, 2, 3, 4, 5, 6] (by decide) rfl
        rw [hQ9]
        exact W.iret (v := (-1)) hx hb hr (fun t ht hW => ⟨⟨rfl, by rw [ht]; exact hP9, hD9⟩, hS.F ht⟩) hS.2.2 dX10_clash_34
    · have c_2 : ¬ ((0 : Int32).toInt ≤ iv.toInt ∧ iv.toInt ≤ (40000 : Int32).toInt) := zp_0 c_2
      refine lv_iconst (v := (-1)) hx hb dX10_clash_22 (by decide) ?_
      obtain ⟨hP9, hD9⟩ := zq_part (cx := [(oc8 x (.ref sh) (.ref lw) (.ref ro) (.ref bq) (.ref bp) (.ref dq) (.ref dp) (.ref lv) (.ref sl) (nI dn) sd ul su), (oc10 sl mc9 (.ref ea) (nI T)), (oc0 bq c1 c2 c3 c4), (oc0 bp a1 a2 a3 a4), (oc2 dq y1 y2), (oc7 sh (.ref fa) (nI ft)), (oq fa cF 200 FA)]) hP hD [0, 1, 2, 3, 4, 5, 6] (by decide) rfl
      rw [hQ9]
      exact W.iret (v := (-1)) hx hb hr (fun t ht hW => ⟨⟨rfl, by rw [ht]; exact hP9, hD9⟩, hS.F ht⟩) hS.2.2 dX10_clash_23
end
section
-- ===== end of PART A; then your names; then what follows =====
/-! THE CLAIM OUT OF ONE WALK OF THE LAW'S BODY. Your part is whole_start (and what it stands on); all else here is the same for every law, but numbers. -/
def R_law : String := "ScaleShopLaw"
def lw_P (b : Addr) (xs : List Int32) (args : Array Value) (s : State) : Prop := args = #[.ref b] ∧ s.IntsAt b xs ∧ xs.length ≤ 3072 ∧ (Jvm.Cond.and given_1 narrow_1).before args s = true
def lw_Q (_ : Array Value) (s : State) (o : Outcome) (t : State) : Prop := o = .returned (some (.int 1)) ∧ Framed s o t [] 600000 7302250
def lw_Z (below : List Frame) (a : Array Value) (s : State) : State → Prop := fun t => ∃ o, t.status = .running ∧ Ended t below o ∧ lw_Q a s o t
/-- the law's own end, with 1 on the stack, nothing written that was there before, its room as the claim has it -/
theorem lw_ret {p : Program} {l : Launch} {e : Env} {s : State} {m : MethodId} {below : List Frame} {meth : Method} {c : Code} {b : Nat} (hx : p.tables.exec = Jvm.exec) (hb : c.code = code) (hr : meth.sig.returnType = ret) (hlocks : meth.locks = false) {pc : Nat} {H : Heap} {ls : Array Slot} (hdg : decode code pc = .ok (.ireturn, 1)) : W p l e room_1 s m #[Value.ref b] below meth c H [] 600000 7302250 (lw_Z below #[Value.ref b] s) (F0 m pc ls [.int 1]) := by
  intro T hT X
  obtain ⟨fs, hret, hrun, hended, hW, hframe⟩ := X.leave (v := some (.int 1)) (hlocks := hlocks) (fun h => by rw [hr] at h; cases h)
  have hmeth' : T.vm.method? m = some meth := X.method'
  refine ⟨T.setFrames fs, ?_, .returned (some (.int 1)), hrun, hended, rfl, ⟨_, rfl⟩, hW, hframe⟩
  jvm_step X.here [X.here.top, hx, hb, hdg, hmeth', hr, ret, narrow_b1]
  (try refine ⟨rfl, ?_⟩); (try refine ⟨rfl, ?_⟩)
  first | (intro acts; rw [hret _ acts rfl rfl rfl]) | rw [hret _ _ rfl rfl rfl]
  exact Steps.refl _
/-- what holds at the law's entry: the machine, the code, the tables' words (any of lw_tbl by 'hts w (by decide +kernel)'), the script of L ints xs at the cell b, what the Statement gives of the start (any of its parts by flat_of_before) -/
def lw_At (p : Program) (s : State) (m : MethodId) (meth : Method) (c : Code) (b L : Nat) (xs : Nat → Int32) : Prop :=
  p.tables.exec = Jvm.exec ∧ c.code = code ∧ meth.sig.returnType = ret ∧ c.maxLocals = 4 ∧ s.vm.findClass R_law = some m.cls ∧ (∀ w ∈ lw_tbl, w.before #[Value.ref b] s = true) ∧ va_X b L xs s s.heap ∧ b < s.heap.size ∧ meth.locks = false ∧ (Jvm.Cond.and given_1 narrow_1).before #[Value.ref b] s = true
end
section
/-! what holds between two calls -/
set_option maxRecDepth 100000 in
abbrev lawI (s : State) (dC : Nat → ClassId) (dI : Nat → Nat → Nat) (cI cZ cF cO : ClassId) (e0 mi : Nat) (x sl sh fa lw dr dx dy tg tx ty wy wx wz br bo aa ro za zw zx zy zg bq bp dq dp lv k0 : Nat) (K cp cl U : Nat) (H : Heap) : Prop := ∃ (L : List Nat), ∃ (f : Nat → va_E), ∃ (FA : Nat → Option Nat), ∃ (RA : Nat → Option Nat), ∃ (FT : Nat → Nat), ∃ (cc : Nat → Nat), ∃ (W9 : Nat → Nat), ∃ (V : Nat → Nat → Nat → Int32), ∃ (VX : Nat → Nat → Int32), ∃ (VY : Nat → Nat → Int32), ∃ (a : Nat → Nat), ∃ (I0 : Nat → Int32), ∃ (J0 : Nat → Int64), ∃ (n9 : Nat → Nat), ∃ (z9 : Nat → Int32), ∃ (y9 : Nat → Int64), ∃ (R9 : Nat → Nat → Int32), (va_P (dC, dI) classes (((oc8 x (.ref sh) (.ref lw) (.ref ro) (.ref bq) (.ref bp) (.ref dq) (.ref dp) (.ref lv) (.ref sl) (nI (n9 5)) (nI (n9 4)) (z9 0) (z9 1)) :: (oc10 sl (z9 2) (.ref (n9 0)) (nI (n9 6))) :: (oc7 sh (.ref fa) (nI (n9 7))) :: (oq fa cF 200 FA) :: (oc3 lw (.ref dr) (.ref tg) (.ref wy) (.ref br) (.ref bo) (.ref aa)) :: (oc6 dr (.ref dx) (.ref dy) (nI (n9 1)) (z9 3)) :: (oa dx cI 40 (R9 0)) :: (oa dy cI 40 (R9 1)) :: (oc6 tg (.ref tx) (.ref ty) (nI (n9 2)) (z9 4)) :: (oa tx cI 3 (R9 2)) :: (oa ty cI 3 (R9 3)) :: (oc6 wy (.ref wx) (.ref wz) (nI (n9 3)) (z9 5)) :: (oa wx cI 2 (R9 4)) :: (oa wz cI 2 (R9 5)) :: (oc0 br (z9 6) (z9 7) (z9 8) (z9 9)) :: (oc0 bo (z9 10) (z9 11) (z9 12) (z9 13)) :: (oa aa cI 40 (R9 6)) :: (oc5 ro (.ref za) (.ref zw) (.ref zx) (.ref zy) (.ref zg) (z9 22)) :: (oq za cF 200 RA) :: (oa zw cI 200 (R9 7)) :: (oa zx cI 400 (R9 8)) :: (oa zy cI 400 (R9 9)) :: (oa zg cI 400 (R9 10)) :: (oc0 bq (z9 14) (z9 15) (z9 16) (z9 17)) :: (oc0 bp (z9 18) (z9 19) (z9 20) (z9 21)) :: (oc2 dq (y9 0) (y9 1)) :: (oc2 dp (y9 2) (y9 3)) :: (oa lv cZ 200 (R9 11)) :: (om k0 a (upd I0 26 (nI (n9 11))) J0) :: (oa (a 1) cI 201 (R9 12)) :: (oa (a 5) cI 201 (R9 13)) :: (oa (a 7) cI 201 (R9 14)) :: (oa (a 10) cI 201 (R9 15)) :: (oa (a 8) cI 201 (R9 16)) :: (oa (a 9) cI 201 (R9 17)) :: (oa (a 2) cI 201 (R9 18)) :: (oa (a 3) cI 201 (R9 19)) :: (oa (a 4) cI 201 (R9 20)) :: (oa (a 6) cZ 201 (R9 21)) :: (oa (a 11) cI 201 (R9 22)) :: (oa (a 12) cI 8040 (R9 23)) :: (oa (a 13) cI 8040 (R9 24)) :: (oa (a 27) cI 516 (R9 25)) :: (oa (a 28) cI (4096 * cp) (R9 26)) :: (oa (a 16) cI 514 (R9 27)) :: (oa (a 17) cI 514 (R9 28)) :: (oa (a 18) cI 514 (R9 29)) :: (oa (a 22) cI (64 * cl) (R9 30)) :: (oa (a 23) cI (64 * cl) (R9 31)) :: (oa (a 24) cI (64 * cl) (R9 32)) :: (oa (a 25) cI (64 * cl) (R9 33)) :: (oa (a 29) cI 42 (R9 34)) :: (oa (a 30) cI 42 (R9 35)) :: (oa (a 32) cI 8 (R9 36)) :: (oa (a 33) cI 42 (R9 37)) :: (oa (a 34) cI 42 (R9 38)) :: (oa (a 37) cZ 201 (R9 39)) :: (oa (a 38) cZ 201 (R9 40)) :: (oa (a 39) cZ 8040 (R9 41)) :: (oa (a 40) cI 6 (R9 42)) :: (oa (a 43) cZ 40 (R9 43)) :: (oa (a 50) cZ 201 (R9 44)) :: (oa (a 51) cI 402 (R9 45)) :: (oa (a 52) cI 402 (R9 46)) :: (oa (a 53) cI 402 (R9 47)) :: []) ++ va_pl L f) H ∧ va_D (fun q : Nat => s.heap.size ≤ q) (((oc8 x (.ref sh) (.ref lw) (.ref ro) (.ref bq) (.ref bp) (.ref dq) (.ref dp) (.ref lv) (.ref sl) (nI (n9 5)) (nI (n9 4)) (z9 0) (z9 1)) :: (oc10 sl (z9 2) (.ref (n9 0)) (nI (n9 6))) :: (oc7 sh (.ref fa) (nI (n9 7))) :: (oq fa cF 200 FA) :: (oc3 lw (.ref dr) (.ref tg) (.ref wy) (.ref br) (.ref bo) (.ref aa)) :: (oc6 dr (.ref dx) (.ref dy) (nI (n9 1)) (z9 3)) :: (oa dx cI 40 (R9 0)) :: (oa dy cI 40 (R9 1)) :: (oc6 tg (.ref tx) (.ref ty) (nI (n9 2)) (z9 4)) :: (oa tx cI 3 (R9 2)) :: (oa ty cI 3 (R9 3)) :: (oc6 wy (.ref wx) (.ref wz) (nI (n9 3)) (z9 5)) :: (oa wx cI 2 (R9 4)) :: (oa wz cI 2 (R9 5)) :: (oc0 br (z9 6) (z9 7) (z9 8) (z9 9)) :: (oc0 bo (z9 10) (z9 11) (z9 12) (z9 13)) :: (oa aa cI 40 (R9 6)) :: (oc5 ro (.ref za) (.ref zw) (.ref zx) (.ref zy) (.ref zg) (z9 22)) :: (oq za cF 200 RA) :: (oa zw cI 200 (R9 7)) :: (oa zx cI 400 (R9 8)) :: (oa zy cI 400 (R9 9)) :: (oa zg cI 400 (R9 10)) :: (oc0 bq (z9 14) (z9 15) (z9 16) (z9 17)) :: (oc0 bp (z9 18) (z9 19) (z9 20) (z9 21)) :: (oc2 dq (y9 0) (y9 1)) :: (oc2 dp (y9 2) (y9 3)) :: (oa lv cZ 200 (R9 11)) :: (om k0 a (upd I0 26 (nI (n9 11))) J0) :: (oa (a 1) cI 201 (R9 12)) :: (oa (a 5) cI 201 (R9 13)) :: (oa (a 7) cI 201 (R9 14)) :: (oa (a 10) cI 201 (R9 15)) :: (oa (a 8) cI 201 (R9 16)) :: (oa (a 9) cI 201 (R9 17)) :: (oa (a 2) cI 201 (R9 18)) :: (oa (a 3) cI 201 (R9 19)) :: (oa (a 4) cI 201 (R9 20)) :: (oa (a 6) cZ 201 (R9 21)) :: (oa (a 11) cI 201 (R9 22)) :: (oa (a 12) cI 8040 (R9 23)) :: (oa (a 13) cI 8040 (R9 24)) :: (oa (a 27) cI 516 (R9 25)) :: (oa (a 28) cI (4096 * cp) (R9 26)) :: (oa (a 16) cI 514 (R9 27)) :: (oa (a 17) cI 514 (R9 28)) :: (oa (a 18) cI 514 (R9 29)) :: (oa (a 22) cI (64 * cl) (R9 30)) :: (oa (a 23) cI (64 * cl) (R9 31)) :: (oa (a 24) cI (64 * cl) (R9 32)) :: (oa (a 25) cI (64 * cl) (R9 33)) :: (oa (a 29) cI 42 (R9 34)) :: (oa (a 30) cI 42 (R9 35)) :: (oa (a 32) cI 8 (R9 36)) :: (oa (a 33) cI 42 (R9 37)) :: (oa (a 34) cI 42 (R9 38)) :: (oa (a 37) cZ 201 (R9 39)) :: (oa (a 38) cZ 201 (R9 40)) :: (oa (a 39) cZ 8040 (R9 41)) :: (oa (a 40) cI 6 (R9 42)) :: (oa (a 43) cZ 40 (R9 43)) :: (oa (a 50) cZ 201 (R9 44)) :: (oa (a 51) cI 402 (R9 45)) :: (oa (a 52) cI 402 (R9 46)) :: (oa (a 53) cI 402 (R9 47)) :: []) ++ va_pl L f)) ∧ shB cI cO L f e0 FA (n9 0) (n9 4) (n9 5) (n9 6) (n9 7) FT V VX VY (R9 21) (R9 18) (R9 19) (R9 20) (R9 16) (R9 17) (R9 27) (R9 28) (R9 29) (R9 12) (R9 13) (R9 14) (R9 15) (R9 22) (R9 23) (R9 24) ∧ INV K (n9 8) (n9 9) (n9 10) cc W9 (n9 4) (n9 6) (n9 7) cp (n9 11) cl FT V VX VY (R9 21) (R9 18) (R9 19) (R9 20) (R9 16) (R9 17) (R9 12) (R9 13) (R9 15) (R9 22) (R9 23) (R9 24) (R9 25) (R9 26) (R9 31) (R9 32) ∧ (I0 0 = nI (n9 7) ∧ I0 19 = nI (n9 5) ∧ I0 20 = nI ((n9 6) - (n9 5)) ∧ I0 21 = nI (n9 4)) ∧ U ≤ (n9 8) * (28 * ((n9 9) + (n9 10)) + 1000) + 200 * ((n9 9) + (n9 10))
set_option maxRecDepth 100000 in
set_option maxHeartbeats 4000000 in
theorem lawI_in {s : State} {dC : Nat → ClassId} {dI : Nat → Nat → Nat} {cI cZ cF cO : ClassId} {e0 mi : Nat} {x sl sh fa lw dr dx dy tg tx ty wy wx wz br bo aa ro za zw zx zy zg bq bp dq dp lv k0 : Nat} {K cp cl U : Nat} {H : Heap} (L : List Nat) (f : Nat → va_E) (FA : Nat → Option Nat) (ea : Nat) (nd : Nat) (nt : Nat) (nw : Nat) (ul : Int32) (su : Int32) (mc9 : Int32) (rd : Int32) (rt : Int32) (rw : Int32) (P : Nat → Int32) (Q : Nat → Int32) (TX : Nat → Int32) (TY : Nat → Int32) (WX : Nat → Int32) (WY : Nat → Int32) (AR : Nat → Int32) (b1 : Int32) (b2 : Int32) (b3 : Int32) (b4 : Int32) (b5 : Int32) (b6 : Int32) (b7 : Int32) (b8 : Int32) (c1 : Int32) (c2 : Int32) (c3 : Int32) (c4 : Int32) (a1 : Int32) (a2 : Int32) (a3 : Int32) (a4 : Int32) (nv : Int32) (RA : Nat → Option Nat) (WT : Nat → Int32) (EX : Nat → Int32) (EY : Nat → Int32) (GR : Nat → Int32) (LV : Nat → Int32) (y1 : Int64) (y2 : Int64) (y3 : Int64) (y4 : Int64) (a : Nat → Nat) (I0 : Nat → Int32) (J0 : Nat → Int64) (kd : Nat → Int32) (st : Nat → Int32) (gb : Nat → Int32) (it : Nat → Int32) (pa : Nat → Int32) (pb : Nat → Int32) (rk : Nat → Int32) (wd : Nat → Int32) (tw : Nat → Int32) (tn : Nat → Int32) (mn : Nat → Int32) (cx : Nat → Int32) (cy : Nat → Int32) (sa : Nat → Int32) (shs : Nat → Int32) (wh : Nat → Int32) (of9 : Nat → Int32) (we : Nat → Int32) (la : Nat → Int32) (lb : Nat → Int32) (lc : Nat → Int32) (ld : Nat → Int32) (P0 : Nat → Int32) (Q0 : Nat → Int32) (S0 : Nat → Int32) (ox : Nat → Int32) (oy : Nat → Int32) (mt : Nat → Int32) (wi : Nat → Int32) (ins : Nat → Int32) (T0 : Nat → Int32) (fl : Nat → Int32) (mk : Nat → Int32) (jx : Nat → Int32) (jy : Nat → Int32) (gr : Nat → Int32) (bs : Nat) (dn : Nat) (T : Nat) (ft : Nat) (Sn : Nat) (AD : Nat) (C : Nat) (ln : Nat) (FT : Nat → Nat) (cc : Nat → Nat) (W9 : Nat → Nat) (V : Nat → Nat → Nat → Int32) (VX : Nat → Nat → Int32) (VY : Nat → Nat → Int32) (hP : va_P (dC, dI) classes (((oc8 x (.ref sh) (.ref lw) (.ref ro) (.ref bq) (.ref bp) (.ref dq) (.ref dp) (.ref lv) (.ref sl) (nI dn) (nI bs) ul su) :: (oc10 sl mc9 (.ref ea) (nI T)) :: (oc7 sh (.ref fa) (nI ft)) :: (oq fa cF 200 FA) :: (oc3 lw (.ref dr) (.ref tg) (.ref wy) (.ref br) (.ref bo) (.ref aa)) :: (oc6 dr (.ref dx) (.ref dy) (nI nd) rd) :: (oa dx cI 40 P) :: (oa dy cI 40 Q) :: (oc6 tg (.ref tx) (.ref ty) (nI nt) rt) :: (oa tx cI 3 TX) :: (oa ty cI 3 TY) :: (oc6 wy (.ref wx) (.ref wz) (nI nw) rw) :: (oa wx cI 2 WX) :: (oa wz cI 2 WY) :: (oc0 br b1 b2 b3 b4) :: (oc0 bo b5 b6 b7 b8) :: (oa aa cI 40 AR) :: (oc5 ro (.ref za) (.ref zw) (.ref zx) (.ref zy) (.ref zg) nv) :: (oq za cF 200 RA) :: (oa zw cI 200 WT) :: (oa zx cI 400 EX) :: (oa zy cI 400 EY) :: (oa zg cI 400 GR) :: (oc0 bq c1 c2 c3 c4) :: (oc0 bp a1 a2 a3 a4) :: (oc2 dq y1 y2) :: (oc2 dp y3 y4) :: (oa lv cZ 200 LV) :: (om k0 a (upd I0 26 (nI ln)) J0) :: (oa (a 1) cI 201 kd) :: (oa (a 5) cI 201 st) :: (oa (a 7) cI 201 gb) :: (oa (a 10) cI 201 it) :: (oa (a 8) cI 201 pa) :: (oa (a 9) cI 201 pb) :: (oa (a 2) cI 201 rk) :: (oa (a 3) cI 201 wd) :: (oa (a 4) cI 201 tw) :: (oa (a 6) cZ 201 tn) :: (oa (a 11) cI 201 mn) :: (oa (a 12) cI 8040 cx) :: (oa (a 13) cI 8040 cy) :: (oa (a 27) cI 516 sa) :: (oa (a 28) cI (4096 * cp) shs) :: (oa (a 16) cI 514 wh) :: (oa (a 17) cI 514 of9) :: (oa (a 18) cI 514 we) :: (oa (a 22) cI (64 * cl) la) :: (oa (a 23) cI (64 * cl) lb) :: (oa (a 24) cI (64 * cl) lc) :: (oa (a 25) cI (64 * cl) ld) :: (oa (a 29) cI 42 P0) :: (oa (a 30) cI 42 Q0) :: (oa (a 32) cI 8 S0) :: (oa (a 33) cI 42 ox) :: (oa (a 34) cI 42 oy) :: (oa (a 37) cZ 201 mt) :: (oa (a 38) cZ 201 wi) :: (oa (a 39) cZ 8040 ins) :: (oa (a 40) cI 6 T0) :: (oa (a 43) cZ 40 fl) :: (oa (a 50) cZ 201 mk) :: (oa (a 51) cI 402 jx) :: (oa (a 52) cI 402 jy) :: (oa (a 53) cI 402 gr) :: []) ++ va_pl L f) H) (hD : va_D (fun q : Nat => s.heap.size ≤ q) (((oc8 x (.ref sh) (.ref lw) (.ref ro) (.ref bq) (.ref bp) (.ref dq) (.ref dp) (.ref lv) (.ref sl) (nI dn) (nI bs) ul su) :: (oc10 sl mc9 (.ref ea) (nI T)) :: (oc7 sh (.ref fa) (nI ft)) :: (oq fa cF 200 FA) :: (oc3 lw (.ref dr) (.ref tg) (.ref wy) (.ref br) (.ref bo) (.ref aa)) :: (oc6 dr (.ref dx) (.ref dy) (nI nd) rd) :: (oa dx cI 40 P) :: (oa dy cI 40 Q) :: (oc6 tg (.ref tx) (.ref ty) (nI nt) rt) :: (oa tx cI 3 TX) :: (oa ty cI 3 TY) :: (oc6 wy (.ref wx) (.ref wz) (nI nw) rw) :: (oa wx cI 2 WX) :: (oa wz cI 2 WY) :: (oc0 br b1 b2 b3 b4) :: (oc0 bo b5 b6 b7 b8) :: (oa aa cI 40 AR) :: (oc5 ro (.ref za) (.ref zw) (.ref zx) (.ref zy) (.ref zg) nv) :: (oq za cF 200 RA) :: (oa zw cI 200 WT) :: (oa zx cI 400 EX) :: (oa zy cI 400 EY) :: (oa zg cI 400 GR) :: (oc0 bq c1 c2 c3 c4) :: (oc0 bp a1 a2 a3 a4) :: (oc2 dq y1 y2) :: (oc2 dp y3 y4) :: (oa lv cZ 200 LV) :: (om k0 a (upd I0 26 (nI ln)) J0) :: (oa (a 1) cI 201 kd) :: (oa (a 5) cI 201 st) :: (oa (a 7) cI 201 gb) :: (oa (a 10) cI 201 it) :: (oa (a 8) cI 201 pa) :: (oa (a 9) cI 201 pb) :: (oa (a 2) cI 201 rk) :: (oa (a 3) cI 201 wd) :: (oa (a 4) cI 201 tw) :: (oa (a 6) cZ 201 tn) :: (oa (a 11) cI 201 mn) :: (oa (a 12) cI 8040 cx) :: (oa (a 13) cI 8040 cy) :: (oa (a 27) cI 516 sa) :: (oa (a 28) cI (4096 * cp) shs) :: (oa (a 16) cI 514 wh) :: (oa (a 17) cI 514 of9) :: (oa (a 18) cI 514 we) :: (oa (a 22) cI (64 * cl) la) :: (oa (a 23) cI (64 * cl) lb) :: (oa (a 24) cI (64 * cl) lc) :: (oa (a 25) cI (64 * cl) ld) :: (oa (a 29) cI 42 P0) :: (oa (a 30) cI 42 Q0) :: (oa (a 32) cI 8 S0) :: (oa (a 33) cI 42 ox) :: (oa (a 34) cI 42 oy) :: (oa (a 37) cZ 201 mt) :: (oa (a 38) cZ 201 wi) :: (oa (a 39) cZ 8040 ins) :: (oa (a 40) cI 6 T0) :: (oa (a 43) cZ 40 fl) :: (oa (a 50) cZ 201 mk) :: (oa (a 51) cI 402 jx) :: (oa (a 52) cI 402 jy) :: (oa (a 53) cI 402 gr) :: []) ++ va_pl L f)) (hB : shB cI cO L f e0 FA ea bs dn T ft FT V VX VY tn rk wd tw pa pb wh of9 we kd st gb it mn cx cy) (hI : INV K Sn AD C cc W9 bs T ft cp ln cl FT V VX VY tn rk wd tw pa pb kd st it mn cx cy sa shs lb lc) (hM : I0 0 = nI ft ∧ I0 19 = nI dn ∧ I0 20 = nI (T - dn) ∧ I0 21 = nI bs) (hU : U ≤ Sn * (28 * (AD + C) + 1000) + 200 * (AD + C)) : lawI s dC dI cI cZ cF cO e0 mi x sl sh fa lw dr dx dy tg tx ty wy wx wz br bo aa ro za zw zx zy zg bq bp dq dp lv k0 K cp cl U H := ⟨L, f, FA, RA, FT, cc, W9, V, VX, VY, a, I0, J0, (fun i => match i with | 0 => ea | 1 => nd | 2 => nt | 3 => nw | 4 => bs | 5 => dn | 6 => T | 7 => ft | 8 => Sn | 9 => AD | 10 => C | _ => ln), (fun i => match i with | 0 => ul | 1 => su | 2 => mc9 | 3 => rd | 4 => rt | 5 => rw | 6 => b1 | 7 => b2 | 8 => b3 | 9 => b4 | 10 => b5 | 11 => b6 | 12 => b7 | 13 => b8 | 14 => c1 | 15 => c2 | 16 => c3 | 17 => c4 | 18 => a1 | 19 => a2 | 20 => a3 | 21 => a4 | _ => nv), (fun i => match i with | 0 => y1 | 1 => y2 | 2 => y3 | _ => y4), (fun i => match i with | 0 => P | 1 => Q | 2 => TX | 3 => TY | 4 => WX | 5 => WY | 6 => AR | 7 => WT | 8 => EX | 9 => EY | 10 => GR | 11 => LV | 12 => kd | 13 => st | 14 => gb | 15 => it | 16 => pa | 17 => pb | 18 => rk | 19 => wd | 20 => tw | 21 => tn | 22 => mn | 23 => cx | 24 => cy | 25 => sa | 26 => shs | 27 => wh | 28 => of9 | 29 => we | 30 => la | 31 => lb | 32 => lc | 33 => ld | 34 => P0 | 35 => Q0 | 36 => S0 | 37 => ox | 38 => oy | 39 => mt | 40 => wi | 41 => ins | 42 => T0 | 43 => fl | 44 => mk | 45 => jx | 46 => jy | _ => gr), ⟨hP, hD⟩, hB, hI, hM, hU⟩
set_option maxRecDepth 100000 in
set_option maxHeartbeats 4000000 in
theorem lawI_el {s : State} {dC : Nat → ClassId} {dI : Nat → Nat → Nat} {cI cZ cF cO : ClassId} {e0 mi : Nat} {x sl sh fa lw dr dx dy tg tx ty wy wx wz br bo aa ro za zw zx zy zg bq bp dq dp lv k0 : Nat} {K cp cl U : Nat} {H : Heap} (h : lawI s dC dI cI cZ cF cO e0 mi x sl sh fa lw dr dx dy tg tx ty wy wx wz br bo aa ro za zw zx zy zg bq bp dq dp lv k0 K cp cl U H) {Z : Prop} (k : ∀ (L : List Nat) (f : Nat → va_E) (FA : Nat → Option Nat) (ea : Nat) (nd : Nat) (nt : Nat) (nw : Nat) (ul : Int32) (su : Int32) (mc9 : Int32) (rd : Int32) (rt : Int32) (rw : Int32) (P : Nat → Int32) (Q : Nat → Int32) (TX : Nat → Int32) (TY : Nat → Int32) (WX : Nat → Int32) (WY : Nat → Int32) (AR : Nat → Int32) (b1 : Int32) (b2 : Int32) (b3 : Int32) (b4 : Int32) (b5 : Int32) (b6 : Int32) (b7 : Int32) (b8 : Int32) (c1 : Int32) (c2 : Int32) (c3 : Int32) (c4 : Int32) (a1 : Int32) (a2 : Int32) (a3 : Int32) (a4 : Int32) (nv : Int32) (RA : Nat → Option Nat) (WT : Nat → Int32) (EX : Nat → Int32) (EY : Nat → Int32) (GR : Nat → Int32) (LV : Nat → Int32) (y1 : Int64) (y2 : Int64) (y3 : Int64) (y4 : Int64) (a : Nat → Nat) (I0 : Nat → Int32) (J0 : Nat → Int64) (kd : Nat → Int32) (st : Nat → Int32) (gb : Nat → Int32) (it : Nat → Int32) (pa : Nat → Int32) (pb : Nat → Int32) (rk : Nat → Int32) (wd : Nat → Int32) (tw : Nat → Int32) (tn : Nat → Int32) (mn : Nat → Int32) (cx : Nat → Int32) (cy : Nat → Int32) (sa : Nat → Int32) (shs : Nat → Int32) (wh : Nat → Int32) (of9 : Nat → Int32) (we : Nat → Int32) (la : Nat → Int32) (lb : Nat → Int32) (lc : Nat → Int32) (ld : Nat → Int32) (P0 : Nat → Int32) (Q0 : Nat → Int32) (S0 : Nat → Int32) (ox : Nat → Int32) (oy : Nat → Int32) (mt : Nat → Int32) (wi : Nat → Int32) (ins : Nat → Int32) (T0 : Nat → Int32) (fl : Nat → Int32) (mk : Nat → Int32) (jx : Nat → Int32) (jy : Nat → Int32) (gr : Nat → Int32) (bs : Nat) (dn : Nat) (T : Nat) (ft : Nat) (Sn : Nat) (AD : Nat) (C : Nat) (ln : Nat) (FT : Nat → Nat) (cc : Nat → Nat) (W9 : Nat → Nat) (V : Nat → Nat → Nat → Int32) (VX : Nat → Nat → Int32) (VY : Nat → Nat → Int32), (va_P (dC, dI) classes (((oc8 x (.ref sh) (.ref lw) (.ref ro) (.ref bq) (.ref bp) (.ref dq) (.ref dp) (.ref lv) (.ref sl) (nI dn) (nI bs) ul su) :: (oc10 sl mc9 (.ref ea) (nI T)) :: (oc7 sh (.ref fa) (nI ft)) :: (oq fa cF 200 FA) :: (oc3 lw (.ref dr) (.ref tg) (.ref wy) (.ref br) (.ref bo) (.ref aa)) :: (oc6 dr (.ref dx) (.ref dy) (nI nd) rd) :: (oa dx cI 40 P) :: (oa dy cI 40 Q) :: (oc6 tg (.ref tx) (.ref ty) (nI nt) rt) :: (oa tx cI 3 TX) :: (oa ty cI 3 TY) :: (oc6 wy (.ref wx) (.ref wz) (nI nw) rw) :: (oa wx cI 2 WX) :: (oa wz cI 2 WY) :: (oc0 br b1 b2 b3 b4) :: (oc0 bo b5 b6 b7 b8) :: (oa aa cI 40 AR) :: (oc5 ro (.ref za) (.ref zw) (.ref zx) (.ref zy) (.ref zg) nv) :: (oq za cF 200 RA) :: (oa zw cI 200 WT) :: (oa zx cI 400 EX) :: (oa zy cI 400 EY) :: (oa zg cI 400 GR) :: (oc0 bq c1 c2 c3 c4) :: (oc0 bp a1 a2 a3 a4) :: (oc2 dq y1 y2) :: (oc2 dp y3 y4) :: (oa lv cZ 200 LV) :: (om k0 a (upd I0 26 (nI ln)) J0) :: (oa (a 1) cI 201 kd) :: (oa (a 5) cI 201 st) :: (oa (a 7) cI 201 gb) :: (oa (a 10) cI 201 it) :: (oa (a 8) cI 201 pa) :: (oa (a 9) cI 201 pb) :: (oa (a 2) cI 201 rk) :: (oa (a 3) cI 201 wd) :: (oa (a 4) cI 201 tw) :: (oa (a 6) cZ 201 tn) :: (oa (a 11) cI 201 mn) :: (oa (a 12) cI 8040 cx) :: (oa (a 13) cI 8040 cy) :: (oa (a 27) cI 516 sa) :: (oa (a 28) cI (4096 * cp) shs) :: (oa (a 16) cI 514 wh) :: (oa (a 17) cI 514 of9) :: (oa (a 18) cI 514 we) :: (oa (a 22) cI (64 * cl) la) :: (oa (a 23) cI (64 * cl) lb) :: (oa (a 24) cI (64 * cl) lc) :: (oa (a 25) cI (64 * cl) ld) :: (oa (a 29) cI 42 P0) :: (oa (a 30) cI 42 Q0) :: (oa (a 32) cI 8 S0) :: (oa (a 33) cI 42 ox) :: (oa (a 34) cI 42 oy) :: (oa (a 37) cZ 201 mt) :: (oa (a 38) cZ 201 wi) :: (oa (a 39) cZ 8040 ins) :: (oa (a 40) cI 6 T0) :: (oa (a 43) cZ 40 fl) :: (oa (a 50) cZ 201 mk) :: (oa (a 51) cI 402 jx) :: (oa (a 52) cI 402 jy) :: (oa (a 53) cI 402 gr) :: []) ++ va_pl L f) H) → (va_D (fun q : Nat => s.heap.size ≤ q) (((oc8 x (.ref sh) (.ref lw) (.ref ro) (.ref bq) (.ref bp) (.ref dq) (.ref dp) (.ref lv) (.ref sl) (nI dn) (nI bs) ul su) :: (oc10 sl mc9 (.ref ea) (nI T)) :: (oc7 sh (.ref fa) (nI ft)) :: (oq fa cF 200 FA) :: (oc3 lw (.ref dr) (.ref tg) (.ref wy) (.ref br) (.ref bo) (.ref aa)) :: (oc6 dr (.ref dx) (.ref dy) (nI nd) rd) :: (oa dx cI 40 P) :: (oa dy cI 40 Q) :: (oc6 tg (.ref tx) (.ref ty) (nI nt) rt) :: (oa tx cI 3 TX) :: (oa ty cI 3 TY) :: (oc6 wy (.ref wx) (.ref wz) (nI nw) rw) :: (oa wx cI 2 WX) :: (oa wz cI 2 WY) :: (oc0 br b1 b2 b3 b4) :: (oc0 bo b5 b6 b7 b8) :: (oa aa cI 40 AR) :: (oc5 ro (.ref za) (.ref zw) (.ref zx) (.ref zy) (.ref zg) nv) :: (oq za cF 200 RA) :: (oa zw cI 200 WT) :: (oa zx cI 400 EX) :: (oa zy cI 400 EY) :: (oa zg cI 400 GR) :: (oc0 bq c1 c2 c3 c4) :: (oc0 bp a1 a2 a3 a4) :: (oc2 dq y1 y2) :: (oc2 dp y3 y4) :: (oa lv cZ 200 LV) :: (om k0 a (upd I0 26 (nI ln)) J0) :: (oa (a 1) cI 201 kd) :: (oa (a 5) cI 201 st) :: (oa (a 7) cI 201 gb) :: (oa (a 10) cI 201 it) :: (oa (a 8) cI 201 pa) :: (oa (a 9) cI 201 pb) :: (oa (a 2) cI 201 rk) :: (oa (a 3) cI 201 wd) :: (oa (a 4) cI 201 tw) :: (oa (a 6) cZ 201 tn) :: (oa (a 11) cI 201 mn) :: (oa (a 12) cI 8040 cx) :: (oa (a 13) cI 8040 cy) :: (oa (a 27) cI 516 sa) :: (oa (a 28) cI (4096 * cp) shs) :: (oa (a 16) cI 514 wh) :: (oa (a 17) cI 514 of9) :: (oa (a 18) cI 514 we) :: (oa (a 22) cI (64 * cl) la) :: (oa (a 23) cI (64 * cl) lb) :: (oa (a 24) cI (64 * cl) lc) :: (oa (a 25) cI (64 * cl) ld) :: (oa (a 29) cI 42 P0) :: (oa (a 30) cI 42 Q0) :: (oa (a 32) cI 8 S0) :: (oa (a 33) cI 42 ox) :: (oa (a 34) cI 42 oy) :: (oa (a 37) cZ 201 mt) :: (oa (a 38) cZ 201 wi) :: (oa (a 39) cZ 8040 ins) :: (oa (a 40) cI 6 T0) :: (oa (a 43) cZ 40 fl) :: (oa (a 50) cZ 201 mk) :: (oa (a 51) cI 402 jx) :: (oa (a 52) cI 402 jy) :: (oa (a 53) cI 402 gr) :: []) ++ va_pl L f)) → (shB cI cO L f e0 FA ea bs dn T ft FT V VX VY tn rk wd tw pa pb wh of9 we kd st gb it mn cx cy) → (INV K Sn AD C cc W9 bs T ft cp ln cl FT V VX VY tn rk wd tw pa pb kd st it mn cx cy sa shs lb lc) → (I0 0 = nI ft ∧ I0 19 = nI dn ∧ I0 20 = nI (T - dn) ∧ I0 21 = nI bs) → (U ≤ Sn * (28 * (AD + C) + 1000) + 200 * (AD + C)) → Z) : Z := by
  obtain ⟨L, f, FA, RA, FT, cc, W9, V, VX, VY, a, I0, J0, n9, z9, y9, R9, ⟨hP, hD⟩, hB, hI, hM, hU⟩ := h
  exact k L f FA (n9 0) (n9 1) (n9 2) (n9 3) (z9 0) (z9 1) (z9 2) (z9 3) (z9 4) (z9 5) (R9 0) (R9 1) (R9 2) (R9 3) (R9 4) (R9 5) (R9 6) (z9 6) (z9 7) (z9 8) (z9 9) (z9 10) (z9 11) (z9 12) (z9 13) (z9 14) (z9 15) (z9 16) (z9 17) (z9 18) (z9 19) (z9 20) (z9 21) (z9 22) RA (R9 7) (R9 8) (R9 9) (R9 10) (R9 11) (y9 0) (y9 1) (y9 2) (y9 3) a I0 J0 (R9 12) (R9 13) (R9 14) (R9 15) (R9 16) (R9 17) (R9 18) (R9 19) (R9 20) (R9 21) (R9 22) (R9 23) (R9 24) (R9 25) (R9 26) (R9 27) (R9 28) (R9 29) (R9 30) (R9 31) (R9 32) (R9 33) (R9 34) (R9 35) (R9 36) (R9 37) (R9 38) (R9 39) (R9 40) (R9 41) (R9 42) (R9 43) (R9 44) (R9 45) (R9 46) (R9 47) (n9 4) (n9 5) (n9 6) (n9 7) (n9 8) (n9 9) (n9 10) (n9 11) FT cc W9 V VX VY hP hD hB hI hM hU
set_option maxRecDepth 100000 in
set_option maxHeartbeats 4000000 in
theorem law_room1 {s : State} {K cp cl U L9 : Nat} {H : Heap} {dC : Nat → ClassId} {dI : Nat → Nat → Nat} {cI cZ cF cO : ClassId} {e0 mi : Nat} {x sl sh fa lw dr dx dy tg tx ty wy wx wz br bo aa ro za zw zx zy zg bq bp dq dp lv k0 : Nat} (hL9 : L9 ≤ 3072) (hk : 6 * K ≤ L9) (h : lawI s dC dI cI cZ cF cO e0 mi x sl sh fa lw dr dx dy tg tx ty wy wx wz br bo aa ro za zw zx zy zg bq bp dq dp lv k0 K cp cl U H) : 1000 + 1010 * K + cp + 4 * cl ≤ 600000 := by
  refine lawI_el h (fun L f FA ea nd nt nw ul su mc9 rd rt rw P Q TX TY WX WY AR b1 b2 b3 b4 b5 b6 b7 b8 c1 c2 c3 c4 a1 a2 a3 a4 nv RA WT EX EY GR LV y1 y2 y3 y4 a I0 J0 kd st gb it pa pb rk wd tw tn mn cx cy sa shs wh of9 we la lb lc ld P0 Q0 S0 ox oy mt wi ins T0 fl mk jx jy gr bs dn T ft Sn AD C ln FT cc W9 V VX VY hP hD hB hI hM hU => ?_)
  have h1 := INV_cp hI (by omega)
  have h2 := mul_514 (a := Sn) (b := C) (by have := hI.2.2.2.1; omega)
  have h3 := hI.2.2.2.2
  omega
set_option maxRecDepth 100000 in
set_option maxHeartbeats 4000000 in
theorem law_room2 {s : State} {K cp cl U L9 : Nat} {H : Heap} {dC : Nat → ClassId} {dI : Nat → Nat → Nat} {cI cZ cF cO : ClassId} {e0 mi : Nat} {x sl sh fa lw dr dx dy tg tx ty wy wx wz br bo aa ro za zw zx zy zg bq bp dq dp lv k0 : Nat} (hL9 : L9 ≤ 3072) (hk : 6 * K ≤ L9) (h : lawI s dC dI cI cZ cF cO e0 mi x sl sh fa lw dr dx dy tg tx ty wy wx wz br bo aa ro za zw zx zy zg bq bp dq dp lv k0 K cp cl U H) : 45000 + 8192 * cp + 512 * cl + U ≤ 7302250 := by
  refine lawI_el h (fun L f FA ea nd nt nw ul su mc9 rd rt rw P Q TX TY WX WY AR b1 b2 b3 b4 b5 b6 b7 b8 c1 c2 c3 c4 a1 a2 a3 a4 nv RA WT EX EY GR LV y1 y2 y3 y4 a I0 J0 kd st gb it pa pb rk wd tw tn mn cx cy sa shs wh of9 we la lb lc ld P0 Q0 S0 ox oy mt wi ins T0 fl mk jx jy gr bs dn T ft Sn AD C ln FT cc W9 V VX VY hP hD hB hI hM hU => ?_)
  exact room_c (Sn := Sn) (AD := AD) (C := C) (by have := hI.2.2.2.1; omega) hI.2.2.1.2.2.2.2.2 hI.2.2.2.2.2.2.2.1 hU
end
section
theorem la_0_1 {p : Program} {e : Env} {s : State} {m : MethodId} {below : List Frame} {meth : Method} {c : Code} (l : Launch) {b L9 : Nat} {xs : Nat → Int32} (C0 : lw_At p s m meth c b L9 xs) {x k0 k9 ce sl : Nat} (hk9 : 6 * k9 + 6 ≤ L9) (hL9 : L9 ≤ 3072) {H : Heap} {locs : List Loc} {ls : Array Slot} {rest : List Value} (hS : va_S (fun q : Nat => s.heap.size ≤ q) s.heap H locs) (hl : lv_has ls 4 [(3, .int (nI (6 * k9))), (2, .ref k0), (1, .ref x), (0, .ref b)]) {v1 : Int32} {v2 : Int32} {v3 : Int32} {v4 : Int32} (h1 : xs (6 * k9 + 1) = v1) (h2 : xs (6 * k9 + 2) = v2) (h3 : xs (6 * k9 + 3) = v3) (h4 : xs (6 * k9 + 4) = v4) (k : W p l e room_1 s m #[Value.ref b] below meth c H locs ce sl (lw_Z below #[Value.ref b] s) (F0 m 185 ls (.int v4 :: .int v3 :: .int v2 :: .int v1 :: .ref x :: rest))) : W p l e room_1 s m #[Value.ref b] below meth c H locs ce sl (lw_Z below #[Value.ref b] s) (F0 m 164 ls (rest)) := by
  obtain ⟨hx, hb, hr, hml, hown, hts1, hX, hbl, hlocks, hgv⟩ := id C0
  have hbA : ¬ (fun q : Nat => s.heap.size ≤ q) b := Nat.not_le.mpr hbl
  refine lv_aload_n hx hb dL_law_164 rfl (lv_at hl 2 rfl) ?_
  refine lv_aload_n hx hb dL_law_165 rfl (lv_at hl 3 rfl) ?_
  refine lv_iload_n hx hb dL_law_166 rfl (lv_at hl 0 rfl) ?_
  refine lv_iconst (v := 1) hx hb dL_law_167 rfl ?_
  refine lv_iadd hx hb dL_law_168 ?_
  refine zz_i (v := nI (6 * k9 + 1)) (nI_add (6 * k9) 1) ?_
  refine va_sld hx hb hX hbl hbA hS (vp_in_nI (n := 6 * k9 + 1) (N := L9) (by omega) (by omega)) dL_law_169 ?_
  refine zz_i (v := v1) ((congrArg xs (nI_clamp (by omega))).trans h1) ?_
  refine lv_aload_n hx hb dL_law_170 rfl (lv_at hl 3 rfl) ?_
  refine lv_iload_n hx hb dL_law_171 rfl (lv_at hl 0 rfl) ?_
  refine lv_iconst (v := 2) hx hb dL_law_172 rfl ?_
  refine lv_iadd hx hb dL_law_173 ?_
  refine zz_i (v := nI (6 * k9 + 2)) (nI_add (6 * k9) 2) ?_
  refine va_sld hx hb hX hbl hbA hS (vp_in_nI (n := 6 * k9 + 2) (N := L9) (by omega) (by omega)) dL_law_174 ?_
  refine zz_i (v := v2) ((congrArg xs (nI_clamp (by omega))).trans h2) ?_
  refine lv_aload_n hx hb dL_law_175 rfl (lv_at hl 3 rfl) ?_
  refine lv_iload_n hx hb dL_law_176 rfl (lv_at hl 0 rfl) ?_
  refine lv_iconst (v := 3) hx hb dL_law_177 rfl ?_
  refine lv_iadd hx hb dL_law_178 ?_
  refine zz_i (v := nI (6 * k9 + 3)) (nI_add (6 * k9) 3) ?_
  refine va_sld hx hb hX hbl hbA hS (vp_in_nI (n := 6 * k9 + 3) (N := L9) (by omega) (by omega)) dL_law_179 ?_
  refine zz_i (v := v3) ((congrArg xs (nI_clamp (by omega))).trans h3) ?_
  refine lv_aload_n hx hb dL_law_180 rfl (lv_at hl 3 rfl) ?_
  refine lv_iload_n hx hb dL_law_181 rfl (lv_at hl 0 rfl) ?_
  refine lv_iconst (v := 4) hx hb dL_law_182 rfl ?_
  refine lv_iadd hx hb dL_law_183 ?_
  refine zz_i (v := nI (6 * k9 + 4)) (nI_add (6 * k9) 4) ?_
  refine va_sld hx hb hX hbl hbA hS (vp_in_nI (n := 6 * k9 + 4) (N := L9) (by omega) (by omega)) dL_law_184 ?_
  refine zz_i (v := v4) ((congrArg xs (nI_clamp (by omega))).trans h4) ?_
  exact k
theorem la_0_2 {p : Program} {e : Env} {s : State} {m : MethodId} {below : List Frame} {meth : Method} {c : Code} (l : Launch) {b L9 : Nat} {xs : Nat → Int32} (C0 : lw_At p s m meth c b L9 xs) {x k0 k9 ce sl : Nat} (hk9 : 6 * k9 + 6 ≤ L9) (hL9 : L9 ≤ 3072) {H : Heap} {locs : List Loc} {ls : Array Slot} {rest : List Value} (hS : va_S (fun q : Nat => s.heap.size ≤ q) s.heap H locs) (hl : lv_has ls 4 [(3, .int (nI (6 * k9))), (2, .ref k0), (1, .ref x), (0, .ref b)]) {v1 : Int32} {v2 : Int32} {v3 : Int32} {v4 : Int32} (h1 : xs (6 * k9 + 1) = v1) (h2 : xs (6 * k9 + 2) = v2) (h3 : xs (6 * k9 + 3) = v3) (h4 : xs (6 * k9 + 4) = v4) (k : W p l e room_1 s m #[Value.ref b] below meth c H locs ce sl (lw_Z below #[Value.ref b] s) (F0 m 210 ls (.int v4 :: .int v3 :: .int v2 :: .int v1 :: .ref k0 :: rest))) : W p l e room_1 s m #[Value.ref b] below meth c H locs ce sl (lw_Z below #[Value.ref b] s) (F0 m 189 ls (rest)) := by
  obtain ⟨hx, hb, hr, hml, hown, hts1, hX, hbl, hlocks, hgv⟩ := id C0
  have hbA : ¬ (fun q : Nat => s.heap.size ≤ q) b := Nat.not_le.mpr hbl
  refine lv_aload_n hx hb dL_law_189 rfl (lv_at hl 1 rfl) ?_
  refine lv_aload_n hx hb dL_law_190 rfl (lv_at hl 3 rfl) ?_
  refine lv_iload_n hx hb dL_law_191 rfl (lv_at hl 0 rfl) ?_
  refine lv_iconst (v := 1) hx hb dL_law_192 rfl ?_
  refine lv_iadd hx hb dL_law_193 ?_
  refine zz_i (v := nI (6 * k9 + 1)) (nI_add (6 * k9) 1) ?_
  refine va_sld hx hb hX hbl hbA hS (vp_in_nI (n := 6 * k9 + 1) (N := L9) (by omega) (by omega)) dL_law_194 ?_
  refine zz_i (v := v1) ((congrArg xs (nI_clamp (by omega))).trans h1) ?_
  refine lv_aload_n hx hb dL_law_195 rfl (lv_at hl 3 rfl) ?_
  refine lv_iload_n hx hb dL_law_196 rfl (lv_at hl 0 rfl) ?_
  refine lv_iconst (v := 2) hx hb dL_law_197 rfl ?_
  refine lv_iadd hx hb dL_law_198 ?_
  refine zz_i (v := nI (6 * k9 + 2)) (nI_add (6 * k9) 2) ?_
  refine va_sld hx hb hX hbl hbA hS (vp_in_nI (n := 6 * k9 + 2) (N := L9) (by omega) (by omega)) dL_law_199 ?_
  refine zz_i (v := v2) ((congrArg xs (nI_clamp (by omega))).trans h2) ?_
  refine lv_aload_n hx hb dL_law_200 rfl (lv_at hl 3 rfl) ?_
  refine lv_iload_n hx hb dL_law_201 rfl (lv_at hl 0 rfl) ?_
  refine lv_iconst (v := 3) hx hb dL_law_202 rfl ?_
  refine lv_iadd hx hb dL_law_203 ?_
  refine zz_i (v := nI (6 * k9 + 3)) (nI_add (6 * k9) 3) ?_
  refine va_sld hx hb hX hbl hbA hS (vp_in_nI (n := 6 * k9 + 3) (N := L9) (by omega) (by omega)) dL_law_204 ?_
  refine zz_i (v := v3) ((congrArg xs (nI_clamp (by omega))).trans h3) ?_
  refine lv_aload_n hx hb dL_law_205 rfl (lv_at hl 3 rfl) ?_
  refine lv_iload_n hx hb dL_law_206 rfl (lv_at hl 0 rfl) ?_
  refine lv_iconst (v := 4) hx hb dL_law_207 rfl ?_
  refine lv_iadd hx hb dL_law_208 ?_
  refine zz_i (v := nI (6 * k9 + 4)) (nI_add (6 * k9) 4) ?_
  refine va_sld hx hb hX hbl hbA hS (vp_in_nI (n := 6 * k9 + 4) (N := L9) (by omega) (by omega)) dL_law_209 ?_
  refine zz_i (v := v4) ((congrArg xs (nI_clamp (by omega))).trans h4) ?_
  exact k
theorem la_1_1 {p : Program} {e : Env} {s : State} {m : MethodId} {below : List Frame} {meth : Method} {c : Code} (l : Launch) {b L9 : Nat} {xs : Nat → Int32} (C0 : lw_At p s m meth c b L9 xs) {x k0 k9 ce sl : Nat} (hk9 : 6 * k9 + 6 ≤ L9) (hL9 : L9 ≤ 3072) {H : Heap} {locs : List Loc} {ls : Array Slot} {rest : List Value} (hS : va_S (fun q : Nat => s.heap.size ≤ q) s.heap H locs) (hl : lv_has ls 4 [(3, .int (nI (6 * k9))), (2, .ref k0), (1, .ref x), (0, .ref b)]) {v1 : Int32} {v2 : Int32} {v3 : Int32} (h1 : xs (6 * k9 + 1) = v1) (h2 : xs (6 * k9 + 2) = v2) (h3 : xs (6 * k9 + 3) = v3) (k : W p l e room_1 s m #[Value.ref b] below meth c H locs ce sl (lw_Z below #[Value.ref b] s) (F0 m 233 ls (.int v3 :: .int v2 :: .int v1 :: .ref x :: rest))) : W p l e room_1 s m #[Value.ref b] below meth c H locs ce sl (lw_Z below #[Value.ref b] s) (F0 m 217 ls (rest)) := by
  obtain ⟨hx, hb, hr, hml, hown, hts1, hX, hbl, hlocks, hgv⟩ := id C0
  have hbA : ¬ (fun q : Nat => s.heap.size ≤ q) b := Nat.not_le.mpr hbl
  refine lv_aload_n hx hb dL_law_217 rfl (lv_at hl 2 rfl) ?_
  refine lv_aload_n hx hb dL_law_218 rfl (lv_at hl 3 rfl) ?_
  refine lv_iload_n hx hb dL_law_219 rfl (lv_at hl 0 rfl) ?_
  refine lv_iconst (v := 1) hx hb dL_law_220 rfl ?_
  refine lv_iadd hx hb dL_law_221 ?_
  refine zz_i (v := nI (6 * k9 + 1)) (nI_add (6 * k9) 1) ?_
  refine va_sld hx hb hX hbl hbA hS (vp_in_nI (n := 6 * k9 + 1) (N := L9) (by omega) (by omega)) dL_law_222 ?_
  refine zz_i (v := v1) ((congrArg xs (nI_clamp (by omega))).trans h1) ?_
  refine lv_aload_n hx hb dL_law_223 rfl (lv_at hl 3 rfl) ?_
  refine lv_iload_n hx hb dL_law_224 rfl (lv_at hl 0 rfl) ?_
  refine lv_iconst (v := 2) hx hb dL_law_225 rfl ?_
  refine lv_iadd hx hb dL_law_226 ?_
  refine zz_i (v := nI (6 * k9 + 2)) (nI_add (6 * k9) 2) ?_
  refine va_sld hx hb hX hbl hbA hS (vp_in_nI (n := 6 * k9 + 2) (N := L9) (by omega) (by omega)) dL_law_227 ?_
  refine zz_i (v := v2) ((congrArg xs (nI_clamp (by omega))).trans h2) ?_
  refine lv_aload_n hx hb dL_law_228 rfl (lv_at hl 3 rfl) ?_
  refine lv_iload_n hx hb dL_law_229 rfl (lv_at hl 0 rfl) ?_
  refine lv_iconst (v := 3) hx hb dL_law_230 rfl ?_
  refine lv_iadd hx hb dL_law_231 ?_
  refine zz_i (v := nI (6 * k9 + 3)) (nI_add (6 * k9) 3) ?_
  refine va_sld hx hb hX hbl hbA hS (vp_in_nI (n := 6 * k9 + 3) (N := L9) (by omega) (by omega)) dL_law_232 ?_
  refine zz_i (v := v3) ((congrArg xs (nI_clamp (by omega))).trans h3) ?_
  exact k
theorem la_1_2 {p : Program} {e : Env} {s : State} {m : MethodId} {below : List Frame} {meth : Method} {c : Code} (l : Launch) {b L9 : Nat} {xs : Nat → Int32} (C0 : lw_At p s m meth c b L9 xs) {x k0 k9 ce sl : Nat} (hk9 : 6 * k9 + 6 ≤ L9) (hL9 : L9 ≤ 3072) {H : Heap} {locs : List Loc} {ls : Array Slot} {rest : List Value} (hS : va_S (fun q : Nat => s.heap.size ≤ q) s.heap H locs) (hl : lv_has ls 4 [(3, .int (nI (6 * k9))), (2, .ref k0), (1, .ref x), (0, .ref b)]) {v1 : Int32} {v2 : Int32} {v3 : Int32} (h1 : xs (6 * k9 + 1) = v1) (h2 : xs (6 * k9 + 2) = v2) (h3 : xs (6 * k9 + 3) = v3) (k : W p l e room_1 s m #[Value.ref b] below meth c H locs ce sl (lw_Z below #[Value.ref b] s) (F0 m 253 ls (.int v3 :: .int v2 :: .int v1 :: .ref k0 :: rest))) : W p l e room_1 s m #[Value.ref b] below meth c H locs ce sl (lw_Z below #[Value.ref b] s) (F0 m 237 ls (rest)) := by
  obtain ⟨hx, hb, hr, hml, hown, hts1, hX, hbl, hlocks, hgv⟩ := id C0
  have hbA : ¬ (fun q : Nat => s.heap.size ≤ q) b := Nat.not_le.mpr hbl
  refine lv_aload_n hx hb dL_law_237 rfl (lv_at hl 1 rfl) ?_
  refine lv_aload_n hx hb dL_law_238 rfl (lv_at hl 3 rfl) ?_
  refine lv_iload_n hx hb dL_law_239 rfl (lv_at hl 0 rfl) ?_
  refine lv_iconst (v := 1) hx hb dL_law_240 rfl ?_
  refine lv_iadd hx hb dL_law_241 ?_
  refine zz_i (v := nI (6 * k9 + 1)) (nI_add (6 * k9) 1) ?_
  refine va_sld hx hb hX hbl hbA hS (vp_in_nI (n := 6 * k9 + 1) (N := L9) (by omega) (by omega)) dL_law_242 ?_
  refine zz_i (v := v1) ((congrArg xs (nI_clamp (by omega))).trans h1) ?_
  refine lv_aload_n hx hb dL_law_243 rfl (lv_at hl 3 rfl) ?_
  refine lv_iload_n hx hb dL_law_244 rfl (lv_at hl 0 rfl) ?_
  refine lv_iconst (v := 2) hx hb dL_law_245 rfl ?_
  refine lv_iadd hx hb dL_law_246 ?_
  refine zz_i (v := nI (6 * k9 + 2)) (nI_add (6 * k9) 2) ?_
  refine va_sld hx hb hX hbl hbA hS (vp_in_nI (n := 6 * k9 + 2) (N := L9) (by omega) (by omega)) dL_law_247 ?_
  refine zz_i (v := v2) ((congrArg xs (nI_clamp (by omega))).trans h2) ?_
  refine lv_aload_n hx hb dL_law_248 rfl (lv_at hl 3 rfl) ?_
  refine lv_iload_n hx hb dL_law_249 rfl (lv_at hl 0 rfl) ?_
  refine lv_iconst (v := 3) hx hb dL_law_250 rfl ?_
  refine lv_iadd hx hb dL_law_251 ?_
  refine zz_i (v := nI (6 * k9 + 3)) (nI_add (6 * k9) 3) ?_
  refine va_sld hx hb hX hbl hbA hS (vp_in_nI (n := 6 * k9 + 3) (N := L9) (by omega) (by omega)) dL_law_252 ?_
  refine zz_i (v := v3) ((congrArg xs (nI_clamp (by omega))).trans h3) ?_
  exact k
theorem la_2_1 {p : Program} {e : Env} {s : State} {m : MethodId} {below : List Frame} {meth : Method} {c : Code} (l : Launch) {b L9 : Nat} {xs : Nat → Int32} (C0 : lw_At p s m meth c b L9 xs) {x k0 k9 ce sl : Nat} (hk9 : 6 * k9 + 6 ≤ L9) (hL9 : L9 ≤ 3072) {H : Heap} {locs : List Loc} {ls : Array Slot} {rest : List Value} (hS : va_S (fun q : Nat => s.heap.size ≤ q) s.heap H locs) (hl : lv_has ls 4 [(3, .int (nI (6 * k9))), (2, .ref k0), (1, .ref x), (0, .ref b)]) {v1 : Int32} (h1 : xs (6 * k9 + 1) = v1) (k : W p l e room_1 s m #[Value.ref b] below meth c H locs ce sl (lw_Z below #[Value.ref b] s) (F0 m 266 ls (.int v1 :: .ref x :: rest))) : W p l e room_1 s m #[Value.ref b] below meth c H locs ce sl (lw_Z below #[Value.ref b] s) (F0 m 260 ls (rest)) := by
  obtain ⟨hx, hb, hr, hml, hown, hts1, hX, hbl, hlocks, hgv⟩ := id C0
  have hbA : ¬ (fun q : Nat => s.heap.size ≤ q) b := Nat.not_le.mpr hbl
  refine lv_aload_n hx hb dL_law_260 rfl (lv_at hl 2 rfl) ?_
  refine lv_aload_n hx hb dL_law_261 rfl (lv_at hl 3 rfl) ?_
  refine lv_iload_n hx hb dL_law_262 rfl (lv_at hl 0 rfl) ?_
  refine lv_iconst (v := 1) hx hb dL_law_263 rfl ?_
  refine lv_iadd hx hb dL_law_264 ?_
  refine zz_i (v := nI (6 * k9 + 1)) (nI_add (6 * k9) 1) ?_
  refine va_sld hx hb hX hbl hbA hS (vp_in_nI (n := 6 * k9 + 1) (N := L9) (by omega) (by omega)) dL_law_265 ?_
  refine zz_i (v := v1) ((congrArg xs (nI_clamp (by omega))).trans h1) ?_
  exact k
theorem la_2_2 {p : Program} {e : Env} {s : State} {m : MethodId} {below : List Frame} {meth : Method} {c : Code} (l : Launch) {b L9 : Nat} {xs : Nat → Int32} (C0 : lw_At p s m meth c b L9 xs) {x k0 k9 ce sl : Nat} (hk9 : 6 * k9 + 6 ≤ L9) (hL9 : L9 ≤ 3072) {H : Heap} {locs : List Loc} {ls : Array Slot} {rest : List Value} (hS : va_S (fun q : Nat => s.heap.size ≤ q) s.heap H locs) (hl : lv_has ls 4 [(3, .int (nI (6 * k9))), (2, .ref k0), (1, .ref x), (0, .ref b)]) {v1 : Int32} (h1 : xs (6 * k9 + 1) = v1) (k : W p l e room_1 s m #[Value.ref b] below meth c H locs ce sl (lw_Z below #[Value.ref b] s) (F0 m 276 ls (.int v1 :: .ref k0 :: rest))) : W p l e room_1 s m #[Value.ref b] below meth c H locs ce sl (lw_Z below #[Value.ref b] s) (F0 m 270 ls (rest)) := by
  obtain ⟨hx, hb, hr, hml, hown, hts1, hX, hbl, hlocks, hgv⟩ := id C0
  have hbA : ¬ (fun q : Nat => s.heap.size ≤ q) b := Nat.not_le.mpr hbl
  refine lv_aload_n hx hb dL_law_270 rfl (lv_at hl 1 rfl) ?_
  refine lv_aload_n hx hb dL_law_271 rfl (lv_at hl 3 rfl) ?_
  refine lv_iload_n hx hb dL_law_272 rfl (lv_at hl 0 rfl) ?_
  refine lv_iconst (v := 1) hx hb dL_law_273 rfl ?_
  refine lv_iadd hx hb dL_law_274 ?_
  refine zz_i (v := nI (6 * k9 + 1)) (nI_add (6 * k9) 1) ?_
  refine va_sld hx hb hX hbl hbA hS (vp_in_nI (n := 6 * k9 + 1) (N := L9) (by omega) (by omega)) dL_law_275 ?_
  refine zz_i (v := v1) ((congrArg xs (nI_clamp (by omega))).trans h1) ?_
  exact k
theorem la_3_1 {p : Program} {e : Env} {s : State} {m : MethodId} {below : List Frame} {meth : Method} {c : Code} (l : Launch) {b L9 : Nat} {xs : Nat → Int32} (C0 : lw_At p s m meth c b L9 xs) {x k0 k9 ce sl : Nat} (hk9 : 6 * k9 + 6 ≤ L9) (hL9 : L9 ≤ 3072) {H : Heap} {locs : List Loc} {ls : Array Slot} {rest : List Value} (hS : va_S (fun q : Nat => s.heap.size ≤ q) s.heap H locs) (hl : lv_has ls 4 [(3, .int (nI (6 * k9))), (2, .ref k0), (1, .ref x), (0, .ref b)]) {v1 : Int32} (h1 : xs (6 * k9 + 1) = v1) (k : W p l e room_1 s m #[Value.ref b] below meth c H locs ce sl (lw_Z below #[Value.ref b] s) (F0 m 289 ls (.int v1 :: .ref x :: rest))) : W p l e room_1 s m #[Value.ref b] below meth c H locs ce sl (lw_Z below #[Value.ref b] s) (F0 m 283 ls (rest)) := by
  obtain ⟨hx, hb, hr, hml, hown, hts1, hX, hbl, hlocks, hgv⟩ := id C0
  have hbA : ¬ (fun q : Nat => s.heap.size ≤ q) b := Nat.not_le.mpr hbl
  refine lv_aload_n hx hb dL_law_283 rfl (lv_at hl 2 rfl) ?_
  refine lv_aload_n hx hb dL_law_284 rfl (lv_at hl 3 rfl) ?_
  refine lv_iload_n hx hb dL_law_285 rfl (lv_at hl 0 rfl) ?_
  refine lv_iconst (v := 1) hx hb dL_law_286 rfl ?_
  refine lv_iadd hx hb dL_law_287 ?_
  refine zz_i (v := nI (6 * k9 + 1)) (nI_add (6 * k9) 1) ?_
  refine va_sld hx hb hX hbl hbA hS (vp_in_nI (n := 6 * k9 + 1) (N := L9) (by omega) (by omega)) dL_law_288 ?_
  refine zz_i (v := v1) ((congrArg xs (nI_clamp (by omega))).trans h1) ?_
  exact k
theorem la_3_2 {p : Program} {e : Env} {s : State} {m : MethodId} {below : List Frame} {meth : Method} {c : Code} (l : Launch) {b L9 : Nat} {xs : Nat → Int32} (C0 : lw_At p s m meth c b L9 xs) {x k0 k9 ce sl : Nat} (hk9 : 6 * k9 + 6 ≤ L9) (hL9 : L9 ≤ 3072) {H : Heap} {locs : List Loc} {ls : Array Slot} {rest : List Value} (hS : va_S (fun q : Nat => s.heap.size ≤ q) s.heap H locs) (hl : lv_has ls 4 [(3, .int (nI (6 * k9))), (2, .ref k0), (1, .ref x), (0, .ref b)]) {v1 : Int32} (h1 : xs (6 * k9 + 1) = v1) (k : W p l e room_1 s m #[Value.ref b] below meth c H locs ce sl (lw_Z below #[Value.ref b] s) (F0 m 299 ls (.int v1 :: .ref k0 :: rest))) : W p l e room_1 s m #[Value.ref b] below meth c H locs ce sl (lw_Z below #[Value.ref b] s) (F0 m 293 ls (rest)) := by
  obtain ⟨hx, hb, hr, hml, hown, hts1, hX, hbl, hlocks, hgv⟩ := id C0
  have hbA : ¬ (fun q : Nat => s.heap.size ≤ q) b := Nat.not_le.mpr hbl
  refine lv_aload_n hx hb dL_law_293 rfl (lv_at hl 1 rfl) ?_
  refine lv_aload_n hx hb dL_law_294 rfl (lv_at hl 3 rfl) ?_
  refine lv_iload_n hx hb dL_law_295 rfl (lv_at hl 0 rfl) ?_
  refine lv_iconst (v := 1) hx hb dL_law_296 rfl ?_
  refine lv_iadd hx hb dL_law_297 ?_
  refine zz_i (v := nI (6 * k9 + 1)) (nI_add (6 * k9) 1) ?_
  refine va_sld hx hb hX hbl hbA hS (vp_in_nI (n := 6 * k9 + 1) (N := L9) (by omega) (by omega)) dL_law_298 ?_
  refine zz_i (v := v1) ((congrArg xs (nI_clamp (by omega))).trans h1) ?_
  exact k
theorem la_4_1 {p : Program} {e : Env} {s : State} {m : MethodId} {below : List Frame} {meth : Method} {c : Code} (l : Launch) {b L9 : Nat} {xs : Nat → Int32} (C0 : lw_At p s m meth c b L9 xs) {x k0 k9 ce sl : Nat} (hk9 : 6 * k9 + 6 ≤ L9) (hL9 : L9 ≤ 3072) {H : Heap} {locs : List Loc} {ls : Array Slot} {rest : List Value} (hS : va_S (fun q : Nat => s.heap.size ≤ q) s.heap H locs) (hl : lv_has ls 4 [(3, .int (nI (6 * k9))), (2, .ref k0), (1, .ref x), (0, .ref b)]) {v1 : Int32} {v2 : Int32} (h1 : xs (6 * k9 + 1) = v1) (h2 : xs (6 * k9 + 2) = v2) (k : W p l e room_1 s m #[Value.ref b] below meth c H locs ce sl (lw_Z below #[Value.ref b] s) (F0 m 317 ls (.int v2 :: .int v1 :: .ref x :: rest))) : W p l e room_1 s m #[Value.ref b] below meth c H locs ce sl (lw_Z below #[Value.ref b] s) (F0 m 306 ls (rest)) := by
  obtain ⟨hx, hb, hr, hml, hown, hts1, hX, hbl, hlocks, hgv⟩ := id C0
  have hbA : ¬ (fun q : Nat => s.heap.size ≤ q) b := Nat.not_le.mpr hbl
  refine lv_aload_n hx hb dL_law_306 rfl (lv_at hl 2 rfl) ?_
  refine lv_aload_n hx hb dL_law_307 rfl (lv_at hl 3 rfl) ?_
  refine lv_iload_n hx hb dL_law_308 rfl (lv_at hl 0 rfl) ?_
  refine lv_iconst (v := 1) hx hb dL_law_309 rfl ?_
  refine lv_iadd hx hb dL_law_310 ?_
  refine zz_i (v := nI (6 * k9 + 1)) (nI_add (6 * k9) 1) ?_
  refine va_sld hx hb hX hbl hbA hS (vp_in_nI (n := 6 * k9 + 1) (N := L9) (by omega) (by omega)) dL_law_311 ?_
  refine zz_i (v := v1) ((congrArg xs (nI_clamp (by omega))).trans h1) ?_
  refine lv_aload_n hx hb dL_law_312 rfl (lv_at hl 3 rfl) ?_
  refine lv_iload_n hx hb dL_law_313 rfl (lv_at hl 0 rfl) ?_
  refine lv_iconst (v := 2) hx hb dL_law_314 rfl ?_
  refine lv_iadd hx hb dL_law_315 ?_
  refine zz_i (v := nI (6 * k9 + 2)) (nI_add (6 * k9) 2) ?_
  refine va_sld hx hb hX hbl hbA hS (vp_in_nI (n := 6 * k9 + 2) (N := L9) (by omega) (by omega)) dL_law_316 ?_
  refine zz_i (v := v2) ((congrArg xs (nI_clamp (by omega))).trans h2) ?_
  exact k
theorem la_4_2 {p : Program} {e : Env} {s : State} {m : MethodId} {below : List Frame} {meth : Method} {c : Code} (l : Launch) {b L9 : Nat} {xs : Nat → Int32} (C0 : lw_At p s m meth c b L9 xs) {x k0 k9 ce sl : Nat} (hk9 : 6 * k9 + 6 ≤ L9) (hL9 : L9 ≤ 3072) {H : Heap} {locs : List Loc} {ls : Array Slot} {rest : List Value} (hS : va_S (fun q : Nat => s.heap.size ≤ q) s.heap H locs) (hl : lv_has ls 4 [(3, .int (nI (6 * k9))), (2, .ref k0), (1, .ref x), (0, .ref b)]) {v1 : Int32} {v2 : Int32} (h1 : xs (6 * k9 + 1) = v1) (h2 : xs (6 * k9 + 2) = v2) (k : W p l e room_1 s m #[Value.ref b] below meth c H locs ce sl (lw_Z below #[Value.ref b] s) (F0 m 332 ls (.int v2 :: .int v1 :: .ref k0 :: rest))) : W p l e room_1 s m #[Value.ref b] below meth c H locs ce sl (lw_Z below #[Value.ref b] s) (F0 m 321 ls (rest)) := by
  obtain ⟨hx, hb, hr, hml, hown, hts1, hX, hbl, hlocks, hgv⟩ := id C0
  have hbA : ¬ (fun q : Nat => s.heap.size ≤ q) b := Nat.not_le.mpr hbl
  refine lv_aload_n hx hb dL_law_321 rfl (lv_at hl 1 rfl) ?_
  refine lv_aload_n hx hb dL_law_322 rfl (lv_at hl 3 rfl) ?_
  refine lv_iload_n hx hb dL_law_323 rfl (lv_at hl 0 rfl) ?_
  refine lv_iconst (v := 1) hx hb dL_law_324 rfl ?_
  refine lv_iadd hx hb dL_law_325 ?_
  refine zz_i (v := nI (6 * k9 + 1)) (nI_add (6 * k9) 1) ?_
  refine va_sld hx hb hX hbl hbA hS (vp_in_nI (n := 6 * k9 + 1) (N := L9) (by omega) (by omega)) dL_law_326 ?_
  refine zz_i (v := v1) ((congrArg xs (nI_clamp (by omega))).trans h1) ?_
  refine lv_aload_n hx hb dL_law_327 rfl (lv_at hl 3 rfl) ?_
  refine lv_iload_n hx hb dL_law_328 rfl (lv_at hl 0 rfl) ?_
  refine lv_iconst (v := 2) hx hb dL_law_329 rfl ?_
  refine lv_iadd hx hb dL_law_330 ?_
  refine zz_i (v := nI (6 * k9 + 2)) (nI_add (6 * k9) 2) ?_
  refine va_sld hx hb hX hbl hbA hS (vp_in_nI (n := 6 * k9 + 2) (N := L9) (by omega) (by omega)) dL_law_331 ?_
  refine zz_i (v := v2) ((congrArg xs (nI_clamp (by omega))).trans h2) ?_
  exact k
theorem la_5_1 {p : Program} {e : Env} {s : State} {m : MethodId} {below : List Frame} {meth : Method} {c : Code} (l : Launch) {b L9 : Nat} {xs : Nat → Int32} (C0 : lw_At p s m meth c b L9 xs) {x k0 k9 ce sl : Nat} (hk9 : 6 * k9 + 6 ≤ L9) (hL9 : L9 ≤ 3072) {H : Heap} {locs : List Loc} {ls : Array Slot} {rest : List Value} (hS : va_S (fun q : Nat => s.heap.size ≤ q) s.heap H locs) (hl : lv_has ls 4 [(3, .int (nI (6 * k9))), (2, .ref k0), (1, .ref x), (0, .ref b)]) {v1 : Int32} (h1 : xs (6 * k9 + 1) = v1) (k : W p l e room_1 s m #[Value.ref b] below meth c H locs ce sl (lw_Z below #[Value.ref b] s) (F0 m 345 ls (.int v1 :: .ref x :: rest))) : W p l e room_1 s m #[Value.ref b] below meth c H locs ce sl (lw_Z below #[Value.ref b] s) (F0 m 339 ls (rest)) := by
  obtain ⟨hx, hb, hr, hml, hown, hts1, hX, hbl, hlocks, hgv⟩ := id C0
  have hbA : ¬ (fun q : Nat => s.heap.size ≤ q) b := Nat.not_le.mpr hbl
  refine lv_aload_n hx hb dL_law_339 rfl (lv_at hl 2 rfl) ?_
  refine lv_aload_n hx hb dL_law_340 rfl (lv_at hl 3 rfl) ?_
  refine lv_iload_n hx hb dL_law_341 rfl (lv_at hl 0 rfl) ?_
  refine lv_iconst (v := 1) hx hb dL_law_342 rfl ?_
  refine lv_iadd hx hb dL_law_343 ?_
  refine zz_i (v := nI (6 * k9 + 1)) (nI_add (6 * k9) 1) ?_
  refine va_sld hx hb hX hbl hbA hS (vp_in_nI (n := 6 * k9 + 1) (N := L9) (by omega) (by omega)) dL_law_344 ?_
  refine zz_i (v := v1) ((congrArg xs (nI_clamp (by omega))).trans h1) ?_
  exact k
theorem la_5_2 {p : Program} {e : Env} {s : State} {m : MethodId} {below : List Frame} {meth : Method} {c : Code} (l : Launch) {b L9 : Nat} {xs : Nat → Int32} (C0 : lw_At p s m meth c b L9 xs) {x k0 k9 ce sl : Nat} (hk9 : 6 * k9 + 6 ≤ L9) (hL9 : L9 ≤ 3072) {H : Heap} {locs : List Loc} {ls : Array Slot} {rest : List Value} (hS : va_S (fun q : Nat => s.heap.size ≤ q) s.heap H locs) (hl : lv_has ls 4 [(3, .int (nI (6 * k9))), (2, .ref k0), (1, .ref x), (0, .ref b)]) {v1 : Int32} (h1 : xs (6 * k9 + 1) = v1) (k : W p l e room_1 s m #[Value.ref b] below meth c H locs ce sl (lw_Z below #[Value.ref b] s) (F0 m 355 ls (.int v1 :: .ref k0 :: rest))) : W p l e room_1 s m #[Value.ref b] below meth c H locs ce sl (lw_Z below #[Value.ref b] s) (F0 m 349 ls (rest)) := by
  obtain ⟨hx, hb, hr, hml, hown, hts1, hX, hbl, hlocks, hgv⟩ := id C0
  have hbA : ¬ (fun q : Nat => s.heap.size ≤ q) b := Nat.not_le.mpr hbl
  refine lv_aload_n hx hb dL_law_349 rfl (lv_at hl 1 rfl) ?_
  refine lv_aload_n hx hb dL_law_350 rfl (lv_at hl 3 rfl) ?_
  refine lv_iload_n hx hb dL_law_351 rfl (lv_at hl 0 rfl) ?_
  refine lv_iconst (v := 1) hx hb dL_law_352 rfl ?_
  refine lv_iadd hx hb dL_law_353 ?_
  refine zz_i (v := nI (6 * k9 + 1)) (nI_add (6 * k9) 1) ?_
  refine va_sld hx hb hX hbl hbA hS (vp_in_nI (n := 6 * k9 + 1) (N := L9) (by omega) (by omega)) dL_law_354 ?_
  refine zz_i (v := v1) ((congrArg xs (nI_clamp (by omega))).trans h1) ?_
  exact k
theorem la_6_1 {p : Program} {e : Env} {s : State} {m : MethodId} {below : List Frame} {meth : Method} {c : Code} (l : Launch) {b L9 : Nat} {xs : Nat → Int32} (C0 : lw_At p s m meth c b L9 xs) {x k0 k9 ce sl : Nat} (hk9 : 6 * k9 + 6 ≤ L9) (hL9 : L9 ≤ 3072) {H : Heap} {locs : List Loc} {ls : Array Slot} {rest : List Value} (hS : va_S (fun q : Nat => s.heap.size ≤ q) s.heap H locs) (hl : lv_has ls 4 [(3, .int (nI (6 * k9))), (2, .ref k0), (1, .ref x), (0, .ref b)]) {v1 : Int32} {v2 : Int32} {v3 : Int32} {v4 : Int32} {v5 : Int32} (h1 : xs (6 * k9 + 1) = v1) (h2 : xs (6 * k9 + 2) = v2) (h3 : xs (6 * k9 + 3) = v3) (h4 : xs (6 * k9 + 4) = v4) (h5 : xs (6 * k9 + 5) = v5) (k : W p l e room_1 s m #[Value.ref b] below meth c H locs ce sl (lw_Z below #[Value.ref b] s) (F0 m 388 ls (.int v5 :: .int v4 :: .int v3 :: .int v2 :: .int v1 :: .ref x :: rest))) : W p l e room_1 s m #[Value.ref b] below meth c H locs ce sl (lw_Z below #[Value.ref b] s) (F0 m 362 ls (rest)) := by
  obtain ⟨hx, hb, hr, hml, hown, hts1, hX, hbl, hlocks, hgv⟩ := id C0
  have hbA : ¬ (fun q : Nat => s.heap.size ≤ q) b := Nat.not_le.mpr hbl
  refine lv_aload_n hx hb dL_law_362 rfl (lv_at hl 2 rfl) ?_
  refine lv_aload_n hx hb dL_law_363 rfl (lv_at hl 3 rfl) ?_
  refine lv_iload_n hx hb dL_law_364 rfl (lv_at hl 0 rfl) ?_
  refine lv_iconst (v := 1) hx hb dL_law_365 rfl ?_
  refine lv_iadd hx hb dL_law_366 ?_
  refine zz_i (v := nI (6 * k9 + 1)) (nI_add (6 * k9) 1) ?_
  refine va_sld hx hb hX hbl hbA hS (vp_in_nI (n := 6 * k9 + 1) (N := L9) (by omega) (by omega)) dL_law_367 ?_
  refine zz_i (v := v1) ((congrArg xs (nI_clamp (by omega))).trans h1) ?_
  refine lv_aload_n hx hb dL_law_368 rfl (lv_at hl 3 rfl) ?_
  refine lv_iload_n hx hb dL_law_369 rfl (lv_at hl 0 rfl) ?_
  refine lv_iconst (v := 2) hx hb dL_law_370 rfl ?_
  refine lv_iadd hx hb dL_law_371 ?_
  refine zz_i (v := nI (6 * k9 + 2)) (nI_add (6 * k9) 2) ?_
  refine va_sld hx hb hX hbl hbA hS (vp_in_nI (n := 6 * k9 + 2) (N := L9) (by omega) (by omega)) dL_law_372 ?_
  refine zz_i (v := v2) ((congrArg xs (nI_clamp (by omega))).trans h2) ?_
  refine lv_aload_n hx hb dL_law_373 rfl (lv_at hl 3 rfl) ?_
  refine lv_iload_n hx hb dL_law_374 rfl (lv_at hl 0 rfl) ?_
  refine lv_iconst (v := 3) hx hb dL_law_375 rfl ?_
  refine lv_iadd hx hb dL_law_376 ?_
  refine zz_i (v := nI (6 * k9 + 3)) (nI_add (6 * k9) 3) ?_
  refine va_sld hx hb hX hbl hbA hS (vp_in_nI (n := 6 * k9 + 3) (N := L9) (by omega) (by omega)) dL_law_377 ?_
  refine zz_i (v := v3) ((congrArg xs (nI_clamp (by omega))).trans h3) ?_
  refine lv_aload_n hx hb dL_law_378 rfl (lv_at hl 3 rfl) ?_
  refine lv_iload_n hx hb dL_law_379 rfl (lv_at hl 0 rfl) ?_
  refine lv_iconst (v := 4) hx hb dL_law_380 rfl ?_
  refine lv_iadd hx hb dL_law_381 ?_
  refine zz_i (v := nI (6 * k9 + 4)) (nI_add (6 * k9) 4) ?_
  refine va_sld hx hb hX hbl hbA hS (vp_in_nI (n := 6 * k9 + 4) (N := L9) (by omega) (by omega)) dL_law_382 ?_
  refine zz_i (v := v4) ((congrArg xs (nI_clamp (by omega))).trans h4) ?_
  refine lv_aload_n hx hb dL_law_383 rfl (lv_at hl 3 rfl) ?_
  refine lv_iload_n hx hb dL_law_384 rfl (lv_at hl 0 rfl) ?_
  refine lv_iconst (v := 5) hx hb dL_law_385 rfl ?_
  refine lv_iadd hx hb dL_law_386 ?_
  refine zz_i (v := nI (6 * k9 + 5)) (nI_add (6 * k9) 5) ?_
  refine va_sld hx hb hX hbl hbA hS (vp_in_nI (n := 6 * k9 + 5) (N := L9) (by omega) (by omega)) dL_law_387 ?_
  refine zz_i (v := v5) ((congrArg xs (nI_clamp (by omega))).trans h5) ?_
  exact k
theorem la_6_2 {p : Program} {e : Env} {s : State} {m : MethodId} {below : List Frame} {meth : Method} {c : Code} (l : Launch) {b L9 : Nat} {xs : Nat → Int32} (C0 : lw_At p s m meth c b L9 xs) {x k0 k9 ce sl : Nat} (hk9 : 6 * k9 + 6 ≤ L9) (hL9 : L9 ≤ 3072) {H : Heap} {locs : List Loc} {ls : Array Slot} {rest : List Value} (hS : va_S (fun q : Nat => s.heap.size ≤ q) s.heap H locs) (hl : lv_has ls 4 [(3, .int (nI (6 * k9))), (2, .ref k0), (1, .ref x), (0, .ref b)]) {v1 : Int32} {v2 : Int32} {v3 : Int32} {v4 : Int32} {v5 : Int32} (h1 : xs (6 * k9 + 1) = v1) (h2 : xs (6 * k9 + 2) = v2) (h3 : xs (6 * k9 + 3) = v3) (h4 : xs (6 * k9 + 4) = v4) (h5 : xs (6 * k9 + 5) = v5) (k : W p l e room_1 s m #[Value.ref b] below meth c H locs ce sl (lw_Z below #[Value.ref b] s) (F0 m 418 ls (.int v5 :: .int v4 :: .int v3 :: .int v2 :: .int v1 :: .ref k0 :: rest))) : W p l e room_1 s m #[Value.ref b] below meth c H locs ce sl (lw_Z below #[Value.ref b] s) (F0 m 392 ls (rest)) := by
  obtain ⟨hx, hb, hr, hml, hown, hts1, hX, hbl, hlocks, hgv⟩ := id C0
  have hbA : ¬ (fun q : Nat => s.heap.size ≤ q) b := Nat.not_le.mpr hbl
  refine lv_aload_n hx hb dL_law_392 rfl (lv_at hl 1 rfl) ?_
  refine lv_aload_n hx hb dL_law_393 rfl (lv_at hl 3 rfl) ?_
  refine lv_iload_n hx hb dL_law_394 rfl (lv_at hl 0 rfl) ?_
  refine lv_iconst (v := 1) hx hb dL_law_395 rfl ?_
  refine lv_iadd hx hb dL_law_396 ?_
  refine zz_i (v := nI (6 * k9 + 1)) (nI_add (6 * k9) 1) ?_
  refine va_sld hx hb hX hbl hbA hS (vp_in_nI (n := 6 * k9 + 1) (N := L9) (by omega) (by omega)) dL_law_397 ?_
  refine zz_i (v := v1) ((congrArg xs (nI_clamp (by omega))).trans h1) ?_
  refine lv_aload_n hx hb dL_law_398 rfl (lv_at hl 3 rfl) ?_
  refine lv_iload_n hx hb dL_law_399 rfl (lv_at hl 0 rfl) ?_
  refine lv_iconst (v := 2) hx hb dL_law_400 rfl ?_
  refine lv_iadd hx hb dL_law_401 ?_
  refine zz_i (v := nI (6 * k9 + 2)) (nI_add (6 * k9) 2) ?_
  refine va_sld hx hb hX hbl hbA hS (vp_in_nI (n := 6 * k9 + 2) (N := L9) (by omega) (by omega)) dL_law_402 ?_
  refine zz_i (v := v2) ((congrArg xs (nI_clamp (by omega))).trans h2) ?_
  refine lv_aload_n hx hb dL_law_403 rfl (lv_at hl 3 rfl) ?_
  refine lv_iload_n hx hb dL_law_404 rfl (lv_at hl 0 rfl) ?_
  refine lv_iconst (v := 3) hx hb dL_law_405 rfl ?_
  refine lv_iadd hx hb dL_law_406 ?_
  refine zz_i (v := nI (6 * k9 + 3)) (nI_add (6 * k9) 3) ?_
  refine va_sld hx hb hX hbl hbA hS (vp_in_nI (n := 6 * k9 + 3) (N := L9) (by omega) (by omega)) dL_law_407 ?_
  refine zz_i (v := v3) ((congrArg xs (nI_clamp (by omega))).trans h3) ?_
  refine lv_aload_n hx hb dL_law_408 rfl (lv_at hl 3 rfl) ?_
  refine lv_iload_n hx hb dL_law_409 rfl (lv_at hl 0 rfl) ?_
  refine lv_iconst (v := 4) hx hb dL_law_410 rfl ?_
  refine lv_iadd hx hb dL_law_411 ?_
  refine zz_i (v := nI (6 * k9 + 4)) (nI_add (6 * k9) 4) ?_
  refine va_sld hx hb hX hbl hbA hS (vp_in_nI (n := 6 * k9 + 4) (N := L9) (by omega) (by omega)) dL_law_412 ?_
  refine zz_i (v := v4) ((congrArg xs (nI_clamp (by omega))).trans h4) ?_
  refine lv_aload_n hx hb dL_law_413 rfl (lv_at hl 3 rfl) ?_
  refine lv_iload_n hx hb dL_law_414 rfl (lv_at hl 0 rfl) ?_
  refine lv_iconst (v := 5) hx hb dL_law_415 rfl ?_
  refine lv_iadd hx hb dL_law_416 ?_
  refine zz_i (v := nI (6 * k9 + 5)) (nI_add (6 * k9) 5) ?_
  refine va_sld hx hb hX hbl hbA hS (vp_in_nI (n := 6 * k9 + 5) (N := L9) (by omega) (by omega)) dL_law_417 ?_
  refine zz_i (v := v5) ((congrArg xs (nI_clamp (by omega))).trans h5) ?_
  exact k
theorem la_7_1 {p : Program} {e : Env} {s : State} {m : MethodId} {below : List Frame} {meth : Method} {c : Code} (l : Launch) {b L9 : Nat} {xs : Nat → Int32} (C0 : lw_At p s m meth c b L9 xs) {x k0 k9 ce sl : Nat} (hk9 : 6 * k9 + 6 ≤ L9) (hL9 : L9 ≤ 3072) {H : Heap} {locs : List Loc} {ls : Array Slot} {rest : List Value} (hS : va_S (fun q : Nat => s.heap.size ≤ q) s.heap H locs) (hl : lv_has ls 4 [(3, .int (nI (6 * k9))), (2, .ref k0), (1, .ref x), (0, .ref b)]) {v1 : Int32} (h1 : xs (6 * k9 + 1) = v1) (k : W p l e room_1 s m #[Value.ref b] below meth c H locs ce sl (lw_Z below #[Value.ref b] s) (F0 m 431 ls (.int v1 :: .ref x :: rest))) : W p l e room_1 s m #[Value.ref b] below meth c H locs ce sl (lw_Z below #[Value.ref b] s) (F0 m 425 ls (rest)) := by
  obtain ⟨hx, hb, hr, hml, hown, hts1, hX, hbl, hlocks, hgv⟩ := id C0
  have hbA : ¬ (fun q : Nat => s.heap.size ≤ q) b := Nat.not_le.mpr hbl
  refine lv_aload_n hx hb dL_law_425 rfl (lv_at hl 2 rfl) ?_
  refine lv_aload_n hx hb dL_law_426 rfl (lv_at hl 3 rfl) ?_
  refine lv_iload_n hx hb dL_law_427 rfl (lv_at hl 0 rfl) ?_
  refine lv_iconst (v := 1) hx hb dL_law_428 rfl ?_
  refine lv_iadd hx hb dL_law_429 ?_
  refine zz_i (v := nI (6 * k9 + 1)) (nI_add (6 * k9) 1) ?_
  refine va_sld hx hb hX hbl hbA hS (vp_in_nI (n := 6 * k9 + 1) (N := L9) (by omega) (by omega)) dL_law_430 ?_
  refine zz_i (v := v1) ((congrArg xs (nI_clamp (by omega))).trans h1) ?_
  exact k
theorem la_7_2 {p : Program} {e : Env} {s : State} {m : MethodId} {below : List Frame} {meth : Method} {c : Code} (l : Launch) {b L9 : Nat} {xs : Nat → Int32} (C0 : lw_At p s m meth c b L9 xs) {x k0 k9 ce sl : Nat} (hk9 : 6 * k9 + 6 ≤ L9) (hL9 : L9 ≤ 3072) {H : Heap} {locs : List Loc} {ls : Array Slot} {rest : List Value} (hS : va_S (fun q : Nat => s.heap.size ≤ q) s.heap H locs) (hl : lv_has ls 4 [(3, .int (nI (6 * k9))), (2, .ref k0), (1, .ref x), (0, .ref b)]) {v1 : Int32} (h1 : xs (6 * k9 + 1) = v1) (k : W p l e room_1 s m #[Value.ref b] below meth c H locs ce sl (lw_Z below #[Value.ref b] s) (F0 m 441 ls (.int v1 :: .ref k0 :: rest))) : W p l e room_1 s m #[Value.ref b] below meth c H locs ce sl (lw_Z below #[Value.ref b] s) (F0 m 435 ls (rest)) := by
  obtain ⟨hx, hb, hr, hml, hown, hts1, hX, hbl, hlocks, hgv⟩ := id C0
  have hbA : ¬ (fun q : Nat => s.heap.size ≤ q) b := Nat.not_le.mpr hbl
  refine lv_aload_n hx hb dL_law_435 rfl (lv_at hl 1 rfl) ?_
  refine lv_aload_n hx hb dL_law_436 rfl (lv_at hl 3 rfl) ?_
  refine lv_iload_n hx hb dL_law_437 rfl (lv_at hl 0 rfl) ?_
  refine lv_iconst (v := 1) hx hb dL_law_438 rfl ?_
  refine lv_iadd hx hb dL_law_439 ?_
  refine zz_i (v := nI (6 * k9 + 1)) (nI_add (6 * k9) 1) ?_
  refine va_sld hx hb hX hbl hbA hS (vp_in_nI (n := 6 * k9 + 1) (N := L9) (by omega) (by omega)) dL_law_440 ?_
  refine zz_i (v := v1) ((congrArg xs (nI_clamp (by omega))).trans h1) ?_
  exact k
theorem la_8_1 {p : Program} {e : Env} {s : State} {m : MethodId} {below : List Frame} {meth : Method} {c : Code} (l : Launch) {b L9 : Nat} {xs : Nat → Int32} (C0 : lw_At p s m meth c b L9 xs) {x k0 k9 ce sl : Nat} (hk9 : 6 * k9 + 6 ≤ L9) (hL9 : L9 ≤ 3072) {H : Heap} {locs : List Loc} {ls : Array Slot} {rest : List Value} (hS : va_S (fun q : Nat => s.heap.size ≤ q) s.heap H locs) (hl : lv_has ls 4 [(3, .int (nI (6 * k9))), (2, .ref k0), (1, .ref x), (0, .ref b)]) {v1 : Int32} {v2 : Int32} (h1 : xs (6 * k9 + 1) = v1) (h2 : xs (6 * k9 + 2) = v2) (k : W p l e room_1 s m #[Value.ref b] below meth c H locs ce sl (lw_Z below #[Value.ref b] s) (F0 m 459 ls (.int v2 :: .int v1 :: .ref x :: rest))) : W p l e room_1 s m #[Value.ref b] below meth c H locs ce sl (lw_Z below #[Value.ref b] s) (F0 m 448 ls (rest)) := by
  obtain ⟨hx, hb, hr, hml, hown, hts1, hX, hbl, hlocks, hgv⟩ := id C0
  have hbA : ¬ (fun q : Nat => s.heap.size ≤ q) b := Nat.not_le.mpr hbl
  refine lv_aload_n hx hb dL_law_448 rfl (lv_at hl 2 rfl) ?_
  refine lv_aload_n hx hb dL_law_449 rfl (lv_at hl 3 rfl) ?_
  refine lv_iload_n hx hb dL_law_450 rfl (lv_at hl 0 rfl) ?_
  refine lv_iconst (v := 1) hx hb dL_law_451 rfl ?_
  refine lv_iadd hx hb dL_law_452 ?_
  refine zz_i (v := nI (6 * k9 + 1)) (nI_add (6 * k9) 1) ?_
  refine va_sld hx hb hX hbl hbA hS (vp_in_nI (n := 6 * k9 + 1) (N := L9) (by omega) (by omega)) dL_law_453 ?_
  refine zz_i (v := v1) ((congrArg xs (nI_clamp (by omega))).trans h1) ?_
  refine lv_aload_n hx hb dL_law_454 rfl (lv_at hl 3 rfl) ?_
  refine lv_iload_n hx hb dL_law_455 rfl (lv_at hl 0 rfl) ?_
  refine lv_iconst (v := 2) hx hb dL_law_456 rfl ?_
  refine lv_iadd hx hb dL_law_457 ?_
  refine zz_i (v := nI (6 * k9 + 2)) (nI_add (6 * k9) 2) ?_
  refine va_sld hx hb hX hbl hbA hS (vp_in_nI (n := 6 * k9 + 2) (N := L9) (by omega) (by omega)) dL_law_458 ?_
  refine zz_i (v := v2) ((congrArg xs (nI_clamp (by omega))).trans h2) ?_
  exact k
theorem la_8_2 {p : Program} {e : Env} {s : State} {m : MethodId} {below : List Frame} {meth : Method} {c : Code} (l : Launch) {b L9 : Nat} {xs : Nat → Int32} (C0 : lw_At p s m meth c b L9 xs) {x k0 k9 ce sl : Nat} (hk9 : 6 * k9 + 6 ≤ L9) (hL9 : L9 ≤ 3072) {H : Heap} {locs : List Loc} {ls : Array Slot} {rest : List Value} (hS : va_S (fun q : Nat => s.heap.size ≤ q) s.heap H locs) (hl : lv_has ls 4 [(3, .int (nI (6 * k9))), (2, .ref k0), (1, .ref x), (0, .ref b)]) {v1 : Int32} {v2 : Int32} (h1 : xs (6 * k9 + 1) = v1) (h2 : xs (6 * k9 + 2) = v2) (k : W p l e room_1 s m #[Value.ref b] below meth c H locs ce sl (lw_Z below #[Value.ref b] s) (F0 m 474 ls (.int v2 :: .int v1 :: .ref k0 :: rest))) : W p l e room_1 s m #[Value.ref b] below meth c H locs ce sl (lw_Z below #[Value.ref b] s) (F0 m 463 ls (rest)) := by
  obtain ⟨hx, hb, hr, hml, hown, hts1, hX, hbl, hlocks, hgv⟩ := id C0
  have hbA : ¬ (fun q : Nat => s.heap.size ≤ q) b := Nat.not_le.mpr hbl
  refine lv_aload_n hx hb dL_law_463 rfl (lv_at hl 1 rfl) ?_
  refine lv_aload_n hx hb dL_law_464 rfl (lv_at hl 3 rfl) ?_
  refine lv_iload_n hx hb dL_law_465 rfl (lv_at hl 0 rfl) ?_
  refine lv_iconst (v := 1) hx hb dL_law_466 rfl ?_
  refine lv_iadd hx hb dL_law_467 ?_
  refine zz_i (v := nI (6 * k9 + 1)) (nI_add (6 * k9) 1) ?_
  refine va_sld hx hb hX hbl hbA hS (vp_in_nI (n := 6 * k9 + 1) (N := L9) (by omega) (by omega)) dL_law_468 ?_
  refine zz_i (v := v1) ((congrArg xs (nI_clamp (by omega))).trans h1) ?_
  refine lv_aload_n hx hb dL_law_469 rfl (lv_at hl 3 rfl) ?_
  refine lv_iload_n hx hb dL_law_470 rfl (lv_at hl 0 rfl) ?_
  refine lv_iconst (v := 2) hx hb dL_law_471 rfl ?_
  refine lv_iadd hx hb dL_law_472 ?_
  refine zz_i (v := nI (6 * k9 + 2)) (nI_add (6 * k9) 2) ?_
  refine va_sld hx hb hX hbl hbA hS (vp_in_nI (n := 6 * k9 + 2) (N := L9) (by omega) (by omega)) dL_law_473 ?_
  refine zz_i (v := v2) ((congrArg xs (nI_clamp (by omega))).trans h2) ?_
  exact k
theorem la_9_1 {p : Program} {e : Env} {s : State} {m : MethodId} {below : List Frame} {meth : Method} {c : Code} (l : Launch) {b L9 : Nat} {xs : Nat → Int32} (C0 : lw_At p s m meth c b L9 xs) {x k0 k9 ce sl : Nat} (hk9 : 6 * k9 + 6 ≤ L9) (hL9 : L9 ≤ 3072) {H : Heap} {locs : List Loc} {ls : Array Slot} {rest : List Value} (hS : va_S (fun q : Nat => s.heap.size ≤ q) s.heap H locs) (hl : lv_has ls 4 [(3, .int (nI (6 * k9))), (2, .ref k0), (1, .ref x), (0, .ref b)]) {v1 : Int32} {v2 : Int32} {v3 : Int32} (h1 : xs (6 * k9 + 1) = v1) (h2 : xs (6 * k9 + 2) = v2) (h3 : xs (6 * k9 + 3) = v3) (k : W p l e room_1 s m #[Value.ref b] below meth c H locs ce sl (lw_Z below #[Value.ref b] s) (F0 m 497 ls (.int v3 :: .int v2 :: .int v1 :: .ref x :: rest))) : W p l e room_1 s m #[Value.ref b] below meth c H locs ce sl (lw_Z below #[Value.ref b] s) (F0 m 481 ls (rest)) := by
  obtain ⟨hx, hb, hr, hml, hown, hts1, hX, hbl, hlocks, hgv⟩ := id C0
  have hbA : ¬ (fun q : Nat => s.heap.size ≤ q) b := Nat.not_le.mpr hbl
  refine lv_aload_n hx hb dL_law_481 rfl (lv_at hl 2 rfl) ?_
  refine lv_aload_n hx hb dL_law_482 rfl (lv_at hl 3 rfl) ?_
  refine lv_iload_n hx hb dL_law_483 rfl (lv_at hl 0 rfl) ?_
  refine lv_iconst (v := 1) hx hb dL_law_484 rfl ?_
  refine lv_iadd hx hb dL_law_485 ?_
  refine zz_i (v := nI (6 * k9 + 1)) (nI_add (6 * k9) 1) ?_
  refine va_sld hx hb hX hbl hbA hS (vp_in_nI (n := 6 * k9 + 1) (N := L9) (by omega) (by omega)) dL_law_486 ?_
  refine zz_i (v := v1) ((congrArg xs (nI_clamp (by omega))).trans h1) ?_
  refine lv_aload_n hx hb dL_law_487 rfl (lv_at hl 3 rfl) ?_
  refine lv_iload_n hx hb dL_law_488 rfl (lv_at hl 0 rfl) ?_
  refine lv_iconst (v := 2) hx hb dL_law_489 rfl ?_
  refine lv_iadd hx hb dL_law_490 ?_
  refine zz_i (v := nI (6 * k9 + 2)) (nI_add (6 * k9) 2) ?_
  refine va_sld hx hb hX hbl hbA hS (vp_in_nI (n := 6 * k9 + 2) (N := L9) (by omega) (by omega)) dL_law_491 ?_
  refine zz_i (v := v2) ((congrArg xs (nI_clamp (by omega))).trans h2) ?_
  refine lv_aload_n hx hb dL_law_492 rfl (lv_at hl 3 rfl) ?_
  refine lv_iload_n hx hb dL_law_493 rfl (lv_at hl 0 rfl) ?_
  refine lv_iconst (v := 3) hx hb dL_law_494 rfl ?_
  refine lv_iadd hx hb dL_law_495 ?_
  refine zz_i (v := nI (6 * k9 + 3)) (nI_add (6 * k9) 3) ?_
  refine va_sld hx hb hX hbl hbA hS (vp_in_nI (n := 6 * k9 + 3) (N := L9) (by omega) (by omega)) dL_law_496 ?_
  refine zz_i (v := v3) ((congrArg xs (nI_clamp (by omega))).trans h3) ?_
  exact k
theorem la_9_2 {p : Program} {e : Env} {s : State} {m : MethodId} {below : List Frame} {meth : Method} {c : Code} (l : Launch) {b L9 : Nat} {xs : Nat → Int32} (C0 : lw_At p s m meth c b L9 xs) {x k0 k9 ce sl : Nat} (hk9 : 6 * k9 + 6 ≤ L9) (hL9 : L9 ≤ 3072) {H : Heap} {locs : List Loc} {ls : Array Slot} {rest : List Value} (hS : va_S (fun q : Nat => s.heap.size ≤ q) s.heap H locs) (hl : lv_has ls 4 [(3, .int (nI (6 * k9))), (2, .ref k0), (1, .ref x), (0, .ref b)]) {v1 : Int32} {v2 : Int32} {v3 : Int32} (h1 : xs (6 * k9 + 1) = v1) (h2 : xs (6 * k9 + 2) = v2) (h3 : xs (6 * k9 + 3) = v3) (k : W p l e room_1 s m #[Value.ref b] below meth c H locs ce sl (lw_Z below #[Value.ref b] s) (F0 m 517 ls (.int v3 :: .int v2 :: .int v1 :: .ref k0 :: rest))) : W p l e room_1 s m #[Value.ref b] below meth c H locs ce sl (lw_Z below #[Value.ref b] s) (F0 m 501 ls (rest)) := by
  obtain ⟨hx, hb, hr, hml, hown, hts1, hX, hbl, hlocks, hgv⟩ := id C0
  have hbA : ¬ (fun q : Nat => s.heap.size ≤ q) b := Nat.not_le.mpr hbl
  refine lv_aload_n hx hb dL_law_501 rfl (lv_at hl 1 rfl) ?_
  refine lv_aload_n hx hb dL_law_502 rfl (lv_at hl 3 rfl) ?_
  refine lv_iload_n hx hb dL_law_503 rfl (lv_at hl 0 rfl) ?_
  refine lv_iconst (v := 1) hx hb dL_law_504 rfl ?_
  refine lv_iadd hx hb dL_law_505 ?_
  refine zz_i (v := nI (6 * k9 + 1)) (nI_add (6 * k9) 1) ?_
  refine va_sld hx hb hX hbl hbA hS (vp_in_nI (n := 6 * k9 + 1) (N := L9) (by omega) (by omega)) dL_law_506 ?_
  refine zz_i (v := v1) ((congrArg xs (nI_clamp (by omega))).trans h1) ?_
  refine lv_aload_n hx hb dL_law_507 rfl (lv_at hl 3 rfl) ?_
  refine lv_iload_n hx hb dL_law_508 rfl (lv_at hl 0 rfl) ?_
  refine lv_iconst (v := 2) hx hb dL_law_509 rfl ?_
  refine lv_iadd hx hb dL_law_510 ?_
  refine zz_i (v := nI (6 * k9 + 2)) (nI_add (6 * k9) 2) ?_
  refine va_sld hx hb hX hbl hbA hS (vp_in_nI (n := 6 * k9 + 2) (N := L9) (by omega) (by omega)) dL_law_511 ?_
  refine zz_i (v := v2) ((congrArg xs (nI_clamp (by omega))).trans h2) ?_
  refine lv_aload_n hx hb dL_law_512 rfl (lv_at hl 3 rfl) ?_
  refine lv_iload_n hx hb dL_law_513 rfl (lv_at hl 0 rfl) ?_
  refine lv_iconst (v := 3) hx hb dL_law_514 rfl ?_
  refine lv_iadd hx hb dL_law_515 ?_
  refine zz_i (v := nI (6 * k9 + 3)) (nI_add (6 * k9) 3) ?_
  refine va_sld hx hb hX hbl hbA hS (vp_in_nI (n := 6 * k9 + 3) (N := L9) (by omega) (by omega)) dL_law_516 ?_
  refine zz_i (v := v3) ((congrArg xs (nI_clamp (by omega))).trans h3) ?_
  exact k
theorem la_10_1 {p : Program} {e : Env} {s : State} {m : MethodId} {below : List Frame} {meth : Method} {c : Code} (l : Launch) {b L9 : Nat} {xs : Nat → Int32} (C0 : lw_At p s m meth c b L9 xs) {x k0 k9 ce sl : Nat} (hk9 : 6 * k9 + 6 ≤ L9) (hL9 : L9 ≤ 3072) {H : Heap} {locs : List Loc} {ls : Array Slot} {rest : List Value} (hS : va_S (fun q : Nat => s.heap.size ≤ q) s.heap H locs) (hl : lv_has ls 4 [(3, .int (nI (6 * k9))), (2, .ref k0), (1, .ref x), (0, .ref b)]) {v1 : Int32} (h1 : xs (6 * k9 + 1) = v1) (k : W p l e room_1 s m #[Value.ref b] below meth c H locs ce sl (lw_Z below #[Value.ref b] s) (F0 m 530 ls (.int v1 :: .ref x :: rest))) : W p l e room_1 s m #[Value.ref b] below meth c H locs ce sl (lw_Z below #[Value.ref b] s) (F0 m 524 ls (rest)) := by
  obtain ⟨hx, hb, hr, hml, hown, hts1, hX, hbl, hlocks, hgv⟩ := id C0
  have hbA : ¬ (fun q : Nat => s.heap.size ≤ q) b := Nat.not_le.mpr hbl
  refine lv_aload_n hx hb dL_law_524 rfl (lv_at hl 2 rfl) ?_
  refine lv_aload_n hx hb dL_law_525 rfl (lv_at hl 3 rfl) ?_
  refine lv_iload_n hx hb dL_law_526 rfl (lv_at hl 0 rfl) ?_
  refine lv_iconst (v := 1) hx hb dL_law_527 rfl ?_
  refine lv_iadd hx hb dL_law_528 ?_
  refine zz_i (v := nI (6 * k9 + 1)) (nI_add (6 * k9) 1) ?_
  refine va_sld hx hb hX hbl hbA hS (vp_in_nI (n := 6 * k9 + 1) (N := L9) (by omega) (by omega)) dL_law_529 ?_
  refine zz_i (v := v1) ((congrArg xs (nI_clamp (by omega))).trans h1) ?_
  exact k
theorem la_10_2 {p : Program} {e : Env} {s : State} {m : MethodId} {below : List Frame} {meth : Method} {c : Code} (l : Launch) {b L9 : Nat} {xs : Nat → Int32} (C0 : lw_At p s m meth c b L9 xs) {x k0 k9 ce sl : Nat} (hk9 : 6 * k9 + 6 ≤ L9) (hL9 : L9 ≤ 3072) {H : Heap} {locs : List Loc} {ls : Array Slot} {rest : List Value} (hS : va_S (fun q : Nat => s.heap.size ≤ q) s.heap H locs) (hl : lv_has ls 4 [(3, .int (nI (6 * k9))), (2, .ref k0), (1, .ref x), (0, .ref b)]) {v1 : Int32} (h1 : xs (6 * k9 + 1) = v1) (k : W p l e room_1 s m #[Value.ref b] below meth c H locs ce sl (lw_Z below #[Value.ref b] s) (F0 m 540 ls (.int v1 :: .ref k0 :: rest))) : W p l e room_1 s m #[Value.ref b] below meth c H locs ce sl (lw_Z below #[Value.ref b] s) (F0 m 534 ls (rest)) := by
  obtain ⟨hx, hb, hr, hml, hown, hts1, hX, hbl, hlocks, hgv⟩ := id C0
  have hbA : ¬ (fun q : Nat => s.heap.size ≤ q) b := Nat.not_le.mpr hbl
  refine lv_aload_n hx hb dL_law_534 rfl (lv_at hl 1 rfl) ?_
  refine lv_aload_n hx hb dL_law_535 rfl (lv_at hl 3 rfl) ?_
  refine lv_iload_n hx hb dL_law_536 rfl (lv_at hl 0 rfl) ?_
  refine lv_iconst (v := 1) hx hb dL_law_537 rfl ?_
  refine lv_iadd hx hb dL_law_538 ?_
  refine zz_i (v := nI (6 * k9 + 1)) (nI_add (6 * k9) 1) ?_
  refine va_sld hx hb hX hbl hbA hS (vp_in_nI (n := 6 * k9 + 1) (N := L9) (by omega) (by omega)) dL_law_539 ?_
  refine zz_i (v := v1) ((congrArg xs (nI_clamp (by omega))).trans h1) ?_
  exact k
theorem la_11_1 {p : Program} {e : Env} {s : State} {m : MethodId} {below : List Frame} {meth : Method} {c : Code} (l : Launch) {b L9 : Nat} {xs : Nat → Int32} (C0 : lw_At p s m meth c b L9 xs) {x k0 k9 ce sl : Nat} (hk9 : 6 * k9 + 6 ≤ L9) (hL9 : L9 ≤ 3072) {H : Heap} {locs : List Loc} {ls : Array Slot} {rest : List Value} (hS : va_S (fun q : Nat => s.heap.size ≤ q) s.heap H locs) (hl : lv_has ls 4 [(3, .int (nI (6 * k9))), (2, .ref k0), (1, .ref x), (0, .ref b)]) {v1 : Int32} {v2 : Int32} (h1 : xs (6 * k9 + 1) = v1) (h2 : xs (6 * k9 + 2) = v2) (k : W p l e room_1 s m #[Value.ref b] below meth c H locs ce sl (lw_Z below #[Value.ref b] s) (F0 m 558 ls (.int v2 :: .int v1 :: .ref x :: rest))) : W p l e room_1 s m #[Value.ref b] below meth c H locs ce sl (lw_Z below #[Value.ref b] s) (F0 m 547 ls (rest)) := by
  obtain ⟨hx, hb, hr, hml, hown, hts1, hX, hbl, hlocks, hgv⟩ := id C0
  have hbA : ¬ (fun q : Nat => s.heap.size ≤ q) b := Nat.not_le.mpr hbl
  refine lv_aload_n hx hb dL_law_547 rfl (lv_at hl 2 rfl) ?_
  refine lv_aload_n hx hb dL_law_548 rfl (lv_at hl 3 rfl) ?_
  refine lv_iload_n hx hb dL_law_549 rfl (lv_at hl 0 rfl) ?_
  refine lv_iconst (v := 1) hx hb dL_law_550 rfl ?_
  refine lv_iadd hx hb dL_law_551 ?_
  refine zz_i (v := nI (6 * k9 + 1)) (nI_add (6 * k9) 1) ?_
  refine va_sld hx hb hX hbl hbA hS (vp_in_nI (n := 6 * k9 + 1) (N := L9) (by omega) (by omega)) dL_law_552 ?_
  refine zz_i (v := v1) ((congrArg xs (nI_clamp (by omega))).trans h1) ?_
  refine lv_aload_n hx hb dL_law_553 rfl (lv_at hl 3 rfl) ?_
  refine lv_iload_n hx hb dL_law_554 rfl (lv_at hl 0 rfl) ?_
  refine lv_iconst (v := 2) hx hb dL_law_555 rfl ?_
  refine lv_iadd hx hb dL_law_556 ?_
  refine zz_i (v := nI (6 * k9 + 2)) (nI_add (6 * k9) 2) ?_
  refine va_sld hx hb hX hbl hbA hS (vp_in_nI (n := 6 * k9 + 2) (N := L9) (by omega) (by omega)) dL_law_557 ?_
  refine zz_i (v := v2) ((congrArg xs (nI_clamp (by omega))).trans h2) ?_
  exact k
theorem la_11_2 {p : Program} {e : Env} {s : State} {m : MethodId} {below : List Frame} {meth : Method} {c : Code} (l : Launch) {b L9 : Nat} {xs : Nat → Int32} (C0 : lw_At p s m meth c b L9 xs) {x k0 k9 ce sl : Nat} (hk9 : 6 * k9 + 6 ≤ L9) (hL9 : L9 ≤ 3072) {H : Heap} {locs : List Loc} {ls : Array Slot} {rest : List Value} (hS : va_S (fun q : Nat => s.heap.size ≤ q) s.heap H locs) (hl : lv_has ls 4 [(3, .int (nI (6 * k9))), (2, .ref k0), (1, .ref x), (0, .ref b)]) {v1 : Int32} {v2 : Int32} (h1 : xs (6 * k9 + 1) = v1) (h2 : xs (6 * k9 + 2) = v2) (k : W p l e room_1 s m #[Value.ref b] below meth c H locs ce sl (lw_Z below #[Value.ref b] s) (F0 m 573 ls (.int v2 :: .int v1 :: .ref k0 :: rest))) : W p l e room_1 s m #[Value.ref b] below meth c H locs ce sl (lw_Z below #[Value.ref b] s) (F0 m 562 ls (rest)) := by
  obtain ⟨hx, hb, hr, hml, hown, hts1, hX, hbl, hlocks, hgv⟩ := id C0
  have hbA : ¬ (fun q : Nat => s.heap.size ≤ q) b := Nat.not_le.mpr hbl
  refine lv_aload_n hx hb dL_law_562 rfl (lv_at hl 1 rfl) ?_
  refine lv_aload_n hx hb dL_law_563 rfl (lv_at hl 3 rfl) ?_
  refine lv_iload_n hx hb dL_law_564 rfl (lv_at hl 0 rfl) ?_
  refine lv_iconst (v := 1) hx hb dL_law_565 rfl ?_
  refine lv_iadd hx hb dL_law_566 ?_
  refine zz_i (v := nI (6 * k9 + 1)) (nI_add (6 * k9) 1) ?_
  refine va_sld hx hb hX hbl hbA hS (vp_in_nI (n := 6 * k9 + 1) (N := L9) (by omega) (by omega)) dL_law_567 ?_
  refine zz_i (v := v1) ((congrArg xs (nI_clamp (by omega))).trans h1) ?_
  refine lv_aload_n hx hb dL_law_568 rfl (lv_at hl 3 rfl) ?_
  refine lv_iload_n hx hb dL_law_569 rfl (lv_at hl 0 rfl) ?_
  refine lv_iconst (v := 2) hx hb dL_law_570 rfl ?_
  refine lv_iadd hx hb dL_law_571 ?_
  refine zz_i (v := nI (6 * k9 + 2)) (nI_add (6 * k9) 2) ?_
  refine va_sld hx hb hX hbl hbA hS (vp_in_nI (n := 6 * k9 + 2) (N := L9) (by omega) (by omega)) dL_law_572 ?_
  refine zz_i (v := v2) ((congrArg xs (nI_clamp (by omega))).trans h2) ?_
  exact k
theorem la_12_1 {p : Program} {e : Env} {s : State} {m : MethodId} {below : List Frame} {meth : Method} {c : Code} (l : Launch) {b L9 : Nat} {xs : Nat → Int32} (C0 : lw_At p s m meth c b L9 xs) {x k0 k9 ce sl : Nat} (hk9 : 6 * k9 + 6 ≤ L9) (hL9 : L9 ≤ 3072) {H : Heap} {locs : List Loc} {ls : Array Slot} {rest : List Value} (hS : va_S (fun q : Nat => s.heap.size ≤ q) s.heap H locs) (hl : lv_has ls 4 [(3, .int (nI (6 * k9))), (2, .ref k0), (1, .ref x), (0, .ref b)]) (k : W p l e room_1 s m #[Value.ref b] below meth c H locs ce sl (lw_Z below #[Value.ref b] s) (F0 m 581 ls (.ref x :: rest))) : W p l e room_1 s m #[Value.ref b] below meth c H locs ce sl (lw_Z below #[Value.ref b] s) (F0 m 580 ls (rest)) := by
  obtain ⟨hx, hb, hr, hml, hown, hts1, hX, hbl, hlocks, hgv⟩ := id C0
  have hbA : ¬ (fun q : Nat => s.heap.size ≤ q) b := Nat.not_le.mpr hbl
  refine lv_aload_n hx hb dL_law_580 rfl (lv_at hl 2 rfl) ?_
  exact k
theorem la_12_2 {p : Program} {e : Env} {s : State} {m : MethodId} {below : List Frame} {meth : Method} {c : Code} (l : Launch) {b L9 : Nat} {xs : Nat → Int32} (C0 : lw_At p s m meth c b L9 xs) {x k0 k9 ce sl : Nat} (hk9 : 6 * k9 + 6 ≤ L9) (hL9 : L9 ≤ 3072) {H : Heap} {locs : List Loc} {ls : Array Slot} {rest : List Value} (hS : va_S (fun q : Nat => s.heap.size ≤ q) s.heap H locs) (hl : lv_has ls 4 [(3, .int (nI (6 * k9))), (2, .ref k0), (1, .ref x), (0, .ref b)]) (k : W p l e room_1 s m #[Value.ref b] below meth c H locs ce sl (lw_Z below #[Value.ref b] s) (F0 m 586 ls (.ref k0 :: rest))) : W p l e room_1 s m #[Value.ref b] below meth c H locs ce sl (lw_Z below #[Value.ref b] s) (F0 m 585 ls (rest)) := by
  obtain ⟨hx, hb, hr, hml, hown, hts1, hX, hbl, hlocks, hgv⟩ := id C0
  have hbA : ¬ (fun q : Nat => s.heap.size ≤ q) b := Nat.not_le.mpr hbl
  refine lv_aload_n hx hb dL_law_585 rfl (lv_at hl 1 rfl) ?_
  exact k
theorem la_13_1 {p : Program} {e : Env} {s : State} {m : MethodId} {below : List Frame} {meth : Method} {c : Code} (l : Launch) {b L9 : Nat} {xs : Nat → Int32} (C0 : lw_At p s m meth c b L9 xs) {x k0 k9 ce sl : Nat} (hk9 : 6 * k9 + 6 ≤ L9) (hL9 : L9 ≤ 3072) {H : Heap} {locs : List Loc} {ls : Array Slot} {rest : List Value} (hS : va_S (fun q : Nat => s.heap.size ≤ q) s.heap H locs) (hl : lv_has ls 4 [(3, .int (nI (6 * k9))), (2, .ref k0), (1, .ref x), (0, .ref b)]) {v1 : Int32} (h1 : xs (6 * k9 + 1) = v1) (k : W p l e room_1 s m #[Value.ref b] below meth c H locs ce sl (lw_Z below #[Value.ref b] s) (F0 m 599 ls (.int v1 :: .ref x :: rest))) : W p l e room_1 s m #[Value.ref b] below meth c H locs ce sl (lw_Z below #[Value.ref b] s) (F0 m 593 ls (rest)) := by
  obtain ⟨hx, hb, hr, hml, hown, hts1, hX, hbl, hlocks, hgv⟩ := id C0
  have hbA : ¬ (fun q : Nat => s.heap.size ≤ q) b := Nat.not_le.mpr hbl
  refine lv_aload_n hx hb dL_law_593 rfl (lv_at hl 2 rfl) ?_
  refine lv_aload_n hx hb dL_law_594 rfl (lv_at hl 3 rfl) ?_
  refine lv_iload_n hx hb dL_law_595 rfl (lv_at hl 0 rfl) ?_
  refine lv_iconst (v := 1) hx hb dL_law_596 rfl ?_
  refine lv_iadd hx hb dL_law_597 ?_
  refine zz_i (v := nI (6 * k9 + 1)) (nI_add (6 * k9) 1) ?_
  refine va_sld hx hb hX hbl hbA hS (vp_in_nI (n := 6 * k9 + 1) (N := L9) (by omega) (by omega)) dL_law_598 ?_
  refine zz_i (v := v1) ((congrArg xs (nI_clamp (by omega))).trans h1) ?_
  exact k
theorem la_13_2 {p : Program} {e : Env} {s : State} {m : MethodId} {below : List Frame} {meth : Method} {c : Code} (l : Launch) {b L9 : Nat} {xs : Nat → Int32} (C0 : lw_At p s m meth c b L9 xs) {x k0 k9 ce sl : Nat} (hk9 : 6 * k9 + 6 ≤ L9) (hL9 : L9 ≤ 3072) {H : Heap} {locs : List Loc} {ls : Array Slot} {rest : List Value} (hS : va_S (fun q : Nat => s.heap.size ≤ q) s.heap H locs) (hl : lv_has ls 4 [(3, .int (nI (6 * k9))), (2, .ref k0), (1, .ref x), (0, .ref b)]) {v1 : Int32} (h1 : xs (6 * k9 + 1) = v1) (k : W p l e room_1 s m #[Value.ref b] below meth c H locs ce sl (lw_Z below #[Value.ref b] s) (F0 m 609 ls (.int v1 :: .ref k0 :: rest))) : W p l e room_1 s m #[Value.ref b] below meth c H locs ce sl (lw_Z below #[Value.ref b] s) (F0 m 603 ls (rest)) := by
  obtain ⟨hx, hb, hr, hml, hown, hts1, hX, hbl, hlocks, hgv⟩ := id C0
  have hbA : ¬ (fun q : Nat => s.heap.size ≤ q) b := Nat.not_le.mpr hbl
  refine lv_aload_n hx hb dL_law_603 rfl (lv_at hl 1 rfl) ?_
  refine lv_aload_n hx hb dL_law_604 rfl (lv_at hl 3 rfl) ?_
  refine lv_iload_n hx hb dL_law_605 rfl (lv_at hl 0 rfl) ?_
  refine lv_iconst (v := 1) hx hb dL_law_606 rfl ?_
  refine lv_iadd hx hb dL_law_607 ?_
  refine zz_i (v := nI (6 * k9 + 1)) (nI_add (6 * k9) 1) ?_
  refine va_sld hx hb hX hbl hbA hS (vp_in_nI (n := 6 * k9 + 1) (N := L9) (by omega) (by omega)) dL_law_608 ?_
  refine zz_i (v := v1) ((congrArg xs (nI_clamp (by omega))).trans h1) ?_
  exact k
theorem la_14_1 {p : Program} {e : Env} {s : State} {m : MethodId} {below : List Frame} {meth : Method} {c : Code} (l : Launch) {b L9 : Nat} {xs : Nat → Int32} (C0 : lw_At p s m meth c b L9 xs) {x k0 k9 ce sl : Nat} (hk9 : 6 * k9 + 6 ≤ L9) (hL9 : L9 ≤ 3072) {H : Heap} {locs : List Loc} {ls : Array Slot} {rest : List Value} (hS : va_S (fun q : Nat => s.heap.size ≤ q) s.heap H locs) (hl : lv_has ls 4 [(3, .int (nI (6 * k9))), (2, .ref k0), (1, .ref x), (0, .ref b)]) (k : W p l e room_1 s m #[Value.ref b] below meth c H locs ce sl (lw_Z below #[Value.ref b] s) (F0 m 617 ls (.ref x :: rest))) : W p l e room_1 s m #[Value.ref b] below meth c H locs ce sl (lw_Z below #[Value.ref b] s) (F0 m 616 ls (rest)) := by
  obtain ⟨hx, hb, hr, hml, hown, hts1, hX, hbl, hlocks, hgv⟩ := id C0
  have hbA : ¬ (fun q : Nat => s.heap.size ≤ q) b := Nat.not_le.mpr hbl
  refine lv_aload_n hx hb dL_law_616 rfl (lv_at hl 2 rfl) ?_
  exact k
theorem la_14_2 {p : Program} {e : Env} {s : State} {m : MethodId} {below : List Frame} {meth : Method} {c : Code} (l : Launch) {b L9 : Nat} {xs : Nat → Int32} (C0 : lw_At p s m meth c b L9 xs) {x k0 k9 ce sl : Nat} (hk9 : 6 * k9 + 6 ≤ L9) (hL9 : L9 ≤ 3072) {H : Heap} {locs : List Loc} {ls : Array Slot} {rest : List Value} (hS : va_S (fun q : Nat => s.heap.size ≤ q) s.heap H locs) (hl : lv_has ls 4 [(3, .int (nI (6 * k9))), (2, .ref k0), (1, .ref x), (0, .ref b)]) (k : W p l e room_1 s m #[Value.ref b] below meth c H locs ce sl (lw_Z below #[Value.ref b] s) (F0 m 622 ls (.ref k0 :: rest))) : W p l e room_1 s m #[Value.ref b] below meth c H locs ce sl (lw_Z below #[Value.ref b] s) (F0 m 621 ls (rest)) := by
  obtain ⟨hx, hb, hr, hml, hown, hts1, hX, hbl, hlocks, hgv⟩ := id C0
  have hbA : ¬ (fun q : Nat => s.heap.size ≤ q) b := Nat.not_le.mpr hbl
  refine lv_aload_n hx hb dL_law_621 rfl (lv_at hl 1 rfl) ?_
  exact k
theorem la_15_1 {p : Program} {e : Env} {s : State} {m : MethodId} {below : List Frame} {meth : Method} {c : Code} (l : Launch) {b L9 : Nat} {xs : Nat → Int32} (C0 : lw_At p s m meth c b L9 xs) {x k0 k9 ce sl : Nat} (hk9 : 6 * k9 + 6 ≤ L9) (hL9 : L9 ≤ 3072) {H : Heap} {locs : List Loc} {ls : Array Slot} {rest : List Value} (hS : va_S (fun q : Nat => s.heap.size ≤ q) s.heap H locs) (hl : lv_has ls 4 [(3, .int (nI (6 * k9))), (2, .ref k0), (1, .ref x), (0, .ref b)]) (k : W p l e room_1 s m #[Value.ref b] below meth c H locs ce sl (lw_Z below #[Value.ref b] s) (F0 m 630 ls (.ref x :: rest))) : W p l e room_1 s m #[Value.ref b] below meth c H locs ce sl (lw_Z below #[Value.ref b] s) (F0 m 629 ls (rest)) := by
  obtain ⟨hx, hb, hr, hml, hown, hts1, hX, hbl, hlocks, hgv⟩ := id C0
  have hbA : ¬ (fun q : Nat => s.heap.size ≤ q) b := Nat.not_le.mpr hbl
  refine lv_aload_n hx hb dL_law_629 rfl (lv_at hl 2 rfl) ?_
  exact k
theorem la_15_2 {p : Program} {e : Env} {s : State} {m : MethodId} {below : List Frame} {meth : Method} {c : Code} (l : Launch) {b L9 : Nat} {xs : Nat → Int32} (C0 : lw_At p s m meth c b L9 xs) {x k0 k9 ce sl : Nat} (hk9 : 6 * k9 + 6 ≤ L9) (hL9 : L9 ≤ 3072) {H : Heap} {locs : List Loc} {ls : Array Slot} {rest : List Value} (hS : va_S (fun q : Nat => s.heap.size ≤ q) s.heap H locs) (hl : lv_has ls 4 [(3, .int (nI (6 * k9))), (2, .ref k0), (1, .ref x), (0, .ref b)]) (k : W p l e room_1 s m #[Value.ref b] below meth c H locs ce sl (lw_Z below #[Value.ref b] s) (F0 m 635 ls (.ref k0 :: rest))) : W p l e room_1 s m #[Value.ref b] below meth c H locs ce sl (lw_Z below #[Value.ref b] s) (F0 m 634 ls (rest)) := by
  obtain ⟨hx, hb, hr, hml, hown, hts1, hX, hbl, hlocks, hgv⟩ := id C0
  have hbA : ¬ (fun q : Nat => s.heap.size ≤ q) b := Nat.not_le.mpr hbl
  refine lv_aload_n hx hb dL_law_634 rfl (lv_at hl 1 rfl) ?_
  exact k
theorem la_16_1 {p : Program} {e : Env} {s : State} {m : MethodId} {below : List Frame} {meth : Method} {c : Code} (l : Launch) {b L9 : Nat} {xs : Nat → Int32} (C0 : lw_At p s m meth c b L9 xs) {x k0 k9 ce sl : Nat} (hk9 : 6 * k9 + 6 ≤ L9) (hL9 : L9 ≤ 3072) {H : Heap} {locs : List Loc} {ls : Array Slot} {rest : List Value} (hS : va_S (fun q : Nat => s.heap.size ≤ q) s.heap H locs) (hl : lv_has ls 4 [(3, .int (nI (6 * k9))), (2, .ref k0), (1, .ref x), (0, .ref b)]) {v1 : Int32} {v2 : Int32} (h1 : xs (6 * k9 + 1) = v1) (h2 : xs (6 * k9 + 2) = v2) (k : W p l e room_1 s m #[Value.ref b] below meth c H locs ce sl (lw_Z below #[Value.ref b] s) (F0 m 653 ls (.int v2 :: .int v1 :: .ref x :: rest))) : W p l e room_1 s m #[Value.ref b] below meth c H locs ce sl (lw_Z below #[Value.ref b] s) (F0 m 642 ls (rest)) := by
  obtain ⟨hx, hb, hr, hml, hown, hts1, hX, hbl, hlocks, hgv⟩ := id C0
  have hbA : ¬ (fun q : Nat => s.heap.size ≤ q) b := Nat.not_le.mpr hbl
  refine lv_aload_n hx hb dL_law_642 rfl (lv_at hl 2 rfl) ?_
  refine lv_aload_n hx hb dL_law_643 rfl (lv_at hl 3 rfl) ?_
  refine lv_iload_n hx hb dL_law_644 rfl (lv_at hl 0 rfl) ?_
  refine lv_iconst (v := 1) hx hb dL_law_645 rfl ?_
  refine lv_iadd hx hb dL_law_646 ?_
  refine zz_i (v := nI (6 * k9 + 1)) (nI_add (6 * k9) 1) ?_
  refine va_sld hx hb hX hbl hbA hS (vp_in_nI (n := 6 * k9 + 1) (N := L9) (by omega) (by omega)) dL_law_647 ?_
  refine zz_i (v := v1) ((congrArg xs (nI_clamp (by omega))).trans h1) ?_
  refine lv_aload_n hx hb dL_law_648 rfl (lv_at hl 3 rfl) ?_
  refine lv_iload_n hx hb dL_law_649 rfl (lv_at hl 0 rfl) ?_
  refine lv_iconst (v := 2) hx hb dL_law_650 rfl ?_
  refine lv_iadd hx hb dL_law_651 ?_
  refine zz_i (v := nI (6 * k9 + 2)) (nI_add (6 * k9) 2) ?_
  refine va_sld hx hb hX hbl hbA hS (vp_in_nI (n := 6 * k9 + 2) (N := L9) (by omega) (by omega)) dL_law_652 ?_
  refine zz_i (v := v2) ((congrArg xs (nI_clamp (by omega))).trans h2) ?_
  exact k
theorem la_16_2 {p : Program} {e : Env} {s : State} {m : MethodId} {below : List Frame} {meth : Method} {c : Code} (l : Launch) {b L9 : Nat} {xs : Nat → Int32} (C0 : lw_At p s m meth c b L9 xs) {x k0 k9 ce sl : Nat} (hk9 : 6 * k9 + 6 ≤ L9) (hL9 : L9 ≤ 3072) {H : Heap} {locs : List Loc} {ls : Array Slot} {rest : List Value} (hS : va_S (fun q : Nat => s.heap.size ≤ q) s.heap H locs) (hl : lv_has ls 4 [(3, .int (nI (6 * k9))), (2, .ref k0), (1, .ref x), (0, .ref b)]) {v1 : Int32} {v2 : Int32} (h1 : xs (6 * k9 + 1) = v1) (h2 : xs (6 * k9 + 2) = v2) (k : W p l e room_1 s m #[Value.ref b] below meth c H locs ce sl (lw_Z below #[Value.ref b] s) (F0 m 668 ls (.int v2 :: .int v1 :: .ref k0 :: rest))) : W p l e room_1 s m #[Value.ref b] below meth c H locs ce sl (lw_Z below #[Value.ref b] s) (F0 m 657 ls (rest)) := by
  obtain ⟨hx, hb, hr, hml, hown, hts1, hX, hbl, hlocks, hgv⟩ := id C0
  have hbA : ¬ (fun q : Nat => s.heap.size ≤ q) b := Nat.not_le.mpr hbl
  refine lv_aload_n hx hb dL_law_657 rfl (lv_at hl 1 rfl) ?_
  refine lv_aload_n hx hb dL_law_658 rfl (lv_at hl 3 rfl) ?_
  refine lv_iload_n hx hb dL_law_659 rfl (lv_at hl 0 rfl) ?_
  refine lv_iconst (v := 1) hx hb dL_law_660 rfl ?_
  refine lv_iadd hx hb dL_law_661 ?_
  refine zz_i (v := nI (6 * k9 + 1)) (nI_add (6 * k9) 1) ?_
  refine va_sld hx hb hX hbl hbA hS (vp_in_nI (n := 6 * k9 + 1) (N := L9) (by omega) (by omega)) dL_law_662 ?_
  refine zz_i (v := v1) ((congrArg xs (nI_clamp (by omega))).trans h1) ?_
  refine lv_aload_n hx hb dL_law_663 rfl (lv_at hl 3 rfl) ?_
  refine lv_iload_n hx hb dL_law_664 rfl (lv_at hl 0 rfl) ?_
  refine lv_iconst (v := 2) hx hb dL_law_665 rfl ?_
  refine lv_iadd hx hb dL_law_666 ?_
  refine zz_i (v := nI (6 * k9 + 2)) (nI_add (6 * k9) 2) ?_
  refine va_sld hx hb hX hbl hbA hS (vp_in_nI (n := 6 * k9 + 2) (N := L9) (by omega) (by omega)) dL_law_667 ?_
  refine zz_i (v := v2) ((congrArg xs (nI_clamp (by omega))).trans h2) ?_
  exact k
theorem la_17_1 {p : Program} {e : Env} {s : State} {m : MethodId} {below : List Frame} {meth : Method} {c : Code} (l : Launch) {b L9 : Nat} {xs : Nat → Int32} (C0 : lw_At p s m meth c b L9 xs) {x k0 k9 ce sl : Nat} (hk9 : 6 * k9 + 6 ≤ L9) (hL9 : L9 ≤ 3072) {H : Heap} {locs : List Loc} {ls : Array Slot} {rest : List Value} (hS : va_S (fun q : Nat => s.heap.size ≤ q) s.heap H locs) (hl : lv_has ls 4 [(3, .int (nI (6 * k9))), (2, .ref k0), (1, .ref x), (0, .ref b)]) {v1 : Int32} {v2 : Int32} {v3 : Int32} (h1 : xs (6 * k9 + 1) = v1) (h2 : xs (6 * k9 + 2) = v2) (h3 : xs (6 * k9 + 3) = v3) (k : W p l e room_1 s m #[Value.ref b] below meth c H locs ce sl (lw_Z below #[Value.ref b] s) (F0 m 691 ls (.int v3 :: .int v2 :: .int v1 :: .ref x :: rest))) : W p l e room_1 s m #[Value.ref b] below meth c H locs ce sl (lw_Z below #[Value.ref b] s) (F0 m 675 ls (rest)) := by
  obtain ⟨hx, hb, hr, hml, hown, hts1, hX, hbl, hlocks, hgv⟩ := id C0
  have hbA : ¬ (fun q : Nat => s.heap.size ≤ q) b := Nat.not_le.mpr hbl
  refine lv_aload_n hx hb dL_law_675 rfl (lv_at hl 2 rfl) ?_
  refine lv_aload_n hx hb dL_law_676 rfl (lv_at hl 3 rfl) ?_
  refine lv_iload_n hx hb dL_law_677 rfl (lv_at hl 0 rfl) ?_
  refine lv_iconst (v := 1) hx hb dL_law_678 rfl ?_
  refine lv_iadd hx hb dL_law_679 ?_
  refine zz_i (v := nI (6 * k9 + 1)) (nI_add (6 * k9) 1) ?_
  refine va_sld hx hb hX hbl hbA hS (vp_in_nI (n := 6 * k9 + 1) (N := L9) (by omega) (by omega)) dL_law_680 ?_
  refine zz_i (v := v1) ((congrArg xs (nI_clamp (by omega))).trans h1) ?_
  refine lv_aload_n hx hb dL_law_681 rfl (lv_at hl 3 rfl) ?_
  refine lv_iload_n hx hb dL_law_682 rfl (lv_at hl 0 rfl) ?_
  refine lv_iconst (v := 2) hx hb dL_law_683 rfl ?_
  refine lv_iadd hx hb dL_law_684 ?_
  refine zz_i (v := nI (6 * k9 + 2)) (nI_add (6 * k9) 2) ?_
  refine va_sld hx hb hX hbl hbA hS (vp_in_nI (n := 6 * k9 + 2) (N := L9) (by omega) (by omega)) dL_law_685 ?_
  refine zz_i (v := v2) ((congrArg xs (nI_clamp (by omega))).trans h2) ?_
  refine lv_aload_n hx hb dL_law_686 rfl (lv_at hl 3 rfl) ?_
  refine lv_iload_n hx hb dL_law_687 rfl (lv_at hl 0 rfl) ?_
  refine lv_iconst (v := 3) hx hb dL_law_688 rfl ?_
  refine lv_iadd hx hb dL_law_689 ?_
  refine zz_i (v := nI (6 * k9 + 3)) (nI_add (6 * k9) 3) ?_
  refine va_sld hx hb hX hbl hbA hS (vp_in_nI (n := 6 * k9 + 3) (N := L9) (by omega) (by omega)) dL_law_690 ?_
  refine zz_i (v := v3) ((congrArg xs (nI_clamp (by omega))).trans h3) ?_
  exact k
theorem la_17_2 {p : Program} {e : Env} {s : State} {m : MethodId} {below : List Frame} {meth : Method} {c : Code} (l : Launch) {b L9 : Nat} {xs : Nat → Int32} (C0 : lw_At p s m meth c b L9 xs) {x k0 k9 ce sl : Nat} (hk9 : 6 * k9 + 6 ≤ L9) (hL9 : L9 ≤ 3072) {H : Heap} {locs : List Loc} {ls : Array Slot} {rest : List Value} (hS : va_S (fun q : Nat => s.heap.size ≤ q) s.heap H locs) (hl : lv_has ls 4 [(3, .int (nI (6 * k9))), (2, .ref k0), (1, .ref x), (0, .ref b)]) {v1 : Int32} {v2 : Int32} {v3 : Int32} (h1 : xs (6 * k9 + 1) = v1) (h2 : xs (6 * k9 + 2) = v2) (h3 : xs (6 * k9 + 3) = v3) (k : W p l e room_1 s m #[Value.ref b] below meth c H locs ce sl (lw_Z below #[Value.ref b] s) (F0 m 711 ls (.int v3 :: .int v2 :: .int v1 :: .ref k0 :: rest))) : W p l e room_1 s m #[Value.ref b] below meth c H locs ce sl (lw_Z below #[Value.ref b] s) (F0 m 695 ls (rest)) := by
  obtain ⟨hx, hb, hr, hml, hown, hts1, hX, hbl, hlocks, hgv⟩ := id C0
  have hbA : ¬ (fun q : Nat => s.heap.size ≤ q) b := Nat.not_le.mpr hbl
  refine lv_aload_n hx hb dL_law_695 rfl (lv_at hl 1 rfl) ?_
  refine lv_aload_n hx hb dL_law_696 rfl (lv_at hl 3 rfl) ?_
  refine lv_iload_n hx hb dL_law_697 rfl (lv_at hl 0 rfl) ?_
  refine lv_iconst (v := 1) hx hb dL_law_698 rfl ?_
  refine lv_iadd hx hb dL_law_699 ?_
  refine zz_i (v := nI (6 * k9 + 1)) (nI_add (6 * k9) 1) ?_
  refine va_sld hx hb hX hbl hbA hS (vp_in_nI (n := 6 * k9 + 1) (N := L9) (by omega) (by omega)) dL_law_700 ?_
  refine zz_i (v := v1) ((congrArg xs (nI_clamp (by omega))).trans h1) ?_
  refine lv_aload_n hx hb dL_law_701 rfl (lv_at hl 3 rfl) ?_
  refine lv_iload_n hx hb dL_law_702 rfl (lv_at hl 0 rfl) ?_
  refine lv_iconst (v := 2) hx hb dL_law_703 rfl ?_
  refine lv_iadd hx hb dL_law_704 ?_
  refine zz_i (v := nI (6 * k9 + 2)) (nI_add (6 * k9) 2) ?_
  refine va_sld hx hb hX hbl hbA hS (vp_in_nI (n := 6 * k9 + 2) (N := L9) (by omega) (by omega)) dL_law_705 ?_
  refine zz_i (v := v2) ((congrArg xs (nI_clamp (by omega))).trans h2) ?_
  refine lv_aload_n hx hb dL_law_706 rfl (lv_at hl 3 rfl) ?_
  refine lv_iload_n hx hb dL_law_707 rfl (lv_at hl 0 rfl) ?_
  refine lv_iconst (v := 3) hx hb dL_law_708 rfl ?_
  refine lv_iadd hx hb dL_law_709 ?_
  refine zz_i (v := nI (6 * k9 + 3)) (nI_add (6 * k9) 3) ?_
  refine va_sld hx hb hX hbl hbA hS (vp_in_nI (n := 6 * k9 + 3) (N := L9) (by omega) (by omega)) dL_law_710 ?_
  refine zz_i (v := v3) ((congrArg xs (nI_clamp (by omega))).trans h3) ?_
  exact k
theorem la_18_1 {p : Program} {e : Env} {s : State} {m : MethodId} {below : List Frame} {meth : Method} {c : Code} (l : Launch) {b L9 : Nat} {xs : Nat → Int32} (C0 : lw_At p s m meth c b L9 xs) {x k0 k9 ce sl : Nat} (hk9 : 6 * k9 + 6 ≤ L9) (hL9 : L9 ≤ 3072) {H : Heap} {locs : List Loc} {ls : Array Slot} {rest : List Value} (hS : va_S (fun q : Nat => s.heap.size ≤ q) s.heap H locs) (hl : lv_has ls 4 [(3, .int (nI (6 * k9))), (2, .ref k0), (1, .ref x), (0, .ref b)]) {v1 : Int32} {v2 : Int32} {v3 : Int32} {v4 : Int32} (h1 : xs (6 * k9 + 1) = v1) (h2 : xs (6 * k9 + 2) = v2) (h3 : xs (6 * k9 + 3) = v3) (h4 : xs (6 * k9 + 4) = v4) (k : W p l e room_1 s m #[Value.ref b] below meth c H locs ce sl (lw_Z below #[Value.ref b] s) (F0 m 739 ls (.int v4 :: .int v3 :: .int v2 :: .int v1 :: .ref x :: rest))) : W p l e room_1 s m #[Value.ref b] below meth c H locs ce sl (lw_Z below #[Value.ref b] s) (F0 m 718 ls (rest)) := by
  obtain ⟨hx, hb, hr, hml, hown, hts1, hX, hbl, hlocks, hgv⟩ := id C0
  have hbA : ¬ (fun q : Nat => s.heap.size ≤ q) b := Nat.not_le.mpr hbl
  refine lv_aload_n hx hb dL_law_718 rfl (lv_at hl 2 rfl) ?_
  refine lv_aload_n hx hb dL_law_719 rfl (lv_at hl 3 rfl) ?_
  refine lv_iload_n hx hb dL_law_720 rfl (lv_at hl 0 rfl) ?_
  refine lv_iconst (v := 1) hx hb dL_law_721 rfl ?_
  refine lv_iadd hx hb dL_law_722 ?_
  refine zz_i (v := nI (6 * k9 + 1)) (nI_add (6 * k9) 1) ?_
  refine va_sld hx hb hX hbl hbA hS (vp_in_nI (n := 6 * k9 + 1) (N := L9) (by omega) (by omega)) dL_law_723 ?_
  refine zz_i (v := v1) ((congrArg xs (nI_clamp (by omega))).trans h1) ?_
  refine lv_aload_n hx hb dL_law_724 rfl (lv_at hl 3 rfl) ?_
  refine lv_iload_n hx hb dL_law_725 rfl (lv_at hl 0 rfl) ?_
  refine lv_iconst (v := 2) hx hb dL_law_726 rfl ?_
  refine lv_iadd hx hb dL_law_727 ?_
  refine zz_i (v := nI (6 * k9 + 2)) (nI_add (6 * k9) 2) ?_
  refine va_sld hx hb hX hbl hbA hS (vp_in_nI (n := 6 * k9 + 2) (N := L9) (by omega) (by omega)) dL_law_728 ?_
  refine zz_i (v := v2) ((congrArg xs (nI_clamp (by omega))).trans h2) ?_
  refine lv_aload_n hx hb dL_law_729 rfl (lv_at hl 3 rfl) ?_
  refine lv_iload_n hx hb dL_law_730 rfl (lv_at hl 0 rfl) ?_
  refine lv_iconst (v := 3) hx hb dL_law_731 rfl ?_
  refine lv_iadd hx hb dL_law_732 ?_
  refine zz_i (v := nI (6 * k9 + 3)) (nI_add (6 * k9) 3) ?_
  refine va_sld hx hb hX hbl hbA hS (vp_in_nI (n := 6 * k9 + 3) (N := L9) (by omega) (by omega)) dL_law_733 ?_
  refine zz_i (v := v3) ((congrArg xs (nI_clamp (by omega))).trans h3) ?_
  refine lv_aload_n hx hb dL_law_734 rfl (lv_at hl 3 rfl) ?_
  refine lv_iload_n hx hb dL_law_735 rfl (lv_at hl 0 rfl) ?_
  refine lv_iconst (v := 4) hx hb dL_law_736 rfl ?_
  refine lv_iadd hx hb dL_law_737 ?_
  refine zz_i (v := nI (6 * k9 + 4)) (nI_add (6 * k9) 4) ?_
  refine va_sld hx hb hX hbl hbA hS (vp_in_nI (n := 6 * k9 + 4) (N := L9) (by omega) (by omega)) dL_law_738 ?_
  refine zz_i (v := v4) ((congrArg xs (nI_clamp (by omega))).trans h4) ?_
  exact k
theorem la_18_2 {p : Program} {e : Env} {s : State} {m : MethodId} {below : List Frame} {meth : Method} {c : Code} (l : Launch) {b L9 : Nat} {xs : Nat → Int32} (C0 : lw_At p s m meth c b L9 xs) {x k0 k9 ce sl : Nat} (hk9 : 6 * k9 + 6 ≤ L9) (hL9 : L9 ≤ 3072) {H : Heap} {locs : List Loc} {ls : Array Slot} {rest : List Value} (hS : va_S (fun q : Nat => s.heap.size ≤ q) s.heap H locs) (hl : lv_has ls 4 [(3, .int (nI (6 * k9))), (2, .ref k0), (1, .ref x), (0, .ref b)]) {v1 : Int32} {v2 : Int32} {v3 : Int32} {v4 : Int32} (h1 : xs (6 * k9 + 1) = v1) (h2 : xs (6 * k9 + 2) = v2) (h3 : xs (6 * k9 + 3) = v3) (h4 : xs (6 * k9 + 4) = v4) (k : W p l e room_1 s m #[Value.ref b] below meth c H locs ce sl (lw_Z below #[Value.ref b] s) (F0 m 764 ls (.int v4 :: .int v3 :: .int v2 :: .int v1 :: .ref k0 :: rest))) : W p l e room_1 s m #[Value.ref b] below meth c H locs ce sl (lw_Z below #[Value.ref b] s) (F0 m 743 ls (rest)) := by
  obtain ⟨hx, hb, hr, hml, hown, hts1, hX, hbl, hlocks, hgv⟩ := id C0
  have hbA : ¬ (fun q : Nat => s.heap.size ≤ q) b := Nat.not_le.mpr hbl
  refine lv_aload_n hx hb dL_law_743 rfl (lv_at hl 1 rfl) ?_
  refine lv_aload_n hx hb dL_law_744 rfl (lv_at hl 3 rfl) ?_
  refine lv_iload_n hx hb dL_law_745 rfl (lv_at hl 0 rfl) ?_
  refine lv_iconst (v := 1) hx hb dL_law_746 rfl ?_
  refine lv_iadd hx hb dL_law_747 ?_
  refine zz_i (v := nI (6 * k9 + 1)) (nI_add (6 * k9) 1) ?_
  refine va_sld hx hb hX hbl hbA hS (vp_in_nI (n := 6 * k9 + 1) (N := L9) (by omega) (by omega)) dL_law_748 ?_
  refine zz_i (v := v1) ((congrArg xs (nI_clamp (by omega))).trans h1) ?_
  refine lv_aload_n hx hb dL_law_749 rfl (lv_at hl 3 rfl) ?_
  refine lv_iload_n hx hb dL_law_750 rfl (lv_at hl 0 rfl) ?_
  refine lv_iconst (v := 2) hx hb dL_law_751 rfl ?_
  refine lv_iadd hx hb dL_law_752 ?_
  refine zz_i (v := nI (6 * k9 + 2)) (nI_add (6 * k9) 2) ?_
  refine va_sld hx hb hX hbl hbA hS (vp_in_nI (n := 6 * k9 + 2) (N := L9) (by omega) (by omega)) dL_law_753 ?_
  refine zz_i (v := v2) ((congrArg xs (nI_clamp (by omega))).trans h2) ?_
  refine lv_aload_n hx hb dL_law_754 rfl (lv_at hl 3 rfl) ?_
  refine lv_iload_n hx hb dL_law_755 rfl (lv_at hl 0 rfl) ?_
  refine lv_iconst (v := 3) hx hb dL_law_756 rfl ?_
  refine lv_iadd hx hb dL_law_757 ?_
  refine zz_i (v := nI (6 * k9 + 3)) (nI_add (6 * k9) 3) ?_
  refine va_sld hx hb hX hbl hbA hS (vp_in_nI (n := 6 * k9 + 3) (N := L9) (by omega) (by omega)) dL_law_758 ?_
  refine zz_i (v := v3) ((congrArg xs (nI_clamp (by omega))).trans h3) ?_
  refine lv_aload_n hx hb dL_law_759 rfl (lv_at hl 3 rfl) ?_
  refine lv_iload_n hx hb dL_law_760 rfl (lv_at hl 0 rfl) ?_
  refine lv_iconst (v := 4) hx hb dL_law_761 rfl ?_
  refine lv_iadd hx hb dL_law_762 ?_
  refine zz_i (v := nI (6 * k9 + 4)) (nI_add (6 * k9) 4) ?_
  refine va_sld hx hb hX hbl hbA hS (vp_in_nI (n := 6 * k9 + 4) (N := L9) (by omega) (by omega)) dL_law_763 ?_
  refine zz_i (v := v4) ((congrArg xs (nI_clamp (by omega))).trans h4) ?_
  exact k
theorem la_19_1 {p : Program} {e : Env} {s : State} {m : MethodId} {below : List Frame} {meth : Method} {c : Code} (l : Launch) {b L9 : Nat} {xs : Nat → Int32} (C0 : lw_At p s m meth c b L9 xs) {x k0 k9 ce sl : Nat} (hk9 : 6 * k9 + 6 ≤ L9) (hL9 : L9 ≤ 3072) {H : Heap} {locs : List Loc} {ls : Array Slot} {rest : List Value} (hS : va_S (fun q : Nat => s.heap.size ≤ q) s.heap H locs) (hl : lv_has ls 4 [(3, .int (nI (6 * k9))), (2, .ref k0), (1, .ref x), (0, .ref b)]) {v1 : Int32} {v2 : Int32} {v3 : Int32} (h1 : xs (6 * k9 + 1) = v1) (h2 : xs (6 * k9 + 2) = v2) (h3 : xs (6 * k9 + 3) = v3) (k : W p l e room_1 s m #[Value.ref b] below meth c H locs ce sl (lw_Z below #[Value.ref b] s) (F0 m 787 ls (.int v3 :: .int v2 :: .int v1 :: .ref x :: rest))) : W p l e room_1 s m #[Value.ref b] below meth c H locs ce sl (lw_Z below #[Value.ref b] s) (F0 m 771 ls (rest)) := by
  obtain ⟨hx, hb, hr, hml, hown, hts1, hX, hbl, hlocks, hgv⟩ := id C0
  have hbA : ¬ (fun q : Nat => s.heap.size ≤ q) b := Nat.not_le.mpr hbl
  refine lv_aload_n hx hb dL_law_771 rfl (lv_at hl 2 rfl) ?_
  refine lv_aload_n hx hb dL_law_772 rfl (lv_at hl 3 rfl) ?_
  refine lv_iload_n hx hb dL_law_773 rfl (lv_at hl 0 rfl) ?_
  refine lv_iconst (v := 1) hx hb dL_law_774 rfl ?_
  refine lv_iadd hx hb dL_law_775 ?_
  refine zz_i (v := nI (6 * k9 + 1)) (nI_add (6 * k9) 1) ?_
  refine va_sld hx hb hX hbl hbA hS (vp_in_nI (n := 6 * k9 + 1) (N := L9) (by omega) (by omega)) dL_law_776 ?_
  refine zz_i (v := v1) ((congrArg xs (nI_clamp (by omega))).trans h1) ?_
  refine lv_aload_n hx hb dL_law_777 rfl (lv_at hl 3 rfl) ?_
  refine lv_iload_n hx hb dL_law_778 rfl (lv_at hl 0 rfl) ?_
  refine lv_iconst (v := 2) hx hb dL_law_779 rfl ?_
  refine lv_iadd hx hb dL_law_780 ?_
  refine zz_i (v := nI (6 * k9 + 2)) (nI_add (6 * k9) 2) ?_
  refine va_sld hx hb hX hbl hbA hS (vp_in_nI (n := 6 * k9 + 2) (N := L9) (by omega) (by omega)) dL_law_781 ?_
  refine zz_i (v := v2) ((congrArg xs (nI_clamp (by omega))).trans h2) ?_
  refine lv_aload_n hx hb dL_law_782 rfl (lv_at hl 3 rfl) ?_
  refine lv_iload_n hx hb dL_law_783 rfl (lv_at hl 0 rfl) ?_
  refine lv_iconst (v := 3) hx hb dL_law_784 rfl ?_
  refine lv_iadd hx hb dL_law_785 ?_
  refine zz_i (v := nI (6 * k9 + 3)) (nI_add (6 * k9) 3) ?_
  refine va_sld hx hb hX hbl hbA hS (vp_in_nI (n := 6 * k9 + 3) (N := L9) (by omega) (by omega)) dL_law_786 ?_
  refine zz_i (v := v3) ((congrArg xs (nI_clamp (by omega))).trans h3) ?_
  exact k
theorem la_19_2 {p : Program} {e : Env} {s : State} {m : MethodId} {below : List Frame} {meth : Method} {c : Code} (l : Launch) {b L9 : Nat} {xs : Nat → Int32} (C0 : lw_At p s m meth c b L9 xs) {x k0 k9 ce sl : Nat} (hk9 : 6 * k9 + 6 ≤ L9) (hL9 : L9 ≤ 3072) {H : Heap} {locs : List Loc} {ls : Array Slot} {rest : List Value} (hS : va_S (fun q : Nat => s.heap.size ≤ q) s.heap H locs) (hl : lv_has ls 4 [(3, .int (nI (6 * k9))), (2, .ref k0), (1, .ref x), (0, .ref b)]) {v1 : Int32} {v2 : Int32} {v3 : Int32} (h1 : xs (6 * k9 + 1) = v1) (h2 : xs (6 * k9 + 2) = v2) (h3 : xs (6 * k9 + 3) = v3) (k : W p l e room_1 s m #[Value.ref b] below meth c H locs ce sl (lw_Z below #[Value.ref b] s) (F0 m 807 ls (.int v3 :: .int v2 :: .int v1 :: .ref k0 :: rest))) : W p l e room_1 s m #[Value.ref b] below meth c H locs ce sl (lw_Z below #[Value.ref b] s) (F0 m 791 ls (rest)) := by
  obtain ⟨hx, hb, hr, hml, hown, hts1, hX, hbl, hlocks, hgv⟩ := id C0
  have hbA : ¬ (fun q : Nat => s.heap.size ≤ q) b := Nat.not_le.mpr hbl
  refine lv_aload_n hx hb dL_law_791 rfl (lv_at hl 1 rfl) ?_
  refine lv_aload_n hx hb dL_law_792 rfl (lv_at hl 3 rfl) ?_
  refine lv_iload_n hx hb dL_law_793 rfl (lv_at hl 0 rfl) ?_
  refine lv_iconst (v := 1) hx hb dL_law_794 rfl ?_
  refine lv_iadd hx hb dL_law_795 ?_
  refine zz_i (v := nI (6 * k9 + 1)) (nI_add (6 * k9) 1) ?_
  refine va_sld hx hb hX hbl hbA hS (vp_in_nI (n := 6 * k9 + 1) (N := L9) (by omega) (by omega)) dL_law_796 ?_
  refine zz_i (v := v1) ((congrArg xs (nI_clamp (by omega))).trans h1) ?_
  refine lv_aload_n hx hb dL_law_797 rfl (lv_at hl 3 rfl) ?_
  refine lv_iload_n hx hb dL_law_798 rfl (lv_at hl 0 rfl) ?_
  refine lv_iconst (v := 2) hx hb dL_law_799 rfl ?_
  refine lv_iadd hx hb dL_law_800 ?_
  refine zz_i (v := nI (6 * k9 + 2)) (nI_add (6 * k9) 2) ?_
  refine va_sld hx hb hX hbl hbA hS (vp_in_nI (n := 6 * k9 + 2) (N := L9) (by omega) (by omega)) dL_law_801 ?_
  refine zz_i (v := v2) ((congrArg xs (nI_clamp (by omega))).trans h2) ?_
  refine lv_aload_n hx hb dL_law_802 rfl (lv_at hl 3 rfl) ?_
  refine lv_iload_n hx hb dL_law_803 rfl (lv_at hl 0 rfl) ?_
  refine lv_iconst (v := 3) hx hb dL_law_804 rfl ?_
  refine lv_iadd hx hb dL_law_805 ?_
  refine zz_i (v := nI (6 * k9 + 3)) (nI_add (6 * k9) 3) ?_
  refine va_sld hx hb hX hbl hbA hS (vp_in_nI (n := 6 * k9 + 3) (N := L9) (by omega) (by omega)) dL_law_806 ?_
  refine zz_i (v := v3) ((congrArg xs (nI_clamp (by omega))).trans h3) ?_
  exact k
theorem la_20_1 {p : Program} {e : Env} {s : State} {m : MethodId} {below : List Frame} {meth : Method} {c : Code} (l : Launch) {b L9 : Nat} {xs : Nat → Int32} (C0 : lw_At p s m meth c b L9 xs) {x k0 k9 ce sl : Nat} (hk9 : 6 * k9 + 6 ≤ L9) (hL9 : L9 ≤ 3072) {H : Heap} {locs : List Loc} {ls : Array Slot} {rest : List Value} (hS : va_S (fun q : Nat => s.heap.size ≤ q) s.heap H locs) (hl : lv_has ls 4 [(3, .int (nI (6 * k9))), (2, .ref k0), (1, .ref x), (0, .ref b)]) {v1 : Int32} (h1 : xs (6 * k9 + 1) = v1) (k : W p l e room_1 s m #[Value.ref b] below meth c H locs ce sl (lw_Z below #[Value.ref b] s) (F0 m 820 ls (.int v1 :: .ref x :: rest))) : W p l e room_1 s m #[Value.ref b] below meth c H locs ce sl (lw_Z below #[Value.ref b] s) (F0 m 814 ls (rest)) := by
  obtain ⟨hx, hb, hr, hml, hown, hts1, hX, hbl, hlocks, hgv⟩ := id C0
  have hbA : ¬ (fun q : Nat => s.heap.size ≤ q) b := Nat.not_le.mpr hbl
  refine lv_aload_n hx hb dL_law_814 rfl (lv_at hl 2 rfl) ?_
  refine lv_aload_n hx hb dL_law_815 rfl (lv_at hl 3 rfl) ?_
  refine lv_iload_n hx hb dL_law_816 rfl (lv_at hl 0 rfl) ?_
  refine lv_iconst (v := 1) hx hb dL_law_817 rfl ?_
  refine lv_iadd hx hb dL_law_818 ?_
  refine zz_i (v := nI (6 * k9 + 1)) (nI_add (6 * k9) 1) ?_
  refine va_sld hx hb hX hbl hbA hS (vp_in_nI (n := 6 * k9 + 1) (N := L9) (by omega) (by omega)) dL_law_819 ?_
  refine zz_i (v := v1) ((congrArg xs (nI_clamp (by omega))).trans h1) ?_
  exact k
theorem la_20_2 {p : Program} {e : Env} {s : State} {m : MethodId} {below : List Frame} {meth : Method} {c : Code} (l : Launch) {b L9 : Nat} {xs : Nat → Int32} (C0 : lw_At p s m meth c b L9 xs) {x k0 k9 ce sl : Nat} (hk9 : 6 * k9 + 6 ≤ L9) (hL9 : L9 ≤ 3072) {H : Heap} {locs : List Loc} {ls : Array Slot} {rest : List Value} (hS : va_S (fun q : Nat => s.heap.size ≤ q) s.heap H locs) (hl : lv_has ls 4 [(3, .int (nI (6 * k9))), (2, .ref k0), (1, .ref x), (0, .ref b)]) {v1 : Int32} (h1 : xs (6 * k9 + 1) = v1) (k : W p l e room_1 s m #[Value.ref b] below meth c H locs ce sl (lw_Z below #[Value.ref b] s) (F0 m 830 ls (.int v1 :: .ref k0 :: rest))) : W p l e room_1 s m #[Value.ref b] below meth c H locs ce sl (lw_Z below #[Value.ref b] s) (F0 m 824 ls (rest)) := by
  obtain ⟨hx, hb, hr, hml, hown, hts1, hX, hbl, hlocks, hgv⟩ := id C0
  have hbA : ¬ (fun q : Nat => s.heap.size ≤ q) b := Nat.not_le.mpr hbl
  refine lv_aload_n hx hb dL_law_824 rfl (lv_at hl 1 rfl) ?_
  refine lv_aload_n hx hb dL_law_825 rfl (lv_at hl 3 rfl) ?_
  refine lv_iload_n hx hb dL_law_826 rfl (lv_at hl 0 rfl) ?_
  refine lv_iconst (v := 1) hx hb dL_law_827 rfl ?_
  refine lv_iadd hx hb dL_law_828 ?_
  refine zz_i (v := nI (6 * k9 + 1)) (nI_add (6 * k9) 1) ?_
  refine va_sld hx hb hX hbl hbA hS (vp_in_nI (n := 6 * k9 + 1) (N := L9) (by omega) (by omega)) dL_law_829 ?_
  refine zz_i (v := v1) ((congrArg xs (nI_clamp (by omega))).trans h1) ?_
  exact k
theorem la_21_1 {p : Program} {e : Env} {s : State} {m : MethodId} {below : List Frame} {meth : Method} {c : Code} (l : Launch) {b L9 : Nat} {xs : Nat → Int32} (C0 : lw_At p s m meth c b L9 xs) {x k0 k9 ce sl : Nat} (hk9 : 6 * k9 + 6 ≤ L9) (hL9 : L9 ≤ 3072) {H : Heap} {locs : List Loc} {ls : Array Slot} {rest : List Value} (hS : va_S (fun q : Nat => s.heap.size ≤ q) s.heap H locs) (hl : lv_has ls 4 [(3, .int (nI (6 * k9))), (2, .ref k0), (1, .ref x), (0, .ref b)]) {v1 : Int32} {v2 : Int32} {v3 : Int32} (h1 : xs (6 * k9 + 1) = v1) (h2 : xs (6 * k9 + 2) = v2) (h3 : xs (6 * k9 + 3) = v3) (k : W p l e room_1 s m #[Value.ref b] below meth c H locs ce sl (lw_Z below #[Value.ref b] s) (F0 m 853 ls (.int v3 :: .int v2 :: .int v1 :: .ref x :: rest))) : W p l e room_1 s m #[Value.ref b] below meth c H locs ce sl (lw_Z below #[Value.ref b] s) (F0 m 837 ls (rest)) := by
  obtain ⟨hx, hb, hr, hml, hown, hts1, hX, hbl, hlocks, hgv⟩ := id C0
  have hbA : ¬ (fun q : Nat => s.heap.size ≤ q) b := Nat.not_le.mpr hbl
  refine lv_aload_n hx hb dL_law_837 rfl (lv_at hl 2 rfl) ?_
  refine lv_aload_n hx hb dL_law_838 rfl (lv_at hl 3 rfl) ?_
  refine lv_iload_n hx hb dL_law_839 rfl (lv_at hl 0 rfl) ?_
  refine lv_iconst (v := 1) hx hb dL_law_840 rfl ?_
  refine lv_iadd hx hb dL_law_841 ?_
  refine zz_i (v := nI (6 * k9 + 1)) (nI_add (6 * k9) 1) ?_
  refine va_sld hx hb hX hbl hbA hS (vp_in_nI (n := 6 * k9 + 1) (N := L9) (by omega) (by omega)) dL_law_842 ?_
  refine zz_i (v := v1) ((congrArg xs (nI_clamp (by omega))).trans h1) ?_
  refine lv_aload_n hx hb dL_law_843 rfl (lv_at hl 3 rfl) ?_
  refine lv_iload_n hx hb dL_law_844 rfl (lv_at hl 0 rfl) ?_
  refine lv_iconst (v := 2) hx hb dL_law_845 rfl ?_
  refine lv_iadd hx hb dL_law_846 ?_
  refine zz_i (v := nI (6 * k9 + 2)) (nI_add (6 * k9) 2) ?_
  refine va_sld hx hb hX hbl hbA hS (vp_in_nI (n := 6 * k9 + 2) (N := L9) (by omega) (by omega)) dL_law_847 ?_
  refine zz_i (v := v2) ((congrArg xs (nI_clamp (by omega))).trans h2) ?_
  refine lv_aload_n hx hb dL_law_848 rfl (lv_at hl 3 rfl) ?_
  refine lv_iload_n hx hb dL_law_849 rfl (lv_at hl 0 rfl) ?_
  refine lv_iconst (v := 3) hx hb dL_law_850 rfl ?_
  refine lv_iadd hx hb dL_law_851 ?_
  refine zz_i (v := nI (6 * k9 + 3)) (nI_add (6 * k9) 3) ?_
  refine va_sld hx hb hX hbl hbA hS (vp_in_nI (n := 6 * k9 + 3) (N := L9) (by omega) (by omega)) dL_law_852 ?_
  refine zz_i (v := v3) ((congrArg xs (nI_clamp (by omega))).trans h3) ?_
  exact k
theorem la_21_2 {p : Program} {e : Env} {s : State} {m : MethodId} {below : List Frame} {meth : Method} {c : Code} (l : Launch) {b L9 : Nat} {xs : Nat → Int32} (C0 : lw_At p s m meth c b L9 xs) {x k0 k9 ce sl : Nat} (hk9 : 6 * k9 + 6 ≤ L9) (hL9 : L9 ≤ 3072) {H : Heap} {locs : List Loc} {ls : Array Slot} {rest : List Value} (hS : va_S (fun q : Nat => s.heap.size ≤ q) s.heap H locs) (hl : lv_has ls 4 [(3, .int (nI (6 * k9))), (2, .ref k0), (1, .ref x), (0, .ref b)]) {v1 : Int32} {v2 : Int32} {v3 : Int32} (h1 : xs (6 * k9 + 1) = v1) (h2 : xs (6 * k9 + 2) = v2) (h3 : xs (6 * k9 + 3) = v3) (k : W p l e room_1 s m #[Value.ref b] below meth c H locs ce sl (lw_Z below #[Value.ref b] s) (F0 m 872 ls (.int v3 :: .int v2 :: .int v1 :: .ref k0 :: rest))) : W p l e room_1 s m #[Value.ref b] below meth c H locs ce sl (lw_Z below #[Value.ref b] s) (F0 m 856 ls (rest)) := by
  obtain ⟨hx, hb, hr, hml, hown, hts1, hX, hbl, hlocks, hgv⟩ := id C0
  have hbA : ¬ (fun q : Nat => s.heap.size ≤ q) b := Nat.not_le.mpr hbl
  refine lv_aload_n hx hb dL_law_856 rfl (lv_at hl 1 rfl) ?_
  refine lv_aload_n hx hb dL_law_857 rfl (lv_at hl 3 rfl) ?_
  refine lv_iload_n hx hb dL_law_858 rfl (lv_at hl 0 rfl) ?_
  refine lv_iconst (v := 1) hx hb dL_law_859 rfl ?_
  refine lv_iadd hx hb dL_law_860 ?_
  refine zz_i (v := nI (6 * k9 + 1)) (nI_add (6 * k9) 1) ?_
  refine va_sld hx hb hX hbl hbA hS (vp_in_nI (n := 6 * k9 + 1) (N := L9) (by omega) (by omega)) dL_law_861 ?_
  refine zz_i (v := v1) ((congrArg xs (nI_clamp (by omega))).trans h1) ?_
  refine lv_aload_n hx hb dL_law_862 rfl (lv_at hl 3 rfl) ?_
  refine lv_iload_n hx hb dL_law_863 rfl (lv_at hl 0 rfl) ?_
  refine lv_iconst (v := 2) hx hb dL_law_864 rfl ?_
  refine lv_iadd hx hb dL_law_865 ?_
  refine zz_i (v := nI (6 * k9 + 2)) (nI_add (6 * k9) 2) ?_
  refine va_sld hx hb hX hbl hbA hS (vp_in_nI (n := 6 * k9 + 2) (N := L9) (by omega) (by omega)) dL_law_866 ?_
  refine zz_i (v := v2) ((congrArg xs (nI_clamp (by omega))).trans h2) ?_
  refine lv_aload_n hx hb dL_law_867 rfl (lv_at hl 3 rfl) ?_
  refine lv_iload_n hx hb dL_law_868 rfl (lv_at hl 0 rfl) ?_
  refine lv_iconst (v := 3) hx hb dL_law_869 rfl ?_
  refine lv_iadd hx hb dL_law_870 ?_
  refine zz_i (v := nI (6 * k9 + 3)) (nI_add (6 * k9) 3) ?_
  refine va_sld hx hb hX hbl hbA hS (vp_in_nI (n := 6 * k9 + 3) (N := L9) (by omega) (by omega)) dL_law_871 ?_
  refine zz_i (v := v3) ((congrArg xs (nI_clamp (by omega))).trans h3) ?_
  exact k
theorem la_22_1 {p : Program} {e : Env} {s : State} {m : MethodId} {below : List Frame} {meth : Method} {c : Code} (l : Launch) {b L9 : Nat} {xs : Nat → Int32} (C0 : lw_At p s m meth c b L9 xs) {x k0 k9 ce sl : Nat} (hk9 : 6 * k9 + 6 ≤ L9) (hL9 : L9 ≤ 3072) {H : Heap} {locs : List Loc} {ls : Array Slot} {rest : List Value} (hS : va_S (fun q : Nat => s.heap.size ≤ q) s.heap H locs) (hl : lv_has ls 4 [(3, .int (nI (6 * k9))), (2, .ref k0), (1, .ref x), (0, .ref b)]) {v1 : Int32} {v2 : Int32} (h1 : xs (6 * k9 + 1) = v1) (h2 : xs (6 * k9 + 2) = v2) (k : W p l e room_1 s m #[Value.ref b] below meth c H locs ce sl (lw_Z below #[Value.ref b] s) (F0 m 891 ls (.int v2 :: .int v1 :: .ref x :: rest))) : W p l e room_1 s m #[Value.ref b] below meth c H locs ce sl (lw_Z below #[Value.ref b] s) (F0 m 880 ls (rest)) := by
  obtain ⟨hx, hb, hr, hml, hown, hts1, hX, hbl, hlocks, hgv⟩ := id C0
  have hbA : ¬ (fun q : Nat => s.heap.size ≤ q) b := Nat.not_le.mpr hbl
  refine lv_aload_n hx hb dL_law_880 rfl (lv_at hl 2 rfl) ?_
  refine lv_aload_n hx hb dL_law_881 rfl (lv_at hl 3 rfl) ?_
  refine lv_iload_n hx hb dL_law_882 rfl (lv_at hl 0 rfl) ?_
  refine lv_iconst (v := 1) hx hb dL_law_883 rfl ?_
  refine lv_iadd hx hb dL_law_884 ?_
  refine zz_i (v := nI (6 * k9 + 1)) (nI_add (6 * k9) 1) ?_
  refine va_sld hx hb hX hbl hbA hS (vp_in_nI (n := 6 * k9 + 1) (N := L9) (by omega) (by omega)) dL_law_885 ?_
  refine zz_i (v := v1) ((congrArg xs (nI_clamp (by omega))).trans h1) ?_
  refine lv_aload_n hx hb dL_law_886 rfl (lv_at hl 3 rfl) ?_
  refine lv_iload_n hx hb dL_law_887 rfl (lv_at hl 0 rfl) ?_
  refine lv_iconst (v := 2) hx hb dL_law_888 rfl ?_
  refine lv_iadd hx hb dL_law_889 ?_
  refine zz_i (v := nI (6 * k9 + 2)) (nI_add (6 * k9) 2) ?_
  refine va_sld hx hb hX hbl hbA hS (vp_in_nI (n := 6 * k9 + 2) (N := L9) (by omega) (by omega)) dL_law_890 ?_
  refine zz_i (v := v2) ((congrArg xs (nI_clamp (by omega))).trans h2) ?_
  exact k
theorem la_22_2 {p : Program} {e : Env} {s : State} {m : MethodId} {below : List Frame} {meth : Method} {c : Code} (l : Launch) {b L9 : Nat} {xs : Nat → Int32} (C0 : lw_At p s m meth c b L9 xs) {x k0 k9 ce sl : Nat} (hk9 : 6 * k9 + 6 ≤ L9) (hL9 : L9 ≤ 3072) {H : Heap} {locs : List Loc} {ls : Array Slot} {rest : List Value} (hS : va_S (fun q : Nat => s.heap.size ≤ q) s.heap H locs) (hl : lv_has ls 4 [(3, .int (nI (6 * k9))), (2, .ref k0), (1, .ref x), (0, .ref b)]) {v1 : Int32} {v2 : Int32} (h1 : xs (6 * k9 + 1) = v1) (h2 : xs (6 * k9 + 2) = v2) (k : W p l e room_1 s m #[Value.ref b] below meth c H locs ce sl (lw_Z below #[Value.ref b] s) (F0 m 906 ls (.int v2 :: .int v1 :: .ref k0 :: rest))) : W p l e room_1 s m #[Value.ref b] below meth c H locs ce sl (lw_Z below #[Value.ref b] s) (F0 m 895 ls (rest)) := by
  obtain ⟨hx, hb, hr, hml, hown, hts1, hX, hbl, hlocks, hgv⟩ := id C0
  have hbA : ¬ (fun q : Nat => s.heap.size ≤ q) b := Nat.not_le.mpr hbl
  refine lv_aload_n hx hb dL_law_895 rfl (lv_at hl 1 rfl) ?_
  refine lv_aload_n hx hb dL_law_896 rfl (lv_at hl 3 rfl) ?_
  refine lv_iload_n hx hb dL_law_897 rfl (lv_at hl 0 rfl) ?_
  refine lv_iconst (v := 1) hx hb dL_law_898 rfl ?_
  refine lv_iadd hx hb dL_law_899 ?_
  refine zz_i (v := nI (6 * k9 + 1)) (nI_add (6 * k9) 1) ?_
  refine va_sld hx hb hX hbl hbA hS (vp_in_nI (n := 6 * k9 + 1) (N := L9) (by omega) (by omega)) dL_law_900 ?_
  refine zz_i (v := v1) ((congrArg xs (nI_clamp (by omega))).trans h1) ?_
  refine lv_aload_n hx hb dL_law_901 rfl (lv_at hl 3 rfl) ?_
  refine lv_iload_n hx hb dL_law_902 rfl (lv_at hl 0 rfl) ?_
  refine lv_iconst (v := 2) hx hb dL_law_903 rfl ?_
  refine lv_iadd hx hb dL_law_904 ?_
  refine zz_i (v := nI (6 * k9 + 2)) (nI_add (6 * k9) 2) ?_
  refine va_sld hx hb hX hbl hbA hS (vp_in_nI (n := 6 * k9 + 2) (N := L9) (by omega) (by omega)) dL_law_905 ?_
  refine zz_i (v := v2) ((congrArg xs (nI_clamp (by omega))).trans h2) ?_
  exact k
theorem la_23_1 {p : Program} {e : Env} {s : State} {m : MethodId} {below : List Frame} {meth : Method} {c : Code} (l : Launch) {b L9 : Nat} {xs : Nat → Int32} (C0 : lw_At p s m meth c b L9 xs) {x k0 k9 ce sl : Nat} (hk9 : 6 * k9 + 6 ≤ L9) (hL9 : L9 ≤ 3072) {H : Heap} {locs : List Loc} {ls : Array Slot} {rest : List Value} (hS : va_S (fun q : Nat => s.heap.size ≤ q) s.heap H locs) (hl : lv_has ls 4 [(3, .int (nI (6 * k9))), (2, .ref k0), (1, .ref x), (0, .ref b)]) {v1 : Int32} (h1 : xs (6 * k9 + 1) = v1) (k : W p l e room_1 s m #[Value.ref b] below meth c H locs ce sl (lw_Z below #[Value.ref b] s) (F0 m 919 ls (.int v1 :: .ref x :: rest))) : W p l e room_1 s m #[Value.ref b] below meth c H locs ce sl (lw_Z below #[Value.ref b] s) (F0 m 913 ls (rest)) := by
  obtain ⟨hx, hb, hr, hml, hown, hts1, hX, hbl, hlocks, hgv⟩ := id C0
  have hbA : ¬ (fun q : Nat => s.heap.size ≤ q) b := Nat.not_le.mpr hbl
  refine lv_aload_n hx hb dL_law_913 rfl (lv_at hl 2 rfl) ?_
  refine lv_aload_n hx hb dL_law_914 rfl (lv_at hl 3 rfl) ?_
  refine lv_iload_n hx hb dL_law_915 rfl (lv_at hl 0 rfl) ?_
  refine lv_iconst (v := 1) hx hb dL_law_916 rfl ?_
  refine lv_iadd hx hb dL_law_917 ?_
  refine zz_i (v := nI (6 * k9 + 1)) (nI_add (6 * k9) 1) ?_
  refine va_sld hx hb hX hbl hbA hS (vp_in_nI (n := 6 * k9 + 1) (N := L9) (by omega) (by omega)) dL_law_918 ?_
  refine zz_i (v := v1) ((congrArg xs (nI_clamp (by omega))).trans h1) ?_
  exact k
theorem la_23_2 {p : Program} {e : Env} {s : State} {m : MethodId} {below : List Frame} {meth : Method} {c : Code} (l : Launch) {b L9 : Nat} {xs : Nat → Int32} (C0 : lw_At p s m meth c b L9 xs) {x k0 k9 ce sl : Nat} (hk9 : 6 * k9 + 6 ≤ L9) (hL9 : L9 ≤ 3072) {H : Heap} {locs : List Loc} {ls : Array Slot} {rest : List Value} (hS : va_S (fun q : Nat => s.heap.size ≤ q) s.heap H locs) (hl : lv_has ls 4 [(3, .int (nI (6 * k9))), (2, .ref k0), (1, .ref x), (0, .ref b)]) {v1 : Int32} (h1 : xs (6 * k9 + 1) = v1) (k : W p l e room_1 s m #[Value.ref b] below meth c H locs ce sl (lw_Z below #[Value.ref b] s) (F0 m 929 ls (.int v1 :: .ref k0 :: rest))) : W p l e room_1 s m #[Value.ref b] below meth c H locs ce sl (lw_Z below #[Value.ref b] s) (F0 m 923 ls (rest)) := by
  obtain ⟨hx, hb, hr, hml, hown, hts1, hX, hbl, hlocks, hgv⟩ := id C0
  have hbA : ¬ (fun q : Nat => s.heap.size ≤ q) b := Nat.not_le.mpr hbl
  refine lv_aload_n hx hb dL_law_923 rfl (lv_at hl 1 rfl) ?_
  refine lv_aload_n hx hb dL_law_924 rfl (lv_at hl 3 rfl) ?_
  refine lv_iload_n hx hb dL_law_925 rfl (lv_at hl 0 rfl) ?_
  refine lv_iconst (v := 1) hx hb dL_law_926 rfl ?_
  refine lv_iadd hx hb dL_law_927 ?_
  refine zz_i (v := nI (6 * k9 + 1)) (nI_add (6 * k9) 1) ?_
  refine va_sld hx hb hX hbl hbA hS (vp_in_nI (n := 6 * k9 + 1) (N := L9) (by omega) (by omega)) dL_law_928 ?_
  refine zz_i (v := v1) ((congrArg xs (nI_clamp (by omega))).trans h1) ?_
  exact k
theorem la_24_1 {p : Program} {e : Env} {s : State} {m : MethodId} {below : List Frame} {meth : Method} {c : Code} (l : Launch) {b L9 : Nat} {xs : Nat → Int32} (C0 : lw_At p s m meth c b L9 xs) {x k0 k9 ce sl : Nat} (hk9 : 6 * k9 + 6 ≤ L9) (hL9 : L9 ≤ 3072) {H : Heap} {locs : List Loc} {ls : Array Slot} {rest : List Value} (hS : va_S (fun q : Nat => s.heap.size ≤ q) s.heap H locs) (hl : lv_has ls 4 [(3, .int (nI (6 * k9))), (2, .ref k0), (1, .ref x), (0, .ref b)]) {v1 : Int32} {v2 : Int32} {v3 : Int32} (h1 : xs (6 * k9 + 1) = v1) (h2 : xs (6 * k9 + 2) = v2) (h3 : xs (6 * k9 + 3) = v3) (k : W p l e room_1 s m #[Value.ref b] below meth c H locs ce sl (lw_Z below #[Value.ref b] s) (F0 m 952 ls (.int v3 :: .int v2 :: .int v1 :: .ref x :: rest))) : W p l e room_1 s m #[Value.ref b] below meth c H locs ce sl (lw_Z below #[Value.ref b] s) (F0 m 936 ls (rest)) := by
  obtain ⟨hx, hb, hr, hml, hown, hts1, hX, hbl, hlocks, hgv⟩ := id C0
  have hbA : ¬ (fun q : Nat => s.heap.size ≤ q) b := Nat.not_le.mpr hbl
  refine lv_aload_n hx hb dL_law_936 rfl (lv_at hl 2 rfl) ?_
  refine lv_aload_n hx hb dL_law_937 rfl (lv_at hl 3 rfl) ?_
  refine lv_iload_n hx hb dL_law_938 rfl (lv_at hl 0 rfl) ?_
  refine lv_iconst (v := 1) hx hb dL_law_939 rfl ?_
  refine lv_iadd hx hb dL_law_940 ?_
  refine zz_i (v := nI (6 * k9 + 1)) (nI_add (6 * k9) 1) ?_
  refine va_sld hx hb hX hbl hbA hS (vp_in_nI (n := 6 * k9 + 1) (N := L9) (by omega) (by omega)) dL_law_941 ?_
  refine zz_i (v := v1) ((congrArg xs (nI_clamp (by omega))).trans h1) ?_
  refine lv_aload_n hx hb dL_law_942 rfl (lv_at hl 3 rfl) ?_
  refine lv_iload_n hx hb dL_law_943 rfl (lv_at hl 0 rfl) ?_
  refine lv_iconst (v := 2) hx hb dL_law_944 rfl ?_
  refine lv_iadd hx hb dL_law_945 ?_
  refine zz_i (v := nI (6 * k9 + 2)) (nI_add (6 * k9) 2) ?_
  refine va_sld hx hb hX hbl hbA hS (vp_in_nI (n := 6 * k9 + 2) (N := L9) (by omega) (by omega)) dL_law_946 ?_
  refine zz_i (v := v2) ((congrArg xs (nI_clamp (by omega))).trans h2) ?_
  refine lv_aload_n hx hb dL_law_947 rfl (lv_at hl 3 rfl) ?_
  refine lv_iload_n hx hb dL_law_948 rfl (lv_at hl 0 rfl) ?_
  refine lv_iconst (v := 3) hx hb dL_law_949 rfl ?_
  refine lv_iadd hx hb dL_law_950 ?_
  refine zz_i (v := nI (6 * k9 + 3)) (nI_add (6 * k9) 3) ?_
  refine va_sld hx hb hX hbl hbA hS (vp_in_nI (n := 6 * k9 + 3) (N := L9) (by omega) (by omega)) dL_law_951 ?_
  refine zz_i (v := v3) ((congrArg xs (nI_clamp (by omega))).trans h3) ?_
  exact k
theorem la_24_2 {p : Program} {e : Env} {s : State} {m : MethodId} {below : List Frame} {meth : Method} {c : Code} (l : Launch) {b L9 : Nat} {xs : Nat → Int32} (C0 : lw_At p s m meth c b L9 xs) {x k0 k9 ce sl : Nat} (hk9 : 6 * k9 + 6 ≤ L9) (hL9 : L9 ≤ 3072) {H : Heap} {locs : List Loc} {ls : Array Slot} {rest : List Value} (hS : va_S (fun q : Nat => s.heap.size ≤ q) s.heap H locs) (hl : lv_has ls 4 [(3, .int (nI (6 * k9))), (2, .ref k0), (1, .ref x), (0, .ref b)]) {v1 : Int32} {v2 : Int32} {v3 : Int32} (h1 : xs (6 * k9 + 1) = v1) (h2 : xs (6 * k9 + 2) = v2) (h3 : xs (6 * k9 + 3) = v3) (k : W p l e room_1 s m #[Value.ref b] below meth c H locs ce sl (lw_Z below #[Value.ref b] s) (F0 m 972 ls (.int v3 :: .int v2 :: .int v1 :: .ref k0 :: rest))) : W p l e room_1 s m #[Value.ref b] below meth c H locs ce sl (lw_Z below #[Value.ref b] s) (F0 m 956 ls (rest)) := by
  obtain ⟨hx, hb, hr, hml, hown, hts1, hX, hbl, hlocks, hgv⟩ := id C0
  have hbA : ¬ (fun q : Nat => s.heap.size ≤ q) b := Nat.not_le.mpr hbl
  refine lv_aload_n hx hb dL_law_956 rfl (lv_at hl 1 rfl) ?_
  refine lv_aload_n hx hb dL_law_957 rfl (lv_at hl 3 rfl) ?_
  refine lv_iload_n hx hb dL_law_958 rfl (lv_at hl 0 rfl) ?_
  refine lv_iconst (v := 1) hx hb dL_law_959 rfl ?_
  refine lv_iadd hx hb dL_law_960 ?_
  refine zz_i (v := nI (6 * k9 + 1)) (nI_add (6 * k9) 1) ?_
  refine va_sld hx hb hX hbl hbA hS (vp_in_nI (n := 6 * k9 + 1) (N := L9) (by omega) (by omega)) dL_law_961 ?_
  refine zz_i (v := v1) ((congrArg xs (nI_clamp (by omega))).trans h1) ?_
  refine lv_aload_n hx hb dL_law_962 rfl (lv_at hl 3 rfl) ?_
  refine lv_iload_n hx hb dL_law_963 rfl (lv_at hl 0 rfl) ?_
  refine lv_iconst (v := 2) hx hb dL_law_964 rfl ?_
  refine lv_iadd hx hb dL_law_965 ?_
  refine zz_i (v := nI (6 * k9 + 2)) (nI_add (6 * k9) 2) ?_
  refine va_sld hx hb hX hbl hbA hS (vp_in_nI (n := 6 * k9 + 2) (N := L9) (by omega) (by omega)) dL_law_966 ?_
  refine zz_i (v := v2) ((congrArg xs (nI_clamp (by omega))).trans h2) ?_
  refine lv_aload_n hx hb dL_law_967 rfl (lv_at hl 3 rfl) ?_
  refine lv_iload_n hx hb dL_law_968 rfl (lv_at hl 0 rfl) ?_
  refine lv_iconst (v := 3) hx hb dL_law_969 rfl ?_
  refine lv_iadd hx hb dL_law_970 ?_
  refine zz_i (v := nI (6 * k9 + 3)) (nI_add (6 * k9) 3) ?_
  refine va_sld hx hb hX hbl hbA hS (vp_in_nI (n := 6 * k9 + 3) (N := L9) (by omega) (by omega)) dL_law_971 ?_
  refine zz_i (v := v3) ((congrArg xs (nI_clamp (by omega))).trans h3) ?_
  exact k
theorem la_25_1 {p : Program} {e : Env} {s : State} {m : MethodId} {below : List Frame} {meth : Method} {c : Code} (l : Launch) {b L9 : Nat} {xs : Nat → Int32} (C0 : lw_At p s m meth c b L9 xs) {x k0 k9 ce sl : Nat} (hk9 : 6 * k9 + 6 ≤ L9) (hL9 : L9 ≤ 3072) {H : Heap} {locs : List Loc} {ls : Array Slot} {rest : List Value} (hS : va_S (fun q : Nat => s.heap.size ≤ q) s.heap H locs) (hl : lv_has ls 4 [(3, .int (nI (6 * k9))), (2, .ref k0), (1, .ref x), (0, .ref b)]) {v1 : Int32} {v2 : Int32} (h1 : xs (6 * k9 + 1) = v1) (h2 : xs (6 * k9 + 2) = v2) (k : W p l e room_1 s m #[Value.ref b] below meth c H locs ce sl (lw_Z below #[Value.ref b] s) (F0 m 990 ls (.int v2 :: .int v1 :: .ref x :: rest))) : W p l e room_1 s m #[Value.ref b] below meth c H locs ce sl (lw_Z below #[Value.ref b] s) (F0 m 979 ls (rest)) := by
  obtain ⟨hx, hb, hr, hml, hown, hts1, hX, hbl, hlocks, hgv⟩ := id C0
  have hbA : ¬ (fun q : Nat => s.heap.size ≤ q) b := Nat.not_le.mpr hbl
  refine lv_aload_n hx hb dL_law_979 rfl (lv_at hl 2 rfl) ?_
  refine lv_aload_n hx hb dL_law_980 rfl (lv_at hl 3 rfl) ?_
  refine lv_iload_n hx hb dL_law_981 rfl (lv_at hl 0 rfl) ?_
  refine lv_iconst (v := 1) hx hb dL_law_982 rfl ?_
  refine lv_iadd hx hb dL_law_983 ?_
  refine zz_i (v := nI (6 * k9 + 1)) (nI_add (6 * k9) 1) ?_
  refine va_sld hx hb hX hbl hbA hS (vp_in_nI (n := 6 * k9 + 1) (N := L9) (by omega) (by omega)) dL_law_984 ?_
  refine zz_i (v := v1) ((congrArg xs (nI_clamp (by omega))).trans h1) ?_
  refine lv_aload_n hx hb dL_law_985 rfl (lv_at hl 3 rfl) ?_
  refine lv_iload_n hx hb dL_law_986 rfl (lv_at hl 0 rfl) ?_
  refine lv_iconst (v := 2) hx hb dL_law_987 rfl ?_
  refine lv_iadd hx hb dL_law_988 ?_
  refine zz_i (v := nI (6 * k9 + 2)) (nI_add (6 * k9) 2) ?_
  refine va_sld hx hb hX hbl hbA hS (vp_in_nI (n := 6 * k9 + 2) (N := L9) (by omega) (by omega)) dL_law_989 ?_
  refine zz_i (v := v2) ((congrArg xs (nI_clamp (by omega))).trans h2) ?_
  exact k
theorem la_25_2 {p : Program} {e : Env} {s : State} {m : MethodId} {below : List Frame} {meth : Method} {c : Code} (l : Launch) {b L9 : Nat} {xs : Nat → Int32} (C0 : lw_At p s m meth c b L9 xs) {x k0 k9 ce sl : Nat} (hk9 : 6 * k9 + 6 ≤ L9) (hL9 : L9 ≤ 3072) {H : Heap} {locs : List Loc} {ls : Array Slot} {rest : List Value} (hS : va_S (fun q : Nat => s.heap.size ≤ q) s.heap H locs) (hl : lv_has ls 4 [(3, .int (nI (6 * k9))), (2, .ref k0), (1, .ref x), (0, .ref b)]) {v1 : Int32} {v2 : Int32} (h1 : xs (6 * k9 + 1) = v1) (h2 : xs (6 * k9 + 2) = v2) (k : W p l e room_1 s m #[Value.ref b] below meth c H locs ce sl (lw_Z below #[Value.ref b] s) (F0 m 1005 ls (.int v2 :: .int v1 :: .ref k0 :: rest))) : W p l e room_1 s m #[Value.ref b] below meth c H locs ce sl (lw_Z below #[Value.ref b] s) (F0 m 994 ls (rest)) := by
  obtain ⟨hx, hb, hr, hml, hown, hts1, hX, hbl, hlocks, hgv⟩ := id C0
  have hbA : ¬ (fun q : Nat => s.heap.size ≤ q) b := Nat.not_le.mpr hbl
  refine lv_aload_n hx hb dL_law_994 rfl (lv_at hl 1 rfl) ?_
  refine lv_aload_n hx hb dL_law_995 rfl (lv_at hl 3 rfl) ?_
  refine lv_iload_n hx hb dL_law_996 rfl (lv_at hl 0 rfl) ?_
  refine lv_iconst (v := 1) hx hb dL_law_997 rfl ?_
  refine lv_iadd hx hb dL_law_998 ?_
  refine zz_i (v := nI (6 * k9 + 1)) (nI_add (6 * k9) 1) ?_
  refine va_sld hx hb hX hbl hbA hS (vp_in_nI (n := 6 * k9 + 1) (N := L9) (by omega) (by omega)) dL_law_999 ?_
  refine zz_i (v := v1) ((congrArg xs (nI_clamp (by omega))).trans h1) ?_
  refine lv_aload_n hx hb dL_law_1000 rfl (lv_at hl 3 rfl) ?_
  refine lv_iload_n hx hb dL_law_1001 rfl (lv_at hl 0 rfl) ?_
  refine lv_iconst (v := 2) hx hb dL_law_1002 rfl ?_
  refine lv_iadd hx hb dL_law_1003 ?_
  refine zz_i (v := nI (6 * k9 + 2)) (nI_add (6 * k9) 2) ?_
  refine va_sld hx hb hX hbl hbA hS (vp_in_nI (n := 6 * k9 + 2) (N := L9) (by omega) (by omega)) dL_law_1004 ?_
  refine zz_i (v := v2) ((congrArg xs (nI_clamp (by omega))).trans h2) ?_
  exact k
theorem la_26_1 {p : Program} {e : Env} {s : State} {m : MethodId} {below : List Frame} {meth : Method} {c : Code} (l : Launch) {b L9 : Nat} {xs : Nat → Int32} (C0 : lw_At p s m meth c b L9 xs) {x k0 k9 ce sl : Nat} (hk9 : 6 * k9 + 6 ≤ L9) (hL9 : L9 ≤ 3072) {H : Heap} {locs : List Loc} {ls : Array Slot} {rest : List Value} (hS : va_S (fun q : Nat => s.heap.size ≤ q) s.heap H locs) (hl : lv_has ls 4 [(3, .int (nI (6 * k9))), (2, .ref k0), (1, .ref x), (0, .ref b)]) {v1 : Int32} {v2 : Int32} (h1 : xs (6 * k9 + 1) = v1) (h2 : xs (6 * k9 + 2) = v2) (k : W p l e room_1 s m #[Value.ref b] below meth c H locs ce sl (lw_Z below #[Value.ref b] s) (F0 m 1023 ls (.int v2 :: .int v1 :: .ref x :: rest))) : W p l e room_1 s m #[Value.ref b] below meth c H locs ce sl (lw_Z below #[Value.ref b] s) (F0 m 1012 ls (rest)) := by
  obtain ⟨hx, hb, hr, hml, hown, hts1, hX, hbl, hlocks, hgv⟩ := id C0
  have hbA : ¬ (fun q : Nat => s.heap.size ≤ q) b := Nat.not_le.mpr hbl
  refine lv_aload_n hx hb dL_law_1012 rfl (lv_at hl 2 rfl) ?_
  refine lv_aload_n hx hb dL_law_1013 rfl (lv_at hl 3 rfl) ?_
  refine lv_iload_n hx hb dL_law_1014 rfl (lv_at hl 0 rfl) ?_
  refine lv_iconst (v := 1) hx hb dL_law_1015 rfl ?_
  refine lv_iadd hx hb dL_law_1016 ?_
  refine zz_i (v := nI (6 * k9 + 1)) (nI_add (6 * k9) 1) ?_
  refine va_sld hx hb hX hbl hbA hS (vp_in_nI (n := 6 * k9 + 1) (N := L9) (by omega) (by omega)) dL_law_1017 ?_
  refine zz_i (v := v1) ((congrArg xs (nI_clamp (by omega))).trans h1) ?_
  refine lv_aload_n hx hb dL_law_1018 rfl (lv_at hl 3 rfl) ?_
  refine lv_iload_n hx hb dL_law_1019 rfl (lv_at hl 0 rfl) ?_
  refine lv_iconst (v := 2) hx hb dL_law_1020 rfl ?_
  refine lv_iadd hx hb dL_law_1021 ?_
  refine zz_i (v := nI (6 * k9 + 2)) (nI_add (6 * k9) 2) ?_
  refine va_sld hx hb hX hbl hbA hS (vp_in_nI (n := 6 * k9 + 2) (N := L9) (by omega) (by omega)) dL_law_1022 ?_
  refine zz_i (v := v2) ((congrArg xs (nI_clamp (by omega))).trans h2) ?_
  exact k
theorem la_26_2 {p : Program} {e : Env} {s : State} {m : MethodId} {below : List Frame} {meth : Method} {c : Code} (l : Launch) {b L9 : Nat} {xs : Nat → Int32} (C0 : lw_At p s m meth c b L9 xs) {x k0 k9 ce sl : Nat} (hk9 : 6 * k9 + 6 ≤ L9) (hL9 : L9 ≤ 3072) {H : Heap} {locs : List Loc} {ls : Array Slot} {rest : List Value} (hS : va_S (fun q : Nat => s.heap.size ≤ q) s.heap H locs) (hl : lv_has ls 4 [(3, .int (nI (6 * k9))), (2, .ref k0), (1, .ref x), (0, .ref b)]) {v1 : Int32} {v2 : Int32} (h1 : xs (6 * k9 + 1) = v1) (h2 : xs (6 * k9 + 2) = v2) (k : W p l e room_1 s m #[Value.ref b] below meth c H locs ce sl (lw_Z below #[Value.ref b] s) (F0 m 1038 ls (.int v2 :: .int v1 :: .ref k0 :: rest))) : W p l e room_1 s m #[Value.ref b] below meth c H locs ce sl (lw_Z below #[Value.ref b] s) (F0 m 1027 ls (rest)) := by
  obtain ⟨hx, hb, hr, hml, hown, hts1, hX, hbl, hlocks, hgv⟩ := id C0
  have hbA : ¬ (fun q : Nat => s.heap.size ≤ q) b := Nat.not_le.mpr hbl
  refine lv_aload_n hx hb dL_law_1027 rfl (lv_at hl 1 rfl) ?_
  refine lv_aload_n hx hb dL_law_1028 rfl (lv_at hl 3 rfl) ?_
  refine lv_iload_n hx hb dL_law_1029 rfl (lv_at hl 0 rfl) ?_
  refine lv_iconst (v := 1) hx hb dL_law_1030 rfl ?_
  refine lv_iadd hx hb dL_law_1031 ?_
  refine zz_i (v := nI (6 * k9 + 1)) (nI_add (6 * k9) 1) ?_
  refine va_sld hx hb hX hbl hbA hS (vp_in_nI (n := 6 * k9 + 1) (N := L9) (by omega) (by omega)) dL_law_1032 ?_
  refine zz_i (v := v1) ((congrArg xs (nI_clamp (by omega))).trans h1) ?_
  refine lv_aload_n hx hb dL_law_1033 rfl (lv_at hl 3 rfl) ?_
  refine lv_iload_n hx hb dL_law_1034 rfl (lv_at hl 0 rfl) ?_
  refine lv_iconst (v := 2) hx hb dL_law_1035 rfl ?_
  refine lv_iadd hx hb dL_law_1036 ?_
  refine zz_i (v := nI (6 * k9 + 2)) (nI_add (6 * k9) 2) ?_
  refine va_sld hx hb hX hbl hbA hS (vp_in_nI (n := 6 * k9 + 2) (N := L9) (by omega) (by omega)) dL_law_1037 ?_
  refine zz_i (v := v2) ((congrArg xs (nI_clamp (by omega))).trans h2) ?_
  exact k
theorem la_27_1 {p : Program} {e : Env} {s : State} {m : MethodId} {below : List Frame} {meth : Method} {c : Code} (l : Launch) {b L9 : Nat} {xs : Nat → Int32} (C0 : lw_At p s m meth c b L9 xs) {x k0 k9 ce sl : Nat} (hk9 : 6 * k9 + 6 ≤ L9) (hL9 : L9 ≤ 3072) {H : Heap} {locs : List Loc} {ls : Array Slot} {rest : List Value} (hS : va_S (fun q : Nat => s.heap.size ≤ q) s.heap H locs) (hl : lv_has ls 4 [(3, .int (nI (6 * k9))), (2, .ref k0), (1, .ref x), (0, .ref b)]) {v1 : Int32} (h1 : xs (6 * k9 + 1) = v1) (k : W p l e room_1 s m #[Value.ref b] below meth c H locs ce sl (lw_Z below #[Value.ref b] s) (F0 m 1051 ls (.int v1 :: .ref x :: rest))) : W p l e room_1 s m #[Value.ref b] below meth c H locs ce sl (lw_Z below #[Value.ref b] s) (F0 m 1045 ls (rest)) := by
  obtain ⟨hx, hb, hr, hml, hown, hts1, hX, hbl, hlocks, hgv⟩ := id C0
  have hbA : ¬ (fun q : Nat => s.heap.size ≤ q) b := Nat.not_le.mpr hbl
  refine lv_aload_n hx hb dL_law_1045 rfl (lv_at hl 2 rfl) ?_
  refine lv_aload_n hx hb dL_law_1046 rfl (lv_at hl 3 rfl) ?_
  refine lv_iload_n hx hb dL_law_1047 rfl (lv_at hl 0 rfl) ?_
  refine lv_iconst (v := 1) hx hb dL_law_1048 rfl ?_
  refine lv_iadd hx hb dL_law_1049 ?_
  refine zz_i (v := nI (6 * k9 + 1)) (nI_add (6 * k9) 1) ?_
  refine va_sld hx hb hX hbl hbA hS (vp_in_nI (n := 6 * k9 + 1) (N := L9) (by omega) (by omega)) dL_law_1050 ?_
  refine zz_i (v := v1) ((congrArg xs (nI_clamp (by omega))).trans h1) ?_
  exact k
theorem la_27_2 {p : Program} {e : Env} {s : State} {m : MethodId} {below : List Frame} {meth : Method} {c : Code} (l : Launch) {b L9 : Nat} {xs : Nat → Int32} (C0 : lw_At p s m meth c b L9 xs) {x k0 k9 ce sl : Nat} (hk9 : 6 * k9 + 6 ≤ L9) (hL9 : L9 ≤ 3072) {H : Heap} {locs : List Loc} {ls : Array Slot} {rest : List Value} (hS : va_S (fun q : Nat => s.heap.size ≤ q) s.heap H locs) (hl : lv_has ls 4 [(3, .int (nI (6 * k9))), (2, .ref k0), (1, .ref x), (0, .ref b)]) {v1 : Int32} (h1 : xs (6 * k9 + 1) = v1) (k : W p l e room_1 s m #[Value.ref b] below meth c H locs ce sl (lw_Z below #[Value.ref b] s) (F0 m 1061 ls (.int v1 :: .ref k0 :: rest))) : W p l e room_1 s m #[Value.ref b] below meth c H locs ce sl (lw_Z below #[Value.ref b] s) (F0 m 1055 ls (rest)) := by
  obtain ⟨hx, hb, hr, hml, hown, hts1, hX, hbl, hlocks, hgv⟩ := id C0
  have hbA : ¬ (fun q : Nat => s.heap.size ≤ q) b := Nat.not_le.mpr hbl
  refine lv_aload_n hx hb dL_law_1055 rfl (lv_at hl 1 rfl) ?_
  refine lv_aload_n hx hb dL_law_1056 rfl (lv_at hl 3 rfl) ?_
  refine lv_iload_n hx hb dL_law_1057 rfl (lv_at hl 0 rfl) ?_
  refine lv_iconst (v := 1) hx hb dL_law_1058 rfl ?_
  refine lv_iadd hx hb dL_law_1059 ?_
  refine zz_i (v := nI (6 * k9 + 1)) (nI_add (6 * k9) 1) ?_
  refine va_sld hx hb hX hbl hbA hS (vp_in_nI (n := 6 * k9 + 1) (N := L9) (by omega) (by omega)) dL_law_1060 ?_
  refine zz_i (v := v1) ((congrArg xs (nI_clamp (by omega))).trans h1) ?_
  exact k
theorem la_28_1 {p : Program} {e : Env} {s : State} {m : MethodId} {below : List Frame} {meth : Method} {c : Code} (l : Launch) {b L9 : Nat} {xs : Nat → Int32} (C0 : lw_At p s m meth c b L9 xs) {x k0 k9 ce sl : Nat} (hk9 : 6 * k9 + 6 ≤ L9) (hL9 : L9 ≤ 3072) {H : Heap} {locs : List Loc} {ls : Array Slot} {rest : List Value} (hS : va_S (fun q : Nat => s.heap.size ≤ q) s.heap H locs) (hl : lv_has ls 4 [(3, .int (nI (6 * k9))), (2, .ref k0), (1, .ref x), (0, .ref b)]) (k : W p l e room_1 s m #[Value.ref b] below meth c H locs ce sl (lw_Z below #[Value.ref b] s) (F0 m 1069 ls (.ref x :: rest))) : W p l e room_1 s m #[Value.ref b] below meth c H locs ce sl (lw_Z below #[Value.ref b] s) (F0 m 1068 ls (rest)) := by
  obtain ⟨hx, hb, hr, hml, hown, hts1, hX, hbl, hlocks, hgv⟩ := id C0
  have hbA : ¬ (fun q : Nat => s.heap.size ≤ q) b := Nat.not_le.mpr hbl
  refine lv_aload_n hx hb dL_law_1068 rfl (lv_at hl 2 rfl) ?_
  exact k
theorem la_28_2 {p : Program} {e : Env} {s : State} {m : MethodId} {below : List Frame} {meth : Method} {c : Code} (l : Launch) {b L9 : Nat} {xs : Nat → Int32} (C0 : lw_At p s m meth c b L9 xs) {x k0 k9 ce sl : Nat} (hk9 : 6 * k9 + 6 ≤ L9) (hL9 : L9 ≤ 3072) {H : Heap} {locs : List Loc} {ls : Array Slot} {rest : List Value} (hS : va_S (fun q : Nat => s.heap.size ≤ q) s.heap H locs) (hl : lv_has ls 4 [(3, .int (nI (6 * k9))), (2, .ref k0), (1, .ref x), (0, .ref b)]) (k : W p l e room_1 s m #[Value.ref b] below meth c H locs ce sl (lw_Z below #[Value.ref b] s) (F0 m 1074 ls (.ref k0 :: rest))) : W p l e room_1 s m #[Value.ref b] below meth c H locs ce sl (lw_Z below #[Value.ref b] s) (F0 m 1073 ls (rest)) := by
  obtain ⟨hx, hb, hr, hml, hown, hts1, hX, hbl, hlocks, hgv⟩ := id C0
  have hbA : ¬ (fun q : Nat => s.heap.size ≤ q) b := Nat.not_le.mpr hbl
  refine lv_aload_n hx hb dL_law_1073 rfl (lv_at hl 1 rfl) ?_
  exact k
end
