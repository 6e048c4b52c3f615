section
set_option maxHeartbeats 4000000 in
set_option maxRecDepth 100000 in
theorem k_M_changes_mn (l : Launch) (dC : Nat → ClassId) (dI : Nat → Nat → Nat) (cI cZ cF : ClassId) (sz : Nat) (k0 : Nat) (a : Nat → Nat) (I0 : Nat → Int32) (J0 : Nat → Int64) (f : Nat) (n : Nat) (ft : Nat) (on : Nat) (ok : Int32) (h : Nat) (kd : Nat → Int32) (st : Nat → Int32) (gb : Nat → Int32) (it : Nat → Int32) (pa : Nat → Int32) (pb : Nat → Int32) (rk : Nat → Int32) (wd : Nat → Int32) (tw : Nat → Int32) (tn : Nat → Int32) (mn : Nat → Int32) (cx : Nat → Int32) (cy : Nat → Int32) (sa : Nat → Int32) (sh : Nat → Int32) (wh : Nat → Int32) (of9 : Nat → Int32) (we : Nat → Int32) (S0 : Nat → Int32) (T0 : Nat → Int32) (P0 : Nat → Int32) (Q0 : Nat → Int32) (ox : Nat → Int32) (oy : Nat → Int32) (mt : Nat → Int32) (wi : Nat → Int32) (ins : Nat → Int32) (la : Nat → Int32) (lb : Nat → Int32) (lc : Nat → Int32) (ld : Nat → Int32) (MT : Nat → Prop) (WI : Nat → Prop) (IN : Nat → Nat → Prop) (cp : Nat) (cl : Nat) (hft : I0 0 = nI ft) (h200 : ft ≤ 200) (hf_f : f ≤ 200) (hm_f : mn f = nI n) (hn_f : n ≤ 40) (hwf : ∀ q, lvF ft st tn q → q ≠ f → wfM mn cx cy q) (ho40 : on ≤ 40) (ho1 : 1 ≤ on) (hpo : pls on ox oy) (hmt : ∀ q, lvF ft st tn q → q ≠ f → mt q = pI (MT q)) (hwi : ∀ q, lvF ft st tn q → q ≠ f → 5 ≤ (kd q).toInt → wi q = pI (WI q)) (hin : ∀ q, lvF ft st tn q → q ≠ f → ∀ k, k < nN (mn q) → 5 ≤ (kd f).toInt → ins (40 * q + k) = pI (IN q k)) (hh : h < 5) (hon2 : n = on) (hft_f : f < ft) (hno : ¬ lwA ft st tn kd mn cx cy f n (ox 0) (oy 0) MT WI IN (sWm (kd f).toInt on ox oy cx cy f)) : zM l yX11_changes cX11_changes 5 (some .boolean) ({ frames := 7, cells := 0, slots := 0, locals := 186 } : Room) [.ref k0, .int (nI f), .int (nI h)] (dC, dI) (zTy cI cZ cF) [(om k0 a (upd (upd I0 35 (nI on)) 36 ok) J0), (oa (a 1) cI 201 kd), (oa (a 5) cI 201 st), (oa (a 7) cI 201 gb), (oa (a 10) cI 201 it), (oa (a 8) cI 201 pa), (oa (a 9) cI 201 pb), (oa (a 2) cI 201 rk), (oa (a 3) cI 201 wd), (oa (a 4) cI 201 tw), (oa (a 6) cZ 201 tn), (oa (a 11) cI 201 mn), (oa (a 12) cI 8040 cx), (oa (a 13) cI 8040 cy), (oa (a 27) cI 516 sa), (oa (a 28) cI (4096 * cp) sh), (oa (a 16) cI 514 wh), (oa (a 17) cI 514 of9), (oa (a 18) cI 514 we), (oa (a 32) cI 8 S0), (oa (a 40) cI 6 T0), (oa (a 29) cI 42 P0), (oa (a 30) cI 42 Q0), (oa (a 33) cI 42 ox), (oa (a 34) cI 42 oy), (oa (a 37) cZ 201 mt), (oa (a 38) cZ 201 wi), (oa (a 39) cZ 8040 ins), (oa (a 22) cI (64 * cl) la), (oa (a 23) cI (64 * cl) lb), (oa (a 24) cI (64 * cl) lc), (oa (a 25) cI (64 * cl) ld)] sz (some (.int 0)) (fun A t => ∃ (z9 : Int32), ∃ (S1 : Nat → Int32), ∃ (T1 : Nat → Int32), ∃ (P1 : Nat → Int32), ∃ (Q1 : Nat → Int32), zPD (dC, dI) classes A [(om k0 a (upd (upd (upd (upd (upd I0 14 7) 15 (I0 15 + 1)) 31 z9) 35 (nI on)) 36 ok) J0), (oa (a 1) cI 201 (upd kd f ok)), (oa (a 5) cI 201 st), (oa (a 7) cI 201 gb), (oa (a 10) cI 201 it), (oa (a 8) cI 201 pa), (oa (a 9) cI 201 pb), (oa (a 2) cI 201 rk), (oa (a 3) cI 201 wd), (oa (a 4) cI 201 tw), (oa (a 6) cZ 201 tn), (oa (a 11) cI 201 (upd mn f (nI on))), (oa (a 12) cI 8040 (fgX f on ox cx)), (oa (a 13) cI 8040 (fgX f on oy cy)), (oa (a 27) cI 516 sa), (oa (a 28) cI (4096 * cp) sh), (oa (a 16) cI 514 wh), (oa (a 17) cI 514 of9), (oa (a 18) cI 514 we), (oa (a 32) cI 8 S1), (oa (a 40) cI 6 T1), (oa (a 29) cI 42 P1), (oa (a 30) cI 42 Q1), (oa (a 33) cI 42 ox), (oa (a 34) cI 42 oy), (oa (a 37) cZ 201 mt), (oa (a 38) cZ 201 wi), (oa (a 39) cZ 8040 ins), (oa (a 22) cI (64 * cl) la), (oa (a 23) cI (64 * cl) lb), (oa (a 24) cI (64 * cl) lc), (oa (a 25) cI (64 * cl) ld)] t.heap) 0 0 := by
  refine zIn (own := "ScaleShopModel") (loc := [(0, .ref k0), (1, .int (nI f)), (2, .int (nI h))]) rfl rfl rfl rfl (fun p e s m below meth c hx hb hr hts hown hlocks hml hnm9 A hA hS hP hD hK hXN Q9 hQ9 ls hl => ?_)
  refine lv_aload_n hx hb dX11_changes_0 rfl (lv_at hl 0 rfl) ?_
  refine lv_iload_n hx hb dX11_changes_1 rfl (lv_at hl 1 rfl) ?_
  refine lv_iload_n hx hb dX11_changes_2 rfl (lv_at hl 2 rfl) ?_
  refine lv_iconst (v := (-1)) hx hb dX11_changes_3 rfl ?_
  obtain ⟨hPc, hDc, hFc⟩ := zo_sub (wc := [_, _, _, _, _, _, _, _, _, _, _, _, _, _, _, _]) hP hD hS hA [0, 2, 10, 1, 11, 12, 13, 19, 20, 21, 22, 23, 24, 25, 26, 27] (by decide +kernel) rfl
  refine zcall (st1 := [.int (pI (lwA ft st tn kd mn cx cy f n (ox 0) (oy 0) MT WI IN (sWm (kd f).toInt on ox oy cx cy f)))]) (va_runV (As := [.int (nI f), .int (nI h), .int (-1)]) (rest := []) ⟨hx, hb, hml, hown, hts⟩ (k_M_isLawful_m l dC dI cI cZ cF s.heap.size k0 a (upd (upd I0 35 (nI on)) 36 ok) J0 f n ft on h st tn kd mn cx cy S0 T0 P0 Q0 ox oy mt wi ins MT WI IN (by first | with_reducible assumption | assumption) (by first | with_reducible assumption | omega) (by first | with_reducible assumption | omega) (by first | with_reducible assumption | assumption) (by first | with_reducible assumption | omega) (by first | with_reducible assumption | assumption) (rfl) (by first | with_reducible assumption | omega) (by first | with_reducible assumption | omega) (by first | with_reducible assumption | assumption) (by first | with_reducible assumption | assumption) (by first | with_reducible assumption | assumption) (by first | with_reducible assumption | assumption) (by first | with_reducible assumption | omega) (by first | with_reducible assumption | omega)) (csV_191 hts rfl rfl ⟨Nat.le_of_ble_eq_true rfl, Nat.le_of_ble_eq_true rfl⟩) (zPV2 (q0 := 0) (ci := 9) hPc hDc hK hXN rfl rfl) rfl rfl hl.1 rfl (lv_room (Nat.le_of_ble_eq_true rfl)) dX11_changes_4 ⟨Nat.le_of_ble_eq_true rfl, Nat.le_of_ble_eq_true rfl⟩) hS hFc hFc rfl (fun t H locs ht hB hk1 hS => ?_)
  obtain ⟨z8, S1, T1, P8, Q8, hP1, hD1⟩ := hB
  rw [ht] at hP1
  obtain ⟨hP, hD⟩ := zn (W2 := [(om k0 a (upd (upd (upd I0 31 z8) 35 (nI on)) 36 ok) J0), _, _, _, _, _, _, _, _, _, _, _, _, _, _, _, _, _, _, (oa (a 32) cI 8 S1), (oa (a 40) cI 6 T1), (oa (a 29) cI 42 P8), (oa (a 30) cI 42 Q8), _, _, _, _, _, _, _, _, _]) hP hD hk1 hFc hP1 hD1 zl_180 zl_181 zl_181 zl_180 (by decide +kernel) rfl rfl rfl rfl rfl
  clear hk1 hPc hDc hFc hP1 hD1 ht
  refine zz_i (v := pI (lwA ft st tn kd mn cx cy f n (ox 0) (oy 0) MT WI IN (sWm (kd f).toInt on ox oy cx cy f))) (rfl) ?_
  refine lv_if_ne (tgt := 22) hx hb dX11_changes_7 rfl (fun c_1 => ?_) (fun c_1 => ?_)
  · have c_1 : lwA ft st tn kd mn cx cy f n (ox 0) (oy 0) MT WI IN (sWm (kd f).toInt on ox oy cx cy f) := zp_1 c_1
    exfalso; exact absurd (by first | with_reducible assumption | assumption) hno
  · have c_1 : ¬ (lwA ft st tn kd mn cx cy f n (ox 0) (oy 0) MT WI IN (sWm (kd f).toInt on ox oy cx cy f)) := zp_0 c_1
    refine lv_aload_n hx hb dX11_changes_10 rfl (lv_at hl 0 rfl) ?_
    refine lv_iload_n hx hb dX11_changes_11 rfl (lv_at hl 1 rfl) ?_
    obtain ⟨hPc, hDc, hFc⟩ := zo_sub (wc := [_, _, _, _, _, _, _]) hP hD hS hA [0, 1, 11, 12, 13, 23, 24] (by decide +kernel) rfl
    refine zcall (st1 := []) (va_runV (As := [.int (nI f)]) (rest := []) ⟨hx, hb, hml, hown, hts⟩ (k_M_forgetNew l dC dI cI cZ cF H.size k0 a (upd (upd (upd I0 31 z8) 35 (nI on)) 36 ok) J0 f on kd mn cx cy ox oy (by first | with_reducible assumption | omega) (rfl) (by first | with_reducible assumption | omega)) (csV_192 hts rfl rfl ⟨Nat.le_of_ble_eq_true rfl, Nat.le_of_ble_eq_true rfl⟩) (zPV2 (q0 := 0) (ci := 9) hPc hDc hK hXN rfl rfl) rfl rfl hl.1 rfl (lv_room (Nat.le_of_ble_eq_true rfl)) dX11_changes_12 ⟨Nat.le_of_ble_eq_true rfl, Nat.le_of_ble_eq_true rfl⟩) hS hFc hFc rfl (fun t H locs ht hB hk1 hS => ?_)
    obtain ⟨cx1, cy1, hc1, hc2, hP1, hD1⟩ := hB
    rw [ht] at hP1
    obtain ⟨hP, hD⟩ := zn (W2 := [_, (oa (a 1) cI 201 (upd kd f ((upd (upd (upd I0 31 z8) 35 (nI on)) 36 ok) 36))), _, _, _, _, _, _, _, _, _, (oa (a 11) cI 201 (upd mn f (nI on))), (oa (a 12) cI 8040 cx1), (oa (a 13) cI 8040 cy1), _, _, _, _, _, _, _, _, _, _, _, _, _, _, _, _, _, _]) hP hD hk1 hFc hP1 hD1 [0, 1, 11, 12, 13, 23, 24] zl_182 zl_182 [0, 1, 11, 12, 13, 23, 24] (by decide +kernel) rfl rfl rfl rfl rfl
    clear hk1 hPc hDc hFc hP1 hD1 ht
    have hfx := fgX_of (fun j hj => (hc1 j hj).1) (fun j hj => (hc2 j hj).1)
    have hfy := fgX_of (fun j hj => (hc1 j hj).2) (fun j hj => (hc2 j hj).2)
    refine lv_aload_n hx hb dX11_changes_15 rfl (lv_at hl 0 rfl) ?_
    refine lv_bipush (v := 7) hx hb dX11_changes_16 rfl ?_
    obtain ⟨hPc, hDc, hFc⟩ := zo_sub (wc := [_]) hP hD hS hA [0] rfl rfl
    refine zcall (st1 := [.int 0]) (va_runV (As := [.int 7]) (rest := []) ⟨hx, hb, hml, hown, hts⟩ (k_M_no_7 l dC dI cI cZ cF H.size k0 a (upd (upd (upd I0 31 z8) 35 (nI on)) 36 ok) J0 ) (csV_198 hts rfl rfl ⟨Nat.le_of_ble_eq_true rfl, Nat.le_of_ble_eq_true rfl⟩) (zPV2 (q0 := 0) (ci := 9) hPc hDc hK hXN rfl rfl) rfl rfl hl.1 rfl (lv_room (Nat.le_of_ble_eq_true rfl)) dX11_changes_18 ⟨Nat.le_of_ble_eq_true rfl, Nat.le_of_ble_eq_true rfl⟩) hS hFc hFc rfl (fun t H locs ht hB hk1 hS => ?_)
    obtain ⟨hP1, hD1⟩ := hB
    rw [ht] at hP1
    obtain ⟨hP, hD⟩ := zn (W2 := [(om k0 a (upd (upd (upd (upd (upd I0 14 7) 15 (I0 15 + 1)) 31 z8) 35 (nI on)) 36 ok) J0), _, _, _, _, _, _, _, _, _, _, _, _, _, _, _, _, _, _, _, _, _, _, _, _, _, _, _, _, _, _, _]) hP hD hk1 hFc hP1 hD1 [0] zl_183 zl_183 [0] (by decide +kernel) rfl rfl rfl rfl rfl
    clear hk1 hPc hDc hFc hP1 hD1 ht
    obtain ⟨hP9, hD9⟩ := zu_sub (wc := [(om k0 a (upd (upd (upd (upd (upd I0 14 7) 15 (I0 15 + 1)) 31 z8) 35 (nI on)) 36 ok) J0), (oa (a 1) cI 201 (upd kd f ((upd (upd (upd I0 31 z8) 35 (nI on)) 36 ok) 36))), (oa (a 5) cI 201 st), (oa (a 7) cI 201 gb), (oa (a 10) cI 201 it), (oa (a 8) cI 201 pa), (oa (a 9) cI 201 pb), (oa (a 2) cI 201 rk), (oa (a 3) cI 201 wd), (oa (a 4) cI 201 tw), (oa (a 6) cZ 201 tn), (oa (a 11) cI 201 (upd mn f (nI on))), (oa (a 12) cI 8040 cx1), (oa (a 13) cI 8040 cy1), (oa (a 27) cI 516 sa), (oa (a 28) cI (4096 * cp) sh), (oa (a 16) cI 514 wh), (oa (a 17) cI 514 of9), (oa (a 18) cI 514 we), (oa (a 32) cI 8 S1), (oa (a 40) cI 6 T1), (oa (a 29) cI 42 P8), (oa (a 30) cI 42 Q8), (oa (a 33) cI 42 ox), (oa (a 34) cI 42 oy), (oa (a 37) cZ 201 mt), (oa (a 38) cZ 201 wi), (oa (a 39) cZ 8040 ins), (oa (a 22) cI (64 * cl) la), (oa (a 23) cI (64 * cl) lb), (oa (a 24) cI (64 * cl) lc), (oa (a 25) cI (64 * cl) ld)]) hP hD (true :: true :: true :: true :: true :: true :: true :: true :: true :: true :: true :: true :: true :: true :: true :: true :: true :: true :: true :: true :: true :: true :: true :: true :: true :: true :: true :: true :: true :: true :: true :: true :: []) rfl rfl
    have hE9 : ([(om k0 a (upd (upd (upd (upd (upd I0 14 7) 15 (I0 15 + 1)) 31 z8) 35 (nI on)) 36 ok) J0), (oa (a 1) cI 201 (upd kd f ((upd (upd (upd I0 31 z8) 35 (nI on)) 36 ok) 36))), (oa (a 5) cI 201 st), (oa (a 7) cI 201 gb), (oa (a 10) cI 201 it), (oa (a 8) cI 201 pa), (oa (a 9) cI 201 pb), (oa (a 2) cI 201 rk), (oa (a 3) cI 201 wd), (oa (a 4) cI 201 tw), (oa (a 6) cZ 201 tn), (oa (a 11) cI 201 (upd mn f (nI on))), (oa (a 12) cI 8040 cx1), (oa (a 13) cI 8040 cy1), (oa (a 27) cI 516 sa), (oa (a 28) cI (4096 * cp) sh), (oa (a 16) cI 514 wh), (oa (a 17) cI 514 of9), (oa (a 18) cI 514 we), (oa (a 32) cI 8 S1), (oa (a 40) cI 6 T1), (oa (a 29) cI 42 P8), (oa (a 30) cI 42 Q8), (oa (a 33) cI 42 ox), (oa (a 34) cI 42 oy), (oa (a 37) cZ 201 mt), (oa (a 38) cZ 201 wi), (oa (a 39) cZ 8040 ins), (oa (a 22) cI (64 * cl) la), (oa (a 23) cI (64 * cl) lb), (oa (a 24) cI (64 * cl) lc), (oa (a 25) cI (64 * cl) ld)] : va_W) = [(om k0 a (upd (upd (upd (upd (upd I0 14 7) 15 (I0 15 + 1)) 31 z8) 35 (nI on)) 36 ok) J0), (oa (a 1) cI 201 (upd kd f ok)), (oa (a 5) cI 201 st), (oa (a 7) cI 201 gb), (oa (a 10) cI 201 it), (oa (a 8) cI 201 pa), (oa (a 9) cI 201 pb), (oa (a 2) cI 201 rk), (oa (a 3) cI 201 wd), (oa (a 4) cI 201 tw), (oa (a 6) cZ 201 tn), (oa (a 11) cI 201 (upd mn f (nI on))), (oa (a 12) cI 8040 (fgX f on ox cx)), (oa (a 13) cI 8040 (fgX f on oy cy)), (oa (a 27) cI 516 sa), (oa (a 28) cI (4096 * cp) sh), (oa (a 16) cI 514 wh), (oa (a 17) cI 514 of9), (oa (a 18) cI 514 we), (oa (a 32) cI 8 S1), (oa (a 40) cI 6 T1), (oa (a 29) cI 42 P8), (oa (a 30) cI 42 Q8), (oa (a 33) cI 42 ox), (oa (a 34) cI 42 oy), (oa (a 37) cZ 201 mt), (oa (a 38) cZ 201 wi), (oa (a 39) cZ 8040 ins), (oa (a 22) cI (64 * cl) la), (oa (a 23) cI (64 * cl) lb), (oa (a 24) cI (64 * cl) lc), (oa (a 25) cI (64 * cl) ld)] := by rw [hfx, hfy]; try rfl
    rw [hE9] at hP9 hD9
    rw [hQ9]
    exact W.zret (ty := .boolean) (v := 0) hx hb hr (rfl) (fun t ht hW => ⟨⟨rfl, z8, S1, T1, P8, Q8, by rw [ht]; exact hP9, hD9⟩, hS.F ht⟩) hS.2.2 dX11_changes_21
set_option maxHeartbeats 4000000 in
set_option maxRecDepth 100000 in
theorem k_M_changes_my (l : Launch) (dC : Nat → ClassId) (dI : Nat → Nat → Nat) (cI cZ cF : ClassId) (sz : Nat) (k0 : Nat) (a : Nat → Nat) (I0 : Nat → Int32) (J0 : Nat → Int64) (f : Nat) (n : Nat) (ft : Nat) (on : Nat) (ok : Int32) (h : Nat) (kd : Nat → Int32) (st : Nat → Int32) (gb : Nat → Int32) (it : Nat → Int32) (pa : Nat → Int32) (pb : Nat → Int32) (rk : Nat → Int32) (wd : Nat → Int32) (tw : Nat → Int32) (tn : Nat → Int32) (mn : Nat → Int32) (cx : Nat → Int32) (cy : Nat → Int32) (sa : Nat → Int32) (sh : Nat → Int32) (wh : Nat → Int32) (of9 : Nat → Int32) (we : Nat → Int32) (S0 : Nat → Int32) (T0 : Nat → Int32) (P0 : Nat → Int32) (Q0 : Nat → Int32) (ox : Nat → Int32) (oy : Nat → Int32) (mt : Nat → Int32) (wi : Nat → Int32) (ins : Nat → Int32) (la : Nat → Int32) (lb : Nat → Int32) (lc : Nat → Int32) (ld : Nat → Int32) (MT : Nat → Prop) (WI : Nat → Prop) (IN : Nat → Nat → Prop) (dn : Nat) (bs : Nat) (w0 : Nat) (cp : Nat) (c1 : Nat) (c2 : Nat) (ln : Nat) (cl : Nat) (hft : I0 0 = nI ft) (h200 : ft ≤ 200) (hf_f : f ≤ 200) (hm_f : mn f = nI n) (hn_f : n ≤ 40) (hwf : ∀ q, lvF ft st tn q → q ≠ f → wfM mn cx cy q) (ho40 : on ≤ 40) (ho1 : 1 ≤ on) (hpo : pls on ox oy) (hmt : ∀ q, lvF ft st tn q → q ≠ f → mt q = pI (MT q)) (hwi : ∀ q, lvF ft st tn q → q ≠ f → 5 ≤ (kd q).toInt → wi q = pI (WI q)) (hin : ∀ q, lvF ft st tn q → q ≠ f → ∀ k, k < nN (mn q) → 5 ≤ (kd f).toInt → ins (40 * q + k) = pI (IN q k)) (hh : h < 5) (hon2 : n = on) (hft_f : f < ft) (hdn : I0 19 = nI dn) (hbs : I0 21 = nI bs) (hbd : bs ≤ dn) (hd512 : dn ≤ 512) (hi5_1 : (dn - bs) < 515) (hsa_1 : sa (dn - bs) = nI w0) (hmn_1 : ∀ v9, v9 < ft → (tn v9).toInt = 0 → ¬ (st v9).toInt = 0 → (upd mn f (nI on)) v9 = nI (nN ((upd mn f (nI on)) v9)) ∧ nN ((upd mn f (nI on)) v9) ≤ 40) (hc1_1 : 1 ≤ cp) (hpw_1 : pw cp c1) (hw0_1 : w0 ≤ 4096 * cp) (hfit_1 : psN (nnF st tn (upd mn f (nI on))) w0 ft ≤ 4096 * c1) (hmin_1 : c1 = cp ∨ 2048 * c1 < psN (nnF st tn (upd mn f (nI on))) w0 ft) (hcE_1 : c1 ≤ 512) (hmn_2 : ∀ f, f < ft → (tn f).toInt = 0 → ¬ (st f).toInt = 0 → mn f = nI (nN (mn f)) ∧ nN (mn f) ≤ 40) (hpw_2 : pw c1 c2) (hfit_2 : psN (nnF st tn mn) (psN (nnF st tn (upd mn f (nI on))) w0 ft) ft ≤ 4096 * c2) (hmin_2 : c2 = c1 ∨ 2048 * c2 < psN (nnF st tn mn) (psN (nnF st tn (upd mn f (nI on))) w0 ft) ft) (hcE_2 : c2 ≤ 512) (hrow : ∀ j, n ≤ j → j < on → cx (40 * f + j) = ox j ∧ cy (40 * f + j) = oy j) (hlc : ln ≤ 64 * cl) (hcl1 : 1 ≤ cl) (hclm : cl ≤ 1000000) (hlc9 : True) (hyes : lwA ft st tn kd mn cx cy f n (ox 0) (oy 0) MT WI IN (sWm (kd f).toInt on ox oy cx cy f)) : zM l yX11_changes cX11_changes 5 (some .boolean) ({ frames := 7, cells := c2 - cp, slots := 8192 * (c2 - cp), locals := 186 } : Room) [.ref k0, .int (nI f), .int (nI h)] (dC, dI) (zTy cI cZ cF) [(om k0 a (upd (upd (upd I0 26 (nI ln)) 35 (nI on)) 36 ok) J0), (oa (a 1) cI 201 kd), (oa (a 5) cI 201 st), (oa (a 7) cI 201 gb), (oa (a 10) cI 201 it), (oa (a 8) cI 201 pa), (oa (a 9) cI 201 pb), (oa (a 2) cI 201 rk), (oa (a 3) cI 201 wd), (oa (a 4) cI 201 tw), (oa (a 6) cZ 201 tn), (oa (a 11) cI 201 mn), (oa (a 12) cI 8040 cx), (oa (a 13) cI 8040 cy), (oa (a 27) cI 516 sa), (oa (a 28) cI (4096 * cp) sh), (oa (a 16) cI 514 wh), (oa (a 17) cI 514 of9), (oa (a 18) cI 514 we), (oa (a 32) cI 8 S0), (oa (a 40) cI 6 T0), (oa (a 29) cI 42 P0), (oa (a 30) cI 42 Q0), (oa (a 33) cI 42 ox), (oa (a 34) cI 42 oy), (oa (a 37) cZ 201 mt), (oa (a 38) cZ 201 wi), (oa (a 39) cZ 8040 ins), (oa (a 22) cI (64 * cl) la), (oa (a 23) cI (64 * cl) lb), (oa (a 24) cI (64 * cl) lc), (oa (a 25) cI (64 * cl) ld)] sz (some (.int 1)) (fun A t => ∃ (z9 : Int32), ∃ (b2 : Nat), ∃ (sh2 : Nat → Int32), ∃ (t9 : Nat), ∃ (S1 : Nat → Int32), ∃ (T1 : Nat → Int32), ∃ (P1 : Nat → Int32), ∃ (Q1 : Nat → Int32), ∃ (la1 : Nat → Int32), ∃ (lb1 : Nat → Int32), ∃ (lc1 : Nat → Int32), ∃ (ld1 : Nat → Int32), (sh2 w0 = nI ft) ∧ (∀ j, j < w0 → sh2 j = sh j) ∧ (∀ g, g < ft → ∀ j, j < 10 + 2 * (nnF st tn (upd mn f (nI on))) g → sh2 (psN (nnF st tn (upd mn f (nI on))) w0 g + j) = (shD (upd kd f ok) st gb it pa pb rk wd tw (nnF st tn (upd mn f (nI on))) (fgX f on ox cx) (fgX f on oy cy)) g j) ∧ (sh2 (psN (nnF st tn (upd mn f (nI on))) w0 ft) = nI ft) ∧ (∀ g, g < ft → ∀ j, j < 10 + 2 * (nnF st tn mn) g → sh2 (psN (nnF st tn mn) (psN (nnF st tn (upd mn f (nI on))) w0 ft) g + j) = (shD kd st gb it pa pb rk wd tw (nnF st tn mn) cx cy) g j) ∧ (t9 ≤ ln) ∧ ((∀ j, j < t9 → ∃ i, i < ln ∧ lb1 j = lb i ∧ lc1 j = lc i) ∧ lsZ dn ln la lb lc ld t9 la1 lb1 lc1 ld1 (fun _ _ _ => False)) ∧ zPD (dC, dI) classes A [(om k0 (va_up a 28 b2) (upd (upd (upd (upd (upd (upd (upd (upd I0 14 0) 19 (nI (dn + 1))) 20 0) 26 (nI t9)) 31 z9) 35 (nI on)) 36 ok) 41 (nI (psN (nnF st tn mn) (psN (nnF st tn (upd mn f (nI on))) w0 ft) ft))) J0), (oa (a 1) cI 201 kd), (oa (a 5) cI 201 st), (oa (a 7) cI 201 gb), (oa (a 10) cI 201 it), (oa (a 8) cI 201 pa), (oa (a 9) cI 201 pb), (oa (a 2) cI 201 rk), (oa (a 3) cI 201 wd), (oa (a 4) cI 201 tw), (oa (a 6) cZ 201 tn), (oa (a 11) cI 201 mn), (oa (a 12) cI 8040 cx), (oa (a 13) cI 8040 cy), (oa (a 27) cI 516 (upd (upd sa (dn - bs + 1) (nI (psN (nnF st tn (upd mn f (nI on))) w0 ft))) (dn + 1 - bs + 1) (nI (psN (nnF st tn mn) (psN (nnF st tn (upd mn f (nI on))) w0 ft) ft)))), (oa b2 cI (4096 * c2) sh2), (oa (a 16) cI 514 (upd wh (dn + 1) (nI h))), (oa (a 17) cI 514 (upd of9 (dn + 1) (nI f))), (oa (a 18) cI 514 (upd we (dn + 1) (0 : Int32))), (oa (a 32) cI 8 S1), (oa (a 40) cI 6 T1), (oa (a 29) cI 42 P1), (oa (a 30) cI 42 Q1), (oa (a 33) cI 42 ox), (oa (a 34) cI 42 oy), (oa (a 37) cZ 201 mt), (oa (a 38) cZ 201 wi), (oa (a 39) cZ 8040 ins), (oa (a 22) cI (64 * cl) la1), (oa (a 23) cI (64 * cl) lb1), (oa (a 24) cI (64 * cl) lc1), (oa (a 25) cI (64 * cl) ld1)] t.heap) (c2 - cp) (8192 * (c2 - cp)) := by
  refine zIn (own := "ScaleShopModel") (loc := [(0, .ref k0), (1, .int (nI f)), (2, .int (nI h))]) rfl rfl rfl rfl (fun p e s m below meth c hx hb hr hts hown hlocks hml hnm9 A hA hS hP hD hK hXN Q9 hQ9 ls hl => ?_)
  have hq1 := pw_le hpw_1
  have hq2 := pw_le hpw_2
  refine lv_aload_n hx hb dX11_changes_0 rfl (lv_at hl 0 rfl) ?_
  refine lv_iload_n hx hb dX11_changes_1 rfl (lv_at hl 1 rfl) ?_
  refine lv_iload_n hx hb dX11_changes_2 rfl (lv_at hl 2 rfl) ?_
  refine lv_iconst (v := (-1)) hx hb dX11_changes_3 rfl ?_
  obtain ⟨hPc, hDc, hFc⟩ := zo_sub (wc := [_, _, _, _, _, _, _, _, _, _, _, _, _, _, _, _]) hP hD hS hA [0, 2, 10, 1, 11, 12, 13, 19, 20, 21, 22, 23, 24, 25, 26, 27] (by decide +kernel) rfl
  refine zcall (st1 := [.int (pI (lwA ft st tn kd mn cx cy f n (ox 0) (oy 0) MT WI IN (sWm (kd f).toInt on ox oy cx cy f)))]) (va_runV (As := [.int (nI f), .int (nI h), .int (-1)]) (rest := []) ⟨hx, hb, hml, hown, hts⟩ (k_M_isLawful_m l dC dI cI cZ cF s.heap.size k0 a (upd (upd (upd I0 26 (nI ln)) 35 (nI on)) 36 ok) J0 f n ft on h st tn kd mn cx cy S0 T0 P0 Q0 ox oy mt wi ins MT WI IN (by first | with_reducible assumption | assumption) (by first | with_reducible assumption | omega) (by first | with_reducible assumption | omega) (by first | with_reducible assumption | assumption) (by first | with_reducible assumption | omega) (by first | with_reducible assumption | assumption) (rfl) (by first | with_reducible assumption | omega) (by first | with_reducible assumption | omega) (by first | with_reducible assumption | assumption) (by first | with_reducible assumption | assumption) (by first | with_reducible assumption | assumption) (by first | with_reducible assumption | assumption) (by first | with_reducible assumption | omega) (by first | with_reducible assumption | omega)) (csV_191 hts rfl rfl ⟨Nat.le_of_ble_eq_true rfl, Nat.le_of_ble_eq_true rfl⟩) (zPV2 (q0 := 0) (ci := 9) hPc hDc hK hXN rfl rfl) rfl rfl hl.1 rfl (lv_room (Nat.le_of_ble_eq_true rfl)) dX11_changes_4 ⟨Nat.zero_le _, Nat.zero_le _⟩) hS hFc hFc rfl (fun t H locs ht hB hk1 hS => ?_)
  obtain ⟨z8, S1, T1, P8, Q8, hP1, hD1⟩ := hB
  rw [ht] at hP1
  obtain ⟨hP, hD⟩ := zn (W2 := [(om k0 a (upd (upd (upd (upd I0 26 (nI ln)) 31 z8) 35 (nI on)) 36 ok) J0), _, _, _, _, _, _, _, _, _, _, _, _, _, _, _, _, _, _, (oa (a 32) cI 8 S1), (oa (a 40) cI 6 T1), (oa (a 29) cI 42 P8), (oa (a 30) cI 42 Q8), _, _, _, _, _, _, _, _, _]) hP hD hk1 hFc hP1 hD1 zl_180 zl_181 zl_181 zl_180 (by decide +kernel) rfl rfl rfl rfl rfl
  clear hk1 hPc hDc hFc hP1 hD1 ht
  refine zz_i (v := pI (lwA ft st tn kd mn cx cy f n (ox 0) (oy 0) MT WI IN (sWm (kd f).toInt on ox oy cx cy f))) (rfl) ?_
  refine lv_if_ne (tgt := 22) hx hb dX11_changes_7 rfl (fun c_1 => ?_) (fun c_1 => ?_)
  · have c_1 : lwA ft st tn kd mn cx cy f n (ox 0) (oy 0) MT WI IN (sWm (kd f).toInt on ox oy cx cy f) := zp_1 c_1
    refine lv_aload_n hx hb dX11_changes_22 rfl (lv_at hl 0 rfl) ?_
    refine lv_iload_n hx hb dX11_changes_23 rfl (lv_at hl 1 rfl) ?_
    obtain ⟨hPc, hDc, hFc⟩ := zo_sub (wc := [_, _, _, _, _, _]) hP hD hS hA [0, 11, 12, 13, 21, 22] (by decide +kernel) rfl
    refine zcall (st1 := []) (va_runV (As := [.int (nI f)]) (rest := []) ⟨hx, hb, hml, hown, hts⟩ (k_M_take l dC dI cI cZ cF H.size k0 a (upd (upd (upd (upd I0 26 (nI ln)) 31 z8) 35 (nI on)) 36 ok) J0 f n mn cx cy P8 Q8 (by first | with_reducible assumption | omega) (by first | with_reducible assumption | assumption) (by first | with_reducible assumption | omega)) (csV_173 hts rfl rfl ⟨Nat.le_of_ble_eq_true rfl, Nat.le_of_ble_eq_true rfl⟩) (zPV2 (q0 := 0) (ci := 9) hPc hDc hK hXN rfl rfl) rfl rfl hl.1 rfl (lv_room (Nat.le_of_ble_eq_true rfl)) dX11_changes_24 ⟨Nat.zero_le _, Nat.zero_le _⟩) hS hFc hFc rfl (fun t H locs ht hB hk1 hS => ?_)
    obtain ⟨P1, Q1, htk, hP1, hD1⟩ := hB
    rw [ht] at hP1
    obtain ⟨hP, hD⟩ := zn (W2 := [(om k0 a (upd (upd (upd (upd I0 26 (nI ln)) 31 (nI n)) 35 (nI on)) 36 ok) J0), _, _, _, _, _, _, _, _, _, _, _, _, _, _, _, _, _, _, _, _, (oa (a 29) cI 42 P1), (oa (a 30) cI 42 Q1), _, _, _, _, _, _, _, _, _]) hP hD hk1 hFc hP1 hD1 [0, 11, 12, 13, 21, 22] zl_184 zl_184 [0, 11, 12, 13, 21, 22] (by decide +kernel) rfl rfl rfl rfl rfl
    clear hk1 hPc hDc hFc hP1 hD1 ht
    refine lv_aload_n hx hb dX11_changes_27 rfl (lv_at hl 0 rfl) ?_
    refine va_get (D := (dC, dI)) (ci := 9) (v := .ref (a 1)) (C := RX11) (T := TX11) (N := 55) hx hb hts inX11 hown hK hP 0 rfl rfl 1 (Nat.le_of_ble_eq_true rfl) (hts _ mw_1160) (fun _ h9 => h9) rfl dX11_changes_28 ?_
    refine lv_iload_n hx hb dX11_changes_31 rfl (lv_at hl 1 rfl) ?_
    have b9_2 : f < 201 := by omega
    refine z_iald hx hb hK hP 1 0 rfl rfl (e := f) rfl b9_2 (Nat.le_of_ble_eq_true rfl) dX11_changes_32 ?_
    refine zz_i (v := kd f) (rfl) ?_
    refine lv_istore_n (lv' := [(3, .int (kd f)), (0, .ref k0), (1, .int (nI f)), (2, .int (nI h))]) hx hb dX11_changes_33 rfl hl (Nat.le_of_ble_eq_true rfl) rfl (fun ls hl => ?_)
    refine lv_aload_n hx hb dX11_changes_34 rfl (lv_at hl 1 rfl) ?_
    refine lv_iload_n hx hb dX11_changes_35 rfl (lv_at hl 2 rfl) ?_
    obtain ⟨hPc, hDc, hFc⟩ := zo_sub (wc := [_, _, _, _, _, _, _]) hP hD hS hA [0, 1, 11, 12, 13, 23, 24] (by decide +kernel) rfl
    refine zcall (st1 := []) (va_runV (As := [.int (nI f)]) (rest := []) ⟨hx, hb, hml, hown, hts⟩ (k_M_forgetNew l dC dI cI cZ cF H.size k0 a (upd (upd (upd (upd I0 26 (nI ln)) 31 (nI n)) 35 (nI on)) 36 ok) J0 f on kd mn cx cy ox oy (by first | with_reducible assumption | omega) (rfl) (by first | with_reducible assumption | omega)) (csV_192 hts rfl rfl ⟨Nat.le_of_ble_eq_true rfl, Nat.le_of_ble_eq_true rfl⟩) (zPV2 (q0 := 0) (ci := 9) hPc hDc hK hXN rfl rfl) rfl rfl hl.1 rfl (lv_room (Nat.le_of_ble_eq_true rfl)) dX11_changes_36 ⟨Nat.zero_le _, Nat.zero_le _⟩) hS hFc hFc rfl (fun t H locs ht hB hk1 hS => ?_)
    obtain ⟨cx1, cy1, hc1, hc2, hP1, hD1⟩ := hB
    rw [ht] at hP1
    obtain ⟨hP, hD⟩ := zn (W2 := [_, (oa (a 1) cI 201 (upd kd f ((upd (upd (upd (upd I0 26 (nI ln)) 31 (nI n)) 35 (nI on)) 36 ok) 36))), _, _, _, _, _, _, _, _, _, (oa (a 11) cI 201 (upd mn f (nI on))), (oa (a 12) cI 8040 cx1), (oa (a 13) cI 8040 cy1), _, _, _, _, _, _, _, _, _, _, _, _, _, _, _, _, _, _]) hP hD hk1 hFc hP1 hD1 [0, 1, 11, 12, 13, 23, 24] zl_182 zl_182 [0, 1, 11, 12, 13, 23, 24] (by decide +kernel) rfl rfl rfl rfl rfl
    clear hk1 hPc hDc hFc hP1 hD1 ht
    have hfx := fgX_of (fun j hj => (hc1 j hj).1) (fun j hj => (hc2 j hj).1)
    have hfy := fgX_of (fun j hj => (hc1 j hj).2) (fun j hj => (hc2 j hj).2)
    rw [hfx, hfy] at hP hD
    refine lv_aload_n hx hb dX11_changes_39 rfl (lv_at hl 1 rfl) ?_
    obtain ⟨hPc, hDc, hFc⟩ := zo_sub (wc := [_, _, _, _, _, _, _, _, _, _, _, _, _, _, _, _]) hP hD hS hA [0, 1, 2, 3, 4, 5, 6, 7, 8, 9, 10, 11, 12, 13, 14, 15] (by decide +kernel) rfl
    refine zcall (st1 := []) (va_runV (As := []) (rest := []) ⟨hx, hb, hml, hown, hts⟩ (k_M_begins l dC dI cI cZ cF H.size k0 a (upd (upd (upd (upd I0 26 (nI ln)) 31 (nI n)) 35 (nI on)) 36 ok) J0 dn bs ft w0 cp c1 (upd kd f ((upd (upd (upd (upd I0 26 (nI ln)) 31 (nI n)) 35 (nI on)) 36 ok) 36)) st gb it pa pb rk wd tw tn (upd mn f (nI on)) (fgX f on ox cx) (fgX f on oy cy) sa sh (hft) (by first | with_reducible assumption | omega) (hdn) (hbs) (by first | with_reducible assumption | omega) (by first | with_reducible assumption | omega) (hi5_1) (hsa_1) (hmn_1) (hc1_1) (hpw_1) (hw0_1) (hfit_1) (hmin_1) (hcE_1)) (csV_205 hts rfl rfl ⟨Nat.le_of_ble_eq_true rfl, Nat.le_of_ble_eq_true rfl⟩) (zPV2 (q0 := 0) (ci := 9) hPc hDc hK hXN rfl rfl) rfl rfl hl.1 rfl (lv_room (Nat.le_of_ble_eq_true rfl)) dX11_changes_40 ⟨show (0 + (c1 - cp)) ≤ c2 - cp by omega, show (0 + (8192 * (c1 - cp))) ≤ 8192 * (c2 - cp) by omega⟩) hS hFc hFc rfl (fun t H locs ht hB hk1 hS => ?_)
    obtain ⟨b1, sh1, g1, g2, g3, g4, hP1, hD1⟩ := hB
    rw [ht] at hP1
    obtain ⟨hP, hD⟩ := zn (W2 := [_, _, _, _, _, _, _, _, _, _, _, _, _, _, _, _, (om k0 (va_up a 28 b1) (upd (upd (upd (upd (upd I0 26 (nI ln)) 31 (nI n)) 35 (nI on)) 36 ok) 41 (nI (psN (nnF st tn (upd mn f (nI on))) w0 ft))) J0), (oa (a 1) cI 201 (upd kd f ((upd (upd (upd (upd I0 26 (nI ln)) 31 (nI n)) 35 (nI on)) 36 ok) 36))), (oa (a 5) cI 201 st), (oa (a 7) cI 201 gb), (oa (a 10) cI 201 it), (oa (a 8) cI 201 pa), (oa (a 9) cI 201 pb), (oa (a 2) cI 201 rk), (oa (a 3) cI 201 wd), (oa (a 4) cI 201 tw), (oa (a 6) cZ 201 tn), (oa (a 11) cI 201 (upd mn f (nI on))), (oa (a 12) cI 8040 (fgX f on ox cx)), (oa (a 13) cI 8040 (fgX f on oy cy)), (oa (a 27) cI 516 (upd sa ((dn - bs) + 1) (nI (psN (nnF st tn (upd mn f (nI on))) w0 ft)))), (oa b1 cI (4096 * c1) sh1)]) hP hD hk1 hFc hP1 hD1 zl_80 zl_185 zl_186 zl_187 (by decide +kernel) rfl rfl rfl rfl rfl
    clear hk1 hPc hDc hFc hP1 hD1 ht
    refine lv_aload_n hx hb dX11_changes_43 rfl (lv_at hl 1 rfl) ?_
    refine va_get (D := (dC, dI)) (ci := 9) (v := .ref (a 1)) (C := RX11) (T := TX11) (N := 55) hx hb hts inX11 hown hK hP 16 rfl rfl 1 (Nat.le_of_ble_eq_true rfl) (hts _ mw_1160) (fun _ h9 => h9) rfl dX11_changes_44 ?_
    refine lv_iload_n hx hb dX11_changes_47 rfl (lv_at hl 2 rfl) ?_
    refine lv_iload_n hx hb dX11_changes_48 rfl (lv_at hl 0 rfl) ?_
    refine z_iast hx hb hK hP hD hS 17 0 rfl rfl (e := f) (x := kd f) rfl b9_2 (Nat.le_of_ble_eq_true rfl) dX11_changes_49 (fun H locs hP hD hS => ?_)
    obtain ⟨hP, hD⟩ := zre (W2 := [_, _, _, _, _, _, _, _, _, _, _, _, _, _, _, _, _, (oa (a 1) cI 201 (upd (upd kd f ((upd (upd (upd (upd I0 26 (nI ln)) 31 (nI n)) 35 (nI on)) 36 ok) 36)) f (kd f))), _, _, _, _, _, _, _, _, _, _, _, _, _, _]) hP hD rfl
    refine lv_aload_n hx hb dX11_changes_50 rfl (lv_at hl 1 rfl) ?_
    refine lv_iload_n hx hb dX11_changes_51 rfl (lv_at hl 2 rfl) ?_
    obtain ⟨hPc, hDc, hFc⟩ := zo_sub (wc := [_, _, _, _, _, _]) hP hD hS hA [16, 27, 28, 29, 5, 6] (by decide +kernel) rfl
    refine zcall (st1 := []) (va_runV (As := [.int (nI f)]) (rest := []) ⟨hx, hb, hml, hown, hts⟩ (k_M_give l dC dI cI cZ cF H.size k0 (va_up a 28 b1) (upd (upd (upd (upd (upd I0 26 (nI ln)) 31 (nI n)) 35 (nI on)) 36 ok) 41 (nI (psN (nnF st tn (upd mn f (nI on))) w0 ft))) J0 f n (upd mn f (nI on)) (fgX f on ox cx) (fgX f on oy cy) P1 Q1 (by first | with_reducible assumption | omega) (rfl) (by first | with_reducible assumption | omega)) (csV_206 hts rfl rfl ⟨Nat.le_of_ble_eq_true rfl, Nat.le_of_ble_eq_true rfl⟩) (zPV2 (q0 := 0) (ci := 9) hPc hDc hK hXN rfl rfl) rfl rfl hl.1 rfl (lv_room (Nat.le_of_ble_eq_true rfl)) dX11_changes_52 ⟨show (0 + (c1 - cp)) ≤ c2 - cp by omega, show (0 + (8192 * (c1 - cp))) ≤ 8192 * (c2 - cp) by omega⟩) hS hFc hFc rfl (fun t H locs ht hB hk1 hS => ?_)
    obtain ⟨cx3, cy3, hg1, hg2, hP1, hD1⟩ := hB
    rw [ht] at hP1
    obtain ⟨hP, hD⟩ := zn (W2 := [_, _, _, _, _, _, _, _, _, _, _, _, _, _, _, _, _, _, _, _, _, _, _, _, _, _, _, (oa (a 11) cI 201 (upd (upd mn f (nI on)) f (nI n))), (oa (a 12) cI 8040 cx3), (oa (a 13) cI 8040 cy3), _, _]) hP hD hk1 hFc hP1 hD1 [16, 27, 28, 29, 5, 6] zl_188 zl_188 [16, 27, 28, 29, 5, 6] (by decide +kernel) rfl rfl rfl rfl rfl
    clear hk1 hPc hDc hFc hP1 hD1 ht
    have hgx := gv_of (c := cx) rfl (fun j hj => (htk j hj).1) (fun j h1 h2 => (hrow j h1 h2).1) (fun j hj => (hg1 j hj).1) (fun j hj => (hg2 j hj).1)
    have hgy := gv_of (c := cy) rfl (fun j hj => (htk j hj).2) (fun j h1 h2 => (hrow j h1 h2).2) (fun j hj => (hg1 j hj).2) (fun j hj => (hg2 j hj).2)
    rw [hgx, hgy, show (upd (upd kd f ((upd (upd (upd (upd I0 26 (nI ln)) 31 (nI n)) 35 (nI on)) 36 ok) 36)) f (kd f) : Nat → Int32) = kd from upd_back rfl, show (upd (upd mn f (nI on)) f (nI n) : Nat → Int32) = mn from upd_back hm_f] at hP hD
    refine lv_aload_n hx hb dX11_changes_55 rfl (lv_at hl 1 rfl) ?_
    refine lv_aload_n hx hb dX11_changes_56 rfl (lv_at hl 1 rfl) ?_
    refine va_get (D := (dC, dI)) (ci := 9) (v := .int (nI ln)) (C := RX11) (T := TX11) (N := 55) hx hb hts inX11 hown hK hP 16 rfl rfl 26 (Nat.le_of_ble_eq_true rfl) (hts _ mw_1185) (fun _ h9 => h9) rfl dX11_changes_57 ?_
    obtain ⟨hPc, hDc, hFc⟩ := zo_sub (wc := [_, _, _, _, _]) hP hD hS hA [16, 12, 13, 14, 15] (by decide +kernel) rfl
    refine zcall (st1 := []) (va_runV (As := [.int (nI ln)]) (rest := []) ⟨hx, hb, hml, hown, hts⟩ (k_M_squeeze l dC dI cI cZ cF H.size k0 (va_up a 28 b1) (upd (upd (upd (upd (upd I0 26 (nI ln)) 31 (nI n)) 35 (nI on)) 36 ok) 41 (nI (psN (nnF st tn (upd mn f (nI on))) w0 ft))) J0 ln ln cl dn la lb lc ld (rfl) (by first | with_reducible assumption | omega) (by first | with_reducible assumption | omega) (by first | with_reducible assumption | omega) (by first | with_reducible assumption | omega) (hdn) (by first | with_reducible assumption | omega)) (csV_207 hts rfl rfl ⟨Nat.le_of_ble_eq_true rfl, Nat.le_of_ble_eq_true rfl⟩) (zPV2 (q0 := 0) (ci := 9) hPc hDc hK hXN rfl rfl) rfl rfl hl.1 rfl (lv_room (Nat.le_of_ble_eq_true rfl)) dX11_changes_60 ⟨show (0 + (c1 - cp)) ≤ c2 - cp by omega, show (0 + (8192 * (c1 - cp))) ≤ 8192 * (c2 - cp) by omega⟩) hS hFc hFc rfl (fun t H locs ht hB hk1 hS => ?_)
    obtain ⟨t9, la1, lb1, lc1, ld1, hs1, hs2, hs3, hP1, hD1⟩ := hB
    rw [ht] at hP1
    obtain ⟨hP, hD⟩ := zn (W2 := [_, _, _, _, _, _, _, _, _, _, _, _, (oa (a 22) cI (64 * cl) la1), (oa (a 23) cI (64 * cl) lb1), (oa (a 24) cI (64 * cl) lc1), (oa (a 25) cI (64 * cl) ld1), (om k0 (va_up a 28 b1) (upd (upd (upd (upd (upd I0 26 (nI t9)) 31 (nI n)) 35 (nI on)) 36 ok) 41 (nI (psN (nnF st tn (upd mn f (nI on))) w0 ft))) J0), _, _, _, _, _, _, _, _, _, _, _, _, _, _, _]) hP hD hk1 hFc hP1 hD1 [16, 12, 13, 14, 15] zl_189 zl_189 [16, 12, 13, 14, 15] (by decide +kernel) rfl rfl rfl rfl rfl
    clear hk1 hPc hDc hFc hP1 hD1 ht
    refine lv_aload_n hx hb dX11_changes_63 rfl (lv_at hl 1 rfl) ?_
    refine lv_iload_n hx hb dX11_changes_64 rfl (lv_at hl 3 rfl) ?_
    refine lv_iload_n hx hb dX11_changes_65 rfl (lv_at hl 2 rfl) ?_
    refine lv_iconst (v := 0) hx hb dX11_changes_66 rfl ?_
    obtain ⟨hPc, hDc, hFc⟩ := zo_sub (wc := [_, _, _, _, _, _, _, _, _, _, _, _, _, _, _, _, _, _, _]) hP hD hS hA [16, 17, 18, 19, 20, 21, 22, 23, 24, 25, 26, 27, 28, 29, 30, 31, 0, 1, 2] (by decide +kernel) rfl
    refine zcall (st1 := [.int (nI (dn + 1))]) (va_runV (As := [.int (nI h), .int (nI f), .int 0]) (rest := []) ⟨hx, hb, hml, hown, hts⟩ (k_M_ends l dC dI cI cZ cF H.size k0 (va_up a 28 b1) (upd (upd (upd (upd (upd I0 26 (nI t9)) 31 (nI n)) 35 (nI on)) 36 ok) 41 (nI (psN (nnF st tn (upd mn f (nI on))) w0 ft))) J0 (nI h) (nI f) 0 dn bs ft (psN (nnF st tn (upd mn f (nI on))) w0 ft) c1 c2 kd st gb it pa pb rk wd tw tn mn cx cy (upd sa ((dn - bs) + 1) (nI (psN (nnF st tn (upd mn f (nI on))) w0 ft))) sh1 wh of9 we (hft) (by first | with_reducible assumption | omega) (hdn) (hbs) (by first | with_reducible assumption | omega) (by first | with_reducible assumption | omega) (by first | with_reducible assumption | omega) (by rw [show dn + 1 - bs = dn - bs + 1 by omega]; exact up_at _ _ _) (hmn_2) (by have := pw_le hpw_1; omega) (hpw_2) (by first | with_reducible assumption | omega) (hfit_2) (hmin_2) (hcE_2)) (csV_208 hts rfl rfl ⟨Nat.le_of_ble_eq_true rfl, Nat.le_of_ble_eq_true rfl⟩) (zPV2 (q0 := 0) (ci := 9) hPc hDc hK hXN rfl rfl) rfl rfl hl.1 rfl (lv_room (Nat.le_of_ble_eq_true rfl)) dX11_changes_67 ⟨show ((0 + (c1 - cp)) + (c2 - c1)) ≤ c2 - cp by omega, show ((0 + (8192 * (c1 - cp))) + (8192 * (c2 - c1))) ≤ 8192 * (c2 - cp) by omega⟩) hS hFc hFc rfl (fun t H locs ht hB hk1 hS => ?_)
    obtain ⟨b2, sh2, g5, g6, g7, g8, hP1, hD1⟩ := hB
    rw [ht] at hP1
    obtain ⟨hP, hD⟩ := zn (W2 := [_, _, _, _, _, _, _, _, _, _, _, _, _, (om k0 (va_up a 28 b2) (upd (upd (upd (upd (upd (upd (upd (upd I0 14 0) 19 (nI (dn + 1))) 20 0) 26 (nI t9)) 31 (nI n)) 35 (nI on)) 36 ok) 41 (nI (psN (nnF st tn mn) (psN (nnF st tn (upd mn f (nI on))) w0 ft) ft))) J0), (oa (a 1) cI 201 kd), (oa (a 5) cI 201 st), (oa (a 7) cI 201 gb), (oa (a 10) cI 201 it), (oa (a 8) cI 201 pa), (oa (a 9) cI 201 pb), (oa (a 2) cI 201 rk), (oa (a 3) cI 201 wd), (oa (a 4) cI 201 tw), (oa (a 6) cZ 201 tn), (oa (a 11) cI 201 mn), (oa (a 12) cI 8040 cx), (oa (a 13) cI 8040 cy), (oa (a 27) cI 516 (upd (upd sa ((dn - bs) + 1) (nI (psN (nnF st tn (upd mn f (nI on))) w0 ft))) ((dn + 1 - bs) + 1) (nI (psN (nnF st tn mn) (psN (nnF st tn (upd mn f (nI on))) w0 ft) ft)))), (oa b2 cI (4096 * c2) sh2), (oa (a 16) cI 514 (upd wh (dn + 1) (nI h))), (oa (a 17) cI 514 (upd of9 (dn + 1) (nI f))), (oa (a 18) cI 514 (upd we (dn + 1) (0 : Int32)))]) hP hD hk1 hFc hP1 hD1 zl_190 zl_191 zl_192 zl_193 (by decide +kernel) rfl rfl rfl rfl rfl
    clear hk1 hPc hDc hFc hP1 hD1 ht
    refine lv_istore (lv' := [(4, .int (nI (dn + 1))), (3, .int (kd f)), (0, .ref k0), (1, .int (nI f)), (2, .int (nI h))]) hx hb dX11_changes_70 hl (Nat.le_of_ble_eq_true rfl) rfl (fun ls hl => ?_)
    refine lv_iconst (v := 1) hx hb dX11_changes_72 rfl ?_
    obtain ⟨hP9, hD9⟩ := zq_sub (wc := [_, _, _, _, _, _, _, _, _, _, _, _, _, _, _, _, _, _, _, _, _, _, _, _, _, _, _, _, _, _, _, _]) hP hD [13, 14, 15, 16, 17, 18, 19, 20, 21, 22, 23, 24, 25, 26, 27, 28, 29, 30, 31, 0, 1, 2, 3, 4, 5, 6, 7, 8, 9, 10, 11, 12] rfl rfl
    refine W.widen (k := c2 - cp) (n := 8192 * (c2 - cp)) (by omega) (by omega) ?_
    rw [hQ9]
    exact W.zret (ty := .boolean) (v := 1) hx hb hr (rfl) (fun t ht hW => ⟨⟨rfl, (nI n), b2, sh2, t9, S1, T1, P1, Q1, la1, lb1, lc1, ld1, (by have h9 := psN_ge (nnF st tn (upd mn f (nI on))) w0 ft; rw [g6 _ (by omega)]; exact g1), (fun j hj => by have h9 := psN_ge (nnF st tn (upd mn f (nI on))) w0 ft; rw [g6 _ (by omega)]; exact g2 j hj), (fun g hg j hj => by have h9 := psN_mono (nnF st tn (upd mn f (nI on))) w0 hg; rw [g6 _ (by omega)]; exact g3 g hg j hj), (g5), (g7), (hs1), (⟨hs2, lsZ_n hs3⟩), by rw [ht]; exact hP9, hD9⟩, hS.F ht⟩) hS.2.2 dX11_changes_73
  · have c_1 : ¬ (lwA ft st tn kd mn cx cy f n (ox 0) (oy 0) MT WI IN (sWm (kd f).toInt on ox oy cx cy f)) := zp_0 c_1
    exfalso; exact absurd hyes (by first | with_reducible assumption | assumption)
set_option maxHeartbeats 4000000 in
set_option maxRecDepth 100000 in
theorem k_M_changes_sn (l : Launch) (dC : Nat → ClassId) (dI : Nat → Nat → Nat) (cI cZ cF : ClassId) (sz : Nat) (k0 : Nat) (a : Nat → Nat) (I0 : Nat → Int32) (J0 : Nat → Int64) (f : Nat) (n : Nat) (ft : Nat) (on : Nat) (ok : Int32) (kd : Nat → Int32) (st : Nat → Int32) (gb : Nat → Int32) (it : Nat → Int32) (pa : Nat → Int32) (pb : Nat → Int32) (rk : Nat → Int32) (wd : Nat → Int32) (tw : Nat → Int32) (tn : Nat → Int32) (mn : Nat → Int32) (cx : Nat → Int32) (cy : Nat → Int32) (sa : Nat → Int32) (sh : Nat → Int32) (wh : Nat → Int32) (of9 : Nat → Int32) (we : Nat → Int32) (S0 : Nat → Int32) (T0 : Nat → Int32) (P0 : Nat → Int32) (Q0 : Nat → Int32) (ox : Nat → Int32) (oy : Nat → Int32) (mt : Nat → Int32) (wi : Nat → Int32) (ins : Nat → Int32) (la : Nat → Int32) (lb : Nat → Int32) (lc : Nat → Int32) (ld : Nat → Int32) (MT : Nat → Prop) (WI : Nat → Prop) (IN : Nat → Nat → Prop) (cp : Nat) (cl : Nat) (hft : I0 0 = nI ft) (h200 : ft ≤ 200) (hf_f : f ≤ 200) (hm_f : mn f = nI n) (hn_f : n ≤ 40) (hwf : ∀ q, lvF ft st tn q → q ≠ f → wfM mn cx cy q) (ho40 : on ≤ 40) (ho1 : 1 ≤ on) (hpo : pls on ox oy) (hmt : ∀ q, lvF ft st tn q → q ≠ f → mt q = pI (MT q)) (hwi : ∀ q, lvF ft st tn q → q ≠ f → 5 ≤ (kd q).toInt → wi q = pI (WI q)) (hin : ∀ q, lvF ft st tn q → q ≠ f → ∀ k, k < nN (mn q) → 5 ≤ (kd f).toInt → ins (40 * q + k) = pI (IN q k)) (hft_f : f < ft) (hno : ¬ lwA ft st tn kd mn cx cy f n (ox 0) (oy 0) MT WI IN (sW0)) : zM l yX11_changes cX11_changes 5 (some .boolean) ({ frames := 6, cells := 0, slots := 0, locals := 159 } : Room) [.ref k0, .int (nI f), .int 5] (dC, dI) (zTy cI cZ cF) [(om k0 a (upd (upd I0 35 (nI on)) 36 ok) J0), (oa (a 1) cI 201 kd), (oa (a 5) cI 201 st), (oa (a 7) cI 201 gb), (oa (a 10) cI 201 it), (oa (a 8) cI 201 pa), (oa (a 9) cI 201 pb), (oa (a 2) cI 201 rk), (oa (a 3) cI 201 wd), (oa (a 4) cI 201 tw), (oa (a 6) cZ 201 tn), (oa (a 11) cI 201 mn), (oa (a 12) cI 8040 cx), (oa (a 13) cI 8040 cy), (oa (a 27) cI 516 sa), (oa (a 28) cI (4096 * cp) sh), (oa (a 16) cI 514 wh), (oa (a 17) cI 514 of9), (oa (a 18) cI 514 we), (oa (a 32) cI 8 S0), (oa (a 40) cI 6 T0), (oa (a 29) cI 42 P0), (oa (a 30) cI 42 Q0), (oa (a 33) cI 42 ox), (oa (a 34) cI 42 oy), (oa (a 37) cZ 201 mt), (oa (a 38) cZ 201 wi), (oa (a 39) cZ 8040 ins), (oa (a 22) cI (64 * cl) la), (oa (a 23) cI (64 * cl) lb), (oa (a 24) cI (64 * cl) lc), (oa (a 25) cI (64 * cl) ld)] sz (some (.int 0)) (fun A t => ∃ (z9 : Int32), ∃ (S1 : Nat → Int32), ∃ (T1 : Nat → Int32), ∃ (P1 : Nat → Int32), ∃ (Q1 : Nat → Int32), zPD (dC, dI) classes A [(om k0 a (upd (upd (upd (upd (upd I0 14 7) 15 (I0 15 + 1)) 31 z9) 35 (nI on)) 36 ok) J0), (oa (a 1) cI 201 (upd kd f ok)), (oa (a 5) cI 201 st), (oa (a 7) cI 201 gb), (oa (a 10) cI 201 it), (oa (a 8) cI 201 pa), (oa (a 9) cI 201 pb), (oa (a 2) cI 201 rk), (oa (a 3) cI 201 wd), (oa (a 4) cI 201 tw), (oa (a 6) cZ 201 tn), (oa (a 11) cI 201 (upd mn f (nI on))), (oa (a 12) cI 8040 (fgX f on ox cx)), (oa (a 13) cI 8040 (fgX f on oy cy)), (oa (a 27) cI 516 sa), (oa (a 28) cI (4096 * cp) sh), (oa (a 16) cI 514 wh), (oa (a 17) cI 514 of9), (oa (a 18) cI 514 we), (oa (a 32) cI 8 S1), (oa (a 40) cI 6 T1), (oa (a 29) cI 42 P1), (oa (a 30) cI 42 Q1), (oa (a 33) cI 42 ox), (oa (a 34) cI 42 oy), (oa (a 37) cZ 201 mt), (oa (a 38) cZ 201 wi), (oa (a 39) cZ 8040 ins), (oa (a 22) cI (64 * cl) la), (oa (a 23) cI (64 * cl) lb), (oa (a 24) cI (64 * cl) lc), (oa (a 25) cI (64 * cl) ld)] t.heap) 0 0 := by
  refine zIn (own := "ScaleShopModel") (loc := [(0, .ref k0), (1, .int (nI f)), (2, .int 5)]) rfl rfl rfl rfl (fun p e s m below meth c hx hb hr hts hown hlocks hml hnm9 A hA hS hP hD hK hXN Q9 hQ9 ls hl => ?_)
  refine lv_aload_n hx hb dX11_changes_0 rfl (lv_at hl 0 rfl) ?_
  refine lv_iload_n hx hb dX11_changes_1 rfl (lv_at hl 1 rfl) ?_
  refine lv_iload_n hx hb dX11_changes_2 rfl (lv_at hl 2 rfl) ?_
  refine lv_iconst (v := (-1)) hx hb dX11_changes_3 rfl ?_
  obtain ⟨hPc, hDc, hFc⟩ := zo_sub (wc := [_, _, _, _, _, _, _, _, _, _, _, _, _, _, _, _]) hP hD hS hA [0, 2, 10, 1, 11, 12, 13, 19, 20, 21, 22, 23, 24, 25, 26, 27] (by decide +kernel) rfl
  refine zcall (st1 := [.int (pI (lwA ft st tn kd mn cx cy f n (ox 0) (oy 0) MT WI IN (sW0)))]) (va_runV (As := [.int (nI f), .int 5, .int (-1)]) (rest := []) ⟨hx, hb, hml, hown, hts⟩ (k_M_isLawful_s l dC dI cI cZ cF s.heap.size k0 a (upd (upd I0 35 (nI on)) 36 ok) J0 f n ft on st tn kd mn cx cy S0 T0 P0 Q0 ox oy mt wi ins MT WI IN (by first | with_reducible assumption | assumption) (by first | with_reducible assumption | omega) (by first | with_reducible assumption | omega) (by first | with_reducible assumption | assumption) (by first | with_reducible assumption | omega) (by first | with_reducible assumption | assumption) (rfl) (by first | with_reducible assumption | omega) (by first | with_reducible assumption | omega) (by first | with_reducible assumption | assumption) (by first | with_reducible assumption | assumption) (by first | with_reducible assumption | assumption) (by first | with_reducible assumption | assumption)) (csV_191 hts rfl rfl ⟨Nat.le_of_ble_eq_true rfl, Nat.le_of_ble_eq_true rfl⟩) (zPV2 (q0 := 0) (ci := 9) hPc hDc hK hXN rfl rfl) rfl rfl hl.1 rfl (lv_room (Nat.le_of_ble_eq_true rfl)) dX11_changes_4 ⟨Nat.le_of_ble_eq_true rfl, Nat.le_of_ble_eq_true rfl⟩) hS hFc hFc rfl (fun t H locs ht hB hk1 hS => ?_)
  obtain ⟨z8, S1, T1, P8, Q8, hP1, hD1⟩ := hB
  rw [ht] at hP1
  obtain ⟨hP, hD⟩ := zn (W2 := [(om k0 a (upd (upd (upd I0 31 z8) 35 (nI on)) 36 ok) J0), _, _, _, _, _, _, _, _, _, _, _, _, _, _, _, _, _, _, (oa (a 32) cI 8 S1), (oa (a 40) cI 6 T1), (oa (a 29) cI 42 P8), (oa (a 30) cI 42 Q8), _, _, _, _, _, _, _, _, _]) hP hD hk1 hFc hP1 hD1 zl_180 zl_181 zl_181 zl_180 (by decide +kernel) rfl rfl rfl rfl rfl
  clear hk1 hPc hDc hFc hP1 hD1 ht
  refine zz_i (v := pI (lwA ft st tn kd mn cx cy f n (ox 0) (oy 0) MT WI IN (sW0))) (rfl) ?_
  refine lv_if_ne (tgt := 22) hx hb dX11_changes_7 rfl (fun c_1 => ?_) (fun c_1 => ?_)
  · have c_1 : lwA ft st tn kd mn cx cy f n (ox 0) (oy 0) MT WI IN (sW0) := zp_1 c_1
    exfalso; exact absurd (by first | with_reducible assumption | assumption) hno
  · have c_1 : ¬ (lwA ft st tn kd mn cx cy f n (ox 0) (oy 0) MT WI IN (sW0)) := zp_0 c_1
    refine lv_aload_n hx hb dX11_changes_10 rfl (lv_at hl 0 rfl) ?_
    refine lv_iload_n hx hb dX11_changes_11 rfl (lv_at hl 1 rfl) ?_
    obtain ⟨hPc, hDc, hFc⟩ := zo_sub (wc := [_, _, _, _, _, _, _]) hP hD hS hA [0, 1, 11, 12, 13, 23, 24] (by decide +kernel) rfl
    refine zcall (st1 := []) (va_runV (As := [.int (nI f)]) (rest := []) ⟨hx, hb, hml, hown, hts⟩ (k_M_forgetNew l dC dI cI cZ cF H.size k0 a (upd (upd (upd I0 31 z8) 35 (nI on)) 36 ok) J0 f on kd mn cx cy ox oy (by first | with_reducible assumption | omega) (rfl) (by first | with_reducible assumption | omega)) (csV_192 hts rfl rfl ⟨Nat.le_of_ble_eq_true rfl, Nat.le_of_ble_eq_true rfl⟩) (zPV2 (q0 := 0) (ci := 9) hPc hDc hK hXN rfl rfl) rfl rfl hl.1 rfl (lv_room (Nat.le_of_ble_eq_true rfl)) dX11_changes_12 ⟨Nat.le_of_ble_eq_true rfl, Nat.le_of_ble_eq_true rfl⟩) hS hFc hFc rfl (fun t H locs ht hB hk1 hS => ?_)
    obtain ⟨cx1, cy1, hc1, hc2, hP1, hD1⟩ := hB
    rw [ht] at hP1
    obtain ⟨hP, hD⟩ := zn (W2 := [_, (oa (a 1) cI 201 (upd kd f ((upd (upd (upd I0 31 z8) 35 (nI on)) 36 ok) 36))), _, _, _, _, _, _, _, _, _, (oa (a 11) cI 201 (upd mn f (nI on))), (oa (a 12) cI 8040 cx1), (oa (a 13) cI 8040 cy1), _, _, _, _, _, _, _, _, _, _, _, _, _, _, _, _, _, _]) hP hD hk1 hFc hP1 hD1 [0, 1, 11, 12, 13, 23, 24] zl_182 zl_182 [0, 1, 11, 12, 13, 23, 24] (by decide +kernel) rfl rfl rfl rfl rfl
    clear hk1 hPc hDc hFc hP1 hD1 ht
    have hfx := fgX_of (fun j hj => (hc1 j hj).1) (fun j hj => (hc2 j hj).1)
    have hfy := fgX_of (fun j hj => (hc1 j hj).2) (fun j hj => (hc2 j hj).2)
    refine lv_aload_n hx hb dX11_changes_15 rfl (lv_at hl 0 rfl) ?_
    refine lv_bipush (v := 7) hx hb dX11_changes_16 rfl ?_
    obtain ⟨hPc, hDc, hFc⟩ := zo_sub (wc := [_]) hP hD hS hA [0] rfl rfl
    refine zcall (st1 := [.int 0]) (va_runV (As := [.int 7]) (rest := []) ⟨hx, hb, hml, hown, hts⟩ (k_M_no_7 l dC dI cI cZ cF H.size k0 a (upd (upd (upd I0 31 z8) 35 (nI on)) 36 ok) J0 ) (csV_198 hts rfl rfl ⟨Nat.le_of_ble_eq_true rfl, Nat.le_of_ble_eq_true rfl⟩) (zPV2 (q0 := 0) (ci := 9) hPc hDc hK hXN rfl rfl) rfl rfl hl.1 rfl (lv_room (Nat.le_of_ble_eq_true rfl)) dX11_changes_18 ⟨Nat.le_of_ble_eq_true rfl, Nat.le_of_ble_eq_true rfl⟩) hS hFc hFc rfl (fun t H locs ht hB hk1 hS => ?_)
    obtain ⟨hP1, hD1⟩ := hB
    rw [ht] at hP1
    obtain ⟨hP, hD⟩ := zn (W2 := [(om k0 a (upd (upd (upd (upd (upd I0 14 7) 15 (I0 15 + 1)) 31 z8) 35 (nI on)) 36 ok) J0), _, _, _, _, _, _, _, _, _, _, _, _, _, _, _, _, _, _, _, _, _, _, _, _, _, _, _, _, _, _, _]) hP hD hk1 hFc hP1 hD1 [0] zl_183 zl_183 [0] (by decide +kernel) rfl rfl rfl rfl rfl
    clear hk1 hPc hDc hFc hP1 hD1 ht
    obtain ⟨hP9, hD9⟩ := zu_sub (wc := [(om k0 a (upd (upd (upd (upd (upd I0 14 7) 15 (I0 15 + 1)) 31 z8) 35 (nI on)) 36 ok) J0), (oa (a 1) cI 201 (upd kd f ((upd (upd (upd I0 31 z8) 35 (nI on)) 36 ok) 36))), (oa (a 5) cI 201 st), (oa (a 7) cI 201 gb), (oa (a 10) cI 201 it), (oa (a 8) cI 201 pa), (oa (a 9) cI 201 pb), (oa (a 2) cI 201 rk), (oa (a 3) cI 201 wd), (oa (a 4) cI 201 tw), (oa (a 6) cZ 201 tn), (oa (a 11) cI 201 (upd mn f (nI on))), (oa (a 12) cI 8040 cx1), (oa (a 13) cI 8040 cy1), (oa (a 27) cI 516 sa), (oa (a 28) cI (4096 * cp) sh), (oa (a 16) cI 514 wh), (oa (a 17) cI 514 of9), (oa (a 18) cI 514 we), (oa (a 32) cI 8 S1), (oa (a 40) cI 6 T1), (oa (a 29) cI 42 P8), (oa (a 30) cI 42 Q8), (oa (a 33) cI 42 ox), (oa (a 34) cI 42 oy), (oa (a 37) cZ 201 mt), (oa (a 38) cZ 201 wi), (oa (a 39) cZ 8040 ins), (oa (a 22) cI (64 * cl) la), (oa (a 23) cI (64 * cl) lb), (oa (a 24) cI (64 * cl) lc), (oa (a 25) cI (64 * cl) ld)]) hP hD (true :: true :: true :: true :: true :: true :: true :: true :: true :: true :: true :: true :: true :: true :: true :: true :: true :: true :: true :: true :: true :: true :: true :: true :: true :: true :: true :: true :: true :: true :: true :: true :: []) rfl rfl
    have hE9 : ([(om k0 a (upd (upd (upd (upd (upd I0 14 7) 15 (I0 15 + 1)) 31 z8) 35 (nI on)) 36 ok) J0), (oa (a 1) cI 201 (upd kd f ((upd (upd (upd I0 31 z8) 35 (nI on)) 36 ok) 36))), (oa (a 5) cI 201 st), (oa (a 7) cI 201 gb), (oa (a 10) cI 201 it), (oa (a 8) cI 201 pa), (oa (a 9) cI 201 pb), (oa (a 2) cI 201 rk), (oa (a 3) cI 201 wd), (oa (a 4) cI 201 tw), (oa (a 6) cZ 201 tn), (oa (a 11) cI 201 (upd mn f (nI on))), (oa (a 12) cI 8040 cx1), (oa (a 13) cI 8040 cy1), (oa (a 27) cI 516 sa), (oa (a 28) cI (4096 * cp) sh), (oa (a 16) cI 514 wh), (oa (a 17) cI 514 of9), (oa (a 18) cI 514 we), (oa (a 32) cI 8 S1), (oa (a 40) cI 6 T1), (oa (a 29) cI 42 P8), (oa (a 30) cI 42 Q8), (oa (a 33) cI 42 ox), (oa (a 34) cI 42 oy), (oa (a 37) cZ 201 mt), (oa (a 38) cZ 201 wi), (oa (a 39) cZ 8040 ins), (oa (a 22) cI (64 * cl) la), (oa (a 23) cI (64 * cl) lb), (oa (a 24) cI (64 * cl) lc), (oa (a 25) cI (64 * cl) ld)] : va_W) = [(om k0 a (upd (upd (upd (upd (upd I0 14 7) 15 (I0 15 + 1)) 31 z8) 35 (nI on)) 36 ok) J0), (oa (a 1) cI 201 (upd kd f ok)), (oa (a 5) cI 201 st), (oa (a 7) cI 201 gb), (oa (a 10) cI 201 it), (oa (a 8) cI 201 pa), (oa (a 9) cI 201 pb), (oa (a 2) cI 201 rk), (oa (a 3) cI 201 wd), (oa (a 4) cI 201 tw), (oa (a 6) cZ 201 tn), (oa (a 11) cI 201 (upd mn f (nI on))), (oa (a 12) cI 8040 (fgX f on ox cx)), (oa (a 13) cI 8040 (fgX f on oy cy)), (oa (a 27) cI 516 sa), (oa (a 28) cI (4096 * cp) sh), (oa (a 16) cI 514 wh), (oa (a 17) cI 514 of9), (oa (a 18) cI 514 we), (oa (a 32) cI 8 S1), (oa (a 40) cI 6 T1), (oa (a 29) cI 42 P8), (oa (a 30) cI 42 Q8), (oa (a 33) cI 42 ox), (oa (a 34) cI 42 oy), (oa (a 37) cZ 201 mt), (oa (a 38) cZ 201 wi), (oa (a 39) cZ 8040 ins), (oa (a 22) cI (64 * cl) la), (oa (a 23) cI (64 * cl) lb), (oa (a 24) cI (64 * cl) lc), (oa (a 25) cI (64 * cl) ld)] := by rw [hfx, hfy]; try rfl
    rw [hE9] at hP9 hD9
    rw [hQ9]
    exact W.zret (ty := .boolean) (v := 0) hx hb hr (rfl) (fun t ht hW => ⟨⟨rfl, z8, S1, T1, P8, Q8, by rw [ht]; exact hP9, hD9⟩, hS.F ht⟩) hS.2.2 dX11_changes_21
set_option maxHeartbeats 4000000 in
set_option maxRecDepth 100000 in
theorem k_M_changes_sy (l : Launch) (dC : Nat → ClassId) (dI : Nat → Nat → Nat) (cI cZ cF : ClassId) (sz : Nat) (k0 : Nat) (a : Nat → Nat) (I0 : Nat → Int32) (J0 : Nat → Int64) (f : Nat) (n : Nat) (ft : Nat) (on : Nat) (ok : Int32) (kd : Nat → Int32) (st : Nat → Int32) (gb : Nat → Int32) (it : Nat → Int32) (pa : Nat → Int32) (pb : Nat → Int32) (rk : Nat → Int32) (wd : Nat → Int32) (tw : Nat → Int32) (tn : Nat → Int32) (mn : Nat → Int32) (cx : Nat → Int32) (cy : Nat → Int32) (sa : Nat → Int32) (sh : Nat → Int32) (wh : Nat → Int32) (of9 : Nat → Int32) (we : Nat → Int32) (S0 : Nat → Int32) (T0 : Nat → Int32) (P0 : Nat → Int32) (Q0 : Nat → Int32) (ox : Nat → Int32) (oy : Nat → Int32) (mt : Nat → Int32) (wi : Nat → Int32) (ins : Nat → Int32) (la : Nat → Int32) (lb : Nat → Int32) (lc : Nat → Int32) (ld : Nat → Int32) (MT : Nat → Prop) (WI : Nat → Prop) (IN : Nat → Nat → Prop) (dn : Nat) (bs : Nat) (w0 : Nat) (cp : Nat) (c1 : Nat) (c2 : Nat) (ln : Nat) (cl : Nat) (hft : I0 0 = nI ft) (h200 : ft ≤ 200) (hf_f : f ≤ 200) (hm_f : mn f = nI n) (hn_f : n ≤ 40) (hwf : ∀ q, lvF ft st tn q → q ≠ f → wfM mn cx cy q) (ho40 : on ≤ 40) (ho1 : 1 ≤ on) (hpo : pls on ox oy) (hmt : ∀ q, lvF ft st tn q → q ≠ f → mt q = pI (MT q)) (hwi : ∀ q, lvF ft st tn q → q ≠ f → 5 ≤ (kd q).toInt → wi q = pI (WI q)) (hin : ∀ q, lvF ft st tn q → q ≠ f → ∀ k, k < nN (mn q) → 5 ≤ (kd f).toInt → ins (40 * q + k) = pI (IN q k)) (hft_f : f < ft) (hdn : I0 19 = nI dn) (hbs : I0 21 = nI bs) (hbd : bs ≤ dn) (hd512 : dn ≤ 512) (hi5_1 : (dn - bs) < 515) (hsa_1 : sa (dn - bs) = nI w0) (hmn_1 : ∀ v9, v9 < ft → (tn v9).toInt = 0 → ¬ (st v9).toInt = 0 → (upd mn f (nI on)) v9 = nI (nN ((upd mn f (nI on)) v9)) ∧ nN ((upd mn f (nI on)) v9) ≤ 40) (hc1_1 : 1 ≤ cp) (hpw_1 : pw cp c1) (hw0_1 : w0 ≤ 4096 * cp) (hfit_1 : psN (nnF st tn (upd mn f (nI on))) w0 ft ≤ 4096 * c1) (hmin_1 : c1 = cp ∨ 2048 * c1 < psN (nnF st tn (upd mn f (nI on))) w0 ft) (hcE_1 : c1 ≤ 512) (hmn_2 : ∀ f, f < ft → (tn f).toInt = 0 → ¬ (st f).toInt = 0 → mn f = nI (nN (mn f)) ∧ nN (mn f) ≤ 40) (hpw_2 : pw c1 c2) (hfit_2 : psN (nnF st tn mn) (psN (nnF st tn (upd mn f (nI on))) w0 ft) ft ≤ 4096 * c2) (hmin_2 : c2 = c1 ∨ 2048 * c2 < psN (nnF st tn mn) (psN (nnF st tn (upd mn f (nI on))) w0 ft) ft) (hcE_2 : c2 ≤ 512) (hrow : ∀ j, n ≤ j → j < on → cx (40 * f + j) = ox j ∧ cy (40 * f + j) = oy j) (hlc : ln ≤ 64 * cl) (hcl1 : 1 ≤ cl) (hclm : cl ≤ 1000000) (hlc9 : True) (hyes : lwA ft st tn kd mn cx cy f n (ox 0) (oy 0) MT WI IN (sW0)) : zM l yX11_changes cX11_changes 5 (some .boolean) ({ frames := 6, cells := c2 - cp, slots := 8192 * (c2 - cp), locals := 159 } : Room) [.ref k0, .int (nI f), .int 5] (dC, dI) (zTy cI cZ cF) [(om k0 a (upd (upd (upd I0 26 (nI ln)) 35 (nI on)) 36 ok) J0), (oa (a 1) cI 201 kd), (oa (a 5) cI 201 st), (oa (a 7) cI 201 gb), (oa (a 10) cI 201 it), (oa (a 8) cI 201 pa), (oa (a 9) cI 201 pb), (oa (a 2) cI 201 rk), (oa (a 3) cI 201 wd), (oa (a 4) cI 201 tw), (oa (a 6) cZ 201 tn), (oa (a 11) cI 201 mn), (oa (a 12) cI 8040 cx), (oa (a 13) cI 8040 cy), (oa (a 27) cI 516 sa), (oa (a 28) cI (4096 * cp) sh), (oa (a 16) cI 514 wh), (oa (a 17) cI 514 of9), (oa (a 18) cI 514 we), (oa (a 32) cI 8 S0), (oa (a 40) cI 6 T0), (oa (a 29) cI 42 P0), (oa (a 30) cI 42 Q0), (oa (a 33) cI 42 ox), (oa (a 34) cI 42 oy), (oa (a 37) cZ 201 mt), (oa (a 38) cZ 201 wi), (oa (a 39) cZ 8040 ins), (oa (a 22) cI (64 * cl) la), (oa (a 23) cI (64 * cl) lb), (oa (a 24) cI (64 * cl) lc), (oa (a 25) cI (64 * cl) ld)] sz (some (.int 1)) (fun A t => ∃ (z9 : Int32), ∃ (b2 : Nat), ∃ (sh2 : Nat → Int32), ∃ (t9 : Nat), ∃ (S1 : Nat → Int32), ∃ (T1 : Nat → Int32), ∃ (P1 : Nat → Int32), ∃ (Q1 : Nat → Int32), ∃ (la1 : Nat → Int32), ∃ (lb1 : Nat → Int32), ∃ (lc1 : Nat → Int32), ∃ (ld1 : Nat → Int32), (sh2 w0 = nI ft) ∧ (∀ j, j < w0 → sh2 j = sh j) ∧ (∀ g, g < ft → ∀ j, j < 10 + 2 * (nnF st tn (upd mn f (nI on))) g → sh2 (psN (nnF st tn (upd mn f (nI on))) w0 g + j) = (shD (upd kd f ok) st gb it pa pb rk wd tw (nnF st tn (upd mn f (nI on))) (fgX f on ox cx) (fgX f on oy cy)) g j) ∧ (sh2 (psN (nnF st tn (upd mn f (nI on))) w0 ft) = nI ft) ∧ (∀ g, g < ft → ∀ j, j < 10 + 2 * (nnF st tn mn) g → sh2 (psN (nnF st tn mn) (psN (nnF st tn (upd mn f (nI on))) w0 ft) g + j) = (shD kd st gb it pa pb rk wd tw (nnF st tn mn) cx cy) g j) ∧ (t9 ≤ ln) ∧ ((∀ j, j < t9 → ∃ i, i < ln ∧ lb1 j = lb i ∧ lc1 j = lc i) ∧ lsZ dn ln la lb lc ld t9 la1 lb1 lc1 ld1 (fun _ _ _ => False)) ∧ zPD (dC, dI) classes A [(om k0 (va_up a 28 b2) (upd (upd (upd (upd (upd (upd (upd (upd I0 14 0) 19 (nI (dn + 1))) 20 0) 26 (nI t9)) 31 z9) 35 (nI on)) 36 ok) 41 (nI (psN (nnF st tn mn) (psN (nnF st tn (upd mn f (nI on))) w0 ft) ft))) J0), (oa (a 1) cI 201 kd), (oa (a 5) cI 201 st), (oa (a 7) cI 201 gb), (oa (a 10) cI 201 it), (oa (a 8) cI 201 pa), (oa (a 9) cI 201 pb), (oa (a 2) cI 201 rk), (oa (a 3) cI 201 wd), (oa (a 4) cI 201 tw), (oa (a 6) cZ 201 tn), (oa (a 11) cI 201 mn), (oa (a 12) cI 8040 cx), (oa (a 13) cI 8040 cy), (oa (a 27) cI 516 (upd (upd sa (dn - bs + 1) (nI (psN (nnF st tn (upd mn f (nI on))) w0 ft))) (dn + 1 - bs + 1) (nI (psN (nnF st tn mn) (psN (nnF st tn (upd mn f (nI on))) w0 ft) ft)))), (oa b2 cI (4096 * c2) sh2), (oa (a 16) cI 514 (upd wh (dn + 1) (5 : Int32))), (oa (a 17) cI 514 (upd of9 (dn + 1) (nI f))), (oa (a 18) cI 514 (upd we (dn + 1) (0 : Int32))), (oa (a 32) cI 8 S1), (oa (a 40) cI 6 T1), (oa (a 29) cI 42 P1), (oa (a 30) cI 42 Q1), (oa (a 33) cI 42 ox), (oa (a 34) cI 42 oy), (oa (a 37) cZ 201 mt), (oa (a 38) cZ 201 wi), (oa (a 39) cZ 8040 ins), (oa (a 22) cI (64 * cl) la1), (oa (a 23) cI (64 * cl) lb1), (oa (a 24) cI (64 * cl) lc1), (oa (a 25) cI (64 * cl) ld1)] t.heap) (c2 - cp) (8192 * (c2 - cp)) := by
  refine zIn (own := "ScaleShopModel") (loc := [(0, .ref k0), (1, .int (nI f)), (2, .int 5)]) rfl rfl rfl rfl (fun p e s m below meth c hx hb hr hts hown hlocks hml hnm9 A hA hS hP hD hK hXN Q9 hQ9 ls hl => ?_)
  have hq1 := pw_le hpw_1
  have hq2 := pw_le hpw_2
  refine lv_aload_n hx hb dX11_changes_0 rfl (lv_at hl 0 rfl) ?_
  refine lv_iload_n hx hb dX11_changes_1 rfl (lv_at hl 1 rfl) ?_
  refine lv_iload_n hx hb dX11_changes_2 rfl (lv_at hl 2 rfl) ?_
  refine lv_iconst (v := (-1)) hx hb dX11_changes_3 rfl ?_
  obtain ⟨hPc, hDc, hFc⟩ := zo_sub (wc := [_, _, _, _, _, _, _, _, _, _, _, _, _, _, _, _]) hP hD hS hA [0, 2, 10, 1, 11, 12, 13, 19, 20, 21, 22, 23, 24, 25, 26, 27] (by decide +kernel) rfl
  refine zcall (st1 := [.int (pI (lwA ft st tn kd mn cx cy f n (ox 0) (oy 0) MT WI IN (sW0)))]) (va_runV (As := [.int (nI f), .int 5, .int (-1)]) (rest := []) ⟨hx, hb, hml, hown, hts⟩ (k_M_isLawful_s l dC dI cI cZ cF s.heap.size k0 a (upd (upd (upd I0 26 (nI ln)) 35 (nI on)) 36 ok) J0 f n ft on st tn kd mn cx cy S0 T0 P0 Q0 ox oy mt wi ins MT WI IN (by first | with_reducible assumption | assumption) (by first | with_reducible assumption | omega) (by first | with_reducible assumption | omega) (by first | with_reducible assumption | assumption) (by first | with_reducible assumption | omega) (by first | with_reducible assumption | assumption) (rfl) (by first | with_reducible assumption | omega) (by first | with_reducible assumption | omega) (by first | with_reducible assumption | assumption) (by first | with_reducible assumption | assumption) (by first | with_reducible assumption | assumption) (by first | with_reducible assumption | assumption)) (csV_191 hts rfl rfl ⟨Nat.le_of_ble_eq_true rfl, Nat.le_of_ble_eq_true rfl⟩) (zPV2 (q0 := 0) (ci := 9) hPc hDc hK hXN rfl rfl) rfl rfl hl.1 rfl (lv_room (Nat.le_of_ble_eq_true rfl)) dX11_changes_4 ⟨Nat.zero_le _, Nat.zero_le _⟩) hS hFc hFc rfl (fun t H locs ht hB hk1 hS => ?_)
  obtain ⟨z8, S1, T1, P8, Q8, hP1, hD1⟩ := hB
  rw [ht] at hP1
  obtain ⟨hP, hD⟩ := zn (W2 := [(om k0 a (upd (upd (upd (upd I0 26 (nI ln)) 31 z8) 35 (nI on)) 36 ok) J0), _, _, _, _, _, _, _, _, _, _, _, _, _, _, _, _, _, _, (oa (a 32) cI 8 S1), (oa (a 40) cI 6 T1), (oa (a 29) cI 42 P8), (oa (a 30) cI 42 Q8), _, _, _, _, _, _, _, _, _]) hP hD hk1 hFc hP1 hD1 zl_180 zl_181 zl_181 zl_180 (by decide +kernel) rfl rfl rfl rfl rfl
  clear hk1 hPc hDc hFc hP1 hD1 ht
  refine zz_i (v := pI (lwA ft st tn kd mn cx cy f n (ox 0) (oy 0) MT WI IN (sW0))) (rfl) ?_
  refine lv_if_ne (tgt := 22) hx hb dX11_changes_7 rfl (fun c_1 => ?_) (fun c_1 => ?_)
  · have c_1 : lwA ft st tn kd mn cx cy f n (ox 0) (oy 0) MT WI IN (sW0) := zp_1 c_1
    refine lv_aload_n hx hb dX11_changes_22 rfl (lv_at hl 0 rfl) ?_
    refine lv_iload_n hx hb dX11_changes_23 rfl (lv_at hl 1 rfl) ?_
    obtain ⟨hPc, hDc, hFc⟩ := zo_sub (wc := [_, _, _, _, _, _]) hP hD hS hA [0, 11, 12, 13, 21, 22] (by decide +kernel) rfl
    refine zcall (st1 := []) (va_runV (As := [.int (nI f)]) (rest := []) ⟨hx, hb, hml, hown, hts⟩ (k_M_take l dC dI cI cZ cF H.size k0 a (upd (upd (upd (upd I0 26 (nI ln)) 31 z8) 35 (nI on)) 36 ok) J0 f n mn cx cy P8 Q8 (by first | with_reducible assumption | omega) (by first | with_reducible assumption | assumption) (by first | with_reducible assumption | omega)) (csV_173 hts rfl rfl ⟨Nat.le_of_ble_eq_true rfl, Nat.le_of_ble_eq_true rfl⟩) (zPV2 (q0 := 0) (ci := 9) hPc hDc hK hXN rfl rfl) rfl rfl hl.1 rfl (lv_room (Nat.le_of_ble_eq_true rfl)) dX11_changes_24 ⟨Nat.zero_le _, Nat.zero_le _⟩) hS hFc hFc rfl (fun t H locs ht hB hk1 hS => ?_)
    obtain ⟨P1, Q1, htk, hP1, hD1⟩ := hB
    rw [ht] at hP1
    obtain ⟨hP, hD⟩ := zn (W2 := [(om k0 a (upd (upd (upd (upd I0 26 (nI ln)) 31 (nI n)) 35 (nI on)) 36 ok) J0), _, _, _, _, _, _, _, _, _, _, _, _, _, _, _, _, _, _, _, _, (oa (a 29) cI 42 P1), (oa (a 30) cI 42 Q1), _, _, _, _, _, _, _, _, _]) hP hD hk1 hFc hP1 hD1 [0, 11, 12, 13, 21, 22] zl_184 zl_184 [0, 11, 12, 13, 21, 22] (by decide +kernel) rfl rfl rfl rfl rfl
    clear hk1 hPc hDc hFc hP1 hD1 ht
    refine lv_aload_n hx hb dX11_changes_27 rfl (lv_at hl 0 rfl) ?_
    refine va_get (D := (dC, dI)) (ci := 9) (v := .ref (a 1)) (C := RX11) (T := TX11) (N := 55) hx hb hts inX11 hown hK hP 0 rfl rfl 1 (Nat.le_of_ble_eq_true rfl) (hts _ mw_1160) (fun _ h9 => h9) rfl dX11_changes_28 ?_
    refine lv_iload_n hx hb dX11_changes_31 rfl (lv_at hl 1 rfl) ?_
    have b9_2 : f < 201 := by omega
    refine z_iald hx hb hK hP 1 0 rfl rfl (e := f) rfl b9_2 (Nat.le_of_ble_eq_true rfl) dX11_changes_32 ?_
    refine zz_i (v := kd f) (rfl) ?_
    refine lv_istore_n (lv' := [(3, .int (kd f)), (0, .ref k0), (1, .int (nI f)), (2, .int 5)]) hx hb dX11_changes_33 rfl hl (Nat.le_of_ble_eq_true rfl) rfl (fun ls hl => ?_)
    refine lv_aload_n hx hb dX11_changes_34 rfl (lv_at hl 1 rfl) ?_
    refine lv_iload_n hx hb dX11_changes_35 rfl (lv_at hl 2 rfl) ?_
    obtain ⟨hPc, hDc, hFc⟩ := zo_sub (wc := [_, _, _, _, _, _, _]) hP hD hS hA [0, 1, 11, 12, 13, 23, 24] (by decide +kernel) rfl
    refine zcall (st1 := []) (va_runV (As := [.int (nI f)]) (rest := []) ⟨hx, hb, hml, hown, hts⟩ (k_M_forgetNew l dC dI cI cZ cF H.size k0 a (upd (upd (upd (upd I0 26 (nI ln)) 31 (nI n)) 35 (nI on)) 36 ok) J0 f on kd mn cx cy ox oy (by first | with_reducible assumption | omega) (rfl) (by first | with_reducible assumption | omega)) (csV_192 hts rfl rfl ⟨Nat.le_of_ble_eq_true rfl, Nat.le_of_ble_eq_true rfl⟩) (zPV2 (q0 := 0) (ci := 9) hPc hDc hK hXN rfl rfl) rfl rfl hl.1 rfl (lv_room (Nat.le_of_ble_eq_true rfl)) dX11_changes_36 ⟨Nat.zero_le _, Nat.zero_le _⟩) hS hFc hFc rfl (fun t H locs ht hB hk1 hS => ?_)
    obtain ⟨cx1, cy1, hc1, hc2, hP1, hD1⟩ := hB
    rw [ht] at hP1
    obtain ⟨hP, hD⟩ := zn (W2 := [_, (oa (a 1) cI 201 (upd kd f ((upd (upd (upd (upd I0 26 (nI ln)) 31 (nI n)) 35 (nI on)) 36 ok) 36))), _, _, _, _, _, _, _, _, _, (oa (a 11) cI 201 (upd mn f (nI on))), (oa (a 12) cI 8040 cx1), (oa (a 13) cI 8040 cy1), _, _, _, _, _, _, _, _, _, _, _, _, _, _, _, _, _, _]) hP hD hk1 hFc hP1 hD1 [0, 1, 11, 12, 13, 23, 24] zl_182 zl_182 [0, 1, 11, 12, 13, 23, 24] (by decide +kernel) rfl rfl rfl rfl rfl
    clear hk1 hPc hDc hFc hP1 hD1 ht
    have hfx := fgX_of (fun j hj => (hc1 j hj).1) (fun j hj => (hc2 j hj).1)
    have hfy := fgX_of (fun j hj => (hc1 j hj).2) (fun j hj => (hc2 j hj).2)
    rw [hfx, hfy] at hP hD
    refine lv_aload_n hx hb dX11_changes_39 rfl (lv_at hl 1 rfl) ?_
    obtain ⟨hPc, hDc, hFc⟩ := zo_sub (wc := [_, _, _, _, _, _, _, _, _, _, _, _, _, _, _, _]) hP hD hS hA [0, 1, 2, 3, 4, 5, 6, 7, 8, 9, 10, 11, 12, 13, 14, 15] (by decide +kernel) rfl
    refine zcall (st1 := []) (va_runV (As := []) (rest := []) ⟨hx, hb, hml, hown, hts⟩ (k_M_begins l dC dI cI cZ cF H.size k0 a (upd (upd (upd (upd I0 26 (nI ln)) 31 (nI n)) 35 (nI on)) 36 ok) J0 dn bs ft w0 cp c1 (upd kd f ((upd (upd (upd (upd I0 26 (nI ln)) 31 (nI n)) 35 (nI on)) 36 ok) 36)) st gb it pa pb rk wd tw tn (upd mn f (nI on)) (fgX f on ox cx) (fgX f on oy cy) sa sh (hft) (by first | with_reducible assumption | omega) (hdn) (hbs) (by first | with_reducible assumption | omega) (by first | with_reducible assumption | omega) (hi5_1) (hsa_1) (hmn_1) (hc1_1) (hpw_1) (hw0_1) (hfit_1) (hmin_1) (hcE_1)) (csV_205 hts rfl rfl ⟨Nat.le_of_ble_eq_true rfl, Nat.le_of_ble_eq_true rfl⟩) (zPV2 (q0 := 0) (ci := 9) hPc hDc hK hXN rfl rfl) rfl rfl hl.1 rfl (lv_room (Nat.le_of_ble_eq_true rfl)) dX11_changes_40 ⟨show (0 + (c1 - cp)) ≤ c2 - cp by omega, show (0 + (8192 * (c1 - cp))) ≤ 8192 * (c2 - cp) by omega⟩) hS hFc hFc rfl (fun t H locs ht hB hk1 hS => ?_)
    obtain ⟨b1, sh1, g1, g2, g3, g4, hP1, hD1⟩ := hB
    rw [ht] at hP1
    obtain ⟨hP, hD⟩ := zn (W2 := [_, _, _, _, _, _, _, _, _, _, _, _, _, _, _, _, (om k0 (va_up a 28 b1) (upd (upd (upd (upd (upd I0 26 (nI ln)) 31 (nI n)) 35 (nI on)) 36 ok) 41 (nI (psN (nnF st tn (upd mn f (nI on))) w0 ft))) J0), (oa (a 1) cI 201 (upd kd f ((upd (upd (upd (upd I0 26 (nI ln)) 31 (nI n)) 35 (nI on)) 36 ok) 36))), (oa (a 5) cI 201 st), (oa (a 7) cI 201 gb), (oa (a 10) cI 201 it), (oa (a 8) cI 201 pa), (oa (a 9) cI 201 pb), (oa (a 2) cI 201 rk), (oa (a 3) cI 201 wd), (oa (a 4) cI 201 tw), (oa (a 6) cZ 201 tn), (oa (a 11) cI 201 (upd mn f (nI on))), (oa (a 12) cI 8040 (fgX f on ox cx)), (oa (a 13) cI 8040 (fgX f on oy cy)), (oa (a 27) cI 516 (upd sa ((dn - bs) + 1) (nI (psN (nnF st tn (upd mn f (nI on))) w0 ft)))), (oa b1 cI (4096 * c1) sh1)]) hP hD hk1 hFc hP1 hD1 zl_80 zl_185 zl_186 zl_187 (by decide +kernel) rfl rfl rfl rfl rfl
    clear hk1 hPc hDc hFc hP1 hD1 ht
    refine lv_aload_n hx hb dX11_changes_43 rfl (lv_at hl 1 rfl) ?_
    refine va_get (D := (dC, dI)) (ci := 9) (v := .ref (a 1)) (C := RX11) (T := TX11) (N := 55) hx hb hts inX11 hown hK hP 16 rfl rfl 1 (Nat.le_of_ble_eq_true rfl) (hts _ mw_1160) (fun _ h9 => h9) rfl dX11_changes_44 ?_
    refine lv_iload_n hx hb dX11_changes_47 rfl (lv_at hl 2 rfl) ?_
    refine lv_iload_n hx hb dX11_changes_48 rfl (lv_at hl 0 rfl) ?_
    refine z_iast hx hb hK hP hD hS 17 0 rfl rfl (e := f) (x := kd f) rfl b9_2 (Nat.le_of_ble_eq_true rfl) dX11_changes_49 (fun H locs hP hD hS => ?_)
    obtain ⟨hP, hD⟩ := zre (W2 := [_, _, _, _, _, _, _, _, _, _, _, _, _, _, _, _, _, (oa (a 1) cI 201 (upd (upd kd f ((upd (upd (upd (upd I0 26 (nI ln)) 31 (nI n)) 35 (nI on)) 36 ok) 36)) f (kd f))), _, _, _, _, _, _, _, _, _, _, _, _, _, _]) hP hD rfl
    refine lv_aload_n hx hb dX11_changes_50 rfl (lv_at hl 1 rfl) ?_
    refine lv_iload_n hx hb dX11_changes_51 rfl (lv_at hl 2 rfl) ?_
    obtain ⟨hPc, hDc, hFc⟩ := zo_sub (wc := [_, _, _, _, _, _]) hP hD hS hA [16, 27, 28, 29, 5, 6] (by decide +kernel) rfl
    refine zcall (st1 := []) (va_runV (As := [.int (nI f)]) (rest := []) ⟨hx, hb, hml, hown, hts⟩ (k_M_give l dC dI cI cZ cF H.size k0 (va_up a 28 b1) (upd (upd (upd (upd (upd I0 26 (nI ln)) 31 (nI n)) 35 (nI on)) 36 ok) 41 (nI (psN (nnF st tn (upd mn f (nI on))) w0 ft))) J0 f n (upd mn f (nI on)) (fgX f on ox cx) (fgX f on oy cy) P1 Q1 (by first | with_reducible assumption | omega) (rfl) (by first | with_reducible assumption | omega)) (csV_206 hts rfl rfl ⟨Nat.le_of_ble_eq_true rfl, Nat.le_of_ble_eq_true rfl⟩) (zPV2 (q0 := 0) (ci := 9) hPc hDc hK hXN rfl rfl) rfl rfl hl.1 rfl (lv_room (Nat.le_of_ble_eq_true rfl)) dX11_changes_52 ⟨show (0 + (c1 - cp)) ≤ c2 - cp by omega, show (0 + (8192 * (c1 - cp))) ≤ 8192 * (c2 - cp) by omega⟩) hS hFc hFc rfl (fun t H locs ht hB hk1 hS => ?_)
    obtain ⟨cx3, cy3, hg1, hg2, hP1, hD1⟩ := hB
    rw [ht] at hP1
    obtain ⟨hP, hD⟩ := zn (W2 := [_, _, _, _, _, _, _, _, _, _, _, _, _, _, _, _, _, _, _, _, _, _, _, _, _, _, _, (oa (a 11) cI 201 (upd (upd mn f (nI on)) f (nI n))), (oa (a 12) cI 8040 cx3), (oa (a 13) cI 8040 cy3), _, _]) hP hD hk1 hFc hP1 hD1 [16, 27, 28, 29, 5, 6] zl_188 zl_188 [16, 27, 28, 29, 5, 6] (by decide +kernel) rfl rfl rfl rfl rfl
    clear hk1 hPc hDc hFc hP1 hD1 ht
    have hgx := gv_of (c := cx) rfl (fun j hj => (htk j hj).1) (fun j h1 h2 => (hrow j h1 h2).1) (fun j hj => (hg1 j hj).1) (fun j hj => (hg2 j hj).1)
    have hgy := gv_of (c := cy) rfl (fun j hj => (htk j hj).2) (fun j h1 h2 => (hrow j h1 h2).2) (fun j hj => (hg1 j hj).2) (fun j hj => (hg2 j hj).2)
    rw [hgx, hgy, show (upd (upd kd f ((upd (upd (upd (upd I0 26 (nI ln)) 31 (nI n)) 35 (nI on)) 36 ok) 36)) f (kd f) : Nat → Int32) = kd from upd_back rfl, show (upd (upd mn f (nI on)) f (nI n) : Nat → Int32) = mn from upd_back hm_f] at hP hD
    refine lv_aload_n hx hb dX11_changes_55 rfl (lv_at hl 1 rfl) ?_
    refine lv_aload_n hx hb dX11_changes_56 rfl (lv_at hl 1 rfl) ?_
    refine va_get (D := (dC, dI)) (ci := 9) (v := .int (nI ln)) (C := RX11) (T := TX11) (N := 55) hx hb hts inX11 hown hK hP 16 rfl rfl 26 (Nat.le_of_ble_eq_true rfl) (hts _ mw_1185) (fun _ h9 => h9) rfl dX11_changes_57 ?_
    obtain ⟨hPc, hDc, hFc⟩ := zo_sub (wc := [_, _, _, _, _]) hP hD hS hA [16, 12, 13, 14, 15] (by decide +kernel) rfl
    refine zcall (st1 := []) (va_runV (As := [.int (nI ln)]) (rest := []) ⟨hx, hb, hml, hown, hts⟩ (k_M_squeeze l dC dI cI cZ cF H.size k0 (va_up a 28 b1) (upd (upd (upd (upd (upd I0 26 (nI ln)) 31 (nI n)) 35 (nI on)) 36 ok) 41 (nI (psN (nnF st tn (upd mn f (nI on))) w0 ft))) J0 ln ln cl dn la lb lc ld (rfl) (by first | with_reducible assumption | omega) (by first | with_reducible assumption | omega) (by first | with_reducible assumption | omega) (by first | with_reducible assumption | omega) (hdn) (by first | with_reducible assumption | omega)) (csV_207 hts rfl rfl ⟨Nat.le_of_ble_eq_true rfl, Nat.le_of_ble_eq_true rfl⟩) (zPV2 (q0 := 0) (ci := 9) hPc hDc hK hXN rfl rfl) rfl rfl hl.1 rfl (lv_room (Nat.le_of_ble_eq_true rfl)) dX11_changes_60 ⟨show (0 + (c1 - cp)) ≤ c2 - cp by omega, show (0 + (8192 * (c1 - cp))) ≤ 8192 * (c2 - cp) by omega⟩) hS hFc hFc rfl (fun t H locs ht hB hk1 hS => ?_)
    obtain ⟨t9, la1, lb1, lc1, ld1, hs1, hs2, hs3, hP1, hD1⟩ := hB
    rw [ht] at hP1
    obtain ⟨hP, hD⟩ := zn (W2 := [_, _, _, _, _, _, _, _, _, _, _, _, (oa (a 22) cI (64 * cl) la1), (oa (a 23) cI (64 * cl) lb1), (oa (a 24) cI (64 * cl) lc1), (oa (a 25) cI (64 * cl) ld1), (om k0 (va_up a 28 b1) (upd (upd (upd (upd (upd I0 26 (nI t9)) 31 (nI n)) 35 (nI on)) 36 ok) 41 (nI (psN (nnF st tn (upd mn f (nI on))) w0 ft))) J0), _, _, _, _, _, _, _, _, _, _, _, _, _, _, _]) hP hD hk1 hFc hP1 hD1 [16, 12, 13, 14, 15] zl_189 zl_189 [16, 12, 13, 14, 15] (by decide +kernel) rfl rfl rfl rfl rfl
    clear hk1 hPc hDc hFc hP1 hD1 ht
    refine lv_aload_n hx hb dX11_changes_63 rfl (lv_at hl 1 rfl) ?_
    refine lv_iload_n hx hb dX11_changes_64 rfl (lv_at hl 3 rfl) ?_
    refine lv_iload_n hx hb dX11_changes_65 rfl (lv_at hl 2 rfl) ?_
    refine lv_iconst (v := 0) hx hb dX11_changes_66 rfl ?_
    obtain ⟨hPc, hDc, hFc⟩ := zo_sub (wc := [_, _, _, _, _, _, _, _, _, _, _, _, _, _, _, _, _, _, _]) hP hD hS hA [16, 17, 18, 19, 20, 21, 22, 23, 24, 25, 26, 27, 28, 29, 30, 31, 0, 1, 2] (by decide +kernel) rfl
    refine zcall (st1 := [.int (nI (dn + 1))]) (va_runV (As := [.int 5, .int (nI f), .int 0]) (rest := []) ⟨hx, hb, hml, hown, hts⟩ (k_M_ends l dC dI cI cZ cF H.size k0 (va_up a 28 b1) (upd (upd (upd (upd (upd I0 26 (nI t9)) 31 (nI n)) 35 (nI on)) 36 ok) 41 (nI (psN (nnF st tn (upd mn f (nI on))) w0 ft))) J0 5 (nI f) 0 dn bs ft (psN (nnF st tn (upd mn f (nI on))) w0 ft) c1 c2 kd st gb it pa pb rk wd tw tn mn cx cy (upd sa ((dn - bs) + 1) (nI (psN (nnF st tn (upd mn f (nI on))) w0 ft))) sh1 wh of9 we (hft) (by first | with_reducible assumption | omega) (hdn) (hbs) (by first | with_reducible assumption | omega) (by first | with_reducible assumption | omega) (by first | with_reducible assumption | omega) (by rw [show dn + 1 - bs = dn - bs + 1 by omega]; exact up_at _ _ _) (hmn_2) (by have := pw_le hpw_1; omega) (hpw_2) (by first | with_reducible assumption | omega) (hfit_2) (hmin_2) (hcE_2)) (csV_208 hts rfl rfl ⟨Nat.le_of_ble_eq_true rfl, Nat.le_of_ble_eq_true rfl⟩) (zPV2 (q0 := 0) (ci := 9) hPc hDc hK hXN rfl rfl) rfl rfl hl.1 rfl (lv_room (Nat.le_of_ble_eq_true rfl)) dX11_changes_67 ⟨show ((0 + (c1 - cp)) + (c2 - c1)) ≤ c2 - cp by omega, show ((0 + (8192 * (c1 - cp))) + (8192 * (c2 - c1))) ≤ 8192 * (c2 - cp) by omega⟩) hS hFc hFc rfl (fun t H locs ht hB hk1 hS => ?_)
    obtain ⟨b2, sh2, g5, g6, g7, g8, hP1, hD1⟩ := hB
    rw [ht] at hP1
    obtain ⟨hP, hD⟩ := zn (W2 := [_, _, _, _, _, _, _, _, _, _, _, _, _, (om k0 (va_up a 28 b2) (upd (upd (upd (upd (upd (upd (upd (upd I0 14 0) 19 (nI (dn + 1))) 20 0) 26 (nI t9)) 31 (nI n)) 35 (nI on)) 36 ok) 41 (nI (psN (nnF st tn mn) (psN (nnF st tn (upd mn f (nI on))) w0 ft) ft))) J0), (oa (a 1) cI 201 kd), (oa (a 5) cI 201 st), (oa (a 7) cI 201 gb), (oa (a 10) cI 201 it), (oa (a 8) cI 201 pa), (oa (a 9) cI 201 pb), (oa (a 2) cI 201 rk), (oa (a 3) cI 201 wd), (oa (a 4) cI 201 tw), (oa (a 6) cZ 201 tn), (oa (a 11) cI 201 mn), (oa (a 12) cI 8040 cx), (oa (a 13) cI 8040 cy), (oa (a 27) cI 516 (upd (upd sa ((dn - bs) + 1) (nI (psN (nnF st tn (upd mn f (nI on))) w0 ft))) ((dn + 1 - bs) + 1) (nI (psN (nnF st tn mn) (psN (nnF st tn (upd mn f (nI on))) w0 ft) ft)))), (oa b2 cI (4096 * c2) sh2), (oa (a 16) cI 514 (upd wh (dn + 1) (5 : Int32))), (oa (a 17) cI 514 (upd of9 (dn + 1) (nI f))), (oa (a 18) cI 514 (upd we (dn + 1) (0 : Int32)))]) hP hD hk1 hFc hP1 hD1 zl_190 zl_191 zl_192 zl_193 (by decide +kernel) rfl rfl rfl rfl rfl
    clear hk1 hPc hDc hFc hP1 hD1 ht
    refine lv_istore (lv' := [(4, .int (nI (dn + 1))), (3, .int (kd f)), (0, .ref k0), (1, .int (nI f)), (2, .int 5)]) hx hb dX11_changes_70 hl (Nat.le_of_ble_eq_true rfl) rfl (fun ls hl => ?_)
    refine lv_iconst (v := 1) hx hb dX11_changes_72 rfl ?_
    obtain ⟨hP9, hD9⟩ := zq_sub (wc := [_, _, _, _, _, _, _, _, _, _, _, _, _, _, _, _, _, _, _, _, _, _, _, _, _, _, _, _, _, _, _, _]) hP hD [13, 14, 15, 16, 17, 18, 19, 20, 21, 22, 23, 24, 25, 26, 27, 28, 29, 30, 31, 0, 1, 2, 3, 4, 5, 6, 7, 8, 9, 10, 11, 12] rfl rfl
    refine W.widen (k := c2 - cp) (n := 8192 * (c2 - cp)) (by omega) (by omega) ?_
    rw [hQ9]
    exact W.zret (ty := .boolean) (v := 1) hx hb hr (rfl) (fun t ht hW => ⟨⟨rfl, (nI n), b2, sh2, t9, S1, T1, P1, Q1, la1, lb1, lc1, ld1, (by have h9 := psN_ge (nnF st tn (upd mn f (nI on))) w0 ft; rw [g6 _ (by omega)]; exact g1), (fun j hj => by have h9 := psN_ge (nnF st tn (upd mn f (nI on))) w0 ft; rw [g6 _ (by omega)]; exact g2 j hj), (fun g hg j hj => by have h9 := psN_mono (nnF st tn (upd mn f (nI on))) w0 hg; rw [g6 _ (by omega)]; exact g3 g hg j hj), (g5), (g7), (hs1), (⟨hs2, lsZ_n hs3⟩), by rw [ht]; exact hP9, hD9⟩, hS.F ht⟩) hS.2.2 dX11_changes_73
  · have c_1 : ¬ (lwA ft st tn kd mn cx cy f n (ox 0) (oy 0) MT WI IN (sW0)) := zp_0 c_1
    exfalso; exact absurd hyes (by first | with_reducible assumption | assumption)
end
section
set_option maxHeartbeats 4000000 in
set_option maxRecDepth 100000 in
theorem k_M_smooth_8 (l : Launch) (dC : Nat → ClassId) (dI : Nat → Nat → Nat) (cI cZ cF : ClassId) (sz : Nat) (k0 : Nat) (a : Nat → Nat) (I0 : Nat → Int32) (J0 : Nat → Int64) (f : Nat) (n : Nat) (ft : Nat) (kd : Nat → Int32) (st : Nat → Int32) (gb : Nat → Int32) (it : Nat → Int32) (pa : Nat → Int32) (pb : Nat → Int32) (rk : Nat → Int32) (wd : Nat → Int32) (tw : Nat → Int32) (tn : Nat → Int32) (mn : Nat → Int32) (cx : Nat → Int32) (cy : Nat → Int32) (sa : Nat → Int32) (sh : Nat → Int32) (wh : Nat → Int32) (of9 : Nat → Int32) (we : Nat → Int32) (S0 : Nat → Int32) (T0 : Nat → Int32) (P0 : Nat → Int32) (Q0 : Nat → Int32) (ox : Nat → Int32) (oy : Nat → Int32) (mt : Nat → Int32) (wi : Nat → Int32) (ins : Nat → Int32) (la : Nat → Int32) (lb : Nat → Int32) (lc : Nat → Int32) (ld : Nat → Int32) (cp : Nat) (cl : Nat) (hft : I0 0 = nI ft) (h200 : ft ≤ 200) (hf_f : f ≤ 200) (hm_f : mn f = nI n) (hn_f : 1 ≤ n ∧ n ≤ 40) (hp_f : pls n (cF40 cx f) (cF40 cy f)) (hft_f : f < ft) (hwf : ∀ q, lvF ft st tn q → wfM mn cx cy q) (hst1 : (st f).toInt = 1) (htn0 : (tn f).toInt = 0) (hkd1 : ¬ (kd f).toInt = 0 ∧ ¬ (kd f).toInt = 6) (hmv : ¬ mvd n (fun i => smv (pI (¬ 5 ≤ (kd f).toInt ∧ (i = 0 ∨ i = n - 1))) (cF40 cx f (prv n i)) (cF40 cx f i) (cF40 cx f (nxt n i))) (fun i => smv (pI (¬ 5 ≤ (kd f).toInt ∧ (i = 0 ∨ i = n - 1))) (cF40 cy f (prv n i)) (cF40 cy f i) (cF40 cy f (nxt n i))) (cF40 cx f) (cF40 cy f)) : zM l yX11_smooth cX11_smooth 6 (some .boolean) ({ frames := 5, cells := 0, slots := 0, locals := 130 } : Room) [.ref k0, .int (nI f)] (dC, dI) (zTy cI cZ cF) [(om k0 a I0 J0), (oa (a 1) cI 201 kd), (oa (a 5) cI 201 st), (oa (a 7) cI 201 gb), (oa (a 10) cI 201 it), (oa (a 8) cI 201 pa), (oa (a 9) cI 201 pb), (oa (a 2) cI 201 rk), (oa (a 3) cI 201 wd), (oa (a 4) cI 201 tw), (oa (a 6) cZ 201 tn), (oa (a 11) cI 201 mn), (oa (a 12) cI 8040 cx), (oa (a 13) cI 8040 cy), (oa (a 27) cI 516 sa), (oa (a 28) cI (4096 * cp) sh), (oa (a 16) cI 514 wh), (oa (a 17) cI 514 of9), (oa (a 18) cI 514 we), (oa (a 32) cI 8 S0), (oa (a 40) cI 6 T0), (oa (a 29) cI 42 P0), (oa (a 30) cI 42 Q0), (oa (a 33) cI 42 ox), (oa (a 34) cI 42 oy), (oa (a 37) cZ 201 mt), (oa (a 38) cZ 201 wi), (oa (a 39) cZ 8040 ins), (oa (a 22) cI (64 * cl) la), (oa (a 23) cI (64 * cl) lb), (oa (a 24) cI (64 * cl) lc), (oa (a 25) cI (64 * cl) ld)] sz (some (.int 0)) (fun A t => ∃ (S1 : Nat → Int32), ∃ (ox1 : Nat → Int32), ∃ (oy1 : Nat → Int32), ∃ (mt1 : Nat → Int32), ∃ (wi1 : Nat → Int32), ∃ (ins1 : Nat → Int32), zPD (dC, dI) classes A [(om k0 a (upd (upd (upd (upd I0 14 8) 15 (I0 15)) 35 (nI n)) 36 (kd f)) J0), (oa (a 1) cI 201 kd), (oa (a 5) cI 201 st), (oa (a 7) cI 201 gb), (oa (a 10) cI 201 it), (oa (a 8) cI 201 pa), (oa (a 9) cI 201 pb), (oa (a 2) cI 201 rk), (oa (a 3) cI 201 wd), (oa (a 4) cI 201 tw), (oa (a 6) cZ 201 tn), (oa (a 11) cI 201 mn), (oa (a 12) cI 8040 cx), (oa (a 13) cI 8040 cy), (oa (a 27) cI 516 sa), (oa (a 28) cI (4096 * cp) sh), (oa (a 16) cI 514 wh), (oa (a 17) cI 514 of9), (oa (a 18) cI 514 we), (oa (a 32) cI 8 S1), (oa (a 40) cI 6 T0), (oa (a 29) cI 42 P0), (oa (a 30) cI 42 Q0), (oa (a 33) cI 42 ox1), (oa (a 34) cI 42 oy1), (oa (a 37) cZ 201 mt1), (oa (a 38) cZ 201 wi1), (oa (a 39) cZ 8040 ins1), (oa (a 22) cI (64 * cl) la), (oa (a 23) cI (64 * cl) lb), (oa (a 24) cI (64 * cl) lc), (oa (a 25) cI (64 * cl) ld)] t.heap) 0 0 := by
  refine zIn (own := "ScaleShopModel") (loc := [(0, .ref k0), (1, .int (nI f))]) rfl rfl rfl rfl (fun p e s m below meth c hx hb hr hts hown hlocks hml hnm9 A hA hS hP hD hK hXN Q9 hQ9 ls hl => ?_)
  refine lv_aload_n hx hb dX11_smooth_0 rfl (lv_at hl 0 rfl) ?_
  refine lv_iload_n hx hb dX11_smooth_1 rfl (lv_at hl 1 rfl) ?_
  obtain ⟨hPc, hDc, hFc, hI1⟩ := zi_sub (wc := [_, _]) hP hD hS hA [0, 2] rfl rfl
  refine zcall (st1 := [.int (wrN (st f))]) (va_runV (As := [.int (nI f)]) (rest := []) ⟨hx, hb, hml, hown, hts⟩ (k_M_wrong l dC dI cI cZ cF s.heap.size k0 a I0 J0 f ft st (by first | with_reducible assumption | assumption) (by first | with_reducible assumption | omega) (by first | with_reducible assumption | omega)) (csV_209 hts rfl rfl ⟨Nat.le_of_ble_eq_true rfl, Nat.le_of_ble_eq_true rfl⟩) (zPV2 (q0 := 0) (ci := 9) hPc hDc hK hXN rfl rfl) rfl rfl hl.1 rfl (lv_room (Nat.le_of_ble_eq_true rfl)) dX11_smooth_2 ⟨Nat.le_of_ble_eq_true rfl, Nat.le_of_ble_eq_true rfl⟩) hS hFc hFc rfl (fun t H locs ht hB hk1 hS => ?_)
  obtain ⟨hP1, hD1⟩ := hB
  rw [ht] at hP1
  replace hP := z0 hP hD hk1 hP1 hI1
  clear hk1 hPc hDc hFc hP1 hD1 ht hI1
  refine zz_i2 (wrN_s (st f)) (fun hs9 => ?_) (fun hs9 => ?_)
  · skip
    refine lv_istore_n (lv' := [(2, .int 0), (0, .ref k0), (1, .int (nI f))]) hx hb dX11_smooth_5 rfl hl (Nat.le_of_ble_eq_true rfl) rfl (fun ls hl => ?_)
    refine lv_iload_n hx hb dX11_smooth_6 rfl (lv_at hl 0 rfl) ?_
    refine lv_if_le (tgt := 14) hx hb dX11_smooth_7 rfl (fun c_1 => ?_) (fun c_1 => ?_)
    · refine lv_aload_n hx hb dX11_smooth_14 rfl (lv_at hl 1 rfl) ?_
      refine lv_iload_n hx hb dX11_smooth_15 rfl (lv_at hl 2 rfl) ?_
      obtain ⟨hPc, hDc, hFc, hI1⟩ := zi_sub (wc := [_, _]) hP hD hS hA [0, 1] rfl rfl
      refine zcall (st1 := [.int (pI (¬ (kd f).toInt = 0 ∧ ¬ (kd f).toInt = 6))]) (va_runV (As := [.int (nI f)]) (rest := []) ⟨hx, hb, hml, hown, hts⟩ (k_M_isPlainable l dC dI cI cZ cF H.size k0 a I0 J0 f kd (by first | with_reducible assumption | omega)) (csV_210 hts rfl rfl ⟨Nat.le_of_ble_eq_true rfl, Nat.le_of_ble_eq_true rfl⟩) (zPV2 (q0 := 0) (ci := 9) hPc hDc hK hXN rfl rfl) rfl rfl hl.1 rfl (lv_room (Nat.le_of_ble_eq_true rfl)) dX11_smooth_16 ⟨Nat.le_of_ble_eq_true rfl, Nat.le_of_ble_eq_true rfl⟩) hS hFc hFc rfl (fun t H locs ht hB hk1 hS => ?_)
      obtain ⟨hP1, hD1⟩ := hB
      rw [ht] at hP1
      replace hP := z0 hP hD hk1 hP1 hI1
      clear hk1 hPc hDc hFc hP1 hD1 ht hI1
      refine lv_if_ne (tgt := 26) hx hb dX11_smooth_19 rfl (fun c_2 => ?_) (fun c_2 => ?_)
      · have c_2 : ¬ (kd f).toInt = 0 ∧ ¬ (kd f).toInt = 6 := zp_1 c_2
        refine lv_aload_n hx hb dX11_smooth_26 rfl (lv_at hl 1 rfl) ?_
        refine va_get (D := (dC, dI)) (ci := 9) (v := .ref (a 6)) (C := RX11) (T := TX11) (N := 55) hx hb hts inX11 hown hK hP 0 rfl rfl 6 (Nat.le_of_ble_eq_true rfl) (hts _ mw_1165) (fun _ h9 => h9) rfl dX11_smooth_27 ?_
        refine lv_iload_n hx hb dX11_smooth_30 rfl (lv_at hl 2 rfl) ?_
        have b9_3 : f < 201 := by omega
        refine z_zald hx hb hK hP 10 1 rfl rfl (e := f) rfl b9_3 (Nat.le_of_ble_eq_true rfl) dX11_smooth_31 ?_
        refine lv_if_eq (tgt := 39) hx hb dX11_smooth_32 rfl (fun c_4 => ?_) (fun c_4 => ?_)
        · have c_4 : (tn f).toInt = 0 := zc_eq rfl rfl c_4
          refine lv_iconst (v := 0) hx hb dX11_smooth_39 rfl ?_
          refine lv_istore_n (lv' := [(2, .int 0), (0, .ref k0), (1, .int (nI f))]) hx hb dX11_smooth_40 rfl hl (Nat.le_of_ble_eq_true rfl) rfl (fun ls hl => ?_)
          refine lv_iload_n hx hb dX11_smooth_41 rfl (lv_at hl 0 rfl) ?_
          refine lv_if_le (tgt := 51) hx hb dX11_smooth_42 rfl (fun c_5 => ?_) (fun c_5 => ?_)
          · refine lv_aload_n hx hb dX11_smooth_51 rfl (lv_at hl 1 rfl) ?_
            refine lv_iload_n hx hb dX11_smooth_52 rfl (lv_at hl 2 rfl) ?_
            obtain ⟨hPc, hDc, hFc⟩ := zo_sub (wc := [_, _, _, _, _, _, _, _, _, _, _, _, _]) hP hD hS hA [0, 2, 10, 1, 11, 12, 13, 19, 23, 24, 25, 26, 27] (by decide +kernel) rfl
            refine zcall (st1 := []) (va_runV (As := [.int (nI f)]) (rest := []) ⟨hx, hb, hml, hown, hts⟩ (k_M_remember l dC dI cI cZ cF H.size k0 a I0 J0 f n ft st tn kd mn cx cy S0 ox oy mt wi ins (by first | with_reducible assumption | assumption) (by first | with_reducible assumption | omega) (by first | with_reducible assumption | omega) (by first | with_reducible assumption | assumption) (by first | with_reducible assumption | omega) (by first | with_reducible assumption | assumption) (fun q h1 _ => hwf q h1)) (csV_190 hts rfl rfl ⟨Nat.le_of_ble_eq_true rfl, Nat.le_of_ble_eq_true rfl⟩) (zPV2 (q0 := 0) (ci := 9) hPc hDc hK hXN rfl rfl) rfl rfl hl.1 rfl (lv_room (Nat.le_of_ble_eq_true rfl)) dX11_smooth_53 ⟨Nat.le_of_ble_eq_true rfl, Nat.le_of_ble_eq_true rfl⟩) hS hFc hFc rfl (fun t H locs ht hB hk1 hS => ?_)
            refine ex6 hB (fun S1 ox1 oy1 mt1 wi1 ins1 hB0 => ?_)
            clear hB
            obtain ⟨hox, hmt, hwi, hin, hP1, hD1⟩ := hB0
            rw [ht] at hP1
            obtain ⟨hP, hD⟩ := zn (W2 := [(om k0 a (upd (upd I0 35 (nI n)) 36 (kd f)) J0), _, _, _, _, _, _, _, _, _, _, _, _, _, _, _, _, _, _, (oa (a 32) cI 8 S1), _, _, _, (oa (a 33) cI 42 ox1), (oa (a 34) cI 42 oy1), (oa (a 37) cZ 201 mt1), (oa (a 38) cZ 201 wi1), (oa (a 39) cZ 8040 ins1), _, _, _, _]) hP hD hk1 hFc hP1 hD1 zl_194 zl_195 zl_195 zl_194 (by decide +kernel) rfl rfl rfl rfl rfl
            clear hk1 hPc hDc hFc hP1 hD1 ht
            refine lv_iconst (v := 0) hx hb dX11_smooth_56 rfl ?_
            refine lv_istore_n (lv' := [(3, .int 0), (2, .int 0), (0, .ref k0), (1, .int (nI f))]) hx hb dX11_smooth_57 rfl hl (Nat.le_of_ble_eq_true rfl) rfl (fun ls hl => ?_)
            have hl_58 : ∀ (n9 : Nat) (k : Nat) (cx1 : Nat → Int32) (cy1 : Nat → Int32) (H : Heap) (locs : List Loc) (ls : Array Slot), n - k < n9 → (k ≤ n) → (cx1 = fgX f k (fun i => smv (pI (¬ 5 ≤ (kd f).toInt ∧ (i = 0 ∨ i = n - 1))) (cF40 cx f (prv n i)) (cF40 cx f i) (cF40 cx f (nxt n i))) cx) → (cy1 = fgX f k (fun i => smv (pI (¬ 5 ≤ (kd f).toInt ∧ (i = 0 ∨ i = n - 1))) (cF40 cy f (prv n i)) (cF40 cy f i) (cF40 cy f (nxt n i))) cy) → va_P (dC, dI) classes [(om k0 a (upd (upd I0 35 (nI n)) 36 (kd f)) J0), (oa (a 1) cI 201 kd), (oa (a 5) cI 201 st), (oa (a 7) cI 201 gb), (oa (a 10) cI 201 it), (oa (a 8) cI 201 pa), (oa (a 9) cI 201 pb), (oa (a 2) cI 201 rk), (oa (a 3) cI 201 wd), (oa (a 4) cI 201 tw), (oa (a 6) cZ 201 tn), (oa (a 11) cI 201 mn), (oa (a 12) cI 8040 cx1), (oa (a 13) cI 8040 cy1), (oa (a 27) cI 516 sa), (oa (a 28) cI (4096 * cp) sh), (oa (a 16) cI 514 wh), (oa (a 17) cI 514 of9), (oa (a 18) cI 514 we), (oa (a 32) cI 8 S1), (oa (a 40) cI 6 T0), (oa (a 29) cI 42 P0), (oa (a 30) cI 42 Q0), (oa (a 33) cI 42 ox1), (oa (a 34) cI 42 oy1), (oa (a 37) cZ 201 mt1), (oa (a 38) cZ 201 wi1), (oa (a 39) cZ 8040 ins1), (oa (a 22) cI (64 * cl) la), (oa (a 23) cI (64 * cl) lb), (oa (a 24) cI (64 * cl) lc), (oa (a 25) cI (64 * cl) ld)] H → va_D A [(om k0 a (upd (upd I0 35 (nI n)) 36 (kd f)) J0), (oa (a 1) cI 201 kd), (oa (a 5) cI 201 st), (oa (a 7) cI 201 gb), (oa (a 10) cI 201 it), (oa (a 8) cI 201 pa), (oa (a 9) cI 201 pb), (oa (a 2) cI 201 rk), (oa (a 3) cI 201 wd), (oa (a 4) cI 201 tw), (oa (a 6) cZ 201 tn), (oa (a 11) cI 201 mn), (oa (a 12) cI 8040 cx1), (oa (a 13) cI 8040 cy1), (oa (a 27) cI 516 sa), (oa (a 28) cI (4096 * cp) sh), (oa (a 16) cI 514 wh), (oa (a 17) cI 514 of9), (oa (a 18) cI 514 we), (oa (a 32) cI 8 S1), (oa (a 40) cI 6 T0), (oa (a 29) cI 42 P0), (oa (a 30) cI 42 Q0), (oa (a 33) cI 42 ox1), (oa (a 34) cI 42 oy1), (oa (a 37) cZ 201 mt1), (oa (a 38) cZ 201 wi1), (oa (a 39) cZ 8040 ins1), (oa (a 22) cI (64 * cl) la), (oa (a 23) cI (64 * cl) lb), (oa (a 24) cI (64 * cl) lc), (oa (a 25) cI (64 * cl) ld)] → va_S A s.heap H locs → lv_has ls 6 [(3, .int (nI k)), (2, .int 0), (0, .ref k0), (1, .int (nI f))] → W p l e ({ frames := 5, cells := 0, slots := 0, locals := 130 } : Room) s m ([.ref k0, .int (nI f)] : List Value).toArray below meth c H locs 0 0 Q9 (F0 m 58 ls []) := by
              intro n9
              induction n9 with
              | zero => intro k cx1 cy1 H locs ls hm; exact absurd hm (Nat.not_lt_zero _)
              | succ n9 ih_58 =>
                intro k cx1 cy1 H locs ls hm hk hcx hcy hP hD hS hl
                refine lv_iload_n hx hb dX11_smooth_58 rfl (lv_at hl 0 rfl) ?_
                refine lv_aload_n hx hb dX11_smooth_59 rfl (lv_at hl 2 rfl) ?_
                refine va_get (D := (dC, dI)) (ci := 9) (v := .int (nI n)) (C := RX11) (T := TX11) (N := 55) hx hb hts inX11 hown hK hP 0 rfl rfl 35 (Nat.le_of_ble_eq_true rfl) (hts _ mw_1194) (fun _ h9 => h9) rfl dX11_smooth_60 ?_
                have b9_7 : zlt (k) := show k < 2147483648 by omega
                have b9_8 : zlt (n) := show n < 2147483648 by omega
                refine lv_icmp_ge (tgt := 208) hx hb dX11_smooth_63 rfl (fun c_6 => ?_) (fun c_6 => ?_)
                · have c_6 : ((n : Nat) : Int) ≤ ((k : Nat) : Int) := zc_le (nI_toInt b9_8) (nI_toInt b9_7) c_6
                  have hkn : k = n := (by omega)
                  rw [hkn] at hcx hcy
                  refine lv_aload_n hx hb dX11_smooth_208 rfl (lv_at hl 2 rfl) ?_
                  refine lv_iload_n hx hb dX11_smooth_209 rfl (lv_at hl 3 rfl) ?_
                  obtain ⟨hPc, hDc, hFc, hI1⟩ := zi_sub (wc := [_, _, _, _, _]) hP hD hS hA [0, 12, 13, 23, 24] (by decide +kernel) rfl
                  refine zcall (st1 := [.int (pI (∃ k, k < n ∧ ¬ ((cx1 (40 * f + k)).toInt = (ox1 k).toInt ∧ (cy1 (40 * f + k)).toInt = (oy1 k).toInt)))]) (va_runV (As := [.int (nI f)]) (rest := []) ⟨hx, hb, hml, hown, hts⟩ (k_M_moves l dC dI cI cZ cF H.size k0 a (upd (upd I0 35 (nI n)) 36 (kd f)) J0 f n cx1 cy1 ox1 oy1 (by first | with_reducible assumption | omega) (rfl) (by first | with_reducible assumption | omega)) (csV_211 hts rfl rfl ⟨Nat.le_of_ble_eq_true rfl, Nat.le_of_ble_eq_true rfl⟩) (zPV2 (q0 := 0) (ci := 9) hPc hDc hK hXN rfl rfl) rfl rfl hl.1 rfl (lv_room (Nat.le_of_ble_eq_true rfl)) dX11_smooth_210 ⟨Nat.le_of_ble_eq_true rfl, Nat.le_of_ble_eq_true rfl⟩) hS hFc hFc rfl (fun t H locs ht hB hk1 hS => ?_)
                  obtain ⟨hP1, hD1⟩ := hB
                  rw [ht] at hP1
                  replace hP := z0 hP hD hk1 hP1 hI1
                  clear hk1 hPc hDc hFc hP1 hD1 ht hI1
                  refine zz_i (v := pI (mvd n (fun i => smv (pI (¬ 5 ≤ (kd f).toInt ∧ (i = 0 ∨ i = n - 1))) (cF40 cx f (prv n i)) (cF40 cx f i) (cF40 cx f (nxt n i))) (fun i => smv (pI (¬ 5 ≤ (kd f).toInt ∧ (i = 0 ∨ i = n - 1))) (cF40 cy f (prv n i)) (cF40 cy f i) (cF40 cy f (nxt n i))) (cF40 cx f) (cF40 cy f))) (zp_iff (mv_iff hcx hcy hox)) ?_
                  refine lv_if_ne (tgt := 223) hx hb dX11_smooth_213 rfl (fun c_9 => ?_) (fun c_9 => ?_)
                  · have c_9 : mvd n (fun i => smv (pI (¬ 5 ≤ (kd f).toInt ∧ (i = 0 ∨ i = n - 1))) (cF40 cx f (prv n i)) (cF40 cx f i) (cF40 cx f (nxt n i))) (fun i => smv (pI (¬ 5 ≤ (kd f).toInt ∧ (i = 0 ∨ i = n - 1))) (cF40 cy f (prv n i)) (cF40 cy f i) (cF40 cy f (nxt n i))) (cF40 cx f) (cF40 cy f) := zp_1 c_9
                    exfalso; exact absurd (by first | with_reducible assumption | assumption) hmv
                  · have c_9 : ¬ (mvd n (fun i => smv (pI (¬ 5 ≤ (kd f).toInt ∧ (i = 0 ∨ i = n - 1))) (cF40 cx f (prv n i)) (cF40 cx f i) (cF40 cx f (nxt n i))) (fun i => smv (pI (¬ 5 ≤ (kd f).toInt ∧ (i = 0 ∨ i = n - 1))) (cF40 cy f (prv n i)) (cF40 cy f i) (cF40 cy f (nxt n i))) (cF40 cx f) (cF40 cy f)) := zp_0 c_9
                    refine lv_aload_n hx hb dX11_smooth_216 rfl (lv_at hl 2 rfl) ?_
                    refine lv_bipush (v := 8) hx hb dX11_smooth_217 rfl ?_
                    obtain ⟨hPc, hDc, hFc⟩ := zo_sub (wc := [_]) hP hD hS hA [0] rfl rfl
                    refine zcall (st1 := [.int 0]) (va_runV (As := [.int 8]) (rest := []) ⟨hx, hb, hml, hown, hts⟩ (k_M_no l dC dI cI cZ cF H.size k0 a (upd (upd I0 35 (nI n)) 36 (kd f)) J0 8 (by decide)) (csV_198 hts rfl rfl ⟨Nat.le_of_ble_eq_true rfl, Nat.le_of_ble_eq_true rfl⟩) (zPV2 (q0 := 0) (ci := 9) hPc hDc hK hXN rfl rfl) rfl rfl hl.1 rfl (lv_room (Nat.le_of_ble_eq_true rfl)) dX11_smooth_219 ⟨Nat.le_of_ble_eq_true rfl, Nat.le_of_ble_eq_true rfl⟩) hS hFc hFc rfl (fun t H locs ht hB hk1 hS => ?_)
                    obtain ⟨hP1, hD1⟩ := hB
                    rw [ht] at hP1
                    obtain ⟨hP, hD⟩ := zn (W2 := [(om k0 a (upd (upd (upd (upd I0 14 8) 15 (I0 15)) 35 (nI n)) 36 (kd f)) J0), _, _, _, _, _, _, _, _, _, _, _, _, _, _, _, _, _, _, _, _, _, _, _, _, _, _, _, _, _, _, _]) hP hD hk1 hFc hP1 hD1 [0] zl_183 zl_183 [0] (by decide +kernel) rfl rfl rfl rfl rfl
                    clear hk1 hPc hDc hFc hP1 hD1 ht
                    have hsx : fgX f n (fun i => smv (pI (¬ 5 ≤ (kd f).toInt ∧ (i = 0 ∨ i = n - 1))) (cF40 cx f (prv n i)) (cF40 cx f i) (cF40 cx f (nxt n i))) cx = cx := fgX_same (fun k9 h9 => Classical.byContradiction fun h8 => hmv ⟨k9, h9, fun h7 => h8 h7.1⟩)
                    have hsy : fgX f n (fun i => smv (pI (¬ 5 ≤ (kd f).toInt ∧ (i = 0 ∨ i = n - 1))) (cF40 cy f (prv n i)) (cF40 cy f i) (cF40 cy f (nxt n i))) cy = cy := fgX_same (fun k9 h9 => Classical.byContradiction fun h8 => hmv ⟨k9, h9, fun h7 => h8 h7.2⟩)
                    obtain ⟨hP9, hD9⟩ := zu_sub (wc := [(om k0 a (upd (upd (upd (upd I0 14 8) 15 (I0 15)) 35 (nI n)) 36 (kd f)) J0), (oa (a 1) cI 201 kd), (oa (a 5) cI 201 st), (oa (a 7) cI 201 gb), (oa (a 10) cI 201 it), (oa (a 8) cI 201 pa), (oa (a 9) cI 201 pb), (oa (a 2) cI 201 rk), (oa (a 3) cI 201 wd), (oa (a 4) cI 201 tw), (oa (a 6) cZ 201 tn), (oa (a 11) cI 201 mn), (oa (a 12) cI 8040 cx1), (oa (a 13) cI 8040 cy1), (oa (a 27) cI 516 sa), (oa (a 28) cI (4096 * cp) sh), (oa (a 16) cI 514 wh), (oa (a 17) cI 514 of9), (oa (a 18) cI 514 we), (oa (a 32) cI 8 S1), (oa (a 40) cI 6 T0), (oa (a 29) cI 42 P0), (oa (a 30) cI 42 Q0), (oa (a 33) cI 42 ox1), (oa (a 34) cI 42 oy1), (oa (a 37) cZ 201 mt1), (oa (a 38) cZ 201 wi1), (oa (a 39) cZ 8040 ins1), (oa (a 22) cI (64 * cl) la), (oa (a 23) cI (64 * cl) lb), (oa (a 24) cI (64 * cl) lc), (oa (a 25) cI (64 * cl) ld)]) hP hD (true :: true :: true :: true :: true :: true :: true :: true :: true :: true :: true :: true :: true :: true :: true :: true :: true :: true :: true :: true :: true :: true :: true :: true :: true :: true :: true :: true :: true :: true :: true :: true :: []) rfl rfl
                    have hE9 : ([(om k0 a (upd (upd (upd (upd I0 14 8) 15 (I0 15)) 35 (nI n)) 36 (kd f)) J0), (oa (a 1) cI 201 kd), (oa (a 5) cI 201 st), (oa (a 7) cI 201 gb), (oa (a 10) cI 201 it), (oa (a 8) cI 201 pa), (oa (a 9) cI 201 pb), (oa (a 2) cI 201 rk), (oa (a 3) cI 201 wd), (oa (a 4) cI 201 tw), (oa (a 6) cZ 201 tn), (oa (a 11) cI 201 mn), (oa (a 12) cI 8040 cx1), (oa (a 13) cI 8040 cy1), (oa (a 27) cI 516 sa), (oa (a 28) cI (4096 * cp) sh), (oa (a 16) cI 514 wh), (oa (a 17) cI 514 of9), (oa (a 18) cI 514 we), (oa (a 32) cI 8 S1), (oa (a 40) cI 6 T0), (oa (a 29) cI 42 P0), (oa (a 30) cI 42 Q0), (oa (a 33) cI 42 ox1), (oa (a 34) cI 42 oy1), (oa (a 37) cZ 201 mt1), (oa (a 38) cZ 201 wi1), (oa (a 39) cZ 8040 ins1), (oa (a 22) cI (64 * cl) la), (oa (a 23) cI (64 * cl) lb), (oa (a 24) cI (64 * cl) lc), (oa (a 25) cI (64 * cl) ld)] : va_W) = [(om k0 a (upd (upd (upd (upd I0 14 8) 15 (I0 15)) 35 (nI n)) 36 (kd f)) J0), (oa (a 1) cI 201 kd), (oa (a 5) cI 201 st), (oa (a 7) cI 201 gb), (oa (a 10) cI 201 it), (oa (a 8) cI 201 pa), (oa (a 9) cI 201 pb), (oa (a 2) cI 201 rk), (oa (a 3) cI 201 wd), (oa (a 4) cI 201 tw), (oa (a 6) cZ 201 tn), (oa (a 11) cI 201 mn), (oa (a 12) cI 8040 cx), (oa (a 13) cI 8040 cy), (oa (a 27) cI 516 sa), (oa (a 28) cI (4096 * cp) sh), (oa (a 16) cI 514 wh), (oa (a 17) cI 514 of9), (oa (a 18) cI 514 we), (oa (a 32) cI 8 S1), (oa (a 40) cI 6 T0), (oa (a 29) cI 42 P0), (oa (a 30) cI 42 Q0), (oa (a 33) cI 42 ox1), (oa (a 34) cI 42 oy1), (oa (a 37) cZ 201 mt1), (oa (a 38) cZ 201 wi1), (oa (a 39) cZ 8040 ins1), (oa (a 22) cI (64 * cl) la), (oa (a 23) cI (64 * cl) lb), (oa (a 24) cI (64 * cl) lc), (oa (a 25) cI (64 * cl) ld)] := by rw [hcx, hcy, hsx, hsy]
                    rw [hE9] at hP9 hD9
                    rw [hQ9]
                    exact W.zret (ty := .boolean) (v := 0) hx hb hr (rfl) (fun t ht hW => ⟨⟨rfl, S1, ox1, oy1, mt1, wi1, ins1, by rw [ht]; exact hP9, hD9⟩, hS.F ht⟩) hS.2.2 dX11_smooth_222
                · have c_6 : ((k : Nat) : Int) < ((n : Nat) : Int) := zc_nle (nI_toInt b9_8) (nI_toInt b9_7) c_6
                  have hk9 : k < n := (by omega)
                  have hpv := prv_lt (n := n) (i := k) hk9
                  have hnx := nxt_lt (n := n) (i := k) (by omega)
                  refine lv_aload_n hx hb dX11_smooth_66 rfl (lv_at hl 2 rfl) ?_
                  refine lv_iload_n hx hb dX11_smooth_67 rfl (lv_at hl 3 rfl) ?_
                  obtain ⟨hPc, hDc, hFc, hI1⟩ := zi_sub (wc := [_, _]) hP hD hS hA [0, 1] rfl rfl
                  refine zcall (st1 := [.int (pI (5 ≤ (kd f).toInt))]) (va_runV (As := [.int (nI f)]) (rest := []) ⟨hx, hb, hml, hown, hts⟩ (k_M_isRing l dC dI cI cZ cF H.size k0 a (upd (upd I0 35 (nI n)) 36 (kd f)) J0 f kd (by first | with_reducible assumption | omega)) (csV_165 hts rfl rfl ⟨Nat.le_of_ble_eq_true rfl, Nat.le_of_ble_eq_true rfl⟩) (zPV2 (q0 := 0) (ci := 9) hPc hDc hK hXN rfl rfl) rfl rfl hl.1 rfl (lv_room (Nat.le_of_ble_eq_true rfl)) dX11_smooth_68 ⟨Nat.le_of_ble_eq_true rfl, Nat.le_of_ble_eq_true rfl⟩) hS hFc hFc rfl (fun t H locs ht hB hk1 hS => ?_)
                  obtain ⟨hP1, hD1⟩ := hB
                  rw [ht] at hP1
                  replace hP := z0 hP hD hk1 hP1 hI1
                  clear hk1 hPc hDc hFc hP1 hD1 ht hI1
                  refine lv_if_ne (tgt := 91) hx hb dX11_smooth_71 rfl (fun c_10 => ?_) (fun c_10 => ?_)
                  · have c_10 : 5 ≤ (kd f).toInt := zp_1 c_10
                    have hj_11 : W p l e ({ frames := 5, cells := 0, slots := 0, locals := 130 } : Room) s m ([.ref k0, .int (nI f)] : List Value).toArray below meth c H locs 0 0 Q9 (F0 m 107 ls [.int (nI (prv n k))]) := by
                      refine lv_istore (lv' := [(4, .int (nI (prv n k))), (3, .int (nI k)), (2, .int 0), (0, .ref k0), (1, .int (nI f))]) hx hb dX11_smooth_107 hl (Nat.le_of_ble_eq_true rfl) rfl (fun ls hl => ?_)
                      have hj_12 : W p l e ({ frames := 5, cells := 0, slots := 0, locals := 130 } : Room) s m ([.ref k0, .int (nI f)] : List Value).toArray below meth c H locs 0 0 Q9 (F0 m 126 ls [.int (nI (nxt n k))]) := by
                        refine lv_istore (lv' := [(5, .int (nI (nxt n k))), (4, .int (nI (prv n k))), (3, .int (nI k)), (2, .int 0), (0, .ref k0), (1, .int (nI f))]) hx hb dX11_smooth_126 hl (Nat.le_of_ble_eq_true rfl) rfl (fun ls hl => ?_)
                        refine lv_aload_n hx hb dX11_smooth_128 rfl (lv_at hl 4 rfl) ?_
                        refine va_get (D := (dC, dI)) (ci := 9) (v := .ref (a 12)) (C := RX11) (T := TX11) (N := 55) hx hb hts inX11 hown hK hP 0 rfl rfl 12 (Nat.le_of_ble_eq_true rfl) (hts _ mw_1171) (fun _ h9 => h9) rfl dX11_smooth_129 ?_
                        refine lv_bipush (v := 40) hx hb dX11_smooth_132 rfl ?_
                        refine lv_iload_n hx hb dX11_smooth_134 rfl (lv_at hl 5 rfl) ?_
                        refine lv_imul hx hb dX11_smooth_135 ?_
                        refine zz_i (v := nI (40 * f)) (pk_mul 40 f) ?_
                        refine lv_iload_n hx hb dX11_smooth_136 rfl (lv_at hl 2 rfl) ?_
                        refine lv_iadd hx hb dX11_smooth_137 ?_
                        refine zz_i (v := nI (40 * f + k)) (nI_add (40 * f) k) ?_
                        refine lv_aload_n hx hb dX11_smooth_138 rfl (lv_at hl 4 rfl) ?_
                        refine va_get (D := (dC, dI)) (ci := 9) (v := .ref (a 33)) (C := RX11) (T := TX11) (N := 55) hx hb hts inX11 hown hK hP 0 rfl rfl 33 (Nat.le_of_ble_eq_true rfl) (hts _ mw_1192) (fun _ h9 => h9) rfl dX11_smooth_139 ?_
                        refine lv_iload hx hb dX11_smooth_142 (lv_at hl 1 rfl) ?_
                        have b9_13 : prv n k < 42 := by omega
                        refine z_iald hx hb hK hP 23 0 rfl rfl (e := prv n k) rfl b9_13 (Nat.le_of_ble_eq_true rfl) dX11_smooth_144 ?_
                        refine zz_i (v := cF40 cx f (prv n k)) ((hox _ hpv).1) ?_
                        refine lv_iconst (v := 2) hx hb dX11_smooth_145 rfl ?_
                        refine lv_aload_n hx hb dX11_smooth_146 rfl (lv_at hl 4 rfl) ?_
                        refine va_get (D := (dC, dI)) (ci := 9) (v := .ref (a 33)) (C := RX11) (T := TX11) (N := 55) hx hb hts inX11 hown hK hP 0 rfl rfl 33 (Nat.le_of_ble_eq_true rfl) (hts _ mw_1192) (fun _ h9 => h9) rfl dX11_smooth_147 ?_
                        refine lv_iload_n hx hb dX11_smooth_150 rfl (lv_at hl 2 rfl) ?_
                        have b9_14 : k < 42 := by omega
                        refine z_iald hx hb hK hP 23 0 rfl rfl (e := k) rfl b9_14 (Nat.le_of_ble_eq_true rfl) dX11_smooth_151 ?_
                        refine zz_i (v := cF40 cx f k) ((hox _ hk9).1) ?_
                        refine lv_imul hx hb dX11_smooth_152 ?_
                        refine lv_iadd hx hb dX11_smooth_153 ?_
                        refine lv_aload_n hx hb dX11_smooth_154 rfl (lv_at hl 4 rfl) ?_
                        refine va_get (D := (dC, dI)) (ci := 9) (v := .ref (a 33)) (C := RX11) (T := TX11) (N := 55) hx hb hts inX11 hown hK hP 0 rfl rfl 33 (Nat.le_of_ble_eq_true rfl) (hts _ mw_1192) (fun _ h9 => h9) rfl dX11_smooth_155 ?_
                        refine lv_iload hx hb dX11_smooth_158 (lv_at hl 0 rfl) ?_
                        have b9_15 : nxt n k < 42 := by omega
                        refine z_iald hx hb hK hP 23 0 rfl rfl (e := nxt n k) rfl b9_15 (Nat.le_of_ble_eq_true rfl) dX11_smooth_160 ?_
                        refine zz_i (v := cF40 cx f (nxt n k)) ((hox _ hnx).1) ?_
                        refine lv_iadd hx hb dX11_smooth_161 ?_
                        refine lv_iconst (v := 4) hx hb dX11_smooth_162 rfl ?_
                        refine lv_idiv hx hb dX11_smooth_163 (by decide) ?_
                        have b9_16 : 40 * f + k < 8040 := by omega
                        refine z_iast hx hb hK hP hD hS 12 0 rfl rfl (e := 40 * f + k) (x := (((cF40 cx f (prv n k)) + (2 * (cF40 cx f k))) + (cF40 cx f (nxt n k))) / 4) rfl b9_16 (Nat.le_of_ble_eq_true rfl) dX11_smooth_164 (fun H locs hP hD hS => ?_)
                        obtain ⟨hP, hD⟩ := zre (W2 := [_, _, _, _, _, _, _, _, _, _, _, _, (oa (a 12) cI 8040 (upd cx1 (40 * f + k) ((((cF40 cx f (prv n k)) + (2 * (cF40 cx f k))) + (cF40 cx f (nxt n k))) / 4))), _, _, _, _, _, _, _, _, _, _, _, _, _, _, _, _, _, _, _]) hP hD rfl
                        refine lv_aload_n hx hb dX11_smooth_165 rfl (lv_at hl 4 rfl) ?_
                        refine va_get (D := (dC, dI)) (ci := 9) (v := .ref (a 13)) (C := RX11) (T := TX11) (N := 55) hx hb hts inX11 hown hK hP 0 rfl rfl 13 (Nat.le_of_ble_eq_true rfl) (hts _ mw_1172) (fun _ h9 => h9) rfl dX11_smooth_166 ?_
                        refine lv_bipush (v := 40) hx hb dX11_smooth_169 rfl ?_
                        refine lv_iload_n hx hb dX11_smooth_171 rfl (lv_at hl 5 rfl) ?_
                        refine lv_imul hx hb dX11_smooth_172 ?_
                        refine zz_i (v := nI (40 * f)) (pk_mul 40 f) ?_
                        refine lv_iload_n hx hb dX11_smooth_173 rfl (lv_at hl 2 rfl) ?_
                        refine lv_iadd hx hb dX11_smooth_174 ?_
                        refine zz_i (v := nI (40 * f + k)) (nI_add (40 * f) k) ?_
                        refine lv_aload_n hx hb dX11_smooth_175 rfl (lv_at hl 4 rfl) ?_
                        refine va_get (D := (dC, dI)) (ci := 9) (v := .ref (a 34)) (C := RX11) (T := TX11) (N := 55) hx hb hts inX11 hown hK hP 0 rfl rfl 34 (Nat.le_of_ble_eq_true rfl) (hts _ mw_1193) (fun _ h9 => h9) rfl dX11_smooth_176 ?_
                        refine lv_iload hx hb dX11_smooth_179 (lv_at hl 1 rfl) ?_
                        refine z_iald hx hb hK hP 24 0 rfl rfl (e := prv n k) rfl b9_13 (Nat.le_of_ble_eq_true rfl) dX11_smooth_181 ?_
                        refine zz_i (v := cF40 cy f (prv n k)) ((hox _ hpv).2) ?_
                        refine lv_iconst (v := 2) hx hb dX11_smooth_182 rfl ?_
                        refine lv_aload_n hx hb dX11_smooth_183 rfl (lv_at hl 4 rfl) ?_
                        refine va_get (D := (dC, dI)) (ci := 9) (v := .ref (a 34)) (C := RX11) (T := TX11) (N := 55) hx hb hts inX11 hown hK hP 0 rfl rfl 34 (Nat.le_of_ble_eq_true rfl) (hts _ mw_1193) (fun _ h9 => h9) rfl dX11_smooth_184 ?_
                        refine lv_iload_n hx hb dX11_smooth_187 rfl (lv_at hl 2 rfl) ?_
                        refine z_iald hx hb hK hP 24 0 rfl rfl (e := k) rfl b9_14 (Nat.le_of_ble_eq_true rfl) dX11_smooth_188 ?_
                        refine zz_i (v := cF40 cy f k) ((hox _ hk9).2) ?_
                        refine lv_imul hx hb dX11_smooth_189 ?_
                        refine lv_iadd hx hb dX11_smooth_190 ?_
                        refine lv_aload_n hx hb dX11_smooth_191 rfl (lv_at hl 4 rfl) ?_
                        refine va_get (D := (dC, dI)) (ci := 9) (v := .ref (a 34)) (C := RX11) (T := TX11) (N := 55) hx hb hts inX11 hown hK hP 0 rfl rfl 34 (Nat.le_of_ble_eq_true rfl) (hts _ mw_1193) (fun _ h9 => h9) rfl dX11_smooth_192 ?_
                        refine lv_iload hx hb dX11_smooth_195 (lv_at hl 0 rfl) ?_
                        refine z_iald hx hb hK hP 24 0 rfl rfl (e := nxt n k) rfl b9_15 (Nat.le_of_ble_eq_true rfl) dX11_smooth_197 ?_
                        refine zz_i (v := cF40 cy f (nxt n k)) ((hox _ hnx).2) ?_
                        refine lv_iadd hx hb dX11_smooth_198 ?_
                        refine lv_iconst (v := 4) hx hb dX11_smooth_199 rfl ?_
                        refine lv_idiv hx hb dX11_smooth_200 (by decide) ?_
                        refine z_iast hx hb hK hP hD hS 13 0 rfl rfl (e := 40 * f + k) (x := (((cF40 cy f (prv n k)) + (2 * (cF40 cy f k))) + (cF40 cy f (nxt n k))) / 4) rfl b9_16 (Nat.le_of_ble_eq_true rfl) dX11_smooth_201 (fun H locs hP hD hS => ?_)
                        obtain ⟨hP, hD⟩ := zre (W2 := [_, _, _, _, _, _, _, _, _, _, _, _, _, (oa (a 13) cI 8040 (upd cy1 (40 * f + k) ((((cF40 cy f (prv n k)) + (2 * (cF40 cy f k))) + (cF40 cy f (nxt n k))) / 4))), _, _, _, _, _, _, _, _, _, _, _, _, _, _, _, _, _, _]) hP hD rfl
                        refine lv_iinc (v := nI (k + 1)) (lv' := [(3, .int (nI (k + 1))), (5, .int (nI (nxt n k))), (4, .int (nI (prv n k))), (2, .int 0), (0, .ref k0), (1, .int (nI f))]) hx hb dX11_smooth_202 hl (k := 2) rfl (nI_add k 1) (Nat.le_of_ble_eq_true rfl) rfl (fun ls hl => ?_)
                        refine lv_goto (tgt := 58) hx hb dX11_smooth_205 rfl ?_
                        exact ih_58 (k + 1) (upd cx1 (40 * f + k) ((((cF40 cx f (prv n k)) + (2 * (cF40 cx f k))) + (cF40 cx f (nxt n k))) / 4)) (upd cy1 (40 * f + k) ((((cF40 cy f (prv n k)) + (2 * (cF40 cy f k))) + (cF40 cy f (nxt n k))) / 4)) H locs ls (by first | with_reducible assumption | omega) (by first | with_reducible assumption | omega) (by first | exact fgX_u hcx (smv_f (by first | with_reducible assumption | omega)) | exact fgX_k hcx (smv_t (by first | with_reducible assumption | omega))) (by first | exact fgX_u hcy (smv_f (by first | with_reducible assumption | omega)) | exact fgX_k hcy (smv_t (by first | with_reducible assumption | omega))) hP hD hS (lv_sub hl [0, 3, 4, 5] rfl)
                      refine lv_iload_n hx hb dX11_smooth_109 rfl (lv_at hl 1 rfl) ?_
                      refine lv_iconst (v := 1) hx hb dX11_smooth_110 rfl ?_
                      refine lv_iadd hx hb dX11_smooth_111 ?_
                      refine zz_i (v := nI (k + 1)) (nI_add k 1) ?_
                      refine lv_aload_n hx hb dX11_smooth_112 rfl (lv_at hl 3 rfl) ?_
                      refine va_get (D := (dC, dI)) (ci := 9) (v := .int (nI n)) (C := RX11) (T := TX11) (N := 55) hx hb hts inX11 hown hK hP 0 rfl rfl 35 (Nat.le_of_ble_eq_true rfl) (hts _ mw_1194) (fun _ h9 => h9) rfl dX11_smooth_113 ?_
                      have b9_18 : zlt ((k + 1)) := show (k + 1) < 2147483648 by omega
                      refine lv_icmp_ne (tgt := 123) hx hb dX11_smooth_116 rfl (fun c_17 => ?_) (fun c_17 => ?_)
                      · have c_17 : ¬ ((k + 1 : Nat) : Int) = ((n : Nat) : Int) := zc_ne (nI_toInt b9_18) (nI_toInt b9_8) c_17
                        refine lv_iload_n hx hb dX11_smooth_123 rfl (lv_at hl 1 rfl) ?_
                        refine lv_iconst (v := 1) hx hb dX11_smooth_124 rfl ?_
                        refine lv_iadd hx hb dX11_smooth_125 ?_
                        refine zz_i (v := nI (k + 1)) (nI_add k 1) ?_
                        refine zz_i (v := nI (nxt n k)) (by first | (exfalso; omega) | (rw [nxt, if_pos (by omega)]) | (rw [nxt, if_neg (by omega)]; first | done | rfl)) ?_
                        exact hj_12 
                      · have c_17 : ((k + 1 : Nat) : Int) = ((n : Nat) : Int) := zc_eq (nI_toInt b9_18) (nI_toInt b9_8) c_17
                        refine lv_iconst (v := 0) hx hb dX11_smooth_119 rfl ?_
                        refine lv_goto (tgt := 126) hx hb dX11_smooth_120 rfl ?_
                        refine zz_i (v := nI (nxt n k)) (by first | (exfalso; omega) | (rw [nxt, if_pos (by omega)]) | (rw [nxt, if_neg (by omega)]; first | done | rfl)) ?_
                        exact hj_12 
                    refine lv_iload_n hx hb dX11_smooth_91 rfl (lv_at hl 0 rfl) ?_
                    refine lv_if_ne (tgt := 104) hx hb dX11_smooth_92 rfl (fun c_19 => ?_) (fun c_19 => ?_)
                    · have c_19 : ¬ ((k : Nat) : Int) = 0 := zc_ne (nI_toInt b9_7) rfl c_19
                      refine lv_iload_n hx hb dX11_smooth_104 rfl (lv_at hl 0 rfl) ?_
                      refine lv_iconst (v := 1) hx hb dX11_smooth_105 rfl ?_
                      refine lv_isub hx hb dX11_smooth_106 ?_
                      refine zz_i (v := nI (k - 1)) (pk_sub (a := k) (b := 1) (by omega)) ?_
                      refine zz_i (v := nI (prv n k)) (by first | (exfalso; omega) | (rw [prv, if_pos (by omega)]) | (rw [prv, if_neg (by omega)])) ?_
                      exact hj_11 
                    · have c_19 : ((k : Nat) : Int) = 0 := zc_eq (nI_toInt b9_7) rfl c_19
                      refine lv_aload_n hx hb dX11_smooth_95 rfl (lv_at hl 2 rfl) ?_
                      refine va_get (D := (dC, dI)) (ci := 9) (v := .int (nI n)) (C := RX11) (T := TX11) (N := 55) hx hb hts inX11 hown hK hP 0 rfl rfl 35 (Nat.le_of_ble_eq_true rfl) (hts _ mw_1194) (fun _ h9 => h9) rfl dX11_smooth_96 ?_
                      refine lv_iconst (v := 1) hx hb dX11_smooth_99 rfl ?_
                      refine lv_isub hx hb dX11_smooth_100 ?_
                      refine zz_i (v := nI (n - 1)) (pk_sub (a := n) (b := 1) (by omega)) ?_
                      refine lv_goto (tgt := 107) hx hb dX11_smooth_101 rfl ?_
                      refine zz_i (v := nI (prv n k)) (by first | (exfalso; omega) | (rw [prv, if_pos (by omega)]) | (rw [prv, if_neg (by omega)])) ?_
                      exact hj_11 
                  · have c_10 : ¬ (5 ≤ (kd f).toInt) := zp_0 c_10
                    refine lv_iload_n hx hb dX11_smooth_74 rfl (lv_at hl 0 rfl) ?_
                    refine lv_if_eq (tgt := 202) hx hb dX11_smooth_75 rfl (fun c_20 => ?_) (fun c_20 => ?_)
                    · have c_20 : ((k : Nat) : Int) = 0 := zc_eq (nI_toInt b9_7) rfl c_20
                      refine lv_iinc (v := nI (k + 1)) (lv' := [(3, .int (nI (k + 1))), (2, .int 0), (0, .ref k0), (1, .int (nI f))]) hx hb dX11_smooth_202 hl (k := 0) rfl (nI_add k 1) (Nat.le_of_ble_eq_true rfl) rfl (fun ls hl => ?_)
                      refine lv_goto (tgt := 58) hx hb dX11_smooth_205 rfl ?_
                      exact ih_58 (k + 1) cx1 cy1 H locs ls (by first | with_reducible assumption | omega) (by first | with_reducible assumption | omega) (by first | exact fgX_u hcx (smv_f (by first | with_reducible assumption | omega)) | exact fgX_k hcx (smv_t (by first | with_reducible assumption | omega))) (by first | exact fgX_u hcy (smv_f (by first | with_reducible assumption | omega)) | exact fgX_k hcy (smv_t (by first | with_reducible assumption | omega))) hP hD hS (lv_sub hl [0, 1, 2, 3] rfl)
                    · have c_20 : ¬ ((k : Nat) : Int) = 0 := zc_ne (nI_toInt b9_7) rfl c_20
                      refine lv_iload_n hx hb dX11_smooth_78 rfl (lv_at hl 0 rfl) ?_
                      refine lv_aload_n hx hb dX11_smooth_79 rfl (lv_at hl 2 rfl) ?_
                      refine va_get (D := (dC, dI)) (ci := 9) (v := .int (nI n)) (C := RX11) (T := TX11) (N := 55) hx hb hts inX11 hown hK hP 0 rfl rfl 35 (Nat.le_of_ble_eq_true rfl) (hts _ mw_1194) (fun _ h9 => h9) rfl dX11_smooth_80 ?_
                      refine lv_iconst (v := 1) hx hb dX11_smooth_83 rfl ?_
                      refine lv_isub hx hb dX11_smooth_84 ?_
                      refine zz_i (v := nI (n - 1)) (pk_sub (a := n) (b := 1) (by omega)) ?_
                      have b9_22 : zlt ((n - 1)) := show (n - 1) < 2147483648 by omega
                      refine lv_icmp_ne (tgt := 91) hx hb dX11_smooth_85 rfl (fun c_21 => ?_) (fun c_21 => ?_)
                      · have c_21 : ¬ ((k : Nat) : Int) = ((n - 1 : Nat) : Int) := zc_ne (nI_toInt b9_7) (nI_toInt b9_22) c_21
                        have hj_23 : W p l e ({ frames := 5, cells := 0, slots := 0, locals := 130 } : Room) s m ([.ref k0, .int (nI f)] : List Value).toArray below meth c H locs 0 0 Q9 (F0 m 107 ls [.int (nI (prv n k))]) := by
                          refine lv_istore (lv' := [(4, .int (nI (prv n k))), (3, .int (nI k)), (2, .int 0), (0, .ref k0), (1, .int (nI f))]) hx hb dX11_smooth_107 hl (Nat.le_of_ble_eq_true rfl) rfl (fun ls hl => ?_)
                          have hj_24 : W p l e ({ frames := 5, cells := 0, slots := 0, locals := 130 } : Room) s m ([.ref k0, .int (nI f)] : List Value).toArray below meth c H locs 0 0 Q9 (F0 m 126 ls [.int (nI (nxt n k))]) := by
                            refine lv_istore (lv' := [(5, .int (nI (nxt n k))), (4, .int (nI (prv n k))), (3, .int (nI k)), (2, .int 0), (0, .ref k0), (1, .int (nI f))]) hx hb dX11_smooth_126 hl (Nat.le_of_ble_eq_true rfl) rfl (fun ls hl => ?_)
                            refine lv_aload_n hx hb dX11_smooth_128 rfl (lv_at hl 4 rfl) ?_
                            refine va_get (D := (dC, dI)) (ci := 9) (v := .ref (a 12)) (C := RX11) (T := TX11) (N := 55) hx hb hts inX11 hown hK hP 0 rfl rfl 12 (Nat.le_of_ble_eq_true rfl) (hts _ mw_1171) (fun _ h9 => h9) rfl dX11_smooth_129 ?_
                            refine lv_bipush (v := 40) hx hb dX11_smooth_132 rfl ?_
                            refine lv_iload_n hx hb dX11_smooth_134 rfl (lv_at hl 5 rfl) ?_
                            refine lv_imul hx hb dX11_smooth_135 ?_
                            refine zz_i (v := nI (40 * f)) (pk_mul 40 f) ?_
                            refine lv_iload_n hx hb dX11_smooth_136 rfl (lv_at hl 2 rfl) ?_
                            refine lv_iadd hx hb dX11_smooth_137 ?_
                            refine zz_i (v := nI (40 * f + k)) (nI_add (40 * f) k) ?_
                            refine lv_aload_n hx hb dX11_smooth_138 rfl (lv_at hl 4 rfl) ?_
                            refine va_get (D := (dC, dI)) (ci := 9) (v := .ref (a 33)) (C := RX11) (T := TX11) (N := 55) hx hb hts inX11 hown hK hP 0 rfl rfl 33 (Nat.le_of_ble_eq_true rfl) (hts _ mw_1192) (fun _ h9 => h9) rfl dX11_smooth_139 ?_
                            refine lv_iload hx hb dX11_smooth_142 (lv_at hl 1 rfl) ?_
                            have b9_25 : prv n k < 42 := by omega
                            refine z_iald hx hb hK hP 23 0 rfl rfl (e := prv n k) rfl b9_25 (Nat.le_of_ble_eq_true rfl) dX11_smooth_144 ?_
                            refine zz_i (v := cF40 cx f (prv n k)) ((hox _ hpv).1) ?_
                            refine lv_iconst (v := 2) hx hb dX11_smooth_145 rfl ?_
                            refine lv_aload_n hx hb dX11_smooth_146 rfl (lv_at hl 4 rfl) ?_
                            refine va_get (D := (dC, dI)) (ci := 9) (v := .ref (a 33)) (C := RX11) (T := TX11) (N := 55) hx hb hts inX11 hown hK hP 0 rfl rfl 33 (Nat.le_of_ble_eq_true rfl) (hts _ mw_1192) (fun _ h9 => h9) rfl dX11_smooth_147 ?_
                            refine lv_iload_n hx hb dX11_smooth_150 rfl (lv_at hl 2 rfl) ?_
                            have b9_26 : k < 42 := by omega
                            refine z_iald hx hb hK hP 23 0 rfl rfl (e := k) rfl b9_26 (Nat.le_of_ble_eq_true rfl) dX11_smooth_151 ?_
                            refine zz_i (v := cF40 cx f k) ((hox _ hk9).1) ?_
                            refine lv_imul hx hb dX11_smooth_152 ?_
                            refine lv_iadd hx hb dX11_smooth_153 ?_
                            refine lv_aload_n hx hb dX11_smooth_154 rfl (lv_at hl 4 rfl) ?_
                            refine va_get (D := (dC, dI)) (ci := 9) (v := .ref (a 33)) (C := RX11) (T := TX11) (N := 55) hx hb hts inX11 hown hK hP 0 rfl rfl 33 (Nat.le_of_ble_eq_true rfl) (hts _ mw_1192) (fun _ h9 => h9) rfl dX11_smooth_155 ?_
                            refine lv_iload hx hb dX11_smooth_158 (lv_at hl 0 rfl) ?_
                            have b9_27 : nxt n k < 42 := by omega
                            refine z_iald hx hb hK hP 23 0 rfl rfl (e := nxt n k) rfl b9_27 (Nat.le_of_ble_eq_true rfl) dX11_smooth_160 ?_
                            refine zz_i (v := cF40 cx f (nxt n k)) ((hox _ hnx).1) ?_
                            refine lv_iadd hx hb dX11_smooth_161 ?_
                            refine lv_iconst (v := 4) hx hb dX11_smooth_162 rfl ?_
                            refine lv_idiv hx hb dX11_smooth_163 (by decide) ?_
                            have b9_28 : 40 * f + k < 8040 := by omega
                            refine z_iast hx hb hK hP hD hS 12 0 rfl rfl (e := 40 * f + k) (x := (((cF40 cx f (prv n k)) + (2 * (cF40 cx f k))) + (cF40 cx f (nxt n k))) / 4) rfl b9_28 (Nat.le_of_ble_eq_true rfl) dX11_smooth_164 (fun H locs hP hD hS => ?_)
                            obtain ⟨hP, hD⟩ := zre (W2 := [_, _, _, _, _, _, _, _, _, _, _, _, (oa (a 12) cI 8040 (upd cx1 (40 * f + k) ((((cF40 cx f (prv n k)) + (2 * (cF40 cx f k))) + (cF40 cx f (nxt n k))) / 4))), _, _, _, _, _, _, _, _, _, _, _, _, _, _, _, _, _, _, _]) hP hD rfl
                            refine lv_aload_n hx hb dX11_smooth_165 rfl (lv_at hl 4 rfl) ?_
                            refine va_get (D := (dC, dI)) (ci := 9) (v := .ref (a 13)) (C := RX11) (T := TX11) (N := 55) hx hb hts inX11 hown hK hP 0 rfl rfl 13 (Nat.le_of_ble_eq_true rfl) (hts _ mw_1172) (fun _ h9 => h9) rfl dX11_smooth_166 ?_
                            refine lv_bipush (v := 40) hx hb dX11_smooth_169 rfl ?_
                            refine lv_iload_n hx hb dX11_smooth_171 rfl (lv_at hl 5 rfl) ?_
                            refine lv_imul hx hb dX11_smooth_172 ?_
                            refine zz_i (v := nI (40 * f)) (pk_mul 40 f) ?_
                            refine lv_iload_n hx hb dX11_smooth_173 rfl (lv_at hl 2 rfl) ?_
                            refine lv_iadd hx hb dX11_smooth_174 ?_
                            refine zz_i (v := nI (40 * f + k)) (nI_add (40 * f) k) ?_
                            refine lv_aload_n hx hb dX11_smooth_175 rfl (lv_at hl 4 rfl) ?_
                            refine va_get (D := (dC, dI)) (ci := 9) (v := .ref (a 34)) (C := RX11) (T := TX11) (N := 55) hx hb hts inX11 hown hK hP 0 rfl rfl 34 (Nat.le_of_ble_eq_true rfl) (hts _ mw_1193) (fun _ h9 => h9) rfl dX11_smooth_176 ?_
                            refine lv_iload hx hb dX11_smooth_179 (lv_at hl 1 rfl) ?_
                            refine z_iald hx hb hK hP 24 0 rfl rfl (e := prv n k) rfl b9_25 (Nat.le_of_ble_eq_true rfl) dX11_smooth_181 ?_
                            refine zz_i (v := cF40 cy f (prv n k)) ((hox _ hpv).2) ?_
                            refine lv_iconst (v := 2) hx hb dX11_smooth_182 rfl ?_
                            refine lv_aload_n hx hb dX11_smooth_183 rfl (lv_at hl 4 rfl) ?_
                            refine va_get (D := (dC, dI)) (ci := 9) (v := .ref (a 34)) (C := RX11) (T := TX11) (N := 55) hx hb hts inX11 hown hK hP 0 rfl rfl 34 (Nat.le_of_ble_eq_true rfl) (hts _ mw_1193) (fun _ h9 => h9) rfl dX11_smooth_184 ?_
                            refine lv_iload_n hx hb dX11_smooth_187 rfl (lv_at hl 2 rfl) ?_
                            refine z_iald hx hb hK hP 24 0 rfl rfl (e := k) rfl b9_26 (Nat.le_of_ble_eq_true rfl) dX11_smooth_188 ?_
                            refine zz_i (v := cF40 cy f k) ((hox _ hk9).2) ?_
                            refine lv_imul hx hb dX11_smooth_189 ?_
                            refine lv_iadd hx hb dX11_smooth_190 ?_
                            refine lv_aload_n hx hb dX11_smooth_191 rfl (lv_at hl 4 rfl) ?_
                            refine va_get (D := (dC, dI)) (ci := 9) (v := .ref (a 34)) (C := RX11) (T := TX11) (N := 55) hx hb hts inX11 hown hK hP 0 rfl rfl 34 (Nat.le_of_ble_eq_true rfl) (hts _ mw_1193) (fun _ h9 => h9) rfl dX11_smooth_192 ?_
                            refine lv_iload hx hb dX11_smooth_195 (lv_at hl 0 rfl) ?_
                            refine z_iald hx hb hK hP 24 0 rfl rfl (e := nxt n k) rfl b9_27 (Nat.le_of_ble_eq_true rfl) dX11_smooth_197 ?_
                            refine zz_i (v := cF40 cy f (nxt n k)) ((hox _ hnx).2) ?_
                            refine lv_iadd hx hb dX11_smooth_198 ?_
                            refine lv_iconst (v := 4) hx hb dX11_smooth_199 rfl ?_
                            refine lv_idiv hx hb dX11_smooth_200 (by decide) ?_
                            refine z_iast hx hb hK hP hD hS 13 0 rfl rfl (e := 40 * f + k) (x := (((cF40 cy f (prv n k)) + (2 * (cF40 cy f k))) + (cF40 cy f (nxt n k))) / 4) rfl b9_28 (Nat.le_of_ble_eq_true rfl) dX11_smooth_201 (fun H locs hP hD hS => ?_)
                            obtain ⟨hP, hD⟩ := zre (W2 := [_, _, _, _, _, _, _, _, _, _, _, _, _, (oa (a 13) cI 8040 (upd cy1 (40 * f + k) ((((cF40 cy f (prv n k)) + (2 * (cF40 cy f k))) + (cF40 cy f (nxt n k))) / 4))), _, _, _, _, _, _, _, _, _, _, _, _, _, _, _, _, _, _]) hP hD rfl
                            refine lv_iinc (v := nI (k + 1)) (lv' := [(3, .int (nI (k + 1))), (5, .int (nI (nxt n k))), (4, .int (nI (prv n k))), (2, .int 0), (0, .ref k0), (1, .int (nI f))]) hx hb dX11_smooth_202 hl (k := 2) rfl (nI_add k 1) (Nat.le_of_ble_eq_true rfl) rfl (fun ls hl => ?_)
                            refine lv_goto (tgt := 58) hx hb dX11_smooth_205 rfl ?_
                            exact ih_58 (k + 1) (upd cx1 (40 * f + k) ((((cF40 cx f (prv n k)) + (2 * (cF40 cx f k))) + (cF40 cx f (nxt n k))) / 4)) (upd cy1 (40 * f + k) ((((cF40 cy f (prv n k)) + (2 * (cF40 cy f k))) + (cF40 cy f (nxt n k))) / 4)) H locs ls (by first | with_reducible assumption | omega) (by first | with_reducible assumption | omega) (by first | exact fgX_u hcx (smv_f (by first | with_reducible assumption | omega)) | exact fgX_k hcx (smv_t (by first | with_reducible assumption | omega))) (by first | exact fgX_u hcy (smv_f (by first | with_reducible assumption | omega)) | exact fgX_k hcy (smv_t (by first | with_reducible assumption | omega))) hP hD hS (lv_sub hl [0, 3, 4, 5] rfl)
                          refine lv_iload_n hx hb dX11_smooth_109 rfl (lv_at hl 1 rfl) ?_
                          refine lv_iconst (v := 1) hx hb dX11_smooth_110 rfl ?_
                          refine lv_iadd hx hb dX11_smooth_111 ?_
                          refine zz_i (v := nI (k + 1)) (nI_add k 1) ?_
                          refine lv_aload_n hx hb dX11_smooth_112 rfl (lv_at hl 3 rfl) ?_
                          refine va_get (D := (dC, dI)) (ci := 9) (v := .int (nI n)) (C := RX11) (T := TX11) (N := 55) hx hb hts inX11 hown hK hP 0 rfl rfl 35 (Nat.le_of_ble_eq_true rfl) (hts _ mw_1194) (fun _ h9 => h9) rfl dX11_smooth_113 ?_
                          have b9_30 : zlt ((k + 1)) := show (k + 1) < 2147483648 by omega
                          refine lv_icmp_ne (tgt := 123) hx hb dX11_smooth_116 rfl (fun c_29 => ?_) (fun c_29 => ?_)
                          · have c_29 : ¬ ((k + 1 : Nat) : Int) = ((n : Nat) : Int) := zc_ne (nI_toInt b9_30) (nI_toInt b9_8) c_29
                            refine lv_iload_n hx hb dX11_smooth_123 rfl (lv_at hl 1 rfl) ?_
                            refine lv_iconst (v := 1) hx hb dX11_smooth_124 rfl ?_
                            refine lv_iadd hx hb dX11_smooth_125 ?_
                            refine zz_i (v := nI (k + 1)) (nI_add k 1) ?_
                            refine zz_i (v := nI (nxt n k)) (by first | (exfalso; omega) | (rw [nxt, if_pos (by omega)]) | (rw [nxt, if_neg (by omega)]; first | done | rfl)) ?_
                            exact hj_24 
                          · have c_29 : ((k + 1 : Nat) : Int) = ((n : Nat) : Int) := zc_eq (nI_toInt b9_30) (nI_toInt b9_8) c_29
                            refine lv_iconst (v := 0) hx hb dX11_smooth_119 rfl ?_
                            refine lv_goto (tgt := 126) hx hb dX11_smooth_120 rfl ?_
                            refine zz_i (v := nI (nxt n k)) (by first | (exfalso; omega) | (rw [nxt, if_pos (by omega)]) | (rw [nxt, if_neg (by omega)]; first | done | rfl)) ?_
                            exact hj_24 
                        refine lv_iload_n hx hb dX11_smooth_91 rfl (lv_at hl 0 rfl) ?_
                        refine lv_if_ne (tgt := 104) hx hb dX11_smooth_92 rfl (fun c_31 => ?_) (fun c_31 => ?_)
                        · have c_31 : ¬ ((k : Nat) : Int) = 0 := zc_ne (nI_toInt b9_7) rfl c_31
                          refine lv_iload_n hx hb dX11_smooth_104 rfl (lv_at hl 0 rfl) ?_
                          refine lv_iconst (v := 1) hx hb dX11_smooth_105 rfl ?_
                          refine lv_isub hx hb dX11_smooth_106 ?_
                          refine zz_i (v := nI (k - 1)) (pk_sub (a := k) (b := 1) (by omega)) ?_
                          refine zz_i (v := nI (prv n k)) (by first | (exfalso; omega) | (rw [prv, if_pos (by omega)]) | (rw [prv, if_neg (by omega)])) ?_
                          exact hj_23 
                        · have c_31 : ((k : Nat) : Int) = 0 := zc_eq (nI_toInt b9_7) rfl c_31
                          refine lv_aload_n hx hb dX11_smooth_95 rfl (lv_at hl 2 rfl) ?_
                          refine va_get (D := (dC, dI)) (ci := 9) (v := .int (nI n)) (C := RX11) (T := TX11) (N := 55) hx hb hts inX11 hown hK hP 0 rfl rfl 35 (Nat.le_of_ble_eq_true rfl) (hts _ mw_1194) (fun _ h9 => h9) rfl dX11_smooth_96 ?_
                          refine lv_iconst (v := 1) hx hb dX11_smooth_99 rfl ?_
                          refine lv_isub hx hb dX11_smooth_100 ?_
                          refine zz_i (v := nI (n - 1)) (pk_sub (a := n) (b := 1) (by omega)) ?_
                          refine lv_goto (tgt := 107) hx hb dX11_smooth_101 rfl ?_
                          refine zz_i (v := nI (prv n k)) (by first | (exfalso; omega) | (rw [prv, if_pos (by omega)]) | (rw [prv, if_neg (by omega)])) ?_
                          exact hj_23 
                      · have c_21 : ((k : Nat) : Int) = ((n - 1 : Nat) : Int) := zc_eq (nI_toInt b9_7) (nI_toInt b9_22) c_21
                        refine lv_goto (tgt := 202) hx hb dX11_smooth_88 rfl ?_
                        refine lv_iinc (v := nI (k + 1)) (lv' := [(3, .int (nI (k + 1))), (2, .int 0), (0, .ref k0), (1, .int (nI f))]) hx hb dX11_smooth_202 hl (k := 0) rfl (nI_add k 1) (Nat.le_of_ble_eq_true rfl) rfl (fun ls hl => ?_)
                        refine lv_goto (tgt := 58) hx hb dX11_smooth_205 rfl ?_
                        exact ih_58 (k + 1) cx1 cy1 H locs ls (by first | with_reducible assumption | omega) (by first | with_reducible assumption | omega) (by first | exact fgX_u hcx (smv_f (by first | with_reducible assumption | omega)) | exact fgX_k hcx (smv_t (by first | with_reducible assumption | omega))) (by first | exact fgX_u hcy (smv_f (by first | with_reducible assumption | omega)) | exact fgX_k hcy (smv_t (by first | with_reducible assumption | omega))) hP hD hS (lv_sub hl [0, 1, 2, 3] rfl)
            exact hl_58 _ 0 cx cy H locs ls (Nat.lt_succ_self _) (by first | with_reducible assumption | omega) (fgX_0 _ _ _) (fgX_0 _ _ _) hP hD hS (lv_sub hl [0, 1, 2, 3] rfl)
          · exact absurd (by decide) c_5
        · have c_4 : ¬ (tn f).toInt = 0 := zc_ne rfl rfl c_4
          exfalso; omega
      · have c_2 : ¬ (¬ (kd f).toInt = 0 ∧ ¬ (kd f).toInt = 6) := zp_0 c_2
        exfalso; omega
    · exact absurd (by decide) c_1
  · skip
    refine lv_istore_n (lv' := [(2, .int 2), (0, .ref k0), (1, .int (nI f))]) hx hb dX11_smooth_5 rfl hl (Nat.le_of_ble_eq_true rfl) rfl (fun ls hl => ?_)
    refine lv_iload_n hx hb dX11_smooth_6 rfl (lv_at hl 0 rfl) ?_
    refine lv_if_le (tgt := 14) hx hb dX11_smooth_7 rfl (fun c_32 => ?_) (fun c_32 => ?_)
    · exact absurd c_32 (by decide)
    · exfalso; omega
set_option maxHeartbeats 4000000 in
set_option maxRecDepth 100000 in
theorem k_M_smooth_n (l : Launch) (dC : Nat → ClassId) (dI : Nat → Nat → Nat) (cI cZ cF : ClassId) (sz : Nat) (k0 : Nat) (a : Nat → Nat) (I0 : Nat → Int32) (J0 : Nat → Int64) (f : Nat) (n : Nat) (ft : Nat) (kd : Nat → Int32) (st : Nat → Int32) (gb : Nat → Int32) (it : Nat → Int32) (pa : Nat → Int32) (pb : Nat → Int32) (rk : Nat → Int32) (wd : Nat → Int32) (tw : Nat → Int32) (tn : Nat → Int32) (mn : Nat → Int32) (cx : Nat → Int32) (cy : Nat → Int32) (sa : Nat → Int32) (sh : Nat → Int32) (wh : Nat → Int32) (of9 : Nat → Int32) (we : Nat → Int32) (S0 : Nat → Int32) (T0 : Nat → Int32) (P0 : Nat → Int32) (Q0 : Nat → Int32) (ox : Nat → Int32) (oy : Nat → Int32) (mt : Nat → Int32) (wi : Nat → Int32) (ins : Nat → Int32) (la : Nat → Int32) (lb : Nat → Int32) (lc : Nat → Int32) (ld : Nat → Int32) (cp : Nat) (cl : Nat) (hft : I0 0 = nI ft) (h200 : ft ≤ 200) (hf_f : f ≤ 200) (hm_f : mn f = nI n) (hn_f : 1 ≤ n ∧ n ≤ 40) (hp_f : pls n (cF40 cx f) (cF40 cy f)) (hft_f : f < ft) (hwf : ∀ q, lvF ft st tn q → wfM mn cx cy q) (hst1 : (st f).toInt = 1) (htn0 : (tn f).toInt = 0) (hkd1 : ¬ (kd f).toInt = 0 ∧ ¬ (kd f).toInt = 6) (hmv : mvd n (fun i => smv (pI (¬ 5 ≤ (kd f).toInt ∧ (i = 0 ∨ i = n - 1))) (cF40 cx f (prv n i)) (cF40 cx f i) (cF40 cx f (nxt n i))) (fun i => smv (pI (¬ 5 ≤ (kd f).toInt ∧ (i = 0 ∨ i = n - 1))) (cF40 cy f (prv n i)) (cF40 cy f i) (cF40 cy f (nxt n i))) (cF40 cx f) (cF40 cy f)) (hlaw : ¬ lwM ft st tn kd mn cx cy f n (fun i => smv (pI (¬ 5 ≤ (kd f).toInt ∧ (i = 0 ∨ i = n - 1))) (cF40 cx f (prv n i)) (cF40 cx f i) (cF40 cx f (nxt n i))) (fun i => smv (pI (¬ 5 ≤ (kd f).toInt ∧ (i = 0 ∨ i = n - 1))) (cF40 cy f (prv n i)) (cF40 cy f i) (cF40 cy f (nxt n i)))) : zM l yX11_smooth cX11_smooth 6 (some .boolean) ({ frames := 8, cells := 0, slots := 0, locals := 210 } : Room) [.ref k0, .int (nI f)] (dC, dI) (zTy cI cZ cF) [(om k0 a I0 J0), (oa (a 1) cI 201 kd), (oa (a 5) cI 201 st), (oa (a 7) cI 201 gb), (oa (a 10) cI 201 it), (oa (a 8) cI 201 pa), (oa (a 9) cI 201 pb), (oa (a 2) cI 201 rk), (oa (a 3) cI 201 wd), (oa (a 4) cI 201 tw), (oa (a 6) cZ 201 tn), (oa (a 11) cI 201 mn), (oa (a 12) cI 8040 cx), (oa (a 13) cI 8040 cy), (oa (a 27) cI 516 sa), (oa (a 28) cI (4096 * cp) sh), (oa (a 16) cI 514 wh), (oa (a 17) cI 514 of9), (oa (a 18) cI 514 we), (oa (a 32) cI 8 S0), (oa (a 40) cI 6 T0), (oa (a 29) cI 42 P0), (oa (a 30) cI 42 Q0), (oa (a 33) cI 42 ox), (oa (a 34) cI 42 oy), (oa (a 37) cZ 201 mt), (oa (a 38) cZ 201 wi), (oa (a 39) cZ 8040 ins), (oa (a 22) cI (64 * cl) la), (oa (a 23) cI (64 * cl) lb), (oa (a 24) cI (64 * cl) lc), (oa (a 25) cI (64 * cl) ld)] sz (some (.int 0)) (fun A t => ∃ (z9 : Int32), ∃ (S1 : Nat → Int32), ∃ (T1 : Nat → Int32), ∃ (P1 : Nat → Int32), ∃ (Q1 : Nat → Int32), ∃ (ox1 : Nat → Int32), ∃ (oy1 : Nat → Int32), ∃ (mt1 : Nat → Int32), ∃ (wi1 : Nat → Int32), ∃ (ins1 : Nat → Int32), zPD (dC, dI) classes A [(om k0 a (upd (upd (upd (upd (upd I0 14 7) 15 (I0 15 + 1)) 31 z9) 35 (nI n)) 36 (kd f)) J0), (oa (a 1) cI 201 kd), (oa (a 5) cI 201 st), (oa (a 7) cI 201 gb), (oa (a 10) cI 201 it), (oa (a 8) cI 201 pa), (oa (a 9) cI 201 pb), (oa (a 2) cI 201 rk), (oa (a 3) cI 201 wd), (oa (a 4) cI 201 tw), (oa (a 6) cZ 201 tn), (oa (a 11) cI 201 mn), (oa (a 12) cI 8040 cx), (oa (a 13) cI 8040 cy), (oa (a 27) cI 516 sa), (oa (a 28) cI (4096 * cp) sh), (oa (a 16) cI 514 wh), (oa (a 17) cI 514 of9), (oa (a 18) cI 514 we), (oa (a 32) cI 8 S1), (oa (a 40) cI 6 T1), (oa (a 29) cI 42 P1), (oa (a 30) cI 42 Q1), (oa (a 33) cI 42 ox1), (oa (a 34) cI 42 oy1), (oa (a 37) cZ 201 mt1), (oa (a 38) cZ 201 wi1), (oa (a 39) cZ 8040 ins1), (oa (a 22) cI (64 * cl) la), (oa (a 23) cI (64 * cl) lb), (oa (a 24) cI (64 * cl) lc), (oa (a 25) cI (64 * cl) ld)] t.heap) 0 0 := by
  refine zIn (own := "ScaleShopModel") (loc := [(0, .ref k0), (1, .int (nI f))]) rfl rfl rfl rfl (fun p e s m below meth c hx hb hr hts hown hlocks hml hnm9 A hA hS hP hD hK hXN Q9 hQ9 ls hl => ?_)
  have hum : upd mn f (nI n) = mn := upd_self hm_f
  have huk : upd kd f (kd f) = kd := upd_self rfl
  refine lv_aload_n hx hb dX11_smooth_0 rfl (lv_at hl 0 rfl) ?_
  refine lv_iload_n hx hb dX11_smooth_1 rfl (lv_at hl 1 rfl) ?_
  obtain ⟨hPc, hDc, hFc, hI1⟩ := zi_sub (wc := [_, _]) hP hD hS hA [0, 2] rfl rfl
  refine zcall (st1 := [.int (wrN (st f))]) (va_runV (As := [.int (nI f)]) (rest := []) ⟨hx, hb, hml, hown, hts⟩ (k_M_wrong l dC dI cI cZ cF s.heap.size k0 a I0 J0 f ft st (by first | with_reducible assumption | assumption) (by first | with_reducible assumption | omega) (by first | with_reducible assumption | omega)) (csV_209 hts rfl rfl ⟨Nat.le_of_ble_eq_true rfl, Nat.le_of_ble_eq_true rfl⟩) (zPV2 (q0 := 0) (ci := 9) hPc hDc hK hXN rfl rfl) rfl rfl hl.1 rfl (lv_room (Nat.le_of_ble_eq_true rfl)) dX11_smooth_2 ⟨Nat.le_of_ble_eq_true rfl, Nat.le_of_ble_eq_true rfl⟩) hS hFc hFc rfl (fun t H locs ht hB hk1 hS => ?_)
  obtain ⟨hP1, hD1⟩ := hB
  rw [ht] at hP1
  replace hP := z0 hP hD hk1 hP1 hI1
  clear hk1 hPc hDc hFc hP1 hD1 ht hI1
  refine zz_i2 (wrN_s (st f)) (fun hs9 => ?_) (fun hs9 => ?_)
  · skip
    refine lv_istore_n (lv' := [(2, .int 0), (0, .ref k0), (1, .int (nI f))]) hx hb dX11_smooth_5 rfl hl (Nat.le_of_ble_eq_true rfl) rfl (fun ls hl => ?_)
    refine lv_iload_n hx hb dX11_smooth_6 rfl (lv_at hl 0 rfl) ?_
    refine lv_if_le (tgt := 14) hx hb dX11_smooth_7 rfl (fun c_1 => ?_) (fun c_1 => ?_)
    · refine lv_aload_n hx hb dX11_smooth_14 rfl (lv_at hl 1 rfl) ?_
      refine lv_iload_n hx hb dX11_smooth_15 rfl (lv_at hl 2 rfl) ?_
      obtain ⟨hPc, hDc, hFc, hI1⟩ := zi_sub (wc := [_, _]) hP hD hS hA [0, 1] rfl rfl
      refine zcall (st1 := [.int (pI (¬ (kd f).toInt = 0 ∧ ¬ (kd f).toInt = 6))]) (va_runV (As := [.int (nI f)]) (rest := []) ⟨hx, hb, hml, hown, hts⟩ (k_M_isPlainable l dC dI cI cZ cF H.size k0 a I0 J0 f kd (by first | with_reducible assumption | omega)) (csV_210 hts rfl rfl ⟨Nat.le_of_ble_eq_true rfl, Nat.le_of_ble_eq_true rfl⟩) (zPV2 (q0 := 0) (ci := 9) hPc hDc hK hXN rfl rfl) rfl rfl hl.1 rfl (lv_room (Nat.le_of_ble_eq_true rfl)) dX11_smooth_16 ⟨Nat.le_of_ble_eq_true rfl, Nat.le_of_ble_eq_true rfl⟩) hS hFc hFc rfl (fun t H locs ht hB hk1 hS => ?_)
      obtain ⟨hP1, hD1⟩ := hB
      rw [ht] at hP1
      replace hP := z0 hP hD hk1 hP1 hI1
      clear hk1 hPc hDc hFc hP1 hD1 ht hI1
      refine lv_if_ne (tgt := 26) hx hb dX11_smooth_19 rfl (fun c_2 => ?_) (fun c_2 => ?_)
      · have c_2 : ¬ (kd f).toInt = 0 ∧ ¬ (kd f).toInt = 6 := zp_1 c_2
        refine lv_aload_n hx hb dX11_smooth_26 rfl (lv_at hl 1 rfl) ?_
        refine va_get (D := (dC, dI)) (ci := 9) (v := .ref (a 6)) (C := RX11) (T := TX11) (N := 55) hx hb hts inX11 hown hK hP 0 rfl rfl 6 (Nat.le_of_ble_eq_true rfl) (hts _ mw_1165) (fun _ h9 => h9) rfl dX11_smooth_27 ?_
        refine lv_iload_n hx hb dX11_smooth_30 rfl (lv_at hl 2 rfl) ?_
        have b9_3 : f < 201 := by omega
        refine z_zald hx hb hK hP 10 1 rfl rfl (e := f) rfl b9_3 (Nat.le_of_ble_eq_true rfl) dX11_smooth_31 ?_
        refine lv_if_eq (tgt := 39) hx hb dX11_smooth_32 rfl (fun c_4 => ?_) (fun c_4 => ?_)
        · have c_4 : (tn f).toInt = 0 := zc_eq rfl rfl c_4
          refine lv_iconst (v := 0) hx hb dX11_smooth_39 rfl ?_
          refine lv_istore_n (lv' := [(2, .int 0), (0, .ref k0), (1, .int (nI f))]) hx hb dX11_smooth_40 rfl hl (Nat.le_of_ble_eq_true rfl) rfl (fun ls hl => ?_)
          refine lv_iload_n hx hb dX11_smooth_41 rfl (lv_at hl 0 rfl) ?_
          refine lv_if_le (tgt := 51) hx hb dX11_smooth_42 rfl (fun c_5 => ?_) (fun c_5 => ?_)
          · refine lv_aload_n hx hb dX11_smooth_51 rfl (lv_at hl 1 rfl) ?_
            refine lv_iload_n hx hb dX11_smooth_52 rfl (lv_at hl 2 rfl) ?_
            obtain ⟨hPc, hDc, hFc⟩ := zo_sub (wc := [_, _, _, _, _, _, _, _, _, _, _, _, _]) hP hD hS hA [0, 2, 10, 1, 11, 12, 13, 19, 23, 24, 25, 26, 27] (by decide +kernel) rfl
            refine zcall (st1 := []) (va_runV (As := [.int (nI f)]) (rest := []) ⟨hx, hb, hml, hown, hts⟩ (k_M_remember l dC dI cI cZ cF H.size k0 a I0 J0 f n ft st tn kd mn cx cy S0 ox oy mt wi ins (by first | with_reducible assumption | assumption) (by first | with_reducible assumption | omega) (by first | with_reducible assumption | omega) (by first | with_reducible assumption | assumption) (by first | with_reducible assumption | omega) (by first | with_reducible assumption | assumption) (fun q h1 _ => hwf q h1)) (csV_190 hts rfl rfl ⟨Nat.le_of_ble_eq_true rfl, Nat.le_of_ble_eq_true rfl⟩) (zPV2 (q0 := 0) (ci := 9) hPc hDc hK hXN rfl rfl) rfl rfl hl.1 rfl (lv_room (Nat.le_of_ble_eq_true rfl)) dX11_smooth_53 ⟨Nat.le_of_ble_eq_true rfl, Nat.le_of_ble_eq_true rfl⟩) hS hFc hFc rfl (fun t H locs ht hB hk1 hS => ?_)
            refine ex6 hB (fun S1 ox1 oy1 mt1 wi1 ins1 hB0 => ?_)
            clear hB
            obtain ⟨hox, hmt, hwi, hin, hP1, hD1⟩ := hB0
            rw [ht] at hP1
            obtain ⟨hP, hD⟩ := zn (W2 := [(om k0 a (upd (upd I0 35 (nI n)) 36 (kd f)) J0), _, _, _, _, _, _, _, _, _, _, _, _, _, _, _, _, _, _, (oa (a 32) cI 8 S1), _, _, _, (oa (a 33) cI 42 ox1), (oa (a 34) cI 42 oy1), (oa (a 37) cZ 201 mt1), (oa (a 38) cZ 201 wi1), (oa (a 39) cZ 8040 ins1), _, _, _, _]) hP hD hk1 hFc hP1 hD1 zl_194 zl_195 zl_195 zl_194 (by decide +kernel) rfl rfl rfl rfl rfl
            clear hk1 hPc hDc hFc hP1 hD1 ht
            refine lv_iconst (v := 0) hx hb dX11_smooth_56 rfl ?_
            refine lv_istore_n (lv' := [(3, .int 0), (2, .int 0), (0, .ref k0), (1, .int (nI f))]) hx hb dX11_smooth_57 rfl hl (Nat.le_of_ble_eq_true rfl) rfl (fun ls hl => ?_)
            have hl_58 : ∀ (n9 : Nat) (k : Nat) (cx1 : Nat → Int32) (cy1 : Nat → Int32) (H : Heap) (locs : List Loc) (ls : Array Slot), n - k < n9 → (k ≤ n) → (cx1 = fgX f k (fun i => smv (pI (¬ 5 ≤ (kd f).toInt ∧ (i = 0 ∨ i = n - 1))) (cF40 cx f (prv n i)) (cF40 cx f i) (cF40 cx f (nxt n i))) cx) → (cy1 = fgX f k (fun i => smv (pI (¬ 5 ≤ (kd f).toInt ∧ (i = 0 ∨ i = n - 1))) (cF40 cy f (prv n i)) (cF40 cy f i) (cF40 cy f (nxt n i))) cy) → va_P (dC, dI) classes [(om k0 a (upd (upd I0 35 (nI n)) 36 (kd f)) J0), (oa (a 1) cI 201 kd), (oa (a 5) cI 201 st), (oa (a 7) cI 201 gb), (oa (a 10) cI 201 it), (oa (a 8) cI 201 pa), (oa (a 9) cI 201 pb), (oa (a 2) cI 201 rk), (oa (a 3) cI 201 wd), (oa (a 4) cI 201 tw), (oa (a 6) cZ 201 tn), (oa (a 11) cI 201 mn), (oa (a 12) cI 8040 cx1), (oa (a 13) cI 8040 cy1), (oa (a 27) cI 516 sa), (oa (a 28) cI (4096 * cp) sh), (oa (a 16) cI 514 wh), (oa (a 17) cI 514 of9), (oa (a 18) cI 514 we), (oa (a 32) cI 8 S1), (oa (a 40) cI 6 T0), (oa (a 29) cI 42 P0), (oa (a 30) cI 42 Q0), (oa (a 33) cI 42 ox1), (oa (a 34) cI 42 oy1), (oa (a 37) cZ 201 mt1), (oa (a 38) cZ 201 wi1), (oa (a 39) cZ 8040 ins1), (oa (a 22) cI (64 * cl) la), (oa (a 23) cI (64 * cl) lb), (oa (a 24) cI (64 * cl) lc), (oa (a 25) cI (64 * cl) ld)] H → va_D A [(om k0 a (upd (upd I0 35 (nI n)) 36 (kd f)) J0), (oa (a 1) cI 201 kd), (oa (a 5) cI 201 st), (oa (a 7) cI 201 gb), (oa (a 10) cI 201 it), (oa (a 8) cI 201 pa), (oa (a 9) cI 201 pb), (oa (a 2) cI 201 rk), (oa (a 3) cI 201 wd), (oa (a 4) cI 201 tw), (oa (a 6) cZ 201 tn), (oa (a 11) cI 201 mn), (oa (a 12) cI 8040 cx1), (oa (a 13) cI 8040 cy1), (oa (a 27) cI 516 sa), (oa (a 28) cI (4096 * cp) sh), (oa (a 16) cI 514 wh), (oa (a 17) cI 514 of9), (oa (a 18) cI 514 we), (oa (a 32) cI 8 S1), (oa (a 40) cI 6 T0), (oa (a 29) cI 42 P0), (oa (a 30) cI 42 Q0), (oa (a 33) cI 42 ox1), (oa (a 34) cI 42 oy1), (oa (a 37) cZ 201 mt1), (oa (a 38) cZ 201 wi1), (oa (a 39) cZ 8040 ins1), (oa (a 22) cI (64 * cl) la), (oa (a 23) cI (64 * cl) lb), (oa (a 24) cI (64 * cl) lc), (oa (a 25) cI (64 * cl) ld)] → va_S A s.heap H locs → lv_has ls 6 [(3, .int (nI k)), (2, .int 0), (0, .ref k0), (1, .int (nI f))] → W p l e ({ frames := 8, cells := 0, slots := 0, locals := 210 } : Room) s m ([.ref k0, .int (nI f)] : List Value).toArray below meth c H locs 0 0 Q9 (F0 m 58 ls []) := by
              intro n9
              induction n9 with
              | zero => intro k cx1 cy1 H locs ls hm; exact absurd hm (Nat.not_lt_zero _)
              | succ n9 ih_58 =>
                intro k cx1 cy1 H locs ls hm hk hcx hcy hP hD hS hl
                refine lv_iload_n hx hb dX11_smooth_58 rfl (lv_at hl 0 rfl) ?_
                refine lv_aload_n hx hb dX11_smooth_59 rfl (lv_at hl 2 rfl) ?_
                refine va_get (D := (dC, dI)) (ci := 9) (v := .int (nI n)) (C := RX11) (T := TX11) (N := 55) hx hb hts inX11 hown hK hP 0 rfl rfl 35 (Nat.le_of_ble_eq_true rfl) (hts _ mw_1194) (fun _ h9 => h9) rfl dX11_smooth_60 ?_
                have b9_7 : zlt (k) := show k < 2147483648 by omega
                have b9_8 : zlt (n) := show n < 2147483648 by omega
                refine lv_icmp_ge (tgt := 208) hx hb dX11_smooth_63 rfl (fun c_6 => ?_) (fun c_6 => ?_)
                · have c_6 : ((n : Nat) : Int) ≤ ((k : Nat) : Int) := zc_le (nI_toInt b9_8) (nI_toInt b9_7) c_6
                  have hkn : k = n := (by omega)
                  rw [hkn] at hcx hcy
                  refine lv_aload_n hx hb dX11_smooth_208 rfl (lv_at hl 2 rfl) ?_
                  refine lv_iload_n hx hb dX11_smooth_209 rfl (lv_at hl 3 rfl) ?_
                  obtain ⟨hPc, hDc, hFc, hI1⟩ := zi_sub (wc := [_, _, _, _, _]) hP hD hS hA [0, 12, 13, 23, 24] (by decide +kernel) rfl
                  refine zcall (st1 := [.int (pI (∃ k, k < n ∧ ¬ ((cx1 (40 * f + k)).toInt = (ox1 k).toInt ∧ (cy1 (40 * f + k)).toInt = (oy1 k).toInt)))]) (va_runV (As := [.int (nI f)]) (rest := []) ⟨hx, hb, hml, hown, hts⟩ (k_M_moves l dC dI cI cZ cF H.size k0 a (upd (upd I0 35 (nI n)) 36 (kd f)) J0 f n cx1 cy1 ox1 oy1 (by first | with_reducible assumption | omega) (rfl) (by first | with_reducible assumption | omega)) (csV_211 hts rfl rfl ⟨Nat.le_of_ble_eq_true rfl, Nat.le_of_ble_eq_true rfl⟩) (zPV2 (q0 := 0) (ci := 9) hPc hDc hK hXN rfl rfl) rfl rfl hl.1 rfl (lv_room (Nat.le_of_ble_eq_true rfl)) dX11_smooth_210 ⟨Nat.le_of_ble_eq_true rfl, Nat.le_of_ble_eq_true rfl⟩) hS hFc hFc rfl (fun t H locs ht hB hk1 hS => ?_)
                  obtain ⟨hP1, hD1⟩ := hB
                  rw [ht] at hP1
                  replace hP := z0 hP hD hk1 hP1 hI1
                  clear hk1 hPc hDc hFc hP1 hD1 ht hI1
                  refine zz_i (v := pI (mvd n (fun i => smv (pI (¬ 5 ≤ (kd f).toInt ∧ (i = 0 ∨ i = n - 1))) (cF40 cx f (prv n i)) (cF40 cx f i) (cF40 cx f (nxt n i))) (fun i => smv (pI (¬ 5 ≤ (kd f).toInt ∧ (i = 0 ∨ i = n - 1))) (cF40 cy f (prv n i)) (cF40 cy f i) (cF40 cy f (nxt n i))) (cF40 cx f) (cF40 cy f))) (zp_iff (mv_iff hcx hcy hox)) ?_
                  refine lv_if_ne (tgt := 223) hx hb dX11_smooth_213 rfl (fun c_9 => ?_) (fun c_9 => ?_)
                  · have c_9 : mvd n (fun i => smv (pI (¬ 5 ≤ (kd f).toInt ∧ (i = 0 ∨ i = n - 1))) (cF40 cx f (prv n i)) (cF40 cx f i) (cF40 cx f (nxt n i))) (fun i => smv (pI (¬ 5 ≤ (kd f).toInt ∧ (i = 0 ∨ i = n - 1))) (cF40 cy f (prv n i)) (cF40 cy f i) (cF40 cy f (nxt n i))) (cF40 cx f) (cF40 cy f) := zp_1 c_9
                    refine lv_aload_n hx hb dX11_smooth_223 rfl (lv_at hl 2 rfl) ?_
                    refine lv_iload_n hx hb dX11_smooth_224 rfl (lv_at hl 3 rfl) ?_
                    refine lv_iconst (v := 2) hx hb dX11_smooth_225 rfl ?_
                    refine zz_i (v := nI 2) (rfl) ?_
                    have hbx : fgX f n ox1 cx1 = cx := (by rw [hcx]; exact fgX_back (fun k9 h9 => (hox k9 h9).1))
                    have hby : fgX f n oy1 cy1 = cy := (by rw [hcy]; exact fgX_back (fun k9 h9 => (hox k9 h9).2))
                    have hlq := lwM_eq (ft := ft) (st := st) (tn := tn) (kd := kd) (mn := mn) hn_f.1 hcx hcy hox
                    have hpo : pls n ox1 oy1 := fun j hj => by rw [(hox j hj).1, (hox j hj).2]; exact hp_f j hj
                    have hwf2 : ∀ q, lvF ft st tn q → q ≠ f → wfM mn cx1 cy1 q := fun q h1 h2 => wfM_o (hwf q h1) h2 (fun _ _ => rfl) (fun j hj => by rw [hcx, hcy]; exact ⟨fgX_o (by omega), fgX_o (by omega)⟩)
                    obtain ⟨hPc, hDc, hFc⟩ := zo_sub (wc := [_, _, _, _, _, _, _, _, _, _, _, _, _, _, _, _, _, _, _, _, _, _, _, _, _, _, _, _, _, _, _, _]) hP hD hS hA [0, 1, 2, 3, 4, 5, 6, 7, 8, 9, 10, 11, 12, 13, 14, 15, 16, 17, 18, 19, 20, 21, 22, 23, 24, 25, 26, 27, 28, 29, 30, 31] (by decide +kernel) rfl
                    refine zcall (st1 := [.int 0]) (va_runV (As := [.int (nI f), .int (nI 2)]) (rest := []) ⟨hx, hb, hml, hown, hts⟩ (k_M_changes_mn l dC dI cI cZ cF H.size k0 a (upd (upd I0 35 (nI n)) 36 (kd f)) J0 f n ft n (kd f) 2 kd st gb it pa pb rk wd tw tn mn cx1 cy1 sa sh wh of9 we S1 T0 P0 Q0 ox1 oy1 mt1 wi1 ins1 la lb lc ld (bMt kd mn cx cy f n) (bWi kd mn cx cy f) (bIn kd cx cy f n) cp cl (hft) (by first | with_reducible assumption | omega) (by first | with_reducible assumption | omega) (hm_f) (by first | with_reducible assumption | omega) (hwf2) (by first | with_reducible assumption | omega) (by first | with_reducible assumption | omega) (hpo) (hmt) (fun q h1 h2 h5 => by rw [hwi q h1 h2]; exact zp_iff ⟨fun h => h.2, fun h => ⟨h5, h⟩⟩) (fun q h1 h2 i hi h5 => hin q h1 h2 h5 i hi) (by first | with_reducible assumption | omega) (rfl) (hft_f) (by rw [hlq]; exact hlaw)) (csV_212 hts rfl rfl ⟨Nat.le_of_ble_eq_true rfl, Nat.le_of_ble_eq_true rfl⟩) (zPV2 (q0 := 0) (ci := 9) hPc hDc hK hXN rfl rfl) rfl rfl hl.1 rfl (lv_room (Nat.le_of_ble_eq_true rfl)) dX11_smooth_226 ⟨Nat.le_of_ble_eq_true rfl, Nat.le_of_ble_eq_true rfl⟩) hS hFc hFc rfl (fun t H locs ht hB hk1 hS => ?_)
                    obtain ⟨z8, S2, T2, P2, Q2, hP1, hD1⟩ := hB
                    rw [ht] at hP1
                    obtain ⟨hP, hD⟩ := zn (W2 := [(om k0 a (upd (upd (upd (upd (upd I0 14 7) 15 (I0 15 + 1)) 31 z8) 35 (nI n)) 36 (kd f)) J0), (oa (a 1) cI 201 (upd kd f (kd f))), _, _, _, _, _, _, _, _, _, (oa (a 11) cI 201 (upd mn f (nI n))), (oa (a 12) cI 8040 (fgX f n ox1 cx1)), (oa (a 13) cI 8040 (fgX f n oy1 cy1)), _, _, _, _, _, (oa (a 32) cI 8 S2), (oa (a 40) cI 6 T2), (oa (a 29) cI 42 P2), (oa (a 30) cI 42 Q2), _, _, _, _, _, _, _, _, _]) hP hD hk1 hFc hP1 hD1 zl_196 [] zl_197 zl_196 (by decide +kernel) rfl rfl rfl rfl rfl
                    clear hk1 hPc hDc hFc hP1 hD1 ht
                    obtain ⟨hP9, hD9⟩ := zu_sub (wc := [(om k0 a (upd (upd (upd (upd (upd I0 14 7) 15 (I0 15 + 1)) 31 z8) 35 (nI n)) 36 (kd f)) J0), (oa (a 1) cI 201 (upd kd f (kd f))), (oa (a 5) cI 201 st), (oa (a 7) cI 201 gb), (oa (a 10) cI 201 it), (oa (a 8) cI 201 pa), (oa (a 9) cI 201 pb), (oa (a 2) cI 201 rk), (oa (a 3) cI 201 wd), (oa (a 4) cI 201 tw), (oa (a 6) cZ 201 tn), (oa (a 11) cI 201 (upd mn f (nI n))), (oa (a 12) cI 8040 (fgX f n ox1 cx1)), (oa (a 13) cI 8040 (fgX f n oy1 cy1)), (oa (a 27) cI 516 sa), (oa (a 28) cI (4096 * cp) sh), (oa (a 16) cI 514 wh), (oa (a 17) cI 514 of9), (oa (a 18) cI 514 we), (oa (a 32) cI 8 S2), (oa (a 40) cI 6 T2), (oa (a 29) cI 42 P2), (oa (a 30) cI 42 Q2), (oa (a 33) cI 42 ox1), (oa (a 34) cI 42 oy1), (oa (a 37) cZ 201 mt1), (oa (a 38) cZ 201 wi1), (oa (a 39) cZ 8040 ins1), (oa (a 22) cI (64 * cl) la), (oa (a 23) cI (64 * cl) lb), (oa (a 24) cI (64 * cl) lc), (oa (a 25) cI (64 * cl) ld)]) hP hD (true :: true :: true :: true :: true :: true :: true :: true :: true :: true :: true :: true :: true :: true :: true :: true :: true :: true :: true :: true :: true :: true :: true :: true :: true :: true :: true :: true :: true :: true :: true :: true :: []) rfl rfl
                    have hE9 : ([(om k0 a (upd (upd (upd (upd (upd I0 14 7) 15 (I0 15 + 1)) 31 z8) 35 (nI n)) 36 (kd f)) J0), (oa (a 1) cI 201 (upd kd f (kd f))), (oa (a 5) cI 201 st), (oa (a 7) cI 201 gb), (oa (a 10) cI 201 it), (oa (a 8) cI 201 pa), (oa (a 9) cI 201 pb), (oa (a 2) cI 201 rk), (oa (a 3) cI 201 wd), (oa (a 4) cI 201 tw), (oa (a 6) cZ 201 tn), (oa (a 11) cI 201 (upd mn f (nI n))), (oa (a 12) cI 8040 (fgX f n ox1 cx1)), (oa (a 13) cI 8040 (fgX f n oy1 cy1)), (oa (a 27) cI 516 sa), (oa (a 28) cI (4096 * cp) sh), (oa (a 16) cI 514 wh), (oa (a 17) cI 514 of9), (oa (a 18) cI 514 we), (oa (a 32) cI 8 S2), (oa (a 40) cI 6 T2), (oa (a 29) cI 42 P2), (oa (a 30) cI 42 Q2), (oa (a 33) cI 42 ox1), (oa (a 34) cI 42 oy1), (oa (a 37) cZ 201 mt1), (oa (a 38) cZ 201 wi1), (oa (a 39) cZ 8040 ins1), (oa (a 22) cI (64 * cl) la), (oa (a 23) cI (64 * cl) lb), (oa (a 24) cI (64 * cl) lc), (oa (a 25) cI (64 * cl) ld)] : va_W) = [(om k0 a (upd (upd (upd (upd (upd I0 14 7) 15 (I0 15 + 1)) 31 z8) 35 (nI n)) 36 (kd f)) J0), (oa (a 1) cI 201 kd), (oa (a 5) cI 201 st), (oa (a 7) cI 201 gb), (oa (a 10) cI 201 it), (oa (a 8) cI 201 pa), (oa (a 9) cI 201 pb), (oa (a 2) cI 201 rk), (oa (a 3) cI 201 wd), (oa (a 4) cI 201 tw), (oa (a 6) cZ 201 tn), (oa (a 11) cI 201 mn), (oa (a 12) cI 8040 cx), (oa (a 13) cI 8040 cy), (oa (a 27) cI 516 sa), (oa (a 28) cI (4096 * cp) sh), (oa (a 16) cI 514 wh), (oa (a 17) cI 514 of9), (oa (a 18) cI 514 we), (oa (a 32) cI 8 S2), (oa (a 40) cI 6 T2), (oa (a 29) cI 42 P2), (oa (a 30) cI 42 Q2), (oa (a 33) cI 42 ox1), (oa (a 34) cI 42 oy1), (oa (a 37) cZ 201 mt1), (oa (a 38) cZ 201 wi1), (oa (a 39) cZ 8040 ins1), (oa (a 22) cI (64 * cl) la), (oa (a 23) cI (64 * cl) lb), (oa (a 24) cI (64 * cl) lc), (oa (a 25) cI (64 * cl) ld)] := by rw [hum, huk, hbx, hby]
                    rw [hE9] at hP9 hD9
                    rw [hQ9]
                    exact W.zret (ty := .boolean) (v := 0) hx hb hr (rfl) (fun t ht hW => ⟨⟨rfl, z8, S2, T2, P2, Q2, ox1, oy1, mt1, wi1, ins1, by rw [ht]; exact hP9, hD9⟩, hS.F ht⟩) hS.2.2 dX11_smooth_229
                  · have c_9 : ¬ (mvd n (fun i => smv (pI (¬ 5 ≤ (kd f).toInt ∧ (i = 0 ∨ i = n - 1))) (cF40 cx f (prv n i)) (cF40 cx f i) (cF40 cx f (nxt n i))) (fun i => smv (pI (¬ 5 ≤ (kd f).toInt ∧ (i = 0 ∨ i = n - 1))) (cF40 cy f (prv n i)) (cF40 cy f i) (cF40 cy f (nxt n i))) (cF40 cx f) (cF40 cy f)) := zp_0 c_9
                    exfalso; exact absurd hmv (by first | with_reducible assumption | assumption)
                · have c_6 : ((k : Nat) : Int) < ((n : Nat) : Int) := zc_nle (nI_toInt b9_8) (nI_toInt b9_7) c_6
                  have hk9 : k < n := (by omega)
                  have hpv := prv_lt (n := n) (i := k) hk9
                  have hnx := nxt_lt (n := n) (i := k) (by omega)
                  refine lv_aload_n hx hb dX11_smooth_66 rfl (lv_at hl 2 rfl) ?_
                  refine lv_iload_n hx hb dX11_smooth_67 rfl (lv_at hl 3 rfl) ?_
                  obtain ⟨hPc, hDc, hFc, hI1⟩ := zi_sub (wc := [_, _]) hP hD hS hA [0, 1] rfl rfl
                  refine zcall (st1 := [.int (pI (5 ≤ (kd f).toInt))]) (va_runV (As := [.int (nI f)]) (rest := []) ⟨hx, hb, hml, hown, hts⟩ (k_M_isRing l dC dI cI cZ cF H.size k0 a (upd (upd I0 35 (nI n)) 36 (kd f)) J0 f kd (by first | with_reducible assumption | omega)) (csV_165 hts rfl rfl ⟨Nat.le_of_ble_eq_true rfl, Nat.le_of_ble_eq_true rfl⟩) (zPV2 (q0 := 0) (ci := 9) hPc hDc hK hXN rfl rfl) rfl rfl hl.1 rfl (lv_room (Nat.le_of_ble_eq_true rfl)) dX11_smooth_68 ⟨Nat.le_of_ble_eq_true rfl, Nat.le_of_ble_eq_true rfl⟩) hS hFc hFc rfl (fun t H locs ht hB hk1 hS => ?_)
                  obtain ⟨hP1, hD1⟩ := hB
                  rw [ht] at hP1
                  replace hP := z0 hP hD hk1 hP1 hI1
                  clear hk1 hPc hDc hFc hP1 hD1 ht hI1
                  refine lv_if_ne (tgt := 91) hx hb dX11_smooth_71 rfl (fun c_10 => ?_) (fun c_10 => ?_)
                  · have c_10 : 5 ≤ (kd f).toInt := zp_1 c_10
                    have hj_11 : W p l e ({ frames := 8, cells := 0, slots := 0, locals := 210 } : Room) s m ([.ref k0, .int (nI f)] : List Value).toArray below meth c H locs 0 0 Q9 (F0 m 107 ls [.int (nI (prv n k))]) := by
                      refine lv_istore (lv' := [(4, .int (nI (prv n k))), (3, .int (nI k)), (2, .int 0), (0, .ref k0), (1, .int (nI f))]) hx hb dX11_smooth_107 hl (Nat.le_of_ble_eq_true rfl) rfl (fun ls hl => ?_)
                      have hj_12 : W p l e ({ frames := 8, cells := 0, slots := 0, locals := 210 } : Room) s m ([.ref k0, .int (nI f)] : List Value).toArray below meth c H locs 0 0 Q9 (F0 m 126 ls [.int (nI (nxt n k))]) := by
                        refine lv_istore (lv' := [(5, .int (nI (nxt n k))), (4, .int (nI (prv n k))), (3, .int (nI k)), (2, .int 0), (0, .ref k0), (1, .int (nI f))]) hx hb dX11_smooth_126 hl (Nat.le_of_ble_eq_true rfl) rfl (fun ls hl => ?_)
                        refine lv_aload_n hx hb dX11_smooth_128 rfl (lv_at hl 4 rfl) ?_
                        refine va_get (D := (dC, dI)) (ci := 9) (v := .ref (a 12)) (C := RX11) (T := TX11) (N := 55) hx hb hts inX11 hown hK hP 0 rfl rfl 12 (Nat.le_of_ble_eq_true rfl) (hts _ mw_1171) (fun _ h9 => h9) rfl dX11_smooth_129 ?_
                        refine lv_bipush (v := 40) hx hb dX11_smooth_132 rfl ?_
                        refine lv_iload_n hx hb dX11_smooth_134 rfl (lv_at hl 5 rfl) ?_
                        refine lv_imul hx hb dX11_smooth_135 ?_
                        refine zz_i (v := nI (40 * f)) (pk_mul 40 f) ?_
                        refine lv_iload_n hx hb dX11_smooth_136 rfl (lv_at hl 2 rfl) ?_
                        refine lv_iadd hx hb dX11_smooth_137 ?_
                        refine zz_i (v := nI (40 * f + k)) (nI_add (40 * f) k) ?_
                        refine lv_aload_n hx hb dX11_smooth_138 rfl (lv_at hl 4 rfl) ?_
                        refine va_get (D := (dC, dI)) (ci := 9) (v := .ref (a 33)) (C := RX11) (T := TX11) (N := 55) hx hb hts inX11 hown hK hP 0 rfl rfl 33 (Nat.le_of_ble_eq_true rfl) (hts _ mw_1192) (fun _ h9 => h9) rfl dX11_smooth_139 ?_
                        refine lv_iload hx hb dX11_smooth_142 (lv_at hl 1 rfl) ?_
                        have b9_13 : prv n k < 42 := by omega
                        refine z_iald hx hb hK hP 23 0 rfl rfl (e := prv n k) rfl b9_13 (Nat.le_of_ble_eq_true rfl) dX11_smooth_144 ?_
                        refine zz_i (v := cF40 cx f (prv n k)) ((hox _ hpv).1) ?_
                        refine lv_iconst (v := 2) hx hb dX11_smooth_145 rfl ?_
                        refine lv_aload_n hx hb dX11_smooth_146 rfl (lv_at hl 4 rfl) ?_
                        refine va_get (D := (dC, dI)) (ci := 9) (v := .ref (a 33)) (C := RX11) (T := TX11) (N := 55) hx hb hts inX11 hown hK hP 0 rfl rfl 33 (Nat.le_of_ble_eq_true rfl) (hts _ mw_1192) (fun _ h9 => h9) rfl dX11_smooth_147 ?_
                        refine lv_iload_n hx hb dX11_smooth_150 rfl (lv_at hl 2 rfl) ?_
                        have b9_14 : k < 42 := by omega
                        refine z_iald hx hb hK hP 23 0 rfl rfl (e := k) rfl b9_14 (Nat.le_of_ble_eq_true rfl) dX11_smooth_151 ?_
                        refine zz_i (v := cF40 cx f k) ((hox _ hk9).1) ?_
                        refine lv_imul hx hb dX11_smooth_152 ?_
                        refine lv_iadd hx hb dX11_smooth_153 ?_
                        refine lv_aload_n hx hb dX11_smooth_154 rfl (lv_at hl 4 rfl) ?_
                        refine va_get (D := (dC, dI)) (ci := 9) (v := .ref (a 33)) (C := RX11) (T := TX11) (N := 55) hx hb hts inX11 hown hK hP 0 rfl rfl 33 (Nat.le_of_ble_eq_true rfl) (hts _ mw_1192) (fun _ h9 => h9) rfl dX11_smooth_155 ?_
                        refine lv_iload hx hb dX11_smooth_158 (lv_at hl 0 rfl) ?_
                        have b9_15 : nxt n k < 42 := by omega
                        refine z_iald hx hb hK hP 23 0 rfl rfl (e := nxt n k) rfl b9_15 (Nat.le_of_ble_eq_true rfl) dX11_smooth_160 ?_
                        refine zz_i (v := cF40 cx f (nxt n k)) ((hox _ hnx).1) ?_
                        refine lv_iadd hx hb dX11_smooth_161 ?_
                        refine lv_iconst (v := 4) hx hb dX11_smooth_162 rfl ?_
                        refine lv_idiv hx hb dX11_smooth_163 (by decide) ?_
                        have b9_16 : 40 * f + k < 8040 := by omega
                        refine z_iast hx hb hK hP hD hS 12 0 rfl rfl (e := 40 * f + k) (x := (((cF40 cx f (prv n k)) + (2 * (cF40 cx f k))) + (cF40 cx f (nxt n k))) / 4) rfl b9_16 (Nat.le_of_ble_eq_true rfl) dX11_smooth_164 (fun H locs hP hD hS => ?_)
                        obtain ⟨hP, hD⟩ := zre (W2 := [_, _, _, _, _, _, _, _, _, _, _, _, (oa (a 12) cI 8040 (upd cx1 (40 * f + k) ((((cF40 cx f (prv n k)) + (2 * (cF40 cx f k))) + (cF40 cx f (nxt n k))) / 4))), _, _, _, _, _, _, _, _, _, _, _, _, _, _, _, _, _, _, _]) hP hD rfl
                        refine lv_aload_n hx hb dX11_smooth_165 rfl (lv_at hl 4 rfl) ?_
                        refine va_get (D := (dC, dI)) (ci := 9) (v := .ref (a 13)) (C := RX11) (T := TX11) (N := 55) hx hb hts inX11 hown hK hP 0 rfl rfl 13 (Nat.le_of_ble_eq_true rfl) (hts _ mw_1172) (fun _ h9 => h9) rfl dX11_smooth_166 ?_
                        refine lv_bipush (v := 40) hx hb dX11_smooth_169 rfl ?_
                        refine lv_iload_n hx hb dX11_smooth_171 rfl (lv_at hl 5 rfl) ?_
                        refine lv_imul hx hb dX11_smooth_172 ?_
                        refine zz_i (v := nI (40 * f)) (pk_mul 40 f) ?_
                        refine lv_iload_n hx hb dX11_smooth_173 rfl (lv_at hl 2 rfl) ?_
                        refine lv_iadd hx hb dX11_smooth_174 ?_
                        refine zz_i (v := nI (40 * f + k)) (nI_add (40 * f) k) ?_
                        refine lv_aload_n hx hb dX11_smooth_175 rfl (lv_at hl 4 rfl) ?_
                        refine va_get (D := (dC, dI)) (ci := 9) (v := .ref (a 34)) (C := RX11) (T := TX11) (N := 55) hx hb hts inX11 hown hK hP 0 rfl rfl 34 (Nat.le_of_ble_eq_true rfl) (hts _ mw_1193) (fun _ h9 => h9) rfl dX11_smooth_176 ?_
                        refine lv_iload hx hb dX11_smooth_179 (lv_at hl 1 rfl) ?_
                        refine z_iald hx hb hK hP 24 0 rfl rfl (e := prv n k) rfl b9_13 (Nat.le_of_ble_eq_true rfl) dX11_smooth_181 ?_
                        refine zz_i (v := cF40 cy f (prv n k)) ((hox _ hpv).2) ?_
                        refine lv_iconst (v := 2) hx hb dX11_smooth_182 rfl ?_
                        refine lv_aload_n hx hb dX11_smooth_183 rfl (lv_at hl 4 rfl) ?_
                        refine va_get (D := (dC, dI)) (ci := 9) (v := .ref (a 34)) (C := RX11) (T := TX11) (N := 55) hx hb hts inX11 hown hK hP 0 rfl rfl 34 (Nat.le_of_ble_eq_true rfl) (hts _ mw_1193) (fun _ h9 => h9) rfl dX11_smooth_184 ?_
                        refine lv_iload_n hx hb dX11_smooth_187 rfl (lv_at hl 2 rfl) ?_
                        refine z_iald hx hb hK hP 24 0 rfl rfl (e := k) rfl b9_14 (Nat.le_of_ble_eq_true rfl) dX11_smooth_188 ?_
                        refine zz_i (v := cF40 cy f k) ((hox _ hk9).2) ?_
                        refine lv_imul hx hb dX11_smooth_189 ?_
                        refine lv_iadd hx hb dX11_smooth_190 ?_
                        refine lv_aload_n hx hb dX11_smooth_191 rfl (lv_at hl 4 rfl) ?_
                        refine va_get (D := (dC, dI)) (ci := 9) (v := .ref (a 34)) (C := RX11) (T := TX11) (N := 55) hx hb hts inX11 hown hK hP 0 rfl rfl 34 (Nat.le_of_ble_eq_true rfl) (hts _ mw_1193) (fun _ h9 => h9) rfl dX11_smooth_192 ?_
                        refine lv_iload hx hb dX11_smooth_195 (lv_at hl 0 rfl) ?_
                        refine z_iald hx hb hK hP 24 0 rfl rfl (e := nxt n k) rfl b9_15 (Nat.le_of_ble_eq_true rfl) dX11_smooth_197 ?_
                        refine zz_i (v := cF40 cy f (nxt n k)) ((hox _ hnx).2) ?_
                        refine lv_iadd hx hb dX11_smooth_198 ?_
                        refine lv_iconst (v := 4) hx hb dX11_smooth_199 rfl ?_
                        refine lv_idiv hx hb dX11_smooth_200 (by decide) ?_
                        refine z_iast hx hb hK hP hD hS 13 0 rfl rfl (e := 40 * f + k) (x := (((cF40 cy f (prv n k)) + (2 * (cF40 cy f k))) + (cF40 cy f (nxt n k))) / 4) rfl b9_16 (Nat.le_of_ble_eq_true rfl) dX11_smooth_201 (fun H locs hP hD hS => ?_)
                        obtain ⟨hP, hD⟩ := zre (W2 := [_, _, _, _, _, _, _, _, _, _, _, _, _, (oa (a 13) cI 8040 (upd cy1 (40 * f + k) ((((cF40 cy f (prv n k)) + (2 * (cF40 cy f k))) + (cF40 cy f (nxt n k))) / 4))), _, _, _, _, _, _, _, _, _, _, _, _, _, _, _, _, _, _]) hP hD rfl
                        refine lv_iinc (v := nI (k + 1)) (lv' := [(3, .int (nI (k + 1))), (5, .int (nI (nxt n k))), (4, .int (nI (prv n k))), (2, .int 0), (0, .ref k0), (1, .int (nI f))]) hx hb dX11_smooth_202 hl (k := 2) rfl (nI_add k 1) (Nat.le_of_ble_eq_true rfl) rfl (fun ls hl => ?_)
                        refine lv_goto (tgt := 58) hx hb dX11_smooth_205 rfl ?_
                        exact ih_58 (k + 1) (upd cx1 (40 * f + k) ((((cF40 cx f (prv n k)) + (2 * (cF40 cx f k))) + (cF40 cx f (nxt n k))) / 4)) (upd cy1 (40 * f + k) ((((cF40 cy f (prv n k)) + (2 * (cF40 cy f k))) + (cF40 cy f (nxt n k))) / 4)) H locs ls (by first | with_reducible assumption | omega) (by first | with_reducible assumption | omega) (by first | exact fgX_u hcx (smv_f (by first | with_reducible assumption | omega)) | exact fgX_k hcx (smv_t (by first | with_reducible assumption | omega))) (by first | exact fgX_u hcy (smv_f (by first | with_reducible assumption | omega)) | exact fgX_k hcy (smv_t (by first | with_reducible assumption | omega))) hP hD hS (lv_sub hl [0, 3, 4, 5] rfl)
                      refine lv_iload_n hx hb dX11_smooth_109 rfl (lv_at hl 1 rfl) ?_
                      refine lv_iconst (v := 1) hx hb dX11_smooth_110 rfl ?_
                      refine lv_iadd hx hb dX11_smooth_111 ?_
                      refine zz_i (v := nI (k + 1)) (nI_add k 1) ?_
                      refine lv_aload_n hx hb dX11_smooth_112 rfl (lv_at hl 3 rfl) ?_
                      refine va_get (D := (dC, dI)) (ci := 9) (v := .int (nI n)) (C := RX11) (T := TX11) (N := 55) hx hb hts inX11 hown hK hP 0 rfl rfl 35 (Nat.le_of_ble_eq_true rfl) (hts _ mw_1194) (fun _ h9 => h9) rfl dX11_smooth_113 ?_
                      have b9_18 : zlt ((k + 1)) := show (k + 1) < 2147483648 by omega
                      refine lv_icmp_ne (tgt := 123) hx hb dX11_smooth_116 rfl (fun c_17 => ?_) (fun c_17 => ?_)
                      · have c_17 : ¬ ((k + 1 : Nat) : Int) = ((n : Nat) : Int) := zc_ne (nI_toInt b9_18) (nI_toInt b9_8) c_17
                        refine lv_iload_n hx hb dX11_smooth_123 rfl (lv_at hl 1 rfl) ?_
                        refine lv_iconst (v := 1) hx hb dX11_smooth_124 rfl ?_
                        refine lv_iadd hx hb dX11_smooth_125 ?_
                        refine zz_i (v := nI (k + 1)) (nI_add k 1) ?_
                        refine zz_i (v := nI (nxt n k)) (by first | (exfalso; omega) | (rw [nxt, if_pos (by omega)]) | (rw [nxt, if_neg (by omega)]; first | done | rfl)) ?_
                        exact hj_12 
                      · have c_17 : ((k + 1 : Nat) : Int) = ((n : Nat) : Int) := zc_eq (nI_toInt b9_18) (nI_toInt b9_8) c_17
                        refine lv_iconst (v := 0) hx hb dX11_smooth_119 rfl ?_
                        refine lv_goto (tgt := 126) hx hb dX11_smooth_120 rfl ?_
                        refine zz_i (v := nI (nxt n k)) (by first | (exfalso; omega) | (rw [nxt, if_pos (by omega)]) | (rw [nxt, if_neg (by omega)]; first | done | rfl)) ?_
                        exact hj_12 
                    refine lv_iload_n hx hb dX11_smooth_91 rfl (lv_at hl 0 rfl) ?_
                    refine lv_if_ne (tgt := 104) hx hb dX11_smooth_92 rfl (fun c_19 => ?_) (fun c_19 => ?_)
                    · have c_19 : ¬ ((k : Nat) : Int) = 0 := zc_ne (nI_toInt b9_7) rfl c_19
                      refine lv_iload_n hx hb dX11_smooth_104 rfl (lv_at hl 0 rfl) ?_
                      refine lv_iconst (v := 1) hx hb dX11_smooth_105 rfl ?_
                      refine lv_isub hx hb dX11_smooth_106 ?_
                      refine zz_i (v := nI (k - 1)) (pk_sub (a := k) (b := 1) (by omega)) ?_
                      refine zz_i (v := nI (prv n k)) (by first | (exfalso; omega) | (rw [prv, if_pos (by omega)]) | (rw [prv, if_neg (by omega)])) ?_
                      exact hj_11 
                    · have c_19 : ((k : Nat) : Int) = 0 := zc_eq (nI_toInt b9_7) rfl c_19
                      refine lv_aload_n hx hb dX11_smooth_95 rfl (lv_at hl 2 rfl) ?_
                      refine va_get (D := (dC, dI)) (ci := 9) (v := .int (nI n)) (C := RX11) (T := TX11) (N := 55) hx hb hts inX11 hown hK hP 0 rfl rfl 35 (Nat.le_of_ble_eq_true rfl) (hts _ mw_1194) (fun _ h9 => h9) rfl dX11_smooth_96 ?_
                      refine lv_iconst (v := 1) hx hb dX11_smooth_99 rfl ?_
                      refine lv_isub hx hb dX11_smooth_100 ?_
                      refine zz_i (v := nI (n - 1)) (pk_sub (a := n) (b := 1) (by omega)) ?_
                      refine lv_goto (tgt := 107) hx hb dX11_smooth_101 rfl ?_
                      refine zz_i (v := nI (prv n k)) (by first | (exfalso; omega) | (rw [prv, if_pos (by omega)]) | (rw [prv, if_neg (by omega)])) ?_
                      exact hj_11 
                  · have c_10 : ¬ (5 ≤ (kd f).toInt) := zp_0 c_10
                    refine lv_iload_n hx hb dX11_smooth_74 rfl (lv_at hl 0 rfl) ?_
                    refine lv_if_eq (tgt := 202) hx hb dX11_smooth_75 rfl (fun c_20 => ?_) (fun c_20 => ?_)
                    · have c_20 : ((k : Nat) : Int) = 0 := zc_eq (nI_toInt b9_7) rfl c_20
                      refine lv_iinc (v := nI (k + 1)) (lv' := [(3, .int (nI (k + 1))), (2, .int 0), (0, .ref k0), (1, .int (nI f))]) hx hb dX11_smooth_202 hl (k := 0) rfl (nI_add k 1) (Nat.le_of_ble_eq_true rfl) rfl (fun ls hl => ?_)
                      refine lv_goto (tgt := 58) hx hb dX11_smooth_205 rfl ?_
                      exact ih_58 (k + 1) cx1 cy1 H locs ls (by first | with_reducible assumption | omega) (by first | with_reducible assumption | omega) (by first | exact fgX_u hcx (smv_f (by first | with_reducible assumption | omega)) | exact fgX_k hcx (smv_t (by first | with_reducible assumption | omega))) (by first | exact fgX_u hcy (smv_f (by first | with_reducible assumption | omega)) | exact fgX_k hcy (smv_t (by first | with_reducible assumption | omega))) hP hD hS (lv_sub hl [0, 1, 2, 3] rfl)
                    · have c_20 : ¬ ((k : Nat) : Int) = 0 := zc_ne (nI_toInt b9_7) rfl c_20
                      refine lv_iload_n hx hb dX11_smooth_78 rfl (lv_at hl 0 rfl) ?_
                      refine lv_aload_n hx hb dX11_smooth_79 rfl (lv_at hl 2 rfl) ?_
                      refine va_get (D := (dC, dI)) (ci := 9) (v := .int (nI n)) (C := RX11) (T := TX11) (N := 55) hx hb hts inX11 hown hK hP 0 rfl rfl 35 (Nat.le_of_ble_eq_true rfl) (hts _ mw_1194) (fun _ h9 => h9) rfl dX11_smooth_80 ?_
                      refine lv_iconst (v := 1) hx hb dX11_smooth_83 rfl ?_
                      refine lv_isub hx hb dX11_smooth_84 ?_
                      refine zz_i (v := nI (n - 1)) (pk_sub (a := n) (b := 1) (by omega)) ?_
                      have b9_22 : zlt ((n - 1)) := show (n - 1) < 2147483648 by omega
                      refine lv_icmp_ne (tgt := 91) hx hb dX11_smooth_85 rfl (fun c_21 => ?_) (fun c_21 => ?_)
                      · have c_21 : ¬ ((k : Nat) : Int) = ((n - 1 : Nat) : Int) := zc_ne (nI_toInt b9_7) (nI_toInt b9_22) c_21
                        have hj_23 : W p l e ({ frames := 8, cells := 0, slots := 0, locals := 210 } : Room) s m ([.ref k0, .int (nI f)] : List Value).toArray below meth c H locs 0 0 Q9 (F0 m 107 ls [.int (nI (prv n k))]) := by
                          refine lv_istore (lv' := [(4, .int (nI (prv n k))), (3, .int (nI k)), (2, .int 0), (0, .ref k0), (1, .int (nI f))]) hx hb dX11_smooth_107 hl (Nat.le_of_ble_eq_true rfl) rfl (fun ls hl => ?_)
                          have hj_24 : W p l e ({ frames := 8, cells := 0, slots := 0, locals := 210 } : Room) s m ([.ref k0, .int (nI f)] : List Value).toArray below meth c H locs 0 0 Q9 (F0 m 126 ls [.int (nI (nxt n k))]) := by
                            refine lv_istore (lv' := [(5, .int (nI (nxt n k))), (4, .int (nI (prv n k))), (3, .int (nI k)), (2, .int 0), (0, .ref k0), (1, .int (nI f))]) hx hb dX11_smooth_126 hl (Nat.le_of_ble_eq_true rfl) rfl (fun ls hl => ?_)
                            refine lv_aload_n hx hb dX11_smooth_128 rfl (lv_at hl 4 rfl) ?_
                            refine va_get (D := (dC, dI)) (ci := 9) (v := .ref (a 12)) (C := RX11) (T := TX11) (N := 55) hx hb hts inX11 hown hK hP 0 rfl rfl 12 (Nat.le_of_ble_eq_true rfl) (hts _ mw_1171) (fun _ h9 => h9) rfl dX11_smooth_129 ?_
                            refine lv_bipush (v := 40) hx hb dX11_smooth_132 rfl ?_
                            refine lv_iload_n hx hb dX11_smooth_134 rfl (lv_at hl 5 rfl) ?_
                            refine lv_imul hx hb dX11_smooth_135 ?_
                            refine zz_i (v := nI (40 * f)) (pk_mul 40 f) ?_
                            refine lv_iload_n hx hb dX11_smooth_136 rfl (lv_at hl 2 rfl) ?_
                            refine lv_iadd hx hb dX11_smooth_137 ?_
                            refine zz_i (v := nI (40 * f + k)) (nI_add (40 * f) k) ?_
                            refine lv_aload_n hx hb dX11_smooth_138 rfl (lv_at hl 4 rfl) ?_
                            refine va_get (D := (dC, dI)) (ci := 9) (v := .ref (a 33)) (C := RX11) (T := TX11) (N := 55) hx hb hts inX11 hown hK hP 0 rfl rfl 33 (Nat.le_of_ble_eq_true rfl) (hts _ mw_1192) (fun _ h9 => h9) rfl dX11_smooth_139 ?_
                            refine lv_iload hx hb dX11_smooth_142 (lv_at hl 1 rfl) ?_
                            have b9_25 : prv n k < 42 := by omega
                            refine z_iald hx hb hK hP 23 0 rfl rfl (e := prv n k) rfl b9_25 (Nat.le_of_ble_eq_true rfl) dX11_smooth_144 ?_
                            refine zz_i (v := cF40 cx f (prv n k)) ((hox _ hpv).1) ?_
                            refine lv_iconst (v := 2) hx hb dX11_smooth_145 rfl ?_
                            refine lv_aload_n hx hb dX11_smooth_146 rfl (lv_at hl 4 rfl) ?_
                            refine va_get (D := (dC, dI)) (ci := 9) (v := .ref (a 33)) (C := RX11) (T := TX11) (N := 55) hx hb hts inX11 hown hK hP 0 rfl rfl 33 (Nat.le_of_ble_eq_true rfl) (hts _ mw_1192) (fun _ h9 => h9) rfl dX11_smooth_147 ?_
                            refine lv_iload_n hx hb dX11_smooth_150 rfl (lv_at hl 2 rfl) ?_
                            have b9_26 : k < 42 := by omega
                            refine z_iald hx hb hK hP 23 0 rfl rfl (e := k) rfl b9_26 (Nat.le_of_ble_eq_true rfl) dX11_smooth_151 ?_
                            refine zz_i (v := cF40 cx f k) ((hox _ hk9).1) ?_
                            refine lv_imul hx hb dX11_smooth_152 ?_
                            refine lv_iadd hx hb dX11_smooth_153 ?_
                            refine lv_aload_n hx hb dX11_smooth_154 rfl (lv_at hl 4 rfl) ?_
                            refine va_get (D := (dC, dI)) (ci := 9) (v := .ref (a 33)) (C := RX11) (T := TX11) (N := 55) hx hb hts inX11 hown hK hP 0 rfl rfl 33 (Nat.le_of_ble_eq_true rfl) (hts _ mw_1192) (fun _ h9 => h9) rfl dX11_smooth_155 ?_
                            refine lv_iload hx hb dX11_smooth_158 (lv_at hl 0 rfl) ?_
                            have b9_27 : nxt n k < 42 := by omega
                            refine z_iald hx hb hK hP 23 0 rfl rfl (e := nxt n k) rfl b9_27 (Nat.le_of_ble_eq_true rfl) dX11_smooth_160 ?_
                            refine zz_i (v := cF40 cx f (nxt n k)) ((hox _ hnx).1) ?_
                            refine lv_iadd hx hb dX11_smooth_161 ?_
                            refine lv_iconst (v := 4) hx hb dX11_smooth_162 rfl ?_
                            refine lv_idiv hx hb dX11_smooth_163 (by decide) ?_
                            have b9_28 : 40 * f + k < 8040 := by omega
                            refine z_iast hx hb hK hP hD hS 12 0 rfl rfl (e := 40 * f + k) (x := (((cF40 cx f (prv n k)) + (2 * (cF40 cx f k))) + (cF40 cx f (nxt n k))) / 4) rfl b9_28 (Nat.le_of_ble_eq_true rfl) dX11_smooth_164 (fun H locs hP hD hS => ?_)
                            obtain ⟨hP, hD⟩ := zre (W2 := [_, _, _, _, _, _, _, _, _, _, _, _, (oa (a 12) cI 8040 (upd cx1 (40 * f + k) ((((cF40 cx f (prv n k)) + (2 * (cF40 cx f k))) + (cF40 cx f (nxt n k))) / 4))), _, _, _, _, _, _, _, _, _, _, _, _, _, _, _, _, _, _, _]) hP hD rfl
                            refine lv_aload_n hx hb dX11_smooth_165 rfl (lv_at hl 4 rfl) ?_
                            refine va_get (D := (dC, dI)) (ci := 9) (v := .ref (a 13)) (C := RX11) (T := TX11) (N := 55) hx hb hts inX11 hown hK hP 0 rfl rfl 13 (Nat.le_of_ble_eq_true rfl) (hts _ mw_1172) (fun _ h9 => h9) rfl dX11_smooth_166 ?_
                            refine lv_bipush (v := 40) hx hb dX11_smooth_169 rfl ?_
                            refine lv_iload_n hx hb dX11_smooth_171 rfl (lv_at hl 5 rfl) ?_
                            refine lv_imul hx hb dX11_smooth_172 ?_
                            refine zz_i (v := nI (40 * f)) (pk_mul 40 f) ?_
                            refine lv_iload_n hx hb dX11_smooth_173 rfl (lv_at hl 2 rfl) ?_
                            refine lv_iadd hx hb dX11_smooth_174 ?_
                            refine zz_i (v := nI (40 * f + k)) (nI_add (40 * f) k) ?_
                            refine lv_aload_n hx hb dX11_smooth_175 rfl (lv_at hl 4 rfl) ?_
                            refine va_get (D := (dC, dI)) (ci := 9) (v := .ref (a 34)) (C := RX11) (T := TX11) (N := 55) hx hb hts inX11 hown hK hP 0 rfl rfl 34 (Nat.le_of_ble_eq_true rfl) (hts _ mw_1193) (fun _ h9 => h9) rfl dX11_smooth_176 ?_
                            refine lv_iload hx hb dX11_smooth_179 (lv_at hl 1 rfl) ?_
                            refine z_iald hx hb hK hP 24 0 rfl rfl (e := prv n k) rfl b9_25 (Nat.le_of_ble_eq_true rfl) dX11_smooth_181 ?_
                            refine zz_i (v := cF40 cy f (prv n k)) ((hox _ hpv).2) ?_
                            refine lv_iconst (v := 2) hx hb dX11_smooth_182 rfl ?_
                            refine lv_aload_n hx hb dX11_smooth_183 rfl (lv_at hl 4 rfl) ?_
                            refine va_get (D := (dC, dI)) (ci := 9) (v := .ref (a 34)) (C := RX11) (T := TX11) (N := 55) hx hb hts inX11 hown hK hP 0 rfl rfl 34 (Nat.le_of_ble_eq_true rfl) (hts _ mw_1193) (fun _ h9 => h9) rfl dX11_smooth_184 ?_
                            refine lv_iload_n hx hb dX11_smooth_187 rfl (lv_at hl 2 rfl) ?_
                            refine z_iald hx hb hK hP 24 0 rfl rfl (e := k) rfl b9_26 (Nat.le_of_ble_eq_true rfl) dX11_smooth_188 ?_
                            refine zz_i (v := cF40 cy f k) ((hox _ hk9).2) ?_
                            refine lv_imul hx hb dX11_smooth_189 ?_
                            refine lv_iadd hx hb dX11_smooth_190 ?_
                            refine lv_aload_n hx hb dX11_smooth_191 rfl (lv_at hl 4 rfl) ?_
                            refine va_get (D := (dC, dI)) (ci := 9) (v := .ref (a 34)) (C := RX11) (T := TX11) (N := 55) hx hb hts inX11 hown hK hP 0 rfl rfl 34 (Nat.le_of_ble_eq_true rfl) (hts _ mw_1193) (fun _ h9 => h9) rfl dX11_smooth_192 ?_
                            refine lv_iload hx hb dX11_smooth_195 (lv_at hl 0 rfl) ?_
                            refine z_iald hx hb hK hP 24 0 rfl rfl (e := nxt n k) rfl b9_27 (Nat.le_of_ble_eq_true rfl) dX11_smooth_197 ?_
                            refine zz_i (v := cF40 cy f (nxt n k)) ((hox _ hnx).2) ?_
                            refine lv_iadd hx hb dX11_smooth_198 ?_
                            refine lv_iconst (v := 4) hx hb dX11_smooth_199 rfl ?_
                            refine lv_idiv hx hb dX11_smooth_200 (by decide) ?_
                            refine z_iast hx hb hK hP hD hS 13 0 rfl rfl (e := 40 * f + k) (x := (((cF40 cy f (prv n k)) + (2 * (cF40 cy f k))) + (cF40 cy f (nxt n k))) / 4) rfl b9_28 (Nat.le_of_ble_eq_true rfl) dX11_smooth_201 (fun H locs hP hD hS => ?_)
                            obtain ⟨hP, hD⟩ := zre (W2 := [_, _, _, _, _, _, _, _, _, _, _, _, _, (oa (a 13) cI 8040 (upd cy1 (40 * f + k) ((((cF40 cy f (prv n k)) + (2 * (cF40 cy f k))) + (cF40 cy f (nxt n k))) / 4))), _, _, _, _, _, _, _, _, _, _, _, _, _, _, _, _, _, _]) hP hD rfl
                            refine lv_iinc (v := nI (k + 1)) (lv' := [(3, .int (nI (k + 1))), (5, .int (nI (nxt n k))), (4, .int (nI (prv n k))), (2, .int 0), (0, .ref k0), (1, .int (nI f))]) hx hb dX11_smooth_202 hl (k := 2) rfl (nI_add k 1) (Nat.le_of_ble_eq_true rfl) rfl (fun ls hl => ?_)
                            refine lv_goto (tgt := 58) hx hb dX11_smooth_205 rfl ?_
                            exact ih_58 (k + 1) (upd cx1 (40 * f + k) ((((cF40 cx f (prv n k)) + (2 * (cF40 cx f k))) + (cF40 cx f (nxt n k))) / 4)) (upd cy1 (40 * f + k) ((((cF40 cy f (prv n k)) + (2 * (cF40 cy f k))) + (cF40 cy f (nxt n k))) / 4)) H locs ls (by first | with_reducible assumption | omega) (by first | with_reducible assumption | omega) (by first | exact fgX_u hcx (smv_f (by first | with_reducible assumption | omega)) | exact fgX_k hcx (smv_t (by first | with_reducible assumption | omega))) (by first | exact fgX_u hcy (smv_f (by first | with_reducible assumption | omega)) | exact fgX_k hcy (smv_t (by first | with_reducible assumption | omega))) hP hD hS (lv_sub hl [0, 3, 4, 5] rfl)
                          refine lv_iload_n hx hb dX11_smooth_109 rfl (lv_at hl 1 rfl) ?_
                          refine lv_iconst (v := 1) hx hb dX11_smooth_110 rfl ?_
                          refine lv_iadd hx hb dX11_smooth_111 ?_
                          refine zz_i (v := nI (k + 1)) (nI_add k 1) ?_
                          refine lv_aload_n hx hb dX11_smooth_112 rfl (lv_at hl 3 rfl) ?_
                          refine va_get (D := (dC, dI)) (ci := 9) (v := .int (nI n)) (C := RX11) (T := TX11) (N := 55) hx hb hts inX11 hown hK hP 0 rfl rfl 35 (Nat.le_of_ble_eq_true rfl) (hts _ mw_1194) (fun _ h9 => h9) rfl dX11_smooth_113 ?_
                          have b9_30 : zlt ((k + 1)) := show (k + 1) < 2147483648 by omega
                          refine lv_icmp_ne (tgt := 123) hx hb dX11_smooth_116 rfl (fun c_29 => ?_) (fun c_29 => ?_)
                          · have c_29 : ¬ ((k + 1 : Nat) : Int) = ((n : Nat) : Int) := zc_ne (nI_toInt b9_30) (nI_toInt b9_8) c_29
                            refine lv_iload_n hx hb dX11_smooth_123 rfl (lv_at hl 1 rfl) ?_
                            refine lv_iconst (v := 1) hx hb dX11_smooth_124 rfl ?_
                            refine lv_iadd hx hb dX11_smooth_125 ?_
                            refine zz_i (v := nI (k + 1)) (nI_add k 1) ?_
                            refine zz_i (v := nI (nxt n k)) (by first | (exfalso; omega) | (rw [nxt, if_pos (by omega)]) | (rw [nxt, if_neg (by omega)]; first | done | rfl)) ?_
                            exact hj_24 
                          · have c_29 : ((k + 1 : Nat) : Int) = ((n : Nat) : Int) := zc_eq (nI_toInt b9_30) (nI_toInt b9_8) c_29
                            refine lv_iconst (v := 0) hx hb dX11_smooth_119 rfl ?_
                            refine lv_goto (tgt := 126) hx hb dX11_smooth_120 rfl ?_
                            refine zz_i (v := nI (nxt n k)) (by first | (exfalso; omega) | (rw [nxt, if_pos (by omega)]) | (rw [nxt, if_neg (by omega)]; first | done | rfl)) ?_
                            exact hj_24 
                        refine lv_iload_n hx hb dX11_smooth_91 rfl (lv_at hl 0 rfl) ?_
                        refine lv_if_ne (tgt := 104) hx hb dX11_smooth_92 rfl (fun c_31 => ?_) (fun c_31 => ?_)
                        · have c_31 : ¬ ((k : Nat) : Int) = 0 := zc_ne (nI_toInt b9_7) rfl c_31
                          refine lv_iload_n hx hb dX11_smooth_104 rfl (lv_at hl 0 rfl) ?_
                          refine lv_iconst (v := 1) hx hb dX11_smooth_105 rfl ?_
                          refine lv_isub hx hb dX11_smooth_106 ?_
                          refine zz_i (v := nI (k - 1)) (pk_sub (a := k) (b := 1) (by omega)) ?_
                          refine zz_i (v := nI (prv n k)) (by first | (exfalso; omega) | (rw [prv, if_pos (by omega)]) | (rw [prv, if_neg (by omega)])) ?_
                          exact hj_23 
                        · have c_31 : ((k : Nat) : Int) = 0 := zc_eq (nI_toInt b9_7) rfl c_31
                          refine lv_aload_n hx hb dX11_smooth_95 rfl (lv_at hl 2 rfl) ?_
                          refine va_get (D := (dC, dI)) (ci := 9) (v := .int (nI n)) (C := RX11) (T := TX11) (N := 55) hx hb hts inX11 hown hK hP 0 rfl rfl 35 (Nat.le_of_ble_eq_true rfl) (hts _ mw_1194) (fun _ h9 => h9) rfl dX11_smooth_96 ?_
                          refine lv_iconst (v := 1) hx hb dX11_smooth_99 rfl ?_
                          refine lv_isub hx hb dX11_smooth_100 ?_
                          refine zz_i (v := nI (n - 1)) (pk_sub (a := n) (b := 1) (by omega)) ?_
                          refine lv_goto (tgt := 107) hx hb dX11_smooth_101 rfl ?_
                          refine zz_i (v := nI (prv n k)) (by first | (exfalso; omega) | (rw [prv, if_pos (by omega)]) | (rw [prv, if_neg (by omega)])) ?_
                          exact hj_23 
                      · have c_21 : ((k : Nat) : Int) = ((n - 1 : Nat) : Int) := zc_eq (nI_toInt b9_7) (nI_toInt b9_22) c_21
                        refine lv_goto (tgt := 202) hx hb dX11_smooth_88 rfl ?_
                        refine lv_iinc (v := nI (k + 1)) (lv' := [(3, .int (nI (k + 1))), (2, .int 0), (0, .ref k0), (1, .int (nI f))]) hx hb dX11_smooth_202 hl (k := 0) rfl (nI_add k 1) (Nat.le_of_ble_eq_true rfl) rfl (fun ls hl => ?_)
                        refine lv_goto (tgt := 58) hx hb dX11_smooth_205 rfl ?_
                        exact ih_58 (k + 1) cx1 cy1 H locs ls (by first | with_reducible assumption | omega) (by first | with_reducible assumption | omega) (by first | exact fgX_u hcx (smv_f (by first | with_reducible assumption | omega)) | exact fgX_k hcx (smv_t (by first | with_reducible assumption | omega))) (by first | exact fgX_u hcy (smv_f (by first | with_reducible assumption | omega)) | exact fgX_k hcy (smv_t (by first | with_reducible assumption | omega))) hP hD hS (lv_sub hl [0, 1, 2, 3] rfl)
            exact hl_58 _ 0 cx cy H locs ls (Nat.lt_succ_self _) (by first | with_reducible assumption | omega) (fgX_0 _ _ _) (fgX_0 _ _ _) hP hD hS (lv_sub hl [0, 1, 2, 3] rfl)
          · exact absurd (by decide) c_5
        · have c_4 : ¬ (tn f).toInt = 0 := zc_ne rfl rfl c_4
          exfalso; omega
      · have c_2 : ¬ (¬ (kd f).toInt = 0 ∧ ¬ (kd f).toInt = 6) := zp_0 c_2
        exfalso; omega
    · exact absurd (by decide) c_1
  · skip
    refine lv_istore_n (lv' := [(2, .int 2), (0, .ref k0), (1, .int (nI f))]) hx hb dX11_smooth_5 rfl hl (Nat.le_of_ble_eq_true rfl) rfl (fun ls hl => ?_)
    refine lv_iload_n hx hb dX11_smooth_6 rfl (lv_at hl 0 rfl) ?_
    refine lv_if_le (tgt := 14) hx hb dX11_smooth_7 rfl (fun c_32 => ?_) (fun c_32 => ?_)
    · exact absurd c_32 (by decide)
    · exfalso; omega
set_option maxHeartbeats 4000000 in
set_option maxRecDepth 100000 in
theorem k_M_smooth_y (l : Launch) (dC : Nat → ClassId) (dI : Nat → Nat → Nat) (cI cZ cF : ClassId) (sz : Nat) (k0 : Nat) (a : Nat → Nat) (I0 : Nat → Int32) (J0 : Nat → Int64) (f : Nat) (n : Nat) (ft : Nat) (kd : Nat → Int32) (st : Nat → Int32) (gb : Nat → Int32) (it : Nat → Int32) (pa : Nat → Int32) (pb : Nat → Int32) (rk : Nat → Int32) (wd : Nat → Int32) (tw : Nat → Int32) (tn : Nat → Int32) (mn : Nat → Int32) (cx : Nat → Int32) (cy : Nat → Int32) (sa : Nat → Int32) (sh : Nat → Int32) (wh : Nat → Int32) (of9 : Nat → Int32) (we : Nat → Int32) (S0 : Nat → Int32) (T0 : Nat → Int32) (P0 : Nat → Int32) (Q0 : Nat → Int32) (ox : Nat → Int32) (oy : Nat → Int32) (mt : Nat → Int32) (wi : Nat → Int32) (ins : Nat → Int32) (la : Nat → Int32) (lb : Nat → Int32) (lc : Nat → Int32) (ld : Nat → Int32) (dn : Nat) (bs : Nat) (w0 : Nat) (cp : Nat) (c1 : Nat) (c2 : Nat) (ln : Nat) (cl : Nat) (hft : I0 0 = nI ft) (h200 : ft ≤ 200) (hf_f : f ≤ 200) (hm_f : mn f = nI n) (hn_f : 1 ≤ n ∧ n ≤ 40) (hp_f : pls n (cF40 cx f) (cF40 cy f)) (hft_f : f < ft) (hwf : ∀ q, lvF ft st tn q → wfM mn cx cy q) (hst1 : (st f).toInt = 1) (htn0 : (tn f).toInt = 0) (hkd1 : ¬ (kd f).toInt = 0 ∧ ¬ (kd f).toInt = 6) (hmv : mvd n (fun i => smv (pI (¬ 5 ≤ (kd f).toInt ∧ (i = 0 ∨ i = n - 1))) (cF40 cx f (prv n i)) (cF40 cx f i) (cF40 cx f (nxt n i))) (fun i => smv (pI (¬ 5 ≤ (kd f).toInt ∧ (i = 0 ∨ i = n - 1))) (cF40 cy f (prv n i)) (cF40 cy f i) (cF40 cy f (nxt n i))) (cF40 cx f) (cF40 cy f)) (hdn : I0 19 = nI dn) (hbs : I0 21 = nI bs) (hbd : bs ≤ dn) (hd512 : dn ≤ 512) (hi5_1 : (dn - bs) < 515) (hsa_1 : sa (dn - bs) = nI w0) (hmn_1 : ∀ f, f < ft → (tn f).toInt = 0 → ¬ (st f).toInt = 0 → mn f = nI (nN (mn f)) ∧ nN (mn f) ≤ 40) (hc1_1 : 1 ≤ cp) (hpw_1 : pw cp c1) (hw0_1 : w0 ≤ 4096 * cp) (hfit_1 : psN (nnF st tn mn) w0 ft ≤ 4096 * c1) (hmin_1 : c1 = cp ∨ 2048 * c1 < psN (nnF st tn mn) w0 ft) (hcE_1 : c1 ≤ 512) (hpw_2 : pw c1 c2) (hfit_2 : psN (nnF st tn mn) (psN (nnF st tn mn) w0 ft) ft ≤ 4096 * c2) (hmin_2 : c2 = c1 ∨ 2048 * c2 < psN (nnF st tn mn) (psN (nnF st tn mn) w0 ft) ft) (hcE_2 : c2 ≤ 512) (hlc : ln ≤ 64 * cl) (hcl1 : 1 ≤ cl) (hclm : cl ≤ 1000000) (hlaw : lwM ft st tn kd mn cx cy f n (fun i => smv (pI (¬ 5 ≤ (kd f).toInt ∧ (i = 0 ∨ i = n - 1))) (cF40 cx f (prv n i)) (cF40 cx f i) (cF40 cx f (nxt n i))) (fun i => smv (pI (¬ 5 ≤ (kd f).toInt ∧ (i = 0 ∨ i = n - 1))) (cF40 cy f (prv n i)) (cF40 cy f i) (cF40 cy f (nxt n i)))) : zM l yX11_smooth cX11_smooth 6 (some .boolean) ({ frames := 8, cells := c2 - cp, slots := 8192 * (c2 - cp), locals := 210 } : Room) [.ref k0, .int (nI f)] (dC, dI) (zTy cI cZ cF) [(om k0 a (upd I0 26 (nI ln)) J0), (oa (a 1) cI 201 kd), (oa (a 5) cI 201 st), (oa (a 7) cI 201 gb), (oa (a 10) cI 201 it), (oa (a 8) cI 201 pa), (oa (a 9) cI 201 pb), (oa (a 2) cI 201 rk), (oa (a 3) cI 201 wd), (oa (a 4) cI 201 tw), (oa (a 6) cZ 201 tn), (oa (a 11) cI 201 mn), (oa (a 12) cI 8040 cx), (oa (a 13) cI 8040 cy), (oa (a 27) cI 516 sa), (oa (a 28) cI (4096 * cp) sh), (oa (a 16) cI 514 wh), (oa (a 17) cI 514 of9), (oa (a 18) cI 514 we), (oa (a 32) cI 8 S0), (oa (a 40) cI 6 T0), (oa (a 29) cI 42 P0), (oa (a 30) cI 42 Q0), (oa (a 33) cI 42 ox), (oa (a 34) cI 42 oy), (oa (a 37) cZ 201 mt), (oa (a 38) cZ 201 wi), (oa (a 39) cZ 8040 ins), (oa (a 22) cI (64 * cl) la), (oa (a 23) cI (64 * cl) lb), (oa (a 24) cI (64 * cl) lc), (oa (a 25) cI (64 * cl) ld)] sz (some (.int 1)) (fun A t => ∃ (z9 : Int32), ∃ (b2 : Nat), ∃ (sh2 : Nat → Int32), ∃ (t9 : Nat), ∃ (S1 : Nat → Int32), ∃ (T1 : Nat → Int32), ∃ (P1 : Nat → Int32), ∃ (Q1 : Nat → Int32), ∃ (ox1 : Nat → Int32), ∃ (oy1 : Nat → Int32), ∃ (mt1 : Nat → Int32), ∃ (wi1 : Nat → Int32), ∃ (ins1 : Nat → Int32), ∃ (la1 : Nat → Int32), ∃ (lb1 : Nat → Int32), ∃ (lc1 : Nat → Int32), ∃ (ld1 : Nat → Int32), (sh2 w0 = nI ft) ∧ (∀ j, j < w0 → sh2 j = sh j) ∧ (∀ g, g < ft → ∀ j, j < 10 + 2 * (nnF st tn mn) g → sh2 (psN (nnF st tn mn) w0 g + j) = (shD kd st gb it pa pb rk wd tw (nnF st tn mn) cx cy) g j) ∧ (sh2 (psN (nnF st tn mn) w0 ft) = nI ft) ∧ (∀ g, g < ft → ∀ j, j < 10 + 2 * (nnF st tn mn) g → sh2 (psN (nnF st tn mn) (psN (nnF st tn mn) w0 ft) g + j) = (shD kd st gb it pa pb rk wd tw (nnF st tn mn) (fgX f n (fun i => smv (pI (¬ 5 ≤ (kd f).toInt ∧ (i = 0 ∨ i = n - 1))) (cF40 cx f (prv n i)) (cF40 cx f i) (cF40 cx f (nxt n i))) cx) (fgX f n (fun i => smv (pI (¬ 5 ≤ (kd f).toInt ∧ (i = 0 ∨ i = n - 1))) (cF40 cy f (prv n i)) (cF40 cy f i) (cF40 cy f (nxt n i))) cy)) g j) ∧ (t9 ≤ ln) ∧ ((∀ j, j < t9 → ∃ i, i < ln ∧ lb1 j = lb i ∧ lc1 j = lc i) ∧ lsZ dn ln la lb lc ld t9 la1 lb1 lc1 ld1 (fun _ _ _ => False)) ∧ zPD (dC, dI) classes A [(om k0 (va_up a 28 b2) (upd (upd (upd (upd (upd (upd (upd (upd I0 14 0) 19 (nI (dn + 1))) 20 0) 26 (nI t9)) 31 z9) 35 (nI n)) 36 (kd f)) 41 (nI (psN (nnF st tn mn) (psN (nnF st tn mn) w0 ft) ft))) J0), (oa (a 1) cI 201 kd), (oa (a 5) cI 201 st), (oa (a 7) cI 201 gb), (oa (a 10) cI 201 it), (oa (a 8) cI 201 pa), (oa (a 9) cI 201 pb), (oa (a 2) cI 201 rk), (oa (a 3) cI 201 wd), (oa (a 4) cI 201 tw), (oa (a 6) cZ 201 tn), (oa (a 11) cI 201 mn), (oa (a 12) cI 8040 (fgX f n (fun i => smv (pI (¬ 5 ≤ (kd f).toInt ∧ (i = 0 ∨ i = n - 1))) (cF40 cx f (prv n i)) (cF40 cx f i) (cF40 cx f (nxt n i))) cx)), (oa (a 13) cI 8040 (fgX f n (fun i => smv (pI (¬ 5 ≤ (kd f).toInt ∧ (i = 0 ∨ i = n - 1))) (cF40 cy f (prv n i)) (cF40 cy f i) (cF40 cy f (nxt n i))) cy)), (oa (a 27) cI 516 (upd (upd sa (dn - bs + 1) (nI (psN (nnF st tn mn) w0 ft))) (dn + 1 - bs + 1) (nI (psN (nnF st tn mn) (psN (nnF st tn mn) w0 ft) ft)))), (oa b2 cI (4096 * c2) sh2), (oa (a 16) cI 514 (upd wh (dn + 1) (nI 2))), (oa (a 17) cI 514 (upd of9 (dn + 1) (nI f))), (oa (a 18) cI 514 (upd we (dn + 1) (0 : Int32))), (oa (a 32) cI 8 S1), (oa (a 40) cI 6 T1), (oa (a 29) cI 42 P1), (oa (a 30) cI 42 Q1), (oa (a 33) cI 42 ox1), (oa (a 34) cI 42 oy1), (oa (a 37) cZ 201 mt1), (oa (a 38) cZ 201 wi1), (oa (a 39) cZ 8040 ins1), (oa (a 22) cI (64 * cl) la1), (oa (a 23) cI (64 * cl) lb1), (oa (a 24) cI (64 * cl) lc1), (oa (a 25) cI (64 * cl) ld1)] t.heap) (c2 - cp) (8192 * (c2 - cp)) := by
  refine zIn (own := "ScaleShopModel") (loc := [(0, .ref k0), (1, .int (nI f))]) rfl rfl rfl rfl (fun p e s m below meth c hx hb hr hts hown hlocks hml hnm9 A hA hS hP hD hK hXN Q9 hQ9 ls hl => ?_)
  have hum : upd mn f (nI n) = mn := upd_self hm_f
  have huk : upd kd f (kd f) = kd := upd_self rfl
  have hq1 := pw_le hpw_1
  have hq2 := pw_le hpw_2
  refine lv_aload_n hx hb dX11_smooth_0 rfl (lv_at hl 0 rfl) ?_
  refine lv_iload_n hx hb dX11_smooth_1 rfl (lv_at hl 1 rfl) ?_
  obtain ⟨hPc, hDc, hFc, hI1⟩ := zi_sub (wc := [_, _]) hP hD hS hA [0, 2] rfl rfl
  refine zcall (st1 := [.int (wrN (st f))]) (va_runV (As := [.int (nI f)]) (rest := []) ⟨hx, hb, hml, hown, hts⟩ (k_M_wrong l dC dI cI cZ cF s.heap.size k0 a (upd I0 26 (nI ln)) J0 f ft st (by first | with_reducible assumption | assumption) (by first | with_reducible assumption | omega) (by first | with_reducible assumption | omega)) (csV_209 hts rfl rfl ⟨Nat.le_of_ble_eq_true rfl, Nat.le_of_ble_eq_true rfl⟩) (zPV2 (q0 := 0) (ci := 9) hPc hDc hK hXN rfl rfl) rfl rfl hl.1 rfl (lv_room (Nat.le_of_ble_eq_true rfl)) dX11_smooth_2 ⟨Nat.zero_le _, Nat.zero_le _⟩) hS hFc hFc rfl (fun t H locs ht hB hk1 hS => ?_)
  obtain ⟨hP1, hD1⟩ := hB
  rw [ht] at hP1
  replace hP := z0 hP hD hk1 hP1 hI1
  clear hk1 hPc hDc hFc hP1 hD1 ht hI1
  refine zz_i2 (wrN_s (st f)) (fun hs9 => ?_) (fun hs9 => ?_)
  · skip
    refine lv_istore_n (lv' := [(2, .int 0), (0, .ref k0), (1, .int (nI f))]) hx hb dX11_smooth_5 rfl hl (Nat.le_of_ble_eq_true rfl) rfl (fun ls hl => ?_)
    refine lv_iload_n hx hb dX11_smooth_6 rfl (lv_at hl 0 rfl) ?_
    refine lv_if_le (tgt := 14) hx hb dX11_smooth_7 rfl (fun c_1 => ?_) (fun c_1 => ?_)
    · refine lv_aload_n hx hb dX11_smooth_14 rfl (lv_at hl 1 rfl) ?_
      refine lv_iload_n hx hb dX11_smooth_15 rfl (lv_at hl 2 rfl) ?_
      obtain ⟨hPc, hDc, hFc, hI1⟩ := zi_sub (wc := [_, _]) hP hD hS hA [0, 1] rfl rfl
      refine zcall (st1 := [.int (pI (¬ (kd f).toInt = 0 ∧ ¬ (kd f).toInt = 6))]) (va_runV (As := [.int (nI f)]) (rest := []) ⟨hx, hb, hml, hown, hts⟩ (k_M_isPlainable l dC dI cI cZ cF H.size k0 a (upd I0 26 (nI ln)) J0 f kd (by first | with_reducible assumption | omega)) (csV_210 hts rfl rfl ⟨Nat.le_of_ble_eq_true rfl, Nat.le_of_ble_eq_true rfl⟩) (zPV2 (q0 := 0) (ci := 9) hPc hDc hK hXN rfl rfl) rfl rfl hl.1 rfl (lv_room (Nat.le_of_ble_eq_true rfl)) dX11_smooth_16 ⟨Nat.zero_le _, Nat.zero_le _⟩) hS hFc hFc rfl (fun t H locs ht hB hk1 hS => ?_)
      obtain ⟨hP1, hD1⟩ := hB
      rw [ht] at hP1
      replace hP := z0 hP hD hk1 hP1 hI1
      clear hk1 hPc hDc hFc hP1 hD1 ht hI1
      refine lv_if_ne (tgt := 26) hx hb dX11_smooth_19 rfl (fun c_2 => ?_) (fun c_2 => ?_)
      · have c_2 : ¬ (kd f).toInt = 0 ∧ ¬ (kd f).toInt = 6 := zp_1 c_2
        refine lv_aload_n hx hb dX11_smooth_26 rfl (lv_at hl 1 rfl) ?_
        refine va_get (D := (dC, dI)) (ci := 9) (v := .ref (a 6)) (C := RX11) (T := TX11) (N := 55) hx hb hts inX11 hown hK hP 0 rfl rfl 6 (Nat.le_of_ble_eq_true rfl) (hts _ mw_1165) (fun _ h9 => h9) rfl dX11_smooth_27 ?_
        refine lv_iload_n hx hb dX11_smooth_30 rfl (lv_at hl 2 rfl) ?_
        have b9_3 : f < 201 := by omega
        refine z_zald hx hb hK hP 10 1 rfl rfl (e := f) rfl b9_3 (Nat.le_of_ble_eq_true rfl) dX11_smooth_31 ?_
        refine lv_if_eq (tgt := 39) hx hb dX11_smooth_32 rfl (fun c_4 => ?_) (fun c_4 => ?_)
        · have c_4 : (tn f).toInt = 0 := zc_eq rfl rfl c_4
          refine lv_iconst (v := 0) hx hb dX11_smooth_39 rfl ?_
          refine lv_istore_n (lv' := [(2, .int 0), (0, .ref k0), (1, .int (nI f))]) hx hb dX11_smooth_40 rfl hl (Nat.le_of_ble_eq_true rfl) rfl (fun ls hl => ?_)
          refine lv_iload_n hx hb dX11_smooth_41 rfl (lv_at hl 0 rfl) ?_
          refine lv_if_le (tgt := 51) hx hb dX11_smooth_42 rfl (fun c_5 => ?_) (fun c_5 => ?_)
          · refine lv_aload_n hx hb dX11_smooth_51 rfl (lv_at hl 1 rfl) ?_
            refine lv_iload_n hx hb dX11_smooth_52 rfl (lv_at hl 2 rfl) ?_
            obtain ⟨hPc, hDc, hFc⟩ := zo_sub (wc := [_, _, _, _, _, _, _, _, _, _, _, _, _]) hP hD hS hA [0, 2, 10, 1, 11, 12, 13, 19, 23, 24, 25, 26, 27] (by decide +kernel) rfl
            refine zcall (st1 := []) (va_runV (As := [.int (nI f)]) (rest := []) ⟨hx, hb, hml, hown, hts⟩ (k_M_remember l dC dI cI cZ cF H.size k0 a (upd I0 26 (nI ln)) J0 f n ft st tn kd mn cx cy S0 ox oy mt wi ins (by first | with_reducible assumption | assumption) (by first | with_reducible assumption | omega) (by first | with_reducible assumption | omega) (by first | with_reducible assumption | assumption) (by first | with_reducible assumption | omega) (by first | with_reducible assumption | assumption) (fun q h1 _ => hwf q h1)) (csV_190 hts rfl rfl ⟨Nat.le_of_ble_eq_true rfl, Nat.le_of_ble_eq_true rfl⟩) (zPV2 (q0 := 0) (ci := 9) hPc hDc hK hXN rfl rfl) rfl rfl hl.1 rfl (lv_room (Nat.le_of_ble_eq_true rfl)) dX11_smooth_53 ⟨Nat.zero_le _, Nat.zero_le _⟩) hS hFc hFc rfl (fun t H locs ht hB hk1 hS => ?_)
            refine ex6 hB (fun S1 ox1 oy1 mt1 wi1 ins1 hB0 => ?_)
            clear hB
            obtain ⟨hox, hmt, hwi, hin, hP1, hD1⟩ := hB0
            rw [ht] at hP1
            obtain ⟨hP, hD⟩ := zn (W2 := [(om k0 a (upd (upd (upd I0 26 (nI ln)) 35 (nI n)) 36 (kd f)) J0), _, _, _, _, _, _, _, _, _, _, _, _, _, _, _, _, _, _, (oa (a 32) cI 8 S1), _, _, _, (oa (a 33) cI 42 ox1), (oa (a 34) cI 42 oy1), (oa (a 37) cZ 201 mt1), (oa (a 38) cZ 201 wi1), (oa (a 39) cZ 8040 ins1), _, _, _, _]) hP hD hk1 hFc hP1 hD1 zl_194 zl_195 zl_195 zl_194 (by decide +kernel) rfl rfl rfl rfl rfl
            clear hk1 hPc hDc hFc hP1 hD1 ht
            refine lv_iconst (v := 0) hx hb dX11_smooth_56 rfl ?_
            refine lv_istore_n (lv' := [(3, .int 0), (2, .int 0), (0, .ref k0), (1, .int (nI f))]) hx hb dX11_smooth_57 rfl hl (Nat.le_of_ble_eq_true rfl) rfl (fun ls hl => ?_)
            have hl_58 : ∀ (n9 : Nat) (k : Nat) (cx1 : Nat → Int32) (cy1 : Nat → Int32) (H : Heap) (locs : List Loc) (ls : Array Slot), n - k < n9 → (k ≤ n) → (cx1 = fgX f k (fun i => smv (pI (¬ 5 ≤ (kd f).toInt ∧ (i = 0 ∨ i = n - 1))) (cF40 cx f (prv n i)) (cF40 cx f i) (cF40 cx f (nxt n i))) cx) → (cy1 = fgX f k (fun i => smv (pI (¬ 5 ≤ (kd f).toInt ∧ (i = 0 ∨ i = n - 1))) (cF40 cy f (prv n i)) (cF40 cy f i) (cF40 cy f (nxt n i))) cy) → va_P (dC, dI) classes [(om k0 a (upd (upd (upd I0 26 (nI ln)) 35 (nI n)) 36 (kd f)) J0), (oa (a 1) cI 201 kd), (oa (a 5) cI 201 st), (oa (a 7) cI 201 gb), (oa (a 10) cI 201 it), (oa (a 8) cI 201 pa), (oa (a 9) cI 201 pb), (oa (a 2) cI 201 rk), (oa (a 3) cI 201 wd), (oa (a 4) cI 201 tw), (oa (a 6) cZ 201 tn), (oa (a 11) cI 201 mn), (oa (a 12) cI 8040 cx1), (oa (a 13) cI 8040 cy1), (oa (a 27) cI 516 sa), (oa (a 28) cI (4096 * cp) sh), (oa (a 16) cI 514 wh), (oa (a 17) cI 514 of9), (oa (a 18) cI 514 we), (oa (a 32) cI 8 S1), (oa (a 40) cI 6 T0), (oa (a 29) cI 42 P0), (oa (a 30) cI 42 Q0), (oa (a 33) cI 42 ox1), (oa (a 34) cI 42 oy1), (oa (a 37) cZ 201 mt1), (oa (a 38) cZ 201 wi1), (oa (a 39) cZ 8040 ins1), (oa (a 22) cI (64 * cl) la), (oa (a 23) cI (64 * cl) lb), (oa (a 24) cI (64 * cl) lc), (oa (a 25) cI (64 * cl) ld)] H → va_D A [(om k0 a (upd (upd (upd I0 26 (nI ln)) 35 (nI n)) 36 (kd f)) J0), (oa (a 1) cI 201 kd), (oa (a 5) cI 201 st), (oa (a 7) cI 201 gb), (oa (a 10) cI 201 it), (oa (a 8) cI 201 pa), (oa (a 9) cI 201 pb), (oa (a 2) cI 201 rk), (oa (a 3) cI 201 wd), (oa (a 4) cI 201 tw), (oa (a 6) cZ 201 tn), (oa (a 11) cI 201 mn), (oa (a 12) cI 8040 cx1), (oa (a 13) cI 8040 cy1), (oa (a 27) cI 516 sa), (oa (a 28) cI (4096 * cp) sh), (oa (a 16) cI 514 wh), (oa (a 17) cI 514 of9), (oa (a 18) cI 514 we), (oa (a 32) cI 8 S1), (oa (a 40) cI 6 T0), (oa (a 29) cI 42 P0), (oa (a 30) cI 42 Q0), (oa (a 33) cI 42 ox1), (oa (a 34) cI 42 oy1), (oa (a 37) cZ 201 mt1), (oa (a 38) cZ 201 wi1), (oa (a 39) cZ 8040 ins1), (oa (a 22) cI (64 * cl) la), (oa (a 23) cI (64 * cl) lb), (oa (a 24) cI (64 * cl) lc), (oa (a 25) cI (64 * cl) ld)] → va_S A s.heap H locs → lv_has ls 6 [(3, .int (nI k)), (2, .int 0), (0, .ref k0), (1, .int (nI f))] → W p l e ({ frames := 8, cells := c2 - cp, slots := 8192 * (c2 - cp), locals := 210 } : Room) s m ([.ref k0, .int (nI f)] : List Value).toArray below meth c H locs 0 0 Q9 (F0 m 58 ls []) := by
              intro n9
              induction n9 with
              | zero => intro k cx1 cy1 H locs ls hm; exact absurd hm (Nat.not_lt_zero _)
              | succ n9 ih_58 =>
                intro k cx1 cy1 H locs ls hm hk hcx hcy hP hD hS hl
                refine lv_iload_n hx hb dX11_smooth_58 rfl (lv_at hl 0 rfl) ?_
                refine lv_aload_n hx hb dX11_smooth_59 rfl (lv_at hl 2 rfl) ?_
                refine va_get (D := (dC, dI)) (ci := 9) (v := .int (nI n)) (C := RX11) (T := TX11) (N := 55) hx hb hts inX11 hown hK hP 0 rfl rfl 35 (Nat.le_of_ble_eq_true rfl) (hts _ mw_1194) (fun _ h9 => h9) rfl dX11_smooth_60 ?_
                have b9_7 : zlt (k) := show k < 2147483648 by omega
                have b9_8 : zlt (n) := show n < 2147483648 by omega
                refine lv_icmp_ge (tgt := 208) hx hb dX11_smooth_63 rfl (fun c_6 => ?_) (fun c_6 => ?_)
                · have c_6 : ((n : Nat) : Int) ≤ ((k : Nat) : Int) := zc_le (nI_toInt b9_8) (nI_toInt b9_7) c_6
                  have hkn : k = n := (by omega)
                  rw [hkn] at hcx hcy
                  refine lv_aload_n hx hb dX11_smooth_208 rfl (lv_at hl 2 rfl) ?_
                  refine lv_iload_n hx hb dX11_smooth_209 rfl (lv_at hl 3 rfl) ?_
                  obtain ⟨hPc, hDc, hFc, hI1⟩ := zi_sub (wc := [_, _, _, _, _]) hP hD hS hA [0, 12, 13, 23, 24] (by decide +kernel) rfl
                  refine zcall (st1 := [.int (pI (∃ k, k < n ∧ ¬ ((cx1 (40 * f + k)).toInt = (ox1 k).toInt ∧ (cy1 (40 * f + k)).toInt = (oy1 k).toInt)))]) (va_runV (As := [.int (nI f)]) (rest := []) ⟨hx, hb, hml, hown, hts⟩ (k_M_moves l dC dI cI cZ cF H.size k0 a (upd (upd (upd I0 26 (nI ln)) 35 (nI n)) 36 (kd f)) J0 f n cx1 cy1 ox1 oy1 (by first | with_reducible assumption | omega) (rfl) (by first | with_reducible assumption | omega)) (csV_211 hts rfl rfl ⟨Nat.le_of_ble_eq_true rfl, Nat.le_of_ble_eq_true rfl⟩) (zPV2 (q0 := 0) (ci := 9) hPc hDc hK hXN rfl rfl) rfl rfl hl.1 rfl (lv_room (Nat.le_of_ble_eq_true rfl)) dX11_smooth_210 ⟨Nat.zero_le _, Nat.zero_le _⟩) hS hFc hFc rfl (fun t H locs ht hB hk1 hS => ?_)
                  obtain ⟨hP1, hD1⟩ := hB
                  rw [ht] at hP1
                  replace hP := z0 hP hD hk1 hP1 hI1
                  clear hk1 hPc hDc hFc hP1 hD1 ht hI1
                  refine zz_i (v := pI (mvd n (fun i => smv (pI (¬ 5 ≤ (kd f).toInt ∧ (i = 0 ∨ i = n - 1))) (cF40 cx f (prv n i)) (cF40 cx f i) (cF40 cx f (nxt n i))) (fun i => smv (pI (¬ 5 ≤ (kd f).toInt ∧ (i = 0 ∨ i = n - 1))) (cF40 cy f (prv n i)) (cF40 cy f i) (cF40 cy f (nxt n i))) (cF40 cx f) (cF40 cy f))) (zp_iff (mv_iff hcx hcy hox)) ?_
                  refine lv_if_ne (tgt := 223) hx hb dX11_smooth_213 rfl (fun c_9 => ?_) (fun c_9 => ?_)
                  · have c_9 : mvd n (fun i => smv (pI (¬ 5 ≤ (kd f).toInt ∧ (i = 0 ∨ i = n - 1))) (cF40 cx f (prv n i)) (cF40 cx f i) (cF40 cx f (nxt n i))) (fun i => smv (pI (¬ 5 ≤ (kd f).toInt ∧ (i = 0 ∨ i = n - 1))) (cF40 cy f (prv n i)) (cF40 cy f i) (cF40 cy f (nxt n i))) (cF40 cx f) (cF40 cy f) := zp_1 c_9
                    refine lv_aload_n hx hb dX11_smooth_223 rfl (lv_at hl 2 rfl) ?_
                    refine lv_iload_n hx hb dX11_smooth_224 rfl (lv_at hl 3 rfl) ?_
                    refine lv_iconst (v := 2) hx hb dX11_smooth_225 rfl ?_
                    refine zz_i (v := nI 2) (rfl) ?_
                    have hbx : fgX f n ox1 cx1 = cx := (by rw [hcx]; exact fgX_back (fun k9 h9 => (hox k9 h9).1))
                    have hby : fgX f n oy1 cy1 = cy := (by rw [hcy]; exact fgX_back (fun k9 h9 => (hox k9 h9).2))
                    have hlq := lwM_eq (ft := ft) (st := st) (tn := tn) (kd := kd) (mn := mn) hn_f.1 hcx hcy hox
                    have hpo : pls n ox1 oy1 := fun j hj => by rw [(hox j hj).1, (hox j hj).2]; exact hp_f j hj
                    have hwf2 : ∀ q, lvF ft st tn q → q ≠ f → wfM mn cx1 cy1 q := fun q h1 h2 => wfM_o (hwf q h1) h2 (fun _ _ => rfl) (fun j hj => by rw [hcx, hcy]; exact ⟨fgX_o (by omega), fgX_o (by omega)⟩)
                    obtain ⟨hPc, hDc, hFc⟩ := zo_sub (wc := [_, _, _, _, _, _, _, _, _, _, _, _, _, _, _, _, _, _, _, _, _, _, _, _, _, _, _, _, _, _, _, _]) hP hD hS hA [0, 1, 2, 3, 4, 5, 6, 7, 8, 9, 10, 11, 12, 13, 14, 15, 16, 17, 18, 19, 20, 21, 22, 23, 24, 25, 26, 27, 28, 29, 30, 31] (by decide +kernel) rfl
                    refine zcall (st1 := [.int 1]) (va_runV (As := [.int (nI f), .int (nI 2)]) (rest := []) ⟨hx, hb, hml, hown, hts⟩ (k_M_changes_my l dC dI cI cZ cF H.size k0 a (upd (upd (upd I0 26 (nI ln)) 35 (nI n)) 36 (kd f)) J0 f n ft n (kd f) 2 kd st gb it pa pb rk wd tw tn mn cx1 cy1 sa sh wh of9 we S1 T0 P0 Q0 ox1 oy1 mt1 wi1 ins1 la lb lc ld (bMt kd mn cx cy f n) (bWi kd mn cx cy f) (bIn kd cx cy f n) dn bs w0 cp c1 c2 ln cl (hft) (by first | with_reducible assumption | omega) (by first | with_reducible assumption | omega) (hm_f) (by first | with_reducible assumption | omega) (hwf2) (by first | with_reducible assumption | omega) (by first | with_reducible assumption | omega) (hpo) (hmt) (fun q h1 h2 h5 => by rw [hwi q h1 h2]; exact zp_iff ⟨fun h => h.2, fun h => ⟨h5, h⟩⟩) (fun q h1 h2 i hi h5 => hin q h1 h2 h5 i hi) (by first | with_reducible assumption | omega) (rfl) (hft_f) (hdn) (hbs) (by first | with_reducible assumption | omega) (by first | with_reducible assumption | omega) (hi5_1) (hsa_1) (by rw [hum]; exact hmn_1) (hc1_1) (hpw_1) (hw0_1) (by rw [hum]; exact hfit_1) (by rw [hum]; exact hmin_1) (hcE_1) (hmn_1) (hpw_2) (by rw [hum]; exact hfit_2) (by rw [hum]; exact hmin_2) (hcE_2) (fun j h1 h2 => by omega) (hlc) (hcl1) (hclm) (trivial) (by rw [hlq]; exact hlaw)) (csV_212 hts rfl rfl ⟨Nat.le_of_ble_eq_true rfl, Nat.le_of_ble_eq_true rfl⟩) (zPV2 (q0 := 0) (ci := 9) hPc hDc hK hXN rfl rfl) rfl rfl hl.1 rfl (lv_room (Nat.le_of_ble_eq_true rfl)) dX11_smooth_226 ⟨show (0 + (c2 - cp)) ≤ c2 - cp by omega, show (0 + (8192 * (c2 - cp))) ≤ 8192 * (c2 - cp) by omega⟩) hS hFc hFc rfl (fun t H locs ht hB hk1 hS => ?_)
                    refine ex12 hB (fun z8 b2 sh2 t9 S2 T2 P2 Q2 la1 lb1 lc1 ld1 hB0 => ?_)
                    clear hB
                    obtain ⟨p0, p1, p2, p3, p4, p5, p6, hP1, hD1⟩ := hB0
                    rw [ht] at hP1
                    obtain ⟨hP, hD⟩ := zn (W2 := [(om k0 (va_up a 28 b2) (upd (upd (upd (upd (upd (upd (upd (upd I0 14 0) 19 (nI (dn + 1))) 20 0) 26 (nI t9)) 31 z8) 35 (nI n)) 36 (kd f)) 41 (nI (psN (nnF st tn mn) (psN (nnF st tn (upd mn f (nI n))) w0 ft) ft))) J0), (oa (a 1) cI 201 kd), (oa (a 5) cI 201 st), (oa (a 7) cI 201 gb), (oa (a 10) cI 201 it), (oa (a 8) cI 201 pa), (oa (a 9) cI 201 pb), (oa (a 2) cI 201 rk), (oa (a 3) cI 201 wd), (oa (a 4) cI 201 tw), (oa (a 6) cZ 201 tn), (oa (a 11) cI 201 mn), (oa (a 12) cI 8040 cx1), (oa (a 13) cI 8040 cy1), (oa (a 27) cI 516 (upd (upd sa (dn - bs + 1) (nI (psN (nnF st tn (upd mn f (nI n))) w0 ft))) (dn + 1 - bs + 1) (nI (psN (nnF st tn mn) (psN (nnF st tn (upd mn f (nI n))) w0 ft) ft)))), (oa b2 cI (4096 * c2) sh2), (oa (a 16) cI 514 (upd wh (dn + 1) (nI 2))), (oa (a 17) cI 514 (upd of9 (dn + 1) (nI f))), (oa (a 18) cI 514 (upd we (dn + 1) (0 : Int32))), (oa (a 32) cI 8 S2), (oa (a 40) cI 6 T2), (oa (a 29) cI 42 P2), (oa (a 30) cI 42 Q2), (oa (a 33) cI 42 ox1), (oa (a 34) cI 42 oy1), (oa (a 37) cZ 201 mt1), (oa (a 38) cZ 201 wi1), (oa (a 39) cZ 8040 ins1), (oa (a 22) cI (64 * cl) la1), (oa (a 23) cI (64 * cl) lb1), (oa (a 24) cI (64 * cl) lc1), (oa (a 25) cI (64 * cl) ld1)]) hP hD hk1 hFc hP1 hD1 zl_196 [] zl_197 zl_196 (by decide +kernel) rfl rfl rfl rfl rfl
                    clear hk1 hPc hDc hFc hP1 hD1 ht
                    obtain ⟨hP9, hD9⟩ := zu_sub (wc := [(om k0 (va_up a 28 b2) (upd (upd (upd (upd (upd (upd (upd (upd I0 14 0) 19 (nI (dn + 1))) 20 0) 26 (nI t9)) 31 z8) 35 (nI n)) 36 (kd f)) 41 (nI (psN (nnF st tn mn) (psN (nnF st tn (upd mn f (nI n))) w0 ft) ft))) J0), (oa (a 1) cI 201 kd), (oa (a 5) cI 201 st), (oa (a 7) cI 201 gb), (oa (a 10) cI 201 it), (oa (a 8) cI 201 pa), (oa (a 9) cI 201 pb), (oa (a 2) cI 201 rk), (oa (a 3) cI 201 wd), (oa (a 4) cI 201 tw), (oa (a 6) cZ 201 tn), (oa (a 11) cI 201 mn), (oa (a 12) cI 8040 cx1), (oa (a 13) cI 8040 cy1), (oa (a 27) cI 516 (upd (upd sa (dn - bs + 1) (nI (psN (nnF st tn (upd mn f (nI n))) w0 ft))) (dn + 1 - bs + 1) (nI (psN (nnF st tn mn) (psN (nnF st tn (upd mn f (nI n))) w0 ft) ft)))), (oa b2 cI (4096 * c2) sh2), (oa (a 16) cI 514 (upd wh (dn + 1) (nI 2))), (oa (a 17) cI 514 (upd of9 (dn + 1) (nI f))), (oa (a 18) cI 514 (upd we (dn + 1) (0 : Int32))), (oa (a 32) cI 8 S2), (oa (a 40) cI 6 T2), (oa (a 29) cI 42 P2), (oa (a 30) cI 42 Q2), (oa (a 33) cI 42 ox1), (oa (a 34) cI 42 oy1), (oa (a 37) cZ 201 mt1), (oa (a 38) cZ 201 wi1), (oa (a 39) cZ 8040 ins1), (oa (a 22) cI (64 * cl) la1), (oa (a 23) cI (64 * cl) lb1), (oa (a 24) cI (64 * cl) lc1), (oa (a 25) cI (64 * cl) ld1)]) hP hD (true :: true :: true :: true :: true :: true :: true :: true :: true :: true :: true :: true :: true :: true :: true :: true :: true :: true :: true :: true :: true :: true :: true :: true :: true :: true :: true :: true :: true :: true :: true :: true :: []) rfl rfl
                    have hE9 : ([(om k0 (va_up a 28 b2) (upd (upd (upd (upd (upd (upd (upd (upd I0 14 0) 19 (nI (dn + 1))) 20 0) 26 (nI t9)) 31 z8) 35 (nI n)) 36 (kd f)) 41 (nI (psN (nnF st tn mn) (psN (nnF st tn (upd mn f (nI n))) w0 ft) ft))) J0), (oa (a 1) cI 201 kd), (oa (a 5) cI 201 st), (oa (a 7) cI 201 gb), (oa (a 10) cI 201 it), (oa (a 8) cI 201 pa), (oa (a 9) cI 201 pb), (oa (a 2) cI 201 rk), (oa (a 3) cI 201 wd), (oa (a 4) cI 201 tw), (oa (a 6) cZ 201 tn), (oa (a 11) cI 201 mn), (oa (a 12) cI 8040 cx1), (oa (a 13) cI 8040 cy1), (oa (a 27) cI 516 (upd (upd sa (dn - bs + 1) (nI (psN (nnF st tn (upd mn f (nI n))) w0 ft))) (dn + 1 - bs + 1) (nI (psN (nnF st tn mn) (psN (nnF st tn (upd mn f (nI n))) w0 ft) ft)))), (oa b2 cI (4096 * c2) sh2), (oa (a 16) cI 514 (upd wh (dn + 1) (nI 2))), (oa (a 17) cI 514 (upd of9 (dn + 1) (nI f))), (oa (a 18) cI 514 (upd we (dn + 1) (0 : Int32))), (oa (a 32) cI 8 S2), (oa (a 40) cI 6 T2), (oa (a 29) cI 42 P2), (oa (a 30) cI 42 Q2), (oa (a 33) cI 42 ox1), (oa (a 34) cI 42 oy1), (oa (a 37) cZ 201 mt1), (oa (a 38) cZ 201 wi1), (oa (a 39) cZ 8040 ins1), (oa (a 22) cI (64 * cl) la1), (oa (a 23) cI (64 * cl) lb1), (oa (a 24) cI (64 * cl) lc1), (oa (a 25) cI (64 * cl) ld1)] : va_W) = [(om k0 (va_up a 28 b2) (upd (upd (upd (upd (upd (upd (upd (upd I0 14 0) 19 (nI (dn + 1))) 20 0) 26 (nI t9)) 31 z8) 35 (nI n)) 36 (kd f)) 41 (nI (psN (nnF st tn mn) (psN (nnF st tn mn) w0 ft) ft))) J0), (oa (a 1) cI 201 kd), (oa (a 5) cI 201 st), (oa (a 7) cI 201 gb), (oa (a 10) cI 201 it), (oa (a 8) cI 201 pa), (oa (a 9) cI 201 pb), (oa (a 2) cI 201 rk), (oa (a 3) cI 201 wd), (oa (a 4) cI 201 tw), (oa (a 6) cZ 201 tn), (oa (a 11) cI 201 mn), (oa (a 12) cI 8040 (fgX f n (fun i => smv (pI (¬ 5 ≤ (kd f).toInt ∧ (i = 0 ∨ i = n - 1))) (cF40 cx f (prv n i)) (cF40 cx f i) (cF40 cx f (nxt n i))) cx)), (oa (a 13) cI 8040 (fgX f n (fun i => smv (pI (¬ 5 ≤ (kd f).toInt ∧ (i = 0 ∨ i = n - 1))) (cF40 cy f (prv n i)) (cF40 cy f i) (cF40 cy f (nxt n i))) cy)), (oa (a 27) cI 516 (upd (upd sa (dn - bs + 1) (nI (psN (nnF st tn mn) w0 ft))) (dn + 1 - bs + 1) (nI (psN (nnF st tn mn) (psN (nnF st tn mn) w0 ft) ft)))), (oa b2 cI (4096 * c2) sh2), (oa (a 16) cI 514 (upd wh (dn + 1) (nI 2))), (oa (a 17) cI 514 (upd of9 (dn + 1) (nI f))), (oa (a 18) cI 514 (upd we (dn + 1) (0 : Int32))), (oa (a 32) cI 8 S2), (oa (a 40) cI 6 T2), (oa (a 29) cI 42 P2), (oa (a 30) cI 42 Q2), (oa (a 33) cI 42 ox1), (oa (a 34) cI 42 oy1), (oa (a 37) cZ 201 mt1), (oa (a 38) cZ 201 wi1), (oa (a 39) cZ 8040 ins1), (oa (a 22) cI (64 * cl) la1), (oa (a 23) cI (64 * cl) lb1), (oa (a 24) cI (64 * cl) lc1), (oa (a 25) cI (64 * cl) ld1)] := by rw [hum, hcx, hcy]
                    rw [hE9] at hP9 hD9
                    refine W.widen (k := c2 - cp) (n := 8192 * (c2 - cp)) (by omega) (by omega) ?_
                    rw [hQ9]
                    exact W.zret (ty := .boolean) (v := 1) hx hb hr (rfl) (fun t ht hW => ⟨⟨rfl, z8, b2, sh2, t9, S2, T2, P2, Q2, ox1, oy1, mt1, wi1, ins1, la1, lb1, lc1, ld1, (p0), (p1), (by have h9 := p2; rw [hum, huk, hbx, hby] at h9; exact h9), (by have h9 := p3; rw [hum] at h9; exact h9), (by have h9 := p4; rw [hum, hcx, hcy] at h9; exact h9), (p5), (p6), by rw [ht]; exact hP9, hD9⟩, hS.F ht⟩) hS.2.2 dX11_smooth_229
                  · have c_9 : ¬ (mvd n (fun i => smv (pI (¬ 5 ≤ (kd f).toInt ∧ (i = 0 ∨ i = n - 1))) (cF40 cx f (prv n i)) (cF40 cx f i) (cF40 cx f (nxt n i))) (fun i => smv (pI (¬ 5 ≤ (kd f).toInt ∧ (i = 0 ∨ i = n - 1))) (cF40 cy f (prv n i)) (cF40 cy f i) (cF40 cy f (nxt n i))) (cF40 cx f) (cF40 cy f)) := zp_0 c_9
                    exfalso; exact absurd hmv (by first | with_reducible assumption | assumption)
                · have c_6 : ((k : Nat) : Int) < ((n : Nat) : Int) := zc_nle (nI_toInt b9_8) (nI_toInt b9_7) c_6
                  have hk9 : k < n := (by omega)
                  have hpv := prv_lt (n := n) (i := k) hk9
                  have hnx := nxt_lt (n := n) (i := k) (by omega)
                  refine lv_aload_n hx hb dX11_smooth_66 rfl (lv_at hl 2 rfl) ?_
                  refine lv_iload_n hx hb dX11_smooth_67 rfl (lv_at hl 3 rfl) ?_
                  obtain ⟨hPc, hDc, hFc, hI1⟩ := zi_sub (wc := [_, _]) hP hD hS hA [0, 1] rfl rfl
                  refine zcall (st1 := [.int (pI (5 ≤ (kd f).toInt))]) (va_runV (As := [.int (nI f)]) (rest := []) ⟨hx, hb, hml, hown, hts⟩ (k_M_isRing l dC dI cI cZ cF H.size k0 a (upd (upd (upd I0 26 (nI ln)) 35 (nI n)) 36 (kd f)) J0 f kd (by first | with_reducible assumption | omega)) (csV_165 hts rfl rfl ⟨Nat.le_of_ble_eq_true rfl, Nat.le_of_ble_eq_true rfl⟩) (zPV2 (q0 := 0) (ci := 9) hPc hDc hK hXN rfl rfl) rfl rfl hl.1 rfl (lv_room (Nat.le_of_ble_eq_true rfl)) dX11_smooth_68 ⟨Nat.zero_le _, Nat.zero_le _⟩) hS hFc hFc rfl (fun t H locs ht hB hk1 hS => ?_)
                  obtain ⟨hP1, hD1⟩ := hB
                  rw [ht] at hP1
                  replace hP := z0 hP hD hk1 hP1 hI1
                  clear hk1 hPc hDc hFc hP1 hD1 ht hI1
                  refine lv_if_ne (tgt := 91) hx hb dX11_smooth_71 rfl (fun c_10 => ?_) (fun c_10 => ?_)
                  · have c_10 : 5 ≤ (kd f).toInt := zp_1 c_10
                    have hj_11 : W p l e ({ frames := 8, cells := c2 - cp, slots := 8192 * (c2 - cp), locals := 210 } : Room) s m ([.ref k0, .int (nI f)] : List Value).toArray below meth c H locs 0 0 Q9 (F0 m 107 ls [.int (nI (prv n k))]) := by
                      refine lv_istore (lv' := [(4, .int (nI (prv n k))), (3, .int (nI k)), (2, .int 0), (0, .ref k0), (1, .int (nI f))]) hx hb dX11_smooth_107 hl (Nat.le_of_ble_eq_true rfl) rfl (fun ls hl => ?_)
                      have hj_12 : W p l e ({ frames := 8, cells := c2 - cp, slots := 8192 * (c2 - cp), locals := 210 } : Room) s m ([.ref k0, .int (nI f)] : List Value).toArray below meth c H locs 0 0 Q9 (F0 m 126 ls [.int (nI (nxt n k))]) := by
                        refine lv_istore (lv' := [(5, .int (nI (nxt n k))), (4, .int (nI (prv n k))), (3, .int (nI k)), (2, .int 0), (0, .ref k0), (1, .int (nI f))]) hx hb dX11_smooth_126 hl (Nat.le_of_ble_eq_true rfl) rfl (fun ls hl => ?_)
                        refine lv_aload_n hx hb dX11_smooth_128 rfl (lv_at hl 4 rfl) ?_
                        refine va_get (D := (dC, dI)) (ci := 9) (v := .ref (a 12)) (C := RX11) (T := TX11) (N := 55) hx hb hts inX11 hown hK hP 0 rfl rfl 12 (Nat.le_of_ble_eq_true rfl) (hts _ mw_1171) (fun _ h9 => h9) rfl dX11_smooth_129 ?_
                        refine lv_bipush (v := 40) hx hb dX11_smooth_132 rfl ?_
                        refine lv_iload_n hx hb dX11_smooth_134 rfl (lv_at hl 5 rfl) ?_
                        refine lv_imul hx hb dX11_smooth_135 ?_
                        refine zz_i (v := nI (40 * f)) (pk_mul 40 f) ?_
                        refine lv_iload_n hx hb dX11_smooth_136 rfl (lv_at hl 2 rfl) ?_
                        refine lv_iadd hx hb dX11_smooth_137 ?_
                        refine zz_i (v := nI (40 * f + k)) (nI_add (40 * f) k) ?_
                        refine lv_aload_n hx hb dX11_smooth_138 rfl (lv_at hl 4 rfl) ?_
                        refine va_get (D := (dC, dI)) (ci := 9) (v := .ref (a 33)) (C := RX11) (T := TX11) (N := 55) hx hb hts inX11 hown hK hP 0 rfl rfl 33 (Nat.le_of_ble_eq_true rfl) (hts _ mw_1192) (fun _ h9 => h9) rfl dX11_smooth_139 ?_
                        refine lv_iload hx hb dX11_smooth_142 (lv_at hl 1 rfl) ?_
                        have b9_13 : prv n k < 42 := by omega
                        refine z_iald hx hb hK hP 23 0 rfl rfl (e := prv n k) rfl b9_13 (Nat.le_of_ble_eq_true rfl) dX11_smooth_144 ?_
                        refine zz_i (v := cF40 cx f (prv n k)) ((hox _ hpv).1) ?_
                        refine lv_iconst (v := 2) hx hb dX11_smooth_145 rfl ?_
                        refine lv_aload_n hx hb dX11_smooth_146 rfl (lv_at hl 4 rfl) ?_
                        refine va_get (D := (dC, dI)) (ci := 9) (v := .ref (a 33)) (C := RX11) (T := TX11) (N := 55) hx hb hts inX11 hown hK hP 0 rfl rfl 33 (Nat.le_of_ble_eq_true rfl) (hts _ mw_1192) (fun _ h9 => h9) rfl dX11_smooth_147 ?_
                        refine lv_iload_n hx hb dX11_smooth_150 rfl (lv_at hl 2 rfl) ?_
                        have b9_14 : k < 42 := by omega
                        refine z_iald hx hb hK hP 23 0 rfl rfl (e := k) rfl b9_14 (Nat.le_of_ble_eq_true rfl) dX11_smooth_151 ?_
                        refine zz_i (v := cF40 cx f k) ((hox _ hk9).1) ?_
                        refine lv_imul hx hb dX11_smooth_152 ?_
                        refine lv_iadd hx hb dX11_smooth_153 ?_
                        refine lv_aload_n hx hb dX11_smooth_154 rfl (lv_at hl 4 rfl) ?_
                        refine va_get (D := (dC, dI)) (ci := 9) (v := .ref (a 33)) (C := RX11) (T := TX11) (N := 55) hx hb hts inX11 hown hK hP 0 rfl rfl 33 (Nat.le_of_ble_eq_true rfl) (hts _ mw_1192) (fun _ h9 => h9) rfl dX11_smooth_155 ?_
                        refine lv_iload hx hb dX11_smooth_158 (lv_at hl 0 rfl) ?_
                        have b9_15 : nxt n k < 42 := by omega
                        refine z_iald hx hb hK hP 23 0 rfl rfl (e := nxt n k) rfl b9_15 (Nat.le_of_ble_eq_true rfl) dX11_smooth_160 ?_
                        refine zz_i (v := cF40 cx f (nxt n k)) ((hox _ hnx).1) ?_
                        refine lv_iadd hx hb dX11_smooth_161 ?_
                        refine lv_iconst (v := 4) hx hb dX11_smooth_162 rfl ?_
                        refine lv_idiv hx hb dX11_smooth_163 (by decide) ?_
                        have b9_16 : 40 * f + k < 8040 := by omega
                        refine z_iast hx hb hK hP hD hS 12 0 rfl rfl (e := 40 * f + k) (x := (((cF40 cx f (prv n k)) + (2 * (cF40 cx f k))) + (cF40 cx f (nxt n k))) / 4) rfl b9_16 (Nat.le_of_ble_eq_true rfl) dX11_smooth_164 (fun H locs hP hD hS => ?_)
                        obtain ⟨hP, hD⟩ := zre (W2 := [_, _, _, _, _, _, _, _, _, _, _, _, (oa (a 12) cI 8040 (upd cx1 (40 * f + k) ((((cF40 cx f (prv n k)) + (2 * (cF40 cx f k))) + (cF40 cx f (nxt n k))) / 4))), _, _, _, _, _, _, _, _, _, _, _, _, _, _, _, _, _, _, _]) hP hD rfl
                        refine lv_aload_n hx hb dX11_smooth_165 rfl (lv_at hl 4 rfl) ?_
                        refine va_get (D := (dC, dI)) (ci := 9) (v := .ref (a 13)) (C := RX11) (T := TX11) (N := 55) hx hb hts inX11 hown hK hP 0 rfl rfl 13 (Nat.le_of_ble_eq_true rfl) (hts _ mw_1172) (fun _ h9 => h9) rfl dX11_smooth_166 ?_
                        refine lv_bipush (v := 40) hx hb dX11_smooth_169 rfl ?_
                        refine lv_iload_n hx hb dX11_smooth_171 rfl (lv_at hl 5 rfl) ?_
                        refine lv_imul hx hb dX11_smooth_172 ?_
                        refine zz_i (v := nI (40 * f)) (pk_mul 40 f) ?_
                        refine lv_iload_n hx hb dX11_smooth_173 rfl (lv_at hl 2 rfl) ?_
                        refine lv_iadd hx hb dX11_smooth_174 ?_
                        refine zz_i (v := nI (40 * f + k)) (nI_add (40 * f) k) ?_
                        refine lv_aload_n hx hb dX11_smooth_175 rfl (lv_at hl 4 rfl) ?_
                        refine va_get (D := (dC, dI)) (ci := 9) (v := .ref (a 34)) (C := RX11) (T := TX11) (N := 55) hx hb hts inX11 hown hK hP 0 rfl rfl 34 (Nat.le_of_ble_eq_true rfl) (hts _ mw_1193) (fun _ h9 => h9) rfl dX11_smooth_176 ?_
                        refine lv_iload hx hb dX11_smooth_179 (lv_at hl 1 rfl) ?_
                        refine z_iald hx hb hK hP 24 0 rfl rfl (e := prv n k) rfl b9_13 (Nat.le_of_ble_eq_true rfl) dX11_smooth_181 ?_
                        refine zz_i (v := cF40 cy f (prv n k)) ((hox _ hpv).2) ?_
                        refine lv_iconst (v := 2) hx hb dX11_smooth_182 rfl ?_
                        refine lv_aload_n hx hb dX11_smooth_183 rfl (lv_at hl 4 rfl) ?_
                        refine va_get (D := (dC, dI)) (ci := 9) (v := .ref (a 34)) (C := RX11) (T := TX11) (N := 55) hx hb hts inX11 hown hK hP 0 rfl rfl 34 (Nat.le_of_ble_eq_true rfl) (hts _ mw_1193) (fun _ h9 => h9) rfl dX11_smooth_184 ?_
                        refine lv_iload_n hx hb dX11_smooth_187 rfl (lv_at hl 2 rfl) ?_
                        refine z_iald hx hb hK hP 24 0 rfl rfl (e := k) rfl b9_14 (Nat.le_of_ble_eq_true rfl) dX11_smooth_188 ?_
                        refine zz_i (v := cF40 cy f k) ((hox _ hk9).2) ?_
                        refine lv_imul hx hb dX11_smooth_189 ?_
                        refine lv_iadd hx hb dX11_smooth_190 ?_
                        refine lv_aload_n hx hb dX11_smooth_191 rfl (lv_at hl 4 rfl) ?_
                        refine va_get (D := (dC, dI)) (ci := 9) (v := .ref (a 34)) (C := RX11) (T := TX11) (N := 55) hx hb hts inX11 hown hK hP 0 rfl rfl 34 (Nat.le_of_ble_eq_true rfl) (hts _ mw_1193) (fun _ h9 => h9) rfl dX11_smooth_192 ?_
                        refine lv_iload hx hb dX11_smooth_195 (lv_at hl 0 rfl) ?_
                        refine z_iald hx hb hK hP 24 0 rfl rfl (e := nxt n k) rfl b9_15 (Nat.le_of_ble_eq_true rfl) dX11_smooth_197 ?_
                        refine zz_i (v := cF40 cy f (nxt n k)) ((hox _ hnx).2) ?_
                        refine lv_iadd hx hb dX11_smooth_198 ?_
                        refine lv_iconst (v := 4) hx hb dX11_smooth_199 rfl ?_
                        refine lv_idiv hx hb dX11_smooth_200 (by decide) ?_
                        refine z_iast hx hb hK hP hD hS 13 0 rfl rfl (e := 40 * f + k) (x := (((cF40 cy f (prv n k)) + (2 * (cF40 cy f k))) + (cF40 cy f (nxt n k))) / 4) rfl b9_16 (Nat.le_of_ble_eq_true rfl) dX11_smooth_201 (fun H locs hP hD hS => ?_)
                        obtain ⟨hP, hD⟩ := zre (W2 := [_, _, _, _, _, _, _, _, _, _, _, _, _, (oa (a 13) cI 8040 (upd cy1 (40 * f + k) ((((cF40 cy f (prv n k)) + (2 * (cF40 cy f k))) + (cF40 cy f (nxt n k))) / 4))), _, _, _, _, _, _, _, _, _, _, _, _, _, _, _, _, _, _]) hP hD rfl
                        refine lv_iinc (v := nI (k + 1)) (lv' := [(3, .int (nI (k + 1))), (5, .int (nI (nxt n k))), (4, .int (nI (prv n k))), (2, .int 0), (0, .ref k0), (1, .int (nI f))]) hx hb dX11_smooth_202 hl (k := 2) rfl (nI_add k 1) (Nat.le_of_ble_eq_true rfl) rfl (fun ls hl => ?_)
                        refine lv_goto (tgt := 58) hx hb dX11_smooth_205 rfl ?_
                        exact ih_58 (k + 1) (upd cx1 (40 * f + k) ((((cF40 cx f (prv n k)) + (2 * (cF40 cx f k))) + (cF40 cx f (nxt n k))) / 4)) (upd cy1 (40 * f + k) ((((cF40 cy f (prv n k)) + (2 * (cF40 cy f k))) + (cF40 cy f (nxt n k))) / 4)) H locs ls (by first | with_reducible assumption | omega) (by first | with_reducible assumption | omega) (by first | exact fgX_u hcx (smv_f (by first | with_reducible assumption | omega)) | exact fgX_k hcx (smv_t (by first | with_reducible assumption | omega))) (by first | exact fgX_u hcy (smv_f (by first | with_reducible assumption | omega)) | exact fgX_k hcy (smv_t (by first | with_reducible assumption | omega))) hP hD hS (lv_sub hl [0, 3, 4, 5] rfl)
                      refine lv_iload_n hx hb dX11_smooth_109 rfl (lv_at hl 1 rfl) ?_
                      refine lv_iconst (v := 1) hx hb dX11_smooth_110 rfl ?_
                      refine lv_iadd hx hb dX11_smooth_111 ?_
                      refine zz_i (v := nI (k + 1)) (nI_add k 1) ?_
                      refine lv_aload_n hx hb dX11_smooth_112 rfl (lv_at hl 3 rfl) ?_
                      refine va_get (D := (dC, dI)) (ci := 9) (v := .int (nI n)) (C := RX11) (T := TX11) (N := 55) hx hb hts inX11 hown hK hP 0 rfl rfl 35 (Nat.le_of_ble_eq_true rfl) (hts _ mw_1194) (fun _ h9 => h9) rfl dX11_smooth_113 ?_
                      have b9_18 : zlt ((k + 1)) := show (k + 1) < 2147483648 by omega
                      refine lv_icmp_ne (tgt := 123) hx hb dX11_smooth_116 rfl (fun c_17 => ?_) (fun c_17 => ?_)
                      · have c_17 : ¬ ((k + 1 : Nat) : Int) = ((n : Nat) : Int) := zc_ne (nI_toInt b9_18) (nI_toInt b9_8) c_17
                        refine lv_iload_n hx hb dX11_smooth_123 rfl (lv_at hl 1 rfl) ?_
                        refine lv_iconst (v := 1) hx hb dX11_smooth_124 rfl ?_
                        refine lv_iadd hx hb dX11_smooth_125 ?_
                        refine zz_i (v := nI (k + 1)) (nI_add k 1) ?_
                        refine zz_i (v := nI (nxt n k)) (by first | (exfalso; omega) | (rw [nxt, if_pos (by omega)]) | (rw [nxt, if_neg (by omega)]; first | done | rfl)) ?_
                        exact hj_12 
                      · have c_17 : ((k + 1 : Nat) : Int) = ((n : Nat) : Int) := zc_eq (nI_toInt b9_18) (nI_toInt b9_8) c_17
                        refine lv_iconst (v := 0) hx hb dX11_smooth_119 rfl ?_
                        refine lv_goto (tgt := 126) hx hb dX11_smooth_120 rfl ?_
                        refine zz_i (v := nI (nxt n k)) (by first | (exfalso; omega) | (rw [nxt, if_pos (by omega)]) | (rw [nxt, if_neg (by omega)]; first | done | rfl)) ?_
                        exact hj_12 
                    refine lv_iload_n hx hb dX11_smooth_91 rfl (lv_at hl 0 rfl) ?_
                    refine lv_if_ne (tgt := 104) hx hb dX11_smooth_92 rfl (fun c_19 => ?_) (fun c_19 => ?_)
                    · have c_19 : ¬ ((k : Nat) : Int) = 0 := zc_ne (nI_toInt b9_7) rfl c_19
                      refine lv_iload_n hx hb dX11_smooth_104 rfl (lv_at hl 0 rfl) ?_
                      refine lv_iconst (v := 1) hx hb dX11_smooth_105 rfl ?_
                      refine lv_isub hx hb dX11_smooth_106 ?_
                      refine zz_i (v := nI (k - 1)) (pk_sub (a := k) (b := 1) (by omega)) ?_
                      refine zz_i (v := nI (prv n k)) (by first | (exfalso; omega) | (rw [prv, if_pos (by omega)]) | (rw [prv, if_neg (by omega)])) ?_
                      exact hj_11 
                    · have c_19 : ((k : Nat) : Int) = 0 := zc_eq (nI_toInt b9_7) rfl c_19
                      refine lv_aload_n hx hb dX11_smooth_95 rfl (lv_at hl 2 rfl) ?_
                      refine va_get (D := (dC, dI)) (ci := 9) (v := .int (nI n)) (C := RX11) (T := TX11) (N := 55) hx hb hts inX11 hown hK hP 0 rfl rfl 35 (Nat.le_of_ble_eq_true rfl) (hts _ mw_1194) (fun _ h9 => h9) rfl dX11_smooth_96 ?_
                      refine lv_iconst (v := 1) hx hb dX11_smooth_99 rfl ?_
                      refine lv_isub hx hb dX11_smooth_100 ?_
                      refine zz_i (v := nI (n - 1)) (pk_sub (a := n) (b := 1) (by omega)) ?_
                      refine lv_goto (tgt := 107) hx hb dX11_smooth_101 rfl ?_
                      refine zz_i (v := nI (prv n k)) (by first | (exfalso; omega) | (rw [prv, if_pos (by omega)]) | (rw [prv, if_neg (by omega)])) ?_
                      exact hj_11 
                  · have c_10 : ¬ (5 ≤ (kd f).toInt) := zp_0 c_10
                    refine lv_iload_n hx hb dX11_smooth_74 rfl (lv_at hl 0 rfl) ?_
                    refine lv_if_eq (tgt := 202) hx hb dX11_smooth_75 rfl (fun c_20 => ?_) (fun c_20 => ?_)
                    · have c_20 : ((k : Nat) : Int) = 0 := zc_eq (nI_toInt b9_7) rfl c_20
                      refine lv_iinc (v := nI (k + 1)) (lv' := [(3, .int (nI (k + 1))), (2, .int 0), (0, .ref k0), (1, .int (nI f))]) hx hb dX11_smooth_202 hl (k := 0) rfl (nI_add k 1) (Nat.le_of_ble_eq_true rfl) rfl (fun ls hl => ?_)
                      refine lv_goto (tgt := 58) hx hb dX11_smooth_205 rfl ?_
                      exact ih_58 (k + 1) cx1 cy1 H locs ls (by first | with_reducible assumption | omega) (by first | with_reducible assumption | omega) (by first | exact fgX_u hcx (smv_f (by first | with_reducible assumption | omega)) | exact fgX_k hcx (smv_t (by first | with_reducible assumption | omega))) (by first | exact fgX_u hcy (smv_f (by first | with_reducible assumption | omega)) | exact fgX_k hcy (smv_t (by first | with_reducible assumption | omega))) hP hD hS (lv_sub hl [0, 1, 2, 3] rfl)
                    · have c_20 : ¬ ((k : Nat) : Int) = 0 := zc_ne (nI_toInt b9_7) rfl c_20
                      refine lv_iload_n hx hb dX11_smooth_78 rfl (lv_at hl 0 rfl) ?_
                      refine lv_aload_n hx hb dX11_smooth_79 rfl (lv_at hl 2 rfl) ?_
                      refine va_get (D := (dC, dI)) (ci := 9) (v := .int (nI n)) (C := RX11) (T := TX11) (N := 55) hx hb hts inX11 hown hK hP 0 rfl rfl 35 (Nat.le_of_ble_eq_true rfl) (hts _ mw_1194) (fun _ h9 => h9) rfl dX11_smooth_80 ?_
                      refine lv_iconst (v := 1) hx hb dX11_smooth_83 rfl ?_
                      refine lv_isub hx hb dX11_smooth_84 ?_
                      refine zz_i (v := nI (n - 1)) (pk_sub (a := n) (b := 1) (by omega)) ?_
                      have b9_22 : zlt ((n - 1)) := show (n - 1) < 2147483648 by omega
                      refine lv_icmp_ne (tgt := 91) hx hb dX11_smooth_85 rfl (fun c_21 => ?_) (fun c_21 => ?_)
                      · have c_21 : ¬ ((k : Nat) : Int) = ((n - 1 : Nat) : Int) := zc_ne (nI_toInt b9_7) (nI_toInt b9_22) c_21
                        have hj_23 : W p l e ({ frames := 8, cells := c2 - cp, slots := 8192 * (c2 - cp), locals := 210 } : Room) s m ([.ref k0, .int (nI f)] : List Value).toArray below meth c H locs 0 0 Q9 (F0 m 107 ls [.int (nI (prv n k))]) := by
                          refine lv_istore (lv' := [(4, .int (nI (prv n k))), (3, .int (nI k)), (2, .int 0), (0, .ref k0), (1, .int (nI f))]) hx hb dX11_smooth_107 hl (Nat.le_of_ble_eq_true rfl) rfl (fun ls hl => ?_)
                          have hj_24 : W p l e ({ frames := 8, cells := c2 - cp, slots := 8192 * (c2 - cp), locals := 210 } : Room) s m ([.ref k0, .int (nI f)] : List Value).toArray below meth c H locs 0 0 Q9 (F0 m 126 ls [.int (nI (nxt n k))]) := by
                            refine lv_istore (lv' := [(5, .int (nI (nxt n k))), (4, .int (nI (prv n k))), (3, .int (nI k)), (2, .int 0), (0, .ref k0), (1, .int (nI f))]) hx hb dX11_smooth_126 hl (Nat.le_of_ble_eq_true rfl) rfl (fun ls hl => ?_)
                            refine lv_aload_n hx hb dX11_smooth_128 rfl (lv_at hl 4 rfl) ?_
                            refine va_get (D := (dC, dI)) (ci := 9) (v := .ref (a 12)) (C := RX11) (T := TX11) (N := 55) hx hb hts inX11 hown hK hP 0 rfl rfl 12 (Nat.le_of_ble_eq_true rfl) (hts _ mw_1171) (fun _ h9 => h9) rfl dX11_smooth_129 ?_
                            refine lv_bipush (v := 40) hx hb dX11_smooth_132 rfl ?_
                            refine lv_iload_n hx hb dX11_smooth_134 rfl (lv_at hl 5 rfl) ?_
                            refine lv_imul hx hb dX11_smooth_135 ?_
                            refine zz_i (v := nI (40 * f)) (pk_mul 40 f) ?_
                            refine lv_iload_n hx hb dX11_smooth_136 rfl (lv_at hl 2 rfl) ?_
                            refine lv_iadd hx hb dX11_smooth_137 ?_
                            refine zz_i (v := nI (40 * f + k)) (nI_add (40 * f) k) ?_
                            refine lv_aload_n hx hb dX11_smooth_138 rfl (lv_at hl 4 rfl) ?_
                            refine va_get (D := (dC, dI)) (ci := 9) (v := .ref (a 33)) (C := RX11) (T := TX11) (N := 55) hx hb hts inX11 hown hK hP 0 rfl rfl 33 (Nat.le_of_ble_eq_true rfl) (hts _ mw_1192) (fun _ h9 => h9) rfl dX11_smooth_139 ?_
                            refine lv_iload hx hb dX11_smooth_142 (lv_at hl 1 rfl) ?_
                            have b9_25 : prv n k < 42 := by omega
                            refine z_iald hx hb hK hP 23 0 rfl rfl (e := prv n k) rfl b9_25 (Nat.le_of_ble_eq_true rfl) dX11_smooth_144 ?_
                            refine zz_i (v := cF40 cx f (prv n k)) ((hox _ hpv).1) ?_
                            refine lv_iconst (v := 2) hx hb dX11_smooth_145 rfl ?_
                            refine lv_aload_n hx hb dX11_smooth_146 rfl (lv_at hl 4 rfl) ?_
                            refine va_get (D := (dC, dI)) (ci := 9) (v := .ref (a 33)) (C := RX11) (T := TX11) (N := 55) hx hb hts inX11 hown hK hP 0 rfl rfl 33 (Nat.le_of_ble_eq_true rfl) (hts _ mw_1192) (fun _ h9 => h9) rfl dX11_smooth_147 ?_
                            refine lv_iload_n hx hb dX11_smooth_150 rfl (lv_at hl 2 rfl) ?_
                            have b9_26 : k < 42 := by omega
                            refine z_iald hx hb hK hP 23 0 rfl rfl (e := k) rfl b9_26 (Nat.le_of_ble_eq_true rfl) dX11_smooth_151 ?_
                            refine zz_i (v := cF40 cx f k) ((hox _ hk9).1) ?_
                            refine lv_imul hx hb dX11_smooth_152 ?_
                            refine lv_iadd hx hb dX11_smooth_153 ?_
                            refine lv_aload_n hx hb dX11_smooth_154 rfl (lv_at hl 4 rfl) ?_
                            refine va_get (D := (dC, dI)) (ci := 9) (v := .ref (a 33)) (C := RX11) (T := TX11) (N := 55) hx hb hts inX11 hown hK hP 0 rfl rfl 33 (Nat.le_of_ble_eq_true rfl) (hts _ mw_1192) (fun _ h9 => h9) rfl dX11_smooth_155 ?_
                            refine lv_iload hx hb dX11_smooth_158 (lv_at hl 0 rfl) ?_
                            have b9_27 : nxt n k < 42 := by omega
                            refine z_iald hx hb hK hP 23 0 rfl rfl (e := nxt n k) rfl b9_27 (Nat.le_of_ble_eq_true rfl) dX11_smooth_160 ?_
                            refine zz_i (v := cF40 cx f (nxt n k)) ((hox _ hnx).1) ?_
                            refine lv_iadd hx hb dX11_smooth_161 ?_
                            refine lv_iconst (v := 4) hx hb dX11_smooth_162 rfl ?_
                            refine lv_idiv hx hb dX11_smooth_163 (by decide) ?_
                            have b9_28 : 40 * f + k < 8040 := by omega
                            refine z_iast hx hb hK hP hD hS 12 0 rfl rfl (e := 40 * f + k) (x := (((cF40 cx f (prv n k)) + (2 * (cF40 cx f k))) + (cF40 cx f (nxt n k))) / 4) rfl b9_28 (Nat.le_of_ble_eq_true rfl) dX11_smooth_164 (fun H locs hP hD hS => ?_)
                            obtain ⟨hP, hD⟩ := zre (W2 := [_, _, _, _, _, _, _, _, _, _, _, _, (oa (a 12) cI 8040 (upd cx1 (40 * f + k) ((((cF40 cx f (prv n k)) + (2 * (cF40 cx f k))) + (cF40 cx f (nxt n k))) / 4))), _, _, _, _, _, _, _, _, _, _, _, _, _, _, _, _, _, _, _]) hP hD rfl
                            refine lv_aload_n hx hb dX11_smooth_165 rfl (lv_at hl 4 rfl) ?_
                            refine va_get (D := (dC, dI)) (ci := 9) (v := .ref (a 13)) (C := RX11) (T := TX11) (N := 55) hx hb hts inX11 hown hK hP 0 rfl rfl 13 (Nat.le_of_ble_eq_true rfl) (hts _ mw_1172) (fun _ h9 => h9) rfl dX11_smooth_166 ?_
                            refine lv_bipush (v := 40) hx hb dX11_smooth_169 rfl ?_
                            refine lv_iload_n hx hb dX11_smooth_171 rfl (lv_at hl 5 rfl) ?_
                            refine lv_imul hx hb dX11_smooth_172 ?_
                            refine zz_i (v := nI (40 * f)) (pk_mul 40 f) ?_
                            refine lv_iload_n hx hb dX11_smooth_173 rfl (lv_at hl 2 rfl) ?_
                            refine lv_iadd hx hb dX11_smooth_174 ?_
                            refine zz_i (v := nI (40 * f + k)) (nI_add (40 * f) k) ?_
                            refine lv_aload_n hx hb dX11_smooth_175 rfl (lv_at hl 4 rfl) ?_
                            refine va_get (D := (dC, dI)) (ci := 9) (v := .ref (a 34)) (C := RX11) (T := TX11) (N := 55) hx hb hts inX11 hown hK hP 0 rfl rfl 34 (Nat.le_of_ble_eq_true rfl) (hts _ mw_1193) (fun _ h9 => h9) rfl dX11_smooth_176 ?_
                            refine lv_iload hx hb dX11_smooth_179 (lv_at hl 1 rfl) ?_
                            refine z_iald hx hb hK hP 24 0 rfl rfl (e := prv n k) rfl b9_25 (Nat.le_of_ble_eq_true rfl) dX11_smooth_181 ?_
                            refine zz_i (v := cF40 cy f (prv n k)) ((hox _ hpv).2) ?_
                            refine lv_iconst (v := 2) hx hb dX11_smooth_182 rfl ?_
                            refine lv_aload_n hx hb dX11_smooth_183 rfl (lv_at hl 4 rfl) ?_
                            refine va_get (D := (dC, dI)) (ci := 9) (v := .ref (a 34)) (C := RX11) (T := TX11) (N := 55) hx hb hts inX11 hown hK hP 0 rfl rfl 34 (Nat.le_of_ble_eq_true rfl) (hts _ mw_1193) (fun _ h9 => h9) rfl dX11_smooth_184 ?_
                            refine lv_iload_n hx hb dX11_smooth_187 rfl (lv_at hl 2 rfl) ?_
                            refine z_iald hx hb hK hP 24 0 rfl rfl (e := k) rfl b9_26 (Nat.le_of_ble_eq_true rfl) dX11_smooth_188 ?_
                            refine zz_i (v := cF40 cy f k) ((hox _ hk9).2) ?_
                            refine lv_imul hx hb dX11_smooth_189 ?_
                            refine lv_iadd hx hb dX11_smooth_190 ?_
                            refine lv_aload_n hx hb dX11_smooth_191 rfl (lv_at hl 4 rfl) ?_
                            refine va_get (D := (dC, dI)) (ci := 9) (v := .ref (a 34)) (C := RX11) (T := TX11) (N := 55) hx hb hts inX11 hown hK hP 0 rfl rfl 34 (Nat.le_of_ble_eq_true rfl) (hts _ mw_1193) (fun _ h9 => h9) rfl dX11_smooth_192 ?_
                            refine lv_iload hx hb dX11_smooth_195 (lv_at hl 0 rfl) ?_
                            refine z_iald hx hb hK hP 24 0 rfl rfl (e := nxt n k) rfl b9_27 (Nat.le_of_ble_eq_true rfl) dX11_smooth_197 ?_
                            refine zz_i (v := cF40 cy f (nxt n k)) ((hox _ hnx).2) ?_
                            refine lv_iadd hx hb dX11_smooth_198 ?_
                            refine lv_iconst (v := 4) hx hb dX11_smooth_199 rfl ?_
                            refine lv_idiv hx hb dX11_smooth_200 (by decide) ?_
                            refine z_iast hx hb hK hP hD hS 13 0 rfl rfl (e := 40 * f + k) (x := (((cF40 cy f (prv n k)) + (2 * (cF40 cy f k))) + (cF40 cy f (nxt n k))) / 4) rfl b9_28 (Nat.le_of_ble_eq_true rfl) dX11_smooth_201 (fun H locs hP hD hS => ?_)
                            obtain ⟨hP, hD⟩ := zre (W2 := [_, _, _, _, _, _, _, _, _, _, _, _, _, (oa (a 13) cI 8040 (upd cy1 (40 * f + k) ((((cF40 cy f (prv n k)) + (2 * (cF40 cy f k))) + (cF40 cy f (nxt n k))) / 4))), _, _, _, _, _, _, _, _, _, _, _, _, _, _, _, _, _, _]) hP hD rfl
                            refine lv_iinc (v := nI (k + 1)) (lv' := [(3, .int (nI (k + 1))), (5, .int (nI (nxt n k))), (4, .int (nI (prv n k))), (2, .int 0), (0, .ref k0), (1, .int (nI f))]) hx hb dX11_smooth_202 hl (k := 2) rfl (nI_add k 1) (Nat.le_of_ble_eq_true rfl) rfl (fun ls hl => ?_)
                            refine lv_goto (tgt := 58) hx hb dX11_smooth_205 rfl ?_
                            exact ih_58 (k + 1) (upd cx1 (40 * f + k) ((((cF40 cx f (prv n k)) + (2 * (cF40 cx f k))) + (cF40 cx f (nxt n k))) / 4)) (upd cy1 (40 * f + k) ((((cF40 cy f (prv n k)) + (2 * (cF40 cy f k))) + (cF40 cy f (nxt n k))) / 4)) H locs ls (by first | with_reducible assumption | omega) (by first | with_reducible assumption | omega) (by first | exact fgX_u hcx (smv_f (by first | with_reducible assumption | omega)) | exact fgX_k hcx (smv_t (by first | with_reducible assumption | omega))) (by first | exact fgX_u hcy (smv_f (by first | with_reducible assumption | omega)) | exact fgX_k hcy (smv_t (by first | with_reducible assumption | omega))) hP hD hS (lv_sub hl [0, 3, 4, 5] rfl)
                          refine lv_iload_n hx hb dX11_smooth_109 rfl (lv_at hl 1 rfl) ?_
                          refine lv_iconst (v := 1) hx hb dX11_smooth_110 rfl ?_
                          refine lv_iadd hx hb dX11_smooth_111 ?_
                          refine zz_i (v := nI (k + 1)) (nI_add k 1) ?_
                          refine lv_aload_n hx hb dX11_smooth_112 rfl (lv_at hl 3 rfl) ?_
                          refine va_get (D := (dC, dI)) (ci := 9) (v := .int (nI n)) (C := RX11) (T := TX11) (N := 55) hx hb hts inX11 hown hK hP 0 rfl rfl 35 (Nat.le_of_ble_eq_true rfl) (hts _ mw_1194) (fun _ h9 => h9) rfl dX11_smooth_113 ?_
                          have b9_30 : zlt ((k + 1)) := show (k + 1) < 2147483648 by omega
                          refine lv_icmp_ne (tgt := 123) hx hb dX11_smooth_116 rfl (fun c_29 => ?_) (fun c_29 => ?_)
                          · have c_29 : ¬ ((k + 1 : Nat) : Int) = ((n : Nat) : Int) := zc_ne (nI_toInt b9_30) (nI_toInt b9_8) c_29
                            refine lv_iload_n hx hb dX11_smooth_123 rfl (lv_at hl 1 rfl) ?_
                            refine lv_iconst (v := 1) hx hb dX11_smooth_124 rfl ?_
                            refine lv_iadd hx hb dX11_smooth_125 ?_
                            refine zz_i (v := nI (k + 1)) (nI_add k 1) ?_
                            refine zz_i (v := nI (nxt n k)) (by first | (exfalso; omega) | (rw [nxt, if_pos (by omega)]) | (rw [nxt, if_neg (by omega)]; first | done | rfl)) ?_
                            exact hj_24 
                          · have c_29 : ((k + 1 : Nat) : Int) = ((n : Nat) : Int) := zc_eq (nI_toInt b9_30) (nI_toInt b9_8) c_29
                            refine lv_iconst (v := 0) hx hb dX11_smooth_119 rfl ?_
                            refine lv_goto (tgt := 126) hx hb dX11_smooth_120 rfl ?_
                            refine zz_i (v := nI (nxt n k)) (by first | (exfalso; omega) | (rw [nxt, if_pos (by omega)]) | (rw [nxt, if_neg (by omega)]; first | done | rfl)) ?_
                            exact hj_24 
                        refine lv_iload_n hx hb dX11_smooth_91 rfl (lv_at hl 0 rfl) ?_
                        refine lv_if_ne (tgt := 104) hx hb dX11_smooth_92 rfl (fun c_31 => ?_) (fun c_31 => ?_)
                        · have c_31 : ¬ ((k : Nat) : Int) = 0 := zc_ne (nI_toInt b9_7) rfl c_31
                          refine lv_iload_n hx hb dX11_smooth_104 rfl (lv_at hl 0 rfl) ?_
                          refine lv_iconst (v := 1) hx hb dX11_smooth_105 rfl ?_
                          refine lv_isub hx hb dX11_smooth_106 ?_
                          refine zz_i (v := nI (k - 1)) (pk_sub (a := k) (b := 1) (by omega)) ?_
                          refine zz_i (v := nI (prv n k)) (by first | (exfalso; omega) | (rw [prv, if_pos (by omega)]) | (rw [prv, if_neg (by omega)])) ?_
                          exact hj_23 
                        · have c_31 : ((k : Nat) : Int) = 0 := zc_eq (nI_toInt b9_7) rfl c_31
                          refine lv_aload_n hx hb dX11_smooth_95 rfl (lv_at hl 2 rfl) ?_
                          refine va_get (D := (dC, dI)) (ci := 9) (v := .int (nI n)) (C := RX11) (T := TX11) (N := 55) hx hb hts inX11 hown hK hP 0 rfl rfl 35 (Nat.le_of_ble_eq_true rfl) (hts _ mw_1194) (fun _ h9 => h9) rfl dX11_smooth_96 ?_
                          refine lv_iconst (v := 1) hx hb dX11_smooth_99 rfl ?_
                          refine lv_isub hx hb dX11_smooth_100 ?_
                          refine zz_i (v := nI (n - 1)) (pk_sub (a := n) (b := 1) (by omega)) ?_
                          refine lv_goto (tgt := 107) hx hb dX11_smooth_101 rfl ?_
                          refine zz_i (v := nI (prv n k)) (by first | (exfalso; omega) | (rw [prv, if_pos (by omega)]) | (rw [prv, if_neg (by omega)])) ?_
                          exact hj_23 
                      · have c_21 : ((k : Nat) : Int) = ((n - 1 : Nat) : Int) := zc_eq (nI_toInt b9_7) (nI_toInt b9_22) c_21
                        refine lv_goto (tgt := 202) hx hb dX11_smooth_88 rfl ?_
                        refine lv_iinc (v := nI (k + 1)) (lv' := [(3, .int (nI (k + 1))), (2, .int 0), (0, .ref k0), (1, .int (nI f))]) hx hb dX11_smooth_202 hl (k := 0) rfl (nI_add k 1) (Nat.le_of_ble_eq_true rfl) rfl (fun ls hl => ?_)
                        refine lv_goto (tgt := 58) hx hb dX11_smooth_205 rfl ?_
                        exact ih_58 (k + 1) cx1 cy1 H locs ls (by first | with_reducible assumption | omega) (by first | with_reducible assumption | omega) (by first | exact fgX_u hcx (smv_f (by first | with_reducible assumption | omega)) | exact fgX_k hcx (smv_t (by first | with_reducible assumption | omega))) (by first | exact fgX_u hcy (smv_f (by first | with_reducible assumption | omega)) | exact fgX_k hcy (smv_t (by first | with_reducible assumption | omega))) hP hD hS (lv_sub hl [0, 1, 2, 3] rfl)
            exact hl_58 _ 0 cx cy H locs ls (Nat.lt_succ_self _) (by first | with_reducible assumption | omega) (fgX_0 _ _ _) (fgX_0 _ _ _) hP hD hS (lv_sub hl [0, 1, 2, 3] rfl)
          · exact absurd (by decide) c_5
        · have c_4 : ¬ (tn f).toInt = 0 := zc_ne rfl rfl c_4
          exfalso; omega
      · have c_2 : ¬ (¬ (kd f).toInt = 0 ∧ ¬ (kd f).toInt = 6) := zp_0 c_2
        exfalso; omega
    · exact absurd (by decide) c_1
  · skip
    refine lv_istore_n (lv' := [(2, .int 2), (0, .ref k0), (1, .int (nI f))]) hx hb dX11_smooth_5 rfl hl (Nat.le_of_ble_eq_true rfl) rfl (fun ls hl => ?_)
    refine lv_iload_n hx hb dX11_smooth_6 rfl (lv_at hl 0 rfl) ?_
    refine lv_if_le (tgt := 14) hx hb dX11_smooth_7 rfl (fun c_32 => ?_) (fun c_32 => ?_)
    · exact absurd c_32 (by decide)
    · exfalso; omega
end
section
set_option maxHeartbeats 4000000 in
set_option maxRecDepth 100000 in
theorem k_M_grow_n (l : Launch) (dC : Nat → ClassId) (dI : Nat → Nat → Nat) (cI cZ cF : ClassId) (sz : Nat) (k0 : Nat) (a : Nat → Nat) (I0 : Nat → Int32) (J0 : Nat → Int64) (f : Nat) (n : Nat) (ft : Nat) (kd : Nat → Int32) (st : Nat → Int32) (gb : Nat → Int32) (it : Nat → Int32) (pa : Nat → Int32) (pb : Nat → Int32) (rk : Nat → Int32) (wd : Nat → Int32) (tw : Nat → Int32) (tn : Nat → Int32) (mn : Nat → Int32) (cx : Nat → Int32) (cy : Nat → Int32) (sa : Nat → Int32) (sh : Nat → Int32) (wh : Nat → Int32) (of9 : Nat → Int32) (we : Nat → Int32) (S0 : Nat → Int32) (T0 : Nat → Int32) (P0 : Nat → Int32) (Q0 : Nat → Int32) (ox : Nat → Int32) (oy : Nat → Int32) (mt : Nat → Int32) (wi : Nat → Int32) (ins : Nat → Int32) (la : Nat → Int32) (lb : Nat → Int32) (lc : Nat → Int32) (ld : Nat → Int32) (cp : Nat) (cl : Nat) (hft : I0 0 = nI ft) (h200 : ft ≤ 200) (hf_f : f ≤ 200) (hm_f : mn f = nI n) (hn_f : 1 ≤ n ∧ n ≤ 40) (hp_f : pls n (cF40 cx f) (cF40 cy f)) (hft_f : f < ft) (hwf : ∀ q, lvF ft st tn q → wfM mn cx cy q) (hst1 : (st f).toInt = 1) (htn0 : (tn f).toInt = 0) (hkd1 : (kd f).toInt = 6) (hlaw : ¬ lwM ft st tn kd mn cx cy f n (fun i => 2 * cF40 cx f i - cF40 cx f 0) (fun i => 2 * cF40 cy f i - cF40 cy f 0)) : zM l yX11_grow cX11_grow 4 (some .boolean) ({ frames := 8, cells := 0, slots := 0, locals := 210 } : Room) [.ref k0, .int (nI f)] (dC, dI) (zTy cI cZ cF) [(om k0 a I0 J0), (oa (a 1) cI 201 kd), (oa (a 5) cI 201 st), (oa (a 7) cI 201 gb), (oa (a 10) cI 201 it), (oa (a 8) cI 201 pa), (oa (a 9) cI 201 pb), (oa (a 2) cI 201 rk), (oa (a 3) cI 201 wd), (oa (a 4) cI 201 tw), (oa (a 6) cZ 201 tn), (oa (a 11) cI 201 mn), (oa (a 12) cI 8040 cx), (oa (a 13) cI 8040 cy), (oa (a 27) cI 516 sa), (oa (a 28) cI (4096 * cp) sh), (oa (a 16) cI 514 wh), (oa (a 17) cI 514 of9), (oa (a 18) cI 514 we), (oa (a 32) cI 8 S0), (oa (a 40) cI 6 T0), (oa (a 29) cI 42 P0), (oa (a 30) cI 42 Q0), (oa (a 33) cI 42 ox), (oa (a 34) cI 42 oy), (oa (a 37) cZ 201 mt), (oa (a 38) cZ 201 wi), (oa (a 39) cZ 8040 ins), (oa (a 22) cI (64 * cl) la), (oa (a 23) cI (64 * cl) lb), (oa (a 24) cI (64 * cl) lc), (oa (a 25) cI (64 * cl) ld)] sz (some (.int 0)) (fun A t => ∃ (z9 : Int32), ∃ (S1 : Nat → Int32), ∃ (T1 : Nat → Int32), ∃ (P1 : Nat → Int32), ∃ (Q1 : Nat → Int32), ∃ (ox1 : Nat → Int32), ∃ (oy1 : Nat → Int32), ∃ (mt1 : Nat → Int32), ∃ (wi1 : Nat → Int32), ∃ (ins1 : Nat → Int32), zPD (dC, dI) classes A [(om k0 a (upd (upd (upd (upd (upd I0 14 7) 15 (I0 15 + 1)) 31 z9) 35 (nI n)) 36 (kd f)) J0), (oa (a 1) cI 201 kd), (oa (a 5) cI 201 st), (oa (a 7) cI 201 gb), (oa (a 10) cI 201 it), (oa (a 8) cI 201 pa), (oa (a 9) cI 201 pb), (oa (a 2) cI 201 rk), (oa (a 3) cI 201 wd), (oa (a 4) cI 201 tw), (oa (a 6) cZ 201 tn), (oa (a 11) cI 201 mn), (oa (a 12) cI 8040 cx), (oa (a 13) cI 8040 cy), (oa (a 27) cI 516 sa), (oa (a 28) cI (4096 * cp) sh), (oa (a 16) cI 514 wh), (oa (a 17) cI 514 of9), (oa (a 18) cI 514 we), (oa (a 32) cI 8 S1), (oa (a 40) cI 6 T1), (oa (a 29) cI 42 P1), (oa (a 30) cI 42 Q1), (oa (a 33) cI 42 ox1), (oa (a 34) cI 42 oy1), (oa (a 37) cZ 201 mt1), (oa (a 38) cZ 201 wi1), (oa (a 39) cZ 8040 ins1), (oa (a 22) cI (64 * cl) la), (oa (a 23) cI (64 * cl) lb), (oa (a 24) cI (64 * cl) lc), (oa (a 25) cI (64 * cl) ld)] t.heap) 0 0 := by
  refine zIn (own := "ScaleShopModel") (loc := [(0, .ref k0), (1, .int (nI f))]) rfl rfl rfl rfl (fun p e s m below meth c hx hb hr hts hown hlocks hml hnm9 A hA hS hP hD hK hXN Q9 hQ9 ls hl => ?_)
  have hum : upd mn f (nI n) = mn := upd_self hm_f
  have huk : upd kd f (kd f) = kd := upd_self rfl
  refine lv_aload_n hx hb dX11_grow_0 rfl (lv_at hl 0 rfl) ?_
  refine lv_iload_n hx hb dX11_grow_1 rfl (lv_at hl 1 rfl) ?_
  obtain ⟨hPc, hDc, hFc, hI1⟩ := zi_sub (wc := [_, _]) hP hD hS hA [0, 2] rfl rfl
  refine zcall (st1 := [.int (wrN (st f))]) (va_runV (As := [.int (nI f)]) (rest := []) ⟨hx, hb, hml, hown, hts⟩ (k_M_wrong l dC dI cI cZ cF s.heap.size k0 a I0 J0 f ft st (by first | with_reducible assumption | assumption) (by first | with_reducible assumption | omega) (by first | with_reducible assumption | omega)) (csV_209 hts rfl rfl ⟨Nat.le_of_ble_eq_true rfl, Nat.le_of_ble_eq_true rfl⟩) (zPV2 (q0 := 0) (ci := 9) hPc hDc hK hXN rfl rfl) rfl rfl hl.1 rfl (lv_room (Nat.le_of_ble_eq_true rfl)) dX11_grow_2 ⟨Nat.le_of_ble_eq_true rfl, Nat.le_of_ble_eq_true rfl⟩) hS hFc hFc rfl (fun t H locs ht hB hk1 hS => ?_)
  obtain ⟨hP1, hD1⟩ := hB
  rw [ht] at hP1
  replace hP := z0 hP hD hk1 hP1 hI1
  clear hk1 hPc hDc hFc hP1 hD1 ht hI1
  refine zz_i2 (wrN_s (st f)) (fun hs9 => ?_) (fun hs9 => ?_)
  · skip
    refine lv_istore_n (lv' := [(2, .int 0), (0, .ref k0), (1, .int (nI f))]) hx hb dX11_grow_5 rfl hl (Nat.le_of_ble_eq_true rfl) rfl (fun ls hl => ?_)
    refine lv_iload_n hx hb dX11_grow_6 rfl (lv_at hl 0 rfl) ?_
    refine lv_if_le (tgt := 14) hx hb dX11_grow_7 rfl (fun c_1 => ?_) (fun c_1 => ?_)
    · refine lv_aload_n hx hb dX11_grow_14 rfl (lv_at hl 1 rfl) ?_
      refine va_get (D := (dC, dI)) (ci := 9) (v := .ref (a 1)) (C := RX11) (T := TX11) (N := 55) hx hb hts inX11 hown hK hP 0 rfl rfl 1 (Nat.le_of_ble_eq_true rfl) (hts _ mw_1160) (fun _ h9 => h9) rfl dX11_grow_15 ?_
      refine lv_iload_n hx hb dX11_grow_18 rfl (lv_at hl 2 rfl) ?_
      have b9_2 : f < 201 := by omega
      refine z_iald hx hb hK hP 1 0 rfl rfl (e := f) rfl b9_2 (Nat.le_of_ble_eq_true rfl) dX11_grow_19 ?_
      refine lv_bipush (v := 6) hx hb dX11_grow_20 rfl ?_
      refine lv_icmp_eq (tgt := 29) hx hb dX11_grow_22 rfl (fun c_3 => ?_) (fun c_3 => ?_)
      · have c_3 : (kd f).toInt = 6 := zc_eq rfl rfl c_3
        refine lv_aload_n hx hb dX11_grow_29 rfl (lv_at hl 1 rfl) ?_
        refine va_get (D := (dC, dI)) (ci := 9) (v := .ref (a 6)) (C := RX11) (T := TX11) (N := 55) hx hb hts inX11 hown hK hP 0 rfl rfl 6 (Nat.le_of_ble_eq_true rfl) (hts _ mw_1165) (fun _ h9 => h9) rfl dX11_grow_30 ?_
        refine lv_iload_n hx hb dX11_grow_33 rfl (lv_at hl 2 rfl) ?_
        refine z_zald hx hb hK hP 10 1 rfl rfl (e := f) rfl b9_2 (Nat.le_of_ble_eq_true rfl) dX11_grow_34 ?_
        refine lv_if_eq (tgt := 42) hx hb dX11_grow_35 rfl (fun c_4 => ?_) (fun c_4 => ?_)
        · have c_4 : (tn f).toInt = 0 := zc_eq rfl rfl c_4
          refine lv_iconst (v := 0) hx hb dX11_grow_42 rfl ?_
          refine lv_istore_n (lv' := [(2, .int 0), (0, .ref k0), (1, .int (nI f))]) hx hb dX11_grow_43 rfl hl (Nat.le_of_ble_eq_true rfl) rfl (fun ls hl => ?_)
          refine lv_iload_n hx hb dX11_grow_44 rfl (lv_at hl 0 rfl) ?_
          refine lv_if_le (tgt := 54) hx hb dX11_grow_45 rfl (fun c_5 => ?_) (fun c_5 => ?_)
          · refine lv_aload_n hx hb dX11_grow_54 rfl (lv_at hl 1 rfl) ?_
            refine lv_iload_n hx hb dX11_grow_55 rfl (lv_at hl 2 rfl) ?_
            obtain ⟨hPc, hDc, hFc⟩ := zo_sub (wc := [_, _, _, _, _, _, _, _, _, _, _, _, _]) hP hD hS hA [0, 2, 10, 1, 11, 12, 13, 19, 23, 24, 25, 26, 27] (by decide +kernel) rfl
            refine zcall (st1 := []) (va_runV (As := [.int (nI f)]) (rest := []) ⟨hx, hb, hml, hown, hts⟩ (k_M_remember l dC dI cI cZ cF H.size k0 a I0 J0 f n ft st tn kd mn cx cy S0 ox oy mt wi ins (by first | with_reducible assumption | assumption) (by first | with_reducible assumption | omega) (by first | with_reducible assumption | omega) (by first | with_reducible assumption | assumption) (by first | with_reducible assumption | omega) (by first | with_reducible assumption | assumption) (fun q h1 _ => hwf q h1)) (csV_190 hts rfl rfl ⟨Nat.le_of_ble_eq_true rfl, Nat.le_of_ble_eq_true rfl⟩) (zPV2 (q0 := 0) (ci := 9) hPc hDc hK hXN rfl rfl) rfl rfl hl.1 rfl (lv_room (Nat.le_of_ble_eq_true rfl)) dX11_grow_56 ⟨Nat.le_of_ble_eq_true rfl, Nat.le_of_ble_eq_true rfl⟩) hS hFc hFc rfl (fun t H locs ht hB hk1 hS => ?_)
            refine ex6 hB (fun S1 ox1 oy1 mt1 wi1 ins1 hB0 => ?_)
            clear hB
            obtain ⟨hox, hmt, hwi, hin, hP1, hD1⟩ := hB0
            rw [ht] at hP1
            obtain ⟨hP, hD⟩ := zn (W2 := [(om k0 a (upd (upd I0 35 (nI n)) 36 (kd f)) J0), _, _, _, _, _, _, _, _, _, _, _, _, _, _, _, _, _, _, (oa (a 32) cI 8 S1), _, _, _, (oa (a 33) cI 42 ox1), (oa (a 34) cI 42 oy1), (oa (a 37) cZ 201 mt1), (oa (a 38) cZ 201 wi1), (oa (a 39) cZ 8040 ins1), _, _, _, _]) hP hD hk1 hFc hP1 hD1 zl_194 zl_195 zl_195 zl_194 (by decide +kernel) rfl rfl rfl rfl rfl
            clear hk1 hPc hDc hFc hP1 hD1 ht
            refine lv_iconst (v := 0) hx hb dX11_grow_59 rfl ?_
            refine lv_istore_n (lv' := [(3, .int 0), (2, .int 0), (0, .ref k0), (1, .int (nI f))]) hx hb dX11_grow_60 rfl hl (Nat.le_of_ble_eq_true rfl) rfl (fun ls hl => ?_)
            have hl_61 : ∀ (n9 : Nat) (k : Nat) (cx1 : Nat → Int32) (cy1 : Nat → Int32) (H : Heap) (locs : List Loc) (ls : Array Slot), n - k < n9 → (k ≤ n) → (cx1 = fgX f k (fun i => 2 * cF40 cx f i - cF40 cx f 0) cx) → (cy1 = fgX f k (fun i => 2 * cF40 cy f i - cF40 cy f 0) cy) → va_P (dC, dI) classes [(om k0 a (upd (upd I0 35 (nI n)) 36 (kd f)) J0), (oa (a 1) cI 201 kd), (oa (a 5) cI 201 st), (oa (a 7) cI 201 gb), (oa (a 10) cI 201 it), (oa (a 8) cI 201 pa), (oa (a 9) cI 201 pb), (oa (a 2) cI 201 rk), (oa (a 3) cI 201 wd), (oa (a 4) cI 201 tw), (oa (a 6) cZ 201 tn), (oa (a 11) cI 201 mn), (oa (a 12) cI 8040 cx1), (oa (a 13) cI 8040 cy1), (oa (a 27) cI 516 sa), (oa (a 28) cI (4096 * cp) sh), (oa (a 16) cI 514 wh), (oa (a 17) cI 514 of9), (oa (a 18) cI 514 we), (oa (a 32) cI 8 S1), (oa (a 40) cI 6 T0), (oa (a 29) cI 42 P0), (oa (a 30) cI 42 Q0), (oa (a 33) cI 42 ox1), (oa (a 34) cI 42 oy1), (oa (a 37) cZ 201 mt1), (oa (a 38) cZ 201 wi1), (oa (a 39) cZ 8040 ins1), (oa (a 22) cI (64 * cl) la), (oa (a 23) cI (64 * cl) lb), (oa (a 24) cI (64 * cl) lc), (oa (a 25) cI (64 * cl) ld)] H → va_D A [(om k0 a (upd (upd I0 35 (nI n)) 36 (kd f)) J0), (oa (a 1) cI 201 kd), (oa (a 5) cI 201 st), (oa (a 7) cI 201 gb), (oa (a 10) cI 201 it), (oa (a 8) cI 201 pa), (oa (a 9) cI 201 pb), (oa (a 2) cI 201 rk), (oa (a 3) cI 201 wd), (oa (a 4) cI 201 tw), (oa (a 6) cZ 201 tn), (oa (a 11) cI 201 mn), (oa (a 12) cI 8040 cx1), (oa (a 13) cI 8040 cy1), (oa (a 27) cI 516 sa), (oa (a 28) cI (4096 * cp) sh), (oa (a 16) cI 514 wh), (oa (a 17) cI 514 of9), (oa (a 18) cI 514 we), (oa (a 32) cI 8 S1), (oa (a 40) cI 6 T0), (oa (a 29) cI 42 P0), (oa (a 30) cI 42 Q0), (oa (a 33) cI 42 ox1), (oa (a 34) cI 42 oy1), (oa (a 37) cZ 201 mt1), (oa (a 38) cZ 201 wi1), (oa (a 39) cZ 8040 ins1), (oa (a 22) cI (64 * cl) la), (oa (a 23) cI (64 * cl) lb), (oa (a 24) cI (64 * cl) lc), (oa (a 25) cI (64 * cl) ld)] → va_S A s.heap H locs → lv_has ls 4 [(3, .int (nI k)), (2, .int 0), (0, .ref k0), (1, .int (nI f))] → W p l e ({ frames := 8, cells := 0, slots := 0, locals := 210 } : Room) s m ([.ref k0, .int (nI f)] : List Value).toArray below meth c H locs 0 0 Q9 (F0 m 61 ls []) := by
              intro n9
              induction n9 with
              | zero => intro k cx1 cy1 H locs ls hm; exact absurd hm (Nat.not_lt_zero _)
              | succ n9 ih_61 =>
                intro k cx1 cy1 H locs ls hm hk hcx hcy hP hD hS hl
                refine lv_iload_n hx hb dX11_grow_61 rfl (lv_at hl 0 rfl) ?_
                refine lv_aload_n hx hb dX11_grow_62 rfl (lv_at hl 2 rfl) ?_
                refine va_get (D := (dC, dI)) (ci := 9) (v := .int (nI n)) (C := RX11) (T := TX11) (N := 55) hx hb hts inX11 hown hK hP 0 rfl rfl 35 (Nat.le_of_ble_eq_true rfl) (hts _ mw_1194) (fun _ h9 => h9) rfl dX11_grow_63 ?_
                have b9_7 : zlt (k) := show k < 2147483648 by omega
                have b9_8 : zlt (n) := show n < 2147483648 by omega
                refine lv_icmp_ge (tgt := 127) hx hb dX11_grow_66 rfl (fun c_6 => ?_) (fun c_6 => ?_)
                · have c_6 : ((n : Nat) : Int) ≤ ((k : Nat) : Int) := zc_le (nI_toInt b9_8) (nI_toInt b9_7) c_6
                  have hkn : k = n := (by omega)
                  rw [hkn] at hcx hcy
                  refine lv_aload_n hx hb dX11_grow_127 rfl (lv_at hl 2 rfl) ?_
                  refine lv_iload_n hx hb dX11_grow_128 rfl (lv_at hl 3 rfl) ?_
                  refine lv_iconst (v := 4) hx hb dX11_grow_129 rfl ?_
                  refine zz_i (v := nI 4) (rfl) ?_
                  have hbx : fgX f n ox1 cx1 = cx := (by rw [hcx]; exact fgX_back (fun k9 h9 => (hox k9 h9).1))
                  have hby : fgX f n oy1 cy1 = cy := (by rw [hcy]; exact fgX_back (fun k9 h9 => (hox k9 h9).2))
                  have hlq := lwM_eq (ft := ft) (st := st) (tn := tn) (kd := kd) (mn := mn) hn_f.1 hcx hcy hox
                  have hpo : pls n ox1 oy1 := fun j hj => by rw [(hox j hj).1, (hox j hj).2]; exact hp_f j hj
                  have hwf2 : ∀ q, lvF ft st tn q → q ≠ f → wfM mn cx1 cy1 q := fun q h1 h2 => wfM_o (hwf q h1) h2 (fun _ _ => rfl) (fun j hj => by rw [hcx, hcy]; exact ⟨fgX_o (by omega), fgX_o (by omega)⟩)
                  obtain ⟨hPc, hDc, hFc⟩ := zo_sub (wc := [_, _, _, _, _, _, _, _, _, _, _, _, _, _, _, _, _, _, _, _, _, _, _, _, _, _, _, _, _, _, _, _]) hP hD hS hA [0, 1, 2, 3, 4, 5, 6, 7, 8, 9, 10, 11, 12, 13, 14, 15, 16, 17, 18, 19, 20, 21, 22, 23, 24, 25, 26, 27, 28, 29, 30, 31] (by decide +kernel) rfl
                  refine zcall (st1 := [.int 0]) (va_runV (As := [.int (nI f), .int (nI 4)]) (rest := []) ⟨hx, hb, hml, hown, hts⟩ (k_M_changes_mn l dC dI cI cZ cF H.size k0 a (upd (upd I0 35 (nI n)) 36 (kd f)) J0 f n ft n (kd f) 4 kd st gb it pa pb rk wd tw tn mn cx1 cy1 sa sh wh of9 we S1 T0 P0 Q0 ox1 oy1 mt1 wi1 ins1 la lb lc ld (bMt kd mn cx cy f n) (bWi kd mn cx cy f) (bIn kd cx cy f n) cp cl (hft) (by first | with_reducible assumption | omega) (by first | with_reducible assumption | omega) (hm_f) (by first | with_reducible assumption | omega) (hwf2) (by first | with_reducible assumption | omega) (by first | with_reducible assumption | omega) (hpo) (hmt) (fun q h1 h2 h5 => by rw [hwi q h1 h2]; exact zp_iff ⟨fun h => h.2, fun h => ⟨h5, h⟩⟩) (fun q h1 h2 i hi h5 => hin q h1 h2 h5 i hi) (by first | with_reducible assumption | omega) (rfl) (hft_f) (by rw [hlq]; exact hlaw)) (csV_212 hts rfl rfl ⟨Nat.le_of_ble_eq_true rfl, Nat.le_of_ble_eq_true rfl⟩) (zPV2 (q0 := 0) (ci := 9) hPc hDc hK hXN rfl rfl) rfl rfl hl.1 rfl (lv_room (Nat.le_of_ble_eq_true rfl)) dX11_grow_130 ⟨Nat.le_of_ble_eq_true rfl, Nat.le_of_ble_eq_true rfl⟩) hS hFc hFc rfl (fun t H locs ht hB hk1 hS => ?_)
                  obtain ⟨z8, S2, T2, P2, Q2, hP1, hD1⟩ := hB
                  rw [ht] at hP1
                  obtain ⟨hP, hD⟩ := zn (W2 := [(om k0 a (upd (upd (upd (upd (upd I0 14 7) 15 (I0 15 + 1)) 31 z8) 35 (nI n)) 36 (kd f)) J0), (oa (a 1) cI 201 (upd kd f (kd f))), _, _, _, _, _, _, _, _, _, (oa (a 11) cI 201 (upd mn f (nI n))), (oa (a 12) cI 8040 (fgX f n ox1 cx1)), (oa (a 13) cI 8040 (fgX f n oy1 cy1)), _, _, _, _, _, (oa (a 32) cI 8 S2), (oa (a 40) cI 6 T2), (oa (a 29) cI 42 P2), (oa (a 30) cI 42 Q2), _, _, _, _, _, _, _, _, _]) hP hD hk1 hFc hP1 hD1 zl_196 [] zl_197 zl_196 (by decide +kernel) rfl rfl rfl rfl rfl
                  clear hk1 hPc hDc hFc hP1 hD1 ht
                  obtain ⟨hP9, hD9⟩ := zu_sub (wc := [(om k0 a (upd (upd (upd (upd (upd I0 14 7) 15 (I0 15 + 1)) 31 z8) 35 (nI n)) 36 (kd f)) J0), (oa (a 1) cI 201 (upd kd f (kd f))), (oa (a 5) cI 201 st), (oa (a 7) cI 201 gb), (oa (a 10) cI 201 it), (oa (a 8) cI 201 pa), (oa (a 9) cI 201 pb), (oa (a 2) cI 201 rk), (oa (a 3) cI 201 wd), (oa (a 4) cI 201 tw), (oa (a 6) cZ 201 tn), (oa (a 11) cI 201 (upd mn f (nI n))), (oa (a 12) cI 8040 (fgX f n ox1 cx1)), (oa (a 13) cI 8040 (fgX f n oy1 cy1)), (oa (a 27) cI 516 sa), (oa (a 28) cI (4096 * cp) sh), (oa (a 16) cI 514 wh), (oa (a 17) cI 514 of9), (oa (a 18) cI 514 we), (oa (a 32) cI 8 S2), (oa (a 40) cI 6 T2), (oa (a 29) cI 42 P2), (oa (a 30) cI 42 Q2), (oa (a 33) cI 42 ox1), (oa (a 34) cI 42 oy1), (oa (a 37) cZ 201 mt1), (oa (a 38) cZ 201 wi1), (oa (a 39) cZ 8040 ins1), (oa (a 22) cI (64 * cl) la), (oa (a 23) cI (64 * cl) lb), (oa (a 24) cI (64 * cl) lc), (oa (a 25) cI (64 * cl) ld)]) hP hD (true :: true :: true :: true :: true :: true :: true :: true :: true :: true :: true :: true :: true :: true :: true :: true :: true :: true :: true :: true :: true :: true :: true :: true :: true :: true :: true :: true :: true :: true :: true :: true :: []) rfl rfl
                  have hE9 : ([(om k0 a (upd (upd (upd (upd (upd I0 14 7) 15 (I0 15 + 1)) 31 z8) 35 (nI n)) 36 (kd f)) J0), (oa (a 1) cI 201 (upd kd f (kd f))), (oa (a 5) cI 201 st), (oa (a 7) cI 201 gb), (oa (a 10) cI 201 it), (oa (a 8) cI 201 pa), (oa (a 9) cI 201 pb), (oa (a 2) cI 201 rk), (oa (a 3) cI 201 wd), (oa (a 4) cI 201 tw), (oa (a 6) cZ 201 tn), (oa (a 11) cI 201 (upd mn f (nI n))), (oa (a 12) cI 8040 (fgX f n ox1 cx1)), (oa (a 13) cI 8040 (fgX f n oy1 cy1)), (oa (a 27) cI 516 sa), (oa (a 28) cI (4096 * cp) sh), (oa (a 16) cI 514 wh), (oa (a 17) cI 514 of9), (oa (a 18) cI 514 we), (oa (a 32) cI 8 S2), (oa (a 40) cI 6 T2), (oa (a 29) cI 42 P2), (oa (a 30) cI 42 Q2), (oa (a 33) cI 42 ox1), (oa (a 34) cI 42 oy1), (oa (a 37) cZ 201 mt1), (oa (a 38) cZ 201 wi1), (oa (a 39) cZ 8040 ins1), (oa (a 22) cI (64 * cl) la), (oa (a 23) cI (64 * cl) lb), (oa (a 24) cI (64 * cl) lc), (oa (a 25) cI (64 * cl) ld)] : va_W) = [(om k0 a (upd (upd (upd (upd (upd I0 14 7) 15 (I0 15 + 1)) 31 z8) 35 (nI n)) 36 (kd f)) J0), (oa (a 1) cI 201 kd), (oa (a 5) cI 201 st), (oa (a 7) cI 201 gb), (oa (a 10) cI 201 it), (oa (a 8) cI 201 pa), (oa (a 9) cI 201 pb), (oa (a 2) cI 201 rk), (oa (a 3) cI 201 wd), (oa (a 4) cI 201 tw), (oa (a 6) cZ 201 tn), (oa (a 11) cI 201 mn), (oa (a 12) cI 8040 cx), (oa (a 13) cI 8040 cy), (oa (a 27) cI 516 sa), (oa (a 28) cI (4096 * cp) sh), (oa (a 16) cI 514 wh), (oa (a 17) cI 514 of9), (oa (a 18) cI 514 we), (oa (a 32) cI 8 S2), (oa (a 40) cI 6 T2), (oa (a 29) cI 42 P2), (oa (a 30) cI 42 Q2), (oa (a 33) cI 42 ox1), (oa (a 34) cI 42 oy1), (oa (a 37) cZ 201 mt1), (oa (a 38) cZ 201 wi1), (oa (a 39) cZ 8040 ins1), (oa (a 22) cI (64 * cl) la), (oa (a 23) cI (64 * cl) lb), (oa (a 24) cI (64 * cl) lc), (oa (a 25) cI (64 * cl) ld)] := by rw [hum, huk, hbx, hby]
                  rw [hE9] at hP9 hD9
                  rw [hQ9]
                  exact W.zret (ty := .boolean) (v := 0) hx hb hr (rfl) (fun t ht hW => ⟨⟨rfl, z8, S2, T2, P2, Q2, ox1, oy1, mt1, wi1, ins1, by rw [ht]; exact hP9, hD9⟩, hS.F ht⟩) hS.2.2 dX11_grow_133
                · have c_6 : ((k : Nat) : Int) < ((n : Nat) : Int) := zc_nle (nI_toInt b9_8) (nI_toInt b9_7) c_6
                  have hk9 : k < n := (by omega)
                  refine lv_aload_n hx hb dX11_grow_69 rfl (lv_at hl 2 rfl) ?_
                  refine va_get (D := (dC, dI)) (ci := 9) (v := .ref (a 12)) (C := RX11) (T := TX11) (N := 55) hx hb hts inX11 hown hK hP 0 rfl rfl 12 (Nat.le_of_ble_eq_true rfl) (hts _ mw_1171) (fun _ h9 => h9) rfl dX11_grow_70 ?_
                  refine lv_bipush (v := 40) hx hb dX11_grow_73 rfl ?_
                  refine lv_iload_n hx hb dX11_grow_75 rfl (lv_at hl 3 rfl) ?_
                  refine lv_imul hx hb dX11_grow_76 ?_
                  refine zz_i (v := nI (40 * f)) (pk_mul 40 f) ?_
                  refine lv_iload_n hx hb dX11_grow_77 rfl (lv_at hl 0 rfl) ?_
                  refine lv_iadd hx hb dX11_grow_78 ?_
                  refine zz_i (v := nI (40 * f + k)) (nI_add (40 * f) k) ?_
                  refine lv_iconst (v := 2) hx hb dX11_grow_79 rfl ?_
                  refine lv_aload_n hx hb dX11_grow_80 rfl (lv_at hl 2 rfl) ?_
                  refine va_get (D := (dC, dI)) (ci := 9) (v := .ref (a 33)) (C := RX11) (T := TX11) (N := 55) hx hb hts inX11 hown hK hP 0 rfl rfl 33 (Nat.le_of_ble_eq_true rfl) (hts _ mw_1192) (fun _ h9 => h9) rfl dX11_grow_81 ?_
                  refine lv_iload_n hx hb dX11_grow_84 rfl (lv_at hl 0 rfl) ?_
                  have b9_9 : k < 42 := by omega
                  refine z_iald hx hb hK hP 23 0 rfl rfl (e := k) rfl b9_9 (Nat.le_of_ble_eq_true rfl) dX11_grow_85 ?_
                  refine zz_i (v := cF40 cx f k) ((hox _ hk9).1) ?_
                  refine lv_imul hx hb dX11_grow_86 ?_
                  refine lv_aload_n hx hb dX11_grow_87 rfl (lv_at hl 2 rfl) ?_
                  refine va_get (D := (dC, dI)) (ci := 9) (v := .ref (a 33)) (C := RX11) (T := TX11) (N := 55) hx hb hts inX11 hown hK hP 0 rfl rfl 33 (Nat.le_of_ble_eq_true rfl) (hts _ mw_1192) (fun _ h9 => h9) rfl dX11_grow_88 ?_
                  refine lv_iconst (v := 0) hx hb dX11_grow_91 rfl ?_
                  refine z_iald hx hb hK hP 23 0 rfl rfl (e := 0) rfl (Nat.le_of_ble_eq_true rfl) (Nat.le_of_ble_eq_true rfl) dX11_grow_92 ?_
                  refine zz_i (v := cF40 cx f 0) ((hox 0 (by omega)).1) ?_
                  refine lv_isub hx hb dX11_grow_93 ?_
                  have b9_10 : 40 * f + k < 8040 := by omega
                  refine z_iast hx hb hK hP hD hS 12 0 rfl rfl (e := 40 * f + k) (x := (2 * (cF40 cx f k)) - (cF40 cx f 0)) rfl b9_10 (Nat.le_of_ble_eq_true rfl) dX11_grow_94 (fun H locs hP hD hS => ?_)
                  obtain ⟨hP, hD⟩ := zre (W2 := [_, _, _, _, _, _, _, _, _, _, _, _, (oa (a 12) cI 8040 (upd cx1 (40 * f + k) ((2 * (cF40 cx f k)) - (cF40 cx f 0)))), _, _, _, _, _, _, _, _, _, _, _, _, _, _, _, _, _, _, _]) hP hD rfl
                  refine lv_aload_n hx hb dX11_grow_95 rfl (lv_at hl 2 rfl) ?_
                  refine va_get (D := (dC, dI)) (ci := 9) (v := .ref (a 13)) (C := RX11) (T := TX11) (N := 55) hx hb hts inX11 hown hK hP 0 rfl rfl 13 (Nat.le_of_ble_eq_true rfl) (hts _ mw_1172) (fun _ h9 => h9) rfl dX11_grow_96 ?_
                  refine lv_bipush (v := 40) hx hb dX11_grow_99 rfl ?_
                  refine lv_iload_n hx hb dX11_grow_101 rfl (lv_at hl 3 rfl) ?_
                  refine lv_imul hx hb dX11_grow_102 ?_
                  refine zz_i (v := nI (40 * f)) (pk_mul 40 f) ?_
                  refine lv_iload_n hx hb dX11_grow_103 rfl (lv_at hl 0 rfl) ?_
                  refine lv_iadd hx hb dX11_grow_104 ?_
                  refine zz_i (v := nI (40 * f + k)) (nI_add (40 * f) k) ?_
                  refine lv_iconst (v := 2) hx hb dX11_grow_105 rfl ?_
                  refine lv_aload_n hx hb dX11_grow_106 rfl (lv_at hl 2 rfl) ?_
                  refine va_get (D := (dC, dI)) (ci := 9) (v := .ref (a 34)) (C := RX11) (T := TX11) (N := 55) hx hb hts inX11 hown hK hP 0 rfl rfl 34 (Nat.le_of_ble_eq_true rfl) (hts _ mw_1193) (fun _ h9 => h9) rfl dX11_grow_107 ?_
                  refine lv_iload_n hx hb dX11_grow_110 rfl (lv_at hl 0 rfl) ?_
                  refine z_iald hx hb hK hP 24 0 rfl rfl (e := k) rfl b9_9 (Nat.le_of_ble_eq_true rfl) dX11_grow_111 ?_
                  refine zz_i (v := cF40 cy f k) ((hox _ hk9).2) ?_
                  refine lv_imul hx hb dX11_grow_112 ?_
                  refine lv_aload_n hx hb dX11_grow_113 rfl (lv_at hl 2 rfl) ?_
                  refine va_get (D := (dC, dI)) (ci := 9) (v := .ref (a 34)) (C := RX11) (T := TX11) (N := 55) hx hb hts inX11 hown hK hP 0 rfl rfl 34 (Nat.le_of_ble_eq_true rfl) (hts _ mw_1193) (fun _ h9 => h9) rfl dX11_grow_114 ?_
                  refine lv_iconst (v := 0) hx hb dX11_grow_117 rfl ?_
                  refine z_iald hx hb hK hP 24 0 rfl rfl (e := 0) rfl (Nat.le_of_ble_eq_true rfl) (Nat.le_of_ble_eq_true rfl) dX11_grow_118 ?_
                  refine zz_i (v := cF40 cy f 0) ((hox 0 (by omega)).2) ?_
                  refine lv_isub hx hb dX11_grow_119 ?_
                  refine z_iast hx hb hK hP hD hS 13 0 rfl rfl (e := 40 * f + k) (x := (2 * (cF40 cy f k)) - (cF40 cy f 0)) rfl b9_10 (Nat.le_of_ble_eq_true rfl) dX11_grow_120 (fun H locs hP hD hS => ?_)
                  obtain ⟨hP, hD⟩ := zre (W2 := [_, _, _, _, _, _, _, _, _, _, _, _, _, (oa (a 13) cI 8040 (upd cy1 (40 * f + k) ((2 * (cF40 cy f k)) - (cF40 cy f 0)))), _, _, _, _, _, _, _, _, _, _, _, _, _, _, _, _, _, _]) hP hD rfl
                  refine lv_iinc (v := nI (k + 1)) (lv' := [(3, .int (nI (k + 1))), (2, .int 0), (0, .ref k0), (1, .int (nI f))]) hx hb dX11_grow_121 hl (k := 0) rfl (nI_add k 1) (Nat.le_of_ble_eq_true rfl) rfl (fun ls hl => ?_)
                  refine lv_goto (tgt := 61) hx hb dX11_grow_124 rfl ?_
                  exact ih_61 (k + 1) (upd cx1 (40 * f + k) ((2 * (cF40 cx f k)) - (cF40 cx f 0))) (upd cy1 (40 * f + k) ((2 * (cF40 cy f k)) - (cF40 cy f 0))) H locs ls (by first | with_reducible assumption | omega) (by first | with_reducible assumption | omega) (fgX_u hcx rfl) (fgX_u hcy rfl) hP hD hS (lv_sub hl [0, 1, 2, 3] rfl)
            exact hl_61 _ 0 cx cy H locs ls (Nat.lt_succ_self _) (by first | with_reducible assumption | omega) (fgX_0 _ _ _) (fgX_0 _ _ _) hP hD hS (lv_sub hl [0, 1, 2, 3] rfl)
          · exact absurd (by decide) c_5
        · have c_4 : ¬ (tn f).toInt = 0 := zc_ne rfl rfl c_4
          exfalso; omega
      · have c_3 : ¬ (kd f).toInt = 6 := zc_ne rfl rfl c_3
        exfalso; omega
    · exact absurd (by decide) c_1
  · skip
    refine lv_istore_n (lv' := [(2, .int 2), (0, .ref k0), (1, .int (nI f))]) hx hb dX11_grow_5 rfl hl (Nat.le_of_ble_eq_true rfl) rfl (fun ls hl => ?_)
    refine lv_iload_n hx hb dX11_grow_6 rfl (lv_at hl 0 rfl) ?_
    refine lv_if_le (tgt := 14) hx hb dX11_grow_7 rfl (fun c_11 => ?_) (fun c_11 => ?_)
    · exact absurd c_11 (by decide)
    · exfalso; omega
set_option maxHeartbeats 4000000 in
set_option maxRecDepth 100000 in
theorem k_M_grow_y (l : Launch) (dC : Nat → ClassId) (dI : Nat → Nat → Nat) (cI cZ cF : ClassId) (sz : Nat) (k0 : Nat) (a : Nat → Nat) (I0 : Nat → Int32) (J0 : Nat → Int64) (f : Nat) (n : Nat) (ft : Nat) (kd : Nat → Int32) (st : Nat → Int32) (gb : Nat → Int32) (it : Nat → Int32) (pa : Nat → Int32) (pb : Nat → Int32) (rk : Nat → Int32) (wd : Nat → Int32) (tw : Nat → Int32) (tn : Nat → Int32) (mn : Nat → Int32) (cx : Nat → Int32) (cy : Nat → Int32) (sa : Nat → Int32) (sh : Nat → Int32) (wh : Nat → Int32) (of9 : Nat → Int32) (we : Nat → Int32) (S0 : Nat → Int32) (T0 : Nat → Int32) (P0 : Nat → Int32) (Q0 : Nat → Int32) (ox : Nat → Int32) (oy : Nat → Int32) (mt : Nat → Int32) (wi : Nat → Int32) (ins : Nat → Int32) (la : Nat → Int32) (lb : Nat → Int32) (lc : Nat → Int32) (ld : Nat → Int32) (dn : Nat) (bs : Nat) (w0 : Nat) (cp : Nat) (c1 : Nat) (c2 : Nat) (ln : Nat) (cl : Nat) (hft : I0 0 = nI ft) (h200 : ft ≤ 200) (hf_f : f ≤ 200) (hm_f : mn f = nI n) (hn_f : 1 ≤ n ∧ n ≤ 40) (hp_f : pls n (cF40 cx f) (cF40 cy f)) (hft_f : f < ft) (hwf : ∀ q, lvF ft st tn q → wfM mn cx cy q) (hst1 : (st f).toInt = 1) (htn0 : (tn f).toInt = 0) (hkd1 : (kd f).toInt = 6) (hdn : I0 19 = nI dn) (hbs : I0 21 = nI bs) (hbd : bs ≤ dn) (hd512 : dn ≤ 512) (hi5_1 : (dn - bs) < 515) (hsa_1 : sa (dn - bs) = nI w0) (hmn_1 : ∀ f, f < ft → (tn f).toInt = 0 → ¬ (st f).toInt = 0 → mn f = nI (nN (mn f)) ∧ nN (mn f) ≤ 40) (hc1_1 : 1 ≤ cp) (hpw_1 : pw cp c1) (hw0_1 : w0 ≤ 4096 * cp) (hfit_1 : psN (nnF st tn mn) w0 ft ≤ 4096 * c1) (hmin_1 : c1 = cp ∨ 2048 * c1 < psN (nnF st tn mn) w0 ft) (hcE_1 : c1 ≤ 512) (hpw_2 : pw c1 c2) (hfit_2 : psN (nnF st tn mn) (psN (nnF st tn mn) w0 ft) ft ≤ 4096 * c2) (hmin_2 : c2 = c1 ∨ 2048 * c2 < psN (nnF st tn mn) (psN (nnF st tn mn) w0 ft) ft) (hcE_2 : c2 ≤ 512) (hlc : ln ≤ 64 * cl) (hcl1 : 1 ≤ cl) (hclm : cl ≤ 1000000) (hlaw : lwM ft st tn kd mn cx cy f n (fun i => 2 * cF40 cx f i - cF40 cx f 0) (fun i => 2 * cF40 cy f i - cF40 cy f 0)) : zM l yX11_grow cX11_grow 4 (some .boolean) ({ frames := 8, cells := c2 - cp, slots := 8192 * (c2 - cp), locals := 210 } : Room) [.ref k0, .int (nI f)] (dC, dI) (zTy cI cZ cF) [(om k0 a (upd I0 26 (nI ln)) J0), (oa (a 1) cI 201 kd), (oa (a 5) cI 201 st), (oa (a 7) cI 201 gb), (oa (a 10) cI 201 it), (oa (a 8) cI 201 pa), (oa (a 9) cI 201 pb), (oa (a 2) cI 201 rk), (oa (a 3) cI 201 wd), (oa (a 4) cI 201 tw), (oa (a 6) cZ 201 tn), (oa (a 11) cI 201 mn), (oa (a 12) cI 8040 cx), (oa (a 13) cI 8040 cy), (oa (a 27) cI 516 sa), (oa (a 28) cI (4096 * cp) sh), (oa (a 16) cI 514 wh), (oa (a 17) cI 514 of9), (oa (a 18) cI 514 we), (oa (a 32) cI 8 S0), (oa (a 40) cI 6 T0), (oa (a 29) cI 42 P0), (oa (a 30) cI 42 Q0), (oa (a 33) cI 42 ox), (oa (a 34) cI 42 oy), (oa (a 37) cZ 201 mt), (oa (a 38) cZ 201 wi), (oa (a 39) cZ 8040 ins), (oa (a 22) cI (64 * cl) la), (oa (a 23) cI (64 * cl) lb), (oa (a 24) cI (64 * cl) lc), (oa (a 25) cI (64 * cl) ld)] sz (some (.int 1)) (fun A t => ∃ (z9 : Int32), ∃ (b2 : Nat), ∃ (sh2 : Nat → Int32), ∃ (t9 : Nat), ∃ (S1 : Nat → Int32), ∃ (T1 : Nat → Int32), ∃ (P1 : Nat → Int32), ∃ (Q1 : Nat → Int32), ∃ (ox1 : Nat → Int32), ∃ (oy1 : Nat → Int32), ∃ (mt1 : Nat → Int32), ∃ (wi1 : Nat → Int32), ∃ (ins1 : Nat → Int32), ∃ (la1 : Nat → Int32), ∃ (lb1 : Nat → Int32), ∃ (lc1 : Nat → Int32), ∃ (ld1 : Nat → Int32), (sh2 w0 = nI ft) ∧ (∀ j, j < w0 → sh2 j = sh j) ∧ (∀ g, g < ft → ∀ j, j < 10 + 2 * (nnF st tn mn) g → sh2 (psN (nnF st tn mn) w0 g + j) = (shD kd st gb it pa pb rk wd tw (nnF st tn mn) cx cy) g j) ∧ (sh2 (psN (nnF st tn mn) w0 ft) = nI ft) ∧ (∀ g, g < ft → ∀ j, j < 10 + 2 * (nnF st tn mn) g → sh2 (psN (nnF st tn mn) (psN (nnF st tn mn) w0 ft) g + j) = (shD kd st gb it pa pb rk wd tw (nnF st tn mn) (fgX f n (fun i => 2 * cF40 cx f i - cF40 cx f 0) cx) (fgX f n (fun i => 2 * cF40 cy f i - cF40 cy f 0) cy)) g j) ∧ (t9 ≤ ln) ∧ ((∀ j, j < t9 → ∃ i, i < ln ∧ lb1 j = lb i ∧ lc1 j = lc i) ∧ lsZ dn ln la lb lc ld t9 la1 lb1 lc1 ld1 (fun _ _ _ => False)) ∧ zPD (dC, dI) classes A [(om k0 (va_up a 28 b2) (upd (upd (upd (upd (upd (upd (upd (upd I0 14 0) 19 (nI (dn + 1))) 20 0) 26 (nI t9)) 31 z9) 35 (nI n)) 36 (kd f)) 41 (nI (psN (nnF st tn mn) (psN (nnF st tn mn) w0 ft) ft))) J0), (oa (a 1) cI 201 kd), (oa (a 5) cI 201 st), (oa (a 7) cI 201 gb), (oa (a 10) cI 201 it), (oa (a 8) cI 201 pa), (oa (a 9) cI 201 pb), (oa (a 2) cI 201 rk), (oa (a 3) cI 201 wd), (oa (a 4) cI 201 tw), (oa (a 6) cZ 201 tn), (oa (a 11) cI 201 mn), (oa (a 12) cI 8040 (fgX f n (fun i => 2 * cF40 cx f i - cF40 cx f 0) cx)), (oa (a 13) cI 8040 (fgX f n (fun i => 2 * cF40 cy f i - cF40 cy f 0) cy)), (oa (a 27) cI 516 (upd (upd sa (dn - bs + 1) (nI (psN (nnF st tn mn) w0 ft))) (dn + 1 - bs + 1) (nI (psN (nnF st tn mn) (psN (nnF st tn mn) w0 ft) ft)))), (oa b2 cI (4096 * c2) sh2), (oa (a 16) cI 514 (upd wh (dn + 1) (nI 4))), (oa (a 17) cI 514 (upd of9 (dn + 1) (nI f))), (oa (a 18) cI 514 (upd we (dn + 1) (0 : Int32))), (oa (a 32) cI 8 S1), (oa (a 40) cI 6 T1), (oa (a 29) cI 42 P1), (oa (a 30) cI 42 Q1), (oa (a 33) cI 42 ox1), (oa (a 34) cI 42 oy1), (oa (a 37) cZ 201 mt1), (oa (a 38) cZ 201 wi1), (oa (a 39) cZ 8040 ins1), (oa (a 22) cI (64 * cl) la1), (oa (a 23) cI (64 * cl) lb1), (oa (a 24) cI (64 * cl) lc1), (oa (a 25) cI (64 * cl) ld1)] t.heap) (c2 - cp) (8192 * (c2 - cp)) := by
  refine zIn (own := "ScaleShopModel") (loc := [(0, .ref k0), (1, .int (nI f))]) rfl rfl rfl rfl (fun p e s m below meth c hx hb hr hts hown hlocks hml hnm9 A hA hS hP hD hK hXN Q9 hQ9 ls hl => ?_)
  have hum : upd mn f (nI n) = mn := upd_self hm_f
  have huk : upd kd f (kd f) = kd := upd_self rfl
  have hq1 := pw_le hpw_1
  have hq2 := pw_le hpw_2
  refine lv_aload_n hx hb dX11_grow_0 rfl (lv_at hl 0 rfl) ?_
  refine lv_iload_n hx hb dX11_grow_1 rfl (lv_at hl 1 rfl) ?_
  obtain ⟨hPc, hDc, hFc, hI1⟩ := zi_sub (wc := [_, _]) hP hD hS hA [0, 2] rfl rfl
  refine zcall (st1 := [.int (wrN (st f))]) (va_runV (As := [.int (nI f)]) (rest := []) ⟨hx, hb, hml, hown, hts⟩ (k_M_wrong l dC dI cI cZ cF s.heap.size k0 a (upd I0 26 (nI ln)) J0 f ft st (by first | with_reducible assumption | assumption) (by first | with_reducible assumption | omega) (by first | with_reducible assumption | omega)) (csV_209 hts rfl rfl ⟨Nat.le_of_ble_eq_true rfl, Nat.le_of_ble_eq_true rfl⟩) (zPV2 (q0 := 0) (ci := 9) hPc hDc hK hXN rfl rfl) rfl rfl hl.1 rfl (lv_room (Nat.le_of_ble_eq_true rfl)) dX11_grow_2 ⟨Nat.zero_le _, Nat.zero_le _⟩) hS hFc hFc rfl (fun t H locs ht hB hk1 hS => ?_)
  obtain ⟨hP1, hD1⟩ := hB
  rw [ht] at hP1
  replace hP := z0 hP hD hk1 hP1 hI1
  clear hk1 hPc hDc hFc hP1 hD1 ht hI1
  refine zz_i2 (wrN_s (st f)) (fun hs9 => ?_) (fun hs9 => ?_)
  · skip
    refine lv_istore_n (lv' := [(2, .int 0), (0, .ref k0), (1, .int (nI f))]) hx hb dX11_grow_5 rfl hl (Nat.le_of_ble_eq_true rfl) rfl (fun ls hl => ?_)
    refine lv_iload_n hx hb dX11_grow_6 rfl (lv_at hl 0 rfl) ?_
    refine lv_if_le (tgt := 14) hx hb dX11_grow_7 rfl (fun c_1 => ?_) (fun c_1 => ?_)
    · refine lv_aload_n hx hb dX11_grow_14 rfl (lv_at hl 1 rfl) ?_
      refine va_get (D := (dC, dI)) (ci := 9) (v := .ref (a 1)) (C := RX11) (T := TX11) (N := 55) hx hb hts inX11 hown hK hP 0 rfl rfl 1 (Nat.le_of_ble_eq_true rfl) (hts _ mw_1160) (fun _ h9 => h9) rfl dX11_grow_15 ?_
      refine lv_iload_n hx hb dX11_grow_18 rfl (lv_at hl 2 rfl) ?_
      have b9_2 : f < 201 := by omega
      refine z_iald hx hb hK hP 1 0 rfl rfl (e := f) rfl b9_2 (Nat.le_of_ble_eq_true rfl) dX11_grow_19 ?_
      refine lv_bipush (v := 6) hx hb dX11_grow_20 rfl ?_
      refine lv_icmp_eq (tgt := 29) hx hb dX11_grow_22 rfl (fun c_3 => ?_) (fun c_3 => ?_)
      · have c_3 : (kd f).toInt = 6 := zc_eq rfl rfl c_3
        refine lv_aload_n hx hb dX11_grow_29 rfl (lv_at hl 1 rfl) ?_
        refine va_get (D := (dC, dI)) (ci := 9) (v := .ref (a 6)) (C := RX11) (T := TX11) (N := 55) hx hb hts inX11 hown hK hP 0 rfl rfl 6 (Nat.le_of_ble_eq_true rfl) (hts _ mw_1165) (fun _ h9 => h9) rfl dX11_grow_30 ?_
        refine lv_iload_n hx hb dX11_grow_33 rfl (lv_at hl 2 rfl) ?_
        refine z_zald hx hb hK hP 10 1 rfl rfl (e := f) rfl b9_2 (Nat.le_of_ble_eq_true rfl) dX11_grow_34 ?_
        refine lv_if_eq (tgt := 42) hx hb dX11_grow_35 rfl (fun c_4 => ?_) (fun c_4 => ?_)
        · have c_4 : (tn f).toInt = 0 := zc_eq rfl rfl c_4
          refine lv_iconst (v := 0) hx hb dX11_grow_42 rfl ?_
          refine lv_istore_n (lv' := [(2, .int 0), (0, .ref k0), (1, .int (nI f))]) hx hb dX11_grow_43 rfl hl (Nat.le_of_ble_eq_true rfl) rfl (fun ls hl => ?_)
          refine lv_iload_n hx hb dX11_grow_44 rfl (lv_at hl 0 rfl) ?_
          refine lv_if_le (tgt := 54) hx hb dX11_grow_45 rfl (fun c_5 => ?_) (fun c_5 => ?_)
          · refine lv_aload_n hx hb dX11_grow_54 rfl (lv_at hl 1 rfl) ?_
            refine lv_iload_n hx hb dX11_grow_55 rfl (lv_at hl 2 rfl) ?_
            obtain ⟨hPc, hDc, hFc⟩ := zo_sub (wc := [_, _, _, _, _, _, _, _, _, _, _, _, _]) hP hD hS hA [0, 2, 10, 1, 11, 12, 13, 19, 23, 24, 25, 26, 27] (by decide +kernel) rfl
            refine zcall (st1 := []) (va_runV (As := [.int (nI f)]) (rest := []) ⟨hx, hb, hml, hown, hts⟩ (k_M_remember l dC dI cI cZ cF H.size k0 a (upd I0 26 (nI ln)) J0 f n ft st tn kd mn cx cy S0 ox oy mt wi ins (by first | with_reducible assumption | assumption) (by first | with_reducible assumption | omega) (by first | with_reducible assumption | omega) (by first | with_reducible assumption | assumption) (by first | with_reducible assumption | omega) (by first | with_reducible assumption | assumption) (fun q h1 _ => hwf q h1)) (csV_190 hts rfl rfl ⟨Nat.le_of_ble_eq_true rfl, Nat.le_of_ble_eq_true rfl⟩) (zPV2 (q0 := 0) (ci := 9) hPc hDc hK hXN rfl rfl) rfl rfl hl.1 rfl (lv_room (Nat.le_of_ble_eq_true rfl)) dX11_grow_56 ⟨Nat.zero_le _, Nat.zero_le _⟩) hS hFc hFc rfl (fun t H locs ht hB hk1 hS => ?_)
            refine ex6 hB (fun S1 ox1 oy1 mt1 wi1 ins1 hB0 => ?_)
            clear hB
            obtain ⟨hox, hmt, hwi, hin, hP1, hD1⟩ := hB0
            rw [ht] at hP1
            obtain ⟨hP, hD⟩ := zn (W2 := [(om k0 a (upd (upd (upd I0 26 (nI ln)) 35 (nI n)) 36 (kd f)) J0), _, _, _, _, _, _, _, _, _, _, _, _, _, _, _, _, _, _, (oa (a 32) cI 8 S1), _, _, _, (oa (a 33) cI 42 ox1), (oa (a 34) cI 42 oy1), (oa (a 37) cZ 201 mt1), (oa (a 38) cZ 201 wi1), (oa (a 39) cZ 8040 ins1), _, _, _, _]) hP hD hk1 hFc hP1 hD1 zl_194 zl_195 zl_195 zl_194 (by decide +kernel) rfl rfl rfl rfl rfl
            clear hk1 hPc hDc hFc hP1 hD1 ht
            refine lv_iconst (v := 0) hx hb dX11_grow_59 rfl ?_
            refine lv_istore_n (lv' := [(3, .int 0), (2, .int 0), (0, .ref k0), (1, .int (nI f))]) hx hb dX11_grow_60 rfl hl (Nat.le_of_ble_eq_true rfl) rfl (fun ls hl => ?_)
            have hl_61 : ∀ (n9 : Nat) (k : Nat) (cx1 : Nat → Int32) (cy1 : Nat → Int32) (H : Heap) (locs : List Loc) (ls : Array Slot), n - k < n9 → (k ≤ n) → (cx1 = fgX f k (fun i => 2 * cF40 cx f i - cF40 cx f 0) cx) → (cy1 = fgX f k (fun i => 2 * cF40 cy f i - cF40 cy f 0) cy) → va_P (dC, dI) classes [(om k0 a (upd (upd (upd I0 26 (nI ln)) 35 (nI n)) 36 (kd f)) J0), (oa (a 1) cI 201 kd), (oa (a 5) cI 201 st), (oa (a 7) cI 201 gb), (oa (a 10) cI 201 it), (oa (a 8) cI 201 pa), (oa (a 9) cI 201 pb), (oa (a 2) cI 201 rk), (oa (a 3) cI 201 wd), (oa (a 4) cI 201 tw), (oa (a 6) cZ 201 tn), (oa (a 11) cI 201 mn), (oa (a 12) cI 8040 cx1), (oa (a 13) cI 8040 cy1), (oa (a 27) cI 516 sa), (oa (a 28) cI (4096 * cp) sh), (oa (a 16) cI 514 wh), (oa (a 17) cI 514 of9), (oa (a 18) cI 514 we), (oa (a 32) cI 8 S1), (oa (a 40) cI 6 T0), (oa (a 29) cI 42 P0), (oa (a 30) cI 42 Q0), (oa (a 33) cI 42 ox1), (oa (a 34) cI 42 oy1), (oa (a 37) cZ 201 mt1), (oa (a 38) cZ 201 wi1), (oa (a 39) cZ 8040 ins1), (oa (a 22) cI (64 * cl) la), (oa (a 23) cI (64 * cl) lb), (oa (a 24) cI (64 * cl) lc), (oa (a 25) cI (64 * cl) ld)] H → va_D A [(om k0 a (upd (upd (upd I0 26 (nI ln)) 35 (nI n)) 36 (kd f)) J0), (oa (a 1) cI 201 kd), (oa (a 5) cI 201 st), (oa (a 7) cI 201 gb), (oa (a 10) cI 201 it), (oa (a 8) cI 201 pa), (oa (a 9) cI 201 pb), (oa (a 2) cI 201 rk), (oa (a 3) cI 201 wd), (oa (a 4) cI 201 tw), (oa (a 6) cZ 201 tn), (oa (a 11) cI 201 mn), (oa (a 12) cI 8040 cx1), (oa (a 13) cI 8040 cy1), (oa (a 27) cI 516 sa), (oa (a 28) cI (4096 * cp) sh), (oa (a 16) cI 514 wh), (oa (a 17) cI 514 of9), (oa (a 18) cI 514 we), (oa (a 32) cI 8 S1), (oa (a 40) cI 6 T0), (oa (a 29) cI 42 P0), (oa (a 30) cI 42 Q0), (oa (a 33) cI 42 ox1), (oa (a 34) cI 42 oy1), (oa (a 37) cZ 201 mt1), (oa (a 38) cZ 201 wi1), (oa (a 39) cZ 8040 ins1), (oa (a 22) cI (64 * cl) la), (oa (a 23) cI (64 * cl) lb), (oa (a 24) cI (64 * cl) lc), (oa (a 25) cI (64 * cl) ld)] → va_S A s.heap H locs → lv_has ls 4 [(3, .int (nI k)), (2, .int 0), (0, .ref k0), (1, .int (nI f))] → W p l e ({ frames := 8, cells := c2 - cp, slots := 8192 * (c2 - cp), locals := 210 } : Room) s m ([.ref k0, .int (nI f)] : List Value).toArray below meth c H locs 0 0 Q9 (F0 m 61 ls []) := by
              intro n9
              induction n9 with
              | zero => intro k cx1 cy1 H locs ls hm; exact absurd hm (Nat.not_lt_zero _)
              | succ n9 ih_61 =>
                intro k cx1 cy1 H locs ls hm hk hcx hcy hP hD hS hl
                refine lv_iload_n hx hb dX11_grow_61 rfl (lv_at hl 0 rfl) ?_
                refine lv_aload_n hx hb dX11_grow_62 rfl (lv_at hl 2 rfl) ?_
                refine va_get (D := (dC, dI)) (ci := 9) (v := .int (nI n)) (C := RX11) (T := TX11) (N := 55) hx hb hts inX11 hown hK hP 0 rfl rfl 35 (Nat.le_of_ble_eq_true rfl) (hts _ mw_1194) (fun _ h9 => h9) rfl dX11_grow_63 ?_
                have b9_7 : zlt (k) := show k < 2147483648 by omega
                have b9_8 : zlt (n) := show n < 2147483648 by omega
                refine lv_icmp_ge (tgt := 127) hx hb dX11_grow_66 rfl (fun c_6 => ?_) (fun c_6 => ?_)
                · have c_6 : ((n : Nat) : Int) ≤ ((k : Nat) : Int) := zc_le (nI_toInt b9_8) (nI_toInt b9_7) c_6
                  have hkn : k = n := (by omega)
                  rw [hkn] at hcx hcy
                  refine lv_aload_n hx hb dX11_grow_127 rfl (lv_at hl 2 rfl) ?_
                  refine lv_iload_n hx hb dX11_grow_128 rfl (lv_at hl 3 rfl) ?_
                  refine lv_iconst (v := 4) hx hb dX11_grow_129 rfl ?_
                  refine zz_i (v := nI 4) (rfl) ?_
                  have hbx : fgX f n ox1 cx1 = cx := (by rw [hcx]; exact fgX_back (fun k9 h9 => (hox k9 h9).1))
                  have hby : fgX f n oy1 cy1 = cy := (by rw [hcy]; exact fgX_back (fun k9 h9 => (hox k9 h9).2))
                  have hlq := lwM_eq (ft := ft) (st := st) (tn := tn) (kd := kd) (mn := mn) hn_f.1 hcx hcy hox
                  have hpo : pls n ox1 oy1 := fun j hj => by rw [(hox j hj).1, (hox j hj).2]; exact hp_f j hj
                  have hwf2 : ∀ q, lvF ft st tn q → q ≠ f → wfM mn cx1 cy1 q := fun q h1 h2 => wfM_o (hwf q h1) h2 (fun _ _ => rfl) (fun j hj => by rw [hcx, hcy]; exact ⟨fgX_o (by omega), fgX_o (by omega)⟩)
                  obtain ⟨hPc, hDc, hFc⟩ := zo_sub (wc := [_, _, _, _, _, _, _, _, _, _, _, _, _, _, _, _, _, _, _, _, _, _, _, _, _, _, _, _, _, _, _, _]) hP hD hS hA [0, 1, 2, 3, 4, 5, 6, 7, 8, 9, 10, 11, 12, 13, 14, 15, 16, 17, 18, 19, 20, 21, 22, 23, 24, 25, 26, 27, 28, 29, 30, 31] (by decide +kernel) rfl
                  refine zcall (st1 := [.int 1]) (va_runV (As := [.int (nI f), .int (nI 4)]) (rest := []) ⟨hx, hb, hml, hown, hts⟩ (k_M_changes_my l dC dI cI cZ cF H.size k0 a (upd (upd (upd I0 26 (nI ln)) 35 (nI n)) 36 (kd f)) J0 f n ft n (kd f) 4 kd st gb it pa pb rk wd tw tn mn cx1 cy1 sa sh wh of9 we S1 T0 P0 Q0 ox1 oy1 mt1 wi1 ins1 la lb lc ld (bMt kd mn cx cy f n) (bWi kd mn cx cy f) (bIn kd cx cy f n) dn bs w0 cp c1 c2 ln cl (hft) (by first | with_reducible assumption | omega) (by first | with_reducible assumption | omega) (hm_f) (by first | with_reducible assumption | omega) (hwf2) (by first | with_reducible assumption | omega) (by first | with_reducible assumption | omega) (hpo) (hmt) (fun q h1 h2 h5 => by rw [hwi q h1 h2]; exact zp_iff ⟨fun h => h.2, fun h => ⟨h5, h⟩⟩) (fun q h1 h2 i hi h5 => hin q h1 h2 h5 i hi) (by first | with_reducible assumption | omega) (rfl) (hft_f) (hdn) (hbs) (by first | with_reducible assumption | omega) (by first | with_reducible assumption | omega) (hi5_1) (hsa_1) (by rw [hum]; exact hmn_1) (hc1_1) (hpw_1) (hw0_1) (by rw [hum]; exact hfit_1) (by rw [hum]; exact hmin_1) (hcE_1) (hmn_1) (hpw_2) (by rw [hum]; exact hfit_2) (by rw [hum]; exact hmin_2) (hcE_2) (fun j h1 h2 => by omega) (hlc) (hcl1) (hclm) (trivial) (by rw [hlq]; exact hlaw)) (csV_212 hts rfl rfl ⟨Nat.le_of_ble_eq_true rfl, Nat.le_of_ble_eq_true rfl⟩) (zPV2 (q0 := 0) (ci := 9) hPc hDc hK hXN rfl rfl) rfl rfl hl.1 rfl (lv_room (Nat.le_of_ble_eq_true rfl)) dX11_grow_130 ⟨show (0 + (c2 - cp)) ≤ c2 - cp by omega, show (0 + (8192 * (c2 - cp))) ≤ 8192 * (c2 - cp) by omega⟩) hS hFc hFc rfl (fun t H locs ht hB hk1 hS => ?_)
                  refine ex12 hB (fun z8 b2 sh2 t9 S2 T2 P2 Q2 la1 lb1 lc1 ld1 hB0 => ?_)
                  clear hB
                  obtain ⟨p0, p1, p2, p3, p4, p5, p6, hP1, hD1⟩ := hB0
                  rw [ht] at hP1
                  obtain ⟨hP, hD⟩ := zn (W2 := [(om k0 (va_up a 28 b2) (upd (upd (upd (upd (upd (upd (upd (upd I0 14 0) 19 (nI (dn + 1))) 20 0) 26 (nI t9)) 31 z8) 35 (nI n)) 36 (kd f)) 41 (nI (psN (nnF st tn mn) (psN (nnF st tn (upd mn f (nI n))) w0 ft) ft))) J0), (oa (a 1) cI 201 kd), (oa (a 5) cI 201 st), (oa (a 7) cI 201 gb), (oa (a 10) cI 201 it), (oa (a 8) cI 201 pa), (oa (a 9) cI 201 pb), (oa (a 2) cI 201 rk), (oa (a 3) cI 201 wd), (oa (a 4) cI 201 tw), (oa (a 6) cZ 201 tn), (oa (a 11) cI 201 mn), (oa (a 12) cI 8040 cx1), (oa (a 13) cI 8040 cy1), (oa (a 27) cI 516 (upd (upd sa (dn - bs + 1) (nI (psN (nnF st tn (upd mn f (nI n))) w0 ft))) (dn + 1 - bs + 1) (nI (psN (nnF st tn mn) (psN (nnF st tn (upd mn f (nI n))) w0 ft) ft)))), (oa b2 cI (4096 * c2) sh2), (oa (a 16) cI 514 (upd wh (dn + 1) (nI 4))), (oa (a 17) cI 514 (upd of9 (dn + 1) (nI f))), (oa (a 18) cI 514 (upd we (dn + 1) (0 : Int32))), (oa (a 32) cI 8 S2), (oa (a 40) cI 6 T2), (oa (a 29) cI 42 P2), (oa (a 30) cI 42 Q2), (oa (a 33) cI 42 ox1), (oa (a 34) cI 42 oy1), (oa (a 37) cZ 201 mt1), (oa (a 38) cZ 201 wi1), (oa (a 39) cZ 8040 ins1), (oa (a 22) cI (64 * cl) la1), (oa (a 23) cI (64 * cl) lb1), (oa (a 24) cI (64 * cl) lc1), (oa (a 25) cI (64 * cl) ld1)]) hP hD hk1 hFc hP1 hD1 zl_196 [] zl_197 zl_196 (by decide +kernel) rfl rfl rfl rfl rfl
                  clear hk1 hPc hDc hFc hP1 hD1 ht
                  obtain ⟨hP9, hD9⟩ := zu_sub (wc := [(om k0 (va_up a 28 b2) (upd (upd (upd (upd (upd (upd (upd (upd I0 14 0) 19 (nI (dn + 1))) 20 0) 26 (nI t9)) 31 z8) 35 (nI n)) 36 (kd f)) 41 (nI (psN (nnF st tn mn) (psN (nnF st tn (upd mn f (nI n))) w0 ft) ft))) J0), (oa (a 1) cI 201 kd), (oa (a 5) cI 201 st), (oa (a 7) cI 201 gb), (oa (a 10) cI 201 it), (oa (a 8) cI 201 pa), (oa (a 9) cI 201 pb), (oa (a 2) cI 201 rk), (oa (a 3) cI 201 wd), (oa (a 4) cI 201 tw), (oa (a 6) cZ 201 tn), (oa (a 11) cI 201 mn), (oa (a 12) cI 8040 cx1), (oa (a 13) cI 8040 cy1), (oa (a 27) cI 516 (upd (upd sa (dn - bs + 1) (nI (psN (nnF st tn (upd mn f (nI n))) w0 ft))) (dn + 1 - bs + 1) (nI (psN (nnF st tn mn) (psN (nnF st tn (upd mn f (nI n))) w0 ft) ft)))), (oa b2 cI (4096 * c2) sh2), (oa (a 16) cI 514 (upd wh (dn + 1) (nI 4))), (oa (a 17) cI 514 (upd of9 (dn + 1) (nI f))), (oa (a 18) cI 514 (upd we (dn + 1) (0 : Int32))), (oa (a 32) cI 8 S2), (oa (a 40) cI 6 T2), (oa (a 29) cI 42 P2), (oa (a 30) cI 42 Q2), (oa (a 33) cI 42 ox1), (oa (a 34) cI 42 oy1), (oa (a 37) cZ 201 mt1), (oa (a 38) cZ 201 wi1), (oa (a 39) cZ 8040 ins1), (oa (a 22) cI (64 * cl) la1), (oa (a 23) cI (64 * cl) lb1), (oa (a 24) cI (64 * cl) lc1), (oa (a 25) cI (64 * cl) ld1)]) hP hD (true :: true :: true :: true :: true :: true :: true :: true :: true :: true :: true :: true :: true :: true :: true :: true :: true :: true :: true :: true :: true :: true :: true :: true :: true :: true :: true :: true :: true :: true :: true :: true :: []) rfl rfl
                  have hE9 : ([(om k0 (va_up a 28 b2) (upd (upd (upd (upd (upd (upd (upd (upd I0 14 0) 19 (nI (dn + 1))) 20 0) 26 (nI t9)) 31 z8) 35 (nI n)) 36 (kd f)) 41 (nI (psN (nnF st tn mn) (psN (nnF st tn (upd mn f (nI n))) w0 ft) ft))) J0), (oa (a 1) cI 201 kd), (oa (a 5) cI 201 st), (oa (a 7) cI 201 gb), (oa (a 10) cI 201 it), (oa (a 8) cI 201 pa), (oa (a 9) cI 201 pb), (oa (a 2) cI 201 rk), (oa (a 3) cI 201 wd), (oa (a 4) cI 201 tw), (oa (a 6) cZ 201 tn), (oa (a 11) cI 201 mn), (oa (a 12) cI 8040 cx1), (oa (a 13) cI 8040 cy1), (oa (a 27) cI 516 (upd (upd sa (dn - bs + 1) (nI (psN (nnF st tn (upd mn f (nI n))) w0 ft))) (dn + 1 - bs + 1) (nI (psN (nnF st tn mn) (psN (nnF st tn (upd mn f (nI n))) w0 ft) ft)))), (oa b2 cI (4096 * c2) sh2), (oa (a 16) cI 514 (upd wh (dn + 1) (nI 4))), (oa (a 17) cI 514 (upd of9 (dn + 1) (nI f))), (oa (a 18) cI 514 (upd we (dn + 1) (0 : Int32))), (oa (a 32) cI 8 S2), (oa (a 40) cI 6 T2), (oa (a 29) cI 42 P2), (oa (a 30) cI 42 Q2), (oa (a 33) cI 42 ox1), (oa (a 34) cI 42 oy1), (oa (a 37) cZ 201 mt1), (oa (a 38) cZ 201 wi1), (oa (a 39) cZ 8040 ins1), (oa (a 22) cI (64 * cl) la1), (oa (a 23) cI (64 * cl) lb1), (oa (a 24) cI (64 * cl) lc1), (oa (a 25) cI (64 * cl) ld1)] : va_W) = [(om k0 (va_up a 28 b2) (upd (upd (upd (upd (upd (upd (upd (upd I0 14 0) 19 (nI (dn + 1))) 20 0) 26 (nI t9)) 31 z8) 35 (nI n)) 36 (kd f)) 41 (nI (psN (nnF st tn mn) (psN (nnF st tn mn) w0 ft) ft))) J0), (oa (a 1) cI 201 kd), (oa (a 5) cI 201 st), (oa (a 7) cI 201 gb), (oa (a 10) cI 201 it), (oa (a 8) cI 201 pa), (oa (a 9) cI 201 pb), (oa (a 2) cI 201 rk), (oa (a 3) cI 201 wd), (oa (a 4) cI 201 tw), (oa (a 6) cZ 201 tn), (oa (a 11) cI 201 mn), (oa (a 12) cI 8040 (fgX f n (fun i => 2 * cF40 cx f i - cF40 cx f 0) cx)), (oa (a 13) cI 8040 (fgX f n (fun i => 2 * cF40 cy f i - cF40 cy f 0) cy)), (oa (a 27) cI 516 (upd (upd sa (dn - bs + 1) (nI (psN (nnF st tn mn) w0 ft))) (dn + 1 - bs + 1) (nI (psN (nnF st tn mn) (psN (nnF st tn mn) w0 ft) ft)))), (oa b2 cI (4096 * c2) sh2), (oa (a 16) cI 514 (upd wh (dn + 1) (nI 4))), (oa (a 17) cI 514 (upd of9 (dn + 1) (nI f))), (oa (a 18) cI 514 (upd we (dn + 1) (0 : Int32))), (oa (a 32) cI 8 S2), (oa (a 40) cI 6 T2), (oa (a 29) cI 42 P2), (oa (a 30) cI 42 Q2), (oa (a 33) cI 42 ox1), (oa (a 34) cI 42 oy1), (oa (a 37) cZ 201 mt1), (oa (a 38) cZ 201 wi1), (oa (a 39) cZ 8040 ins1), (oa (a 22) cI (64 * cl) la1), (oa (a 23) cI (64 * cl) lb1), (oa (a 24) cI (64 * cl) lc1), (oa (a 25) cI (64 * cl) ld1)] := by rw [hum, hcx, hcy]
                  rw [hE9] at hP9 hD9
                  refine W.widen (k := c2 - cp) (n := 8192 * (c2 - cp)) (by omega) (by omega) ?_
                  rw [hQ9]
                  exact W.zret (ty := .boolean) (v := 1) hx hb hr (rfl) (fun t ht hW => ⟨⟨rfl, z8, b2, sh2, t9, S2, T2, P2, Q2, ox1, oy1, mt1, wi1, ins1, la1, lb1, lc1, ld1, (p0), (p1), (by have h9 := p2; rw [hum, huk, hbx, hby] at h9; exact h9), (by have h9 := p3; rw [hum] at h9; exact h9), (by have h9 := p4; rw [hum, hcx, hcy] at h9; exact h9), (p5), (p6), by rw [ht]; exact hP9, hD9⟩, hS.F ht⟩) hS.2.2 dX11_grow_133
                · have c_6 : ((k : Nat) : Int) < ((n : Nat) : Int) := zc_nle (nI_toInt b9_8) (nI_toInt b9_7) c_6
                  have hk9 : k < n := (by omega)
                  refine lv_aload_n hx hb dX11_grow_69 rfl (lv_at hl 2 rfl) ?_
                  refine va_get (D := (dC, dI)) (ci := 9) (v := .ref (a 12)) (C := RX11) (T := TX11) (N := 55) hx hb hts inX11 hown hK hP 0 rfl rfl 12 (Nat.le_of_ble_eq_true rfl) (hts _ mw_1171) (fun _ h9 => h9) rfl dX11_grow_70 ?_
                  refine lv_bipush (v := 40) hx hb dX11_grow_73 rfl ?_
                  refine lv_iload_n hx hb dX11_grow_75 rfl (lv_at hl 3 rfl) ?_
                  refine lv_imul hx hb dX11_grow_76 ?_
                  refine zz_i (v := nI (40 * f)) (pk_mul 40 f) ?_
                  refine lv_iload_n hx hb dX11_grow_77 rfl (lv_at hl 0 rfl) ?_
                  refine lv_iadd hx hb dX11_grow_78 ?_
                  refine zz_i (v := nI (40 * f + k)) (nI_add (40 * f) k) ?_
                  refine lv_iconst (v := 2) hx hb dX11_grow_79 rfl ?_
                  refine lv_aload_n hx hb dX11_grow_80 rfl (lv_at hl 2 rfl) ?_
                  refine va_get (D := (dC, dI)) (ci := 9) (v := .ref (a 33)) (C := RX11) (T := TX11) (N := 55) hx hb hts inX11 hown hK hP 0 rfl rfl 33 (Nat.le_of_ble_eq_true rfl) (hts _ mw_1192) (fun _ h9 => h9) rfl dX11_grow_81 ?_
                  refine lv_iload_n hx hb dX11_grow_84 rfl (lv_at hl 0 rfl) ?_
                  have b9_9 : k < 42 := by omega
                  refine z_iald hx hb hK hP 23 0 rfl rfl (e := k) rfl b9_9 (Nat.le_of_ble_eq_true rfl) dX11_grow_85 ?_
                  refine zz_i (v := cF40 cx f k) ((hox _ hk9).1) ?_
                  refine lv_imul hx hb dX11_grow_86 ?_
                  refine lv_aload_n hx hb dX11_grow_87 rfl (lv_at hl 2 rfl) ?_
                  refine va_get (D := (dC, dI)) (ci := 9) (v := .ref (a 33)) (C := RX11) (T := TX11) (N := 55) hx hb hts inX11 hown hK hP 0 rfl rfl 33 (Nat.le_of_ble_eq_true rfl) (hts _ mw_1192) (fun _ h9 => h9) rfl dX11_grow_88 ?_
                  refine lv_iconst (v := 0) hx hb dX11_grow_91 rfl ?_
                  refine z_iald hx hb hK hP 23 0 rfl rfl (e := 0) rfl (Nat.le_of_ble_eq_true rfl) (Nat.le_of_ble_eq_true rfl) dX11_grow_92 ?_
                  refine zz_i (v := cF40 cx f 0) ((hox 0 (by omega)).1) ?_
                  refine lv_isub hx hb dX11_grow_93 ?_
                  have b9_10 : 40 * f + k < 8040 := by omega
                  refine z_iast hx hb hK hP hD hS 12 0 rfl rfl (e := 40 * f + k) (x := (2 * (cF40 cx f k)) - (cF40 cx f 0)) rfl b9_10 (Nat.le_of_ble_eq_true rfl) dX11_grow_94 (fun H locs hP hD hS => ?_)
                  obtain ⟨hP, hD⟩ := zre (W2 := [_, _, _, _, _, _, _, _, _, _, _, _, (oa (a 12) cI 8040 (upd cx1 (40 * f + k) ((2 * (cF40 cx f k)) - (cF40 cx f 0)))), _, _, _, _, _, _, _, _, _, _, _, _, _, _, _, _, _, _, _]) hP hD rfl
                  refine lv_aload_n hx hb dX11_grow_95 rfl (lv_at hl 2 rfl) ?_
                  refine va_get (D := (dC, dI)) (ci := 9) (v := .ref (a 13)) (C := RX11) (T := TX11) (N := 55) hx hb hts inX11 hown hK hP 0 rfl rfl 13 (Nat.le_of_ble_eq_true rfl) (hts _ mw_1172) (fun _ h9 => h9) rfl dX11_grow_96 ?_
                  refine lv_bipush (v := 40) hx hb dX11_grow_99 rfl ?_
                  refine lv_iload_n hx hb dX11_grow_101 rfl (lv_at hl 3 rfl) ?_
                  refine lv_imul hx hb dX11_grow_102 ?_
                  refine zz_i (v := nI (40 * f)) (pk_mul 40 f) ?_
                  refine lv_iload_n hx hb dX11_grow_103 rfl (lv_at hl 0 rfl) ?_
                  refine lv_iadd hx hb dX11_grow_104 ?_
                  refine zz_i (v := nI (40 * f + k)) (nI_add (40 * f) k) ?_
                  refine lv_iconst (v := 2) hx hb dX11_grow_105 rfl ?_
                  refine lv_aload_n hx hb dX11_grow_106 rfl (lv_at hl 2 rfl) ?_
                  refine va_get (D := (dC, dI)) (ci := 9) (v := .ref (a 34)) (C := RX11) (T := TX11) (N := 55) hx hb hts inX11 hown hK hP 0 rfl rfl 34 (Nat.le_of_ble_eq_true rfl) (hts _ mw_1193) (fun _ h9 => h9) rfl dX11_grow_107 ?_
                  refine lv_iload_n hx hb dX11_grow_110 rfl (lv_at hl 0 rfl) ?_
                  refine z_iald hx hb hK hP 24 0 rfl rfl (e := k) rfl b9_9 (Nat.le_of_ble_eq_true rfl) dX11_grow_111 ?_
                  refine zz_i (v := cF40 cy f k) ((hox _ hk9).2) ?_
                  refine lv_imul hx hb dX11_grow_112 ?_
                  refine lv_aload_n hx hb dX11_grow_113 rfl (lv_at hl 2 rfl) ?_
                  refine va_get (D := (dC, dI)) (ci := 9) (v := .ref (a 34)) (C := RX11) (T := TX11) (N := 55) hx hb hts inX11 hown hK hP 0 rfl rfl 34 (Nat.le_of_ble_eq_true rfl) (hts _ mw_1193) (fun _ h9 => h9) rfl dX11_grow_114 ?_
                  refine lv_iconst (v := 0) hx hb dX11_grow_117 rfl ?_
                  refine z_iald hx hb hK hP 24 0 rfl rfl (e := 0) rfl (Nat.le_of_ble_eq_true rfl) (Nat.le_of_ble_eq_true rfl) dX11_grow_118 ?_
                  refine zz_i (v := cF40 cy f 0) ((hox 0 (by omega)).2) ?_
                  refine lv_isub hx hb dX11_grow_119 ?_
                  refine z_iast hx hb hK hP hD hS 13 0 rfl rfl (e := 40 * f + k) (x := (2 * (cF40 cy f k)) - (cF40 cy f 0)) rfl b9_10 (Nat.le_of_ble_eq_true rfl) dX11_grow_120 (fun H locs hP hD hS => ?_)
                  obtain ⟨hP, hD⟩ := zre (W2 := [_, _, _, _, _, _, _, _, _, _, _, _, _, (oa (a 13) cI 8040 (upd cy1 (40 * f + k) ((2 * (cF40 cy f k)) - (cF40 cy f 0)))), _, _, _, _, _, _, _, _, _, _, _, _, _, _, _, _, _, _]) hP hD rfl
                  refine lv_iinc (v := nI (k + 1)) (lv' := [(3, .int (nI (k + 1))), (2, .int 0), (0, .ref k0), (1, .int (nI f))]) hx hb dX11_grow_121 hl (k := 0) rfl (nI_add k 1) (Nat.le_of_ble_eq_true rfl) rfl (fun ls hl => ?_)
                  refine lv_goto (tgt := 61) hx hb dX11_grow_124 rfl ?_
                  exact ih_61 (k + 1) (upd cx1 (40 * f + k) ((2 * (cF40 cx f k)) - (cF40 cx f 0))) (upd cy1 (40 * f + k) ((2 * (cF40 cy f k)) - (cF40 cy f 0))) H locs ls (by first | with_reducible assumption | omega) (by first | with_reducible assumption | omega) (fgX_u hcx rfl) (fgX_u hcy rfl) hP hD hS (lv_sub hl [0, 1, 2, 3] rfl)
            exact hl_61 _ 0 cx cy H locs ls (Nat.lt_succ_self _) (by first | with_reducible assumption | omega) (fgX_0 _ _ _) (fgX_0 _ _ _) hP hD hS (lv_sub hl [0, 1, 2, 3] rfl)
          · exact absurd (by decide) c_5
        · have c_4 : ¬ (tn f).toInt = 0 := zc_ne rfl rfl c_4
          exfalso; omega
      · have c_3 : ¬ (kd f).toInt = 6 := zc_ne rfl rfl c_3
        exfalso; omega
    · exact absurd (by decide) c_1
  · skip
    refine lv_istore_n (lv' := [(2, .int 2), (0, .ref k0), (1, .int (nI f))]) hx hb dX11_grow_5 rfl hl (Nat.le_of_ble_eq_true rfl) rfl (fun ls hl => ?_)
    refine lv_iload_n hx hb dX11_grow_6 rfl (lv_at hl 0 rfl) ?_
    refine lv_if_le (tgt := 14) hx hb dX11_grow_7 rfl (fun c_11 => ?_) (fun c_11 => ?_)
    · exact absurd c_11 (by decide)
    · exfalso; omega
end
section
set_option maxHeartbeats 4000000 in
set_option maxRecDepth 100000 in
theorem k_M_wayOf (l : Launch) (dC : Nat → ClassId) (dI : Nat → Nat → Nat) (cI cZ cF : ClassId) (sz : Nat) (k0 : Nat) (a : Nat → Nat) (I0 : Nat → Int32) (J0 : Nat → Int64) (f : Nat) (n : Nat) (kk : Nat) (i : Nat) (kd : Nat → Int32) (hf_f : f ≤ 200) (hi9 : i < n) (hk9 : kk < n) (hn40 : n ≤ 40) : zM l yX11_wayOf cX11_wayOf 5 (some .int) ({ frames := 1, cells := 0, slots := 0, locals := 21 } : Room) [.ref k0, .int (nI f), .int (nI kk), .int (nI i)] (dC, dI) (zTy cI cZ cF) [(om k0 a (upd I0 35 (nI n)) J0), (oa (a 1) cI 201 kd)] sz (some (.int (nI (wyR (kd f).toInt n kk i)))) (fun A t => zPD (dC, dI) classes A [(om k0 a (upd I0 35 (nI n)) J0), (oa (a 1) cI 201 kd)] t.heap) 0 0 := by
  refine zIn (own := "ScaleShopModel") (loc := [(0, .ref k0), (1, .int (nI f)), (2, .int (nI kk)), (3, .int (nI i))]) rfl rfl rfl rfl (fun p e s m below meth c hx hb hr hts hown hlocks hml hnm9 A hA hS hP hD hK hXN Q9 hQ9 ls hl => ?_)
  refine lv_iload_n hx hb dX11_wayOf_0 rfl (lv_at hl 3 rfl) ?_
  refine lv_iload_n hx hb dX11_wayOf_1 rfl (lv_at hl 2 rfl) ?_
  refine lv_isub hx hb dX11_wayOf_2 ?_
  refine zz_i (v := iI (((i : Nat) : Int) - ((kk : Nat) : Int))) (iI_of (by rw [fb_subI (by rw [nI_toInt (by omega), nI_toInt (by omega)]; omega) (by rw [nI_toInt (by omega), nI_toInt (by omega)]; omega), nI_toInt (by omega), nI_toInt (by omega)])) ?_
  refine va_mabs hx hb (by rw [hml]; exact hl.1.symm) hown (hts _ mw_1562) (hts _ mw_589) (hts _ mw_103) (hts _ mw_abscode) (Nat.le_of_ble_eq_true rfl) (Nat.le_of_ble_eq_true rfl) (Nat.le_of_ble_eq_true rfl) (Nat.le_of_ble_eq_true rfl) dX11_wayOf_3 ?_
  refine zz_i (v := nI (Int.natAbs (((i : Nat) : Int) - ((kk : Nat) : Int)))) (zabs (iI_toInt (by omega)) (by omega)) ?_
  refine lv_istore (lv' := [(4, .int (nI (Int.natAbs (((i : Nat) : Int) - ((kk : Nat) : Int))))), (0, .ref k0), (1, .int (nI f)), (2, .int (nI kk)), (3, .int (nI i))]) hx hb dX11_wayOf_6 hl (Nat.le_of_ble_eq_true rfl) rfl (fun ls hl => ?_)
  refine lv_aload_n hx hb dX11_wayOf_8 rfl (lv_at hl 1 rfl) ?_
  refine lv_iload_n hx hb dX11_wayOf_9 rfl (lv_at hl 2 rfl) ?_
  obtain ⟨hPc, hDc, hFc, hI1⟩ := zi_sub (wc := [_, _]) hP hD hS hA [0, 1] rfl rfl
  refine zcall (st1 := [.int (pI (5 ≤ (kd f).toInt))]) (va_runV (As := [.int (nI f)]) (rest := []) ⟨hx, hb, hml, hown, hts⟩ (k_M_isRing l dC dI cI cZ cF s.heap.size k0 a (upd I0 35 (nI n)) J0 f kd (by first | with_reducible assumption | omega)) (csV_165 hts rfl rfl ⟨Nat.le_of_ble_eq_true rfl, Nat.le_of_ble_eq_true rfl⟩) (zPV2 (q0 := 0) (ci := 9) hPc hDc hK hXN rfl rfl) rfl rfl hl.1 rfl (lv_room (Nat.le_of_ble_eq_true rfl)) dX11_wayOf_10 ⟨Nat.le_of_ble_eq_true rfl, Nat.le_of_ble_eq_true rfl⟩) hS hFc hFc rfl (fun t H locs ht hB hk1 hS => ?_)
  obtain ⟨hP1, hD1⟩ := hB
  rw [ht] at hP1
  replace hP := z0 hP hD hk1 hP1 hI1
  clear hk1 hPc hDc hFc hP1 hD1 ht hI1
  refine lv_if_eq (tgt := 31) hx hb dX11_wayOf_13 rfl (fun c_1 => ?_) (fun c_1 => ?_)
  · have c_1 : ¬ (5 ≤ (kd f).toInt) := zp_0 c_1
    refine lv_iload hx hb dX11_wayOf_31 (lv_at hl 0 rfl) ?_
    obtain ⟨hP9, hD9⟩ := zu_sub (wc := [_, _]) hP hD [true, true] rfl rfl
    rw [hQ9]
    exact W.iret (v := nI (Int.natAbs (((i : Nat) : Int) - ((kk : Nat) : Int)))) hx hb hr (fun t ht hW => ⟨⟨congrArg (fun z => Outcome.returned (some (Value.int z))) (show (nI (Int.natAbs (((i : Nat) : Int) - ((kk : Nat) : Int))) : Int32) = nI (wyR (kd f).toInt n kk i) from zn_eq (by unfold wyR; first | (rw [if_pos (by first | with_reducible assumption | assumption)]) | (rw [if_neg (by first | with_reducible assumption | assumption)]))), by rw [ht]; exact hP9, hD9⟩, hS.F ht⟩) hS.2.2 dX11_wayOf_33
  · have c_1 : 5 ≤ (kd f).toInt := zp_1 c_1
    refine lv_iload hx hb dX11_wayOf_16 (lv_at hl 0 rfl) ?_
    refine lv_aload_n hx hb dX11_wayOf_18 rfl (lv_at hl 1 rfl) ?_
    refine va_get (D := (dC, dI)) (ci := 9) (v := .int (nI n)) (C := RX11) (T := TX11) (N := 55) hx hb hts inX11 hown hK hP 0 rfl rfl 35 (Nat.le_of_ble_eq_true rfl) (hts _ mw_1194) (fun _ h9 => h9) rfl dX11_wayOf_19 ?_
    refine lv_iload hx hb dX11_wayOf_22 (lv_at hl 0 rfl) ?_
    refine lv_isub hx hb dX11_wayOf_24 ?_
    refine zz_i (v := nI (n - (Int.natAbs (((i : Nat) : Int) - ((kk : Nat) : Int))))) (pk_sub (a := n) (b := Int.natAbs (((i : Nat) : Int) - ((kk : Nat) : Int))) (by omega)) ?_
    refine va_mmin hx hb (by rw [hml]; exact hl.1.symm) hown (hts _ mw_1397) (hts _ mw_858) (hts _ mw_103) (hts _ mw_mincode) (Nat.le_of_ble_eq_true rfl) (Nat.le_of_ble_eq_true rfl) (Nat.le_of_ble_eq_true rfl) (Nat.le_of_ble_eq_true rfl) dX11_wayOf_25 ?_
    have b9_2 : zlt ((Int.natAbs (((i : Nat) : Int) - ((kk : Nat) : Int)))) := show (Int.natAbs (((i : Nat) : Int) - ((kk : Nat) : Int))) < 2147483648 by omega
    have b9_3 : zlt ((n - (Int.natAbs (((i : Nat) : Int) - ((kk : Nat) : Int))))) := show (n - (Int.natAbs (((i : Nat) : Int) - ((kk : Nat) : Int)))) < 2147483648 by omega
    refine lv_topi (fun v_4 ev_4 => ?_)
    have hv_4 : v_4.toInt = min ((Int.natAbs (((i : Nat) : Int) - ((kk : Nat) : Int)) : Nat) : Int) ((n - (Int.natAbs (((i : Nat) : Int) - ((kk : Nat) : Int))) : Nat) : Int) := zmin (nI_toInt b9_2) (nI_toInt b9_3) ev_4
    refine zz_i (v := nI (min (Int.natAbs (((i : Nat) : Int) - ((kk : Nat) : Int))) (n - Int.natAbs (((i : Nat) : Int) - ((kk : Nat) : Int))))) (Int32.toInt_inj.mp (by rw [hv_4, nI_toInt (by omega)]; omega)) ?_
    refine lv_goto (tgt := 33) hx hb dX11_wayOf_28 rfl ?_
    obtain ⟨hP9, hD9⟩ := zu_sub (wc := [_, _]) hP hD [true, true] rfl rfl
    rw [hQ9]
    exact W.iret (v := nI (min (Int.natAbs (((i : Nat) : Int) - ((kk : Nat) : Int))) (n - Int.natAbs (((i : Nat) : Int) - ((kk : Nat) : Int))))) hx hb hr (fun t ht hW => ⟨⟨congrArg (fun z => Outcome.returned (some (Value.int z))) (show (nI (min (Int.natAbs (((i : Nat) : Int) - ((kk : Nat) : Int))) (n - Int.natAbs (((i : Nat) : Int) - ((kk : Nat) : Int)))) : Int32) = nI (wyR (kd f).toInt n kk i) from zn_eq (by unfold wyR; first | (rw [if_pos (by first | with_reducible assumption | assumption)]) | (rw [if_neg (by first | with_reducible assumption | assumption)]))), by rw [ht]; exact hP9, hD9⟩, hS.F ht⟩) hS.2.2 dX11_wayOf_33
end
section
set_option maxHeartbeats 4000000 in
set_option maxRecDepth 100000 in
theorem k_M_gone_n (l : Launch) (dC : Nat → ClassId) (dI : Nat → Nat → Nat) (cI cZ cF : ClassId) (sz : Nat) (k0 : Nat) (a : Nat → Nat) (I0 : Nat → Int32) (J0 : Nat → Int64) (f : Nat) (dn : Nat) (w : Int32) (st : Nat → Int32) (gb : Nat → Int32) (it : Nat → Int32) (hf_f : f ≤ 200) (hdn : I0 19 = nI dn) : zM l yX11_gone cX11_gone 3 none ({ frames := 0, cells := 0, slots := 0, locals := 0 } : Room) [.ref k0, .int (nI f), .int w] (dC, dI) (zTy cI cZ cF) [(om k0 a I0 J0), (oa (a 5) cI 201 st), (oa (a 7) cI 201 gb), (oa (a 10) cI 201 it)] sz none (fun A t => zPD (dC, dI) classes A [(om k0 a I0 J0), (oa (a 5) cI 201 (upd st f 2)), (oa (a 7) cI 201 (upd gb f (nI (dn + 1)))), (oa (a 10) cI 201 (upd it f w))] t.heap) 0 0 := by
  refine zIn (own := "ScaleShopModel") (loc := [(0, .ref k0), (1, .int (nI f)), (2, .int w)]) rfl rfl rfl rfl (fun p e s m below meth c hx hb hr hts hown hlocks hml hnm9 A hA hS hP hD hK hXN Q9 hQ9 ls hl => ?_)
  refine lv_aload_n hx hb dX11_gone_0 rfl (lv_at hl 0 rfl) ?_
  refine va_get (D := (dC, dI)) (ci := 9) (v := .ref (a 5)) (C := RX11) (T := TX11) (N := 55) hx hb hts inX11 hown hK hP 0 rfl rfl 5 (Nat.le_of_ble_eq_true rfl) (hts _ mw_1164) (fun _ h9 => h9) rfl dX11_gone_1 ?_
  refine lv_iload_n hx hb dX11_gone_4 rfl (lv_at hl 1 rfl) ?_
  refine lv_iconst (v := 2) hx hb dX11_gone_5 rfl ?_
  have b9_1 : f < 201 := by omega
  refine z_iast hx hb hK hP hD hS 1 0 rfl rfl (e := f) (x := 2) rfl b9_1 (Nat.le_of_ble_eq_true rfl) dX11_gone_6 (fun H locs hP hD hS => ?_)
  obtain ⟨hP, hD⟩ := zre (W2 := [_, (oa (a 5) cI 201 (upd st f 2)), _, _]) hP hD rfl
  refine lv_aload_n hx hb dX11_gone_7 rfl (lv_at hl 0 rfl) ?_
  refine va_get (D := (dC, dI)) (ci := 9) (v := .ref (a 7)) (C := RX11) (T := TX11) (N := 55) hx hb hts inX11 hown hK hP 0 rfl rfl 7 (Nat.le_of_ble_eq_true rfl) (hts _ mw_1166) (fun _ h9 => h9) rfl dX11_gone_8 ?_
  refine lv_iload_n hx hb dX11_gone_11 rfl (lv_at hl 1 rfl) ?_
  refine lv_aload_n hx hb dX11_gone_12 rfl (lv_at hl 0 rfl) ?_
  refine va_get (D := (dC, dI)) (ci := 9) (v := .int (I0 19)) (C := RX11) (T := TX11) (N := 55) hx hb hts inX11 hown hK hP 0 rfl rfl 19 (Nat.le_of_ble_eq_true rfl) (hts _ mw_1178) (fun _ h9 => h9) rfl dX11_gone_13 ?_
  refine zz_i (v := nI dn) (hdn) ?_
  refine lv_iconst (v := 1) hx hb dX11_gone_16 rfl ?_
  refine lv_iadd hx hb dX11_gone_17 ?_
  refine zz_i (v := nI (dn + 1)) (nI_add dn 1) ?_
  refine z_iast hx hb hK hP hD hS 2 0 rfl rfl (e := f) (x := nI (dn + 1)) rfl b9_1 (Nat.le_of_ble_eq_true rfl) dX11_gone_18 (fun H locs hP hD hS => ?_)
  obtain ⟨hP, hD⟩ := zre (W2 := [_, _, (oa (a 7) cI 201 (upd gb f (nI (dn + 1)))), _]) hP hD rfl
  refine lv_aload_n hx hb dX11_gone_19 rfl (lv_at hl 0 rfl) ?_
  refine va_get (D := (dC, dI)) (ci := 9) (v := .ref (a 10)) (C := RX11) (T := TX11) (N := 55) hx hb hts inX11 hown hK hP 0 rfl rfl 10 (Nat.le_of_ble_eq_true rfl) (hts _ mw_1169) (fun _ h9 => h9) rfl dX11_gone_20 ?_
  refine lv_iload_n hx hb dX11_gone_23 rfl (lv_at hl 1 rfl) ?_
  refine lv_iload_n hx hb dX11_gone_24 rfl (lv_at hl 2 rfl) ?_
  refine z_iast hx hb hK hP hD hS 3 0 rfl rfl (e := f) (x := w) rfl b9_1 (Nat.le_of_ble_eq_true rfl) dX11_gone_25 (fun H locs hP hD hS => ?_)
  obtain ⟨hP, hD⟩ := zre (W2 := [_, _, _, (oa (a 10) cI 201 (upd it f w))]) hP hD rfl
  obtain ⟨hP9, hD9⟩ := zu_sub (wc := [_, _, _, _]) hP hD [true, true, true, true] rfl rfl
  rw [hQ9]
  exact W.vret hx hb hr (fun t ht hW => ⟨⟨rfl, by rw [ht]; exact hP9, hD9⟩, hS.F ht⟩) hS.2.2 dX11_gone_26
set_option maxHeartbeats 4000000 in
set_option maxRecDepth 100000 in
theorem k_M_drop_y (l : Launch) (dC : Nat → ClassId) (dI : Nat → Nat → Nat) (cI cZ cF : ClassId) (sz : Nat) (k0 : Nat) (a : Nat → Nat) (I0 : Nat → Int32) (J0 : Nat → Int64) (f : Nat) (ft : Nat) (dn : Nat) (bs : Nat) (w0 : Nat) (cp : Nat) (c1 : Nat) (c2 : Nat) (ln : Nat) (cl : Nat) (kd : Nat → Int32) (st : Nat → Int32) (gb : Nat → Int32) (it : Nat → Int32) (pa : Nat → Int32) (pb : Nat → Int32) (rk : Nat → Int32) (wd : Nat → Int32) (tw : Nat → Int32) (tn : Nat → Int32) (mn : Nat → Int32) (cx : Nat → Int32) (cy : Nat → Int32) (sa : Nat → Int32) (sh : Nat → Int32) (wh : Nat → Int32) (of9 : Nat → Int32) (we : Nat → Int32) (la : Nat → Int32) (lb : Nat → Int32) (lc : Nat → Int32) (ld : Nat → Int32) (hft : I0 0 = nI ft) (h200 : ft ≤ 200) (hf_t : f < ft) (hst1 : (st f).toInt = 1) (htn0 : (tn f).toInt = 0) (hdn : I0 19 = nI dn) (hbs : I0 21 = nI bs) (hbd : bs ≤ dn) (hd512 : dn ≤ 512) (hlc : ln ≤ 64 * cl) (hcl1 : 1 ≤ cl) (hclm : cl ≤ 1000000) (hi5_1 : (dn - bs) < 515) (hsa_1 : sa (dn - bs) = nI w0) (hmn_1 : ∀ v9, v9 < ft → (tn v9).toInt = 0 → ¬ (st v9).toInt = 0 → mn v9 = nI (nN (mn v9)) ∧ nN (mn v9) ≤ 40) (hc1_1 : 1 ≤ cp) (hpw_1 : pw cp c1) (hw0_1 : w0 ≤ 4096 * cp) (hfit_1 : psN (nnF st tn mn) w0 ft ≤ 4096 * c1) (hmin_1 : c1 = cp ∨ 2048 * c1 < psN (nnF st tn mn) w0 ft) (hcE_1 : c1 ≤ 512) (hpw_2 : pw c1 c2) (hfit_2 : psN (nnF (upd st f 2) tn mn) (psN (nnF st tn mn) w0 ft) ft ≤ 4096 * c2) (hmin_2 : c2 = c1 ∨ 2048 * c2 < psN (nnF (upd st f 2) tn mn) (psN (nnF st tn mn) w0 ft) ft) (hcE_2 : c2 ≤ 512) : zM l yX11_drop cX11_drop 4 (some .boolean) ({ frames := 3, cells := c2 - cp, slots := 8192 * (c2 - cp), locals := 70 } : Room) [.ref k0, .int (nI f)] (dC, dI) (zTy cI cZ cF) [(om k0 a (upd I0 26 (nI ln)) J0), (oa (a 1) cI 201 kd), (oa (a 5) cI 201 st), (oa (a 7) cI 201 gb), (oa (a 10) cI 201 it), (oa (a 8) cI 201 pa), (oa (a 9) cI 201 pb), (oa (a 2) cI 201 rk), (oa (a 3) cI 201 wd), (oa (a 4) cI 201 tw), (oa (a 6) cZ 201 tn), (oa (a 11) cI 201 mn), (oa (a 12) cI 8040 cx), (oa (a 13) cI 8040 cy), (oa (a 27) cI 516 sa), (oa (a 28) cI (4096 * cp) sh), (oa (a 16) cI 514 wh), (oa (a 17) cI 514 of9), (oa (a 18) cI 514 we), (oa (a 22) cI (64 * cl) la), (oa (a 23) cI (64 * cl) lb), (oa (a 24) cI (64 * cl) lc), (oa (a 25) cI (64 * cl) ld)] sz (some (.int 1)) (fun A t => ∃ (b2 : Nat), ∃ (sh2 : Nat → Int32), ∃ (t9 : Nat), ∃ (la1 : Nat → Int32), ∃ (lb1 : Nat → Int32), ∃ (lc1 : Nat → Int32), ∃ (ld1 : Nat → Int32), (sh2 w0 = nI ft) ∧ (∀ j, j < w0 → sh2 j = sh j) ∧ (∀ g, g < ft → ∀ j, j < 10 + 2 * (nnF st tn mn) g → sh2 (psN (nnF st tn mn) w0 g + j) = (shD kd st gb it pa pb rk wd tw (nnF st tn mn) cx cy) g j) ∧ (sh2 (psN (nnF st tn mn) w0 ft) = nI ft) ∧ (∀ g, g < ft → ∀ j, j < 10 + 2 * (nnF (upd st f 2) tn mn) g → sh2 (psN (nnF (upd st f 2) tn mn) (psN (nnF st tn mn) w0 ft) g + j) = (shD kd (upd st f 2) (upd gb f (nI (dn + 1))) (upd it f (-1 : Int32)) pa pb rk wd tw (nnF (upd st f 2) tn mn) cx cy) g j) ∧ (t9 ≤ ln) ∧ ((∀ j, j < t9 → ∃ i, i < ln ∧ lb1 j = lb i ∧ lc1 j = lc i) ∧ lsZ dn ln la lb lc ld t9 la1 lb1 lc1 ld1 (fun _ _ _ => False)) ∧ zPD (dC, dI) classes A [(om k0 (va_up a 28 b2) (upd (upd (upd (upd (upd I0 14 0) 19 (nI (dn + 1))) 20 0) 26 (nI t9)) 41 (nI (psN (nnF (upd st f 2) tn mn) (psN (nnF st tn mn) w0 ft) ft))) J0), (oa (a 1) cI 201 kd), (oa (a 5) cI 201 (upd st f 2)), (oa (a 7) cI 201 (upd gb f (nI (dn + 1)))), (oa (a 10) cI 201 (upd it f (-1 : Int32))), (oa (a 8) cI 201 pa), (oa (a 9) cI 201 pb), (oa (a 2) cI 201 rk), (oa (a 3) cI 201 wd), (oa (a 4) cI 201 tw), (oa (a 6) cZ 201 tn), (oa (a 11) cI 201 mn), (oa (a 12) cI 8040 cx), (oa (a 13) cI 8040 cy), (oa (a 27) cI 516 (upd (upd sa (dn - bs + 1) (nI (psN (nnF st tn mn) w0 ft))) (dn + 1 - bs + 1) (nI (psN (nnF (upd st f 2) tn mn) (psN (nnF st tn mn) w0 ft) ft)))), (oa b2 cI (4096 * c2) sh2), (oa (a 16) cI 514 (upd wh (dn + 1) (7 : Int32))), (oa (a 17) cI 514 (upd of9 (dn + 1) (nI f))), (oa (a 18) cI 514 (upd we (dn + 1) (1 : Int32))), (oa (a 22) cI (64 * cl) la1), (oa (a 23) cI (64 * cl) lb1), (oa (a 24) cI (64 * cl) lc1), (oa (a 25) cI (64 * cl) ld1)] t.heap) (c2 - cp) (8192 * (c2 - cp)) := by
  refine zIn (own := "ScaleShopModel") (loc := [(0, .ref k0), (1, .int (nI f))]) rfl rfl rfl rfl (fun p e s m below meth c hx hb hr hts hown hlocks hml hnm9 A hA hS hP hD hK hXN Q9 hQ9 ls hl => ?_)
  have hq1 := pw_le hpw_1
  have hq2 := pw_le hpw_2
  refine lv_aload_n hx hb dX11_drop_0 rfl (lv_at hl 0 rfl) ?_
  refine lv_iload_n hx hb dX11_drop_1 rfl (lv_at hl 1 rfl) ?_
  obtain ⟨hPc, hDc, hFc, hI1⟩ := zi_sub (wc := [_, _]) hP hD hS hA [0, 2] rfl rfl
  refine zcall (st1 := [.int (wrN (st f))]) (va_runV (As := [.int (nI f)]) (rest := []) ⟨hx, hb, hml, hown, hts⟩ (k_M_wrong l dC dI cI cZ cF s.heap.size k0 a (upd I0 26 (nI ln)) J0 f ft st (by first | with_reducible assumption | assumption) (by first | with_reducible assumption | omega) (by first | with_reducible assumption | omega)) (csV_209 hts rfl rfl ⟨Nat.le_of_ble_eq_true rfl, Nat.le_of_ble_eq_true rfl⟩) (zPV2 (q0 := 0) (ci := 9) hPc hDc hK hXN rfl rfl) rfl rfl hl.1 rfl (lv_room (Nat.le_of_ble_eq_true rfl)) dX11_drop_2 ⟨Nat.zero_le _, Nat.zero_le _⟩) hS hFc hFc rfl (fun t H locs ht hB hk1 hS => ?_)
  obtain ⟨hP1, hD1⟩ := hB
  rw [ht] at hP1
  replace hP := z0 hP hD hk1 hP1 hI1
  clear hk1 hPc hDc hFc hP1 hD1 ht hI1
  refine zz_i2 (wrN_s (st f)) (fun hs9 => ?_) (fun hs9 => ?_)
  · skip
    refine lv_istore_n (lv' := [(2, .int 0), (0, .ref k0), (1, .int (nI f))]) hx hb dX11_drop_5 rfl hl (Nat.le_of_ble_eq_true rfl) rfl (fun ls hl => ?_)
    refine lv_iload_n hx hb dX11_drop_6 rfl (lv_at hl 0 rfl) ?_
    refine lv_if_le (tgt := 14) hx hb dX11_drop_7 rfl (fun c_1 => ?_) (fun c_1 => ?_)
    · refine lv_aload_n hx hb dX11_drop_14 rfl (lv_at hl 1 rfl) ?_
      refine va_get (D := (dC, dI)) (ci := 9) (v := .ref (a 6)) (C := RX11) (T := TX11) (N := 55) hx hb hts inX11 hown hK hP 0 rfl rfl 6 (Nat.le_of_ble_eq_true rfl) (hts _ mw_1165) (fun _ h9 => h9) rfl dX11_drop_15 ?_
      refine lv_iload_n hx hb dX11_drop_18 rfl (lv_at hl 2 rfl) ?_
      have b9_2 : f < 201 := by omega
      refine z_zald hx hb hK hP 10 1 rfl rfl (e := f) rfl b9_2 (Nat.le_of_ble_eq_true rfl) dX11_drop_19 ?_
      refine lv_if_eq (tgt := 27) hx hb dX11_drop_20 rfl (fun c_3 => ?_) (fun c_3 => ?_)
      · have c_3 : (tn f).toInt = 0 := zc_eq rfl rfl c_3
        refine lv_iconst (v := 0) hx hb dX11_drop_27 rfl ?_
        refine lv_istore_n (lv' := [(2, .int 0), (0, .ref k0), (1, .int (nI f))]) hx hb dX11_drop_28 rfl hl (Nat.le_of_ble_eq_true rfl) rfl (fun ls hl => ?_)
        refine lv_iload_n hx hb dX11_drop_29 rfl (lv_at hl 0 rfl) ?_
        refine lv_if_le (tgt := 39) hx hb dX11_drop_30 rfl (fun c_4 => ?_) (fun c_4 => ?_)
        · refine lv_aload_n hx hb dX11_drop_39 rfl (lv_at hl 1 rfl) ?_
          obtain ⟨hPc, hDc, hFc⟩ := zo_sub (wc := [_, _, _, _, _, _, _, _, _, _, _, _, _, _, _, _]) hP hD hS hA [0, 1, 2, 3, 4, 5, 6, 7, 8, 9, 10, 11, 12, 13, 14, 15] (by decide +kernel) rfl
          refine zcall (st1 := []) (va_runV (As := []) (rest := []) ⟨hx, hb, hml, hown, hts⟩ (k_M_begins l dC dI cI cZ cF H.size k0 a (upd I0 26 (nI ln)) J0 dn bs ft w0 cp c1 kd st gb it pa pb rk wd tw tn mn cx cy sa sh (hft) (by first | with_reducible assumption | omega) (hdn) (hbs) (by first | with_reducible assumption | omega) (by first | with_reducible assumption | omega) (hi5_1) (hsa_1) (hmn_1) (hc1_1) (hpw_1) (hw0_1) (hfit_1) (hmin_1) (hcE_1)) (csV_205 hts rfl rfl ⟨Nat.le_of_ble_eq_true rfl, Nat.le_of_ble_eq_true rfl⟩) (zPV2 (q0 := 0) (ci := 9) hPc hDc hK hXN rfl rfl) rfl rfl hl.1 rfl (lv_room (Nat.le_of_ble_eq_true rfl)) dX11_drop_40 ⟨show (0 + (c1 - cp)) ≤ c2 - cp by omega, show (0 + (8192 * (c1 - cp))) ≤ 8192 * (c2 - cp) by omega⟩) hS hFc hFc rfl (fun t H locs ht hB hk1 hS => ?_)
          obtain ⟨b1, sh1, g1, g2, g3, g4, hP1, hD1⟩ := hB
          rw [ht] at hP1
          obtain ⟨hP, hD⟩ := zn (W2 := [_, _, _, _, _, _, _, (om k0 (va_up a 28 b1) (upd (upd I0 26 (nI ln)) 41 (nI (psN (nnF st tn mn) w0 ft))) J0), (oa (a 1) cI 201 kd), (oa (a 5) cI 201 st), (oa (a 7) cI 201 gb), (oa (a 10) cI 201 it), (oa (a 8) cI 201 pa), (oa (a 9) cI 201 pb), (oa (a 2) cI 201 rk), (oa (a 3) cI 201 wd), (oa (a 4) cI 201 tw), (oa (a 6) cZ 201 tn), (oa (a 11) cI 201 mn), (oa (a 12) cI 8040 cx), (oa (a 13) cI 8040 cy), (oa (a 27) cI 516 (upd sa ((dn - bs) + 1) (nI (psN (nnF st tn mn) w0 ft)))), (oa b1 cI (4096 * c1) sh1)]) hP hD hk1 hFc hP1 hD1 zl_80 zl_198 zl_199 zl_200 (by decide +kernel) rfl rfl rfl rfl rfl
          clear hk1 hPc hDc hFc hP1 hD1 ht
          refine lv_aload_n hx hb dX11_drop_43 rfl (lv_at hl 1 rfl) ?_
          refine lv_iload_n hx hb dX11_drop_44 rfl (lv_at hl 2 rfl) ?_
          refine lv_iconst (v := (-1)) hx hb dX11_drop_45 rfl ?_
          obtain ⟨hPc, hDc, hFc⟩ := zo_sub (wc := [_, _, _, _]) hP hD hS hA [7, 9, 10, 11] (by decide +kernel) rfl
          refine zcall (st1 := []) (va_runV (As := [.int (nI f), .int (-1)]) (rest := []) ⟨hx, hb, hml, hown, hts⟩ (k_M_gone_n l dC dI cI cZ cF H.size k0 (va_up a 28 b1) (upd (upd I0 26 (nI ln)) 41 (nI (psN (nnF st tn mn) w0 ft))) J0 f dn (-1) st gb it (by first | with_reducible assumption | omega) (hdn)) (csV_213 hts rfl rfl ⟨Nat.le_of_ble_eq_true rfl, Nat.le_of_ble_eq_true rfl⟩) (zPV2 (q0 := 0) (ci := 9) hPc hDc hK hXN rfl rfl) rfl rfl hl.1 rfl (lv_room (Nat.le_of_ble_eq_true rfl)) dX11_drop_46 ⟨show (0 + (c1 - cp)) ≤ c2 - cp by omega, show (0 + (8192 * (c1 - cp))) ≤ 8192 * (c2 - cp) by omega⟩) hS hFc hFc rfl (fun t H locs ht hB hk1 hS => ?_)
          obtain ⟨hP1, hD1⟩ := hB
          rw [ht] at hP1
          obtain ⟨hP, hD⟩ := zn (W2 := [_, _, _, _, _, _, _, _, _, (oa (a 5) cI 201 (upd st f 2)), (oa (a 7) cI 201 (upd gb f (nI (dn + 1)))), (oa (a 10) cI 201 (upd it f (-1 : Int32))), _, _, _, _, _, _, _, _, _, _, _]) hP hD hk1 hFc hP1 hD1 [7, 9, 10, 11] zl_201 zl_201 [7, 9, 10, 11] (by decide +kernel) rfl rfl rfl rfl rfl
          clear hk1 hPc hDc hFc hP1 hD1 ht
          refine lv_aload_n hx hb dX11_drop_49 rfl (lv_at hl 1 rfl) ?_
          refine lv_aload_n hx hb dX11_drop_50 rfl (lv_at hl 1 rfl) ?_
          refine va_get (D := (dC, dI)) (ci := 9) (v := .int (nI ln)) (C := RX11) (T := TX11) (N := 55) hx hb hts inX11 hown hK hP 7 rfl rfl 26 (Nat.le_of_ble_eq_true rfl) (hts _ mw_1185) (fun _ h9 => h9) rfl dX11_drop_51 ?_
          obtain ⟨hPc, hDc, hFc⟩ := zo_sub (wc := [_, _, _, _, _]) hP hD hS hA [7, 3, 4, 5, 6] (by decide +kernel) rfl
          refine zcall (st1 := []) (va_runV (As := [.int (nI ln)]) (rest := []) ⟨hx, hb, hml, hown, hts⟩ (k_M_squeeze l dC dI cI cZ cF H.size k0 (va_up a 28 b1) (upd (upd I0 26 (nI ln)) 41 (nI (psN (nnF st tn mn) w0 ft))) J0 ln ln cl dn la lb lc ld (rfl) (by first | with_reducible assumption | omega) (by first | with_reducible assumption | omega) (by first | with_reducible assumption | omega) (by first | with_reducible assumption | omega) (hdn) (by first | with_reducible assumption | omega)) (csV_207 hts rfl rfl ⟨Nat.le_of_ble_eq_true rfl, Nat.le_of_ble_eq_true rfl⟩) (zPV2 (q0 := 0) (ci := 9) hPc hDc hK hXN rfl rfl) rfl rfl hl.1 rfl (lv_room (Nat.le_of_ble_eq_true rfl)) dX11_drop_54 ⟨show (0 + (c1 - cp)) ≤ c2 - cp by omega, show (0 + (8192 * (c1 - cp))) ≤ 8192 * (c2 - cp) by omega⟩) hS hFc hFc rfl (fun t H locs ht hB hk1 hS => ?_)
          obtain ⟨t9, la1, lb1, lc1, ld1, hs1, hs2, hs3, hP1, hD1⟩ := hB
          rw [ht] at hP1
          obtain ⟨hP, hD⟩ := zn (W2 := [_, _, _, (oa (a 22) cI (64 * cl) la1), (oa (a 23) cI (64 * cl) lb1), (oa (a 24) cI (64 * cl) lc1), (oa (a 25) cI (64 * cl) ld1), (om k0 (va_up a 28 b1) (upd (upd I0 26 (nI t9)) 41 (nI (psN (nnF st tn mn) w0 ft))) J0), _, _, _, _, _, _, _, _, _, _, _, _, _, _, _]) hP hD hk1 hFc hP1 hD1 [7, 3, 4, 5, 6] zl_202 zl_202 [7, 3, 4, 5, 6] (by decide +kernel) rfl rfl rfl rfl rfl
          clear hk1 hPc hDc hFc hP1 hD1 ht
          refine lv_aload_n hx hb dX11_drop_57 rfl (lv_at hl 1 rfl) ?_
          refine lv_bipush (v := 7) hx hb dX11_drop_58 rfl ?_
          refine lv_iload_n hx hb dX11_drop_60 rfl (lv_at hl 2 rfl) ?_
          refine lv_iconst (v := 1) hx hb dX11_drop_61 rfl ?_
          obtain ⟨hPc, hDc, hFc⟩ := zo_sub (wc := [_, _, _, _, _, _, _, _, _, _, _, _, _, _, _, _, _, _, _]) hP hD hS hA [7, 8, 9, 10, 11, 12, 13, 14, 15, 16, 17, 18, 19, 20, 21, 22, 0, 1, 2] (by decide +kernel) rfl
          refine zcall (st1 := [.int (nI (dn + 1))]) (va_runV (As := [.int 7, .int (nI f), .int 1]) (rest := []) ⟨hx, hb, hml, hown, hts⟩ (k_M_ends l dC dI cI cZ cF H.size k0 (va_up a 28 b1) (upd (upd I0 26 (nI t9)) 41 (nI (psN (nnF st tn mn) w0 ft))) J0 7 (nI f) 1 dn bs ft (psN (nnF st tn mn) w0 ft) c1 c2 kd (upd st f 2) (upd gb f (nI (dn + 1))) (upd it f (-1 : Int32)) pa pb rk wd tw tn mn cx cy (upd sa ((dn - bs) + 1) (nI (psN (nnF st tn mn) w0 ft))) sh1 wh of9 we (hft) (by first | with_reducible assumption | omega) (hdn) (hbs) (by first | with_reducible assumption | omega) (by first | with_reducible assumption | omega) (by first | with_reducible assumption | omega) (by rw [show dn + 1 - bs = dn - bs + 1 by omega]; exact up_at _ _ _) (by intro v9 h1 h2 h3; by_cases e9 : v9 = f; rw [e9]; exact hmn_1 f (by first | with_reducible assumption | omega) htn0 (by first | with_reducible assumption | omega); exact hmn_1 v9 h1 h2 (by rw [show upd st f 2 v9 = st v9 from if_neg e9] at h3; exact h3)) (by have := pw_le hpw_1; omega) (hpw_2) (by first | with_reducible assumption | omega) (hfit_2) (hmin_2) (hcE_2)) (csV_208 hts rfl rfl ⟨Nat.le_of_ble_eq_true rfl, Nat.le_of_ble_eq_true rfl⟩) (zPV2 (q0 := 0) (ci := 9) hPc hDc hK hXN rfl rfl) rfl rfl hl.1 rfl (lv_room (Nat.le_of_ble_eq_true rfl)) dX11_drop_62 ⟨show ((0 + (c1 - cp)) + (c2 - c1)) ≤ c2 - cp by omega, show ((0 + (8192 * (c1 - cp))) + (8192 * (c2 - c1))) ≤ 8192 * (c2 - cp) by omega⟩) hS hFc hFc rfl (fun t H locs ht hB hk1 hS => ?_)
          obtain ⟨b2, sh2, g5, g6, g7, g8, hP1, hD1⟩ := hB
          rw [ht] at hP1
          obtain ⟨hP, hD⟩ := zn (W2 := [_, _, _, _, (om k0 (va_up a 28 b2) (upd (upd (upd (upd (upd I0 14 0) 19 (nI (dn + 1))) 20 0) 26 (nI t9)) 41 (nI (psN (nnF (upd st f 2) tn mn) (psN (nnF st tn mn) w0 ft) ft))) J0), (oa (a 1) cI 201 kd), (oa (a 5) cI 201 (upd st f 2)), (oa (a 7) cI 201 (upd gb f (nI (dn + 1)))), (oa (a 10) cI 201 (upd it f (-1 : Int32))), (oa (a 8) cI 201 pa), (oa (a 9) cI 201 pb), (oa (a 2) cI 201 rk), (oa (a 3) cI 201 wd), (oa (a 4) cI 201 tw), (oa (a 6) cZ 201 tn), (oa (a 11) cI 201 mn), (oa (a 12) cI 8040 cx), (oa (a 13) cI 8040 cy), (oa (a 27) cI 516 (upd (upd sa ((dn - bs) + 1) (nI (psN (nnF st tn mn) w0 ft))) ((dn + 1 - bs) + 1) (nI (psN (nnF (upd st f 2) tn mn) (psN (nnF st tn mn) w0 ft) ft)))), (oa b2 cI (4096 * c2) sh2), (oa (a 16) cI 514 (upd wh (dn + 1) (7 : Int32))), (oa (a 17) cI 514 (upd of9 (dn + 1) (nI f))), (oa (a 18) cI 514 (upd we (dn + 1) (1 : Int32)))]) hP hD hk1 hFc hP1 hD1 zl_203 [false, false, false, true, true, true, true] zl_204 zl_205 (by decide +kernel) rfl rfl rfl rfl rfl
          clear hk1 hPc hDc hFc hP1 hD1 ht
          refine lv_istore_n (lv' := [(3, .int (nI (dn + 1))), (2, .int 0), (0, .ref k0), (1, .int (nI f))]) hx hb dX11_drop_65 rfl hl (Nat.le_of_ble_eq_true rfl) rfl (fun ls hl => ?_)
          refine lv_iconst (v := 1) hx hb dX11_drop_66 rfl ?_
          obtain ⟨hP9, hD9⟩ := zq_sub (wc := [_, _, _, _, _, _, _, _, _, _, _, _, _, _, _, _, _, _, _, _, _, _, _]) hP hD [4, 5, 6, 7, 8, 9, 10, 11, 12, 13, 14, 15, 16, 17, 18, 19, 20, 21, 22, 0, 1, 2, 3] rfl rfl
          refine W.widen (k := c2 - cp) (n := 8192 * (c2 - cp)) (by omega) (by omega) ?_
          rw [hQ9]
          exact W.zret (ty := .boolean) (v := 1) hx hb hr (rfl) (fun t ht hW => ⟨⟨rfl, b2, sh2, t9, la1, lb1, lc1, ld1, (by have h9 := psN_ge (nnF st tn mn) w0 ft; rw [g6 _ (by omega)]; exact g1), (fun j hj => by have h9 := psN_ge (nnF st tn mn) w0 ft; rw [g6 _ (by omega)]; exact g2 j hj), (fun g hg j hj => by have h9 := psN_mono (nnF st tn mn) w0 hg; rw [g6 _ (by omega)]; exact g3 g hg j hj), (g5), (g7), (hs1), (⟨hs2, lsZ_n hs3⟩), by rw [ht]; exact hP9, hD9⟩, hS.F ht⟩) hS.2.2 dX11_drop_67
        · exact absurd (by decide) c_4
      · have c_3 : ¬ (tn f).toInt = 0 := zc_ne rfl rfl c_3
        exfalso; omega
    · exact absurd (by decide) c_1
  · skip
    refine lv_istore_n (lv' := [(2, .int 2), (0, .ref k0), (1, .int (nI f))]) hx hb dX11_drop_5 rfl hl (Nat.le_of_ble_eq_true rfl) rfl (fun ls hl => ?_)
    refine lv_iload_n hx hb dX11_drop_6 rfl (lv_at hl 0 rfl) ?_
    refine lv_if_le (tgt := 14) hx hb dX11_drop_7 rfl (fun c_5 => ?_) (fun c_5 => ?_)
    · exact absurd c_5 (by decide)
    · exfalso; omega
set_option maxHeartbeats 4000000 in
set_option maxRecDepth 100000 in
theorem k_M_drop_r (l : Launch) (dC : Nat → ClassId) (dI : Nat → Nat → Nat) (cI cZ cF : ClassId) (sz : Nat) (k0 : Nat) (a : Nat → Nat) (I0 : Nat → Int32) (J0 : Nat → Int64) (f : Nat) (ft : Nat) (st : Nat → Int32) (tn : Nat → Int32) (hft : I0 0 = nI ft) (h200 : ft ≤ 200) (hf_t : f < ft) (hbad : ¬ ((st f).toInt = 1 ∧ (tn f).toInt = 0)) : zM l yX11_drop cX11_drop 4 (some .boolean) ({ frames := 2, cells := 0, slots := 0, locals := 42 } : Room) [.ref k0, .int (nI f)] (dC, dI) (zTy cI cZ cF) [(om k0 a I0 J0), (oa (a 5) cI 201 st), (oa (a 6) cZ 201 tn)] sz (some (.int 0)) (fun A t => ∃ (z9 : Int32), zPD (dC, dI) classes A [(om k0 a (upd (upd I0 14 z9) 15 (I0 15)) J0), (oa (a 5) cI 201 st), (oa (a 6) cZ 201 tn)] t.heap) 0 0 := by
  refine zIn (own := "ScaleShopModel") (loc := [(0, .ref k0), (1, .int (nI f))]) rfl rfl rfl rfl (fun p e s m below meth c hx hb hr hts hown hlocks hml hnm9 A hA hS hP hD hK hXN Q9 hQ9 ls hl => ?_)
  refine lv_aload_n hx hb dX11_drop_0 rfl (lv_at hl 0 rfl) ?_
  refine lv_iload_n hx hb dX11_drop_1 rfl (lv_at hl 1 rfl) ?_
  obtain ⟨hPc, hDc, hFc, hI1⟩ := zi_sub (wc := [_, _]) hP hD hS hA [0, 1] rfl rfl
  refine zcall (st1 := [.int (wrN (st f))]) (va_runV (As := [.int (nI f)]) (rest := []) ⟨hx, hb, hml, hown, hts⟩ (k_M_wrong l dC dI cI cZ cF s.heap.size k0 a I0 J0 f ft st (by first | with_reducible assumption | assumption) (by first | with_reducible assumption | omega) (by first | with_reducible assumption | omega)) (csV_209 hts rfl rfl ⟨Nat.le_of_ble_eq_true rfl, Nat.le_of_ble_eq_true rfl⟩) (zPV2 (q0 := 0) (ci := 9) hPc hDc hK hXN rfl rfl) rfl rfl hl.1 rfl (lv_room (Nat.le_of_ble_eq_true rfl)) dX11_drop_2 ⟨Nat.le_of_ble_eq_true rfl, Nat.le_of_ble_eq_true rfl⟩) hS hFc hFc rfl (fun t H locs ht hB hk1 hS => ?_)
  obtain ⟨hP1, hD1⟩ := hB
  rw [ht] at hP1
  replace hP := z0 hP hD hk1 hP1 hI1
  clear hk1 hPc hDc hFc hP1 hD1 ht hI1
  refine zz_i2 (wrN_s (st f)) (fun hs9 => ?_) (fun hs9 => ?_)
  · skip
    refine lv_istore_n (lv' := [(2, .int 0), (0, .ref k0), (1, .int (nI f))]) hx hb dX11_drop_5 rfl hl (Nat.le_of_ble_eq_true rfl) rfl (fun ls hl => ?_)
    refine lv_iload_n hx hb dX11_drop_6 rfl (lv_at hl 0 rfl) ?_
    refine lv_if_le (tgt := 14) hx hb dX11_drop_7 rfl (fun c_1 => ?_) (fun c_1 => ?_)
    · refine lv_aload_n hx hb dX11_drop_14 rfl (lv_at hl 1 rfl) ?_
      refine va_get (D := (dC, dI)) (ci := 9) (v := .ref (a 6)) (C := RX11) (T := TX11) (N := 55) hx hb hts inX11 hown hK hP 0 rfl rfl 6 (Nat.le_of_ble_eq_true rfl) (hts _ mw_1165) (fun _ h9 => h9) rfl dX11_drop_15 ?_
      refine lv_iload_n hx hb dX11_drop_18 rfl (lv_at hl 2 rfl) ?_
      have b9_2 : f < 201 := by omega
      refine z_zald hx hb hK hP 2 1 rfl rfl (e := f) rfl b9_2 (Nat.le_of_ble_eq_true rfl) dX11_drop_19 ?_
      refine lv_if_eq (tgt := 27) hx hb dX11_drop_20 rfl (fun c_3 => ?_) (fun c_3 => ?_)
      · have c_3 : (tn f).toInt = 0 := zc_eq rfl rfl c_3
        refine lv_iconst (v := 0) hx hb dX11_drop_27 rfl ?_
        refine lv_istore_n (lv' := [(2, .int 0), (0, .ref k0), (1, .int (nI f))]) hx hb dX11_drop_28 rfl hl (Nat.le_of_ble_eq_true rfl) rfl (fun ls hl => ?_)
        refine lv_iload_n hx hb dX11_drop_29 rfl (lv_at hl 0 rfl) ?_
        refine lv_if_le (tgt := 39) hx hb dX11_drop_30 rfl (fun c_4 => ?_) (fun c_4 => ?_)
        · exfalso; omega
        · exact absurd (by decide) c_4
      · have c_3 : ¬ (tn f).toInt = 0 := zc_ne rfl rfl c_3
        refine lv_iconst (v := 5) hx hb dX11_drop_23 rfl ?_
        refine lv_goto (tgt := 28) hx hb dX11_drop_24 rfl ?_
        refine lv_istore_n (lv' := [(2, .int 5), (0, .ref k0), (1, .int (nI f))]) hx hb dX11_drop_28 rfl hl (Nat.le_of_ble_eq_true rfl) rfl (fun ls hl => ?_)
        refine lv_iload_n hx hb dX11_drop_29 rfl (lv_at hl 0 rfl) ?_
        refine lv_if_le (tgt := 39) hx hb dX11_drop_30 rfl (fun c_5 => ?_) (fun c_5 => ?_)
        · exact absurd c_5 (by decide)
        · refine lv_aload_n hx hb dX11_drop_33 rfl (lv_at hl 1 rfl) ?_
          refine lv_iload_n hx hb dX11_drop_34 rfl (lv_at hl 0 rfl) ?_
          obtain ⟨hPc, hDc, hFc⟩ := zo_sub (wc := [_]) hP hD hS hA [0] rfl rfl
          refine zcall (st1 := [.int 0]) (va_runV (As := [.int 5]) (rest := []) ⟨hx, hb, hml, hown, hts⟩ (k_M_no l dC dI cI cZ cF H.size k0 a I0 J0 5 (by decide)) (csV_198 hts rfl rfl ⟨Nat.le_of_ble_eq_true rfl, Nat.le_of_ble_eq_true rfl⟩) (zPV2 (q0 := 0) (ci := 9) hPc hDc hK hXN rfl rfl) rfl rfl hl.1 rfl (lv_room (Nat.le_of_ble_eq_true rfl)) dX11_drop_35 ⟨Nat.le_of_ble_eq_true rfl, Nat.le_of_ble_eq_true rfl⟩) hS hFc hFc rfl (fun t H locs ht hB hk1 hS => ?_)
          obtain ⟨hP1, hD1⟩ := hB
          rw [ht] at hP1
          obtain ⟨hP, hD⟩ := zn (W2 := [(om k0 a (upd (upd I0 14 5) 15 (I0 15)) J0), _, _]) hP hD hk1 hFc hP1 hD1 [0] [false, true, true] [false, true, true] [0] (by decide +kernel) rfl rfl rfl rfl rfl
          clear hk1 hPc hDc hFc hP1 hD1 ht
          obtain ⟨hP9, hD9⟩ := zu_sub (wc := [_, _, _]) hP hD [true, true, true] rfl rfl
          rw [hQ9]
          exact W.zret (ty := .boolean) (v := 0) hx hb hr (rfl) (fun t ht hW => ⟨⟨rfl, 5, by rw [ht]; exact hP9, hD9⟩, hS.F ht⟩) hS.2.2 dX11_drop_38
    · exact absurd (by decide) c_1
  · skip
    refine lv_istore_n (lv' := [(2, .int 2), (0, .ref k0), (1, .int (nI f))]) hx hb dX11_drop_5 rfl hl (Nat.le_of_ble_eq_true rfl) rfl (fun ls hl => ?_)
    refine lv_iload_n hx hb dX11_drop_6 rfl (lv_at hl 0 rfl) ?_
    refine lv_if_le (tgt := 14) hx hb dX11_drop_7 rfl (fun c_6 => ?_) (fun c_6 => ?_)
    · exact absurd c_6 (by decide)
    · refine lv_iload_n hx hb dX11_drop_10 rfl (lv_at hl 0 rfl) ?_
      refine lv_goto (tgt := 28) hx hb dX11_drop_11 rfl ?_
      refine lv_istore_n (lv' := [(2, .int 2), (0, .ref k0), (1, .int (nI f))]) hx hb dX11_drop_28 rfl hl (Nat.le_of_ble_eq_true rfl) rfl (fun ls hl => ?_)
      refine lv_iload_n hx hb dX11_drop_29 rfl (lv_at hl 0 rfl) ?_
      refine lv_if_le (tgt := 39) hx hb dX11_drop_30 rfl (fun c_7 => ?_) (fun c_7 => ?_)
      · exact absurd c_7 (by decide)
      · refine lv_aload_n hx hb dX11_drop_33 rfl (lv_at hl 1 rfl) ?_
        refine lv_iload_n hx hb dX11_drop_34 rfl (lv_at hl 0 rfl) ?_
        obtain ⟨hPc, hDc, hFc⟩ := zo_sub (wc := [_]) hP hD hS hA [0] rfl rfl
        refine zcall (st1 := [.int 0]) (va_runV (As := [.int 2]) (rest := []) ⟨hx, hb, hml, hown, hts⟩ (k_M_no l dC dI cI cZ cF H.size k0 a I0 J0 2 (by decide)) (csV_198 hts rfl rfl ⟨Nat.le_of_ble_eq_true rfl, Nat.le_of_ble_eq_true rfl⟩) (zPV2 (q0 := 0) (ci := 9) hPc hDc hK hXN rfl rfl) rfl rfl hl.1 rfl (lv_room (Nat.le_of_ble_eq_true rfl)) dX11_drop_35 ⟨Nat.le_of_ble_eq_true rfl, Nat.le_of_ble_eq_true rfl⟩) hS hFc hFc rfl (fun t H locs ht hB hk1 hS => ?_)
        obtain ⟨hP1, hD1⟩ := hB
        rw [ht] at hP1
        obtain ⟨hP, hD⟩ := zn (W2 := [(om k0 a (upd (upd I0 14 2) 15 (I0 15)) J0), _, _]) hP hD hk1 hFc hP1 hD1 [0] [false, true, true] [false, true, true] [0] (by decide +kernel) rfl rfl rfl rfl rfl
        clear hk1 hPc hDc hFc hP1 hD1 ht
        obtain ⟨hP9, hD9⟩ := zu_sub (wc := [_, _, _]) hP hD [true, true, true] rfl rfl
        rw [hQ9]
        exact W.zret (ty := .boolean) (v := 0) hx hb hr (rfl) (fun t ht hW => ⟨⟨rfl, 2, by rw [ht]; exact hP9, hD9⟩, hS.F ht⟩) hS.2.2 dX11_drop_38
set_option maxHeartbeats 4000000 in
set_option maxRecDepth 100000 in
theorem k_M_dropMarked_r (l : Launch) (dC : Nat → ClassId) (dI : Nat → Nat → Nat) (cI cZ cF : ClassId) (sz : Nat) (k0 : Nat) (a : Nat → Nat) (I0 : Nat → Int32) (J0 : Nat → Int64) (e1 : Int32) (ft : Nat) (mk : Nat → Int32) (MK : Nat → Prop) (hft : I0 0 = nI ft) (h200 : ft ≤ 200) (hmk : ∀ j, j < ft → mk j = pI (MK j)) (hz : cntP MK ft = 0) : zM l yX11_dropMarked cX11_dropMarked 4 (some .int) ({ frames := 1, cells := 0, slots := 0, locals := 21 } : Room) [.ref k0, .int e1] (dC, dI) (zTy cI cZ cF) [(om k0 a I0 J0), (oa (a 50) cZ 201 mk)] sz (some (.int (-1))) (fun A t => zPD (dC, dI) classes A [(om k0 a (upd (upd I0 14 8) 15 (I0 15)) J0), (oa (a 50) cZ 201 mk)] t.heap) 0 0 := by
  refine zIn (own := "ScaleShopModel") (loc := [(0, .ref k0), (1, .int e1)]) rfl rfl rfl rfl (fun p e s m below meth c hx hb hr hts hown hlocks hml hnm9 A hA hS hP hD hK hXN Q9 hQ9 ls hl => ?_)
  refine lv_iconst (v := 0) hx hb dX11_dropMarked_0 rfl ?_
  refine lv_istore_n (lv' := [(2, .int 0), (0, .ref k0), (1, .int e1)]) hx hb dX11_dropMarked_1 rfl hl (Nat.le_of_ble_eq_true rfl) rfl (fun ls hl => ?_)
  refine lv_iconst (v := 0) hx hb dX11_dropMarked_2 rfl ?_
  refine lv_istore_n (lv' := [(3, .int 0), (2, .int 0), (0, .ref k0), (1, .int e1)]) hx hb dX11_dropMarked_3 rfl hl (Nat.le_of_ble_eq_true rfl) rfl (fun ls hl => ?_)
  have hl_4 : ∀ (n9 : Nat) (q : Nat) (H : Heap) (locs : List Loc) (ls : Array Slot), ft - q < n9 → (q ≤ ft) → va_P (dC, dI) classes [(om k0 a I0 J0), (oa (a 50) cZ 201 mk)] H → va_D A [(om k0 a I0 J0), (oa (a 50) cZ 201 mk)] → va_S A s.heap H locs → lv_has ls 4 [(3, .int (nI q)), (2, .int (nI (cntP MK q))), (0, .ref k0), (1, .int e1)] → W p l e ({ frames := 1, cells := 0, slots := 0, locals := 21 } : Room) s m ([.ref k0, .int e1] : List Value).toArray below meth c H locs 0 0 Q9 (F0 m 4 ls []) := by
    intro n9
    induction n9 with
    | zero => intro q H locs ls hm; exact absurd hm (Nat.not_lt_zero _)
    | succ n9 ih_4 =>
      intro q H locs ls hm hq hP hD hS hl
      have hcb := cntP_b MK q
      refine lv_iload_n hx hb dX11_dropMarked_4 rfl (lv_at hl 0 rfl) ?_
      refine lv_aload_n hx hb dX11_dropMarked_5 rfl (lv_at hl 2 rfl) ?_
      refine va_get (D := (dC, dI)) (ci := 9) (v := .int (I0 0)) (C := RX11) (T := TX11) (N := 55) hx hb hts inX11 hown hK hP 0 rfl rfl 0 (Nat.le_of_ble_eq_true rfl) (hts _ mw_1159) (fun _ h9 => h9) rfl dX11_dropMarked_6 ?_
      refine zz_i (v := nI ft) (hft) ?_
      have b9_2 : zlt (q) := show q < 2147483648 by omega
      have b9_3 : zlt (ft) := show ft < 2147483648 by omega
      refine lv_icmp_ge (tgt := 35) hx hb dX11_dropMarked_9 rfl (fun c_1 => ?_) (fun c_1 => ?_)
      · have c_1 : ((ft : Nat) : Int) ≤ ((q : Nat) : Int) := zc_le (nI_toInt b9_3) (nI_toInt b9_2) c_1
        refine lv_iload_n hx hb dX11_dropMarked_35 rfl (lv_at hl 1 rfl) ?_
        have b9_5 : zlt ((cntP MK q)) := show (cntP MK q) < 2147483648 by omega
        refine lv_if_ne (tgt := 46) hx hb dX11_dropMarked_36 rfl (fun c_4 => ?_) (fun c_4 => ?_)
        · have c_4 : ¬ ((cntP MK q : Nat) : Int) = 0 := zc_ne (nI_toInt b9_5) rfl c_4
          exfalso; rw [show q = ft by omega] at *; omega
        · have c_4 : ((cntP MK q : Nat) : Int) = 0 := zc_eq (nI_toInt b9_5) rfl c_4
          refine lv_aload_n hx hb dX11_dropMarked_39 rfl (lv_at hl 2 rfl) ?_
          refine lv_bipush (v := 8) hx hb dX11_dropMarked_40 rfl ?_
          obtain ⟨hPc, hDc, hFc⟩ := zo_sub (wc := [_]) hP hD hS hA [0] rfl rfl
          refine zcall (st1 := [.int (-1)]) (va_runV (As := [.int 8]) (rest := []) ⟨hx, hb, hml, hown, hts⟩ (k_M_refuse l dC dI cI cZ cF H.size k0 a I0 J0 8 (by decide)) (csV_185 hts rfl rfl ⟨Nat.le_of_ble_eq_true rfl, Nat.le_of_ble_eq_true rfl⟩) (zPV2 (q0 := 0) (ci := 9) hPc hDc hK hXN rfl rfl) rfl rfl hl.1 rfl (lv_room (Nat.le_of_ble_eq_true rfl)) dX11_dropMarked_42 ⟨Nat.le_of_ble_eq_true rfl, Nat.le_of_ble_eq_true rfl⟩) hS hFc hFc rfl (fun t H locs ht hB hk1 hS => ?_)
          obtain ⟨hP1, hD1⟩ := hB
          rw [ht] at hP1
          obtain ⟨hP, hD⟩ := zn (W2 := [(om k0 a (upd (upd I0 14 8) 15 (I0 15)) J0), _]) hP hD hk1 hFc hP1 hD1 [0] [false, true] [false, true] [0] (by decide +kernel) rfl rfl rfl rfl rfl
          clear hk1 hPc hDc hFc hP1 hD1 ht
          obtain ⟨hP9, hD9⟩ := zu_sub (wc := [_, _]) hP hD [true, true] rfl rfl
          rw [hQ9]
          exact W.iret (v := (-1)) hx hb hr (fun t ht hW => ⟨⟨rfl, by rw [ht]; exact hP9, hD9⟩, hS.F ht⟩) hS.2.2 dX11_dropMarked_45
      · have c_1 : ((q : Nat) : Int) < ((ft : Nat) : Int) := zc_nle (nI_toInt b9_3) (nI_toInt b9_2) c_1
        refine lv_iload_n hx hb dX11_dropMarked_12 rfl (lv_at hl 1 rfl) ?_
        refine lv_aload_n hx hb dX11_dropMarked_13 rfl (lv_at hl 2 rfl) ?_
        refine va_get (D := (dC, dI)) (ci := 9) (v := .ref (a 50)) (C := RX11) (T := TX11) (N := 55) hx hb hts inX11 hown hK hP 0 rfl rfl 50 (Nat.le_of_ble_eq_true rfl) (hts _ mw_1209) (fun _ h9 => h9) rfl dX11_dropMarked_14 ?_
        refine lv_iload_n hx hb dX11_dropMarked_17 rfl (lv_at hl 0 rfl) ?_
        have b9_6 : q < 201 := by omega
        refine z_zald hx hb hK hP 1 1 rfl rfl (e := q) rfl b9_6 (Nat.le_of_ble_eq_true rfl) dX11_dropMarked_18 ?_
        refine zz_i (v := pI (MK q)) (hmk q (by omega)) ?_
        refine lv_if_eq (tgt := 26) hx hb dX11_dropMarked_19 rfl (fun c_7 => ?_) (fun c_7 => ?_)
        · have c_7 : ¬ (MK q) := zp_0 c_7
          refine lv_iconst (v := 0) hx hb dX11_dropMarked_26 rfl ?_
          refine lv_iadd hx hb dX11_dropMarked_27 ?_
          refine zz_i (v := nI ((cntP MK q) + 0)) (nI_add (cntP MK q) 0) ?_
          refine lv_istore_n (lv' := [(2, .int (nI ((cntP MK q) + 0))), (3, .int (nI q)), (0, .ref k0), (1, .int e1)]) hx hb dX11_dropMarked_28 rfl hl (Nat.le_of_ble_eq_true rfl) rfl (fun ls hl => ?_)
          refine lv_iinc (v := nI (q + 1)) (lv' := [(3, .int (nI (q + 1))), (2, .int (nI ((cntP MK q) + 0))), (0, .ref k0), (1, .int e1)]) hx hb dX11_dropMarked_29 hl (k := 1) rfl (nI_add q 1) (Nat.le_of_ble_eq_true rfl) rfl (fun ls hl => ?_)
          refine lv_goto (tgt := 4) hx hb dX11_dropMarked_32 rfl ?_
          have hl9 := lv_sub hl [0, 1, 2, 3] rfl
          have e9_2 : nI (cntP MK (q + 1)) = (nI ((cntP MK q) + 0) : Int32) := by first | (rw [cntP_y (by first | with_reducible assumption | assumption)]; done) | (rw [cntP_n (by first | with_reducible assumption | assumption)]; first | done | rfl) | rfl
          have hl9 : lv_has ls 4 [(3, .int (nI (q + 1))), (2, .int (nI (cntP MK (q + 1)))), (0, .ref k0), (1, .int e1)] := by rw [e9_2]; exact hl9
          exact ih_4 (q + 1) H locs ls (by first | with_reducible assumption | omega) (by first | with_reducible assumption | omega) hP hD hS hl9
        · have c_7 : MK q := zp_1 c_7
          refine lv_iconst (v := 1) hx hb dX11_dropMarked_22 rfl ?_
          refine lv_goto (tgt := 27) hx hb dX11_dropMarked_23 rfl ?_
          refine lv_iadd hx hb dX11_dropMarked_27 ?_
          refine zz_i (v := nI ((cntP MK q) + 1)) (nI_add (cntP MK q) 1) ?_
          refine lv_istore_n (lv' := [(2, .int (nI ((cntP MK q) + 1))), (3, .int (nI q)), (0, .ref k0), (1, .int e1)]) hx hb dX11_dropMarked_28 rfl hl (Nat.le_of_ble_eq_true rfl) rfl (fun ls hl => ?_)
          refine lv_iinc (v := nI (q + 1)) (lv' := [(3, .int (nI (q + 1))), (2, .int (nI ((cntP MK q) + 1))), (0, .ref k0), (1, .int e1)]) hx hb dX11_dropMarked_29 hl (k := 1) rfl (nI_add q 1) (Nat.le_of_ble_eq_true rfl) rfl (fun ls hl => ?_)
          refine lv_goto (tgt := 4) hx hb dX11_dropMarked_32 rfl ?_
          have hl9 := lv_sub hl [0, 1, 2, 3] rfl
          have e9_2 : nI (cntP MK (q + 1)) = (nI ((cntP MK q) + 1) : Int32) := by first | (rw [cntP_y (by first | with_reducible assumption | assumption)]; done) | (rw [cntP_n (by first | with_reducible assumption | assumption)]; first | done | rfl) | rfl
          have hl9 : lv_has ls 4 [(3, .int (nI (q + 1))), (2, .int (nI (cntP MK (q + 1)))), (0, .ref k0), (1, .int e1)] := by rw [e9_2]; exact hl9
          exact ih_4 (q + 1) H locs ls (by first | with_reducible assumption | omega) (by first | with_reducible assumption | omega) hP hD hS hl9
  have e9_2 : nI (cntP MK 0) = (0 : Int32) := by rfl
  have hl9 : lv_has ls 4 [(3, .int (nI 0)), (2, .int (nI (cntP MK 0))), (0, .ref k0), (1, .int e1)] := by rw [e9_2]; exact lv_sub hl [0, 1, 2, 3] rfl
  exact hl_4 _ 0 s.heap [] ls (Nat.lt_succ_self _) (by first | with_reducible assumption | omega) hP hD hS hl9
set_option maxHeartbeats 4000000 in
set_option maxRecDepth 100000 in
theorem k_M_dropMarked_y (l : Launch) (dC : Nat → ClassId) (dI : Nat → Nat → Nat) (cI cZ cF : ClassId) (sz : Nat) (k0 : Nat) (a : Nat → Nat) (I0 : Nat → Int32) (J0 : Nat → Int64) (e1 : Int32) (ft : Nat) (dn : Nat) (bs : Nat) (w0 : Nat) (cp : Nat) (c1 : Nat) (c2 : Nat) (ln : Nat) (cl : Nat) (kd : Nat → Int32) (st : Nat → Int32) (gb : Nat → Int32) (it : Nat → Int32) (pa : Nat → Int32) (pb : Nat → Int32) (rk : Nat → Int32) (wd : Nat → Int32) (tw : Nat → Int32) (tn : Nat → Int32) (mn : Nat → Int32) (cx : Nat → Int32) (cy : Nat → Int32) (sa : Nat → Int32) (sh : Nat → Int32) (wh : Nat → Int32) (of9 : Nat → Int32) (we : Nat → Int32) (la : Nat → Int32) (lb : Nat → Int32) (lc : Nat → Int32) (ld : Nat → Int32) (mk : Nat → Int32) (MK : Nat → Prop) (hft : I0 0 = nI ft) (h200 : ft ≤ 200) (hmk : ∀ j, j < ft → mk j = pI (MK j)) (hmkl : ∀ j, j < ft → MK j → (st j).toInt = 1) (hz : 0 < cntP MK ft) (hdn : I0 19 = nI dn) (hbs : I0 21 = nI bs) (hbd : bs ≤ dn) (hd512 : dn ≤ 512) (hlc : ln ≤ 64 * cl) (hcl1 : 1 ≤ cl) (hclm : cl ≤ 1000000) (hi5_1 : (dn - bs) < 515) (hsa_1 : sa (dn - bs) = nI w0) (hmn_1 : ∀ v9, v9 < ft → (tn v9).toInt = 0 → ¬ (st v9).toInt = 0 → mn v9 = nI (nN (mn v9)) ∧ nN (mn v9) ≤ 40) (hc1_1 : 1 ≤ cp) (hpw_1 : pw cp c1) (hw0_1 : w0 ≤ 4096 * cp) (hfit_1 : psN (nnF st tn mn) w0 ft ≤ 4096 * c1) (hmin_1 : c1 = cp ∨ 2048 * c1 < psN (nnF st tn mn) w0 ft) (hcE_1 : c1 ≤ 512) (hpw_2 : pw c1 c2) (hfit_2 : psN (nnF (gnA MK ft 2 st) tn mn) (psN (nnF st tn mn) w0 ft) ft ≤ 4096 * c2) (hmin_2 : c2 = c1 ∨ 2048 * c2 < psN (nnF (gnA MK ft 2 st) tn mn) (psN (nnF st tn mn) w0 ft) ft) (hcE_2 : c2 ≤ 512) : zM l yX11_dropMarked cX11_dropMarked 4 (some .int) ({ frames := 3, cells := c2 - cp, slots := 8192 * (c2 - cp), locals := 70 } : Room) [.ref k0, .int e1] (dC, dI) (zTy cI cZ cF) [(om k0 a (upd I0 26 (nI ln)) J0), (oa (a 1) cI 201 kd), (oa (a 5) cI 201 st), (oa (a 7) cI 201 gb), (oa (a 10) cI 201 it), (oa (a 8) cI 201 pa), (oa (a 9) cI 201 pb), (oa (a 2) cI 201 rk), (oa (a 3) cI 201 wd), (oa (a 4) cI 201 tw), (oa (a 6) cZ 201 tn), (oa (a 11) cI 201 mn), (oa (a 12) cI 8040 cx), (oa (a 13) cI 8040 cy), (oa (a 27) cI 516 sa), (oa (a 28) cI (4096 * cp) sh), (oa (a 16) cI 514 wh), (oa (a 17) cI 514 of9), (oa (a 18) cI 514 we), (oa (a 22) cI (64 * cl) la), (oa (a 23) cI (64 * cl) lb), (oa (a 24) cI (64 * cl) lc), (oa (a 25) cI (64 * cl) ld), (oa (a 50) cZ 201 mk)] sz (some (.int (nI (cntP MK ft)))) (fun A t => ∃ (b2 : Nat), ∃ (sh2 : Nat → Int32), ∃ (t9 : Nat), ∃ (la1 : Nat → Int32), ∃ (lb1 : Nat → Int32), ∃ (lc1 : Nat → Int32), ∃ (ld1 : Nat → Int32), (sh2 w0 = nI ft) ∧ (∀ j, j < w0 → sh2 j = sh j) ∧ (∀ g, g < ft → ∀ j, j < 10 + 2 * (nnF st tn mn) g → sh2 (psN (nnF st tn mn) w0 g + j) = (shD kd st gb it pa pb rk wd tw (nnF st tn mn) cx cy) g j) ∧ (sh2 (psN (nnF st tn mn) w0 ft) = nI ft) ∧ (∀ g, g < ft → ∀ j, j < 10 + 2 * (nnF (gnA MK ft 2 st) tn mn) g → sh2 (psN (nnF (gnA MK ft 2 st) tn mn) (psN (nnF st tn mn) w0 ft) g + j) = (shD kd (gnA MK ft 2 st) (gnA MK ft (nI (dn + 1)) gb) (gnA MK ft (-1 : Int32) it) pa pb rk wd tw (nnF (gnA MK ft 2 st) tn mn) cx cy) g j) ∧ (t9 ≤ ln) ∧ ((∀ j, j < t9 → ∃ i, i < ln ∧ lb1 j = lb i ∧ lc1 j = lc i) ∧ lsZ dn ln la lb lc ld t9 la1 lb1 lc1 ld1 (fun _ _ _ => False)) ∧ zPD (dC, dI) classes A [(om k0 (va_up a 28 b2) (upd (upd (upd (upd (upd I0 14 0) 19 (nI (dn + 1))) 20 0) 26 (nI t9)) 41 (nI (psN (nnF (gnA MK ft 2 st) tn mn) (psN (nnF st tn mn) w0 ft) ft))) J0), (oa (a 1) cI 201 kd), (oa (a 5) cI 201 (gnA MK ft 2 st)), (oa (a 7) cI 201 (gnA MK ft (nI (dn + 1)) gb)), (oa (a 10) cI 201 (gnA MK ft (-1 : Int32) it)), (oa (a 8) cI 201 pa), (oa (a 9) cI 201 pb), (oa (a 2) cI 201 rk), (oa (a 3) cI 201 wd), (oa (a 4) cI 201 tw), (oa (a 6) cZ 201 tn), (oa (a 11) cI 201 mn), (oa (a 12) cI 8040 cx), (oa (a 13) cI 8040 cy), (oa (a 27) cI 516 (upd (upd sa (dn - bs + 1) (nI (psN (nnF st tn mn) w0 ft))) (dn + 1 - bs + 1) (nI (psN (nnF (gnA MK ft 2 st) tn mn) (psN (nnF st tn mn) w0 ft) ft)))), (oa b2 cI (4096 * c2) sh2), (oa (a 16) cI 514 (upd wh (dn + 1) e1)), (oa (a 17) cI 514 (upd of9 (dn + 1) (-1 : Int32))), (oa (a 18) cI 514 (upd we (dn + 1) (nI (cntP MK ft)))), (oa (a 22) cI (64 * cl) la1), (oa (a 23) cI (64 * cl) lb1), (oa (a 24) cI (64 * cl) lc1), (oa (a 25) cI (64 * cl) ld1), (oa (a 50) cZ 201 mk)] t.heap) (c2 - cp) (8192 * (c2 - cp)) := by
  refine zIn (own := "ScaleShopModel") (loc := [(0, .ref k0), (1, .int e1)]) rfl rfl rfl rfl (fun p e s m below meth c hx hb hr hts hown hlocks hml hnm9 A hA hS hP hD hK hXN Q9 hQ9 ls hl => ?_)
  have hq1 := pw_le hpw_1
  have hq2 := pw_le hpw_2
  refine lv_iconst (v := 0) hx hb dX11_dropMarked_0 rfl ?_
  refine lv_istore_n (lv' := [(2, .int 0), (0, .ref k0), (1, .int e1)]) hx hb dX11_dropMarked_1 rfl hl (Nat.le_of_ble_eq_true rfl) rfl (fun ls hl => ?_)
  refine lv_iconst (v := 0) hx hb dX11_dropMarked_2 rfl ?_
  refine lv_istore_n (lv' := [(3, .int 0), (2, .int 0), (0, .ref k0), (1, .int e1)]) hx hb dX11_dropMarked_3 rfl hl (Nat.le_of_ble_eq_true rfl) rfl (fun ls hl => ?_)
  have hl_4 : ∀ (n9 : Nat) (q : Nat) (H : Heap) (locs : List Loc) (ls : Array Slot), ft - q < n9 → (q ≤ ft) → va_P (dC, dI) classes [(om k0 a (upd I0 26 (nI ln)) J0), (oa (a 1) cI 201 kd), (oa (a 5) cI 201 st), (oa (a 7) cI 201 gb), (oa (a 10) cI 201 it), (oa (a 8) cI 201 pa), (oa (a 9) cI 201 pb), (oa (a 2) cI 201 rk), (oa (a 3) cI 201 wd), (oa (a 4) cI 201 tw), (oa (a 6) cZ 201 tn), (oa (a 11) cI 201 mn), (oa (a 12) cI 8040 cx), (oa (a 13) cI 8040 cy), (oa (a 27) cI 516 sa), (oa (a 28) cI (4096 * cp) sh), (oa (a 16) cI 514 wh), (oa (a 17) cI 514 of9), (oa (a 18) cI 514 we), (oa (a 22) cI (64 * cl) la), (oa (a 23) cI (64 * cl) lb), (oa (a 24) cI (64 * cl) lc), (oa (a 25) cI (64 * cl) ld), (oa (a 50) cZ 201 mk)] H → va_D A [(om k0 a (upd I0 26 (nI ln)) J0), (oa (a 1) cI 201 kd), (oa (a 5) cI 201 st), (oa (a 7) cI 201 gb), (oa (a 10) cI 201 it), (oa (a 8) cI 201 pa), (oa (a 9) cI 201 pb), (oa (a 2) cI 201 rk), (oa (a 3) cI 201 wd), (oa (a 4) cI 201 tw), (oa (a 6) cZ 201 tn), (oa (a 11) cI 201 mn), (oa (a 12) cI 8040 cx), (oa (a 13) cI 8040 cy), (oa (a 27) cI 516 sa), (oa (a 28) cI (4096 * cp) sh), (oa (a 16) cI 514 wh), (oa (a 17) cI 514 of9), (oa (a 18) cI 514 we), (oa (a 22) cI (64 * cl) la), (oa (a 23) cI (64 * cl) lb), (oa (a 24) cI (64 * cl) lc), (oa (a 25) cI (64 * cl) ld), (oa (a 50) cZ 201 mk)] → va_S A s.heap H locs → lv_has ls 4 [(3, .int (nI q)), (2, .int (nI (cntP MK q))), (0, .ref k0), (1, .int e1)] → W p l e ({ frames := 3, cells := c2 - cp, slots := 8192 * (c2 - cp), locals := 70 } : Room) s m ([.ref k0, .int e1] : List Value).toArray below meth c H locs 0 0 Q9 (F0 m 4 ls []) := by
    intro n9
    induction n9 with
    | zero => intro q H locs ls hm; exact absurd hm (Nat.not_lt_zero _)
    | succ n9 ih_4 =>
      intro q H locs ls hm hq hP hD hS hl
      have hcb := cntP_b MK q
      refine lv_iload_n hx hb dX11_dropMarked_4 rfl (lv_at hl 0 rfl) ?_
      refine lv_aload_n hx hb dX11_dropMarked_5 rfl (lv_at hl 2 rfl) ?_
      refine va_get (D := (dC, dI)) (ci := 9) (v := .int (I0 0)) (C := RX11) (T := TX11) (N := 55) hx hb hts inX11 hown hK hP 0 rfl rfl 0 (Nat.le_of_ble_eq_true rfl) (hts _ mw_1159) (fun _ h9 => h9) rfl dX11_dropMarked_6 ?_
      refine zz_i (v := nI ft) (hft) ?_
      have b9_2 : zlt (q) := show q < 2147483648 by omega
      have b9_3 : zlt (ft) := show ft < 2147483648 by omega
      refine lv_icmp_ge (tgt := 35) hx hb dX11_dropMarked_9 rfl (fun c_1 => ?_) (fun c_1 => ?_)
      · have c_1 : ((ft : Nat) : Int) ≤ ((q : Nat) : Int) := zc_le (nI_toInt b9_3) (nI_toInt b9_2) c_1
        have hqf : q = ft := (by omega)
        rw [hqf] at hl hcb
        refine lv_iload_n hx hb dX11_dropMarked_35 rfl (lv_at hl 1 rfl) ?_
        have b9_5 : zlt ((cntP MK ft)) := show (cntP MK ft) < 2147483648 by omega
        refine lv_if_ne (tgt := 46) hx hb dX11_dropMarked_36 rfl (fun c_4 => ?_) (fun c_4 => ?_)
        · have c_4 : ¬ ((cntP MK ft : Nat) : Int) = 0 := zc_ne (nI_toInt b9_5) rfl c_4
          refine lv_aload_n hx hb dX11_dropMarked_46 rfl (lv_at hl 2 rfl) ?_
          obtain ⟨hPc, hDc, hFc⟩ := zo_sub (wc := [_, _, _, _, _, _, _, _, _, _, _, _, _, _, _, _]) hP hD hS hA [0, 1, 2, 3, 4, 5, 6, 7, 8, 9, 10, 11, 12, 13, 14, 15] (by decide +kernel) rfl
          refine zcall (st1 := []) (va_runV (As := []) (rest := []) ⟨hx, hb, hml, hown, hts⟩ (k_M_begins l dC dI cI cZ cF H.size k0 a (upd I0 26 (nI ln)) J0 dn bs ft w0 cp c1 kd st gb it pa pb rk wd tw tn mn cx cy sa sh (hft) (by first | with_reducible assumption | omega) (hdn) (hbs) (by first | with_reducible assumption | omega) (by first | with_reducible assumption | omega) (hi5_1) (hsa_1) (hmn_1) (hc1_1) (hpw_1) (hw0_1) (hfit_1) (hmin_1) (hcE_1)) (csV_205 hts rfl rfl ⟨Nat.le_of_ble_eq_true rfl, Nat.le_of_ble_eq_true rfl⟩) (zPV2 (q0 := 0) (ci := 9) hPc hDc hK hXN rfl rfl) rfl rfl hl.1 rfl (lv_room (Nat.le_of_ble_eq_true rfl)) dX11_dropMarked_47 ⟨show (0 + (c1 - cp)) ≤ c2 - cp by omega, show (0 + (8192 * (c1 - cp))) ≤ 8192 * (c2 - cp) by omega⟩) hS hFc hFc rfl (fun t H locs ht hB hk1 hS => ?_)
          obtain ⟨b1, sh1, g1, g2, g3, g4, hP1, hD1⟩ := hB
          rw [ht] at hP1
          obtain ⟨hP, hD⟩ := zn (W2 := [_, _, _, _, _, _, _, _, (om k0 (va_up a 28 b1) (upd (upd I0 26 (nI ln)) 41 (nI (psN (nnF st tn mn) w0 ft))) J0), (oa (a 1) cI 201 kd), (oa (a 5) cI 201 st), (oa (a 7) cI 201 gb), (oa (a 10) cI 201 it), (oa (a 8) cI 201 pa), (oa (a 9) cI 201 pb), (oa (a 2) cI 201 rk), (oa (a 3) cI 201 wd), (oa (a 4) cI 201 tw), (oa (a 6) cZ 201 tn), (oa (a 11) cI 201 mn), (oa (a 12) cI 8040 cx), (oa (a 13) cI 8040 cy), (oa (a 27) cI 516 (upd sa ((dn - bs) + 1) (nI (psN (nnF st tn mn) w0 ft)))), (oa b1 cI (4096 * c1) sh1)]) hP hD hk1 hFc hP1 hD1 zl_80 zl_206 zl_207 zl_208 (by decide +kernel) rfl rfl rfl rfl rfl
          clear hk1 hPc hDc hFc hP1 hD1 ht
          refine lv_iconst (v := 0) hx hb dX11_dropMarked_50 rfl ?_
          refine lv_istore_n (lv' := [(3, .int 0), (2, .int (nI (cntP MK ft))), (0, .ref k0), (1, .int e1)]) hx hb dX11_dropMarked_51 rfl hl (Nat.le_of_ble_eq_true rfl) rfl (fun ls hl => ?_)
          have hl_52 : ∀ (n9 : Nat) (q : Nat) (st1 : Nat → Int32) (gb1 : Nat → Int32) (it1 : Nat → Int32) (H : Heap) (locs : List Loc) (ls : Array Slot), ft - q < n9 → (q ≤ ft) → (st1 = gnA MK q 2 st) → (gb1 = gnA MK q (nI (dn + 1)) gb) → (it1 = gnA MK q (-1 : Int32) it) → va_P (dC, dI) classes [(oa (a 16) cI 514 wh), (oa (a 17) cI 514 of9), (oa (a 18) cI 514 we), (oa (a 22) cI (64 * cl) la), (oa (a 23) cI (64 * cl) lb), (oa (a 24) cI (64 * cl) lc), (oa (a 25) cI (64 * cl) ld), (oa (a 50) cZ 201 mk), (om k0 (va_up a 28 b1) (upd (upd I0 26 (nI ln)) 41 (nI (psN (nnF st tn mn) w0 ft))) J0), (oa (a 1) cI 201 kd), (oa (a 5) cI 201 st1), (oa (a 7) cI 201 gb1), (oa (a 10) cI 201 it1), (oa (a 8) cI 201 pa), (oa (a 9) cI 201 pb), (oa (a 2) cI 201 rk), (oa (a 3) cI 201 wd), (oa (a 4) cI 201 tw), (oa (a 6) cZ 201 tn), (oa (a 11) cI 201 mn), (oa (a 12) cI 8040 cx), (oa (a 13) cI 8040 cy), (oa (a 27) cI 516 (upd sa ((dn - bs) + 1) (nI (psN (nnF st tn mn) w0 ft)))), (oa b1 cI (4096 * c1) sh1)] H → va_D A [(oa (a 16) cI 514 wh), (oa (a 17) cI 514 of9), (oa (a 18) cI 514 we), (oa (a 22) cI (64 * cl) la), (oa (a 23) cI (64 * cl) lb), (oa (a 24) cI (64 * cl) lc), (oa (a 25) cI (64 * cl) ld), (oa (a 50) cZ 201 mk), (om k0 (va_up a 28 b1) (upd (upd I0 26 (nI ln)) 41 (nI (psN (nnF st tn mn) w0 ft))) J0), (oa (a 1) cI 201 kd), (oa (a 5) cI 201 st1), (oa (a 7) cI 201 gb1), (oa (a 10) cI 201 it1), (oa (a 8) cI 201 pa), (oa (a 9) cI 201 pb), (oa (a 2) cI 201 rk), (oa (a 3) cI 201 wd), (oa (a 4) cI 201 tw), (oa (a 6) cZ 201 tn), (oa (a 11) cI 201 mn), (oa (a 12) cI 8040 cx), (oa (a 13) cI 8040 cy), (oa (a 27) cI 516 (upd sa ((dn - bs) + 1) (nI (psN (nnF st tn mn) w0 ft)))), (oa b1 cI (4096 * c1) sh1)] → va_S A s.heap H locs → lv_has ls 4 [(3, .int (nI q)), (2, .int (nI (cntP MK ft))), (0, .ref k0), (1, .int e1)] → W p l e ({ frames := 3, cells := c2 - cp, slots := 8192 * (c2 - cp), locals := 70 } : Room) s m ([.ref k0, .int e1] : List Value).toArray below meth c H locs (c1 - cp) (8192 * (c1 - cp)) Q9 (F0 m 52 ls []) := by
            intro n9
            induction n9 with
            | zero => intro q st1 gb1 it1 H locs ls hm; exact absurd hm (Nat.not_lt_zero _)
            | succ n9 ih_52 =>
              intro q st1 gb1 it1 H locs ls hm hq h_st h_gb h_it hP hD hS hl
              refine lv_iload_n hx hb dX11_dropMarked_52 rfl (lv_at hl 0 rfl) ?_
              refine lv_aload_n hx hb dX11_dropMarked_53 rfl (lv_at hl 2 rfl) ?_
              refine va_get (D := (dC, dI)) (ci := 9) (v := .int (I0 0)) (C := RX11) (T := TX11) (N := 55) hx hb hts inX11 hown hK hP 8 rfl rfl 0 (Nat.le_of_ble_eq_true rfl) (hts _ mw_1159) (fun _ h9 => h9) rfl dX11_dropMarked_54 ?_
              refine zz_i (v := nI ft) (hft) ?_
              have b9_7 : zlt (q) := show q < 2147483648 by omega
              refine lv_icmp_ge (tgt := 81) hx hb dX11_dropMarked_57 rfl (fun c_6 => ?_) (fun c_6 => ?_)
              · have c_6 : ((ft : Nat) : Int) ≤ ((q : Nat) : Int) := zc_le (nI_toInt b9_3) (nI_toInt b9_7) c_6
                have hqe : q = ft := (by omega)
                rw [hqe] at h_st h_gb h_it
                rw [h_st, h_gb, h_it] at hP hD
                refine lv_aload_n hx hb dX11_dropMarked_81 rfl (lv_at hl 2 rfl) ?_
                refine lv_aload_n hx hb dX11_dropMarked_82 rfl (lv_at hl 2 rfl) ?_
                refine va_get (D := (dC, dI)) (ci := 9) (v := .int (nI ln)) (C := RX11) (T := TX11) (N := 55) hx hb hts inX11 hown hK hP 8 rfl rfl 26 (Nat.le_of_ble_eq_true rfl) (hts _ mw_1185) (fun _ h9 => h9) rfl dX11_dropMarked_83 ?_
                obtain ⟨hPc, hDc, hFc⟩ := zo_sub (wc := [_, _, _, _, _]) hP hD hS hA [8, 3, 4, 5, 6] (by decide +kernel) rfl
                refine zcall (st1 := []) (va_runV (As := [.int (nI ln)]) (rest := []) ⟨hx, hb, hml, hown, hts⟩ (k_M_squeeze l dC dI cI cZ cF H.size k0 (va_up a 28 b1) (upd (upd I0 26 (nI ln)) 41 (nI (psN (nnF st tn mn) w0 ft))) J0 ln ln cl dn la lb lc ld (rfl) (by first | with_reducible assumption | omega) (by first | with_reducible assumption | omega) (by first | with_reducible assumption | omega) (by first | with_reducible assumption | omega) (hdn) (by first | with_reducible assumption | omega)) (csV_207 hts rfl rfl ⟨Nat.le_of_ble_eq_true rfl, Nat.le_of_ble_eq_true rfl⟩) (zPV2 (q0 := 0) (ci := 9) hPc hDc hK hXN rfl rfl) rfl rfl hl.1 rfl (lv_room (Nat.le_of_ble_eq_true rfl)) dX11_dropMarked_86 ⟨show c1 - cp ≤ c2 - cp by omega, show 8192 * (c1 - cp) ≤ 8192 * (c2 - cp) by omega⟩) hS hFc hFc rfl (fun t H locs ht hB hk1 hS => ?_)
                obtain ⟨t9, la1, lb1, lc1, ld1, hs1, hs2, hs3, hP1, hD1⟩ := hB
                rw [ht] at hP1
                obtain ⟨hP, hD⟩ := zn (W2 := [_, _, _, (oa (a 22) cI (64 * cl) la1), (oa (a 23) cI (64 * cl) lb1), (oa (a 24) cI (64 * cl) lc1), (oa (a 25) cI (64 * cl) ld1), _, (om k0 (va_up a 28 b1) (upd (upd I0 26 (nI t9)) 41 (nI (psN (nnF st tn mn) w0 ft))) J0), _, _, _, _, _, _, _, _, _, _, _, _, _, _, _]) hP hD hk1 hFc hP1 hD1 [8, 3, 4, 5, 6] zl_209 zl_209 [8, 3, 4, 5, 6] (by decide +kernel) rfl rfl rfl rfl rfl
                clear hk1 hPc hDc hFc hP1 hD1 ht
                refine lv_aload_n hx hb dX11_dropMarked_89 rfl (lv_at hl 2 rfl) ?_
                refine lv_iload_n hx hb dX11_dropMarked_90 rfl (lv_at hl 3 rfl) ?_
                refine lv_iconst (v := (-1)) hx hb dX11_dropMarked_91 rfl ?_
                refine lv_iload_n hx hb dX11_dropMarked_92 rfl (lv_at hl 1 rfl) ?_
                obtain ⟨hPc, hDc, hFc⟩ := zo_sub (wc := [_, _, _, _, _, _, _, _, _, _, _, _, _, _, _, _, _, _, _]) hP hD hS hA [8, 9, 10, 11, 12, 13, 14, 15, 16, 17, 18, 19, 20, 21, 22, 23, 0, 1, 2] (by decide +kernel) rfl
                refine zcall (st1 := [.int (nI (dn + 1))]) (va_runV (As := [.int e1, .int (-1), .int (nI (cntP MK ft))]) (rest := []) ⟨hx, hb, hml, hown, hts⟩ (k_M_ends l dC dI cI cZ cF H.size k0 (va_up a 28 b1) (upd (upd I0 26 (nI t9)) 41 (nI (psN (nnF st tn mn) w0 ft))) J0 e1 (-1) (nI (cntP MK ft)) dn bs ft (psN (nnF st tn mn) w0 ft) c1 c2 kd (gnA MK ft 2 st) (gnA MK ft (nI (dn + 1)) gb) (gnA MK ft (-1 : Int32) it) pa pb rk wd tw tn mn cx cy (upd sa ((dn - bs) + 1) (nI (psN (nnF st tn mn) w0 ft))) sh1 wh of9 we (hft) (by first | with_reducible assumption | omega) (hdn) (hbs) (by first | with_reducible assumption | omega) (by first | with_reducible assumption | omega) (by first | with_reducible assumption | omega) (by rw [show dn + 1 - bs = dn - bs + 1 by omega]; exact up_at _ _ _) (by intro v9 h1 h2 h3; by_cases e9 : MK v9; exact hmn_1 v9 h1 h2 (by have := hmkl v9 h1 e9; omega); exact hmn_1 v9 h1 h2 (by rw [show gnA MK ft 2 st v9 = st v9 from if_neg (fun h => e9 h.2)] at h3; exact h3)) (by have := pw_le hpw_1; omega) (hpw_2) (by first | with_reducible assumption | omega) (hfit_2) (hmin_2) (hcE_2)) (csV_208 hts rfl rfl ⟨Nat.le_of_ble_eq_true rfl, Nat.le_of_ble_eq_true rfl⟩) (zPV2 (q0 := 0) (ci := 9) hPc hDc hK hXN rfl rfl) rfl rfl hl.1 rfl (lv_room (Nat.le_of_ble_eq_true rfl)) dX11_dropMarked_93 ⟨show (c1 - cp + (c2 - c1)) ≤ c2 - cp by omega, show (8192 * (c1 - cp) + (8192 * (c2 - c1))) ≤ 8192 * (c2 - cp) by omega⟩) hS hFc hFc rfl (fun t H locs ht hB hk1 hS => ?_)
                obtain ⟨b2, sh2, g5, g6, g7, g8, hP1, hD1⟩ := hB
                rw [ht] at hP1
                obtain ⟨hP, hD⟩ := zn (W2 := [_, _, _, _, _, (om k0 (va_up a 28 b2) (upd (upd (upd (upd (upd I0 14 0) 19 (nI (dn + 1))) 20 0) 26 (nI t9)) 41 (nI (psN (nnF (gnA MK ft 2 st) tn mn) (psN (nnF st tn mn) w0 ft) ft))) J0), (oa (a 1) cI 201 kd), (oa (a 5) cI 201 (gnA MK ft 2 st)), (oa (a 7) cI 201 (gnA MK ft (nI (dn + 1)) gb)), (oa (a 10) cI 201 (gnA MK ft (-1 : Int32) it)), (oa (a 8) cI 201 pa), (oa (a 9) cI 201 pb), (oa (a 2) cI 201 rk), (oa (a 3) cI 201 wd), (oa (a 4) cI 201 tw), (oa (a 6) cZ 201 tn), (oa (a 11) cI 201 mn), (oa (a 12) cI 8040 cx), (oa (a 13) cI 8040 cy), (oa (a 27) cI 516 (upd (upd sa ((dn - bs) + 1) (nI (psN (nnF st tn mn) w0 ft))) ((dn + 1 - bs) + 1) (nI (psN (nnF (gnA MK ft 2 st) tn mn) (psN (nnF st tn mn) w0 ft) ft)))), (oa b2 cI (4096 * c2) sh2), (oa (a 16) cI 514 (upd wh (dn + 1) e1)), (oa (a 17) cI 514 (upd of9 (dn + 1) (-1 : Int32))), (oa (a 18) cI 514 (upd we (dn + 1) (nI (cntP MK ft))))]) hP hD hk1 hFc hP1 hD1 zl_210 zl_109 zl_211 zl_212 (by decide +kernel) rfl rfl rfl rfl rfl
                clear hk1 hPc hDc hFc hP1 hD1 ht
                refine lv_istore_n (lv' := [(3, .int (nI (dn + 1))), (2, .int (nI (cntP MK ft))), (0, .ref k0), (1, .int e1)]) hx hb dX11_dropMarked_96 rfl hl (Nat.le_of_ble_eq_true rfl) rfl (fun ls hl => ?_)
                refine lv_iload_n hx hb dX11_dropMarked_97 rfl (lv_at hl 1 rfl) ?_
                obtain ⟨hP9, hD9⟩ := zq_sub (wc := [_, _, _, _, _, _, _, _, _, _, _, _, _, _, _, _, _, _, _, _, _, _, _, _]) hP hD [5, 6, 7, 8, 9, 10, 11, 12, 13, 14, 15, 16, 17, 18, 19, 20, 21, 22, 23, 0, 1, 2, 3, 4] rfl rfl
                refine W.widen (k := c2 - cp) (n := 8192 * (c2 - cp)) (by omega) (by omega) ?_
                rw [hQ9]
                exact W.iret (v := nI (cntP MK ft)) hx hb hr (fun t ht hW => ⟨⟨rfl, b2, sh2, t9, la1, lb1, lc1, ld1, (by have h9 := psN_ge (nnF st tn mn) w0 ft; rw [g6 _ (by omega)]; exact g1), (fun j hj => by have h9 := psN_ge (nnF st tn mn) w0 ft; rw [g6 _ (by omega)]; exact g2 j hj), (fun g hg j hj => by have h9 := psN_mono (nnF st tn mn) w0 hg; rw [g6 _ (by omega)]; exact g3 g hg j hj), (g5), (g7), (hs1), (⟨hs2, lsZ_n hs3⟩), by rw [ht]; exact hP9, hD9⟩, hS.F ht⟩) hS.2.2 dX11_dropMarked_98
              · have c_6 : ((q : Nat) : Int) < ((ft : Nat) : Int) := zc_nle (nI_toInt b9_3) (nI_toInt b9_7) c_6
                refine lv_aload_n hx hb dX11_dropMarked_60 rfl (lv_at hl 2 rfl) ?_
                refine va_get (D := (dC, dI)) (ci := 9) (v := .ref (a 50)) (C := RX11) (T := TX11) (N := 55) hx hb hts inX11 hown hK hP 8 rfl rfl 50 (Nat.le_of_ble_eq_true rfl) (hts _ mw_1209) (fun _ h9 => h9) rfl dX11_dropMarked_61 ?_
                refine lv_iload_n hx hb dX11_dropMarked_64 rfl (lv_at hl 0 rfl) ?_
                have b9_8 : q < 201 := by omega
                refine z_zald hx hb hK hP 7 1 rfl rfl (e := q) rfl b9_8 (Nat.le_of_ble_eq_true rfl) dX11_dropMarked_65 ?_
                refine zz_i (v := pI (MK q)) (hmk q (by omega)) ?_
                refine lv_if_eq (tgt := 75) hx hb dX11_dropMarked_66 rfl (fun c_9 => ?_) (fun c_9 => ?_)
                · have c_9 : ¬ (MK q) := zp_0 c_9
                  refine lv_iinc (v := nI (q + 1)) (lv' := [(3, .int (nI (q + 1))), (2, .int (nI (cntP MK ft))), (0, .ref k0), (1, .int e1)]) hx hb dX11_dropMarked_75 hl (k := 0) rfl (nI_add q 1) (Nat.le_of_ble_eq_true rfl) rfl (fun ls hl => ?_)
                  refine lv_goto (tgt := 52) hx hb dX11_dropMarked_78 rfl ?_
                  refine W.widen (k := c1 - cp) (n := 8192 * (c1 - cp)) (by omega) (by omega) ?_
                  exact ih_52 (q + 1) st1 gb1 it1 H locs ls (by first | with_reducible assumption | omega) (by first | with_reducible assumption | omega) (by first | exact gnA_y h_st (by first | with_reducible assumption | assumption) | exact gnA_n h_st (by first | with_reducible assumption | assumption)) (by first | exact gnA_y h_gb (by first | with_reducible assumption | assumption) | exact gnA_n h_gb (by first | with_reducible assumption | assumption)) (by first | exact gnA_y h_it (by first | with_reducible assumption | assumption) | exact gnA_n h_it (by first | with_reducible assumption | assumption)) hP hD hS (lv_sub hl [0, 1, 2, 3] rfl)
                · have c_9 : MK q := zp_1 c_9
                  refine lv_aload_n hx hb dX11_dropMarked_69 rfl (lv_at hl 2 rfl) ?_
                  refine lv_iload_n hx hb dX11_dropMarked_70 rfl (lv_at hl 0 rfl) ?_
                  refine lv_iconst (v := (-1)) hx hb dX11_dropMarked_71 rfl ?_
                  obtain ⟨hPc, hDc, hFc⟩ := zo_sub (wc := [_, _, _, _]) hP hD hS hA [8, 10, 11, 12] (by decide +kernel) rfl
                  refine zcall (st1 := []) (va_runV (As := [.int (nI q), .int (-1)]) (rest := []) ⟨hx, hb, hml, hown, hts⟩ (k_M_gone_n l dC dI cI cZ cF H.size k0 (va_up a 28 b1) (upd (upd I0 26 (nI ln)) 41 (nI (psN (nnF st tn mn) w0 ft))) J0 q dn (-1) st1 gb1 it1 (by first | with_reducible assumption | omega) (hdn)) (csV_213 hts rfl rfl ⟨Nat.le_of_ble_eq_true rfl, Nat.le_of_ble_eq_true rfl⟩) (zPV2 (q0 := 0) (ci := 9) hPc hDc hK hXN rfl rfl) rfl rfl hl.1 rfl (lv_room (Nat.le_of_ble_eq_true rfl)) dX11_dropMarked_72 ⟨show c1 - cp ≤ c2 - cp by omega, show 8192 * (c1 - cp) ≤ 8192 * (c2 - cp) by omega⟩) hS hFc hFc rfl (fun t H locs ht hB hk1 hS => ?_)
                  obtain ⟨hP1, hD1⟩ := hB
                  rw [ht] at hP1
                  obtain ⟨hP, hD⟩ := zn (W2 := [_, _, _, _, _, _, _, _, _, _, (oa (a 5) cI 201 (upd st1 q 2)), (oa (a 7) cI 201 (upd gb1 q (nI (dn + 1)))), (oa (a 10) cI 201 (upd it1 q (-1 : Int32))), _, _, _, _, _, _, _, _, _, _, _]) hP hD hk1 hFc hP1 hD1 [8, 10, 11, 12] zl_213 zl_213 [8, 10, 11, 12] (by decide +kernel) rfl rfl rfl rfl rfl
                  clear hk1 hPc hDc hFc hP1 hD1 ht
                  refine lv_iinc (v := nI (q + 1)) (lv' := [(3, .int (nI (q + 1))), (2, .int (nI (cntP MK ft))), (0, .ref k0), (1, .int e1)]) hx hb dX11_dropMarked_75 hl (k := 0) rfl (nI_add q 1) (Nat.le_of_ble_eq_true rfl) rfl (fun ls hl => ?_)
                  refine lv_goto (tgt := 52) hx hb dX11_dropMarked_78 rfl ?_
                  refine W.widen (k := c1 - cp) (n := 8192 * (c1 - cp)) (by omega) (by omega) ?_
                  exact ih_52 (q + 1) (upd st1 q 2) (upd gb1 q (nI (dn + 1))) (upd it1 q (-1 : Int32)) H locs ls (by first | with_reducible assumption | omega) (by first | with_reducible assumption | omega) (by first | exact gnA_y h_st (by first | with_reducible assumption | assumption) | exact gnA_n h_st (by first | with_reducible assumption | assumption)) (by first | exact gnA_y h_gb (by first | with_reducible assumption | assumption) | exact gnA_n h_gb (by first | with_reducible assumption | assumption)) (by first | exact gnA_y h_it (by first | with_reducible assumption | assumption) | exact gnA_n h_it (by first | with_reducible assumption | assumption)) hP hD hS (lv_sub hl [0, 1, 2, 3] rfl)
          refine W.widen (k := c1 - cp) (n := 8192 * (c1 - cp)) (by omega) (by omega) ?_
          exact hl_52 _ 0 st gb it H locs ls (Nat.lt_succ_self _) (by first | with_reducible assumption | omega) (gnA_0 _ _ _) (gnA_0 _ _ _) (gnA_0 _ _ _) hP hD hS (lv_sub hl [0, 1, 2, 3] rfl)
        · have c_4 : ((cntP MK ft : Nat) : Int) = 0 := zc_eq (nI_toInt b9_5) rfl c_4
          exfalso; omega
      · have c_1 : ((q : Nat) : Int) < ((ft : Nat) : Int) := zc_nle (nI_toInt b9_3) (nI_toInt b9_2) c_1
        refine lv_iload_n hx hb dX11_dropMarked_12 rfl (lv_at hl 1 rfl) ?_
        refine lv_aload_n hx hb dX11_dropMarked_13 rfl (lv_at hl 2 rfl) ?_
        refine va_get (D := (dC, dI)) (ci := 9) (v := .ref (a 50)) (C := RX11) (T := TX11) (N := 55) hx hb hts inX11 hown hK hP 0 rfl rfl 50 (Nat.le_of_ble_eq_true rfl) (hts _ mw_1209) (fun _ h9 => h9) rfl dX11_dropMarked_14 ?_
        refine lv_iload_n hx hb dX11_dropMarked_17 rfl (lv_at hl 0 rfl) ?_
        have b9_10 : q < 201 := by omega
        refine z_zald hx hb hK hP 23 1 rfl rfl (e := q) rfl b9_10 (Nat.le_of_ble_eq_true rfl) dX11_dropMarked_18 ?_
        refine zz_i (v := pI (MK q)) (hmk q (by omega)) ?_
        refine lv_if_eq (tgt := 26) hx hb dX11_dropMarked_19 rfl (fun c_11 => ?_) (fun c_11 => ?_)
        · have c_11 : ¬ (MK q) := zp_0 c_11
          refine lv_iconst (v := 0) hx hb dX11_dropMarked_26 rfl ?_
          refine lv_iadd hx hb dX11_dropMarked_27 ?_
          refine zz_i (v := nI ((cntP MK q) + 0)) (nI_add (cntP MK q) 0) ?_
          refine lv_istore_n (lv' := [(2, .int (nI ((cntP MK q) + 0))), (3, .int (nI q)), (0, .ref k0), (1, .int e1)]) hx hb dX11_dropMarked_28 rfl hl (Nat.le_of_ble_eq_true rfl) rfl (fun ls hl => ?_)
          refine lv_iinc (v := nI (q + 1)) (lv' := [(3, .int (nI (q + 1))), (2, .int (nI ((cntP MK q) + 0))), (0, .ref k0), (1, .int e1)]) hx hb dX11_dropMarked_29 hl (k := 1) rfl (nI_add q 1) (Nat.le_of_ble_eq_true rfl) rfl (fun ls hl => ?_)
          refine lv_goto (tgt := 4) hx hb dX11_dropMarked_32 rfl ?_
          have hl9 := lv_sub hl [0, 1, 2, 3] rfl
          have e9_2 : nI (cntP MK (q + 1)) = (nI ((cntP MK q) + 0) : Int32) := by first | (rw [cntP_y (by first | with_reducible assumption | assumption)]; done) | (rw [cntP_n (by first | with_reducible assumption | assumption)]; first | done | rfl) | rfl
          have hl9 : lv_has ls 4 [(3, .int (nI (q + 1))), (2, .int (nI (cntP MK (q + 1)))), (0, .ref k0), (1, .int e1)] := by rw [e9_2]; exact hl9
          exact ih_4 (q + 1) H locs ls (by first | with_reducible assumption | omega) (by first | with_reducible assumption | omega) hP hD hS hl9
        · have c_11 : MK q := zp_1 c_11
          refine lv_iconst (v := 1) hx hb dX11_dropMarked_22 rfl ?_
          refine lv_goto (tgt := 27) hx hb dX11_dropMarked_23 rfl ?_
          refine lv_iadd hx hb dX11_dropMarked_27 ?_
          refine zz_i (v := nI ((cntP MK q) + 1)) (nI_add (cntP MK q) 1) ?_
          refine lv_istore_n (lv' := [(2, .int (nI ((cntP MK q) + 1))), (3, .int (nI q)), (0, .ref k0), (1, .int e1)]) hx hb dX11_dropMarked_28 rfl hl (Nat.le_of_ble_eq_true rfl) rfl (fun ls hl => ?_)
          refine lv_iinc (v := nI (q + 1)) (lv' := [(3, .int (nI (q + 1))), (2, .int (nI ((cntP MK q) + 1))), (0, .ref k0), (1, .int e1)]) hx hb dX11_dropMarked_29 hl (k := 1) rfl (nI_add q 1) (Nat.le_of_ble_eq_true rfl) rfl (fun ls hl => ?_)
          refine lv_goto (tgt := 4) hx hb dX11_dropMarked_32 rfl ?_
          have hl9 := lv_sub hl [0, 1, 2, 3] rfl
          have e9_2 : nI (cntP MK (q + 1)) = (nI ((cntP MK q) + 1) : Int32) := by first | (rw [cntP_y (by first | with_reducible assumption | assumption)]; done) | (rw [cntP_n (by first | with_reducible assumption | assumption)]; first | done | rfl) | rfl
          have hl9 : lv_has ls 4 [(3, .int (nI (q + 1))), (2, .int (nI (cntP MK (q + 1)))), (0, .ref k0), (1, .int e1)] := by rw [e9_2]; exact hl9
          exact ih_4 (q + 1) H locs ls (by first | with_reducible assumption | omega) (by first | with_reducible assumption | omega) hP hD hS hl9
  have e9_2 : nI (cntP MK 0) = (0 : Int32) := by rfl
  have hl9 : lv_has ls 4 [(3, .int (nI 0)), (2, .int (nI (cntP MK 0))), (0, .ref k0), (1, .int e1)] := by rw [e9_2]; exact lv_sub hl [0, 1, 2, 3] rfl
  exact hl_4 _ 0 s.heap [] ls (Nat.lt_succ_self _) (by first | with_reducible assumption | omega) hP hD hS hl9
end
