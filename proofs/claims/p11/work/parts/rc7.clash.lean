section
set_option maxHeartbeats 4000000 in
set_option maxRecDepth 100000 in
theorem k_M_isClash (l : Launch) (dC : Nat → ClassId) (dI : Nat → Nat → Nat) (cI cZ cF : ClassId) (sz : Nat) (k0 : Nat) (a : Nat → Nat) (I0 : Nat → Int32) (J0 : Nat → Int64) (f : Nat) (g : Nat) (ft : Nat) (gp9 : Int32) (st : Nat → Int32) (tn : Nat → Int32) (kd : Nat → Int32) (mn : Nat → Int32) (cx : Nat → Int32) (cy : Nat → Int32) (S0 : Nat → Int32) (wd : Nat → Int32) (hft : I0 0 = nI ft) (h200 : ft ≤ 200) (hwf : ∀ q, lvF ft st tn q → wfM mn cx cy q) (hef : ∀ q, lvF ft st tn q → 1 ≤ eO (kd q).toInt (nN (mn q))) (hwd : ∀ q, q < ft → 0 ≤ (wd q).toInt ∧ (wd q).toInt ≤ 100) (hgp : 0 ≤ gp9.toInt ∧ gp9.toInt ≤ 200) (hf_t : f < ft) (hg_t : g < ft) : zM l yX11_isClash cX11_isClash 6 (some .boolean) ({ frames := 5, cells := 0, slots := 0, locals := 129 } : Room) [.ref k0, .int (nI f), .int (nI g), .int gp9] (dC, dI) (zTy cI cZ cF) [(om k0 a I0 J0), (oa (a 5) cI 201 st), (oa (a 6) cZ 201 tn), (oa (a 1) cI 201 kd), (oa (a 11) cI 201 mn), (oa (a 12) cI 8040 cx), (oa (a 13) cI 8040 cy), (oa (a 32) cI 8 S0), (oa (a 3) cI 201 wd)] sz (some (.int (pI (clP ft st tn kd mn cx cy wd gp9 f g)))) (fun A t => ∃ (u9 : Int64), ∃ (d9 : Int64), ∃ (S1 : Nat → Int32), zPD (dC, dI) classes A [(om k0 a I0 (vp_updL (vp_updL J0 48 u9) 49 d9)), (oa (a 5) cI 201 st), (oa (a 6) cZ 201 tn), (oa (a 1) cI 201 kd), (oa (a 11) cI 201 mn), (oa (a 12) cI 8040 cx), (oa (a 13) cI 8040 cy), (oa (a 32) cI 8 S1), (oa (a 3) cI 201 wd)] t.heap) 0 0 := by
  refine zIn (own := "ScaleShopModel") (loc := [(0, .ref k0), (1, .int (nI f)), (2, .int (nI g)), (3, .int gp9)]) rfl rfl rfl rfl (fun p e s m below meth c hx hb hr hts hown hlocks hml hnm9 A hA hS hP hD hK hXN Q9 hQ9 ls hl => ?_)
  refine lv_aload_n hx hb dX11_isClash_0 rfl (lv_at hl 0 rfl) ?_
  refine lv_iload_n hx hb dX11_isClash_1 rfl (lv_at hl 1 rfl) ?_
  obtain ⟨hPc, hDc, hFc, hI1⟩ := zi_sub (wc := [_, _, _]) hP hD hS hA [0, 1, 2] rfl rfl
  refine zcall (st1 := [.int (pI (f < ft ∧ (st f).toInt = 1 ∧ (tn f).toInt = 0))]) (va_runV (As := [.int (nI f)]) (rest := []) ⟨hx, hb, hml, hown, hts⟩ (k_M_is_n l dC dI cI cZ cF s.heap.size k0 a I0 J0 f ft st tn (by first | with_reducible assumption | assumption) (by first | with_reducible assumption | omega) (by first | with_reducible assumption | omega)) (csV_179 hts rfl rfl ⟨Nat.le_of_ble_eq_true rfl, Nat.le_of_ble_eq_true rfl⟩) (zPV2 (q0 := 0) (ci := 9) hPc hDc hK hXN rfl rfl) rfl rfl hl.1 rfl (lv_room (Nat.le_of_ble_eq_true rfl)) dX11_isClash_2 ⟨Nat.le_of_ble_eq_true rfl, Nat.le_of_ble_eq_true rfl⟩) hS hFc hFc rfl (fun t H locs ht hB hk1 hS => ?_)
  obtain ⟨hP1, hD1⟩ := hB
  rw [ht] at hP1
  replace hP := z0 hP hD hk1 hP1 hI1
  clear hk1 hPc hDc hFc hP1 hD1 ht hI1
  refine lv_if_eq (tgt := 25) hx hb dX11_isClash_5 rfl (fun c_1 => ?_) (fun c_1 => ?_)
  · have c_1 : ¬ (f < ft ∧ (st f).toInt = 1 ∧ (tn f).toInt = 0) := zp_0 c_1
    refine lv_iconst (v := 0) hx hb dX11_isClash_25 rfl ?_
    obtain ⟨hP9, hD9⟩ := zu_sub (wc := [_, _, _, _, _, _, _, _, _]) hP hD [true, true, true, true, true, true, true, true, true] rfl rfl
    rw [hQ9]
    exact W.zret (ty := .boolean) (v := 0) hx hb hr (rfl) (fun t ht hW => ⟨⟨congrArg (fun z => Outcome.returned (some (Value.int z))) (show (0 : Int32) = pI (clP ft st tn kd mn cx cy wd gp9 f g) from (zp_f (by first | exact fun h => absurd h.1 (by first | with_reducible assumption | assumption) | exact fun h => absurd h.2.1 (by first | with_reducible assumption | assumption) | exact fun h => absurd (by first | with_reducible assumption | assumption) h.2.2.1)).symm), (J0 48), (J0 49), S0, by rw [ht]; exact hP9, hD9⟩, hS.F ht⟩) hS.2.2 dX11_isClash_26
  · have c_1 : f < ft ∧ (st f).toInt = 1 ∧ (tn f).toInt = 0 := zp_1 c_1
    have hw_ff := hwf f (by first | with_reducible assumption | assumption)
    have hm_ff := hw_ff.1
    have hn_ff := hw_ff.2.1
    have hp_ff := hw_ff.2.2
    have he_ff := hef f (by first | with_reducible assumption | assumption)
    refine lv_aload_n hx hb dX11_isClash_8 rfl (lv_at hl 0 rfl) ?_
    refine lv_iload_n hx hb dX11_isClash_9 rfl (lv_at hl 2 rfl) ?_
    obtain ⟨hPc, hDc, hFc, hI1⟩ := zi_sub (wc := [_, _, _]) hP hD hS hA [0, 1, 2] rfl rfl
    refine zcall (st1 := [.int (pI (g < ft ∧ (st g).toInt = 1 ∧ (tn g).toInt = 0))]) (va_runV (As := [.int (nI g)]) (rest := []) ⟨hx, hb, hml, hown, hts⟩ (k_M_is_n l dC dI cI cZ cF H.size k0 a I0 J0 g ft st tn (by first | with_reducible assumption | assumption) (by first | with_reducible assumption | omega) (by first | with_reducible assumption | omega)) (csV_179 hts rfl rfl ⟨Nat.le_of_ble_eq_true rfl, Nat.le_of_ble_eq_true rfl⟩) (zPV2 (q0 := 0) (ci := 9) hPc hDc hK hXN rfl rfl) rfl rfl hl.1 rfl (lv_room (Nat.le_of_ble_eq_true rfl)) dX11_isClash_10 ⟨Nat.le_of_ble_eq_true rfl, Nat.le_of_ble_eq_true rfl⟩) hS hFc hFc rfl (fun t H locs ht hB hk1 hS => ?_)
    obtain ⟨hP1, hD1⟩ := hB
    rw [ht] at hP1
    replace hP := z0 hP hD hk1 hP1 hI1
    clear hk1 hPc hDc hFc hP1 hD1 ht hI1
    refine lv_if_eq (tgt := 25) hx hb dX11_isClash_13 rfl (fun c_2 => ?_) (fun c_2 => ?_)
    · have c_2 : ¬ (g < ft ∧ (st g).toInt = 1 ∧ (tn g).toInt = 0) := zp_0 c_2
      refine lv_iconst (v := 0) hx hb dX11_isClash_25 rfl ?_
      obtain ⟨hP9, hD9⟩ := zu_sub (wc := [_, _, _, _, _, _, _, _, _]) hP hD [true, true, true, true, true, true, true, true, true] rfl rfl
      rw [hQ9]
      exact W.zret (ty := .boolean) (v := 0) hx hb hr (rfl) (fun t ht hW => ⟨⟨congrArg (fun z => Outcome.returned (some (Value.int z))) (show (0 : Int32) = pI (clP ft st tn kd mn cx cy wd gp9 f g) from (zp_f (by first | exact fun h => absurd h.1 (by first | with_reducible assumption | assumption) | exact fun h => absurd h.2.1 (by first | with_reducible assumption | assumption) | exact fun h => absurd (by first | with_reducible assumption | assumption) h.2.2.1)).symm), (J0 48), (J0 49), S0, by rw [ht]; exact hP9, hD9⟩, hS.F ht⟩) hS.2.2 dX11_isClash_26
    · have c_2 : g < ft ∧ (st g).toInt = 1 ∧ (tn g).toInt = 0 := zp_1 c_2
      have hw_gg := hwf g (by first | with_reducible assumption | assumption)
      have hm_gg := hw_gg.1
      have hn_gg := hw_gg.2.1
      have hp_gg := hw_gg.2.2
      have he_gg := hef g (by first | with_reducible assumption | assumption)
      refine lv_aload_n hx hb dX11_isClash_16 rfl (lv_at hl 0 rfl) ?_
      refine lv_iload_n hx hb dX11_isClash_17 rfl (lv_at hl 1 rfl) ?_
      refine lv_iload_n hx hb dX11_isClash_18 rfl (lv_at hl 2 rfl) ?_
      obtain ⟨hPc, hDc, hFc⟩ := zo_sub (wc := [_, _, _, _, _, _]) hP hD hS hA [0, 3, 4, 5, 6, 7] (by decide +kernel) rfl
      refine zcall (st1 := [.int (pI (∃ i, i < eO (kd f).toInt (nN (mn f)) ∧ ∃ j, j < eO (kd g).toInt (nN (mn g)) ∧ eMt (nN (mn f)) (cF40 cx f) (cF40 cy f) i (nN (mn g)) (cF40 cx g) (cF40 cy g) j))]) (va_runV (As := [.int (nI f), .int (nI g)]) (rest := []) ⟨hx, hb, hml, hown, hts⟩ (k_M_isMet l dC dI cI cZ cF H.size k0 a I0 J0 f (nN (mn f)) g (nN (mn g)) kd mn cx cy S0 (by first | with_reducible assumption | omega) (by first | with_reducible assumption | assumption) (by first | with_reducible assumption | omega) (by first | with_reducible assumption | assumption) (by first | with_reducible assumption | omega) (by first | with_reducible assumption | assumption) (by first | with_reducible assumption | omega) (by first | with_reducible assumption | assumption)) (csV_180 hts rfl rfl ⟨Nat.le_of_ble_eq_true rfl, Nat.le_of_ble_eq_true rfl⟩) (zPV2 (q0 := 0) (ci := 9) hPc hDc hK hXN rfl rfl) rfl rfl hl.1 rfl (lv_room (Nat.le_of_ble_eq_true rfl)) dX11_isClash_19 ⟨Nat.le_of_ble_eq_true rfl, Nat.le_of_ble_eq_true rfl⟩) hS hFc hFc rfl (fun t H locs ht hB hk1 hS => ?_)
      obtain ⟨q_3, hP1, hD1⟩ := hB
      rw [ht] at hP1
      obtain ⟨hP, hD⟩ := zn (W2 := [_, _, _, _, _, _, _, (oa (a 32) cI 8 q_3), _]) hP hD hk1 hFc hP1 hD1 [0, 3, 4, 5, 6, 7] zl_173 zl_173 [0, 3, 4, 5, 6, 7] (by decide +kernel) rfl rfl rfl rfl rfl
      clear hk1 hPc hDc hFc hP1 hD1 ht
      refine zz_i (v := pI (mtF (kd f).toInt (nN (mn f)) (cF40 cx f) (cF40 cy f) (kd g).toInt (nN (mn g)) (cF40 cx g) (cF40 cy g))) (rfl) ?_
      refine lv_if_eq (tgt := 27) hx hb dX11_isClash_22 rfl (fun c_4 => ?_) (fun c_4 => ?_)
      · have c_4 : ¬ (mtF (kd f).toInt (nN (mn f)) (cF40 cx f) (cF40 cy f) (kd g).toInt (nN (mn g)) (cF40 cx g) (cF40 cy g)) := zp_0 c_4
        refine lv_aload_n hx hb dX11_isClash_27 rfl (lv_at hl 0 rfl) ?_
        refine lv_iload_n hx hb dX11_isClash_28 rfl (lv_at hl 1 rfl) ?_
        refine lv_iload_n hx hb dX11_isClash_29 rfl (lv_at hl 2 rfl) ?_
        obtain ⟨hPc, hDc, hFc⟩ := zo_sub (wc := [_, _, _, _, _, _]) hP hD hS hA [0, 3, 4, 5, 6, 7] (by decide +kernel) rfl
        refine zcall (st1 := []) (va_runV (As := [.int (nI f), .int (nI g)]) (rest := []) ⟨hx, hb, hml, hown, hts⟩ (k_M_distance_n l dC dI cI cZ cF H.size k0 a I0 J0 f (nN (mn f)) g (nN (mn g)) kd mn cx cy q_3 (by first | with_reducible assumption | omega) (by first | with_reducible assumption | assumption) (by first | with_reducible assumption | omega) (by first | with_reducible assumption | assumption) (by first | with_reducible assumption | omega) (by first | with_reducible assumption | assumption) (by first | with_reducible assumption | omega) (by first | with_reducible assumption | assumption) (by first | with_reducible assumption | assumption) (he_ff) (he_gg)) (csV_226 hts rfl rfl ⟨Nat.le_of_ble_eq_true rfl, Nat.le_of_ble_eq_true rfl⟩) (zPV2 (q0 := 0) (ci := 9) hPc hDc hK hXN rfl rfl) rfl rfl hl.1 rfl (lv_room (Nat.le_of_ble_eq_true rfl)) dX11_isClash_30 ⟨Nat.le_of_ble_eq_true rfl, Nat.le_of_ble_eq_true rfl⟩) hS hFc hFc rfl (fun t H locs ht hB hk1 hS => ?_)
        obtain ⟨un, dd, S1, hmin, hub, hP1, hD1⟩ := hB
        rw [ht] at hP1
        obtain ⟨hP, hD⟩ := zn (W2 := [(om k0 a I0 (vp_updL (vp_updL J0 48 (jI ((un / Nat.gcd un dd : Nat) : Int))) 49 (jI ((dd / Nat.gcd un dd : Nat) : Int)))), _, _, _, _, _, _, (oa (a 32) cI 8 S1), _]) hP hD hk1 hFc hP1 hD1 [0, 3, 4, 5, 6, 7] zl_173 zl_173 [0, 3, 4, 5, 6, 7] (by decide +kernel) rfl rfl rfl rfl rfl
        clear hk1 hPc hDc hFc hP1 hD1 ht
        have hge := Nat.gcd_pos_of_pos_right un (show 0 < dd by omega)
        have hq1 : un / Nat.gcd un dd ≤ un := Nat.div_le_self _ _
        have hq2 : dd / Nat.gcd un dd ≤ dd := Nat.div_le_self _ _
        have hcm := rd_gt (c := ((wd f).toInt + (wd g).toInt + 2 * gp9.toInt) * ((wd f).toInt + (wd g).toInt + 2 * gp9.toInt)) (u := un) (d := dd) hub.2.1
        obtain ⟨uq, huq⟩ : ∃ uq, uq = un / Nat.gcd un dd := ⟨_, rfl⟩
        obtain ⟨dq, hdq⟩ : ∃ dq, dq = dd / Nat.gcd un dd := ⟨_, rfl⟩
        rw [← huq, ← hdq] at hP hD hcm
        rw [← huq] at hq1
        rw [← hdq] at hq2
        have hwf9 := hwd f (by omega)
        have hwg9 := hwd g (by omega)
        have hcb := clB (c := ((wd f).toInt + (wd g).toInt + 2 * gp9.toInt)) (D := dq) (by omega) (by omega)
        refine lv_aload_n hx hb dX11_isClash_33 rfl (lv_at hl 0 rfl) ?_
        refine va_get (D := (dC, dI)) (ci := 9) (v := .ref (a 3)) (C := RX11) (T := TX11) (N := 55) hx hb hts inX11 hown hK hP 0 rfl rfl 3 (Nat.le_of_ble_eq_true rfl) (hts _ mw_1162) (fun _ h9 => h9) rfl dX11_isClash_34 ?_
        refine lv_iload_n hx hb dX11_isClash_37 rfl (lv_at hl 1 rfl) ?_
        have b9_5 : f < 201 := by omega
        refine z_iald hx hb hK hP 8 0 rfl rfl (e := f) rfl b9_5 (Nat.le_of_ble_eq_true rfl) dX11_isClash_38 ?_
        refine lv_aload_n hx hb dX11_isClash_39 rfl (lv_at hl 0 rfl) ?_
        refine va_get (D := (dC, dI)) (ci := 9) (v := .ref (a 3)) (C := RX11) (T := TX11) (N := 55) hx hb hts inX11 hown hK hP 0 rfl rfl 3 (Nat.le_of_ble_eq_true rfl) (hts _ mw_1162) (fun _ h9 => h9) rfl dX11_isClash_40 ?_
        refine lv_iload_n hx hb dX11_isClash_43 rfl (lv_at hl 2 rfl) ?_
        have b9_6 : g < 201 := by omega
        refine z_iald hx hb hK hP 8 0 rfl rfl (e := g) rfl b9_6 (Nat.le_of_ble_eq_true rfl) dX11_isClash_44 ?_
        refine lv_iadd hx hb dX11_isClash_45 ?_
        refine lv_i2l (v := ((wd f) + (wd g)).toInt64) hx hb dX11_isClash_46 (rfl) ?_
        refine lv_ldc2 hx hb hown (hts _ mw_1575) dX11_isClash_47 ?_
        refine lv_iload_n hx hb dX11_isClash_50 rfl (lv_at hl 3 rfl) ?_
        refine lv_i2l (v := gp9.toInt64) hx hb dX11_isClash_51 (rfl) ?_
        refine lv_lmul hx hb dX11_isClash_52 ?_
        refine lv_ladd hx hb dX11_isClash_53 ?_
        refine zz_l (v := jI ((wd f).toInt + (wd g).toInt + 2 * gp9.toInt)) (clL hwf9 hwg9 hgp) ?_
        refine lv_lstore (lv' := [(4, .long (jI ((wd f).toInt + (wd g).toInt + 2 * gp9.toInt))), (0, .ref k0), (1, .int (nI f)), (2, .int (nI g)), (3, .int gp9)]) hx hb dX11_isClash_54 hl (Nat.le_of_ble_eq_true rfl) rfl (fun ls hl => ?_)
        refine lv_ldc2 hx hb hown (hts _ mw_1685) dX11_isClash_56 ?_
        refine lv_aload_n hx hb dX11_isClash_59 rfl (lv_at hl 1 rfl) ?_
        refine va_get (D := (dC, dI)) (ci := 9) (v := .long (jI ((uq : Nat) : Int))) (C := RX11) (T := TX11) (N := 55) hx hb hts inX11 hown hK hP 0 rfl rfl 48 (Nat.le_of_ble_eq_true rfl) (hts _ mw_1207) (fun _ h9 => h9) rfl dX11_isClash_60 ?_
        refine lv_lmul hx hb dX11_isClash_63 ?_
        refine zz_l (v := jI (4 * ((uq : Nat) : Int))) (by rw [show (4 : Int64) = jI 4 from rfl]; exact jI_mul (by omega) (by omega) (by omega)) ?_
        refine lv_lload hx hb dX11_isClash_64 (lv_at hl 0 rfl) ?_
        refine lv_lload hx hb dX11_isClash_66 (lv_at hl 0 rfl) ?_
        refine lv_lmul hx hb dX11_isClash_68 ?_
        refine zz_l (v := jI (((wd f).toInt + (wd g).toInt + 2 * gp9.toInt) * ((wd f).toInt + (wd g).toInt + 2 * gp9.toInt))) (jI_mul (by omega) (by omega) (by omega)) ?_
        refine lv_aload_n hx hb dX11_isClash_69 rfl (lv_at hl 1 rfl) ?_
        refine va_get (D := (dC, dI)) (ci := 9) (v := .long (jI ((dq : Nat) : Int))) (C := RX11) (T := TX11) (N := 55) hx hb hts inX11 hown hK hP 0 rfl rfl 49 (Nat.le_of_ble_eq_true rfl) (hts _ mw_1208) (fun _ h9 => h9) rfl dX11_isClash_70 ?_
        refine lv_lmul hx hb dX11_isClash_73 ?_
        refine zz_l (v := jI (((wd f).toInt + (wd g).toInt + 2 * gp9.toInt) * ((wd f).toInt + (wd g).toInt + 2 * gp9.toInt) * ((dq : Nat) : Int))) (jI_mul (by omega) (by omega) (by omega)) ?_
        refine W.lcmp hx hb dX11_isClash_74 ?_
        refine lv_if_ge (tgt := 82) hx hb dX11_isClash_75 rfl (fun c_7 => ?_) (fun c_7 => ?_)
        · have c_7 : (((wd f).toInt + (wd g).toInt + 2 * gp9.toInt) * ((wd f).toInt + (wd g).toInt + 2 * gp9.toInt) * ((dq : Nat) : Int)) ≤ (4 * ((uq : Nat) : Int)) := zl_ge (jI_toInt (by omega)) (jI_toInt (by omega)) c_7
          refine lv_iconst (v := 0) hx hb dX11_isClash_82 rfl ?_
          obtain ⟨hP9, hD9⟩ := zu_sub (wc := [_, _, _, _, _, _, _, _, _]) hP hD [true, true, true, true, true, true, true, true, true] rfl rfl
          rw [hQ9]
          exact W.zret (ty := .boolean) (v := 0) hx hb hr (rfl) (fun t ht hW => ⟨⟨congrArg (fun z => Outcome.returned (some (Value.int z))) (show (0 : Int32) = pI (clP ft st tn kd mn cx cy wd gp9 f g) from (zp_f (by first | exact ⟨by assumption, by assumption, by assumption, fun u9 d9 h9 hI9 => im_gt hmin hI9 (by omega) (by omega) (hcm.mp (by first | with_reducible assumption | assumption))⟩ | exact fun h => absurd (hcm.mpr (h.2.2.2 un dd hub.2.1 hmin)) (by omega))).symm), (jI ((uq : Nat) : Int)), (jI ((dq : Nat) : Int)), S1, by rw [ht]; exact hP9, hD9⟩, hS.F ht⟩) hS.2.2 dX11_isClash_83
        · have c_7 : (4 * ((uq : Nat) : Int)) < (((wd f).toInt + (wd g).toInt + 2 * gp9.toInt) * ((wd f).toInt + (wd g).toInt + 2 * gp9.toInt) * ((dq : Nat) : Int)) := zl_nge (jI_toInt (by omega)) (jI_toInt (by omega)) c_7
          refine lv_iconst (v := 1) hx hb dX11_isClash_78 rfl ?_
          refine lv_goto (tgt := 83) hx hb dX11_isClash_79 rfl ?_
          obtain ⟨hP9, hD9⟩ := zu_sub (wc := [_, _, _, _, _, _, _, _, _]) hP hD [true, true, true, true, true, true, true, true, true] rfl rfl
          rw [hQ9]
          exact W.zret (ty := .boolean) (v := 1) hx hb hr (rfl) (fun t ht hW => ⟨⟨congrArg (fun z => Outcome.returned (some (Value.int z))) (show (1 : Int32) = pI (clP ft st tn kd mn cx cy wd gp9 f g) from (zp_t (by first | exact ⟨by assumption, by assumption, by assumption, fun u9 d9 h9 hI9 => im_gt hmin hI9 (by omega) (by omega) (hcm.mp (by first | with_reducible assumption | assumption))⟩ | exact fun h => absurd (hcm.mpr (h.2.2.2 un dd hub.2.1 hmin)) (by omega))).symm), (jI ((uq : Nat) : Int)), (jI ((dq : Nat) : Int)), S1, by rw [ht]; exact hP9, hD9⟩, hS.F ht⟩) hS.2.2 dX11_isClash_83
      · have c_4 : mtF (kd f).toInt (nN (mn f)) (cF40 cx f) (cF40 cy f) (kd g).toInt (nN (mn g)) (cF40 cx g) (cF40 cy g) := zp_1 c_4
        refine lv_iconst (v := 0) hx hb dX11_isClash_25 rfl ?_
        obtain ⟨hP9, hD9⟩ := zu_sub (wc := [_, _, _, _, _, _, _, _, _]) hP hD [true, true, true, true, true, true, true, true, true] rfl rfl
        rw [hQ9]
        exact W.zret (ty := .boolean) (v := 0) hx hb hr (rfl) (fun t ht hW => ⟨⟨congrArg (fun z => Outcome.returned (some (Value.int z))) (show (0 : Int32) = pI (clP ft st tn kd mn cx cy wd gp9 f g) from (zp_f (by first | exact fun h => absurd h.1 (by first | with_reducible assumption | assumption) | exact fun h => absurd h.2.1 (by first | with_reducible assumption | assumption) | exact fun h => absurd (by first | with_reducible assumption | assumption) h.2.2.1)).symm), (J0 48), (J0 49), q_3, by rw [ht]; exact hP9, hD9⟩, hS.F ht⟩) hS.2.2 dX11_isClash_26
set_option maxHeartbeats 4000000 in
set_option maxRecDepth 100000 in
theorem k_M_clashes_r (l : Launch) (dC : Nat → ClassId) (dI : Nat → Nat → Nat) (cI cZ cF : ClassId) (sz : Nat) (k0 : Nat) (a : Nat → Nat) (I0 : Nat → Int32) (J0 : Nat → Int64) (gp9 : Int32) (hgp : ¬ (0 ≤ gp9.toInt ∧ gp9.toInt ≤ 200)) : zM l yX11_clashes cX11_clashes 5 (some .int) ({ frames := 0, cells := 0, slots := 0, locals := 0 } : Room) [.ref k0, .int gp9] (dC, dI) (zTy cI cZ cF) [(om k0 a I0 J0)] sz (some (.int (-1))) (fun A t => zPD (dC, dI) classes A [(om k0 a I0 J0)] t.heap) 0 0 := by
  refine zIn (own := "ScaleShopModel") (loc := [(0, .ref k0), (1, .int gp9)]) rfl rfl rfl rfl (fun p e s m below meth c hx hb hr hts hown hlocks hml hnm9 A hA hS hP hD hK hXN Q9 hQ9 ls hl => ?_)
  refine lv_iload_n hx hb dX11_clashes_0 rfl (lv_at hl 1 rfl) ?_
  refine lv_if_lt (tgt := 11) hx hb dX11_clashes_1 rfl (fun c_1 => ?_) (fun c_1 => ?_)
  · have c_1 : gp9.toInt < 0 := zc_lt rfl rfl c_1
    refine lv_iconst (v := (-1)) hx hb dX11_clashes_11 rfl ?_
    obtain ⟨hP9, hD9⟩ := zu_sub (wc := [_]) hP hD [true] rfl rfl
    rw [hQ9]
    exact W.iret (v := (-1)) hx hb hr (fun t ht hW => ⟨⟨rfl, by rw [ht]; exact hP9, hD9⟩, hS.F ht⟩) hS.2.2 dX11_clashes_12
  · have c_1 : 0 ≤ gp9.toInt := zc_nlt rfl rfl c_1
    refine lv_iload_n hx hb dX11_clashes_4 rfl (lv_at hl 1 rfl) ?_
    refine lv_sipush (v := 200) hx hb dX11_clashes_5 rfl ?_
    refine lv_icmp_le (tgt := 13) hx hb dX11_clashes_8 rfl (fun c_2 => ?_) (fun c_2 => ?_)
    · have c_2 : gp9.toInt ≤ 200 := zc_le rfl rfl c_2
      exfalso; omega
    · have c_2 : 200 < gp9.toInt := zc_nle rfl rfl c_2
      refine lv_iconst (v := (-1)) hx hb dX11_clashes_11 rfl ?_
      obtain ⟨hP9, hD9⟩ := zu_sub (wc := [_]) hP hD [true] rfl rfl
      rw [hQ9]
      exact W.iret (v := (-1)) hx hb hr (fun t ht hW => ⟨⟨rfl, by rw [ht]; exact hP9, hD9⟩, hS.F ht⟩) hS.2.2 dX11_clashes_12
set_option maxHeartbeats 4000000 in
set_option maxRecDepth 100000 in
theorem k_M_clashes_y (l : Launch) (dC : Nat → ClassId) (dI : Nat → Nat → Nat) (cI cZ cF : ClassId) (sz : Nat) (k0 : Nat) (a : Nat → Nat) (I0 : Nat → Int32) (J0 : Nat → Int64) (ft : Nat) (gp9 : Int32) (st : Nat → Int32) (tn : Nat → Int32) (kd : Nat → Int32) (mn : Nat → Int32) (cx : Nat → Int32) (cy : Nat → Int32) (S0 : Nat → Int32) (wd : Nat → Int32) (hft : I0 0 = nI ft) (h200 : ft ≤ 200) (hwf : ∀ q, lvF ft st tn q → wfM mn cx cy q) (hef : ∀ q, lvF ft st tn q → 1 ≤ eO (kd q).toInt (nN (mn q))) (hwd : ∀ q, q < ft → 0 ≤ (wd q).toInt ∧ (wd q).toInt ≤ 100) (hgp : 0 ≤ gp9.toInt ∧ gp9.toInt ≤ 200) : zM l yX11_clashes cX11_clashes 5 (some .int) ({ frames := 6, cells := 0, slots := 0, locals := 154 } : Room) [.ref k0, .int gp9] (dC, dI) (zTy cI cZ cF) [(om k0 a I0 J0), (oa (a 5) cI 201 st), (oa (a 6) cZ 201 tn), (oa (a 1) cI 201 kd), (oa (a 11) cI 201 mn), (oa (a 12) cI 8040 cx), (oa (a 13) cI 8040 cy), (oa (a 32) cI 8 S0), (oa (a 3) cI 201 wd)] sz (some (.int (nI (clT (clP ft st tn kd mn cx cy wd gp9) ft ft)))) (fun A t => ∃ (u9 : Int64), ∃ (d9 : Int64), ∃ (S1 : Nat → Int32), zPD (dC, dI) classes A [(om k0 a I0 (vp_updL (vp_updL J0 48 u9) 49 d9)), (oa (a 5) cI 201 st), (oa (a 6) cZ 201 tn), (oa (a 1) cI 201 kd), (oa (a 11) cI 201 mn), (oa (a 12) cI 8040 cx), (oa (a 13) cI 8040 cy), (oa (a 32) cI 8 S1), (oa (a 3) cI 201 wd)] t.heap) 0 0 := by
  refine zIn (own := "ScaleShopModel") (loc := [(0, .ref k0), (1, .int gp9)]) rfl rfl rfl rfl (fun p e s m below meth c hx hb hr hts hown hlocks hml hnm9 A hA hS hP hD hK hXN Q9 hQ9 ls hl => ?_)
  refine lv_iload_n hx hb dX11_clashes_0 rfl (lv_at hl 1 rfl) ?_
  refine lv_if_lt (tgt := 11) hx hb dX11_clashes_1 rfl (fun c_1 => ?_) (fun c_1 => ?_)
  · have c_1 : gp9.toInt < 0 := zc_lt rfl rfl c_1
    exfalso; omega
  · have c_1 : 0 ≤ gp9.toInt := zc_nlt rfl rfl c_1
    refine lv_iload_n hx hb dX11_clashes_4 rfl (lv_at hl 1 rfl) ?_
    refine lv_sipush (v := 200) hx hb dX11_clashes_5 rfl ?_
    refine lv_icmp_le (tgt := 13) hx hb dX11_clashes_8 rfl (fun c_2 => ?_) (fun c_2 => ?_)
    · have c_2 : gp9.toInt ≤ 200 := zc_le rfl rfl c_2
      refine lv_iconst (v := 0) hx hb dX11_clashes_13 rfl ?_
      refine lv_istore_n (lv' := [(2, .int 0), (0, .ref k0), (1, .int gp9)]) hx hb dX11_clashes_14 rfl hl (Nat.le_of_ble_eq_true rfl) rfl (fun ls hl => ?_)
      refine lv_iconst (v := 0) hx hb dX11_clashes_15 rfl ?_
      refine lv_istore_n (lv' := [(3, .int 0), (2, .int 0), (0, .ref k0), (1, .int gp9)]) hx hb dX11_clashes_16 rfl hl (Nat.le_of_ble_eq_true rfl) rfl (fun ls hl => ?_)
      have hl_17 : ∀ (n9 : Nat) (a9 : Nat) (u9 : Int64) (d9 : Int64) (S1 : Nat → Int32) (H : Heap) (locs : List Loc) (ls : Array Slot), ft - a9 < n9 → (a9 ≤ ft) → va_P (dC, dI) classes [(om k0 a I0 (vp_updL (vp_updL J0 48 u9) 49 d9)), (oa (a 5) cI 201 st), (oa (a 6) cZ 201 tn), (oa (a 1) cI 201 kd), (oa (a 11) cI 201 mn), (oa (a 12) cI 8040 cx), (oa (a 13) cI 8040 cy), (oa (a 32) cI 8 S1), (oa (a 3) cI 201 wd)] H → va_D A [(om k0 a I0 (vp_updL (vp_updL J0 48 u9) 49 d9)), (oa (a 5) cI 201 st), (oa (a 6) cZ 201 tn), (oa (a 1) cI 201 kd), (oa (a 11) cI 201 mn), (oa (a 12) cI 8040 cx), (oa (a 13) cI 8040 cy), (oa (a 32) cI 8 S1), (oa (a 3) cI 201 wd)] → va_S A s.heap H locs → lv_has ls 5 [(3, .int (nI a9)), (2, .int (nI (clT (clP ft st tn kd mn cx cy wd gp9) ft a9))), (0, .ref k0), (1, .int gp9)] → W p l e ({ frames := 6, cells := 0, slots := 0, locals := 154 } : Room) s m ([.ref k0, .int gp9] : List Value).toArray below meth c H locs 0 0 Q9 (F0 m 17 ls []) := by
        intro n9
        induction n9 with
        | zero => intro a9 u9 d9 S1 H locs ls hm; exact absurd hm (Nat.not_lt_zero _)
        | succ n9 ih_17 =>
          intro a9 u9 d9 S1 H locs ls hm ha9 hP hD hS hl
          have hct := clT_200 (clP ft st tn kd mn cx cy wd gp9) h200 ha9
          refine lv_iload_n hx hb dX11_clashes_17 rfl (lv_at hl 0 rfl) ?_
          refine lv_aload_n hx hb dX11_clashes_18 rfl (lv_at hl 2 rfl) ?_
          refine va_get (D := (dC, dI)) (ci := 9) (v := .int (I0 0)) (C := RX11) (T := TX11) (N := 55) hx hb hts inX11 hown hK hP 0 rfl rfl 0 (Nat.le_of_ble_eq_true rfl) (hts _ mw_1159) (fun _ h9 => h9) rfl dX11_clashes_19 ?_
          refine zz_i (v := nI ft) (hft) ?_
          have b9_4 : zlt (a9) := show a9 < 2147483648 by omega
          have b9_5 : zlt (ft) := show ft < 2147483648 by omega
          refine lv_icmp_ge (tgt := 70) hx hb dX11_clashes_22 rfl (fun c_3 => ?_) (fun c_3 => ?_)
          · have c_3 : ((ft : Nat) : Int) ≤ ((a9 : Nat) : Int) := zc_le (nI_toInt b9_5) (nI_toInt b9_4) c_3
            refine lv_iload_n hx hb dX11_clashes_70 rfl (lv_at hl 1 rfl) ?_
            obtain ⟨hP9, hD9⟩ := zu_sub (wc := [_, _, _, _, _, _, _, _, _]) hP hD [true, true, true, true, true, true, true, true, true] rfl rfl
            rw [hQ9]
            exact W.iret (v := nI (clT (clP ft st tn kd mn cx cy wd gp9) ft a9)) hx hb hr (fun t ht hW => ⟨⟨congrArg (fun z => Outcome.returned (some (Value.int z))) (show (nI (clT (clP ft st tn kd mn cx cy wd gp9) ft a9) : Int32) = nI (clT (clP ft st tn kd mn cx cy wd gp9) ft ft) from zn_eq (by rw [show a9 = ft by omega])), u9, d9, S1, by rw [ht]; exact hP9, hD9⟩, hS.F ht⟩) hS.2.2 dX11_clashes_71
          · have c_3 : ((a9 : Nat) : Int) < ((ft : Nat) : Int) := zc_nle (nI_toInt b9_5) (nI_toInt b9_4) c_3
            refine lv_iload_n hx hb dX11_clashes_25 rfl (lv_at hl 0 rfl) ?_
            refine lv_iconst (v := 1) hx hb dX11_clashes_26 rfl ?_
            refine lv_iadd hx hb dX11_clashes_27 ?_
            refine zz_i (v := nI (a9 + 1)) (nI_add a9 1) ?_
            refine lv_istore (lv' := [(4, .int (nI (a9 + 1))), (3, .int (nI a9)), (2, .int (nI (clT (clP ft st tn kd mn cx cy wd gp9) ft a9))), (0, .ref k0), (1, .int gp9)]) hx hb dX11_clashes_28 hl (Nat.le_of_ble_eq_true rfl) rfl (fun ls hl => ?_)
            have hl_30 : ∀ (n9 : Nat) (b9 : Nat) (u9 : Int64) (d9 : Int64) (S1 : Nat → Int32) (H : Heap) (locs : List Loc) (ls : Array Slot), ft - b9 < n9 → (a9 < b9 ∧ b9 ≤ ft) → va_P (dC, dI) classes [(om k0 a I0 (vp_updL (vp_updL J0 48 u9) 49 d9)), (oa (a 5) cI 201 st), (oa (a 6) cZ 201 tn), (oa (a 1) cI 201 kd), (oa (a 11) cI 201 mn), (oa (a 12) cI 8040 cx), (oa (a 13) cI 8040 cy), (oa (a 32) cI 8 S1), (oa (a 3) cI 201 wd)] H → va_D A [(om k0 a I0 (vp_updL (vp_updL J0 48 u9) 49 d9)), (oa (a 5) cI 201 st), (oa (a 6) cZ 201 tn), (oa (a 1) cI 201 kd), (oa (a 11) cI 201 mn), (oa (a 12) cI 8040 cx), (oa (a 13) cI 8040 cy), (oa (a 32) cI 8 S1), (oa (a 3) cI 201 wd)] → va_S A s.heap H locs → lv_has ls 5 [(4, .int (nI b9)), (3, .int (nI a9)), (2, .int (nI (clT (clP ft st tn kd mn cx cy wd gp9) ft a9 + cntP (fun b => a9 < b ∧ clP ft st tn kd mn cx cy wd gp9 a9 b) b9))), (0, .ref k0), (1, .int gp9)] → W p l e ({ frames := 6, cells := 0, slots := 0, locals := 154 } : Room) s m ([.ref k0, .int gp9] : List Value).toArray below meth c H locs 0 0 Q9 (F0 m 30 ls []) := by
              intro n9
              induction n9 with
              | zero => intro b9 u9 d9 S1 H locs ls hm; exact absurd hm (Nat.not_lt_zero _)
              | succ n9 ih_30 =>
                intro b9 u9 d9 S1 H locs ls hm hb9 hP hD hS hl
                have hcn := cntP_b (fun b => a9 < b ∧ clP ft st tn kd mn cx cy wd gp9 a9 b) b9
                refine lv_iload hx hb dX11_clashes_30 (lv_at hl 0 rfl) ?_
                refine lv_aload_n hx hb dX11_clashes_32 rfl (lv_at hl 3 rfl) ?_
                refine va_get (D := (dC, dI)) (ci := 9) (v := .int (I0 0)) (C := RX11) (T := TX11) (N := 55) hx hb hts inX11 hown hK hP 0 rfl rfl 0 (Nat.le_of_ble_eq_true rfl) (hts _ mw_1159) (fun _ h9 => h9) rfl dX11_clashes_33 ?_
                refine zz_i (v := nI ft) (hft) ?_
                have b9_7 : zlt (b9) := show b9 < 2147483648 by omega
                refine lv_icmp_ge (tgt := 64) hx hb dX11_clashes_36 rfl (fun c_6 => ?_) (fun c_6 => ?_)
                · have c_6 : ((ft : Nat) : Int) ≤ ((b9 : Nat) : Int) := zc_le (nI_toInt b9_5) (nI_toInt b9_7) c_6
                  refine lv_iinc (v := nI (a9 + 1)) (lv' := [(3, .int (nI (a9 + 1))), (4, .int (nI b9)), (2, .int (nI (clT (clP ft st tn kd mn cx cy wd gp9) ft a9 + cntP (fun b => a9 < b ∧ clP ft st tn kd mn cx cy wd gp9 a9 b) b9))), (0, .ref k0), (1, .int gp9)]) hx hb dX11_clashes_64 hl (k := 1) rfl (nI_add a9 1) (Nat.le_of_ble_eq_true rfl) rfl (fun ls hl => ?_)
                  refine lv_goto (tgt := 17) hx hb dX11_clashes_67 rfl ?_
                  have hl9 := lv_sub hl [0, 2, 3, 4] rfl
                  have e9_2 : nI (clT (clP ft st tn kd mn cx cy wd gp9) ft (a9 + 1)) = (nI (clT (clP ft st tn kd mn cx cy wd gp9) ft a9 + cntP (fun b => a9 < b ∧ clP ft st tn kd mn cx cy wd gp9 a9 b) b9) : Int32) := by exact zn_eq (by rw [show b9 = ft by omega]; rfl)
                  have hl9 : lv_has ls 5 [(3, .int (nI (a9 + 1))), (2, .int (nI (clT (clP ft st tn kd mn cx cy wd gp9) ft (a9 + 1)))), (0, .ref k0), (1, .int gp9)] := by rw [e9_2]; exact hl9
                  exact ih_17 (a9 + 1) u9 d9 S1 H locs ls (by first | with_reducible assumption | omega) (by first | with_reducible assumption | omega) hP hD hS hl9
                · have c_6 : ((b9 : Nat) : Int) < ((ft : Nat) : Int) := zc_nle (nI_toInt b9_5) (nI_toInt b9_7) c_6
                  refine lv_iload_n hx hb dX11_clashes_39 rfl (lv_at hl 2 rfl) ?_
                  refine lv_aload_n hx hb dX11_clashes_40 rfl (lv_at hl 3 rfl) ?_
                  refine lv_iload_n hx hb dX11_clashes_41 rfl (lv_at hl 1 rfl) ?_
                  refine lv_iload hx hb dX11_clashes_42 (lv_at hl 0 rfl) ?_
                  refine lv_iload_n hx hb dX11_clashes_44 rfl (lv_at hl 4 rfl) ?_
                  obtain ⟨hPc, hDc, hFc⟩ := zo_sub (wc := [_, _, _, _, _, _, _, _, _]) hP hD hS hA [0, 1, 2, 3, 4, 5, 6, 7, 8] (by decide +kernel) rfl
                  refine zcall (st1 := [.int (pI (clP ft st tn kd mn cx cy wd gp9 a9 b9)), .int (nI (clT (clP ft st tn kd mn cx cy wd gp9) ft a9 + cntP (fun b => a9 < b ∧ clP ft st tn kd mn cx cy wd gp9 a9 b) b9))]) (va_runV (As := [.int (nI a9), .int (nI b9), .int gp9]) (rest := [.int (nI (clT (clP ft st tn kd mn cx cy wd gp9) ft a9 + cntP (fun b => a9 < b ∧ clP ft st tn kd mn cx cy wd gp9 a9 b) b9))]) ⟨hx, hb, hml, hown, hts⟩ (k_M_isClash l dC dI cI cZ cF H.size k0 a I0 (vp_updL (vp_updL J0 48 u9) 49 d9) a9 b9 ft gp9 st tn kd mn cx cy S1 wd (by first | with_reducible assumption | assumption) (by first | with_reducible assumption | omega) (by first | with_reducible assumption | assumption) (by first | with_reducible assumption | assumption) (by first | with_reducible assumption | assumption) (by first | with_reducible assumption | assumption) (by first | with_reducible assumption | omega) (by first | with_reducible assumption | omega)) (csV_230 hts rfl rfl ⟨Nat.le_of_ble_eq_true rfl, Nat.le_of_ble_eq_true rfl⟩) (zPV2 (q0 := 0) (ci := 9) hPc hDc hK hXN rfl rfl) rfl rfl hl.1 rfl (lv_room (Nat.le_of_ble_eq_true rfl)) dX11_clashes_45 ⟨Nat.le_of_ble_eq_true rfl, Nat.le_of_ble_eq_true rfl⟩) hS hFc hFc rfl (fun t H locs ht hB hk1 hS => ?_)
                  obtain ⟨q_8, q_9, q_10, hP1, hD1⟩ := hB
                  rw [ht] at hP1
                  obtain ⟨hP, hD⟩ := zn (W2 := [(om k0 a I0 (vp_updL (vp_updL J0 48 q_8) 49 q_9)), _, _, _, _, _, _, (oa (a 32) cI 8 q_10), _]) hP hD hk1 hFc hP1 hD1 zl_269 [] zl_270 zl_269 (by decide +kernel) rfl rfl rfl rfl rfl
                  clear hk1 hPc hDc hFc hP1 hD1 ht
                  refine lv_if_eq (tgt := 55) hx hb dX11_clashes_48 rfl (fun c_11 => ?_) (fun c_11 => ?_)
                  · have c_11 : ¬ (clP ft st tn kd mn cx cy wd gp9 a9 b9) := zp_0 c_11
                    refine lv_iconst (v := 0) hx hb dX11_clashes_55 rfl ?_
                    refine lv_iadd hx hb dX11_clashes_56 ?_
                    refine zz_i (v := nI ((clT (clP ft st tn kd mn cx cy wd gp9) ft a9 + cntP (fun b => a9 < b ∧ clP ft st tn kd mn cx cy wd gp9 a9 b) b9) + 0)) (nI_add (clT (clP ft st tn kd mn cx cy wd gp9) ft a9 + cntP (fun b => a9 < b ∧ clP ft st tn kd mn cx cy wd gp9 a9 b) b9) 0) ?_
                    refine lv_istore_n (lv' := [(2, .int (nI ((clT (clP ft st tn kd mn cx cy wd gp9) ft a9 + cntP (fun b => a9 < b ∧ clP ft st tn kd mn cx cy wd gp9 a9 b) b9) + 0))), (4, .int (nI b9)), (3, .int (nI a9)), (0, .ref k0), (1, .int gp9)]) hx hb dX11_clashes_57 rfl hl (Nat.le_of_ble_eq_true rfl) rfl (fun ls hl => ?_)
                    refine lv_iinc (v := nI (b9 + 1)) (lv' := [(4, .int (nI (b9 + 1))), (2, .int (nI ((clT (clP ft st tn kd mn cx cy wd gp9) ft a9 + cntP (fun b => a9 < b ∧ clP ft st tn kd mn cx cy wd gp9 a9 b) b9) + 0))), (3, .int (nI a9)), (0, .ref k0), (1, .int gp9)]) hx hb dX11_clashes_58 hl (k := 1) rfl (nI_add b9 1) (Nat.le_of_ble_eq_true rfl) rfl (fun ls hl => ?_)
                    refine lv_goto (tgt := 30) hx hb dX11_clashes_61 rfl ?_
                    have hl9 := lv_sub hl [0, 2, 1, 3, 4] rfl
                    have e9_2 : nI (clT (clP ft st tn kd mn cx cy wd gp9) ft a9 + cntP (fun b => a9 < b ∧ clP ft st tn kd mn cx cy wd gp9 a9 b) (b9 + 1)) = (nI ((clT (clP ft st tn kd mn cx cy wd gp9) ft a9 + cntP (fun b => a9 < b ∧ clP ft st tn kd mn cx cy wd gp9 a9 b) b9) + 0) : Int32) := by first | exact zn_eq (by rw [cntP_y (P := fun b => a9 < b ∧ clP ft st tn kd mn cx cy wd gp9 a9 b) ⟨by omega, by assumption⟩]; first | done | omega) | exact zn_eq (by rw [cntP_n (P := fun b => a9 < b ∧ clP ft st tn kd mn cx cy wd gp9 a9 b) (fun h => absurd h.2 (by first | with_reducible assumption | assumption))]; first | done | omega)
                    have hl9 : lv_has ls 5 [(4, .int (nI (b9 + 1))), (3, .int (nI a9)), (2, .int (nI (clT (clP ft st tn kd mn cx cy wd gp9) ft a9 + cntP (fun b => a9 < b ∧ clP ft st tn kd mn cx cy wd gp9 a9 b) (b9 + 1)))), (0, .ref k0), (1, .int gp9)] := by rw [e9_2]; exact hl9
                    exact ih_30 (b9 + 1) q_8 q_9 q_10 H locs ls (by first | with_reducible assumption | omega) (by first | with_reducible assumption | omega) hP hD hS hl9
                  · have c_11 : clP ft st tn kd mn cx cy wd gp9 a9 b9 := zp_1 c_11
                    refine lv_iconst (v := 1) hx hb dX11_clashes_51 rfl ?_
                    refine lv_goto (tgt := 56) hx hb dX11_clashes_52 rfl ?_
                    refine lv_iadd hx hb dX11_clashes_56 ?_
                    refine zz_i (v := nI ((clT (clP ft st tn kd mn cx cy wd gp9) ft a9 + cntP (fun b => a9 < b ∧ clP ft st tn kd mn cx cy wd gp9 a9 b) b9) + 1)) (nI_add (clT (clP ft st tn kd mn cx cy wd gp9) ft a9 + cntP (fun b => a9 < b ∧ clP ft st tn kd mn cx cy wd gp9 a9 b) b9) 1) ?_
                    refine lv_istore_n (lv' := [(2, .int (nI ((clT (clP ft st tn kd mn cx cy wd gp9) ft a9 + cntP (fun b => a9 < b ∧ clP ft st tn kd mn cx cy wd gp9 a9 b) b9) + 1))), (4, .int (nI b9)), (3, .int (nI a9)), (0, .ref k0), (1, .int gp9)]) hx hb dX11_clashes_57 rfl hl (Nat.le_of_ble_eq_true rfl) rfl (fun ls hl => ?_)
                    refine lv_iinc (v := nI (b9 + 1)) (lv' := [(4, .int (nI (b9 + 1))), (2, .int (nI ((clT (clP ft st tn kd mn cx cy wd gp9) ft a9 + cntP (fun b => a9 < b ∧ clP ft st tn kd mn cx cy wd gp9 a9 b) b9) + 1))), (3, .int (nI a9)), (0, .ref k0), (1, .int gp9)]) hx hb dX11_clashes_58 hl (k := 1) rfl (nI_add b9 1) (Nat.le_of_ble_eq_true rfl) rfl (fun ls hl => ?_)
                    refine lv_goto (tgt := 30) hx hb dX11_clashes_61 rfl ?_
                    have hl9 := lv_sub hl [0, 2, 1, 3, 4] rfl
                    have e9_2 : nI (clT (clP ft st tn kd mn cx cy wd gp9) ft a9 + cntP (fun b => a9 < b ∧ clP ft st tn kd mn cx cy wd gp9 a9 b) (b9 + 1)) = (nI ((clT (clP ft st tn kd mn cx cy wd gp9) ft a9 + cntP (fun b => a9 < b ∧ clP ft st tn kd mn cx cy wd gp9 a9 b) b9) + 1) : Int32) := by first | exact zn_eq (by rw [cntP_y (P := fun b => a9 < b ∧ clP ft st tn kd mn cx cy wd gp9 a9 b) ⟨by omega, by assumption⟩]; first | done | omega) | exact zn_eq (by rw [cntP_n (P := fun b => a9 < b ∧ clP ft st tn kd mn cx cy wd gp9 a9 b) (fun h => absurd h.2 (by first | with_reducible assumption | assumption))]; first | done | omega)
                    have hl9 : lv_has ls 5 [(4, .int (nI (b9 + 1))), (3, .int (nI a9)), (2, .int (nI (clT (clP ft st tn kd mn cx cy wd gp9) ft a9 + cntP (fun b => a9 < b ∧ clP ft st tn kd mn cx cy wd gp9 a9 b) (b9 + 1)))), (0, .ref k0), (1, .int gp9)] := by rw [e9_2]; exact hl9
                    exact ih_30 (b9 + 1) q_8 q_9 q_10 H locs ls (by first | with_reducible assumption | omega) (by first | with_reducible assumption | omega) hP hD hS hl9
            have e9_2 : nI (clT (clP ft st tn kd mn cx cy wd gp9) ft a9 + cntP (fun b => a9 < b ∧ clP ft st tn kd mn cx cy wd gp9 a9 b) (a9 + 1)) = (nI (clT (clP ft st tn kd mn cx cy wd gp9) ft a9) : Int32) := by exact zn_eq (by rw [cl_0 (clP ft st tn kd mn cx cy wd gp9) a9 (a9 + 1) (Nat.le_refl _)]; rfl)
            have hl9 : lv_has ls 5 [(4, .int (nI (a9 + 1))), (3, .int (nI a9)), (2, .int (nI (clT (clP ft st tn kd mn cx cy wd gp9) ft a9 + cntP (fun b => a9 < b ∧ clP ft st tn kd mn cx cy wd gp9 a9 b) (a9 + 1)))), (0, .ref k0), (1, .int gp9)] := by rw [e9_2]; exact lv_sub hl [0, 1, 2, 3, 4] rfl
            exact hl_30 _ (a9 + 1) u9 d9 S1 H locs ls (Nat.lt_succ_self _) (by first | with_reducible assumption | omega) hP hD hS hl9
      have e9_2 : nI (clT (clP ft st tn kd mn cx cy wd gp9) ft 0) = (0 : Int32) := by rfl
      have hl9 : lv_has ls 5 [(3, .int (nI 0)), (2, .int (nI (clT (clP ft st tn kd mn cx cy wd gp9) ft 0))), (0, .ref k0), (1, .int gp9)] := by rw [e9_2]; exact lv_sub hl [0, 1, 2, 3] rfl
      exact hl_17 _ 0 (J0 48) (J0 49) S0 s.heap [] ls (Nat.lt_succ_self _) (by first | with_reducible assumption | omega) hP hD hS hl9
    · have c_2 : 200 < gp9.toInt := zc_nle rfl rfl c_2
      exfalso; omega
set_option maxHeartbeats 4000000 in
set_option maxRecDepth 100000 in
theorem k_M_clash_r (l : Launch) (dC : Nat → ClassId) (dI : Nat → Nat → Nat) (cI cZ cF : ClassId) (sz : Nat) (k0 : Nat) (a : Nat → Nat) (I0 : Nat → Int32) (J0 : Nat → Int64) (gp9 : Int32) (iv : Int32) (w : Int32) (hgp : ¬ (0 ≤ gp9.toInt ∧ gp9.toInt ≤ 200 ∧ 0 ≤ iv.toInt ∧ 0 ≤ w.toInt ∧ w.toInt ≤ 1)) : zM l yX11_clash cX11_clash 7 (some .int) ({ frames := 0, cells := 0, slots := 0, locals := 0 } : Room) [.ref k0, .int gp9, .int iv, .int w] (dC, dI) (zTy cI cZ cF) [(om k0 a I0 J0)] sz (some (.int (-1))) (fun A t => zPD (dC, dI) classes A [(om k0 a I0 J0)] t.heap) 0 0 := by
  refine zIn (own := "ScaleShopModel") (loc := [(0, .ref k0), (1, .int gp9), (2, .int iv), (3, .int w)]) rfl rfl rfl rfl (fun p e s m below meth c hx hb hr hts hown hlocks hml hnm9 A hA hS hP hD hK hXN Q9 hQ9 ls hl => ?_)
  refine lv_iload_n hx hb dX11_clash_0 rfl (lv_at hl 1 rfl) ?_
  refine lv_if_lt (tgt := 24) hx hb dX11_clash_1 rfl (fun c_1 => ?_) (fun c_1 => ?_)
  · have c_1 : gp9.toInt < 0 := zc_lt rfl rfl c_1
    refine lv_iconst (v := (-1)) hx hb dX11_clash_24 rfl ?_
    obtain ⟨hP9, hD9⟩ := zu_sub (wc := [_]) hP hD [true] rfl rfl
    rw [hQ9]
    exact W.iret (v := (-1)) hx hb hr (fun t ht hW => ⟨⟨rfl, by rw [ht]; exact hP9, hD9⟩, hS.F ht⟩) hS.2.2 dX11_clash_25
  · have c_1 : 0 ≤ gp9.toInt := zc_nlt rfl rfl c_1
    refine lv_iload_n hx hb dX11_clash_4 rfl (lv_at hl 1 rfl) ?_
    refine lv_sipush (v := 200) hx hb dX11_clash_5 rfl ?_
    refine lv_icmp_gt (tgt := 24) hx hb dX11_clash_8 rfl (fun c_2 => ?_) (fun c_2 => ?_)
    · have c_2 : 200 < gp9.toInt := zc_lt rfl rfl c_2
      refine lv_iconst (v := (-1)) hx hb dX11_clash_24 rfl ?_
      obtain ⟨hP9, hD9⟩ := zu_sub (wc := [_]) hP hD [true] rfl rfl
      rw [hQ9]
      exact W.iret (v := (-1)) hx hb hr (fun t ht hW => ⟨⟨rfl, by rw [ht]; exact hP9, hD9⟩, hS.F ht⟩) hS.2.2 dX11_clash_25
    · have c_2 : gp9.toInt ≤ 200 := zc_nlt rfl rfl c_2
      refine lv_iload_n hx hb dX11_clash_11 rfl (lv_at hl 2 rfl) ?_
      refine lv_if_lt (tgt := 24) hx hb dX11_clash_12 rfl (fun c_3 => ?_) (fun c_3 => ?_)
      · have c_3 : iv.toInt < 0 := zc_lt rfl rfl c_3
        refine lv_iconst (v := (-1)) hx hb dX11_clash_24 rfl ?_
        obtain ⟨hP9, hD9⟩ := zu_sub (wc := [_]) hP hD [true] rfl rfl
        rw [hQ9]
        exact W.iret (v := (-1)) hx hb hr (fun t ht hW => ⟨⟨rfl, by rw [ht]; exact hP9, hD9⟩, hS.F ht⟩) hS.2.2 dX11_clash_25
      · have c_3 : 0 ≤ iv.toInt := zc_nlt rfl rfl c_3
        refine lv_iload_n hx hb dX11_clash_15 rfl (lv_at hl 3 rfl) ?_
        refine lv_if_lt (tgt := 24) hx hb dX11_clash_16 rfl (fun c_4 => ?_) (fun c_4 => ?_)
        · have c_4 : w.toInt < 0 := zc_lt rfl rfl c_4
          refine lv_iconst (v := (-1)) hx hb dX11_clash_24 rfl ?_
          obtain ⟨hP9, hD9⟩ := zu_sub (wc := [_]) hP hD [true] rfl rfl
          rw [hQ9]
          exact W.iret (v := (-1)) hx hb hr (fun t ht hW => ⟨⟨rfl, by rw [ht]; exact hP9, hD9⟩, hS.F ht⟩) hS.2.2 dX11_clash_25
        · have c_4 : 0 ≤ w.toInt := zc_nlt rfl rfl c_4
          refine lv_iload_n hx hb dX11_clash_19 rfl (lv_at hl 3 rfl) ?_
          refine lv_iconst (v := 1) hx hb dX11_clash_20 rfl ?_
          refine lv_icmp_le (tgt := 26) hx hb dX11_clash_21 rfl (fun c_5 => ?_) (fun c_5 => ?_)
          · have c_5 : w.toInt ≤ 1 := zc_le rfl rfl c_5
            exfalso; omega
          · have c_5 : 1 < w.toInt := zc_nle rfl rfl c_5
            refine lv_iconst (v := (-1)) hx hb dX11_clash_24 rfl ?_
            obtain ⟨hP9, hD9⟩ := zu_sub (wc := [_]) hP hD [true] rfl rfl
            rw [hQ9]
            exact W.iret (v := (-1)) hx hb hr (fun t ht hW => ⟨⟨rfl, by rw [ht]; exact hP9, hD9⟩, hS.F ht⟩) hS.2.2 dX11_clash_25
set_option maxHeartbeats 4000000 in
set_option maxRecDepth 100000 in
theorem k_M_clash_y0 (l : Launch) (dC : Nat → ClassId) (dI : Nat → Nat → Nat) (cI cZ cF : ClassId) (sz : Nat) (k0 : Nat) (a : Nat → Nat) (I0 : Nat → Int32) (J0 : Nat → Int64) (ft : Nat) (i : Nat) (a7 : Nat) (b7 : Nat) (gp9 : Int32) (st : Nat → Int32) (tn : Nat → Int32) (kd : Nat → Int32) (mn : Nat → Int32) (cx : Nat → Int32) (cy : Nat → Int32) (S0 : Nat → Int32) (wd : Nat → Int32) (hft : I0 0 = nI ft) (h200 : ft ≤ 200) (hwf : ∀ q, lvF ft st tn q → wfM mn cx cy q) (hef : ∀ q, lvF ft st tn q → 1 ≤ eO (kd q).toInt (nN (mn q))) (hwd : ∀ q, q < ft → 0 ≤ (wd q).toInt ∧ (wd q).toInt ≤ 100) (hgp : 0 ≤ gp9.toInt ∧ gp9.toInt ≤ 200) (hi31 : i < 2147483648) (hit : clI (clP ft st tn kd mn cx cy wd gp9) ft a7 b7 i) : zM l yX11_clash cX11_clash 7 (some .int) ({ frames := 6, cells := 0, slots := 0, locals := 154 } : Room) [.ref k0, .int gp9, .int (nI i), .int 0] (dC, dI) (zTy cI cZ cF) [(om k0 a I0 J0), (oa (a 5) cI 201 st), (oa (a 6) cZ 201 tn), (oa (a 1) cI 201 kd), (oa (a 11) cI 201 mn), (oa (a 12) cI 8040 cx), (oa (a 13) cI 8040 cy), (oa (a 32) cI 8 S0), (oa (a 3) cI 201 wd)] sz (some (.int (nI a7))) (fun A t => ∃ (u9 : Int64), ∃ (d9 : Int64), ∃ (S1 : Nat → Int32), zPD (dC, dI) classes A [(om k0 a I0 (vp_updL (vp_updL J0 48 u9) 49 d9)), (oa (a 5) cI 201 st), (oa (a 6) cZ 201 tn), (oa (a 1) cI 201 kd), (oa (a 11) cI 201 mn), (oa (a 12) cI 8040 cx), (oa (a 13) cI 8040 cy), (oa (a 32) cI 8 S1), (oa (a 3) cI 201 wd)] t.heap) 0 0 := by
  refine zIn (own := "ScaleShopModel") (loc := [(0, .ref k0), (1, .int gp9), (2, .int (nI i)), (3, .int 0)]) rfl rfl rfl rfl (fun p e s m below meth c hx hb hr hts hown hlocks hml hnm9 A hA hS hP hD hK hXN Q9 hQ9 ls hl => ?_)
  refine lv_iload_n hx hb dX11_clash_0 rfl (lv_at hl 1 rfl) ?_
  refine lv_if_lt (tgt := 24) hx hb dX11_clash_1 rfl (fun c_1 => ?_) (fun c_1 => ?_)
  · have c_1 : gp9.toInt < 0 := zc_lt rfl rfl c_1
    exfalso; omega
  · have c_1 : 0 ≤ gp9.toInt := zc_nlt rfl rfl c_1
    refine lv_iload_n hx hb dX11_clash_4 rfl (lv_at hl 1 rfl) ?_
    refine lv_sipush (v := 200) hx hb dX11_clash_5 rfl ?_
    refine lv_icmp_gt (tgt := 24) hx hb dX11_clash_8 rfl (fun c_2 => ?_) (fun c_2 => ?_)
    · have c_2 : 200 < gp9.toInt := zc_lt rfl rfl c_2
      exfalso; omega
    · have c_2 : gp9.toInt ≤ 200 := zc_nlt rfl rfl c_2
      refine lv_iload_n hx hb dX11_clash_11 rfl (lv_at hl 2 rfl) ?_
      have b9_4 : zlt (i) := show i < 2147483648 by omega
      refine lv_if_lt (tgt := 24) hx hb dX11_clash_12 rfl (fun c_3 => ?_) (fun c_3 => ?_)
      · have c_3 : ((i : Nat) : Int) < 0 := zc_lt (nI_toInt b9_4) rfl c_3
        exfalso; omega
      · have c_3 : 0 ≤ ((i : Nat) : Int) := zc_nlt (nI_toInt b9_4) rfl c_3
        refine lv_iload_n hx hb dX11_clash_15 rfl (lv_at hl 3 rfl) ?_
        refine lv_if_lt (tgt := 24) hx hb dX11_clash_16 rfl (fun c_5 => ?_) (fun c_5 => ?_)
        · exact absurd c_5 (by decide)
        · refine lv_iload_n hx hb dX11_clash_19 rfl (lv_at hl 3 rfl) ?_
          refine lv_iconst (v := 1) hx hb dX11_clash_20 rfl ?_
          refine lv_icmp_le (tgt := 26) hx hb dX11_clash_21 rfl (fun c_6 => ?_) (fun c_6 => ?_)
          · refine lv_iconst (v := 0) hx hb dX11_clash_26 rfl ?_
            refine lv_istore (lv' := [(4, .int 0), (0, .ref k0), (1, .int gp9), (2, .int (nI i)), (3, .int 0)]) hx hb dX11_clash_27 hl (Nat.le_of_ble_eq_true rfl) rfl (fun ls hl => ?_)
            refine lv_iconst (v := 0) hx hb dX11_clash_29 rfl ?_
            refine lv_istore (lv' := [(5, .int 0), (4, .int 0), (0, .ref k0), (1, .int gp9), (2, .int (nI i)), (3, .int 0)]) hx hb dX11_clash_30 hl (Nat.le_of_ble_eq_true rfl) rfl (fun ls hl => ?_)
            have hl_32 : ∀ (n9 : Nat) (a9 : Nat) (u9 : Int64) (d9 : Int64) (S1 : Nat → Int32) (H : Heap) (locs : List Loc) (ls : Array Slot), ft - a9 < n9 → (a9 ≤ ft) → (∀ a8 b8, a8 < a9 → ¬ clI (clP ft st tn kd mn cx cy wd gp9) ft a8 b8 i) → va_P (dC, dI) classes [(om k0 a I0 (vp_updL (vp_updL J0 48 u9) 49 d9)), (oa (a 5) cI 201 st), (oa (a 6) cZ 201 tn), (oa (a 1) cI 201 kd), (oa (a 11) cI 201 mn), (oa (a 12) cI 8040 cx), (oa (a 13) cI 8040 cy), (oa (a 32) cI 8 S1), (oa (a 3) cI 201 wd)] H → va_D A [(om k0 a I0 (vp_updL (vp_updL J0 48 u9) 49 d9)), (oa (a 5) cI 201 st), (oa (a 6) cZ 201 tn), (oa (a 1) cI 201 kd), (oa (a 11) cI 201 mn), (oa (a 12) cI 8040 cx), (oa (a 13) cI 8040 cy), (oa (a 32) cI 8 S1), (oa (a 3) cI 201 wd)] → va_S A s.heap H locs → lv_has ls 7 [(5, .int (nI a9)), (4, .int (nI (clT (clP ft st tn kd mn cx cy wd gp9) ft a9))), (0, .ref k0), (1, .int gp9), (2, .int (nI i)), (3, .int 0)] → W p l e ({ frames := 6, cells := 0, slots := 0, locals := 154 } : Room) s m ([.ref k0, .int gp9, .int (nI i), .int 0] : List Value).toArray below meth c H locs 0 0 Q9 (F0 m 32 ls []) := by
              intro n9
              induction n9 with
              | zero => intro a9 u9 d9 S1 H locs ls hm; exact absurd hm (Nat.not_lt_zero _)
              | succ n9 ih_32 =>
                intro a9 u9 d9 S1 H locs ls hm ha9 hno hP hD hS hl
                have hct := clT_200 (clP ft st tn kd mn cx cy wd gp9) h200 ha9
                refine lv_iload hx hb dX11_clash_32 (lv_at hl 0 rfl) ?_
                refine lv_aload_n hx hb dX11_clash_34 rfl (lv_at hl 2 rfl) ?_
                refine va_get (D := (dC, dI)) (ci := 9) (v := .int (I0 0)) (C := RX11) (T := TX11) (N := 55) hx hb hts inX11 hown hK hP 0 rfl rfl 0 (Nat.le_of_ble_eq_true rfl) (hts _ mw_1159) (fun _ h9 => h9) rfl dX11_clash_35 ?_
                refine zz_i (v := nI ft) (hft) ?_
                have b9_8 : zlt (a9) := show a9 < 2147483648 by omega
                have b9_9 : zlt (ft) := show ft < 2147483648 by omega
                refine lv_icmp_ge (tgt := 104) hx hb dX11_clash_38 rfl (fun c_7 => ?_) (fun c_7 => ?_)
                · have c_7 : ((ft : Nat) : Int) ≤ ((a9 : Nat) : Int) := zc_le (nI_toInt b9_9) (nI_toInt b9_8) c_7
                  exfalso; exact hno a7 b7 (by have := hit.1; have := hit.2.1; omega) hit
                · have c_7 : ((a9 : Nat) : Int) < ((ft : Nat) : Int) := zc_nle (nI_toInt b9_9) (nI_toInt b9_8) c_7
                  refine lv_iload hx hb dX11_clash_41 (lv_at hl 0 rfl) ?_
                  refine lv_iconst (v := 1) hx hb dX11_clash_43 rfl ?_
                  refine lv_iadd hx hb dX11_clash_44 ?_
                  refine zz_i (v := nI (a9 + 1)) (nI_add a9 1) ?_
                  refine lv_istore (lv' := [(6, .int (nI (a9 + 1))), (5, .int (nI a9)), (4, .int (nI (clT (clP ft st tn kd mn cx cy wd gp9) ft a9))), (0, .ref k0), (1, .int gp9), (2, .int (nI i)), (3, .int 0)]) hx hb dX11_clash_45 hl (Nat.le_of_ble_eq_true rfl) rfl (fun ls hl => ?_)
                  have hl_47 : ∀ (n9 : Nat) (b9 : Nat) (u9 : Int64) (d9 : Int64) (S1 : Nat → Int32) (H : Heap) (locs : List Loc) (ls : Array Slot), ft - b9 < n9 → (a9 < b9 ∧ b9 ≤ ft) → (∀ b8, b8 < b9 → ¬ clI (clP ft st tn kd mn cx cy wd gp9) ft a9 b8 i) → va_P (dC, dI) classes [(om k0 a I0 (vp_updL (vp_updL J0 48 u9) 49 d9)), (oa (a 5) cI 201 st), (oa (a 6) cZ 201 tn), (oa (a 1) cI 201 kd), (oa (a 11) cI 201 mn), (oa (a 12) cI 8040 cx), (oa (a 13) cI 8040 cy), (oa (a 32) cI 8 S1), (oa (a 3) cI 201 wd)] H → va_D A [(om k0 a I0 (vp_updL (vp_updL J0 48 u9) 49 d9)), (oa (a 5) cI 201 st), (oa (a 6) cZ 201 tn), (oa (a 1) cI 201 kd), (oa (a 11) cI 201 mn), (oa (a 12) cI 8040 cx), (oa (a 13) cI 8040 cy), (oa (a 32) cI 8 S1), (oa (a 3) cI 201 wd)] → va_S A s.heap H locs → lv_has ls 7 [(6, .int (nI b9)), (5, .int (nI a9)), (4, .int (nI (clT (clP ft st tn kd mn cx cy wd gp9) ft a9 + cntP (fun b => a9 < b ∧ clP ft st tn kd mn cx cy wd gp9 a9 b) b9))), (0, .ref k0), (1, .int gp9), (2, .int (nI i)), (3, .int 0)] → W p l e ({ frames := 6, cells := 0, slots := 0, locals := 154 } : Room) s m ([.ref k0, .int gp9, .int (nI i), .int 0] : List Value).toArray below meth c H locs 0 0 Q9 (F0 m 47 ls []) := by
                    intro n9
                    induction n9 with
                    | zero => intro b9 u9 d9 S1 H locs ls hm; exact absurd hm (Nat.not_lt_zero _)
                    | succ n9 ih_47 =>
                      intro b9 u9 d9 S1 H locs ls hm hb9 hnb hP hD hS hl
                      have hcn := cntP_b (fun b => a9 < b ∧ clP ft st tn kd mn cx cy wd gp9 a9 b) b9
                      refine lv_iload hx hb dX11_clash_47 (lv_at hl 0 rfl) ?_
                      refine lv_aload_n hx hb dX11_clash_49 rfl (lv_at hl 3 rfl) ?_
                      refine va_get (D := (dC, dI)) (ci := 9) (v := .int (I0 0)) (C := RX11) (T := TX11) (N := 55) hx hb hts inX11 hown hK hP 0 rfl rfl 0 (Nat.le_of_ble_eq_true rfl) (hts _ mw_1159) (fun _ h9 => h9) rfl dX11_clash_50 ?_
                      refine zz_i (v := nI ft) (hft) ?_
                      have b9_11 : zlt (b9) := show b9 < 2147483648 by omega
                      refine lv_icmp_ge (tgt := 98) hx hb dX11_clash_53 rfl (fun c_10 => ?_) (fun c_10 => ?_)
                      · have c_10 : ((ft : Nat) : Int) ≤ ((b9 : Nat) : Int) := zc_le (nI_toInt b9_9) (nI_toInt b9_11) c_10
                        refine lv_iinc (v := nI (a9 + 1)) (lv' := [(5, .int (nI (a9 + 1))), (6, .int (nI b9)), (4, .int (nI (clT (clP ft st tn kd mn cx cy wd gp9) ft a9 + cntP (fun b => a9 < b ∧ clP ft st tn kd mn cx cy wd gp9 a9 b) b9))), (0, .ref k0), (1, .int gp9), (2, .int (nI i)), (3, .int 0)]) hx hb dX11_clash_98 hl (k := 1) rfl (nI_add a9 1) (Nat.le_of_ble_eq_true rfl) rfl (fun ls hl => ?_)
                        refine lv_goto (tgt := 32) hx hb dX11_clash_101 rfl ?_
                        have hl9 := lv_sub hl [0, 2, 3, 4, 5, 6] rfl
                        have e9_4 : nI (clT (clP ft st tn kd mn cx cy wd gp9) ft (a9 + 1)) = (nI (clT (clP ft st tn kd mn cx cy wd gp9) ft a9 + cntP (fun b => a9 < b ∧ clP ft st tn kd mn cx cy wd gp9 a9 b) b9) : Int32) := by exact zn_eq (by rw [show b9 = ft by omega]; rfl)
                        have hl9 : lv_has ls 7 [(5, .int (nI (a9 + 1))), (4, .int (nI (clT (clP ft st tn kd mn cx cy wd gp9) ft (a9 + 1)))), (0, .ref k0), (1, .int gp9), (2, .int (nI i)), (3, .int 0)] := by rw [e9_4]; exact hl9
                        exact ih_32 (a9 + 1) u9 d9 S1 H locs ls (by first | with_reducible assumption | omega) (by first | with_reducible assumption | omega) (fun a8 b8 h h2 => (by rcases Nat.lt_or_ge a8 a9 with q | q; exact hno a8 b8 q h2; rw [show a8 = a9 by omega] at h2; exact hnb b8 (by have := h2.2.1; omega) h2)) hP hD hS hl9
                      · have c_10 : ((b9 : Nat) : Int) < ((ft : Nat) : Int) := zc_nle (nI_toInt b9_9) (nI_toInt b9_11) c_10
                        refine lv_aload_n hx hb dX11_clash_56 rfl (lv_at hl 3 rfl) ?_
                        refine lv_iload hx hb dX11_clash_57 (lv_at hl 1 rfl) ?_
                        refine lv_iload hx hb dX11_clash_59 (lv_at hl 0 rfl) ?_
                        refine lv_iload_n hx hb dX11_clash_61 rfl (lv_at hl 4 rfl) ?_
                        obtain ⟨hPc, hDc, hFc⟩ := zo_sub (wc := [_, _, _, _, _, _, _, _, _]) hP hD hS hA [0, 1, 2, 3, 4, 5, 6, 7, 8] (by decide +kernel) rfl
                        refine zcall (st1 := [.int (pI (clP ft st tn kd mn cx cy wd gp9 a9 b9))]) (va_runV (As := [.int (nI a9), .int (nI b9), .int gp9]) (rest := []) ⟨hx, hb, hml, hown, hts⟩ (k_M_isClash l dC dI cI cZ cF H.size k0 a I0 (vp_updL (vp_updL J0 48 u9) 49 d9) a9 b9 ft gp9 st tn kd mn cx cy S1 wd (by first | with_reducible assumption | assumption) (by first | with_reducible assumption | omega) (by first | with_reducible assumption | assumption) (by first | with_reducible assumption | assumption) (by first | with_reducible assumption | assumption) (by first | with_reducible assumption | assumption) (by first | with_reducible assumption | omega) (by first | with_reducible assumption | omega)) (csV_230 hts rfl rfl ⟨Nat.le_of_ble_eq_true rfl, Nat.le_of_ble_eq_true rfl⟩) (zPV2 (q0 := 0) (ci := 9) hPc hDc hK hXN rfl rfl) rfl rfl hl.1 rfl (lv_room (Nat.le_of_ble_eq_true rfl)) dX11_clash_62 ⟨Nat.le_of_ble_eq_true rfl, Nat.le_of_ble_eq_true rfl⟩) hS hFc hFc rfl (fun t H locs ht hB hk1 hS => ?_)
                        obtain ⟨q_12, q_13, q_14, hP1, hD1⟩ := hB
                        rw [ht] at hP1
                        obtain ⟨hP, hD⟩ := zn (W2 := [(om k0 a I0 (vp_updL (vp_updL J0 48 q_12) 49 q_13)), _, _, _, _, _, _, (oa (a 32) cI 8 q_14), _]) hP hD hk1 hFc hP1 hD1 zl_269 [] zl_270 zl_269 (by decide +kernel) rfl rfl rfl rfl rfl
                        clear hk1 hPc hDc hFc hP1 hD1 ht
                        refine lv_if_ne (tgt := 71) hx hb dX11_clash_65 rfl (fun c_15 => ?_) (fun c_15 => ?_)
                        · have c_15 : clP ft st tn kd mn cx cy wd gp9 a9 b9 := zp_1 c_15
                          refine lv_iload hx hb dX11_clash_71 (lv_at hl 2 rfl) ?_
                          refine lv_iload_n hx hb dX11_clash_73 rfl (lv_at hl 5 rfl) ?_
                          have b9_17 : zlt ((clT (clP ft st tn kd mn cx cy wd gp9) ft a9 + cntP (fun b => a9 < b ∧ clP ft st tn kd mn cx cy wd gp9 a9 b) b9)) := show (clT (clP ft st tn kd mn cx cy wd gp9) ft a9 + cntP (fun b => a9 < b ∧ clP ft st tn kd mn cx cy wd gp9 a9 b) b9) < 2147483648 by omega
                          refine lv_icmp_ne (tgt := 89) hx hb dX11_clash_74 rfl (fun c_16 => ?_) (fun c_16 => ?_)
                          · have c_16 : ¬ ((clT (clP ft st tn kd mn cx cy wd gp9) ft a9 + cntP (fun b => a9 < b ∧ clP ft st tn kd mn cx cy wd gp9 a9 b) b9 : Nat) : Int) = ((i : Nat) : Int) := zc_ne (nI_toInt b9_17) (nI_toInt b9_4) c_16
                            refine lv_iinc (v := nI ((clT (clP ft st tn kd mn cx cy wd gp9) ft a9 + cntP (fun b => a9 < b ∧ clP ft st tn kd mn cx cy wd gp9 a9 b) b9) + 1)) (lv' := [(4, .int (nI ((clT (clP ft st tn kd mn cx cy wd gp9) ft a9 + cntP (fun b => a9 < b ∧ clP ft st tn kd mn cx cy wd gp9 a9 b) b9) + 1))), (6, .int (nI b9)), (5, .int (nI a9)), (0, .ref k0), (1, .int gp9), (2, .int (nI i)), (3, .int 0)]) hx hb dX11_clash_89 hl (k := 2) rfl (nI_add (clT (clP ft st tn kd mn cx cy wd gp9) ft a9 + cntP (fun b => a9 < b ∧ clP ft st tn kd mn cx cy wd gp9 a9 b) b9) 1) (Nat.le_of_ble_eq_true rfl) rfl (fun ls hl => ?_)
                            refine lv_iinc (v := nI (b9 + 1)) (lv' := [(6, .int (nI (b9 + 1))), (4, .int (nI ((clT (clP ft st tn kd mn cx cy wd gp9) ft a9 + cntP (fun b => a9 < b ∧ clP ft st tn kd mn cx cy wd gp9 a9 b) b9) + 1))), (5, .int (nI a9)), (0, .ref k0), (1, .int gp9), (2, .int (nI i)), (3, .int 0)]) hx hb dX11_clash_92 hl (k := 1) rfl (nI_add b9 1) (Nat.le_of_ble_eq_true rfl) rfl (fun ls hl => ?_)
                            refine lv_goto (tgt := 47) hx hb dX11_clash_95 rfl ?_
                            have hl9 := lv_sub hl [0, 2, 1, 3, 4, 5, 6] rfl
                            have e9_4 : nI (clT (clP ft st tn kd mn cx cy wd gp9) ft a9 + cntP (fun b => a9 < b ∧ clP ft st tn kd mn cx cy wd gp9 a9 b) (b9 + 1)) = (nI ((clT (clP ft st tn kd mn cx cy wd gp9) ft a9 + cntP (fun b => a9 < b ∧ clP ft st tn kd mn cx cy wd gp9 a9 b) b9) + 1) : Int32) := by first | exact zn_eq (by rw [cntP_y (P := fun b => a9 < b ∧ clP ft st tn kd mn cx cy wd gp9 a9 b) ⟨by omega, by assumption⟩]; first | done | omega) | exact zn_eq (by rw [cntP_n (P := fun b => a9 < b ∧ clP ft st tn kd mn cx cy wd gp9 a9 b) (fun h => absurd h.2 (by first | with_reducible assumption | assumption))]; first | done | omega)
                            have hl9 : lv_has ls 7 [(6, .int (nI (b9 + 1))), (5, .int (nI a9)), (4, .int (nI (clT (clP ft st tn kd mn cx cy wd gp9) ft a9 + cntP (fun b => a9 < b ∧ clP ft st tn kd mn cx cy wd gp9 a9 b) (b9 + 1)))), (0, .ref k0), (1, .int gp9), (2, .int (nI i)), (3, .int 0)] := by rw [e9_4]; exact hl9
                            exact ih_47 (b9 + 1) q_12 q_13 q_14 H locs ls (by first | with_reducible assumption | omega) (by first | with_reducible assumption | omega) (fun b8 h h2 => (by rcases Nat.lt_or_ge b8 b9 with q | q; exact hnb b8 q h2; rw [show b8 = b9 by omega] at h2; first | exact absurd h2.2.2.1 (by first | with_reducible assumption | assumption) | (have h7 := h2.2.2.2; omega))) hP hD hS hl9
                          · have c_16 : ((clT (clP ft st tn kd mn cx cy wd gp9) ft a9 + cntP (fun b => a9 < b ∧ clP ft st tn kd mn cx cy wd gp9 a9 b) b9 : Nat) : Int) = ((i : Nat) : Int) := zc_eq (nI_toInt b9_17) (nI_toInt b9_4) c_16
                            have hci : clI (clP ft st tn kd mn cx cy wd gp9) ft a9 b9 i := ⟨by omega, by omega, by assumption, by omega⟩
                            refine lv_iload_n hx hb dX11_clash_77 rfl (lv_at hl 6 rfl) ?_
                            refine lv_if_ne (tgt := 86) hx hb dX11_clash_78 rfl (fun c_18 => ?_) (fun c_18 => ?_)
                            · exact absurd (by decide) c_18
                            · refine lv_iload hx hb dX11_clash_81 (lv_at hl 1 rfl) ?_
                              refine lv_goto (tgt := 88) hx hb dX11_clash_83 rfl ?_
                              obtain ⟨hP9, hD9⟩ := zu_sub (wc := [_, _, _, _, _, _, _, _, _]) hP hD [true, true, true, true, true, true, true, true, true] rfl rfl
                              rw [hQ9]
                              exact W.iret (v := nI a9) hx hb hr (fun t ht hW => ⟨⟨congrArg (fun z => Outcome.returned (some (Value.int z))) (show (nI a9 : Int32) = nI a7 from zn_eq (clI_u hci hit).1), q_12, q_13, q_14, by rw [ht]; exact hP9, hD9⟩, hS.F ht⟩) hS.2.2 dX11_clash_88
                        · have c_15 : ¬ (clP ft st tn kd mn cx cy wd gp9 a9 b9) := zp_0 c_15
                          refine lv_goto (tgt := 92) hx hb dX11_clash_68 rfl ?_
                          refine lv_iinc (v := nI (b9 + 1)) (lv' := [(6, .int (nI (b9 + 1))), (5, .int (nI a9)), (4, .int (nI (clT (clP ft st tn kd mn cx cy wd gp9) ft a9 + cntP (fun b => a9 < b ∧ clP ft st tn kd mn cx cy wd gp9 a9 b) b9))), (0, .ref k0), (1, .int gp9), (2, .int (nI i)), (3, .int 0)]) hx hb dX11_clash_92 hl (k := 0) rfl (nI_add b9 1) (Nat.le_of_ble_eq_true rfl) rfl (fun ls hl => ?_)
                          refine lv_goto (tgt := 47) hx hb dX11_clash_95 rfl ?_
                          have hl9 := lv_sub hl [0, 1, 2, 3, 4, 5, 6] rfl
                          have e9_4 : nI (clT (clP ft st tn kd mn cx cy wd gp9) ft a9 + cntP (fun b => a9 < b ∧ clP ft st tn kd mn cx cy wd gp9 a9 b) (b9 + 1)) = (nI (clT (clP ft st tn kd mn cx cy wd gp9) ft a9 + cntP (fun b => a9 < b ∧ clP ft st tn kd mn cx cy wd gp9 a9 b) b9) : Int32) := by first | exact zn_eq (by rw [cntP_y (P := fun b => a9 < b ∧ clP ft st tn kd mn cx cy wd gp9 a9 b) ⟨by omega, by assumption⟩]; first | done | omega) | exact zn_eq (by rw [cntP_n (P := fun b => a9 < b ∧ clP ft st tn kd mn cx cy wd gp9 a9 b) (fun h => absurd h.2 (by first | with_reducible assumption | assumption))]; first | done | omega)
                          have hl9 : lv_has ls 7 [(6, .int (nI (b9 + 1))), (5, .int (nI a9)), (4, .int (nI (clT (clP ft st tn kd mn cx cy wd gp9) ft a9 + cntP (fun b => a9 < b ∧ clP ft st tn kd mn cx cy wd gp9 a9 b) (b9 + 1)))), (0, .ref k0), (1, .int gp9), (2, .int (nI i)), (3, .int 0)] := by rw [e9_4]; exact hl9
                          exact ih_47 (b9 + 1) q_12 q_13 q_14 H locs ls (by first | with_reducible assumption | omega) (by first | with_reducible assumption | omega) (fun b8 h h2 => (by rcases Nat.lt_or_ge b8 b9 with q | q; exact hnb b8 q h2; rw [show b8 = b9 by omega] at h2; first | exact absurd h2.2.2.1 (by first | with_reducible assumption | assumption) | (have h7 := h2.2.2.2; omega))) hP hD hS hl9
                  have e9_4 : nI (clT (clP ft st tn kd mn cx cy wd gp9) ft a9 + cntP (fun b => a9 < b ∧ clP ft st tn kd mn cx cy wd gp9 a9 b) (a9 + 1)) = (nI (clT (clP ft st tn kd mn cx cy wd gp9) ft a9) : Int32) := by exact zn_eq (by rw [cl_0 (clP ft st tn kd mn cx cy wd gp9) a9 (a9 + 1) (Nat.le_refl _)]; rfl)
                  have hl9 : lv_has ls 7 [(6, .int (nI (a9 + 1))), (5, .int (nI a9)), (4, .int (nI (clT (clP ft st tn kd mn cx cy wd gp9) ft a9 + cntP (fun b => a9 < b ∧ clP ft st tn kd mn cx cy wd gp9 a9 b) (a9 + 1)))), (0, .ref k0), (1, .int gp9), (2, .int (nI i)), (3, .int 0)] := by rw [e9_4]; exact lv_sub hl [0, 1, 2, 3, 4, 5, 6] rfl
                  exact hl_47 _ (a9 + 1) u9 d9 S1 H locs ls (Nat.lt_succ_self _) (by first | with_reducible assumption | omega) (fun b8 h h2 => (by have := h2.1; omega)) hP hD hS hl9
            have e9_4 : nI (clT (clP ft st tn kd mn cx cy wd gp9) ft 0) = (0 : Int32) := by rfl
            have hl9 : lv_has ls 7 [(5, .int (nI 0)), (4, .int (nI (clT (clP ft st tn kd mn cx cy wd gp9) ft 0))), (0, .ref k0), (1, .int gp9), (2, .int (nI i)), (3, .int 0)] := by rw [e9_4]; exact lv_sub hl [0, 1, 2, 3, 4, 5] rfl
            exact hl_32 _ 0 (J0 48) (J0 49) S0 s.heap [] ls (Nat.lt_succ_self _) (by first | with_reducible assumption | omega) (fun a8 b8 h => absurd h (Nat.not_lt_zero _)) hP hD hS hl9
          · exact absurd (by decide) c_6
set_option maxHeartbeats 4000000 in
set_option maxRecDepth 100000 in
theorem k_M_clash_y1 (l : Launch) (dC : Nat → ClassId) (dI : Nat → Nat → Nat) (cI cZ cF : ClassId) (sz : Nat) (k0 : Nat) (a : Nat → Nat) (I0 : Nat → Int32) (J0 : Nat → Int64) (ft : Nat) (i : Nat) (a7 : Nat) (b7 : Nat) (gp9 : Int32) (st : Nat → Int32) (tn : Nat → Int32) (kd : Nat → Int32) (mn : Nat → Int32) (cx : Nat → Int32) (cy : Nat → Int32) (S0 : Nat → Int32) (wd : Nat → Int32) (hft : I0 0 = nI ft) (h200 : ft ≤ 200) (hwf : ∀ q, lvF ft st tn q → wfM mn cx cy q) (hef : ∀ q, lvF ft st tn q → 1 ≤ eO (kd q).toInt (nN (mn q))) (hwd : ∀ q, q < ft → 0 ≤ (wd q).toInt ∧ (wd q).toInt ≤ 100) (hgp : 0 ≤ gp9.toInt ∧ gp9.toInt ≤ 200) (hi31 : i < 2147483648) (hit : clI (clP ft st tn kd mn cx cy wd gp9) ft a7 b7 i) : zM l yX11_clash cX11_clash 7 (some .int) ({ frames := 6, cells := 0, slots := 0, locals := 154 } : Room) [.ref k0, .int gp9, .int (nI i), .int 1] (dC, dI) (zTy cI cZ cF) [(om k0 a I0 J0), (oa (a 5) cI 201 st), (oa (a 6) cZ 201 tn), (oa (a 1) cI 201 kd), (oa (a 11) cI 201 mn), (oa (a 12) cI 8040 cx), (oa (a 13) cI 8040 cy), (oa (a 32) cI 8 S0), (oa (a 3) cI 201 wd)] sz (some (.int (nI b7))) (fun A t => ∃ (u9 : Int64), ∃ (d9 : Int64), ∃ (S1 : Nat → Int32), zPD (dC, dI) classes A [(om k0 a I0 (vp_updL (vp_updL J0 48 u9) 49 d9)), (oa (a 5) cI 201 st), (oa (a 6) cZ 201 tn), (oa (a 1) cI 201 kd), (oa (a 11) cI 201 mn), (oa (a 12) cI 8040 cx), (oa (a 13) cI 8040 cy), (oa (a 32) cI 8 S1), (oa (a 3) cI 201 wd)] t.heap) 0 0 := by
  refine zIn (own := "ScaleShopModel") (loc := [(0, .ref k0), (1, .int gp9), (2, .int (nI i)), (3, .int 1)]) rfl rfl rfl rfl (fun p e s m below meth c hx hb hr hts hown hlocks hml hnm9 A hA hS hP hD hK hXN Q9 hQ9 ls hl => ?_)
  refine lv_iload_n hx hb dX11_clash_0 rfl (lv_at hl 1 rfl) ?_
  refine lv_if_lt (tgt := 24) hx hb dX11_clash_1 rfl (fun c_1 => ?_) (fun c_1 => ?_)
  · have c_1 : gp9.toInt < 0 := zc_lt rfl rfl c_1
    exfalso; omega
  · have c_1 : 0 ≤ gp9.toInt := zc_nlt rfl rfl c_1
    refine lv_iload_n hx hb dX11_clash_4 rfl (lv_at hl 1 rfl) ?_
    refine lv_sipush (v := 200) hx hb dX11_clash_5 rfl ?_
    refine lv_icmp_gt (tgt := 24) hx hb dX11_clash_8 rfl (fun c_2 => ?_) (fun c_2 => ?_)
    · have c_2 : 200 < gp9.toInt := zc_lt rfl rfl c_2
      exfalso; omega
    · have c_2 : gp9.toInt ≤ 200 := zc_nlt rfl rfl c_2
      refine lv_iload_n hx hb dX11_clash_11 rfl (lv_at hl 2 rfl) ?_
      have b9_4 : zlt (i) := show i < 2147483648 by omega
      refine lv_if_lt (tgt := 24) hx hb dX11_clash_12 rfl (fun c_3 => ?_) (fun c_3 => ?_)
      · have c_3 : ((i : Nat) : Int) < 0 := zc_lt (nI_toInt b9_4) rfl c_3
        exfalso; omega
      · have c_3 : 0 ≤ ((i : Nat) : Int) := zc_nlt (nI_toInt b9_4) rfl c_3
        refine lv_iload_n hx hb dX11_clash_15 rfl (lv_at hl 3 rfl) ?_
        refine lv_if_lt (tgt := 24) hx hb dX11_clash_16 rfl (fun c_5 => ?_) (fun c_5 => ?_)
        · exact absurd c_5 (by decide)
        · refine lv_iload_n hx hb dX11_clash_19 rfl (lv_at hl 3 rfl) ?_
          refine lv_iconst (v := 1) hx hb dX11_clash_20 rfl ?_
          refine lv_icmp_le (tgt := 26) hx hb dX11_clash_21 rfl (fun c_6 => ?_) (fun c_6 => ?_)
          · refine lv_iconst (v := 0) hx hb dX11_clash_26 rfl ?_
            refine lv_istore (lv' := [(4, .int 0), (0, .ref k0), (1, .int gp9), (2, .int (nI i)), (3, .int 1)]) hx hb dX11_clash_27 hl (Nat.le_of_ble_eq_true rfl) rfl (fun ls hl => ?_)
            refine lv_iconst (v := 0) hx hb dX11_clash_29 rfl ?_
            refine lv_istore (lv' := [(5, .int 0), (4, .int 0), (0, .ref k0), (1, .int gp9), (2, .int (nI i)), (3, .int 1)]) hx hb dX11_clash_30 hl (Nat.le_of_ble_eq_true rfl) rfl (fun ls hl => ?_)
            have hl_32 : ∀ (n9 : Nat) (a9 : Nat) (u9 : Int64) (d9 : Int64) (S1 : Nat → Int32) (H : Heap) (locs : List Loc) (ls : Array Slot), ft - a9 < n9 → (a9 ≤ ft) → (∀ a8 b8, a8 < a9 → ¬ clI (clP ft st tn kd mn cx cy wd gp9) ft a8 b8 i) → va_P (dC, dI) classes [(om k0 a I0 (vp_updL (vp_updL J0 48 u9) 49 d9)), (oa (a 5) cI 201 st), (oa (a 6) cZ 201 tn), (oa (a 1) cI 201 kd), (oa (a 11) cI 201 mn), (oa (a 12) cI 8040 cx), (oa (a 13) cI 8040 cy), (oa (a 32) cI 8 S1), (oa (a 3) cI 201 wd)] H → va_D A [(om k0 a I0 (vp_updL (vp_updL J0 48 u9) 49 d9)), (oa (a 5) cI 201 st), (oa (a 6) cZ 201 tn), (oa (a 1) cI 201 kd), (oa (a 11) cI 201 mn), (oa (a 12) cI 8040 cx), (oa (a 13) cI 8040 cy), (oa (a 32) cI 8 S1), (oa (a 3) cI 201 wd)] → va_S A s.heap H locs → lv_has ls 7 [(5, .int (nI a9)), (4, .int (nI (clT (clP ft st tn kd mn cx cy wd gp9) ft a9))), (0, .ref k0), (1, .int gp9), (2, .int (nI i)), (3, .int 1)] → W p l e ({ frames := 6, cells := 0, slots := 0, locals := 154 } : Room) s m ([.ref k0, .int gp9, .int (nI i), .int 1] : List Value).toArray below meth c H locs 0 0 Q9 (F0 m 32 ls []) := by
              intro n9
              induction n9 with
              | zero => intro a9 u9 d9 S1 H locs ls hm; exact absurd hm (Nat.not_lt_zero _)
              | succ n9 ih_32 =>
                intro a9 u9 d9 S1 H locs ls hm ha9 hno hP hD hS hl
                have hct := clT_200 (clP ft st tn kd mn cx cy wd gp9) h200 ha9
                refine lv_iload hx hb dX11_clash_32 (lv_at hl 0 rfl) ?_
                refine lv_aload_n hx hb dX11_clash_34 rfl (lv_at hl 2 rfl) ?_
                refine va_get (D := (dC, dI)) (ci := 9) (v := .int (I0 0)) (C := RX11) (T := TX11) (N := 55) hx hb hts inX11 hown hK hP 0 rfl rfl 0 (Nat.le_of_ble_eq_true rfl) (hts _ mw_1159) (fun _ h9 => h9) rfl dX11_clash_35 ?_
                refine zz_i (v := nI ft) (hft) ?_
                have b9_8 : zlt (a9) := show a9 < 2147483648 by omega
                have b9_9 : zlt (ft) := show ft < 2147483648 by omega
                refine lv_icmp_ge (tgt := 104) hx hb dX11_clash_38 rfl (fun c_7 => ?_) (fun c_7 => ?_)
                · have c_7 : ((ft : Nat) : Int) ≤ ((a9 : Nat) : Int) := zc_le (nI_toInt b9_9) (nI_toInt b9_8) c_7
                  exfalso; exact hno a7 b7 (by have := hit.1; have := hit.2.1; omega) hit
                · have c_7 : ((a9 : Nat) : Int) < ((ft : Nat) : Int) := zc_nle (nI_toInt b9_9) (nI_toInt b9_8) c_7
                  refine lv_iload hx hb dX11_clash_41 (lv_at hl 0 rfl) ?_
                  refine lv_iconst (v := 1) hx hb dX11_clash_43 rfl ?_
                  refine lv_iadd hx hb dX11_clash_44 ?_
                  refine zz_i (v := nI (a9 + 1)) (nI_add a9 1) ?_
                  refine lv_istore (lv' := [(6, .int (nI (a9 + 1))), (5, .int (nI a9)), (4, .int (nI (clT (clP ft st tn kd mn cx cy wd gp9) ft a9))), (0, .ref k0), (1, .int gp9), (2, .int (nI i)), (3, .int 1)]) hx hb dX11_clash_45 hl (Nat.le_of_ble_eq_true rfl) rfl (fun ls hl => ?_)
                  have hl_47 : ∀ (n9 : Nat) (b9 : Nat) (u9 : Int64) (d9 : Int64) (S1 : Nat → Int32) (H : Heap) (locs : List Loc) (ls : Array Slot), ft - b9 < n9 → (a9 < b9 ∧ b9 ≤ ft) → (∀ b8, b8 < b9 → ¬ clI (clP ft st tn kd mn cx cy wd gp9) ft a9 b8 i) → va_P (dC, dI) classes [(om k0 a I0 (vp_updL (vp_updL J0 48 u9) 49 d9)), (oa (a 5) cI 201 st), (oa (a 6) cZ 201 tn), (oa (a 1) cI 201 kd), (oa (a 11) cI 201 mn), (oa (a 12) cI 8040 cx), (oa (a 13) cI 8040 cy), (oa (a 32) cI 8 S1), (oa (a 3) cI 201 wd)] H → va_D A [(om k0 a I0 (vp_updL (vp_updL J0 48 u9) 49 d9)), (oa (a 5) cI 201 st), (oa (a 6) cZ 201 tn), (oa (a 1) cI 201 kd), (oa (a 11) cI 201 mn), (oa (a 12) cI 8040 cx), (oa (a 13) cI 8040 cy), (oa (a 32) cI 8 S1), (oa (a 3) cI 201 wd)] → va_S A s.heap H locs → lv_has ls 7 [(6, .int (nI b9)), (5, .int (nI a9)), (4, .int (nI (clT (clP ft st tn kd mn cx cy wd gp9) ft a9 + cntP (fun b => a9 < b ∧ clP ft st tn kd mn cx cy wd gp9 a9 b) b9))), (0, .ref k0), (1, .int gp9), (2, .int (nI i)), (3, .int 1)] → W p l e ({ frames := 6, cells := 0, slots := 0, locals := 154 } : Room) s m ([.ref k0, .int gp9, .int (nI i), .int 1] : List Value).toArray below meth c H locs 0 0 Q9 (F0 m 47 ls []) := by
                    intro n9
                    induction n9 with
                    | zero => intro b9 u9 d9 S1 H locs ls hm; exact absurd hm (Nat.not_lt_zero _)
                    | succ n9 ih_47 =>
                      intro b9 u9 d9 S1 H locs ls hm hb9 hnb hP hD hS hl
                      have hcn := cntP_b (fun b => a9 < b ∧ clP ft st tn kd mn cx cy wd gp9 a9 b) b9
                      refine lv_iload hx hb dX11_clash_47 (lv_at hl 0 rfl) ?_
                      refine lv_aload_n hx hb dX11_clash_49 rfl (lv_at hl 3 rfl) ?_
                      refine va_get (D := (dC, dI)) (ci := 9) (v := .int (I0 0)) (C := RX11) (T := TX11) (N := 55) hx hb hts inX11 hown hK hP 0 rfl rfl 0 (Nat.le_of_ble_eq_true rfl) (hts _ mw_1159) (fun _ h9 => h9) rfl dX11_clash_50 ?_
                      refine zz_i (v := nI ft) (hft) ?_
                      have b9_11 : zlt (b9) := show b9 < 2147483648 by omega
                      refine lv_icmp_ge (tgt := 98) hx hb dX11_clash_53 rfl (fun c_10 => ?_) (fun c_10 => ?_)
                      · have c_10 : ((ft : Nat) : Int) ≤ ((b9 : Nat) : Int) := zc_le (nI_toInt b9_9) (nI_toInt b9_11) c_10
                        refine lv_iinc (v := nI (a9 + 1)) (lv' := [(5, .int (nI (a9 + 1))), (6, .int (nI b9)), (4, .int (nI (clT (clP ft st tn kd mn cx cy wd gp9) ft a9 + cntP (fun b => a9 < b ∧ clP ft st tn kd mn cx cy wd gp9 a9 b) b9))), (0, .ref k0), (1, .int gp9), (2, .int (nI i)), (3, .int 1)]) hx hb dX11_clash_98 hl (k := 1) rfl (nI_add a9 1) (Nat.le_of_ble_eq_true rfl) rfl (fun ls hl => ?_)
                        refine lv_goto (tgt := 32) hx hb dX11_clash_101 rfl ?_
                        have hl9 := lv_sub hl [0, 2, 3, 4, 5, 6] rfl
                        have e9_4 : nI (clT (clP ft st tn kd mn cx cy wd gp9) ft (a9 + 1)) = (nI (clT (clP ft st tn kd mn cx cy wd gp9) ft a9 + cntP (fun b => a9 < b ∧ clP ft st tn kd mn cx cy wd gp9 a9 b) b9) : Int32) := by exact zn_eq (by rw [show b9 = ft by omega]; rfl)
                        have hl9 : lv_has ls 7 [(5, .int (nI (a9 + 1))), (4, .int (nI (clT (clP ft st tn kd mn cx cy wd gp9) ft (a9 + 1)))), (0, .ref k0), (1, .int gp9), (2, .int (nI i)), (3, .int 1)] := by rw [e9_4]; exact hl9
                        exact ih_32 (a9 + 1) u9 d9 S1 H locs ls (by first | with_reducible assumption | omega) (by first | with_reducible assumption | omega) (fun a8 b8 h h2 => (by rcases Nat.lt_or_ge a8 a9 with q | q; exact hno a8 b8 q h2; rw [show a8 = a9 by omega] at h2; exact hnb b8 (by have := h2.2.1; omega) h2)) hP hD hS hl9
                      · have c_10 : ((b9 : Nat) : Int) < ((ft : Nat) : Int) := zc_nle (nI_toInt b9_9) (nI_toInt b9_11) c_10
                        refine lv_aload_n hx hb dX11_clash_56 rfl (lv_at hl 3 rfl) ?_
                        refine lv_iload hx hb dX11_clash_57 (lv_at hl 1 rfl) ?_
                        refine lv_iload hx hb dX11_clash_59 (lv_at hl 0 rfl) ?_
                        refine lv_iload_n hx hb dX11_clash_61 rfl (lv_at hl 4 rfl) ?_
                        obtain ⟨hPc, hDc, hFc⟩ := zo_sub (wc := [_, _, _, _, _, _, _, _, _]) hP hD hS hA [0, 1, 2, 3, 4, 5, 6, 7, 8] (by decide +kernel) rfl
                        refine zcall (st1 := [.int (pI (clP ft st tn kd mn cx cy wd gp9 a9 b9))]) (va_runV (As := [.int (nI a9), .int (nI b9), .int gp9]) (rest := []) ⟨hx, hb, hml, hown, hts⟩ (k_M_isClash l dC dI cI cZ cF H.size k0 a I0 (vp_updL (vp_updL J0 48 u9) 49 d9) a9 b9 ft gp9 st tn kd mn cx cy S1 wd (by first | with_reducible assumption | assumption) (by first | with_reducible assumption | omega) (by first | with_reducible assumption | assumption) (by first | with_reducible assumption | assumption) (by first | with_reducible assumption | assumption) (by first | with_reducible assumption | assumption) (by first | with_reducible assumption | omega) (by first | with_reducible assumption | omega)) (csV_230 hts rfl rfl ⟨Nat.le_of_ble_eq_true rfl, Nat.le_of_ble_eq_true rfl⟩) (zPV2 (q0 := 0) (ci := 9) hPc hDc hK hXN rfl rfl) rfl rfl hl.1 rfl (lv_room (Nat.le_of_ble_eq_true rfl)) dX11_clash_62 ⟨Nat.le_of_ble_eq_true rfl, Nat.le_of_ble_eq_true rfl⟩) hS hFc hFc rfl (fun t H locs ht hB hk1 hS => ?_)
                        obtain ⟨q_12, q_13, q_14, hP1, hD1⟩ := hB
                        rw [ht] at hP1
                        obtain ⟨hP, hD⟩ := zn (W2 := [(om k0 a I0 (vp_updL (vp_updL J0 48 q_12) 49 q_13)), _, _, _, _, _, _, (oa (a 32) cI 8 q_14), _]) hP hD hk1 hFc hP1 hD1 zl_269 [] zl_270 zl_269 (by decide +kernel) rfl rfl rfl rfl rfl
                        clear hk1 hPc hDc hFc hP1 hD1 ht
                        refine lv_if_ne (tgt := 71) hx hb dX11_clash_65 rfl (fun c_15 => ?_) (fun c_15 => ?_)
                        · have c_15 : clP ft st tn kd mn cx cy wd gp9 a9 b9 := zp_1 c_15
                          refine lv_iload hx hb dX11_clash_71 (lv_at hl 2 rfl) ?_
                          refine lv_iload_n hx hb dX11_clash_73 rfl (lv_at hl 5 rfl) ?_
                          have b9_17 : zlt ((clT (clP ft st tn kd mn cx cy wd gp9) ft a9 + cntP (fun b => a9 < b ∧ clP ft st tn kd mn cx cy wd gp9 a9 b) b9)) := show (clT (clP ft st tn kd mn cx cy wd gp9) ft a9 + cntP (fun b => a9 < b ∧ clP ft st tn kd mn cx cy wd gp9 a9 b) b9) < 2147483648 by omega
                          refine lv_icmp_ne (tgt := 89) hx hb dX11_clash_74 rfl (fun c_16 => ?_) (fun c_16 => ?_)
                          · have c_16 : ¬ ((clT (clP ft st tn kd mn cx cy wd gp9) ft a9 + cntP (fun b => a9 < b ∧ clP ft st tn kd mn cx cy wd gp9 a9 b) b9 : Nat) : Int) = ((i : Nat) : Int) := zc_ne (nI_toInt b9_17) (nI_toInt b9_4) c_16
                            refine lv_iinc (v := nI ((clT (clP ft st tn kd mn cx cy wd gp9) ft a9 + cntP (fun b => a9 < b ∧ clP ft st tn kd mn cx cy wd gp9 a9 b) b9) + 1)) (lv' := [(4, .int (nI ((clT (clP ft st tn kd mn cx cy wd gp9) ft a9 + cntP (fun b => a9 < b ∧ clP ft st tn kd mn cx cy wd gp9 a9 b) b9) + 1))), (6, .int (nI b9)), (5, .int (nI a9)), (0, .ref k0), (1, .int gp9), (2, .int (nI i)), (3, .int 1)]) hx hb dX11_clash_89 hl (k := 2) rfl (nI_add (clT (clP ft st tn kd mn cx cy wd gp9) ft a9 + cntP (fun b => a9 < b ∧ clP ft st tn kd mn cx cy wd gp9 a9 b) b9) 1) (Nat.le_of_ble_eq_true rfl) rfl (fun ls hl => ?_)
                            refine lv_iinc (v := nI (b9 + 1)) (lv' := [(6, .int (nI (b9 + 1))), (4, .int (nI ((clT (clP ft st tn kd mn cx cy wd gp9) ft a9 + cntP (fun b => a9 < b ∧ clP ft st tn kd mn cx cy wd gp9 a9 b) b9) + 1))), (5, .int (nI a9)), (0, .ref k0), (1, .int gp9), (2, .int (nI i)), (3, .int 1)]) hx hb dX11_clash_92 hl (k := 1) rfl (nI_add b9 1) (Nat.le_of_ble_eq_true rfl) rfl (fun ls hl => ?_)
                            refine lv_goto (tgt := 47) hx hb dX11_clash_95 rfl ?_
                            have hl9 := lv_sub hl [0, 2, 1, 3, 4, 5, 6] rfl
                            have e9_4 : nI (clT (clP ft st tn kd mn cx cy wd gp9) ft a9 + cntP (fun b => a9 < b ∧ clP ft st tn kd mn cx cy wd gp9 a9 b) (b9 + 1)) = (nI ((clT (clP ft st tn kd mn cx cy wd gp9) ft a9 + cntP (fun b => a9 < b ∧ clP ft st tn kd mn cx cy wd gp9 a9 b) b9) + 1) : Int32) := by first | exact zn_eq (by rw [cntP_y (P := fun b => a9 < b ∧ clP ft st tn kd mn cx cy wd gp9 a9 b) ⟨by omega, by assumption⟩]; first | done | omega) | exact zn_eq (by rw [cntP_n (P := fun b => a9 < b ∧ clP ft st tn kd mn cx cy wd gp9 a9 b) (fun h => absurd h.2 (by first | with_reducible assumption | assumption))]; first | done | omega)
                            have hl9 : lv_has ls 7 [(6, .int (nI (b9 + 1))), (5, .int (nI a9)), (4, .int (nI (clT (clP ft st tn kd mn cx cy wd gp9) ft a9 + cntP (fun b => a9 < b ∧ clP ft st tn kd mn cx cy wd gp9 a9 b) (b9 + 1)))), (0, .ref k0), (1, .int gp9), (2, .int (nI i)), (3, .int 1)] := by rw [e9_4]; exact hl9
                            exact ih_47 (b9 + 1) q_12 q_13 q_14 H locs ls (by first | with_reducible assumption | omega) (by first | with_reducible assumption | omega) (fun b8 h h2 => (by rcases Nat.lt_or_ge b8 b9 with q | q; exact hnb b8 q h2; rw [show b8 = b9 by omega] at h2; first | exact absurd h2.2.2.1 (by first | with_reducible assumption | assumption) | (have h7 := h2.2.2.2; omega))) hP hD hS hl9
                          · have c_16 : ((clT (clP ft st tn kd mn cx cy wd gp9) ft a9 + cntP (fun b => a9 < b ∧ clP ft st tn kd mn cx cy wd gp9 a9 b) b9 : Nat) : Int) = ((i : Nat) : Int) := zc_eq (nI_toInt b9_17) (nI_toInt b9_4) c_16
                            have hci : clI (clP ft st tn kd mn cx cy wd gp9) ft a9 b9 i := ⟨by omega, by omega, by assumption, by omega⟩
                            refine lv_iload_n hx hb dX11_clash_77 rfl (lv_at hl 6 rfl) ?_
                            refine lv_if_ne (tgt := 86) hx hb dX11_clash_78 rfl (fun c_18 => ?_) (fun c_18 => ?_)
                            · refine lv_iload hx hb dX11_clash_86 (lv_at hl 0 rfl) ?_
                              obtain ⟨hP9, hD9⟩ := zu_sub (wc := [_, _, _, _, _, _, _, _, _]) hP hD [true, true, true, true, true, true, true, true, true] rfl rfl
                              rw [hQ9]
                              exact W.iret (v := nI b9) hx hb hr (fun t ht hW => ⟨⟨congrArg (fun z => Outcome.returned (some (Value.int z))) (show (nI b9 : Int32) = nI b7 from zn_eq (clI_u hci hit).2), q_12, q_13, q_14, by rw [ht]; exact hP9, hD9⟩, hS.F ht⟩) hS.2.2 dX11_clash_88
                            · exact absurd c_18 (by decide)
                        · have c_15 : ¬ (clP ft st tn kd mn cx cy wd gp9 a9 b9) := zp_0 c_15
                          refine lv_goto (tgt := 92) hx hb dX11_clash_68 rfl ?_
                          refine lv_iinc (v := nI (b9 + 1)) (lv' := [(6, .int (nI (b9 + 1))), (5, .int (nI a9)), (4, .int (nI (clT (clP ft st tn kd mn cx cy wd gp9) ft a9 + cntP (fun b => a9 < b ∧ clP ft st tn kd mn cx cy wd gp9 a9 b) b9))), (0, .ref k0), (1, .int gp9), (2, .int (nI i)), (3, .int 1)]) hx hb dX11_clash_92 hl (k := 0) rfl (nI_add b9 1) (Nat.le_of_ble_eq_true rfl) rfl (fun ls hl => ?_)
                          refine lv_goto (tgt := 47) hx hb dX11_clash_95 rfl ?_
                          have hl9 := lv_sub hl [0, 1, 2, 3, 4, 5, 6] rfl
                          have e9_4 : nI (clT (clP ft st tn kd mn cx cy wd gp9) ft a9 + cntP (fun b => a9 < b ∧ clP ft st tn kd mn cx cy wd gp9 a9 b) (b9 + 1)) = (nI (clT (clP ft st tn kd mn cx cy wd gp9) ft a9 + cntP (fun b => a9 < b ∧ clP ft st tn kd mn cx cy wd gp9 a9 b) b9) : Int32) := by first | exact zn_eq (by rw [cntP_y (P := fun b => a9 < b ∧ clP ft st tn kd mn cx cy wd gp9 a9 b) ⟨by omega, by assumption⟩]; first | done | omega) | exact zn_eq (by rw [cntP_n (P := fun b => a9 < b ∧ clP ft st tn kd mn cx cy wd gp9 a9 b) (fun h => absurd h.2 (by first | with_reducible assumption | assumption))]; first | done | omega)
                          have hl9 : lv_has ls 7 [(6, .int (nI (b9 + 1))), (5, .int (nI a9)), (4, .int (nI (clT (clP ft st tn kd mn cx cy wd gp9) ft a9 + cntP (fun b => a9 < b ∧ clP ft st tn kd mn cx cy wd gp9 a9 b) (b9 + 1)))), (0, .ref k0), (1, .int gp9), (2, .int (nI i)), (3, .int 1)] := by rw [e9_4]; exact hl9
                          exact ih_47 (b9 + 1) q_12 q_13 q_14 H locs ls (by first | with_reducible assumption | omega) (by first | with_reducible assumption | omega) (fun b8 h h2 => (by rcases Nat.lt_or_ge b8 b9 with q | q; exact hnb b8 q h2; rw [show b8 = b9 by omega] at h2; first | exact absurd h2.2.2.1 (by first | with_reducible assumption | assumption) | (have h7 := h2.2.2.2; omega))) hP hD hS hl9
                  have e9_4 : nI (clT (clP ft st tn kd mn cx cy wd gp9) ft a9 + cntP (fun b => a9 < b ∧ clP ft st tn kd mn cx cy wd gp9 a9 b) (a9 + 1)) = (nI (clT (clP ft st tn kd mn cx cy wd gp9) ft a9) : Int32) := by exact zn_eq (by rw [cl_0 (clP ft st tn kd mn cx cy wd gp9) a9 (a9 + 1) (Nat.le_refl _)]; rfl)
                  have hl9 : lv_has ls 7 [(6, .int (nI (a9 + 1))), (5, .int (nI a9)), (4, .int (nI (clT (clP ft st tn kd mn cx cy wd gp9) ft a9 + cntP (fun b => a9 < b ∧ clP ft st tn kd mn cx cy wd gp9 a9 b) (a9 + 1)))), (0, .ref k0), (1, .int gp9), (2, .int (nI i)), (3, .int 1)] := by rw [e9_4]; exact lv_sub hl [0, 1, 2, 3, 4, 5, 6] rfl
                  exact hl_47 _ (a9 + 1) u9 d9 S1 H locs ls (Nat.lt_succ_self _) (by first | with_reducible assumption | omega) (fun b8 h h2 => (by have := h2.1; omega)) hP hD hS hl9
            have e9_4 : nI (clT (clP ft st tn kd mn cx cy wd gp9) ft 0) = (0 : Int32) := by rfl
            have hl9 : lv_has ls 7 [(5, .int (nI 0)), (4, .int (nI (clT (clP ft st tn kd mn cx cy wd gp9) ft 0))), (0, .ref k0), (1, .int gp9), (2, .int (nI i)), (3, .int 1)] := by rw [e9_4]; exact lv_sub hl [0, 1, 2, 3, 4, 5] rfl
            exact hl_32 _ 0 (J0 48) (J0 49) S0 s.heap [] ls (Nat.lt_succ_self _) (by first | with_reducible assumption | omega) (fun a8 b8 h => absurd h (Nat.not_lt_zero _)) hP hD hS hl9
          · exact absurd (by decide) c_6
set_option maxHeartbeats 4000000 in
set_option maxRecDepth 100000 in
theorem k_M_clash_n (l : Launch) (dC : Nat → ClassId) (dI : Nat → Nat → Nat) (cI cZ cF : ClassId) (sz : Nat) (k0 : Nat) (a : Nat → Nat) (I0 : Nat → Int32) (J0 : Nat → Int64) (ft : Nat) (i : Nat) (gp9 : Int32) (w : Int32) (st : Nat → Int32) (tn : Nat → Int32) (kd : Nat → Int32) (mn : Nat → Int32) (cx : Nat → Int32) (cy : Nat → Int32) (S0 : Nat → Int32) (wd : Nat → Int32) (hft : I0 0 = nI ft) (h200 : ft ≤ 200) (hwf : ∀ q, lvF ft st tn q → wfM mn cx cy q) (hef : ∀ q, lvF ft st tn q → 1 ≤ eO (kd q).toInt (nN (mn q))) (hwd : ∀ q, q < ft → 0 ≤ (wd q).toInt ∧ (wd q).toInt ≤ 100) (hgp : 0 ≤ gp9.toInt ∧ gp9.toInt ≤ 200) (hi31 : i < 2147483648) (hw9 : 0 ≤ w.toInt ∧ w.toInt ≤ 1) (hit : ∀ a7 b7, ¬ clI (clP ft st tn kd mn cx cy wd gp9) ft a7 b7 i) : zM l yX11_clash cX11_clash 7 (some .int) ({ frames := 6, cells := 0, slots := 0, locals := 154 } : Room) [.ref k0, .int gp9, .int (nI i), .int w] (dC, dI) (zTy cI cZ cF) [(om k0 a I0 J0), (oa (a 5) cI 201 st), (oa (a 6) cZ 201 tn), (oa (a 1) cI 201 kd), (oa (a 11) cI 201 mn), (oa (a 12) cI 8040 cx), (oa (a 13) cI 8040 cy), (oa (a 32) cI 8 S0), (oa (a 3) cI 201 wd)] sz (some (.int (-1))) (fun A t => ∃ (u9 : Int64), ∃ (d9 : Int64), ∃ (S1 : Nat → Int32), zPD (dC, dI) classes A [(om k0 a I0 (vp_updL (vp_updL J0 48 u9) 49 d9)), (oa (a 5) cI 201 st), (oa (a 6) cZ 201 tn), (oa (a 1) cI 201 kd), (oa (a 11) cI 201 mn), (oa (a 12) cI 8040 cx), (oa (a 13) cI 8040 cy), (oa (a 32) cI 8 S1), (oa (a 3) cI 201 wd)] t.heap) 0 0 := by
  refine zIn (own := "ScaleShopModel") (loc := [(0, .ref k0), (1, .int gp9), (2, .int (nI i)), (3, .int w)]) rfl rfl rfl rfl (fun p e s m below meth c hx hb hr hts hown hlocks hml hnm9 A hA hS hP hD hK hXN Q9 hQ9 ls hl => ?_)
  refine lv_iload_n hx hb dX11_clash_0 rfl (lv_at hl 1 rfl) ?_
  refine lv_if_lt (tgt := 24) hx hb dX11_clash_1 rfl (fun c_1 => ?_) (fun c_1 => ?_)
  · have c_1 : gp9.toInt < 0 := zc_lt rfl rfl c_1
    exfalso; omega
  · have c_1 : 0 ≤ gp9.toInt := zc_nlt rfl rfl c_1
    refine lv_iload_n hx hb dX11_clash_4 rfl (lv_at hl 1 rfl) ?_
    refine lv_sipush (v := 200) hx hb dX11_clash_5 rfl ?_
    refine lv_icmp_gt (tgt := 24) hx hb dX11_clash_8 rfl (fun c_2 => ?_) (fun c_2 => ?_)
    · have c_2 : 200 < gp9.toInt := zc_lt rfl rfl c_2
      exfalso; omega
    · have c_2 : gp9.toInt ≤ 200 := zc_nlt rfl rfl c_2
      refine lv_iload_n hx hb dX11_clash_11 rfl (lv_at hl 2 rfl) ?_
      have b9_4 : zlt (i) := show i < 2147483648 by omega
      refine lv_if_lt (tgt := 24) hx hb dX11_clash_12 rfl (fun c_3 => ?_) (fun c_3 => ?_)
      · have c_3 : ((i : Nat) : Int) < 0 := zc_lt (nI_toInt b9_4) rfl c_3
        exfalso; omega
      · have c_3 : 0 ≤ ((i : Nat) : Int) := zc_nlt (nI_toInt b9_4) rfl c_3
        refine lv_iload_n hx hb dX11_clash_15 rfl (lv_at hl 3 rfl) ?_
        refine lv_if_lt (tgt := 24) hx hb dX11_clash_16 rfl (fun c_5 => ?_) (fun c_5 => ?_)
        · have c_5 : w.toInt < 0 := zc_lt rfl rfl c_5
          exfalso; omega
        · have c_5 : 0 ≤ w.toInt := zc_nlt rfl rfl c_5
          refine lv_iload_n hx hb dX11_clash_19 rfl (lv_at hl 3 rfl) ?_
          refine lv_iconst (v := 1) hx hb dX11_clash_20 rfl ?_
          refine lv_icmp_le (tgt := 26) hx hb dX11_clash_21 rfl (fun c_6 => ?_) (fun c_6 => ?_)
          · have c_6 : w.toInt ≤ 1 := zc_le rfl rfl c_6
            refine lv_iconst (v := 0) hx hb dX11_clash_26 rfl ?_
            refine lv_istore (lv' := [(4, .int 0), (0, .ref k0), (1, .int gp9), (2, .int (nI i)), (3, .int w)]) hx hb dX11_clash_27 hl (Nat.le_of_ble_eq_true rfl) rfl (fun ls hl => ?_)
            refine lv_iconst (v := 0) hx hb dX11_clash_29 rfl ?_
            refine lv_istore (lv' := [(5, .int 0), (4, .int 0), (0, .ref k0), (1, .int gp9), (2, .int (nI i)), (3, .int w)]) hx hb dX11_clash_30 hl (Nat.le_of_ble_eq_true rfl) rfl (fun ls hl => ?_)
            have hl_32 : ∀ (n9 : Nat) (a9 : Nat) (u9 : Int64) (d9 : Int64) (S1 : Nat → Int32) (H : Heap) (locs : List Loc) (ls : Array Slot), ft - a9 < n9 → (a9 ≤ ft) → (∀ a8 b8, a8 < a9 → ¬ clI (clP ft st tn kd mn cx cy wd gp9) ft a8 b8 i) → va_P (dC, dI) classes [(om k0 a I0 (vp_updL (vp_updL J0 48 u9) 49 d9)), (oa (a 5) cI 201 st), (oa (a 6) cZ 201 tn), (oa (a 1) cI 201 kd), (oa (a 11) cI 201 mn), (oa (a 12) cI 8040 cx), (oa (a 13) cI 8040 cy), (oa (a 32) cI 8 S1), (oa (a 3) cI 201 wd)] H → va_D A [(om k0 a I0 (vp_updL (vp_updL J0 48 u9) 49 d9)), (oa (a 5) cI 201 st), (oa (a 6) cZ 201 tn), (oa (a 1) cI 201 kd), (oa (a 11) cI 201 mn), (oa (a 12) cI 8040 cx), (oa (a 13) cI 8040 cy), (oa (a 32) cI 8 S1), (oa (a 3) cI 201 wd)] → va_S A s.heap H locs → lv_has ls 7 [(5, .int (nI a9)), (4, .int (nI (clT (clP ft st tn kd mn cx cy wd gp9) ft a9))), (0, .ref k0), (1, .int gp9), (2, .int (nI i)), (3, .int w)] → W p l e ({ frames := 6, cells := 0, slots := 0, locals := 154 } : Room) s m ([.ref k0, .int gp9, .int (nI i), .int w] : List Value).toArray below meth c H locs 0 0 Q9 (F0 m 32 ls []) := by
              intro n9
              induction n9 with
              | zero => intro a9 u9 d9 S1 H locs ls hm; exact absurd hm (Nat.not_lt_zero _)
              | succ n9 ih_32 =>
                intro a9 u9 d9 S1 H locs ls hm ha9 hno hP hD hS hl
                have hct := clT_200 (clP ft st tn kd mn cx cy wd gp9) h200 ha9
                refine lv_iload hx hb dX11_clash_32 (lv_at hl 0 rfl) ?_
                refine lv_aload_n hx hb dX11_clash_34 rfl (lv_at hl 2 rfl) ?_
                refine va_get (D := (dC, dI)) (ci := 9) (v := .int (I0 0)) (C := RX11) (T := TX11) (N := 55) hx hb hts inX11 hown hK hP 0 rfl rfl 0 (Nat.le_of_ble_eq_true rfl) (hts _ mw_1159) (fun _ h9 => h9) rfl dX11_clash_35 ?_
                refine zz_i (v := nI ft) (hft) ?_
                have b9_8 : zlt (a9) := show a9 < 2147483648 by omega
                have b9_9 : zlt (ft) := show ft < 2147483648 by omega
                refine lv_icmp_ge (tgt := 104) hx hb dX11_clash_38 rfl (fun c_7 => ?_) (fun c_7 => ?_)
                · have c_7 : ((ft : Nat) : Int) ≤ ((a9 : Nat) : Int) := zc_le (nI_toInt b9_9) (nI_toInt b9_8) c_7
                  refine lv_iconst (v := (-1)) hx hb dX11_clash_104 rfl ?_
                  obtain ⟨hP9, hD9⟩ := zu_sub (wc := [_, _, _, _, _, _, _, _, _]) hP hD [true, true, true, true, true, true, true, true, true] rfl rfl
                  rw [hQ9]
                  exact W.iret (v := (-1)) hx hb hr (fun t ht hW => ⟨⟨rfl, u9, d9, S1, by rw [ht]; exact hP9, hD9⟩, hS.F ht⟩) hS.2.2 dX11_clash_105
                · have c_7 : ((a9 : Nat) : Int) < ((ft : Nat) : Int) := zc_nle (nI_toInt b9_9) (nI_toInt b9_8) c_7
                  refine lv_iload hx hb dX11_clash_41 (lv_at hl 0 rfl) ?_
                  refine lv_iconst (v := 1) hx hb dX11_clash_43 rfl ?_
                  refine lv_iadd hx hb dX11_clash_44 ?_
                  refine zz_i (v := nI (a9 + 1)) (nI_add a9 1) ?_
                  refine lv_istore (lv' := [(6, .int (nI (a9 + 1))), (5, .int (nI a9)), (4, .int (nI (clT (clP ft st tn kd mn cx cy wd gp9) ft a9))), (0, .ref k0), (1, .int gp9), (2, .int (nI i)), (3, .int w)]) hx hb dX11_clash_45 hl (Nat.le_of_ble_eq_true rfl) rfl (fun ls hl => ?_)
                  have hl_47 : ∀ (n9 : Nat) (b9 : Nat) (u9 : Int64) (d9 : Int64) (S1 : Nat → Int32) (H : Heap) (locs : List Loc) (ls : Array Slot), ft - b9 < n9 → (a9 < b9 ∧ b9 ≤ ft) → (∀ b8, b8 < b9 → ¬ clI (clP ft st tn kd mn cx cy wd gp9) ft a9 b8 i) → va_P (dC, dI) classes [(om k0 a I0 (vp_updL (vp_updL J0 48 u9) 49 d9)), (oa (a 5) cI 201 st), (oa (a 6) cZ 201 tn), (oa (a 1) cI 201 kd), (oa (a 11) cI 201 mn), (oa (a 12) cI 8040 cx), (oa (a 13) cI 8040 cy), (oa (a 32) cI 8 S1), (oa (a 3) cI 201 wd)] H → va_D A [(om k0 a I0 (vp_updL (vp_updL J0 48 u9) 49 d9)), (oa (a 5) cI 201 st), (oa (a 6) cZ 201 tn), (oa (a 1) cI 201 kd), (oa (a 11) cI 201 mn), (oa (a 12) cI 8040 cx), (oa (a 13) cI 8040 cy), (oa (a 32) cI 8 S1), (oa (a 3) cI 201 wd)] → va_S A s.heap H locs → lv_has ls 7 [(6, .int (nI b9)), (5, .int (nI a9)), (4, .int (nI (clT (clP ft st tn kd mn cx cy wd gp9) ft a9 + cntP (fun b => a9 < b ∧ clP ft st tn kd mn cx cy wd gp9 a9 b) b9))), (0, .ref k0), (1, .int gp9), (2, .int (nI i)), (3, .int w)] → W p l e ({ frames := 6, cells := 0, slots := 0, locals := 154 } : Room) s m ([.ref k0, .int gp9, .int (nI i), .int w] : List Value).toArray below meth c H locs 0 0 Q9 (F0 m 47 ls []) := by
                    intro n9
                    induction n9 with
                    | zero => intro b9 u9 d9 S1 H locs ls hm; exact absurd hm (Nat.not_lt_zero _)
                    | succ n9 ih_47 =>
                      intro b9 u9 d9 S1 H locs ls hm hb9 hnb hP hD hS hl
                      have hcn := cntP_b (fun b => a9 < b ∧ clP ft st tn kd mn cx cy wd gp9 a9 b) b9
                      refine lv_iload hx hb dX11_clash_47 (lv_at hl 0 rfl) ?_
                      refine lv_aload_n hx hb dX11_clash_49 rfl (lv_at hl 3 rfl) ?_
                      refine va_get (D := (dC, dI)) (ci := 9) (v := .int (I0 0)) (C := RX11) (T := TX11) (N := 55) hx hb hts inX11 hown hK hP 0 rfl rfl 0 (Nat.le_of_ble_eq_true rfl) (hts _ mw_1159) (fun _ h9 => h9) rfl dX11_clash_50 ?_
                      refine zz_i (v := nI ft) (hft) ?_
                      have b9_11 : zlt (b9) := show b9 < 2147483648 by omega
                      refine lv_icmp_ge (tgt := 98) hx hb dX11_clash_53 rfl (fun c_10 => ?_) (fun c_10 => ?_)
                      · have c_10 : ((ft : Nat) : Int) ≤ ((b9 : Nat) : Int) := zc_le (nI_toInt b9_9) (nI_toInt b9_11) c_10
                        refine lv_iinc (v := nI (a9 + 1)) (lv' := [(5, .int (nI (a9 + 1))), (6, .int (nI b9)), (4, .int (nI (clT (clP ft st tn kd mn cx cy wd gp9) ft a9 + cntP (fun b => a9 < b ∧ clP ft st tn kd mn cx cy wd gp9 a9 b) b9))), (0, .ref k0), (1, .int gp9), (2, .int (nI i)), (3, .int w)]) hx hb dX11_clash_98 hl (k := 1) rfl (nI_add a9 1) (Nat.le_of_ble_eq_true rfl) rfl (fun ls hl => ?_)
                        refine lv_goto (tgt := 32) hx hb dX11_clash_101 rfl ?_
                        have hl9 := lv_sub hl [0, 2, 3, 4, 5, 6] rfl
                        have e9_4 : nI (clT (clP ft st tn kd mn cx cy wd gp9) ft (a9 + 1)) = (nI (clT (clP ft st tn kd mn cx cy wd gp9) ft a9 + cntP (fun b => a9 < b ∧ clP ft st tn kd mn cx cy wd gp9 a9 b) b9) : Int32) := by exact zn_eq (by rw [show b9 = ft by omega]; rfl)
                        have hl9 : lv_has ls 7 [(5, .int (nI (a9 + 1))), (4, .int (nI (clT (clP ft st tn kd mn cx cy wd gp9) ft (a9 + 1)))), (0, .ref k0), (1, .int gp9), (2, .int (nI i)), (3, .int w)] := by rw [e9_4]; exact hl9
                        exact ih_32 (a9 + 1) u9 d9 S1 H locs ls (by first | with_reducible assumption | omega) (by first | with_reducible assumption | omega) (fun a8 b8 h h2 => (by rcases Nat.lt_or_ge a8 a9 with q | q; exact hno a8 b8 q h2; rw [show a8 = a9 by omega] at h2; exact hnb b8 (by have := h2.2.1; omega) h2)) hP hD hS hl9
                      · have c_10 : ((b9 : Nat) : Int) < ((ft : Nat) : Int) := zc_nle (nI_toInt b9_9) (nI_toInt b9_11) c_10
                        refine lv_aload_n hx hb dX11_clash_56 rfl (lv_at hl 3 rfl) ?_
                        refine lv_iload hx hb dX11_clash_57 (lv_at hl 1 rfl) ?_
                        refine lv_iload hx hb dX11_clash_59 (lv_at hl 0 rfl) ?_
                        refine lv_iload_n hx hb dX11_clash_61 rfl (lv_at hl 4 rfl) ?_
                        obtain ⟨hPc, hDc, hFc⟩ := zo_sub (wc := [_, _, _, _, _, _, _, _, _]) hP hD hS hA [0, 1, 2, 3, 4, 5, 6, 7, 8] (by decide +kernel) rfl
                        refine zcall (st1 := [.int (pI (clP ft st tn kd mn cx cy wd gp9 a9 b9))]) (va_runV (As := [.int (nI a9), .int (nI b9), .int gp9]) (rest := []) ⟨hx, hb, hml, hown, hts⟩ (k_M_isClash l dC dI cI cZ cF H.size k0 a I0 (vp_updL (vp_updL J0 48 u9) 49 d9) a9 b9 ft gp9 st tn kd mn cx cy S1 wd (by first | with_reducible assumption | assumption) (by first | with_reducible assumption | omega) (by first | with_reducible assumption | assumption) (by first | with_reducible assumption | assumption) (by first | with_reducible assumption | assumption) (by first | with_reducible assumption | assumption) (by first | with_reducible assumption | omega) (by first | with_reducible assumption | omega)) (csV_230 hts rfl rfl ⟨Nat.le_of_ble_eq_true rfl, Nat.le_of_ble_eq_true rfl⟩) (zPV2 (q0 := 0) (ci := 9) hPc hDc hK hXN rfl rfl) rfl rfl hl.1 rfl (lv_room (Nat.le_of_ble_eq_true rfl)) dX11_clash_62 ⟨Nat.le_of_ble_eq_true rfl, Nat.le_of_ble_eq_true rfl⟩) hS hFc hFc rfl (fun t H locs ht hB hk1 hS => ?_)
                        obtain ⟨q_12, q_13, q_14, hP1, hD1⟩ := hB
                        rw [ht] at hP1
                        obtain ⟨hP, hD⟩ := zn (W2 := [(om k0 a I0 (vp_updL (vp_updL J0 48 q_12) 49 q_13)), _, _, _, _, _, _, (oa (a 32) cI 8 q_14), _]) hP hD hk1 hFc hP1 hD1 zl_269 [] zl_270 zl_269 (by decide +kernel) rfl rfl rfl rfl rfl
                        clear hk1 hPc hDc hFc hP1 hD1 ht
                        refine lv_if_ne (tgt := 71) hx hb dX11_clash_65 rfl (fun c_15 => ?_) (fun c_15 => ?_)
                        · have c_15 : clP ft st tn kd mn cx cy wd gp9 a9 b9 := zp_1 c_15
                          refine lv_iload hx hb dX11_clash_71 (lv_at hl 2 rfl) ?_
                          refine lv_iload_n hx hb dX11_clash_73 rfl (lv_at hl 5 rfl) ?_
                          have b9_17 : zlt ((clT (clP ft st tn kd mn cx cy wd gp9) ft a9 + cntP (fun b => a9 < b ∧ clP ft st tn kd mn cx cy wd gp9 a9 b) b9)) := show (clT (clP ft st tn kd mn cx cy wd gp9) ft a9 + cntP (fun b => a9 < b ∧ clP ft st tn kd mn cx cy wd gp9 a9 b) b9) < 2147483648 by omega
                          refine lv_icmp_ne (tgt := 89) hx hb dX11_clash_74 rfl (fun c_16 => ?_) (fun c_16 => ?_)
                          · have c_16 : ¬ ((clT (clP ft st tn kd mn cx cy wd gp9) ft a9 + cntP (fun b => a9 < b ∧ clP ft st tn kd mn cx cy wd gp9 a9 b) b9 : Nat) : Int) = ((i : Nat) : Int) := zc_ne (nI_toInt b9_17) (nI_toInt b9_4) c_16
                            refine lv_iinc (v := nI ((clT (clP ft st tn kd mn cx cy wd gp9) ft a9 + cntP (fun b => a9 < b ∧ clP ft st tn kd mn cx cy wd gp9 a9 b) b9) + 1)) (lv' := [(4, .int (nI ((clT (clP ft st tn kd mn cx cy wd gp9) ft a9 + cntP (fun b => a9 < b ∧ clP ft st tn kd mn cx cy wd gp9 a9 b) b9) + 1))), (6, .int (nI b9)), (5, .int (nI a9)), (0, .ref k0), (1, .int gp9), (2, .int (nI i)), (3, .int w)]) hx hb dX11_clash_89 hl (k := 2) rfl (nI_add (clT (clP ft st tn kd mn cx cy wd gp9) ft a9 + cntP (fun b => a9 < b ∧ clP ft st tn kd mn cx cy wd gp9 a9 b) b9) 1) (Nat.le_of_ble_eq_true rfl) rfl (fun ls hl => ?_)
                            refine lv_iinc (v := nI (b9 + 1)) (lv' := [(6, .int (nI (b9 + 1))), (4, .int (nI ((clT (clP ft st tn kd mn cx cy wd gp9) ft a9 + cntP (fun b => a9 < b ∧ clP ft st tn kd mn cx cy wd gp9 a9 b) b9) + 1))), (5, .int (nI a9)), (0, .ref k0), (1, .int gp9), (2, .int (nI i)), (3, .int w)]) hx hb dX11_clash_92 hl (k := 1) rfl (nI_add b9 1) (Nat.le_of_ble_eq_true rfl) rfl (fun ls hl => ?_)
                            refine lv_goto (tgt := 47) hx hb dX11_clash_95 rfl ?_
                            have hl9 := lv_sub hl [0, 2, 1, 3, 4, 5, 6] rfl
                            have e9_4 : nI (clT (clP ft st tn kd mn cx cy wd gp9) ft a9 + cntP (fun b => a9 < b ∧ clP ft st tn kd mn cx cy wd gp9 a9 b) (b9 + 1)) = (nI ((clT (clP ft st tn kd mn cx cy wd gp9) ft a9 + cntP (fun b => a9 < b ∧ clP ft st tn kd mn cx cy wd gp9 a9 b) b9) + 1) : Int32) := by first | exact zn_eq (by rw [cntP_y (P := fun b => a9 < b ∧ clP ft st tn kd mn cx cy wd gp9 a9 b) ⟨by omega, by assumption⟩]; first | done | omega) | exact zn_eq (by rw [cntP_n (P := fun b => a9 < b ∧ clP ft st tn kd mn cx cy wd gp9 a9 b) (fun h => absurd h.2 (by first | with_reducible assumption | assumption))]; first | done | omega)
                            have hl9 : lv_has ls 7 [(6, .int (nI (b9 + 1))), (5, .int (nI a9)), (4, .int (nI (clT (clP ft st tn kd mn cx cy wd gp9) ft a9 + cntP (fun b => a9 < b ∧ clP ft st tn kd mn cx cy wd gp9 a9 b) (b9 + 1)))), (0, .ref k0), (1, .int gp9), (2, .int (nI i)), (3, .int w)] := by rw [e9_4]; exact hl9
                            exact ih_47 (b9 + 1) q_12 q_13 q_14 H locs ls (by first | with_reducible assumption | omega) (by first | with_reducible assumption | omega) (fun b8 h h2 => (by rcases Nat.lt_or_ge b8 b9 with q | q; exact hnb b8 q h2; rw [show b8 = b9 by omega] at h2; first | exact absurd h2.2.2.1 (by first | with_reducible assumption | assumption) | (have h7 := h2.2.2.2; omega))) hP hD hS hl9
                          · have c_16 : ((clT (clP ft st tn kd mn cx cy wd gp9) ft a9 + cntP (fun b => a9 < b ∧ clP ft st tn kd mn cx cy wd gp9 a9 b) b9 : Nat) : Int) = ((i : Nat) : Int) := zc_eq (nI_toInt b9_17) (nI_toInt b9_4) c_16
                            exfalso; exact hit a9 b9 ⟨by omega, by omega, by assumption, by omega⟩
                        · have c_15 : ¬ (clP ft st tn kd mn cx cy wd gp9 a9 b9) := zp_0 c_15
                          refine lv_goto (tgt := 92) hx hb dX11_clash_68 rfl ?_
                          refine lv_iinc (v := nI (b9 + 1)) (lv' := [(6, .int (nI (b9 + 1))), (5, .int (nI a9)), (4, .int (nI (clT (clP ft st tn kd mn cx cy wd gp9) ft a9 + cntP (fun b => a9 < b ∧ clP ft st tn kd mn cx cy wd gp9 a9 b) b9))), (0, .ref k0), (1, .int gp9), (2, .int (nI i)), (3, .int w)]) hx hb dX11_clash_92 hl (k := 0) rfl (nI_add b9 1) (Nat.le_of_ble_eq_true rfl) rfl (fun ls hl => ?_)
                          refine lv_goto (tgt := 47) hx hb dX11_clash_95 rfl ?_
                          have hl9 := lv_sub hl [0, 1, 2, 3, 4, 5, 6] rfl
                          have e9_4 : nI (clT (clP ft st tn kd mn cx cy wd gp9) ft a9 + cntP (fun b => a9 < b ∧ clP ft st tn kd mn cx cy wd gp9 a9 b) (b9 + 1)) = (nI (clT (clP ft st tn kd mn cx cy wd gp9) ft a9 + cntP (fun b => a9 < b ∧ clP ft st tn kd mn cx cy wd gp9 a9 b) b9) : Int32) := by first | exact zn_eq (by rw [cntP_y (P := fun b => a9 < b ∧ clP ft st tn kd mn cx cy wd gp9 a9 b) ⟨by omega, by assumption⟩]; first | done | omega) | exact zn_eq (by rw [cntP_n (P := fun b => a9 < b ∧ clP ft st tn kd mn cx cy wd gp9 a9 b) (fun h => absurd h.2 (by first | with_reducible assumption | assumption))]; first | done | omega)
                          have hl9 : lv_has ls 7 [(6, .int (nI (b9 + 1))), (5, .int (nI a9)), (4, .int (nI (clT (clP ft st tn kd mn cx cy wd gp9) ft a9 + cntP (fun b => a9 < b ∧ clP ft st tn kd mn cx cy wd gp9 a9 b) (b9 + 1)))), (0, .ref k0), (1, .int gp9), (2, .int (nI i)), (3, .int w)] := by rw [e9_4]; exact hl9
                          exact ih_47 (b9 + 1) q_12 q_13 q_14 H locs ls (by first | with_reducible assumption | omega) (by first | with_reducible assumption | omega) (fun b8 h h2 => (by rcases Nat.lt_or_ge b8 b9 with q | q; exact hnb b8 q h2; rw [show b8 = b9 by omega] at h2; first | exact absurd h2.2.2.1 (by first | with_reducible assumption | assumption) | (have h7 := h2.2.2.2; omega))) hP hD hS hl9
                  have e9_4 : nI (clT (clP ft st tn kd mn cx cy wd gp9) ft a9 + cntP (fun b => a9 < b ∧ clP ft st tn kd mn cx cy wd gp9 a9 b) (a9 + 1)) = (nI (clT (clP ft st tn kd mn cx cy wd gp9) ft a9) : Int32) := by exact zn_eq (by rw [cl_0 (clP ft st tn kd mn cx cy wd gp9) a9 (a9 + 1) (Nat.le_refl _)]; rfl)
                  have hl9 : lv_has ls 7 [(6, .int (nI (a9 + 1))), (5, .int (nI a9)), (4, .int (nI (clT (clP ft st tn kd mn cx cy wd gp9) ft a9 + cntP (fun b => a9 < b ∧ clP ft st tn kd mn cx cy wd gp9 a9 b) (a9 + 1)))), (0, .ref k0), (1, .int gp9), (2, .int (nI i)), (3, .int w)] := by rw [e9_4]; exact lv_sub hl [0, 1, 2, 3, 4, 5, 6] rfl
                  exact hl_47 _ (a9 + 1) u9 d9 S1 H locs ls (Nat.lt_succ_self _) (by first | with_reducible assumption | omega) (fun b8 h h2 => (by have := h2.1; omega)) hP hD hS hl9
            have e9_4 : nI (clT (clP ft st tn kd mn cx cy wd gp9) ft 0) = (0 : Int32) := by rfl
            have hl9 : lv_has ls 7 [(5, .int (nI 0)), (4, .int (nI (clT (clP ft st tn kd mn cx cy wd gp9) ft 0))), (0, .ref k0), (1, .int gp9), (2, .int (nI i)), (3, .int w)] := by rw [e9_4]; exact lv_sub hl [0, 1, 2, 3, 4, 5] rfl
            exact hl_32 _ 0 (J0 48) (J0 49) S0 s.heap [] ls (Nat.lt_succ_self _) (by first | with_reducible assumption | omega) (fun a8 b8 h => absurd h (Nat.not_lt_zero _)) hP hD hS hl9
          · have c_6 : 1 < w.toInt := zc_nle rfl rfl c_6
            exfalso; omega
end
