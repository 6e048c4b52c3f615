section
set_option maxHeartbeats 4000000 in
set_option maxRecDepth 100000 in
theorem k_M_isLess (l : Launch) (dC : Nat → ClassId) (dI : Nat → Nat → Nat) (cI cZ cF : ClassId) (sz : Nat) (k0 : Nat) (a : Nat → Nat) (I0 : Nat → Int32) (J0 : Nat → Int64) (w1 : Int) (w2 : Int) (w3 : Int) (w4 : Int) (hA9 : 0 ≤ w1 * w4 ∧ w1 * w4 ≤ 8000000000000000000) (hB9 : 0 ≤ w3 * w2 ∧ w3 * w2 ≤ 8000000000000000000) (q0 : 0 ≤ w1 ∧ w1 ≤ 4000000000000) (q1 : 0 ≤ w2 ∧ w2 ≤ 4000000000000) (q2 : 0 ≤ w3 ∧ w3 ≤ 4000000000000) (q3 : 0 ≤ w4 ∧ w4 ≤ 4000000000000) : zM l yX11_isLess cX11_isLess 9 (some .boolean) ({ frames := 0, cells := 0, slots := 0, locals := 0 } : Room) [.ref k0, .long (jI w1), .long (jI w2), .long (jI w3), .long (jI w4)] (dC, dI) (zTy cI cZ cF) [(om k0 a I0 J0)] sz (some (.int (pI (w1 * w4 < w3 * w2)))) (fun A t => zPD (dC, dI) classes A [(om k0 a I0 J0)] t.heap) 0 0 := by
  refine zIn (own := "ScaleShopModel") (loc := [(0, .ref k0), (1, .long (jI w1)), (3, .long (jI w2)), (5, .long (jI w3)), (7, .long (jI w4))]) rfl rfl rfl rfl (fun p e s m below meth c hx hb hr hts hown hlocks hml hnm9 A hA hS hP hD hK hXN Q9 hQ9 ls hl => ?_)
  have hb1 : -9000000000000000000 ≤ w1 * w4 ∧ w1 * w4 ≤ 9000000000000000000 := (by omega)
  have hb2 : -9000000000000000000 ≤ w3 * w2 ∧ w3 * w2 ≤ 9000000000000000000 := (by omega)
  refine lv_lload_n hx hb dX11_isLess_0 rfl (lv_at hl 1 rfl) ?_
  refine lv_lload hx hb dX11_isLess_1 (lv_at hl 4 rfl) ?_
  refine lv_lmul hx hb dX11_isLess_3 ?_
  refine zz_l (v := jI (w1 * w4)) (jI_mul (by omega) (by omega) hb1) ?_
  refine lv_lload hx hb dX11_isLess_4 (lv_at hl 3 rfl) ?_
  refine lv_lload_n hx hb dX11_isLess_6 rfl (lv_at hl 2 rfl) ?_
  refine lv_lmul hx hb dX11_isLess_7 ?_
  refine zz_l (v := jI (w3 * w2)) (jI_mul (by omega) (by omega) hb2) ?_
  refine W.lcmp hx hb dX11_isLess_8 ?_
  refine lv_if_ge (tgt := 16) hx hb dX11_isLess_9 rfl (fun c_1 => ?_) (fun c_1 => ?_)
  · have c_1 : (w3 * w2) ≤ (w1 * w4) := zl_ge (jI_toInt (by omega)) (jI_toInt (by omega)) c_1
    refine lv_iconst (v := 0) hx hb dX11_isLess_16 rfl ?_
    obtain ⟨hP9, hD9⟩ := zu_sub (wc := [_]) hP hD [true] rfl rfl
    rw [hQ9]
    exact W.zret (ty := .boolean) (v := 0) hx hb hr (rfl) (fun t ht hW => ⟨⟨congrArg (fun z => Outcome.returned (some (Value.int z))) (show (0 : Int32) = pI (w1 * w4 < w3 * w2) from (zp_f (by omega)).symm), by rw [ht]; exact hP9, hD9⟩, hS.F ht⟩) hS.2.2 dX11_isLess_17
  · have c_1 : (w1 * w4) < (w3 * w2) := zl_nge (jI_toInt (by omega)) (jI_toInt (by omega)) c_1
    refine lv_iconst (v := 1) hx hb dX11_isLess_12 rfl ?_
    refine lv_goto (tgt := 17) hx hb dX11_isLess_13 rfl ?_
    obtain ⟨hP9, hD9⟩ := zu_sub (wc := [_]) hP hD [true] rfl rfl
    rw [hQ9]
    exact W.zret (ty := .boolean) (v := 1) hx hb hr (rfl) (fun t ht hW => ⟨⟨congrArg (fun z => Outcome.returned (some (Value.int z))) (show (1 : Int32) = pI (w1 * w4 < w3 * w2) from (zp_t (by omega)).symm), by rw [ht]; exact hP9, hD9⟩, hS.F ht⟩) hS.2.2 dX11_isLess_17
set_option maxHeartbeats 4000000 in
set_option maxRecDepth 100000 in
theorem k_M_nearer (l : Launch) (dC : Nat → ClassId) (dI : Nat → Nat → Nat) (cI cZ cF : ClassId) (sz : Nat) (k0 : Nat) (a : Nat → Nat) (I0 : Nat → Int32) (J0 : Nat → Int64) (q : Nat) (px : Int32) (py : Int32) (u : Int) (d : Int) (S0 : Nat → Int32) (hq4 : q ≤ 4) (hs : ∀ k, k < 8 → pl (S0 k)) (hpx : pl px) (hpy : pl py) (hu9 : 0 ≤ u ∧ u ≤ 4000000000000) (hd9 : 0 ≤ d ∧ d ≤ 2000000) : zM l yX11_nearer cX11_nearer 23 none ({ frames := 1, cells := 0, slots := 0, locals := 28 } : Room) [.ref k0, .ref (a 32), .int px, .int py, .int (nI q)] (dC, dI) (zTy cI cZ cF) [(om k0 a I0 (vp_updL (vp_updL J0 48 (jI u)) 49 (jI d))), (oa (a 32) cI 8 S0)] sz none (fun A t => ∃ (zu : Int), ∃ (zd : Int), (ndP u d (nrU (S0 q).toInt (S0 (q + 1)).toInt (S0 (q + 2)).toInt (S0 (q + 3)).toInt px.toInt py.toInt) (nrD (S0 q).toInt (S0 (q + 1)).toInt (S0 (q + 2)).toInt (S0 (q + 3)).toInt px.toInt py.toInt) zu zd) ∧ zPD (dC, dI) classes A [(om k0 a I0 (vp_updL (vp_updL J0 48 (jI zu)) 49 (jI zd))), (oa (a 32) cI 8 S0)] t.heap) 0 0 := by
  refine zIn (own := "ScaleShopModel") (loc := [(0, .ref k0), (1, .ref (a 32)), (2, .int px), (3, .int py), (4, .int (nI q))]) rfl rfl rfl rfl (fun p e s m below meth c hx hb hr hts hown hlocks hml hnm9 A hA hS hP hD hK hXN Q9 hQ9 ls hl => ?_)
  have hLb := nrL_b (hs q (by omega)) (hs (q + 1) (by omega)) (hs (q + 2) (by omega)) (hs (q + 3) (by omega))
  have hTb := nrT_b (hs q (by omega)) (hs (q + 1) (by omega)) (hs (q + 2) (by omega)) (hs (q + 3) (by omega)) hpx hpy
  have hUb := nrU_b (hs q (by omega)) (hs (q + 1) (by omega)) (hs (q + 2) (by omega)) (hs (q + 3) (by omega)) hpx hpy
  refine lv_aload_n hx hb dX11_nearer_0 rfl (lv_at hl 1 rfl) ?_
  refine lv_iload hx hb dX11_nearer_1 (lv_at hl 4 rfl) ?_
  refine lv_iconst (v := 2) hx hb dX11_nearer_3 rfl ?_
  refine lv_iadd hx hb dX11_nearer_4 ?_
  refine zz_i (v := nI (q + 2)) (nI_add q 2) ?_
  have b9_1 : q + 2 < 8 := by omega
  refine z_iald hx hb hK hP 1 0 rfl rfl (e := q + 2) rfl b9_1 (Nat.le_of_ble_eq_true rfl) dX11_nearer_5 ?_
  refine lv_aload_n hx hb dX11_nearer_6 rfl (lv_at hl 1 rfl) ?_
  refine lv_iload hx hb dX11_nearer_7 (lv_at hl 4 rfl) ?_
  have b9_2 : q < 8 := by omega
  refine z_iald hx hb hK hP 1 0 rfl rfl (e := q) rfl b9_2 (Nat.le_of_ble_eq_true rfl) dX11_nearer_9 ?_
  refine lv_isub hx hb dX11_nearer_10 ?_
  refine lv_i2l (v := ((S0 (q + 2)) - (S0 q)).toInt64) hx hb dX11_nearer_11 (rfl) ?_
  refine lv_lstore (lv' := [(5, .long (((S0 (q + 2)) - (S0 q)).toInt64)), (0, .ref k0), (1, .ref (a 32)), (2, .int px), (3, .int py), (4, .int (nI q))]) hx hb dX11_nearer_12 hl (Nat.le_of_ble_eq_true rfl) rfl (fun ls hl => ?_)
  refine lv_aload_n hx hb dX11_nearer_14 rfl (lv_at hl 2 rfl) ?_
  refine lv_iload hx hb dX11_nearer_15 (lv_at hl 5 rfl) ?_
  refine lv_iconst (v := 3) hx hb dX11_nearer_17 rfl ?_
  refine lv_iadd hx hb dX11_nearer_18 ?_
  refine zz_i (v := nI (q + 3)) (nI_add q 3) ?_
  have b9_3 : q + 3 < 8 := by omega
  refine z_iald hx hb hK hP 1 0 rfl rfl (e := q + 3) rfl b9_3 (Nat.le_of_ble_eq_true rfl) dX11_nearer_19 ?_
  refine lv_aload_n hx hb dX11_nearer_20 rfl (lv_at hl 2 rfl) ?_
  refine lv_iload hx hb dX11_nearer_21 (lv_at hl 5 rfl) ?_
  refine lv_iconst (v := 1) hx hb dX11_nearer_23 rfl ?_
  refine lv_iadd hx hb dX11_nearer_24 ?_
  refine zz_i (v := nI (q + 1)) (nI_add q 1) ?_
  have b9_4 : q + 1 < 8 := by omega
  refine z_iald hx hb hK hP 1 0 rfl rfl (e := q + 1) rfl b9_4 (Nat.le_of_ble_eq_true rfl) dX11_nearer_25 ?_
  refine lv_isub hx hb dX11_nearer_26 ?_
  refine lv_i2l (v := ((S0 (q + 3)) - (S0 (q + 1))).toInt64) hx hb dX11_nearer_27 (rfl) ?_
  refine lv_lstore (lv' := [(7, .long (((S0 (q + 3)) - (S0 (q + 1))).toInt64)), (5, .long (((S0 (q + 2)) - (S0 q)).toInt64)), (0, .ref k0), (1, .ref (a 32)), (2, .int px), (3, .int py), (4, .int (nI q))]) hx hb dX11_nearer_28 hl (Nat.le_of_ble_eq_true rfl) rfl (fun ls hl => ?_)
  refine lv_iload_n hx hb dX11_nearer_30 rfl (lv_at hl 4 rfl) ?_
  refine lv_aload_n hx hb dX11_nearer_31 rfl (lv_at hl 3 rfl) ?_
  refine lv_iload hx hb dX11_nearer_32 (lv_at hl 6 rfl) ?_
  refine z_iald hx hb hK hP 1 0 rfl rfl (e := q) rfl b9_2 (Nat.le_of_ble_eq_true rfl) dX11_nearer_34 ?_
  refine lv_isub hx hb dX11_nearer_35 ?_
  refine lv_i2l (v := (px - (S0 q)).toInt64) hx hb dX11_nearer_36 (rfl) ?_
  refine lv_lstore (lv' := [(9, .long ((px - (S0 q)).toInt64)), (7, .long (((S0 (q + 3)) - (S0 (q + 1))).toInt64)), (5, .long (((S0 (q + 2)) - (S0 q)).toInt64)), (0, .ref k0), (1, .ref (a 32)), (2, .int px), (3, .int py), (4, .int (nI q))]) hx hb dX11_nearer_37 hl (Nat.le_of_ble_eq_true rfl) rfl (fun ls hl => ?_)
  refine lv_iload_n hx hb dX11_nearer_39 rfl (lv_at hl 6 rfl) ?_
  refine lv_aload_n hx hb dX11_nearer_40 rfl (lv_at hl 4 rfl) ?_
  refine lv_iload hx hb dX11_nearer_41 (lv_at hl 7 rfl) ?_
  refine lv_iconst (v := 1) hx hb dX11_nearer_43 rfl ?_
  refine lv_iadd hx hb dX11_nearer_44 ?_
  refine zz_i (v := nI (q + 1)) (nI_add q 1) ?_
  refine z_iald hx hb hK hP 1 0 rfl rfl (e := q + 1) rfl b9_4 (Nat.le_of_ble_eq_true rfl) dX11_nearer_45 ?_
  refine lv_isub hx hb dX11_nearer_46 ?_
  refine lv_i2l (v := (py - (S0 (q + 1))).toInt64) hx hb dX11_nearer_47 (rfl) ?_
  refine lv_lstore (lv' := [(11, .long ((py - (S0 (q + 1))).toInt64)), (9, .long ((px - (S0 q)).toInt64)), (7, .long (((S0 (q + 3)) - (S0 (q + 1))).toInt64)), (5, .long (((S0 (q + 2)) - (S0 q)).toInt64)), (0, .ref k0), (1, .ref (a 32)), (2, .int px), (3, .int py), (4, .int (nI q))]) hx hb dX11_nearer_48 hl (Nat.le_of_ble_eq_true rfl) rfl (fun ls hl => ?_)
  refine lv_lload hx hb dX11_nearer_50 (lv_at hl 3 rfl) ?_
  refine lv_lload hx hb dX11_nearer_52 (lv_at hl 3 rfl) ?_
  refine lv_lmul hx hb dX11_nearer_54 ?_
  refine lv_lload hx hb dX11_nearer_55 (lv_at hl 2 rfl) ?_
  refine lv_lload hx hb dX11_nearer_57 (lv_at hl 2 rfl) ?_
  refine lv_lmul hx hb dX11_nearer_59 ?_
  refine lv_ladd hx hb dX11_nearer_60 ?_
  refine zz_l (v := jI (nrL (S0 q).toInt (S0 (q + 1)).toInt (S0 (q + 2)).toInt (S0 (q + 3)).toInt)) (nr_len (hs q (by omega)) (hs (q + 1) (by omega)) (hs (q + 2) (by omega)) (hs (q + 3) (by omega))) ?_
  refine lv_lstore (lv' := [(13, .long (jI (nrL (S0 q).toInt (S0 (q + 1)).toInt (S0 (q + 2)).toInt (S0 (q + 3)).toInt))), (11, .long ((py - (S0 (q + 1))).toInt64)), (9, .long ((px - (S0 q)).toInt64)), (7, .long (((S0 (q + 3)) - (S0 (q + 1))).toInt64)), (5, .long (((S0 (q + 2)) - (S0 q)).toInt64)), (0, .ref k0), (1, .ref (a 32)), (2, .int px), (3, .int py), (4, .int (nI q))]) hx hb dX11_nearer_61 hl (Nat.le_of_ble_eq_true rfl) rfl (fun ls hl => ?_)
  refine lv_lload hx hb dX11_nearer_63 (lv_at hl 4 rfl) ?_
  refine lv_lload hx hb dX11_nearer_65 (lv_at hl 2 rfl) ?_
  refine lv_lmul hx hb dX11_nearer_67 ?_
  refine lv_lload hx hb dX11_nearer_68 (lv_at hl 3 rfl) ?_
  refine lv_lload hx hb dX11_nearer_70 (lv_at hl 1 rfl) ?_
  refine lv_lmul hx hb dX11_nearer_72 ?_
  refine lv_ladd hx hb dX11_nearer_73 ?_
  refine zz_l (v := jI (nrT (S0 q).toInt (S0 (q + 1)).toInt (S0 (q + 2)).toInt (S0 (q + 3)).toInt px.toInt py.toInt)) (nr_dot (hs q (by omega)) (hs (q + 1) (by omega)) (hs (q + 2) (by omega)) (hs (q + 3) (by omega)) hpx hpy) ?_
  refine lv_lstore (lv' := [(15, .long (jI (nrT (S0 q).toInt (S0 (q + 1)).toInt (S0 (q + 2)).toInt (S0 (q + 3)).toInt px.toInt py.toInt))), (13, .long (jI (nrL (S0 q).toInt (S0 (q + 1)).toInt (S0 (q + 2)).toInt (S0 (q + 3)).toInt))), (11, .long ((py - (S0 (q + 1))).toInt64)), (9, .long ((px - (S0 q)).toInt64)), (7, .long (((S0 (q + 3)) - (S0 (q + 1))).toInt64)), (5, .long (((S0 (q + 2)) - (S0 q)).toInt64)), (0, .ref k0), (1, .ref (a 32)), (2, .int px), (3, .int py), (4, .int (nI q))]) hx hb dX11_nearer_74 hl (Nat.le_of_ble_eq_true rfl) rfl (fun ls hl => ?_)
  refine lv_lconst (v := 1) hx hb dX11_nearer_76 rfl ?_
  refine lv_lstore (lv' := [(19, .long 1), (15, .long (jI (nrT (S0 q).toInt (S0 (q + 1)).toInt (S0 (q + 2)).toInt (S0 (q + 3)).toInt px.toInt py.toInt))), (13, .long (jI (nrL (S0 q).toInt (S0 (q + 1)).toInt (S0 (q + 2)).toInt (S0 (q + 3)).toInt))), (11, .long ((py - (S0 (q + 1))).toInt64)), (9, .long ((px - (S0 q)).toInt64)), (7, .long (((S0 (q + 3)) - (S0 (q + 1))).toInt64)), (5, .long (((S0 (q + 2)) - (S0 q)).toInt64)), (0, .ref k0), (1, .ref (a 32)), (2, .int px), (3, .int py), (4, .int (nI q))]) hx hb dX11_nearer_77 hl (Nat.le_of_ble_eq_true rfl) rfl (fun ls hl => ?_)
  refine lv_lload hx hb dX11_nearer_79 (lv_at hl 2 rfl) ?_
  refine lv_lconst (v := 0) hx hb dX11_nearer_81 rfl ?_
  refine W.lcmp hx hb dX11_nearer_82 ?_
  refine lv_if_eq (tgt := 93) hx hb dX11_nearer_83 rfl (fun c_5 => ?_) (fun c_5 => ?_)
  · have c_5 : (nrL (S0 q).toInt (S0 (q + 1)).toInt (S0 (q + 2)).toInt (S0 (q + 3)).toInt) = 0 := zl_eq (jI_toInt (by omega)) rfl c_5
    have hT0 : nrT (S0 q).toInt (S0 (q + 1)).toInt (S0 (q + 2)).toInt (S0 (q + 3)).toInt px.toInt py.toInt ≤ 0 := (by first | omega | (have h9 := nrT_0 (x := px.toInt) (y := py.toInt) (show nrL (S0 q).toInt (S0 (q + 1)).toInt (S0 (q + 2)).toInt (S0 (q + 3)).toInt = 0 by assumption); omega))
    refine lv_lload hx hb dX11_nearer_93 (lv_at hl 4 rfl) ?_
    refine lv_lload hx hb dX11_nearer_95 (lv_at hl 4 rfl) ?_
    refine lv_lmul hx hb dX11_nearer_97 ?_
    refine lv_lload hx hb dX11_nearer_98 (lv_at hl 3 rfl) ?_
    refine lv_lload hx hb dX11_nearer_100 (lv_at hl 3 rfl) ?_
    refine lv_lmul hx hb dX11_nearer_102 ?_
    refine lv_ladd hx hb dX11_nearer_103 ?_
    refine zz_l (v := jI (nrU (S0 q).toInt (S0 (q + 1)).toInt (S0 (q + 2)).toInt (S0 (q + 3)).toInt px.toInt py.toInt)) (nr_u0 (hs q (by omega)) (hs (q + 1) (by omega)) hpx hpy hT0) ?_
    refine lv_lstore (lv' := [(17, .long (jI (nrU (S0 q).toInt (S0 (q + 1)).toInt (S0 (q + 2)).toInt (S0 (q + 3)).toInt px.toInt py.toInt))), (19, .long 1), (15, .long (jI (nrT (S0 q).toInt (S0 (q + 1)).toInt (S0 (q + 2)).toInt (S0 (q + 3)).toInt px.toInt py.toInt))), (13, .long (jI (nrL (S0 q).toInt (S0 (q + 1)).toInt (S0 (q + 2)).toInt (S0 (q + 3)).toInt))), (11, .long ((py - (S0 (q + 1))).toInt64)), (9, .long ((px - (S0 q)).toInt64)), (7, .long (((S0 (q + 3)) - (S0 (q + 1))).toInt64)), (5, .long (((S0 (q + 2)) - (S0 q)).toInt64)), (0, .ref k0), (1, .ref (a 32)), (2, .int px), (3, .int py), (4, .int (nI q))]) hx hb dX11_nearer_104 hl (Nat.le_of_ble_eq_true rfl) rfl (fun ls hl => ?_)
    refine lv_goto (tgt := 169) hx hb dX11_nearer_106 rfl ?_
    refine lv_aload_n hx hb dX11_nearer_169 rfl (lv_at hl 8 rfl) ?_
    refine va_get (D := (dC, dI)) (ci := 9) (v := .long (jI d)) (C := RX11) (T := TX11) (N := 55) hx hb hts inX11 hown hK hP 0 rfl rfl 49 (Nat.le_of_ble_eq_true rfl) (hts _ mw_1208) (fun _ h9 => h9) rfl dX11_nearer_170 ?_
    refine lv_lconst (v := 0) hx hb dX11_nearer_173 rfl ?_
    refine W.lcmp hx hb dX11_nearer_174 ?_
    refine lv_if_eq (tgt := 197) hx hb dX11_nearer_175 rfl (fun c_6 => ?_) (fun c_6 => ?_)
    · have c_6 : d = 0 := zl_eq (jI_toInt (by omega)) rfl c_6
      refine lv_aload_n hx hb dX11_nearer_197 rfl (lv_at hl 8 rfl) ?_
      refine lv_lload hx hb dX11_nearer_198 (lv_at hl 0 rfl) ?_
      refine va_put (D := (dC, dI)) (ci := 9) (v := .long (jI (nrU (S0 q).toInt (S0 (q + 1)).toInt (S0 (q + 2)).toInt (S0 (q + 3)).toInt px.toInt py.toInt))) (ty := .long) (C := RX11) (T := TX11) (N := 55) hx hb hts inX11 tyX11 tyX11_ok nmX11 hown hK hP hD hS 0 rfl rfl 48 (by decide) (hts _ mw_1207) (fun _ h9 => h9) rfl (by decide +kernel) rfl rfl (Nat.le_of_ble_eq_true rfl) dX11_nearer_200 (fun H locs hP hD hS => ?_)
      obtain ⟨hP, hD⟩ := zre (W2 := [(om k0 a I0 (vp_updL (vp_updL J0 48 (jI (nrU (S0 q).toInt (S0 (q + 1)).toInt (S0 (q + 2)).toInt (S0 (q + 3)).toInt px.toInt py.toInt))) 49 (jI d))), _]) hP hD rfl
      refine lv_aload_n hx hb dX11_nearer_203 rfl (lv_at hl 8 rfl) ?_
      refine lv_lload hx hb dX11_nearer_204 (lv_at hl 1 rfl) ?_
      refine zz_l (v := jI (nrD (S0 q).toInt (S0 (q + 1)).toInt (S0 (q + 2)).toInt (S0 (q + 3)).toInt px.toInt py.toInt)) (by first | (rw [nrD_0 hT0]; exact jI_1) | (rw [nrD_1 (by omega) (by omega)]; exact jI_1) | (rw [nrD_2 (by omega) (by omega)])) ?_
      refine va_put (D := (dC, dI)) (ci := 9) (v := .long (jI (nrD (S0 q).toInt (S0 (q + 1)).toInt (S0 (q + 2)).toInt (S0 (q + 3)).toInt px.toInt py.toInt))) (ty := .long) (C := RX11) (T := TX11) (N := 55) hx hb hts inX11 tyX11 tyX11_ok nmX11 hown hK hP hD hS 0 rfl rfl 49 (by decide) (hts _ mw_1208) (fun _ h9 => h9) rfl (by decide +kernel) rfl rfl (Nat.le_of_ble_eq_true rfl) dX11_nearer_206 (fun H locs hP hD hS => ?_)
      obtain ⟨hP, hD⟩ := zre (W2 := [(om k0 a I0 (vp_updL (vp_updL J0 48 (jI (nrU (S0 q).toInt (S0 (q + 1)).toInt (S0 (q + 2)).toInt (S0 (q + 3)).toInt px.toInt py.toInt))) 49 (jI (nrD (S0 q).toInt (S0 (q + 1)).toInt (S0 (q + 2)).toInt (S0 (q + 3)).toInt px.toInt py.toInt)))), _]) hP hD rfl
      obtain ⟨hP9, hD9⟩ := zu_sub (wc := [_, _]) hP hD [true, true] rfl rfl
      rw [hQ9]
      exact W.vret hx hb hr (fun t ht hW => ⟨⟨rfl, (nrU (S0 q).toInt (S0 (q + 1)).toInt (S0 (q + 2)).toInt (S0 (q + 3)).toInt px.toInt py.toInt), (nrD (S0 q).toInt (S0 (q + 1)).toInt (S0 (q + 2)).toInt (S0 (q + 3)).toInt px.toInt py.toInt), (by unfold ndP; first | exact Or.inl ⟨Or.inl (by omega), rfl, rfl⟩ | exact Or.inl ⟨Or.inr (by first | with_reducible assumption | assumption), rfl, rfl⟩ | exact Or.inr ⟨fun h => h.elim (by omega) (by first | with_reducible assumption | assumption), rfl, rfl⟩), by rw [ht]; exact hP9, hD9⟩, hS.F ht⟩) hS.2.2 dX11_nearer_209
    · have c_6 : ¬ d = 0 := zl_ne (jI_toInt (by omega)) rfl c_6
      refine lv_aload_n hx hb dX11_nearer_178 rfl (lv_at hl 8 rfl) ?_
      refine lv_lload hx hb dX11_nearer_179 (lv_at hl 0 rfl) ?_
      refine lv_lload hx hb dX11_nearer_181 (lv_at hl 1 rfl) ?_
      refine zz_l (v := jI (nrD (S0 q).toInt (S0 (q + 1)).toInt (S0 (q + 2)).toInt (S0 (q + 3)).toInt px.toInt py.toInt)) (by first | (rw [nrD_0 hT0]; exact jI_1) | (rw [nrD_1 (by omega) (by omega)]; exact jI_1) | (rw [nrD_2 (by omega) (by omega)])) ?_
      refine lv_aload_n hx hb dX11_nearer_183 rfl (lv_at hl 8 rfl) ?_
      refine va_get (D := (dC, dI)) (ci := 9) (v := .long (jI u)) (C := RX11) (T := TX11) (N := 55) hx hb hts inX11 hown hK hP 0 rfl rfl 48 (Nat.le_of_ble_eq_true rfl) (hts _ mw_1207) (fun _ h9 => h9) rfl dX11_nearer_184 ?_
      refine lv_aload_n hx hb dX11_nearer_187 rfl (lv_at hl 8 rfl) ?_
      refine va_get (D := (dC, dI)) (ci := 9) (v := .long (jI d)) (C := RX11) (T := TX11) (N := 55) hx hb hts inX11 hown hK hP 0 rfl rfl 49 (Nat.le_of_ble_eq_true rfl) (hts _ mw_1208) (fun _ h9 => h9) rfl dX11_nearer_188 ?_
      obtain ⟨hPc, hDc, hFc, hI1⟩ := zi_sub (wc := [_]) hP hD hS hA [0] rfl rfl
      refine zcall (st1 := [.int (pI ((nrU (S0 q).toInt (S0 (q + 1)).toInt (S0 (q + 2)).toInt (S0 (q + 3)).toInt px.toInt py.toInt) * d < u * (nrD (S0 q).toInt (S0 (q + 1)).toInt (S0 (q + 2)).toInt (S0 (q + 3)).toInt px.toInt py.toInt)))]) (va_runV (As := [.long (jI (nrU (S0 q).toInt (S0 (q + 1)).toInt (S0 (q + 2)).toInt (S0 (q + 3)).toInt px.toInt py.toInt)), .long (jI (nrD (S0 q).toInt (S0 (q + 1)).toInt (S0 (q + 2)).toInt (S0 (q + 3)).toInt px.toInt py.toInt)), .long (jI u), .long (jI d)]) (rest := []) ⟨hx, hb, hml, hown, hts⟩ (k_M_isLess l dC dI cI cZ cF s.heap.size k0 a I0 (vp_updL (vp_updL J0 48 (jI u)) 49 (jI d)) (nrU (S0 q).toInt (S0 (q + 1)).toInt (S0 (q + 2)).toInt (S0 (q + 3)).toInt px.toInt py.toInt) (nrD (S0 q).toInt (S0 (q + 1)).toInt (S0 (q + 2)).toInt (S0 (q + 3)).toInt px.toInt py.toInt) u d (prN hUb.1 hd9) (prN hu9 ⟨by omega, hUb.2.2⟩) (by first | with_reducible assumption | omega) (by first | with_reducible assumption | omega) (by first | with_reducible assumption | omega) (by first | with_reducible assumption | omega)) (csV_217 hts rfl rfl ⟨Nat.le_of_ble_eq_true rfl, Nat.le_of_ble_eq_true rfl⟩) (zPV2 (q0 := 0) (ci := 9) hPc hDc hK hXN rfl rfl) rfl rfl hl.1 rfl (lv_room (Nat.le_of_ble_eq_true rfl)) dX11_nearer_191 ⟨Nat.le_of_ble_eq_true rfl, Nat.le_of_ble_eq_true rfl⟩) hS hFc hFc rfl (fun t H locs ht hB hk1 hS => ?_)
      obtain ⟨hP1, hD1⟩ := hB
      rw [ht] at hP1
      replace hP := z0 hP hD hk1 hP1 hI1
      clear hk1 hPc hDc hFc hP1 hD1 ht hI1
      refine lv_if_eq (tgt := 209) hx hb dX11_nearer_194 rfl (fun c_7 => ?_) (fun c_7 => ?_)
      · have c_7 : ¬ ((nrU (S0 q).toInt (S0 (q + 1)).toInt (S0 (q + 2)).toInt (S0 (q + 3)).toInt px.toInt py.toInt) * d < u * (nrD (S0 q).toInt (S0 (q + 1)).toInt (S0 (q + 2)).toInt (S0 (q + 3)).toInt px.toInt py.toInt)) := zp_0 c_7
        obtain ⟨hP9, hD9⟩ := zu_sub (wc := [_, _]) hP hD [true, true] rfl rfl
        rw [hQ9]
        exact W.vret hx hb hr (fun t ht hW => ⟨⟨rfl, u, d, (by unfold ndP; first | exact Or.inl ⟨Or.inl (by omega), rfl, rfl⟩ | exact Or.inl ⟨Or.inr (by first | with_reducible assumption | assumption), rfl, rfl⟩ | exact Or.inr ⟨fun h => h.elim (by omega) (by first | with_reducible assumption | assumption), rfl, rfl⟩), by rw [ht]; exact hP9, hD9⟩, hS.F ht⟩) hS.2.2 dX11_nearer_209
      · have c_7 : (nrU (S0 q).toInt (S0 (q + 1)).toInt (S0 (q + 2)).toInt (S0 (q + 3)).toInt px.toInt py.toInt) * d < u * (nrD (S0 q).toInt (S0 (q + 1)).toInt (S0 (q + 2)).toInt (S0 (q + 3)).toInt px.toInt py.toInt) := zp_1 c_7
        refine lv_aload_n hx hb dX11_nearer_197 rfl (lv_at hl 8 rfl) ?_
        refine lv_lload hx hb dX11_nearer_198 (lv_at hl 0 rfl) ?_
        refine va_put (D := (dC, dI)) (ci := 9) (v := .long (jI (nrU (S0 q).toInt (S0 (q + 1)).toInt (S0 (q + 2)).toInt (S0 (q + 3)).toInt px.toInt py.toInt))) (ty := .long) (C := RX11) (T := TX11) (N := 55) hx hb hts inX11 tyX11 tyX11_ok nmX11 hown hK hP hD hS 0 rfl rfl 48 (by decide) (hts _ mw_1207) (fun _ h9 => h9) rfl (by decide +kernel) rfl rfl (Nat.le_of_ble_eq_true rfl) dX11_nearer_200 (fun H locs hP hD hS => ?_)
        obtain ⟨hP, hD⟩ := zre (W2 := [(om k0 a I0 (vp_updL (vp_updL J0 48 (jI (nrU (S0 q).toInt (S0 (q + 1)).toInt (S0 (q + 2)).toInt (S0 (q + 3)).toInt px.toInt py.toInt))) 49 (jI d))), _]) hP hD rfl
        refine lv_aload_n hx hb dX11_nearer_203 rfl (lv_at hl 8 rfl) ?_
        refine lv_lload hx hb dX11_nearer_204 (lv_at hl 1 rfl) ?_
        refine zz_l (v := jI (nrD (S0 q).toInt (S0 (q + 1)).toInt (S0 (q + 2)).toInt (S0 (q + 3)).toInt px.toInt py.toInt)) (by first | (rw [nrD_0 hT0]; exact jI_1) | (rw [nrD_1 (by omega) (by omega)]; exact jI_1) | (rw [nrD_2 (by omega) (by omega)])) ?_
        refine va_put (D := (dC, dI)) (ci := 9) (v := .long (jI (nrD (S0 q).toInt (S0 (q + 1)).toInt (S0 (q + 2)).toInt (S0 (q + 3)).toInt px.toInt py.toInt))) (ty := .long) (C := RX11) (T := TX11) (N := 55) hx hb hts inX11 tyX11 tyX11_ok nmX11 hown hK hP hD hS 0 rfl rfl 49 (by decide) (hts _ mw_1208) (fun _ h9 => h9) rfl (by decide +kernel) rfl rfl (Nat.le_of_ble_eq_true rfl) dX11_nearer_206 (fun H locs hP hD hS => ?_)
        obtain ⟨hP, hD⟩ := zre (W2 := [(om k0 a I0 (vp_updL (vp_updL J0 48 (jI (nrU (S0 q).toInt (S0 (q + 1)).toInt (S0 (q + 2)).toInt (S0 (q + 3)).toInt px.toInt py.toInt))) 49 (jI (nrD (S0 q).toInt (S0 (q + 1)).toInt (S0 (q + 2)).toInt (S0 (q + 3)).toInt px.toInt py.toInt)))), _]) hP hD rfl
        obtain ⟨hP9, hD9⟩ := zu_sub (wc := [_, _]) hP hD [true, true] rfl rfl
        rw [hQ9]
        exact W.vret hx hb hr (fun t ht hW => ⟨⟨rfl, (nrU (S0 q).toInt (S0 (q + 1)).toInt (S0 (q + 2)).toInt (S0 (q + 3)).toInt px.toInt py.toInt), (nrD (S0 q).toInt (S0 (q + 1)).toInt (S0 (q + 2)).toInt (S0 (q + 3)).toInt px.toInt py.toInt), (by unfold ndP; first | exact Or.inl ⟨Or.inl (by omega), rfl, rfl⟩ | exact Or.inl ⟨Or.inr (by first | with_reducible assumption | assumption), rfl, rfl⟩ | exact Or.inr ⟨fun h => h.elim (by omega) (by first | with_reducible assumption | assumption), rfl, rfl⟩), by rw [ht]; exact hP9, hD9⟩, hS.F ht⟩) hS.2.2 dX11_nearer_209
  · have c_5 : ¬ (nrL (S0 q).toInt (S0 (q + 1)).toInt (S0 (q + 2)).toInt (S0 (q + 3)).toInt) = 0 := zl_ne (jI_toInt (by omega)) rfl c_5
    refine lv_lload hx hb dX11_nearer_86 (lv_at hl 1 rfl) ?_
    refine lv_lconst (v := 0) hx hb dX11_nearer_88 rfl ?_
    refine W.lcmp hx hb dX11_nearer_89 ?_
    refine lv_if_gt (tgt := 109) hx hb dX11_nearer_90 rfl (fun c_8 => ?_) (fun c_8 => ?_)
    · have c_8 : 0 < (nrT (S0 q).toInt (S0 (q + 1)).toInt (S0 (q + 2)).toInt (S0 (q + 3)).toInt px.toInt py.toInt) := zl_gt (jI_toInt (by omega)) rfl c_8
      refine lv_lload hx hb dX11_nearer_109 (lv_at hl 1 rfl) ?_
      refine lv_lload hx hb dX11_nearer_111 (lv_at hl 2 rfl) ?_
      refine W.lcmp hx hb dX11_nearer_113 ?_
      refine lv_if_lt (tgt := 145) hx hb dX11_nearer_114 rfl (fun c_9 => ?_) (fun c_9 => ?_)
      · have c_9 : (nrT (S0 q).toInt (S0 (q + 1)).toInt (S0 (q + 2)).toInt (S0 (q + 3)).toInt px.toInt py.toInt) < (nrL (S0 q).toInt (S0 (q + 1)).toInt (S0 (q + 2)).toInt (S0 (q + 3)).toInt) := zl_lt (jI_toInt (by omega)) (jI_toInt (by omega)) c_9
        refine lv_lload hx hb dX11_nearer_145 (lv_at hl 6 rfl) ?_
        refine lv_lload hx hb dX11_nearer_147 (lv_at hl 3 rfl) ?_
        refine lv_lmul hx hb dX11_nearer_149 ?_
        refine lv_lload hx hb dX11_nearer_150 (lv_at hl 5 rfl) ?_
        refine lv_lload hx hb dX11_nearer_152 (lv_at hl 4 rfl) ?_
        refine lv_lmul hx hb dX11_nearer_154 ?_
        refine lv_lsub hx hb dX11_nearer_155 ?_
        refine lv_lstore (lv' := [(21, .long (((((S0 (q + 2)) - (S0 q)).toInt64) * ((py - (S0 (q + 1))).toInt64)) - ((((S0 (q + 3)) - (S0 (q + 1))).toInt64) * ((px - (S0 q)).toInt64)))), (19, .long 1), (15, .long (jI (nrT (S0 q).toInt (S0 (q + 1)).toInt (S0 (q + 2)).toInt (S0 (q + 3)).toInt px.toInt py.toInt))), (13, .long (jI (nrL (S0 q).toInt (S0 (q + 1)).toInt (S0 (q + 2)).toInt (S0 (q + 3)).toInt))), (11, .long ((py - (S0 (q + 1))).toInt64)), (9, .long ((px - (S0 q)).toInt64)), (7, .long (((S0 (q + 3)) - (S0 (q + 1))).toInt64)), (5, .long (((S0 (q + 2)) - (S0 q)).toInt64)), (0, .ref k0), (1, .ref (a 32)), (2, .int px), (3, .int py), (4, .int (nI q))]) hx hb dX11_nearer_156 hl (Nat.le_of_ble_eq_true rfl) rfl (fun ls hl => ?_)
        refine lv_lload hx hb dX11_nearer_158 (lv_at hl 0 rfl) ?_
        refine lv_lload hx hb dX11_nearer_160 (lv_at hl 0 rfl) ?_
        refine lv_lmul hx hb dX11_nearer_162 ?_
        refine zz_l (v := jI (nrU (S0 q).toInt (S0 (q + 1)).toInt (S0 (q + 2)).toInt (S0 (q + 3)).toInt px.toInt py.toInt)) (nr_u2 (hs q (by omega)) (hs (q + 1) (by omega)) (hs (q + 2) (by omega)) (hs (q + 3) (by omega)) hpx hpy (by omega) (by omega)) ?_
        refine lv_lstore (lv' := [(17, .long (jI (nrU (S0 q).toInt (S0 (q + 1)).toInt (S0 (q + 2)).toInt (S0 (q + 3)).toInt px.toInt py.toInt))), (21, .long (((((S0 (q + 2)) - (S0 q)).toInt64) * ((py - (S0 (q + 1))).toInt64)) - ((((S0 (q + 3)) - (S0 (q + 1))).toInt64) * ((px - (S0 q)).toInt64)))), (19, .long 1), (15, .long (jI (nrT (S0 q).toInt (S0 (q + 1)).toInt (S0 (q + 2)).toInt (S0 (q + 3)).toInt px.toInt py.toInt))), (13, .long (jI (nrL (S0 q).toInt (S0 (q + 1)).toInt (S0 (q + 2)).toInt (S0 (q + 3)).toInt))), (11, .long ((py - (S0 (q + 1))).toInt64)), (9, .long ((px - (S0 q)).toInt64)), (7, .long (((S0 (q + 3)) - (S0 (q + 1))).toInt64)), (5, .long (((S0 (q + 2)) - (S0 q)).toInt64)), (0, .ref k0), (1, .ref (a 32)), (2, .int px), (3, .int py), (4, .int (nI q))]) hx hb dX11_nearer_163 hl (Nat.le_of_ble_eq_true rfl) rfl (fun ls hl => ?_)
        refine lv_lload hx hb dX11_nearer_165 (lv_at hl 4 rfl) ?_
        refine lv_lstore (lv' := [(19, .long (jI (nrL (S0 q).toInt (S0 (q + 1)).toInt (S0 (q + 2)).toInt (S0 (q + 3)).toInt))), (17, .long (jI (nrU (S0 q).toInt (S0 (q + 1)).toInt (S0 (q + 2)).toInt (S0 (q + 3)).toInt px.toInt py.toInt))), (21, .long (((((S0 (q + 2)) - (S0 q)).toInt64) * ((py - (S0 (q + 1))).toInt64)) - ((((S0 (q + 3)) - (S0 (q + 1))).toInt64) * ((px - (S0 q)).toInt64)))), (15, .long (jI (nrT (S0 q).toInt (S0 (q + 1)).toInt (S0 (q + 2)).toInt (S0 (q + 3)).toInt px.toInt py.toInt))), (13, .long (jI (nrL (S0 q).toInt (S0 (q + 1)).toInt (S0 (q + 2)).toInt (S0 (q + 3)).toInt))), (11, .long ((py - (S0 (q + 1))).toInt64)), (9, .long ((px - (S0 q)).toInt64)), (7, .long (((S0 (q + 3)) - (S0 (q + 1))).toInt64)), (5, .long (((S0 (q + 2)) - (S0 q)).toInt64)), (0, .ref k0), (1, .ref (a 32)), (2, .int px), (3, .int py), (4, .int (nI q))]) hx hb dX11_nearer_167 hl (Nat.le_of_ble_eq_true rfl) rfl (fun ls hl => ?_)
        refine lv_aload_n hx hb dX11_nearer_169 rfl (lv_at hl 9 rfl) ?_
        refine va_get (D := (dC, dI)) (ci := 9) (v := .long (jI d)) (C := RX11) (T := TX11) (N := 55) hx hb hts inX11 hown hK hP 0 rfl rfl 49 (Nat.le_of_ble_eq_true rfl) (hts _ mw_1208) (fun _ h9 => h9) rfl dX11_nearer_170 ?_
        refine lv_lconst (v := 0) hx hb dX11_nearer_173 rfl ?_
        refine W.lcmp hx hb dX11_nearer_174 ?_
        refine lv_if_eq (tgt := 197) hx hb dX11_nearer_175 rfl (fun c_10 => ?_) (fun c_10 => ?_)
        · have c_10 : d = 0 := zl_eq (jI_toInt (by omega)) rfl c_10
          refine lv_aload_n hx hb dX11_nearer_197 rfl (lv_at hl 9 rfl) ?_
          refine lv_lload hx hb dX11_nearer_198 (lv_at hl 1 rfl) ?_
          refine va_put (D := (dC, dI)) (ci := 9) (v := .long (jI (nrU (S0 q).toInt (S0 (q + 1)).toInt (S0 (q + 2)).toInt (S0 (q + 3)).toInt px.toInt py.toInt))) (ty := .long) (C := RX11) (T := TX11) (N := 55) hx hb hts inX11 tyX11 tyX11_ok nmX11 hown hK hP hD hS 0 rfl rfl 48 (by decide) (hts _ mw_1207) (fun _ h9 => h9) rfl (by decide +kernel) rfl rfl (Nat.le_of_ble_eq_true rfl) dX11_nearer_200 (fun H locs hP hD hS => ?_)
          obtain ⟨hP, hD⟩ := zre (W2 := [(om k0 a I0 (vp_updL (vp_updL J0 48 (jI (nrU (S0 q).toInt (S0 (q + 1)).toInt (S0 (q + 2)).toInt (S0 (q + 3)).toInt px.toInt py.toInt))) 49 (jI d))), _]) hP hD rfl
          refine lv_aload_n hx hb dX11_nearer_203 rfl (lv_at hl 9 rfl) ?_
          refine lv_lload hx hb dX11_nearer_204 (lv_at hl 0 rfl) ?_
          refine zz_l (v := jI (nrD (S0 q).toInt (S0 (q + 1)).toInt (S0 (q + 2)).toInt (S0 (q + 3)).toInt px.toInt py.toInt)) (by first | (rw [nrD_0 hT0]; exact jI_1) | (rw [nrD_1 (by omega) (by omega)]; exact jI_1) | (rw [nrD_2 (by omega) (by omega)])) ?_
          refine va_put (D := (dC, dI)) (ci := 9) (v := .long (jI (nrD (S0 q).toInt (S0 (q + 1)).toInt (S0 (q + 2)).toInt (S0 (q + 3)).toInt px.toInt py.toInt))) (ty := .long) (C := RX11) (T := TX11) (N := 55) hx hb hts inX11 tyX11 tyX11_ok nmX11 hown hK hP hD hS 0 rfl rfl 49 (by decide) (hts _ mw_1208) (fun _ h9 => h9) rfl (by decide +kernel) rfl rfl (Nat.le_of_ble_eq_true rfl) dX11_nearer_206 (fun H locs hP hD hS => ?_)
          obtain ⟨hP, hD⟩ := zre (W2 := [(om k0 a I0 (vp_updL (vp_updL J0 48 (jI (nrU (S0 q).toInt (S0 (q + 1)).toInt (S0 (q + 2)).toInt (S0 (q + 3)).toInt px.toInt py.toInt))) 49 (jI (nrD (S0 q).toInt (S0 (q + 1)).toInt (S0 (q + 2)).toInt (S0 (q + 3)).toInt px.toInt py.toInt)))), _]) hP hD rfl
          obtain ⟨hP9, hD9⟩ := zu_sub (wc := [_, _]) hP hD [true, true] rfl rfl
          rw [hQ9]
          exact W.vret hx hb hr (fun t ht hW => ⟨⟨rfl, (nrU (S0 q).toInt (S0 (q + 1)).toInt (S0 (q + 2)).toInt (S0 (q + 3)).toInt px.toInt py.toInt), (nrD (S0 q).toInt (S0 (q + 1)).toInt (S0 (q + 2)).toInt (S0 (q + 3)).toInt px.toInt py.toInt), (by unfold ndP; first | exact Or.inl ⟨Or.inl (by omega), rfl, rfl⟩ | exact Or.inl ⟨Or.inr (by first | with_reducible assumption | assumption), rfl, rfl⟩ | exact Or.inr ⟨fun h => h.elim (by omega) (by first | with_reducible assumption | assumption), rfl, rfl⟩), by rw [ht]; exact hP9, hD9⟩, hS.F ht⟩) hS.2.2 dX11_nearer_209
        · have c_10 : ¬ d = 0 := zl_ne (jI_toInt (by omega)) rfl c_10
          refine lv_aload_n hx hb dX11_nearer_178 rfl (lv_at hl 9 rfl) ?_
          refine lv_lload hx hb dX11_nearer_179 (lv_at hl 1 rfl) ?_
          refine lv_lload hx hb dX11_nearer_181 (lv_at hl 0 rfl) ?_
          refine zz_l (v := jI (nrD (S0 q).toInt (S0 (q + 1)).toInt (S0 (q + 2)).toInt (S0 (q + 3)).toInt px.toInt py.toInt)) (by first | (rw [nrD_0 hT0]; exact jI_1) | (rw [nrD_1 (by omega) (by omega)]; exact jI_1) | (rw [nrD_2 (by omega) (by omega)])) ?_
          refine lv_aload_n hx hb dX11_nearer_183 rfl (lv_at hl 9 rfl) ?_
          refine va_get (D := (dC, dI)) (ci := 9) (v := .long (jI u)) (C := RX11) (T := TX11) (N := 55) hx hb hts inX11 hown hK hP 0 rfl rfl 48 (Nat.le_of_ble_eq_true rfl) (hts _ mw_1207) (fun _ h9 => h9) rfl dX11_nearer_184 ?_
          refine lv_aload_n hx hb dX11_nearer_187 rfl (lv_at hl 9 rfl) ?_
          refine va_get (D := (dC, dI)) (ci := 9) (v := .long (jI d)) (C := RX11) (T := TX11) (N := 55) hx hb hts inX11 hown hK hP 0 rfl rfl 49 (Nat.le_of_ble_eq_true rfl) (hts _ mw_1208) (fun _ h9 => h9) rfl dX11_nearer_188 ?_
          obtain ⟨hPc, hDc, hFc, hI1⟩ := zi_sub (wc := [_]) hP hD hS hA [0] rfl rfl
          refine zcall (st1 := [.int (pI ((nrU (S0 q).toInt (S0 (q + 1)).toInt (S0 (q + 2)).toInt (S0 (q + 3)).toInt px.toInt py.toInt) * d < u * (nrD (S0 q).toInt (S0 (q + 1)).toInt (S0 (q + 2)).toInt (S0 (q + 3)).toInt px.toInt py.toInt)))]) (va_runV (As := [.long (jI (nrU (S0 q).toInt (S0 (q + 1)).toInt (S0 (q + 2)).toInt (S0 (q + 3)).toInt px.toInt py.toInt)), .long (jI (nrD (S0 q).toInt (S0 (q + 1)).toInt (S0 (q + 2)).toInt (S0 (q + 3)).toInt px.toInt py.toInt)), .long (jI u), .long (jI d)]) (rest := []) ⟨hx, hb, hml, hown, hts⟩ (k_M_isLess l dC dI cI cZ cF s.heap.size k0 a I0 (vp_updL (vp_updL J0 48 (jI u)) 49 (jI d)) (nrU (S0 q).toInt (S0 (q + 1)).toInt (S0 (q + 2)).toInt (S0 (q + 3)).toInt px.toInt py.toInt) (nrD (S0 q).toInt (S0 (q + 1)).toInt (S0 (q + 2)).toInt (S0 (q + 3)).toInt px.toInt py.toInt) u d (prN hUb.1 hd9) (prN hu9 ⟨by omega, hUb.2.2⟩) (by first | with_reducible assumption | omega) (by first | with_reducible assumption | omega) (by first | with_reducible assumption | omega) (by first | with_reducible assumption | omega)) (csV_217 hts rfl rfl ⟨Nat.le_of_ble_eq_true rfl, Nat.le_of_ble_eq_true rfl⟩) (zPV2 (q0 := 0) (ci := 9) hPc hDc hK hXN rfl rfl) rfl rfl hl.1 rfl (lv_room (Nat.le_of_ble_eq_true rfl)) dX11_nearer_191 ⟨Nat.le_of_ble_eq_true rfl, Nat.le_of_ble_eq_true rfl⟩) hS hFc hFc rfl (fun t H locs ht hB hk1 hS => ?_)
          obtain ⟨hP1, hD1⟩ := hB
          rw [ht] at hP1
          replace hP := z0 hP hD hk1 hP1 hI1
          clear hk1 hPc hDc hFc hP1 hD1 ht hI1
          refine lv_if_eq (tgt := 209) hx hb dX11_nearer_194 rfl (fun c_11 => ?_) (fun c_11 => ?_)
          · have c_11 : ¬ ((nrU (S0 q).toInt (S0 (q + 1)).toInt (S0 (q + 2)).toInt (S0 (q + 3)).toInt px.toInt py.toInt) * d < u * (nrD (S0 q).toInt (S0 (q + 1)).toInt (S0 (q + 2)).toInt (S0 (q + 3)).toInt px.toInt py.toInt)) := zp_0 c_11
            obtain ⟨hP9, hD9⟩ := zu_sub (wc := [_, _]) hP hD [true, true] rfl rfl
            rw [hQ9]
            exact W.vret hx hb hr (fun t ht hW => ⟨⟨rfl, u, d, (by unfold ndP; first | exact Or.inl ⟨Or.inl (by omega), rfl, rfl⟩ | exact Or.inl ⟨Or.inr (by first | with_reducible assumption | assumption), rfl, rfl⟩ | exact Or.inr ⟨fun h => h.elim (by omega) (by first | with_reducible assumption | assumption), rfl, rfl⟩), by rw [ht]; exact hP9, hD9⟩, hS.F ht⟩) hS.2.2 dX11_nearer_209
          · have c_11 : (nrU (S0 q).toInt (S0 (q + 1)).toInt (S0 (q + 2)).toInt (S0 (q + 3)).toInt px.toInt py.toInt) * d < u * (nrD (S0 q).toInt (S0 (q + 1)).toInt (S0 (q + 2)).toInt (S0 (q + 3)).toInt px.toInt py.toInt) := zp_1 c_11
            refine lv_aload_n hx hb dX11_nearer_197 rfl (lv_at hl 9 rfl) ?_
            refine lv_lload hx hb dX11_nearer_198 (lv_at hl 1 rfl) ?_
            refine va_put (D := (dC, dI)) (ci := 9) (v := .long (jI (nrU (S0 q).toInt (S0 (q + 1)).toInt (S0 (q + 2)).toInt (S0 (q + 3)).toInt px.toInt py.toInt))) (ty := .long) (C := RX11) (T := TX11) (N := 55) hx hb hts inX11 tyX11 tyX11_ok nmX11 hown hK hP hD hS 0 rfl rfl 48 (by decide) (hts _ mw_1207) (fun _ h9 => h9) rfl (by decide +kernel) rfl rfl (Nat.le_of_ble_eq_true rfl) dX11_nearer_200 (fun H locs hP hD hS => ?_)
            obtain ⟨hP, hD⟩ := zre (W2 := [(om k0 a I0 (vp_updL (vp_updL J0 48 (jI (nrU (S0 q).toInt (S0 (q + 1)).toInt (S0 (q + 2)).toInt (S0 (q + 3)).toInt px.toInt py.toInt))) 49 (jI d))), _]) hP hD rfl
            refine lv_aload_n hx hb dX11_nearer_203 rfl (lv_at hl 9 rfl) ?_
            refine lv_lload hx hb dX11_nearer_204 (lv_at hl 0 rfl) ?_
            refine zz_l (v := jI (nrD (S0 q).toInt (S0 (q + 1)).toInt (S0 (q + 2)).toInt (S0 (q + 3)).toInt px.toInt py.toInt)) (by first | (rw [nrD_0 hT0]; exact jI_1) | (rw [nrD_1 (by omega) (by omega)]; exact jI_1) | (rw [nrD_2 (by omega) (by omega)])) ?_
            refine va_put (D := (dC, dI)) (ci := 9) (v := .long (jI (nrD (S0 q).toInt (S0 (q + 1)).toInt (S0 (q + 2)).toInt (S0 (q + 3)).toInt px.toInt py.toInt))) (ty := .long) (C := RX11) (T := TX11) (N := 55) hx hb hts inX11 tyX11 tyX11_ok nmX11 hown hK hP hD hS 0 rfl rfl 49 (by decide) (hts _ mw_1208) (fun _ h9 => h9) rfl (by decide +kernel) rfl rfl (Nat.le_of_ble_eq_true rfl) dX11_nearer_206 (fun H locs hP hD hS => ?_)
            obtain ⟨hP, hD⟩ := zre (W2 := [(om k0 a I0 (vp_updL (vp_updL J0 48 (jI (nrU (S0 q).toInt (S0 (q + 1)).toInt (S0 (q + 2)).toInt (S0 (q + 3)).toInt px.toInt py.toInt))) 49 (jI (nrD (S0 q).toInt (S0 (q + 1)).toInt (S0 (q + 2)).toInt (S0 (q + 3)).toInt px.toInt py.toInt)))), _]) hP hD rfl
            obtain ⟨hP9, hD9⟩ := zu_sub (wc := [_, _]) hP hD [true, true] rfl rfl
            rw [hQ9]
            exact W.vret hx hb hr (fun t ht hW => ⟨⟨rfl, (nrU (S0 q).toInt (S0 (q + 1)).toInt (S0 (q + 2)).toInt (S0 (q + 3)).toInt px.toInt py.toInt), (nrD (S0 q).toInt (S0 (q + 1)).toInt (S0 (q + 2)).toInt (S0 (q + 3)).toInt px.toInt py.toInt), (by unfold ndP; first | exact Or.inl ⟨Or.inl (by omega), rfl, rfl⟩ | exact Or.inl ⟨Or.inr (by first | with_reducible assumption | assumption), rfl, rfl⟩ | exact Or.inr ⟨fun h => h.elim (by omega) (by first | with_reducible assumption | assumption), rfl, rfl⟩), by rw [ht]; exact hP9, hD9⟩, hS.F ht⟩) hS.2.2 dX11_nearer_209
      · have c_9 : (nrL (S0 q).toInt (S0 (q + 1)).toInt (S0 (q + 2)).toInt (S0 (q + 3)).toInt) ≤ (nrT (S0 q).toInt (S0 (q + 1)).toInt (S0 (q + 2)).toInt (S0 (q + 3)).toInt px.toInt py.toInt) := zl_nlt (jI_toInt (by omega)) (jI_toInt (by omega)) c_9
        refine lv_lload hx hb dX11_nearer_117 (lv_at hl 4 rfl) ?_
        refine lv_lload hx hb dX11_nearer_119 (lv_at hl 6 rfl) ?_
        refine lv_lsub hx hb dX11_nearer_121 ?_
        refine lv_lload hx hb dX11_nearer_122 (lv_at hl 4 rfl) ?_
        refine lv_lload hx hb dX11_nearer_124 (lv_at hl 6 rfl) ?_
        refine lv_lsub hx hb dX11_nearer_126 ?_
        refine lv_lmul hx hb dX11_nearer_127 ?_
        refine lv_lload hx hb dX11_nearer_128 (lv_at hl 3 rfl) ?_
        refine lv_lload hx hb dX11_nearer_130 (lv_at hl 5 rfl) ?_
        refine lv_lsub hx hb dX11_nearer_132 ?_
        refine lv_lload hx hb dX11_nearer_133 (lv_at hl 3 rfl) ?_
        refine lv_lload hx hb dX11_nearer_135 (lv_at hl 5 rfl) ?_
        refine lv_lsub hx hb dX11_nearer_137 ?_
        refine lv_lmul hx hb dX11_nearer_138 ?_
        refine lv_ladd hx hb dX11_nearer_139 ?_
        refine zz_l (v := jI (nrU (S0 q).toInt (S0 (q + 1)).toInt (S0 (q + 2)).toInt (S0 (q + 3)).toInt px.toInt py.toInt)) (nr_u1 (hs q (by omega)) (hs (q + 1) (by omega)) (hs (q + 2) (by omega)) (hs (q + 3) (by omega)) hpx hpy (by omega) (by omega)) ?_
        refine lv_lstore (lv' := [(17, .long (jI (nrU (S0 q).toInt (S0 (q + 1)).toInt (S0 (q + 2)).toInt (S0 (q + 3)).toInt px.toInt py.toInt))), (19, .long 1), (15, .long (jI (nrT (S0 q).toInt (S0 (q + 1)).toInt (S0 (q + 2)).toInt (S0 (q + 3)).toInt px.toInt py.toInt))), (13, .long (jI (nrL (S0 q).toInt (S0 (q + 1)).toInt (S0 (q + 2)).toInt (S0 (q + 3)).toInt))), (11, .long ((py - (S0 (q + 1))).toInt64)), (9, .long ((px - (S0 q)).toInt64)), (7, .long (((S0 (q + 3)) - (S0 (q + 1))).toInt64)), (5, .long (((S0 (q + 2)) - (S0 q)).toInt64)), (0, .ref k0), (1, .ref (a 32)), (2, .int px), (3, .int py), (4, .int (nI q))]) hx hb dX11_nearer_140 hl (Nat.le_of_ble_eq_true rfl) rfl (fun ls hl => ?_)
        refine lv_goto (tgt := 169) hx hb dX11_nearer_142 rfl ?_
        refine lv_aload_n hx hb dX11_nearer_169 rfl (lv_at hl 8 rfl) ?_
        refine va_get (D := (dC, dI)) (ci := 9) (v := .long (jI d)) (C := RX11) (T := TX11) (N := 55) hx hb hts inX11 hown hK hP 0 rfl rfl 49 (Nat.le_of_ble_eq_true rfl) (hts _ mw_1208) (fun _ h9 => h9) rfl dX11_nearer_170 ?_
        refine lv_lconst (v := 0) hx hb dX11_nearer_173 rfl ?_
        refine W.lcmp hx hb dX11_nearer_174 ?_
        refine lv_if_eq (tgt := 197) hx hb dX11_nearer_175 rfl (fun c_12 => ?_) (fun c_12 => ?_)
        · have c_12 : d = 0 := zl_eq (jI_toInt (by omega)) rfl c_12
          refine lv_aload_n hx hb dX11_nearer_197 rfl (lv_at hl 8 rfl) ?_
          refine lv_lload hx hb dX11_nearer_198 (lv_at hl 0 rfl) ?_
          refine va_put (D := (dC, dI)) (ci := 9) (v := .long (jI (nrU (S0 q).toInt (S0 (q + 1)).toInt (S0 (q + 2)).toInt (S0 (q + 3)).toInt px.toInt py.toInt))) (ty := .long) (C := RX11) (T := TX11) (N := 55) hx hb hts inX11 tyX11 tyX11_ok nmX11 hown hK hP hD hS 0 rfl rfl 48 (by decide) (hts _ mw_1207) (fun _ h9 => h9) rfl (by decide +kernel) rfl rfl (Nat.le_of_ble_eq_true rfl) dX11_nearer_200 (fun H locs hP hD hS => ?_)
          obtain ⟨hP, hD⟩ := zre (W2 := [(om k0 a I0 (vp_updL (vp_updL J0 48 (jI (nrU (S0 q).toInt (S0 (q + 1)).toInt (S0 (q + 2)).toInt (S0 (q + 3)).toInt px.toInt py.toInt))) 49 (jI d))), _]) hP hD rfl
          refine lv_aload_n hx hb dX11_nearer_203 rfl (lv_at hl 8 rfl) ?_
          refine lv_lload hx hb dX11_nearer_204 (lv_at hl 1 rfl) ?_
          refine zz_l (v := jI (nrD (S0 q).toInt (S0 (q + 1)).toInt (S0 (q + 2)).toInt (S0 (q + 3)).toInt px.toInt py.toInt)) (by first | (rw [nrD_0 hT0]; exact jI_1) | (rw [nrD_1 (by omega) (by omega)]; exact jI_1) | (rw [nrD_2 (by omega) (by omega)])) ?_
          refine va_put (D := (dC, dI)) (ci := 9) (v := .long (jI (nrD (S0 q).toInt (S0 (q + 1)).toInt (S0 (q + 2)).toInt (S0 (q + 3)).toInt px.toInt py.toInt))) (ty := .long) (C := RX11) (T := TX11) (N := 55) hx hb hts inX11 tyX11 tyX11_ok nmX11 hown hK hP hD hS 0 rfl rfl 49 (by decide) (hts _ mw_1208) (fun _ h9 => h9) rfl (by decide +kernel) rfl rfl (Nat.le_of_ble_eq_true rfl) dX11_nearer_206 (fun H locs hP hD hS => ?_)
          obtain ⟨hP, hD⟩ := zre (W2 := [(om k0 a I0 (vp_updL (vp_updL J0 48 (jI (nrU (S0 q).toInt (S0 (q + 1)).toInt (S0 (q + 2)).toInt (S0 (q + 3)).toInt px.toInt py.toInt))) 49 (jI (nrD (S0 q).toInt (S0 (q + 1)).toInt (S0 (q + 2)).toInt (S0 (q + 3)).toInt px.toInt py.toInt)))), _]) hP hD rfl
          obtain ⟨hP9, hD9⟩ := zu_sub (wc := [_, _]) hP hD [true, true] rfl rfl
          rw [hQ9]
          exact W.vret hx hb hr (fun t ht hW => ⟨⟨rfl, (nrU (S0 q).toInt (S0 (q + 1)).toInt (S0 (q + 2)).toInt (S0 (q + 3)).toInt px.toInt py.toInt), (nrD (S0 q).toInt (S0 (q + 1)).toInt (S0 (q + 2)).toInt (S0 (q + 3)).toInt px.toInt py.toInt), (by unfold ndP; first | exact Or.inl ⟨Or.inl (by omega), rfl, rfl⟩ | exact Or.inl ⟨Or.inr (by first | with_reducible assumption | assumption), rfl, rfl⟩ | exact Or.inr ⟨fun h => h.elim (by omega) (by first | with_reducible assumption | assumption), rfl, rfl⟩), by rw [ht]; exact hP9, hD9⟩, hS.F ht⟩) hS.2.2 dX11_nearer_209
        · have c_12 : ¬ d = 0 := zl_ne (jI_toInt (by omega)) rfl c_12
          refine lv_aload_n hx hb dX11_nearer_178 rfl (lv_at hl 8 rfl) ?_
          refine lv_lload hx hb dX11_nearer_179 (lv_at hl 0 rfl) ?_
          refine lv_lload hx hb dX11_nearer_181 (lv_at hl 1 rfl) ?_
          refine zz_l (v := jI (nrD (S0 q).toInt (S0 (q + 1)).toInt (S0 (q + 2)).toInt (S0 (q + 3)).toInt px.toInt py.toInt)) (by first | (rw [nrD_0 hT0]; exact jI_1) | (rw [nrD_1 (by omega) (by omega)]; exact jI_1) | (rw [nrD_2 (by omega) (by omega)])) ?_
          refine lv_aload_n hx hb dX11_nearer_183 rfl (lv_at hl 8 rfl) ?_
          refine va_get (D := (dC, dI)) (ci := 9) (v := .long (jI u)) (C := RX11) (T := TX11) (N := 55) hx hb hts inX11 hown hK hP 0 rfl rfl 48 (Nat.le_of_ble_eq_true rfl) (hts _ mw_1207) (fun _ h9 => h9) rfl dX11_nearer_184 ?_
          refine lv_aload_n hx hb dX11_nearer_187 rfl (lv_at hl 8 rfl) ?_
          refine va_get (D := (dC, dI)) (ci := 9) (v := .long (jI d)) (C := RX11) (T := TX11) (N := 55) hx hb hts inX11 hown hK hP 0 rfl rfl 49 (Nat.le_of_ble_eq_true rfl) (hts _ mw_1208) (fun _ h9 => h9) rfl dX11_nearer_188 ?_
          obtain ⟨hPc, hDc, hFc, hI1⟩ := zi_sub (wc := [_]) hP hD hS hA [0] rfl rfl
          refine zcall (st1 := [.int (pI ((nrU (S0 q).toInt (S0 (q + 1)).toInt (S0 (q + 2)).toInt (S0 (q + 3)).toInt px.toInt py.toInt) * d < u * (nrD (S0 q).toInt (S0 (q + 1)).toInt (S0 (q + 2)).toInt (S0 (q + 3)).toInt px.toInt py.toInt)))]) (va_runV (As := [.long (jI (nrU (S0 q).toInt (S0 (q + 1)).toInt (S0 (q + 2)).toInt (S0 (q + 3)).toInt px.toInt py.toInt)), .long (jI (nrD (S0 q).toInt (S0 (q + 1)).toInt (S0 (q + 2)).toInt (S0 (q + 3)).toInt px.toInt py.toInt)), .long (jI u), .long (jI d)]) (rest := []) ⟨hx, hb, hml, hown, hts⟩ (k_M_isLess l dC dI cI cZ cF s.heap.size k0 a I0 (vp_updL (vp_updL J0 48 (jI u)) 49 (jI d)) (nrU (S0 q).toInt (S0 (q + 1)).toInt (S0 (q + 2)).toInt (S0 (q + 3)).toInt px.toInt py.toInt) (nrD (S0 q).toInt (S0 (q + 1)).toInt (S0 (q + 2)).toInt (S0 (q + 3)).toInt px.toInt py.toInt) u d (prN hUb.1 hd9) (prN hu9 ⟨by omega, hUb.2.2⟩) (by first | with_reducible assumption | omega) (by first | with_reducible assumption | omega) (by first | with_reducible assumption | omega) (by first | with_reducible assumption | omega)) (csV_217 hts rfl rfl ⟨Nat.le_of_ble_eq_true rfl, Nat.le_of_ble_eq_true rfl⟩) (zPV2 (q0 := 0) (ci := 9) hPc hDc hK hXN rfl rfl) rfl rfl hl.1 rfl (lv_room (Nat.le_of_ble_eq_true rfl)) dX11_nearer_191 ⟨Nat.le_of_ble_eq_true rfl, Nat.le_of_ble_eq_true rfl⟩) hS hFc hFc rfl (fun t H locs ht hB hk1 hS => ?_)
          obtain ⟨hP1, hD1⟩ := hB
          rw [ht] at hP1
          replace hP := z0 hP hD hk1 hP1 hI1
          clear hk1 hPc hDc hFc hP1 hD1 ht hI1
          refine lv_if_eq (tgt := 209) hx hb dX11_nearer_194 rfl (fun c_13 => ?_) (fun c_13 => ?_)
          · have c_13 : ¬ ((nrU (S0 q).toInt (S0 (q + 1)).toInt (S0 (q + 2)).toInt (S0 (q + 3)).toInt px.toInt py.toInt) * d < u * (nrD (S0 q).toInt (S0 (q + 1)).toInt (S0 (q + 2)).toInt (S0 (q + 3)).toInt px.toInt py.toInt)) := zp_0 c_13
            obtain ⟨hP9, hD9⟩ := zu_sub (wc := [_, _]) hP hD [true, true] rfl rfl
            rw [hQ9]
            exact W.vret hx hb hr (fun t ht hW => ⟨⟨rfl, u, d, (by unfold ndP; first | exact Or.inl ⟨Or.inl (by omega), rfl, rfl⟩ | exact Or.inl ⟨Or.inr (by first | with_reducible assumption | assumption), rfl, rfl⟩ | exact Or.inr ⟨fun h => h.elim (by omega) (by first | with_reducible assumption | assumption), rfl, rfl⟩), by rw [ht]; exact hP9, hD9⟩, hS.F ht⟩) hS.2.2 dX11_nearer_209
          · have c_13 : (nrU (S0 q).toInt (S0 (q + 1)).toInt (S0 (q + 2)).toInt (S0 (q + 3)).toInt px.toInt py.toInt) * d < u * (nrD (S0 q).toInt (S0 (q + 1)).toInt (S0 (q + 2)).toInt (S0 (q + 3)).toInt px.toInt py.toInt) := zp_1 c_13
            refine lv_aload_n hx hb dX11_nearer_197 rfl (lv_at hl 8 rfl) ?_
            refine lv_lload hx hb dX11_nearer_198 (lv_at hl 0 rfl) ?_
            refine va_put (D := (dC, dI)) (ci := 9) (v := .long (jI (nrU (S0 q).toInt (S0 (q + 1)).toInt (S0 (q + 2)).toInt (S0 (q + 3)).toInt px.toInt py.toInt))) (ty := .long) (C := RX11) (T := TX11) (N := 55) hx hb hts inX11 tyX11 tyX11_ok nmX11 hown hK hP hD hS 0 rfl rfl 48 (by decide) (hts _ mw_1207) (fun _ h9 => h9) rfl (by decide +kernel) rfl rfl (Nat.le_of_ble_eq_true rfl) dX11_nearer_200 (fun H locs hP hD hS => ?_)
            obtain ⟨hP, hD⟩ := zre (W2 := [(om k0 a I0 (vp_updL (vp_updL J0 48 (jI (nrU (S0 q).toInt (S0 (q + 1)).toInt (S0 (q + 2)).toInt (S0 (q + 3)).toInt px.toInt py.toInt))) 49 (jI d))), _]) hP hD rfl
            refine lv_aload_n hx hb dX11_nearer_203 rfl (lv_at hl 8 rfl) ?_
            refine lv_lload hx hb dX11_nearer_204 (lv_at hl 1 rfl) ?_
            refine zz_l (v := jI (nrD (S0 q).toInt (S0 (q + 1)).toInt (S0 (q + 2)).toInt (S0 (q + 3)).toInt px.toInt py.toInt)) (by first | (rw [nrD_0 hT0]; exact jI_1) | (rw [nrD_1 (by omega) (by omega)]; exact jI_1) | (rw [nrD_2 (by omega) (by omega)])) ?_
            refine va_put (D := (dC, dI)) (ci := 9) (v := .long (jI (nrD (S0 q).toInt (S0 (q + 1)).toInt (S0 (q + 2)).toInt (S0 (q + 3)).toInt px.toInt py.toInt))) (ty := .long) (C := RX11) (T := TX11) (N := 55) hx hb hts inX11 tyX11 tyX11_ok nmX11 hown hK hP hD hS 0 rfl rfl 49 (by decide) (hts _ mw_1208) (fun _ h9 => h9) rfl (by decide +kernel) rfl rfl (Nat.le_of_ble_eq_true rfl) dX11_nearer_206 (fun H locs hP hD hS => ?_)
            obtain ⟨hP, hD⟩ := zre (W2 := [(om k0 a I0 (vp_updL (vp_updL J0 48 (jI (nrU (S0 q).toInt (S0 (q + 1)).toInt (S0 (q + 2)).toInt (S0 (q + 3)).toInt px.toInt py.toInt))) 49 (jI (nrD (S0 q).toInt (S0 (q + 1)).toInt (S0 (q + 2)).toInt (S0 (q + 3)).toInt px.toInt py.toInt)))), _]) hP hD rfl
            obtain ⟨hP9, hD9⟩ := zu_sub (wc := [_, _]) hP hD [true, true] rfl rfl
            rw [hQ9]
            exact W.vret hx hb hr (fun t ht hW => ⟨⟨rfl, (nrU (S0 q).toInt (S0 (q + 1)).toInt (S0 (q + 2)).toInt (S0 (q + 3)).toInt px.toInt py.toInt), (nrD (S0 q).toInt (S0 (q + 1)).toInt (S0 (q + 2)).toInt (S0 (q + 3)).toInt px.toInt py.toInt), (by unfold ndP; first | exact Or.inl ⟨Or.inl (by omega), rfl, rfl⟩ | exact Or.inl ⟨Or.inr (by first | with_reducible assumption | assumption), rfl, rfl⟩ | exact Or.inr ⟨fun h => h.elim (by omega) (by first | with_reducible assumption | assumption), rfl, rfl⟩), by rw [ht]; exact hP9, hD9⟩, hS.F ht⟩) hS.2.2 dX11_nearer_209
    · have c_8 : (nrT (S0 q).toInt (S0 (q + 1)).toInt (S0 (q + 2)).toInt (S0 (q + 3)).toInt px.toInt py.toInt) ≤ 0 := zl_ngt (jI_toInt (by omega)) rfl c_8
      have hT0 : nrT (S0 q).toInt (S0 (q + 1)).toInt (S0 (q + 2)).toInt (S0 (q + 3)).toInt px.toInt py.toInt ≤ 0 := (by first | omega | (have h9 := nrT_0 (x := px.toInt) (y := py.toInt) (show nrL (S0 q).toInt (S0 (q + 1)).toInt (S0 (q + 2)).toInt (S0 (q + 3)).toInt = 0 by assumption); omega))
      refine lv_lload hx hb dX11_nearer_93 (lv_at hl 4 rfl) ?_
      refine lv_lload hx hb dX11_nearer_95 (lv_at hl 4 rfl) ?_
      refine lv_lmul hx hb dX11_nearer_97 ?_
      refine lv_lload hx hb dX11_nearer_98 (lv_at hl 3 rfl) ?_
      refine lv_lload hx hb dX11_nearer_100 (lv_at hl 3 rfl) ?_
      refine lv_lmul hx hb dX11_nearer_102 ?_
      refine lv_ladd hx hb dX11_nearer_103 ?_
      refine zz_l (v := jI (nrU (S0 q).toInt (S0 (q + 1)).toInt (S0 (q + 2)).toInt (S0 (q + 3)).toInt px.toInt py.toInt)) (nr_u0 (hs q (by omega)) (hs (q + 1) (by omega)) hpx hpy hT0) ?_
      refine lv_lstore (lv' := [(17, .long (jI (nrU (S0 q).toInt (S0 (q + 1)).toInt (S0 (q + 2)).toInt (S0 (q + 3)).toInt px.toInt py.toInt))), (19, .long 1), (15, .long (jI (nrT (S0 q).toInt (S0 (q + 1)).toInt (S0 (q + 2)).toInt (S0 (q + 3)).toInt px.toInt py.toInt))), (13, .long (jI (nrL (S0 q).toInt (S0 (q + 1)).toInt (S0 (q + 2)).toInt (S0 (q + 3)).toInt))), (11, .long ((py - (S0 (q + 1))).toInt64)), (9, .long ((px - (S0 q)).toInt64)), (7, .long (((S0 (q + 3)) - (S0 (q + 1))).toInt64)), (5, .long (((S0 (q + 2)) - (S0 q)).toInt64)), (0, .ref k0), (1, .ref (a 32)), (2, .int px), (3, .int py), (4, .int (nI q))]) hx hb dX11_nearer_104 hl (Nat.le_of_ble_eq_true rfl) rfl (fun ls hl => ?_)
      refine lv_goto (tgt := 169) hx hb dX11_nearer_106 rfl ?_
      refine lv_aload_n hx hb dX11_nearer_169 rfl (lv_at hl 8 rfl) ?_
      refine va_get (D := (dC, dI)) (ci := 9) (v := .long (jI d)) (C := RX11) (T := TX11) (N := 55) hx hb hts inX11 hown hK hP 0 rfl rfl 49 (Nat.le_of_ble_eq_true rfl) (hts _ mw_1208) (fun _ h9 => h9) rfl dX11_nearer_170 ?_
      refine lv_lconst (v := 0) hx hb dX11_nearer_173 rfl ?_
      refine W.lcmp hx hb dX11_nearer_174 ?_
      refine lv_if_eq (tgt := 197) hx hb dX11_nearer_175 rfl (fun c_14 => ?_) (fun c_14 => ?_)
      · have c_14 : d = 0 := zl_eq (jI_toInt (by omega)) rfl c_14
        refine lv_aload_n hx hb dX11_nearer_197 rfl (lv_at hl 8 rfl) ?_
        refine lv_lload hx hb dX11_nearer_198 (lv_at hl 0 rfl) ?_
        refine va_put (D := (dC, dI)) (ci := 9) (v := .long (jI (nrU (S0 q).toInt (S0 (q + 1)).toInt (S0 (q + 2)).toInt (S0 (q + 3)).toInt px.toInt py.toInt))) (ty := .long) (C := RX11) (T := TX11) (N := 55) hx hb hts inX11 tyX11 tyX11_ok nmX11 hown hK hP hD hS 0 rfl rfl 48 (by decide) (hts _ mw_1207) (fun _ h9 => h9) rfl (by decide +kernel) rfl rfl (Nat.le_of_ble_eq_true rfl) dX11_nearer_200 (fun H locs hP hD hS => ?_)
        obtain ⟨hP, hD⟩ := zre (W2 := [(om k0 a I0 (vp_updL (vp_updL J0 48 (jI (nrU (S0 q).toInt (S0 (q + 1)).toInt (S0 (q + 2)).toInt (S0 (q + 3)).toInt px.toInt py.toInt))) 49 (jI d))), _]) hP hD rfl
        refine lv_aload_n hx hb dX11_nearer_203 rfl (lv_at hl 8 rfl) ?_
        refine lv_lload hx hb dX11_nearer_204 (lv_at hl 1 rfl) ?_
        refine zz_l (v := jI (nrD (S0 q).toInt (S0 (q + 1)).toInt (S0 (q + 2)).toInt (S0 (q + 3)).toInt px.toInt py.toInt)) (by first | (rw [nrD_0 hT0]; exact jI_1) | (rw [nrD_1 (by omega) (by omega)]; exact jI_1) | (rw [nrD_2 (by omega) (by omega)])) ?_
        refine va_put (D := (dC, dI)) (ci := 9) (v := .long (jI (nrD (S0 q).toInt (S0 (q + 1)).toInt (S0 (q + 2)).toInt (S0 (q + 3)).toInt px.toInt py.toInt))) (ty := .long) (C := RX11) (T := TX11) (N := 55) hx hb hts inX11 tyX11 tyX11_ok nmX11 hown hK hP hD hS 0 rfl rfl 49 (by decide) (hts _ mw_1208) (fun _ h9 => h9) rfl (by decide +kernel) rfl rfl (Nat.le_of_ble_eq_true rfl) dX11_nearer_206 (fun H locs hP hD hS => ?_)
        obtain ⟨hP, hD⟩ := zre (W2 := [(om k0 a I0 (vp_updL (vp_updL J0 48 (jI (nrU (S0 q).toInt (S0 (q + 1)).toInt (S0 (q + 2)).toInt (S0 (q + 3)).toInt px.toInt py.toInt))) 49 (jI (nrD (S0 q).toInt (S0 (q + 1)).toInt (S0 (q + 2)).toInt (S0 (q + 3)).toInt px.toInt py.toInt)))), _]) hP hD rfl
        obtain ⟨hP9, hD9⟩ := zu_sub (wc := [_, _]) hP hD [true, true] rfl rfl
        rw [hQ9]
        exact W.vret hx hb hr (fun t ht hW => ⟨⟨rfl, (nrU (S0 q).toInt (S0 (q + 1)).toInt (S0 (q + 2)).toInt (S0 (q + 3)).toInt px.toInt py.toInt), (nrD (S0 q).toInt (S0 (q + 1)).toInt (S0 (q + 2)).toInt (S0 (q + 3)).toInt px.toInt py.toInt), (by unfold ndP; first | exact Or.inl ⟨Or.inl (by omega), rfl, rfl⟩ | exact Or.inl ⟨Or.inr (by first | with_reducible assumption | assumption), rfl, rfl⟩ | exact Or.inr ⟨fun h => h.elim (by omega) (by first | with_reducible assumption | assumption), rfl, rfl⟩), by rw [ht]; exact hP9, hD9⟩, hS.F ht⟩) hS.2.2 dX11_nearer_209
      · have c_14 : ¬ d = 0 := zl_ne (jI_toInt (by omega)) rfl c_14
        refine lv_aload_n hx hb dX11_nearer_178 rfl (lv_at hl 8 rfl) ?_
        refine lv_lload hx hb dX11_nearer_179 (lv_at hl 0 rfl) ?_
        refine lv_lload hx hb dX11_nearer_181 (lv_at hl 1 rfl) ?_
        refine zz_l (v := jI (nrD (S0 q).toInt (S0 (q + 1)).toInt (S0 (q + 2)).toInt (S0 (q + 3)).toInt px.toInt py.toInt)) (by first | (rw [nrD_0 hT0]; exact jI_1) | (rw [nrD_1 (by omega) (by omega)]; exact jI_1) | (rw [nrD_2 (by omega) (by omega)])) ?_
        refine lv_aload_n hx hb dX11_nearer_183 rfl (lv_at hl 8 rfl) ?_
        refine va_get (D := (dC, dI)) (ci := 9) (v := .long (jI u)) (C := RX11) (T := TX11) (N := 55) hx hb hts inX11 hown hK hP 0 rfl rfl 48 (Nat.le_of_ble_eq_true rfl) (hts _ mw_1207) (fun _ h9 => h9) rfl dX11_nearer_184 ?_
        refine lv_aload_n hx hb dX11_nearer_187 rfl (lv_at hl 8 rfl) ?_
        refine va_get (D := (dC, dI)) (ci := 9) (v := .long (jI d)) (C := RX11) (T := TX11) (N := 55) hx hb hts inX11 hown hK hP 0 rfl rfl 49 (Nat.le_of_ble_eq_true rfl) (hts _ mw_1208) (fun _ h9 => h9) rfl dX11_nearer_188 ?_
        obtain ⟨hPc, hDc, hFc, hI1⟩ := zi_sub (wc := [_]) hP hD hS hA [0] rfl rfl
        refine zcall (st1 := [.int (pI ((nrU (S0 q).toInt (S0 (q + 1)).toInt (S0 (q + 2)).toInt (S0 (q + 3)).toInt px.toInt py.toInt) * d < u * (nrD (S0 q).toInt (S0 (q + 1)).toInt (S0 (q + 2)).toInt (S0 (q + 3)).toInt px.toInt py.toInt)))]) (va_runV (As := [.long (jI (nrU (S0 q).toInt (S0 (q + 1)).toInt (S0 (q + 2)).toInt (S0 (q + 3)).toInt px.toInt py.toInt)), .long (jI (nrD (S0 q).toInt (S0 (q + 1)).toInt (S0 (q + 2)).toInt (S0 (q + 3)).toInt px.toInt py.toInt)), .long (jI u), .long (jI d)]) (rest := []) ⟨hx, hb, hml, hown, hts⟩ (k_M_isLess l dC dI cI cZ cF s.heap.size k0 a I0 (vp_updL (vp_updL J0 48 (jI u)) 49 (jI d)) (nrU (S0 q).toInt (S0 (q + 1)).toInt (S0 (q + 2)).toInt (S0 (q + 3)).toInt px.toInt py.toInt) (nrD (S0 q).toInt (S0 (q + 1)).toInt (S0 (q + 2)).toInt (S0 (q + 3)).toInt px.toInt py.toInt) u d (prN hUb.1 hd9) (prN hu9 ⟨by omega, hUb.2.2⟩) (by first | with_reducible assumption | omega) (by first | with_reducible assumption | omega) (by first | with_reducible assumption | omega) (by first | with_reducible assumption | omega)) (csV_217 hts rfl rfl ⟨Nat.le_of_ble_eq_true rfl, Nat.le_of_ble_eq_true rfl⟩) (zPV2 (q0 := 0) (ci := 9) hPc hDc hK hXN rfl rfl) rfl rfl hl.1 rfl (lv_room (Nat.le_of_ble_eq_true rfl)) dX11_nearer_191 ⟨Nat.le_of_ble_eq_true rfl, Nat.le_of_ble_eq_true rfl⟩) hS hFc hFc rfl (fun t H locs ht hB hk1 hS => ?_)
        obtain ⟨hP1, hD1⟩ := hB
        rw [ht] at hP1
        replace hP := z0 hP hD hk1 hP1 hI1
        clear hk1 hPc hDc hFc hP1 hD1 ht hI1
        refine lv_if_eq (tgt := 209) hx hb dX11_nearer_194 rfl (fun c_15 => ?_) (fun c_15 => ?_)
        · have c_15 : ¬ ((nrU (S0 q).toInt (S0 (q + 1)).toInt (S0 (q + 2)).toInt (S0 (q + 3)).toInt px.toInt py.toInt) * d < u * (nrD (S0 q).toInt (S0 (q + 1)).toInt (S0 (q + 2)).toInt (S0 (q + 3)).toInt px.toInt py.toInt)) := zp_0 c_15
          obtain ⟨hP9, hD9⟩ := zu_sub (wc := [_, _]) hP hD [true, true] rfl rfl
          rw [hQ9]
          exact W.vret hx hb hr (fun t ht hW => ⟨⟨rfl, u, d, (by unfold ndP; first | exact Or.inl ⟨Or.inl (by omega), rfl, rfl⟩ | exact Or.inl ⟨Or.inr (by first | with_reducible assumption | assumption), rfl, rfl⟩ | exact Or.inr ⟨fun h => h.elim (by omega) (by first | with_reducible assumption | assumption), rfl, rfl⟩), by rw [ht]; exact hP9, hD9⟩, hS.F ht⟩) hS.2.2 dX11_nearer_209
        · have c_15 : (nrU (S0 q).toInt (S0 (q + 1)).toInt (S0 (q + 2)).toInt (S0 (q + 3)).toInt px.toInt py.toInt) * d < u * (nrD (S0 q).toInt (S0 (q + 1)).toInt (S0 (q + 2)).toInt (S0 (q + 3)).toInt px.toInt py.toInt) := zp_1 c_15
          refine lv_aload_n hx hb dX11_nearer_197 rfl (lv_at hl 8 rfl) ?_
          refine lv_lload hx hb dX11_nearer_198 (lv_at hl 0 rfl) ?_
          refine va_put (D := (dC, dI)) (ci := 9) (v := .long (jI (nrU (S0 q).toInt (S0 (q + 1)).toInt (S0 (q + 2)).toInt (S0 (q + 3)).toInt px.toInt py.toInt))) (ty := .long) (C := RX11) (T := TX11) (N := 55) hx hb hts inX11 tyX11 tyX11_ok nmX11 hown hK hP hD hS 0 rfl rfl 48 (by decide) (hts _ mw_1207) (fun _ h9 => h9) rfl (by decide +kernel) rfl rfl (Nat.le_of_ble_eq_true rfl) dX11_nearer_200 (fun H locs hP hD hS => ?_)
          obtain ⟨hP, hD⟩ := zre (W2 := [(om k0 a I0 (vp_updL (vp_updL J0 48 (jI (nrU (S0 q).toInt (S0 (q + 1)).toInt (S0 (q + 2)).toInt (S0 (q + 3)).toInt px.toInt py.toInt))) 49 (jI d))), _]) hP hD rfl
          refine lv_aload_n hx hb dX11_nearer_203 rfl (lv_at hl 8 rfl) ?_
          refine lv_lload hx hb dX11_nearer_204 (lv_at hl 1 rfl) ?_
          refine zz_l (v := jI (nrD (S0 q).toInt (S0 (q + 1)).toInt (S0 (q + 2)).toInt (S0 (q + 3)).toInt px.toInt py.toInt)) (by first | (rw [nrD_0 hT0]; exact jI_1) | (rw [nrD_1 (by omega) (by omega)]; exact jI_1) | (rw [nrD_2 (by omega) (by omega)])) ?_
          refine va_put (D := (dC, dI)) (ci := 9) (v := .long (jI (nrD (S0 q).toInt (S0 (q + 1)).toInt (S0 (q + 2)).toInt (S0 (q + 3)).toInt px.toInt py.toInt))) (ty := .long) (C := RX11) (T := TX11) (N := 55) hx hb hts inX11 tyX11 tyX11_ok nmX11 hown hK hP hD hS 0 rfl rfl 49 (by decide) (hts _ mw_1208) (fun _ h9 => h9) rfl (by decide +kernel) rfl rfl (Nat.le_of_ble_eq_true rfl) dX11_nearer_206 (fun H locs hP hD hS => ?_)
          obtain ⟨hP, hD⟩ := zre (W2 := [(om k0 a I0 (vp_updL (vp_updL J0 48 (jI (nrU (S0 q).toInt (S0 (q + 1)).toInt (S0 (q + 2)).toInt (S0 (q + 3)).toInt px.toInt py.toInt))) 49 (jI (nrD (S0 q).toInt (S0 (q + 1)).toInt (S0 (q + 2)).toInt (S0 (q + 3)).toInt px.toInt py.toInt)))), _]) hP hD rfl
          obtain ⟨hP9, hD9⟩ := zu_sub (wc := [_, _]) hP hD [true, true] rfl rfl
          rw [hQ9]
          exact W.vret hx hb hr (fun t ht hW => ⟨⟨rfl, (nrU (S0 q).toInt (S0 (q + 1)).toInt (S0 (q + 2)).toInt (S0 (q + 3)).toInt px.toInt py.toInt), (nrD (S0 q).toInt (S0 (q + 1)).toInt (S0 (q + 2)).toInt (S0 (q + 3)).toInt px.toInt py.toInt), (by unfold ndP; first | exact Or.inl ⟨Or.inl (by omega), rfl, rfl⟩ | exact Or.inl ⟨Or.inr (by first | with_reducible assumption | assumption), rfl, rfl⟩ | exact Or.inr ⟨fun h => h.elim (by omega) (by first | with_reducible assumption | assumption), rfl, rfl⟩), by rw [ht]; exact hP9, hD9⟩, hS.F ht⟩) hS.2.2 dX11_nearer_209
end
