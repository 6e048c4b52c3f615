section
set_option maxHeartbeats 4000000 in
set_option maxRecDepth 100000 in
theorem k_M_nearer_q (l : Launch) (dC : Nat → ClassId) (dI : Nat → Nat → Nat) (cI cZ cF : ClassId) (sz : Nat) (k0 : Nat) (a : Nat → Nat) (I0 : Nat → Int32) (J0 : Nat → Int64) (q : Nat) (px : Int32) (py : Int32) (u : Int) (d : Int) (S0 : Nat → Int32) (hq4 : q ≤ 4) (hs : ∀ k, q ≤ k → k < q + 4 → pl (S0 k)) (hpx : pl px) (hpy : pl py) (hu9 : 0 ≤ u ∧ u ≤ 4000000000000) (hd9 : 0 ≤ d ∧ d ≤ 2000000) : zM l yX11_nearer cX11_nearer 23 none ({ frames := 1, cells := 0, slots := 0, locals := 28 } : Room) [.ref k0, .ref (a 32), .int px, .int py, .int (nI q)] (dC, dI) (zTy cI cZ cF) [(om k0 a I0 (vp_updL (vp_updL J0 48 (jI u)) 49 (jI d))), (oa (a 32) cI 8 S0)] sz none (fun A t => ∃ (zu : Int), ∃ (zd : Int), (ndP u d (nrU (S0 q).toInt (S0 (q + 1)).toInt (S0 (q + 2)).toInt (S0 (q + 3)).toInt px.toInt py.toInt) (nrD (S0 q).toInt (S0 (q + 1)).toInt (S0 (q + 2)).toInt (S0 (q + 3)).toInt px.toInt py.toInt) zu zd) ∧ zPD (dC, dI) classes A [(om k0 a I0 (vp_updL (vp_updL J0 48 (jI zu)) 49 (jI zd))), (oa (a 32) cI 8 S0)] t.heap) 0 0 := by
  refine zIn (own := "ScaleShopModel") (loc := [(0, .ref k0), (1, .ref (a 32)), (2, .int px), (3, .int py), (4, .int (nI q))]) rfl rfl rfl rfl (fun p e s m below meth c hx hb hr hts hown hlocks hml hnm9 A hA hS hP hD hK hXN Q9 hQ9 ls hl => ?_)
  have hLb := nrL_b (hs q (by omega) (by omega)) (hs (q + 1) (by omega) (by omega)) (hs (q + 2) (by omega) (by omega)) (hs (q + 3) (by omega) (by omega))
  have hTb := nrT_b (hs q (by omega) (by omega)) (hs (q + 1) (by omega) (by omega)) (hs (q + 2) (by omega) (by omega)) (hs (q + 3) (by omega) (by omega)) hpx hpy
  have hUb := nrU_b (hs q (by omega) (by omega)) (hs (q + 1) (by omega) (by omega)) (hs (q + 2) (by omega) (by omega)) (hs (q + 3) (by omega) (by omega)) hpx hpy
  refine lv_aload_n hx hb dX11_nearer_0 rfl (lv_at hl 1 rfl) ?_
  refine lv_iload hx hb dX11_nearer_1 (lv_at hl 4 rfl) ?_
  refine lv_iconst (v := 2) hx hb dX11_nearer_3 rfl ?_
  refine lv_iadd hx hb dX11_nearer_4 ?_
  refine zz_i (v := nI (q + 2)) (nI_add q 2) ?_
  have b9_1 : q + 2 < 8 := by omega
  refine z_iald hx hb hK hP 1 0 rfl rfl (e := q + 2) rfl b9_1 (Nat.le_of_ble_eq_true rfl) dX11_nearer_5 ?_
  refine lv_aload_n hx hb dX11_nearer_6 rfl (lv_at hl 1 rfl) ?_
  refine lv_iload hx hb dX11_nearer_7 (lv_at hl 4 rfl) ?_
  have b9_2 : q < 8 := by omega
  refine z_iald hx hb hK hP 1 0 rfl rfl (e := q) rfl b9_2 (Nat.le_of_ble_eq_true rfl) dX11_nearer_9 ?_
  refine lv_isub hx hb dX11_nearer_10 ?_
  refine lv_i2l (v := ((S0 (q + 2)) - (S0 q)).toInt64) hx hb dX11_nearer_11 (rfl) ?_
  refine lv_lstore (lv' := [(5, .long (((S0 (q + 2)) - (S0 q)).toInt64)), (0, .ref k0), (1, .ref (a 32)), (2, .int px), (3, .int py), (4, .int (nI q))]) hx hb dX11_nearer_12 hl (Nat.le_of_ble_eq_true rfl) rfl (fun ls hl => ?_)
  refine lv_aload_n hx hb dX11_nearer_14 rfl (lv_at hl 2 rfl) ?_
  refine lv_iload hx hb dX11_nearer_15 (lv_at hl 5 rfl) ?_
  refine lv_iconst (v := 3) hx hb dX11_nearer_17 rfl ?_
  refine lv_iadd hx hb dX11_nearer_18 ?_
  refine zz_i (v := nI (q + 3)) (nI_add q 3) ?_
  have b9_3 : q + 3 < 8 := by omega
  refine z_iald hx hb hK hP 1 0 rfl rfl (e := q + 3) rfl b9_3 (Nat.le_of_ble_eq_true rfl) dX11_nearer_19 ?_
  refine lv_aload_n hx hb dX11_nearer_20 rfl (lv_at hl 2 rfl) ?_
  refine lv_iload hx hb dX11_nearer_21 (lv_at hl 5 rfl) ?_
  refine lv_iconst (v := 1) hx hb dX11_nearer_23 rfl ?_
  refine lv_iadd hx hb dX11_nearer_24 ?_
  refine zz_i (v := nI (q + 1)) (nI_add q 1) ?_
  have b9_4 : q + 1 < 8 := by omega
  refine z_iald hx hb hK hP 1 0 rfl rfl (e := q + 1) rfl b9_4 (Nat.le_of_ble_eq_true rfl) dX11_nearer_25 ?_
  refine lv_isub hx hb dX11_nearer_26 ?_
  refine lv_i2l (v := ((S0 (q + 3)) - (S0 (q + 1))).toInt64) hx hb dX11_nearer_27 (rfl) ?_
  refine lv_lstore (lv' := [(7, .long (((S0 (q + 3)) - (S0 (q + 1))).toInt64)), (5, .long (((S0 (q + 2)) - (S0 q)).toInt64)), (0, .ref k0), (1, .ref (a 32)), (2, .int px), (3, .int py), (4, .int (nI q))]) hx hb dX11_nearer_28 hl (Nat.le_of_ble_eq_true rfl) rfl (fun ls hl => ?_)
  refine lv_iload_n hx hb dX11_nearer_30 rfl (lv_at hl 4 rfl) ?_
  refine lv_aload_n hx hb dX11_nearer_31 rfl (lv_at hl 3 rfl) ?_
  refine lv_iload hx hb dX11_nearer_32 (lv_at hl 6 rfl) ?_
  refine z_iald hx hb hK hP 1 0 rfl rfl (e := q) rfl b9_2 (Nat.le_of_ble_eq_true rfl) dX11_nearer_34 ?_
  refine lv_isub hx hb dX11_nearer_35 ?_
  refine lv_i2l (v := (px - (S0 q)).toInt64) hx hb dX11_nearer_36 (rfl) ?_
  refine lv_lstore (lv' := [(9, .long ((px - (S0 q)).toInt64)), (7, .long (((S0 (q + 3)) - (S0 (q + 1))).toInt64)), (5, .long (((S0 (q + 2)) - (S0 q)).toInt64)), (0, .ref k0), (1, .ref (a 32)), (2, .int px), (3, .int py), (4, .int (nI q))]) hx hb dX11_nearer_37 hl (Nat.le_of_ble_eq_true rfl) rfl (fun ls hl => ?_)
  refine lv_iload_n hx hb dX11_nearer_39 rfl (lv_at hl 6 rfl) ?_
  refine lv_aload_n hx hb dX11_nearer_40 rfl (lv_at hl 4 rfl) ?_
  refine lv_iload hx hb dX11_nearer_41 (lv_at hl 7 rfl) ?_
  refine lv_iconst (v := 1) hx hb dX11_nearer_43 rfl ?_
  refine lv_iadd hx hb dX11_nearer_44 ?_
  refine zz_i (v := nI (q + 1)) (nI_add q 1) ?_
  refine z_iald hx hb hK hP 1 0 rfl rfl (e := q + 1) rfl b9_4 (Nat.le_of_ble_eq_true rfl) dX11_nearer_45 ?_
  refine lv_isub hx hb dX11_nearer_46 ?_
  refine lv_i2l (v := (py - (S0 (q + 1))).toInt64) hx hb dX11_nearer_47 (rfl) ?_
  refine lv_lstore (lv' := [(11, .long ((py - (S0 (q + 1))).toInt64)), (9, .long ((px - (S0 q)).toInt64)), (7, .long (((S0 (q + 3)) - (S0 (q + 1))).toInt64)), (5, .long (((S0 (q + 2)) - (S0 q)).toInt64)), (0, .ref k0), (1, .ref (a 32)), (2, .int px), (3, .int py), (4, .int (nI q))]) hx hb dX11_nearer_48 hl (Nat.le_of_ble_eq_true rfl) rfl (fun ls hl => ?_)
  refine lv_lload hx hb dX11_nearer_50 (lv_at hl 3 rfl) ?_
  refine lv_lload hx hb dX11_nearer_52 (lv_at hl 3 rfl) ?_
  refine lv_lmul hx hb dX11_nearer_54 ?_
  refine lv_lload hx hb dX11_nearer_55 (lv_at hl 2 rfl) ?_
  refine lv_lload hx hb dX11_nearer_57 (lv_at hl 2 rfl) ?_
  refine lv_lmul hx hb dX11_nearer_59 ?_
  refine lv_ladd hx hb dX11_nearer_60 ?_
  refine zz_l (v := jI (nrL (S0 q).toInt (S0 (q + 1)).toInt (S0 (q + 2)).toInt (S0 (q + 3)).toInt)) (nr_len (hs q (by omega) (by omega)) (hs (q + 1) (by omega) (by omega)) (hs (q + 2) (by omega) (by omega)) (hs (q + 3) (by omega) (by omega))) ?_
  refine lv_lstore (lv' := [(13, .long (jI (nrL (S0 q).toInt (S0 (q + 1)).toInt (S0 (q + 2)).toInt (S0 (q + 3)).toInt))), (11, .long ((py - (S0 (q + 1))).toInt64)), (9, .long ((px - (S0 q)).toInt64)), (7, .long (((S0 (q + 3)) - (S0 (q + 1))).toInt64)), (5, .long (((S0 (q + 2)) - (S0 q)).toInt64)), (0, .ref k0), (1, .ref (a 32)), (2, .int px), (3, .int py), (4, .int (nI q))]) hx hb dX11_nearer_61 hl (Nat.le_of_ble_eq_true rfl) rfl (fun ls hl => ?_)
  refine lv_lload hx hb dX11_nearer_63 (lv_at hl 4 rfl) ?_
  refine lv_lload hx hb dX11_nearer_65 (lv_at hl 2 rfl) ?_
  refine lv_lmul hx hb dX11_nearer_67 ?_
  refine lv_lload hx hb dX11_nearer_68 (lv_at hl 3 rfl) ?_
  refine lv_lload hx hb dX11_nearer_70 (lv_at hl 1 rfl) ?_
  refine lv_lmul hx hb dX11_nearer_72 ?_
  refine lv_ladd hx hb dX11_nearer_73 ?_
  refine zz_l (v := jI (nrT (S0 q).toInt (S0 (q + 1)).toInt (S0 (q + 2)).toInt (S0 (q + 3)).toInt px.toInt py.toInt)) (nr_dot (hs q (by omega) (by omega)) (hs (q + 1) (by omega) (by omega)) (hs (q + 2) (by omega) (by omega)) (hs (q + 3) (by omega) (by omega)) hpx hpy) ?_
  refine lv_lstore (lv' := [(15, .long (jI (nrT (S0 q).toInt (S0 (q + 1)).toInt (S0 (q + 2)).toInt (S0 (q + 3)).toInt px.toInt py.toInt))), (13, .long (jI (nrL (S0 q).toInt (S0 (q + 1)).toInt (S0 (q + 2)).toInt (S0 (q + 3)).toInt))), (11, .long ((py - (S0 (q + 1))).toInt64)), (9, .long ((px - (S0 q)).toInt64)), (7, .long (((S0 (q + 3)) - (S0 (q + 1))).toInt64)), (5, .long (((S0 (q + 2)) - (S0 q)).toInt64)), (0, .ref k0), (1, .ref (a 32)), (2, .int px), (3, .int py), (4, .int (nI q))]) hx hb dX11_nearer_74 hl (Nat.le_of_ble_eq_true rfl) rfl (fun ls hl => ?_)
  refine lv_lconst (v := 1) hx hb dX11_nearer_76 rfl ?_
  refine lv_lstore (lv' := [(19, .long 1), (15, .long (jI (nrT (S0 q).toInt (S0 (q + 1)).toInt (S0 (q + 2)).toInt (S0 (q + 3)).toInt px.toInt py.toInt))), (13, .long (jI (nrL (S0 q).toInt (S0 (q + 1)).toInt (S0 (q + 2)).toInt (S0 (q + 3)).toInt))), (11, .long ((py - (S0 (q + 1))).toInt64)), (9, .long ((px - (S0 q)).toInt64)), (7, .long (((S0 (q + 3)) - (S0 (q + 1))).toInt64)), (5, .long (((S0 (q + 2)) - (S0 q)).toInt64)), (0, .ref k0), (1, .ref (a 32)), (2, .int px), (3, .int py), (4, .int (nI q))]) hx hb dX11_nearer_77 hl (Nat.le_of_ble_eq_true rfl) rfl (fun ls hl => ?_)
  refine lv_lload hx hb dX11_nearer_79 (lv_at hl 2 rfl) ?_
  refine lv_lconst (v := 0) hx hb dX11_nearer_81 rfl ?_
  refine W.lcmp hx hb dX11_nearer_82 ?_
  refine lv_if_eq (tgt := 93) hx hb dX11_nearer_83 rfl (fun c_5 => ?_) (fun c_5 => ?_)
  · have c_5 : (nrL (S0 q).toInt (S0 (q + 1)).toInt (S0 (q + 2)).toInt (S0 (q + 3)).toInt) = 0 := zl_eq (jI_toInt (by omega)) rfl c_5
    have hT0 : nrT (S0 q).toInt (S0 (q + 1)).toInt (S0 (q + 2)).toInt (S0 (q + 3)).toInt px.toInt py.toInt ≤ 0 := (by first | omega | (have h9 := nrT_0 (x := px.toInt) (y := py.toInt) (show nrL (S0 q).toInt (S0 (q + 1)).toInt (S0 (q + 2)).toInt (S0 (q + 3)).toInt = 0 by assumption); omega))
    refine lv_lload hx hb dX11_nearer_93 (lv_at hl 4 rfl) ?_
    refine lv_lload hx hb dX11_nearer_95 (lv_at hl 4 rfl) ?_
    refine lv_lmul hx hb dX11_nearer_97 ?_
    refine lv_lload hx hb dX11_nearer_98 (lv_at hl 3 rfl) ?_
    refine lv_lload hx hb dX11_nearer_100 (lv_at hl 3 rfl) ?_
    refine lv_lmul hx hb dX11_nearer_102 ?_
    refine lv_ladd hx hb dX11_nearer_103 ?_
    refine zz_l (v := jI (nrU (S0 q).toInt (S0 (q + 1)).toInt (S0 (q + 2)).toInt (S0 (q + 3)).toInt px.toInt py.toInt)) (nr_u0 (hs q (by omega) (by omega)) (hs (q + 1) (by omega) (by omega)) hpx hpy hT0) ?_
    refine lv_lstore (lv' := [(17, .long (jI (nrU (S0 q).toInt (S0 (q + 1)).toInt (S0 (q + 2)).toInt (S0 (q + 3)).toInt px.toInt py.toInt))), (19, .long 1), (15, .long (jI (nrT (S0 q).toInt (S0 (q + 1)).toInt (S0 (q + 2)).toInt (S0 (q + 3)).toInt px.toInt py.toInt))), (13, .long (jI (nrL (S0 q).toInt (S0 (q + 1)).toInt (S0 (q + 2)).toInt (S0 (q + 3)).toInt))), (11, .long ((py - (S0 (q + 1))).toInt64)), (9, .long ((px - (S0 q)).toInt64)), (7, .long (((S0 (q + 3)) - (S0 (q + 1))).toInt64)), (5, .long (((S0 (q + 2)) - (S0 q)).toInt64)), (0, .ref k0), (1, .ref (a 32)), (2, .int px), (3, .int py), (4, .int (nI q))]) hx hb dX11_nearer_104 hl (Nat.le_of_ble_eq_true rfl) rfl (fun ls hl => ?_)
    refine lv_goto (tgt := 169) hx hb dX11_nearer_106 rfl ?_
    refine lv_aload_n hx hb dX11_nearer_169 rfl (lv_at hl 8 rfl) ?_
    refine va_get (D := (dC, dI)) (ci := 9) (v := .long (jI d)) (C := RX11) (T := TX11) (N := 55) hx hb hts inX11 hown hK hP 0 rfl rfl 49 (Nat.le_of_ble_eq_true rfl) (hts _ mw_1208) (fun _ h9 => h9) rfl dX11_nearer_170 ?_
    refine lv_lconst (v := 0) hx hb dX11_nearer_173 rfl ?_
    refine W.lcmp hx hb dX11_nearer_174 ?_
    refine lv_if_eq (tgt := 197) hx hb dX11_nearer_175 rfl (fun c_6 => ?_) (fun c_6 => ?_)
    · have c_6 : d = 0 := zl_eq (jI_toInt (by omega)) rfl c_6
      refine lv_aload_n hx hb dX11_nearer_197 rfl (lv_at hl 8 rfl) ?_
      refine lv_lload hx hb dX11_nearer_198 (lv_at hl 0 rfl) ?_
      refine va_put (D := (dC, dI)) (ci := 9) (v := .long (jI (nrU (S0 q).toInt (S0 (q + 1)).toInt (S0 (q + 2)).toInt (S0 (q + 3)).toInt px.toInt py.toInt))) (ty := .long) (C := RX11) (T := TX11) (N := 55) hx hb hts inX11 tyX11 tyX11_ok nmX11 hown hK hP hD hS 0 rfl rfl 48 (by decide) (hts _ mw_1207) (fun _ h9 => h9) rfl (by decide +kernel) rfl rfl (Nat.le_of_ble_eq_true rfl) dX11_nearer_200 (fun H locs hP hD hS => ?_)
      obtain ⟨hP, hD⟩ := zre (W2 := [(om k0 a I0 (vp_updL (vp_updL J0 48 (jI (nrU (S0 q).toInt (S0 (q + 1)).toInt (S0 (q + 2)).toInt (S0 (q + 3)).toInt px.toInt py.toInt))) 49 (jI d))), _]) hP hD rfl
      refine lv_aload_n hx hb dX11_nearer_203 rfl (lv_at hl 8 rfl) ?_
      refine lv_lload hx hb dX11_nearer_204 (lv_at hl 1 rfl) ?_
      refine zz_l (v := jI (nrD (S0 q).toInt (S0 (q + 1)).toInt (S0 (q + 2)).toInt (S0 (q + 3)).toInt px.toInt py.toInt)) (by first | (rw [nrD_0 hT0]; exact jI_1) | (rw [nrD_1 (by omega) (by omega)]; exact jI_1) | (rw [nrD_2 (by omega) (by omega)])) ?_
      refine va_put (D := (dC, dI)) (ci := 9) (v := .long (jI (nrD (S0 q).toInt (S0 (q + 1)).toInt (S0 (q + 2)).toInt (S0 (q + 3)).toInt px.toInt py.toInt))) (ty := .long) (C := RX11) (T := TX11) (N := 55) hx hb hts inX11 tyX11 tyX11_ok nmX11 hown hK hP hD hS 0 rfl rfl 49 (by decide) (hts _ mw_1208) (fun _ h9 => h9) rfl (by decide +kernel) rfl rfl (Nat.le_of_ble_eq_true rfl) dX11_nearer_206 (fun H locs hP hD hS => ?_)
      obtain ⟨hP, hD⟩ := zre (W2 := [(om k0 a I0 (vp_updL (vp_updL J0 48 (jI (nrU (S0 q).toInt (S0 (q + 1)).toInt (S0 (q + 2)).toInt (S0 (q + 3)).toInt px.toInt py.toInt))) 49 (jI (nrD (S0 q).toInt (S0 (q + 1)).toInt (S0 (q + 2)).toInt (S0 (q + 3)).toInt px.toInt py.toInt)))), _]) hP hD rfl
      obtain ⟨hP9, hD9⟩ := zu_sub (wc := [_, _]) hP hD [true, true] rfl rfl
      rw [hQ9]
      exact W.vret hx hb hr (fun t ht hW => ⟨⟨rfl, (nrU (S0 q).toInt (S0 (q + 1)).toInt (S0 (q + 2)).toInt (S0 (q + 3)).toInt px.toInt py.toInt), (nrD (S0 q).toInt (S0 (q + 1)).toInt (S0 (q + 2)).toInt (S0 (q + 3)).toInt px.toInt py.toInt), (by unfold ndP; first | exact Or.inl ⟨Or.inl (by omega), rfl, rfl⟩ | exact Or.inl ⟨Or.inr (by first | with_reducible assumption | assumption), rfl, rfl⟩ | exact Or.inr ⟨fun h => h.elim (by omega) (by first | with_reducible assumption | assumption), rfl, rfl⟩), by rw [ht]; exact hP9, hD9⟩, hS.F ht⟩) hS.2.2 dX11_nearer_209
    · have c_6 : ¬ d = 0 := zl_ne (jI_toInt (by omega)) rfl c_6
      refine lv_aload_n hx hb dX11_nearer_178 rfl (lv_at hl 8 rfl) ?_
      refine lv_lload hx hb dX11_nearer_179 (lv_at hl 0 rfl) ?_
      refine lv_lload hx hb dX11_nearer_181 (lv_at hl 1 rfl) ?_
      refine zz_l (v := jI (nrD (S0 q).toInt (S0 (q + 1)).toInt (S0 (q + 2)).toInt (S0 (q + 3)).toInt px.toInt py.toInt)) (by first | (rw [nrD_0 hT0]; exact jI_1) | (rw [nrD_1 (by omega) (by omega)]; exact jI_1) | (rw [nrD_2 (by omega) (by omega)])) ?_
      refine lv_aload_n hx hb dX11_nearer_183 rfl (lv_at hl 8 rfl) ?_
      refine va_get (D := (dC, dI)) (ci := 9) (v := .long (jI u)) (C := RX11) (T := TX11) (N := 55) hx hb hts inX11 hown hK hP 0 rfl rfl 48 (Nat.le_of_ble_eq_true rfl) (hts _ mw_1207) (fun _ h9 => h9) rfl dX11_nearer_184 ?_
      refine lv_aload_n hx hb dX11_nearer_187 rfl (lv_at hl 8 rfl) ?_
      refine va_get (D := (dC, dI)) (ci := 9) (v := .long (jI d)) (C := RX11) (T := TX11) (N := 55) hx hb hts inX11 hown hK hP 0 rfl rfl 49 (Nat.le_of_ble_eq_true rfl) (hts _ mw_1208) (fun _ h9 => h9) rfl dX11_nearer_188 ?_
      obtain ⟨hPc, hDc, hFc, hI1⟩ := zi_sub (wc := [_]) hP hD hS hA [0] rfl rfl
      refine zcall (st1 := [.int (pI ((nrU (S0 q).toInt (S0 (q + 1)).toInt (S0 (q + 2)).toInt (S0 (q + 3)).toInt px.toInt py.toInt) * d < u * (nrD (S0 q).toInt (S0 (q + 1)).toInt (S0 (q + 2)).toInt (S0 (q + 3)).toInt px.toInt py.toInt)))]) (va_runV (As := [.long (jI (nrU (S0 q).toInt (S0 (q + 1)).toInt (S0 (q + 2)).toInt (S0 (q + 3)).toInt px.toInt py.toInt)), .long (jI (nrD (S0 q).toInt (S0 (q + 1)).toInt (S0 (q + 2)).toInt (S0 (q + 3)).toInt px.toInt py.toInt)), .long (jI u), .long (jI d)]) (rest := []) ⟨hx, hb, hml, hown, hts⟩ (k_M_isLess l dC dI cI cZ cF s.heap.size k0 a I0 (vp_updL (vp_updL J0 48 (jI u)) 49 (jI d)) (nrU (S0 q).toInt (S0 (q + 1)).toInt (S0 (q + 2)).toInt (S0 (q + 3)).toInt px.toInt py.toInt) (nrD (S0 q).toInt (S0 (q + 1)).toInt (S0 (q + 2)).toInt (S0 (q + 3)).toInt px.toInt py.toInt) u d (prN hUb.1 hd9) (prN hu9 ⟨by omega, hUb.2.2⟩) (by first | with_reducible assumption | omega) (by first | with_reducible assumption | omega) (by first | with_reducible assumption | omega) (by first | with_reducible assumption | omega)) (csV_217 hts rfl rfl ⟨Nat.le_of_ble_eq_true rfl, Nat.le_of_ble_eq_true rfl⟩) (zPV2 (q0 := 0) (ci := 9) hPc hDc hK hXN rfl rfl) rfl rfl hl.1 rfl (lv_room (Nat.le_of_ble_eq_true rfl)) dX11_nearer_191 ⟨Nat.le_of_ble_eq_true rfl, Nat.le_of_ble_eq_true rfl⟩) hS hFc hFc rfl (fun t H locs ht hB hk1 hS => ?_)
      obtain ⟨hP1, hD1⟩ := hB
      rw [ht] at hP1
      replace hP := z0 hP hD hk1 hP1 hI1
      clear hk1 hPc hDc hFc hP1 hD1 ht hI1
      refine lv_if_eq (tgt := 209) hx hb dX11_nearer_194 rfl (fun c_7 => ?_) (fun c_7 => ?_)
      · have c_7 : ¬ ((nrU (S0 q).toInt (S0 (q + 1)).toInt (S0 (q + 2)).toInt (S0 (q + 3)).toInt px.toInt py.toInt) * d < u * (nrD (S0 q).toInt (S0 (q + 1)).toInt (S0 (q + 2)).toInt (S0 (q + 3)).toInt px.toInt py.toInt)) := zp_0 c_7
        obtain ⟨hP9, hD9⟩ := zu_sub (wc := [_, _]) hP hD [true, true] rfl rfl
        rw [hQ9]
        exact W.vret hx hb hr (fun t ht hW => ⟨⟨rfl, u, d, (by unfold ndP; first | exact Or.inl ⟨Or.inl (by omega), rfl, rfl⟩ | exact Or.inl ⟨Or.inr (by first | with_reducible assumption | assumption), rfl, rfl⟩ | exact Or.inr ⟨fun h => h.elim (by omega) (by first | with_reducible assumption | assumption), rfl, rfl⟩), by rw [ht]; exact hP9, hD9⟩, hS.F ht⟩) hS.2.2 dX11_nearer_209
      · have c_7 : (nrU (S0 q).toInt (S0 (q + 1)).toInt (S0 (q + 2)).toInt (S0 (q + 3)).toInt px.toInt py.toInt) * d < u * (nrD (S0 q).toInt (S0 (q + 1)).toInt (S0 (q + 2)).toInt (S0 (q + 3)).toInt px.toInt py.toInt) := zp_1 c_7
        refine lv_aload_n hx hb dX11_nearer_197 rfl (lv_at hl 8 rfl) ?_
        refine lv_lload hx hb dX11_nearer_198 (lv_at hl 0 rfl) ?_
        refine va_put (D := (dC, dI)) (ci := 9) (v := .long (jI (nrU (S0 q).toInt (S0 (q + 1)).toInt (S0 (q + 2)).toInt (S0 (q + 3)).toInt px.toInt py.toInt))) (ty := .long) (C := RX11) (T := TX11) (N := 55) hx hb hts inX11 tyX11 tyX11_ok nmX11 hown hK hP hD hS 0 rfl rfl 48 (by decide) (hts _ mw_1207) (fun _ h9 => h9) rfl (by decide +kernel) rfl rfl (Nat.le_of_ble_eq_true rfl) dX11_nearer_200 (fun H locs hP hD hS => ?_)
        obtain ⟨hP, hD⟩ := zre (W2 := [(om k0 a I0 (vp_updL (vp_updL J0 48 (jI (nrU (S0 q).toInt (S0 (q + 1)).toInt (S0 (q + 2)).toInt (S0 (q + 3)).toInt px.toInt py.toInt))) 49 (jI d))), _]) hP hD rfl
        refine lv_aload_n hx hb dX11_nearer_203 rfl (lv_at hl 8 rfl) ?_
        refine lv_lload hx hb dX11_nearer_204 (lv_at hl 1 rfl) ?_
        refine zz_l (v := jI (nrD (S0 q).toInt (S0 (q + 1)).toInt (S0 (q + 2)).toInt (S0 (q + 3)).toInt px.toInt py.toInt)) (by first | (rw [nrD_0 hT0]; exact jI_1) | (rw [nrD_1 (by omega) (by omega)]; exact jI_1) | (rw [nrD_2 (by omega) (by omega)])) ?_
        refine va_put (D := (dC, dI)) (ci := 9) (v := .long (jI (nrD (S0 q).toInt (S0 (q + 1)).toInt (S0 (q + 2)).toInt (S0 (q + 3)).toInt px.toInt py.toInt))) (ty := .long) (C := RX11) (T := TX11) (N := 55) hx hb hts inX11 tyX11 tyX11_ok nmX11 hown hK hP hD hS 0 rfl rfl 49 (by decide) (hts _ mw_1208) (fun _ h9 => h9) rfl (by decide +kernel) rfl rfl (Nat.le_of_ble_eq_true rfl) dX11_nearer_206 (fun H locs hP hD hS => ?_)
        obtain ⟨hP, hD⟩ := zre (W2 := [(om k0 a I0 (vp_updL (vp_updL J0 48 (jI (nrU (S0 q).toInt (S0 (q + 1)).toInt (S0 (q + 2)).toInt (S0 (q + 3)).toInt px.toInt py.toInt))) 49 (jI (nrD (S0 q).toInt (S0 (q + 1)).toInt (S0 (q + 2)).toInt (S0 (q + 3)).toInt px.toInt py.toInt)))), _]) hP hD rfl
        obtain ⟨hP9, hD9⟩ := zu_sub (wc := [_, _]) hP hD [true, true] rfl rfl
        rw [hQ9]
        exact W.vret hx hb hr (fun t ht hW => ⟨⟨rfl, (nrU (S0 q).toInt (S0 (q + 1)).toInt (S0 (q + 2)).toInt (S0 (q + 3)).toInt px.toInt py.toInt), (nrD (S0 q).toInt (S0 (q + 1)).toInt (S0 (q + 2)).toInt (S0 (q + 3)).toInt px.toInt py.toInt), (by unfold ndP; first | exact Or.inl ⟨Or.inl (by omega), rfl, rfl⟩ | exact Or.inl ⟨Or.inr (by first | with_reducible assumption | assumption), rfl, rfl⟩ | exact Or.inr ⟨fun h => h.elim (by omega) (by first | with_reducible assumption | assumption), rfl, rfl⟩), by rw [ht]; exact hP9, hD9⟩, hS.F ht⟩) hS.2.2 dX11_nearer_209
  · have c_5 : ¬ (nrL (S0 q).toInt (S0 (q + 1)).toInt (S0 (q + 2)).toInt (S0 (q + 3)).toInt) = 0 := zl_ne (jI_toInt (by omega)) rfl c_5
    refine lv_lload hx hb dX11_nearer_86 (lv_at hl 1 rfl) ?_
    refine lv_lconst (v := 0) hx hb dX11_nearer_88 rfl ?_
    refine W.lcmp hx hb dX11_nearer_89 ?_
    refine lv_if_gt (tgt := 109) hx hb dX11_nearer_90 rfl (fun c_8 => ?_) (fun c_8 => ?_)
    · have c_8 : 0 < (nrT (S0 q).toInt (S0 (q + 1)).toInt (S0 (q + 2)).toInt (S0 (q + 3)).toInt px.toInt py.toInt) := zl_gt (jI_toInt (by omega)) rfl c_8
      refine lv_lload hx hb dX11_nearer_109 (lv_at hl 1 rfl) ?_
      refine lv_lload hx hb dX11_nearer_111 (lv_at hl 2 rfl) ?_
      refine W.lcmp hx hb dX11_nearer_113 ?_
      refine lv_if_lt (tgt := 145) hx hb dX11_nearer_114 rfl (fun c_9 => ?_) (fun c_9 => ?_)
      · have c_9 : (nrT (S0 q).toInt (S0 (q + 1)).toInt (S0 (q + 2)).toInt (S0 (q + 3)).toInt px.toInt py.toInt) < (nrL (S0 q).toInt (S0 (q + 1)).toInt (S0 (q + 2)).toInt (S0 (q + 3)).toInt) := zl_lt (jI_toInt (by omega)) (jI_toInt (by omega)) c_9
        refine lv_lload hx hb dX11_nearer_145 (lv_at hl 6 rfl) ?_
        refine lv_lload hx hb dX11_nearer_147 (lv_at hl 3 rfl) ?_
        refine lv_lmul hx hb dX11_nearer_149 ?_
        refine lv_lload hx hb dX11_nearer_150 (lv_at hl 5 rfl) ?_
        refine lv_lload hx hb dX11_nearer_152 (lv_at hl 4 rfl) ?_
        refine lv_lmul hx hb dX11_nearer_154 ?_
        refine lv_lsub hx hb dX11_nearer_155 ?_
        refine lv_lstore (lv' := [(21, .long (((((S0 (q + 2)) - (S0 q)).toInt64) * ((py - (S0 (q + 1))).toInt64)) - ((((S0 (q + 3)) - (S0 (q + 1))).toInt64) * ((px - (S0 q)).toInt64)))), (19, .long 1), (15, .long (jI (nrT (S0 q).toInt (S0 (q + 1)).toInt (S0 (q + 2)).toInt (S0 (q + 3)).toInt px.toInt py.toInt))), (13, .long (jI (nrL (S0 q).toInt (S0 (q + 1)).toInt (S0 (q + 2)).toInt (S0 (q + 3)).toInt))), (11, .long ((py - (S0 (q + 1))).toInt64)), (9, .long ((px - (S0 q)).toInt64)), (7, .long (((S0 (q + 3)) - (S0 (q + 1))).toInt64)), (5, .long (((S0 (q + 2)) - (S0 q)).toInt64)), (0, .ref k0), (1, .ref (a 32)), (2, .int px), (3, .int py), (4, .int (nI q))]) hx hb dX11_nearer_156 hl (Nat.le_of_ble_eq_true rfl) rfl (fun ls hl => ?_)
        refine lv_lload hx hb dX11_nearer_158 (lv_at hl 0 rfl) ?_
        refine lv_lload hx hb dX11_nearer_160 (lv_at hl 0 rfl) ?_
        refine lv_lmul hx hb dX11_nearer_162 ?_
        refine zz_l (v := jI (nrU (S0 q).toInt (S0 (q + 1)).toInt (S0 (q + 2)).toInt (S0 (q + 3)).toInt px.toInt py.toInt)) (nr_u2 (hs q (by omega) (by omega)) (hs (q + 1) (by omega) (by omega)) (hs (q + 2) (by omega) (by omega)) (hs (q + 3) (by omega) (by omega)) hpx hpy (by omega) (by omega)) ?_
        refine lv_lstore (lv' := [(17, .long (jI (nrU (S0 q).toInt (S0 (q + 1)).toInt (S0 (q + 2)).toInt (S0 (q + 3)).toInt px.toInt py.toInt))), (21, .long (((((S0 (q + 2)) - (S0 q)).toInt64) * ((py - (S0 (q + 1))).toInt64)) - ((((S0 (q + 3)) - (S0 (q + 1))).toInt64) * ((px - (S0 q)).toInt64)))), (19, .long 1), (15, .long (jI (nrT (S0 q).toInt (S0 (q + 1)).toInt (S0 (q + 2)).toInt (S0 (q + 3)).toInt px.toInt py.toInt))), (13, .long (jI (nrL (S0 q).toInt (S0 (q + 1)).toInt (S0 (q + 2)).toInt (S0 (q + 3)).toInt))), (11, .long ((py - (S0 (q + 1))).toInt64)), (9, .long ((px - (S0 q)).toInt64)), (7, .long (((S0 (q + 3)) - (S0 (q + 1))).toInt64)), (5, .long (((S0 (q + 2)) - (S0 q)).toInt64)), (0, .ref k0), (1, .ref (a 32)), (2, .int px), (3, .int py), (4, .int (nI q))]) hx hb dX11_nearer_163 hl (Nat.le_of_ble_eq_true rfl) rfl (fun ls hl => ?_)
        refine lv_lload hx hb dX11_nearer_165 (lv_at hl 4 rfl) ?_
        refine lv_lstore (lv' := [(19, .long (jI (nrL (S0 q).toInt (S0 (q + 1)).toInt (S0 (q + 2)).toInt (S0 (q + 3)).toInt))), (17, .long (jI (nrU (S0 q).toInt (S0 (q + 1)).toInt (S0 (q + 2)).toInt (S0 (q + 3)).toInt px.toInt py.toInt))), (21, .long (((((S0 (q + 2)) - (S0 q)).toInt64) * ((py - (S0 (q + 1))).toInt64)) - ((((S0 (q + 3)) - (S0 (q + 1))).toInt64) * ((px - (S0 q)).toInt64)))), (15, .long (jI (nrT (S0 q).toInt (S0 (q + 1)).toInt (S0 (q + 2)).toInt (S0 (q + 3)).toInt px.toInt py.toInt))), (13, .long (jI (nrL (S0 q).toInt (S0 (q + 1)).toInt (S0 (q + 2)).toInt (S0 (q + 3)).toInt))), (11, .long ((py - (S0 (q + 1))).toInt64)), (9, .long ((px - (S0 q)).toInt64)), (7, .long (((S0 (q + 3)) - (S0 (q + 1))).toInt64)), (5, .long (((S0 (q + 2)) - (S0 q)).toInt64)), (0, .ref k0), (1, .ref (a 32)), (2, .int px), (3, .int py), (4, .int (nI q))]) hx hb dX11_nearer_167 hl (Nat.le_of_ble_eq_true rfl) rfl (fun ls hl => ?_)
        refine lv_aload_n hx hb dX11_nearer_169 rfl (lv_at hl 9 rfl) ?_
        refine va_get (D := (dC, dI)) (ci := 9) (v := .long (jI d)) (C := RX11) (T := TX11) (N := 55) hx hb hts inX11 hown hK hP 0 rfl rfl 49 (Nat.le_of_ble_eq_true rfl) (hts _ mw_1208) (fun _ h9 => h9) rfl dX11_nearer_170 ?_
        refine lv_lconst (v := 0) hx hb dX11_nearer_173 rfl ?_
        refine W.lcmp hx hb dX11_nearer_174 ?_
        refine lv_if_eq (tgt := 197) hx hb dX11_nearer_175 rfl (fun c_10 => ?_) (fun c_10 => ?_)
        · have c_10 : d = 0 := zl_eq (jI_toInt (by omega)) rfl c_10
          refine lv_aload_n hx hb dX11_nearer_197 rfl (lv_at hl 9 rfl) ?_
          refine lv_lload hx hb dX11_nearer_198 (lv_at hl 1 rfl) ?_
          refine va_put (D := (dC, dI)) (ci := 9) (v := .long (jI (nrU (S0 q).toInt (S0 (q + 1)).toInt (S0 (q + 2)).toInt (S0 (q + 3)).toInt px.toInt py.toInt))) (ty := .long) (C := RX11) (T := TX11) (N := 55) hx hb hts inX11 tyX11 tyX11_ok nmX11 hown hK hP hD hS 0 rfl rfl 48 (by decide) (hts _ mw_1207) (fun _ h9 => h9) rfl (by decide +kernel) rfl rfl (Nat.le_of_ble_eq_true rfl) dX11_nearer_200 (fun H locs hP hD hS => ?_)
          obtain ⟨hP, hD⟩ := zre (W2 := [(om k0 a I0 (vp_updL (vp_updL J0 48 (jI (nrU (S0 q).toInt (S0 (q + 1)).toInt (S0 (q + 2)).toInt (S0 (q + 3)).toInt px.toInt py.toInt))) 49 (jI d))), _]) hP hD rfl
          refine lv_aload_n hx hb dX11_nearer_203 rfl (lv_at hl 9 rfl) ?_
          refine lv_lload hx hb dX11_nearer_204 (lv_at hl 0 rfl) ?_
          refine zz_l (v := jI (nrD (S0 q).toInt (S0 (q + 1)).toInt (S0 (q + 2)).toInt (S0 (q + 3)).toInt px.toInt py.toInt)) (by first | (rw [nrD_0 hT0]; exact jI_1) | (rw [nrD_1 (by omega) (by omega)]; exact jI_1) | (rw [nrD_2 (by omega) (by omega)])) ?_
          refine va_put (D := (dC, dI)) (ci := 9) (v := .long (jI (nrD (S0 q).toInt (S0 (q + 1)).toInt (S0 (q + 2)).toInt (S0 (q + 3)).toInt px.toInt py.toInt))) (ty := .long) (C := RX11) (T := TX11) (N := 55) hx hb hts inX11 tyX11 tyX11_ok nmX11 hown hK hP hD hS 0 rfl rfl 49 (by decide) (hts _ mw_1208) (fun _ h9 => h9) rfl (by decide +kernel) rfl rfl (Nat.le_of_ble_eq_true rfl) dX11_nearer_206 (fun H locs hP hD hS => ?_)
          obtain ⟨hP, hD⟩ := zre (W2 := [(om k0 a I0 (vp_updL (vp_updL J0 48 (jI (nrU (S0 q).toInt (S0 (q + 1)).toInt (S0 (q + 2)).toInt (S0 (q + 3)).toInt px.toInt py.toInt))) 49 (jI (nrD (S0 q).toInt (S0 (q + 1)).toInt (S0 (q + 2)).toInt (S0 (q + 3)).toInt px.toInt py.toInt)))), _]) hP hD rfl
          obtain ⟨hP9, hD9⟩ := zu_sub (wc := [_, _]) hP hD [true, true] rfl rfl
          rw [hQ9]
          exact W.vret hx hb hr (fun t ht hW => ⟨⟨rfl, (nrU (S0 q).toInt (S0 (q + 1)).toInt (S0 (q + 2)).toInt (S0 (q + 3)).toInt px.toInt py.toInt), (nrD (S0 q).toInt (S0 (q + 1)).toInt (S0 (q + 2)).toInt (S0 (q + 3)).toInt px.toInt py.toInt), (by unfold ndP; first | exact Or.inl ⟨Or.inl (by omega), rfl, rfl⟩ | exact Or.inl ⟨Or.inr (by first | with_reducible assumption | assumption), rfl, rfl⟩ | exact Or.inr ⟨fun h => h.elim (by omega) (by first | with_reducible assumption | assumption), rfl, rfl⟩), by rw [ht]; exact hP9, hD9⟩, hS.F ht⟩) hS.2.2 dX11_nearer_209
        · have c_10 : ¬ d = 0 := zl_ne (jI_toInt (by omega)) rfl c_10
          refine lv_aload_n hx hb dX11_nearer_178 rfl (lv_at hl 9 rfl) ?_
          refine lv_lload hx hb dX11_nearer_179 (lv_at hl 1 rfl) ?_
          refine lv_lload hx hb dX11_nearer_181 (lv_at hl 0 rfl) ?_
          refine zz_l (v := jI (nrD (S0 q).toInt (S0 (q + 1)).toInt (S0 (q + 2)).toInt (S0 (q + 3)).toInt px.toInt py.toInt)) (by first | (rw [nrD_0 hT0]; exact jI_1) | (rw [nrD_1 (by omega) (by omega)]; exact jI_1) | (rw [nrD_2 (by omega) (by omega)])) ?_
          refine lv_aload_n hx hb dX11_nearer_183 rfl (lv_at hl 9 rfl) ?_
          refine va_get (D := (dC, dI)) (ci := 9) (v := .long (jI u)) (C := RX11) (T := TX11) (N := 55) hx hb hts inX11 hown hK hP 0 rfl rfl 48 (Nat.le_of_ble_eq_true rfl) (hts _ mw_1207) (fun _ h9 => h9) rfl dX11_nearer_184 ?_
          refine lv_aload_n hx hb dX11_nearer_187 rfl (lv_at hl 9 rfl) ?_
          refine va_get (D := (dC, dI)) (ci := 9) (v := .long (jI d)) (C := RX11) (T := TX11) (N := 55) hx hb hts inX11 hown hK hP 0 rfl rfl 49 (Nat.le_of_ble_eq_true rfl) (hts _ mw_1208) (fun _ h9 => h9) rfl dX11_nearer_188 ?_
          obtain ⟨hPc, hDc, hFc, hI1⟩ := zi_sub (wc := [_]) hP hD hS hA [0] rfl rfl
          refine zcall (st1 := [.int (pI ((nrU (S0 q).toInt (S0 (q + 1)).toInt (S0 (q + 2)).toInt (S0 (q + 3)).toInt px.toInt py.toInt) * d < u * (nrD (S0 q).toInt (S0 (q + 1)).toInt (S0 (q + 2)).toInt (S0 (q + 3)).toInt px.toInt py.toInt)))]) (va_runV (As := [.long (jI (nrU (S0 q).toInt (S0 (q + 1)).toInt (S0 (q + 2)).toInt (S0 (q + 3)).toInt px.toInt py.toInt)), .long (jI (nrD (S0 q).toInt (S0 (q + 1)).toInt (S0 (q + 2)).toInt (S0 (q + 3)).toInt px.toInt py.toInt)), .long (jI u), .long (jI d)]) (rest := []) ⟨hx, hb, hml, hown, hts⟩ (k_M_isLess l dC dI cI cZ cF s.heap.size k0 a I0 (vp_updL (vp_updL J0 48 (jI u)) 49 (jI d)) (nrU (S0 q).toInt (S0 (q + 1)).toInt (S0 (q + 2)).toInt (S0 (q + 3)).toInt px.toInt py.toInt) (nrD (S0 q).toInt (S0 (q + 1)).toInt (S0 (q + 2)).toInt (S0 (q + 3)).toInt px.toInt py.toInt) u d (prN hUb.1 hd9) (prN hu9 ⟨by omega, hUb.2.2⟩) (by first | with_reducible assumption | omega) (by first | with_reducible assumption | omega) (by first | with_reducible assumption | omega) (by first | with_reducible assumption | omega)) (csV_217 hts rfl rfl ⟨Nat.le_of_ble_eq_true rfl, Nat.le_of_ble_eq_true rfl⟩) (zPV2 (q0 := 0) (ci := 9) hPc hDc hK hXN rfl rfl) rfl rfl hl.1 rfl (lv_room (Nat.le_of_ble_eq_true rfl)) dX11_nearer_191 ⟨Nat.le_of_ble_eq_true rfl, Nat.le_of_ble_eq_true rfl⟩) hS hFc hFc rfl (fun t H locs ht hB hk1 hS => ?_)
          obtain ⟨hP1, hD1⟩ := hB
          rw [ht] at hP1
          replace hP := z0 hP hD hk1 hP1 hI1
          clear hk1 hPc hDc hFc hP1 hD1 ht hI1
          refine lv_if_eq (tgt := 209) hx hb dX11_nearer_194 rfl (fun c_11 => ?_) (fun c_11 => ?_)
          · have c_11 : ¬ ((nrU (S0 q).toInt (S0 (q + 1)).toInt (S0 (q + 2)).toInt (S0 (q + 3)).toInt px.toInt py.toInt) * d < u * (nrD (S0 q).toInt (S0 (q + 1)).toInt (S0 (q + 2)).toInt (S0 (q + 3)).toInt px.toInt py.toInt)) := zp_0 c_11
            obtain ⟨hP9, hD9⟩ := zu_sub (wc := [_, _]) hP hD [true, true] rfl rfl
            rw [hQ9]
            exact W.vret hx hb hr (fun t ht hW => ⟨⟨rfl, u, d, (by unfold ndP; first | exact Or.inl ⟨Or.inl (by omega), rfl, rfl⟩ | exact Or.inl ⟨Or.inr (by first | with_reducible assumption | assumption), rfl, rfl⟩ | exact Or.inr ⟨fun h => h.elim (by omega) (by first | with_reducible assumption | assumption), rfl, rfl⟩), by rw [ht]; exact hP9, hD9⟩, hS.F ht⟩) hS.2.2 dX11_nearer_209
          · have c_11 : (nrU (S0 q).toInt (S0 (q + 1)).toInt (S0 (q + 2)).toInt (S0 (q + 3)).toInt px.toInt py.toInt) * d < u * (nrD (S0 q).toInt (S0 (q + 1)).toInt (S0 (q + 2)).toInt (S0 (q + 3)).toInt px.toInt py.toInt) := zp_1 c_11
            refine lv_aload_n hx hb dX11_nearer_197 rfl (lv_at hl 9 rfl) ?_
            refine lv_lload hx hb dX11_nearer_198 (lv_at hl 1 rfl) ?_
            refine va_put (D := (dC, dI)) (ci := 9) (v := .long (jI (nrU (S0 q).toInt (S0 (q + 1)).toInt (S0 (q + 2)).toInt (S0 (q + 3)).toInt px.toInt py.toInt))) (ty := .long) (C := RX11) (T := TX11) (N := 55) hx hb hts inX11 tyX11 tyX11_ok nmX11 hown hK hP hD hS 0 rfl rfl 48 (by decide) (hts _ mw_1207) (fun _ h9 => h9) rfl (by decide +kernel) rfl rfl (Nat.le_of_ble_eq_true rfl) dX11_nearer_200 (fun H locs hP hD hS => ?_)
            obtain ⟨hP, hD⟩ := zre (W2 := [(om k0 a I0 (vp_updL (vp_updL J0 48 (jI (nrU (S0 q).toInt (S0 (q + 1)).toInt (S0 (q + 2)).toInt (S0 (q + 3)).toInt px.toInt py.toInt))) 49 (jI d))), _]) hP hD rfl
            refine lv_aload_n hx hb dX11_nearer_203 rfl (lv_at hl 9 rfl) ?_
            refine lv_lload hx hb dX11_nearer_204 (lv_at hl 0 rfl) ?_
            refine zz_l (v := jI (nrD (S0 q).toInt (S0 (q + 1)).toInt (S0 (q + 2)).toInt (S0 (q + 3)).toInt px.toInt py.toInt)) (by first | (rw [nrD_0 hT0]; exact jI_1) | (rw [nrD_1 (by omega) (by omega)]; exact jI_1) | (rw [nrD_2 (by omega) (by omega)])) ?_
            refine va_put (D := (dC, dI)) (ci := 9) (v := .long (jI (nrD (S0 q).toInt (S0 (q + 1)).toInt (S0 (q + 2)).toInt (S0 (q + 3)).toInt px.toInt py.toInt))) (ty := .long) (C := RX11) (T := TX11) (N := 55) hx hb hts inX11 tyX11 tyX11_ok nmX11 hown hK hP hD hS 0 rfl rfl 49 (by decide) (hts _ mw_1208) (fun _ h9 => h9) rfl (by decide +kernel) rfl rfl (Nat.le_of_ble_eq_true rfl) dX11_nearer_206 (fun H locs hP hD hS => ?_)
            obtain ⟨hP, hD⟩ := zre (W2 := [(om k0 a I0 (vp_updL (vp_updL J0 48 (jI (nrU (S0 q).toInt (S0 (q + 1)).toInt (S0 (q + 2)).toInt (S0 (q + 3)).toInt px.toInt py.toInt))) 49 (jI (nrD (S0 q).toInt (S0 (q + 1)).toInt (S0 (q + 2)).toInt (S0 (q + 3)).toInt px.toInt py.toInt)))), _]) hP hD rfl
            obtain ⟨hP9, hD9⟩ := zu_sub (wc := [_, _]) hP hD [true, true] rfl rfl
            rw [hQ9]
            exact W.vret hx hb hr (fun t ht hW => ⟨⟨rfl, (nrU (S0 q).toInt (S0 (q + 1)).toInt (S0 (q + 2)).toInt (S0 (q + 3)).toInt px.toInt py.toInt), (nrD (S0 q).toInt (S0 (q + 1)).toInt (S0 (q + 2)).toInt (S0 (q + 3)).toInt px.toInt py.toInt), (by unfold ndP; first | exact Or.inl ⟨Or.inl (by omega), rfl, rfl⟩ | exact Or.inl ⟨Or.inr (by first | with_reducible assumption | assumption), rfl, rfl⟩ | exact Or.inr ⟨fun h => h.elim (by omega) (by first | with_reducible assumption | assumption), rfl, rfl⟩), by rw [ht]; exact hP9, hD9⟩, hS.F ht⟩) hS.2.2 dX11_nearer_209
      · have c_9 : (nrL (S0 q).toInt (S0 (q + 1)).toInt (S0 (q + 2)).toInt (S0 (q + 3)).toInt) ≤ (nrT (S0 q).toInt (S0 (q + 1)).toInt (S0 (q + 2)).toInt (S0 (q + 3)).toInt px.toInt py.toInt) := zl_nlt (jI_toInt (by omega)) (jI_toInt (by omega)) c_9
        refine lv_lload hx hb dX11_nearer_117 (lv_at hl 4 rfl) ?_
        refine lv_lload hx hb dX11_nearer_119 (lv_at hl 6 rfl) ?_
        refine lv_lsub hx hb dX11_nearer_121 ?_
        refine lv_lload hx hb dX11_nearer_122 (lv_at hl 4 rfl) ?_
        refine lv_lload hx hb dX11_nearer_124 (lv_at hl 6 rfl) ?_
        refine lv_lsub hx hb dX11_nearer_126 ?_
        refine lv_lmul hx hb dX11_nearer_127 ?_
        refine lv_lload hx hb dX11_nearer_128 (lv_at hl 3 rfl) ?_
        refine lv_lload hx hb dX11_nearer_130 (lv_at hl 5 rfl) ?_
        refine lv_lsub hx hb dX11_nearer_132 ?_
        refine lv_lload hx hb dX11_nearer_133 (lv_at hl 3 rfl) ?_
        refine lv_lload hx hb dX11_nearer_135 (lv_at hl 5 rfl) ?_
        refine lv_lsub hx hb dX11_nearer_137 ?_
        refine lv_lmul hx hb dX11_nearer_138 ?_
        refine lv_ladd hx hb dX11_nearer_139 ?_
        refine zz_l (v := jI (nrU (S0 q).toInt (S0 (q + 1)).toInt (S0 (q + 2)).toInt (S0 (q + 3)).toInt px.toInt py.toInt)) (nr_u1 (hs q (by omega) (by omega)) (hs (q + 1) (by omega) (by omega)) (hs (q + 2) (by omega) (by omega)) (hs (q + 3) (by omega) (by omega)) hpx hpy (by omega) (by omega)) ?_
        refine lv_lstore (lv' := [(17, .long (jI (nrU (S0 q).toInt (S0 (q + 1)).toInt (S0 (q + 2)).toInt (S0 (q + 3)).toInt px.toInt py.toInt))), (19, .long 1), (15, .long (jI (nrT (S0 q).toInt (S0 (q + 1)).toInt (S0 (q + 2)).toInt (S0 (q + 3)).toInt px.toInt py.toInt))), (13, .long (jI (nrL (S0 q).toInt (S0 (q + 1)).toInt (S0 (q + 2)).toInt (S0 (q + 3)).toInt))), (11, .long ((py - (S0 (q + 1))).toInt64)), (9, .long ((px - (S0 q)).toInt64)), (7, .long (((S0 (q + 3)) - (S0 (q + 1))).toInt64)), (5, .long (((S0 (q + 2)) - (S0 q)).toInt64)), (0, .ref k0), (1, .ref (a 32)), (2, .int px), (3, .int py), (4, .int (nI q))]) hx hb dX11_nearer_140 hl (Nat.le_of_ble_eq_true rfl) rfl (fun ls hl => ?_)
        refine lv_goto (tgt := 169) hx hb dX11_nearer_142 rfl ?_
        refine lv_aload_n hx hb dX11_nearer_169 rfl (lv_at hl 8 rfl) ?_
        refine va_get (D := (dC, dI)) (ci := 9) (v := .long (jI d)) (C := RX11) (T := TX11) (N := 55) hx hb hts inX11 hown hK hP 0 rfl rfl 49 (Nat.le_of_ble_eq_true rfl) (hts _ mw_1208) (fun _ h9 => h9) rfl dX11_nearer_170 ?_
        refine lv_lconst (v := 0) hx hb dX11_nearer_173 rfl ?_
        refine W.lcmp hx hb dX11_nearer_174 ?_
        refine lv_if_eq (tgt := 197) hx hb dX11_nearer_175 rfl (fun c_12 => ?_) (fun c_12 => ?_)
        · have c_12 : d = 0 := zl_eq (jI_toInt (by omega)) rfl c_12
          refine lv_aload_n hx hb dX11_nearer_197 rfl (lv_at hl 8 rfl) ?_
          refine lv_lload hx hb dX11_nearer_198 (lv_at hl 0 rfl) ?_
          refine va_put (D := (dC, dI)) (ci := 9) (v := .long (jI (nrU (S0 q).toInt (S0 (q + 1)).toInt (S0 (q + 2)).toInt (S0 (q + 3)).toInt px.toInt py.toInt))) (ty := .long) (C := RX11) (T := TX11) (N := 55) hx hb hts inX11 tyX11 tyX11_ok nmX11 hown hK hP hD hS 0 rfl rfl 48 (by decide) (hts _ mw_1207) (fun _ h9 => h9) rfl (by decide +kernel) rfl rfl (Nat.le_of_ble_eq_true rfl) dX11_nearer_200 (fun H locs hP hD hS => ?_)
          obtain ⟨hP, hD⟩ := zre (W2 := [(om k0 a I0 (vp_updL (vp_updL J0 48 (jI (nrU (S0 q).toInt (S0 (q + 1)).toInt (S0 (q + 2)).toInt (S0 (q + 3)).toInt px.toInt py.toInt))) 49 (jI d))), _]) hP hD rfl
          refine lv_aload_n hx hb dX11_nearer_203 rfl (lv_at hl 8 rfl) ?_
          refine lv_lload hx hb dX11_nearer_204 (lv_at hl 1 rfl) ?_
          refine zz_l (v := jI (nrD (S0 q).toInt (S0 (q + 1)).toInt (S0 (q + 2)).toInt (S0 (q + 3)).toInt px.toInt py.toInt)) (by first | (rw [nrD_0 hT0]; exact jI_1) | (rw [nrD_1 (by omega) (by omega)]; exact jI_1) | (rw [nrD_2 (by omega) (by omega)])) ?_
          refine va_put (D := (dC, dI)) (ci := 9) (v := .long (jI (nrD (S0 q).toInt (S0 (q + 1)).toInt (S0 (q + 2)).toInt (S0 (q + 3)).toInt px.toInt py.toInt))) (ty := .long) (C := RX11) (T := TX11) (N := 55) hx hb hts inX11 tyX11 tyX11_ok nmX11 hown hK hP hD hS 0 rfl rfl 49 (by decide) (hts _ mw_1208) (fun _ h9 => h9) rfl (by decide +kernel) rfl rfl (Nat.le_of_ble_eq_true rfl) dX11_nearer_206 (fun H locs hP hD hS => ?_)
          obtain ⟨hP, hD⟩ := zre (W2 := [(om k0 a I0 (vp_updL (vp_updL J0 48 (jI (nrU (S0 q).toInt (S0 (q + 1)).toInt (S0 (q + 2)).toInt (S0 (q + 3)).toInt px.toInt py.toInt))) 49 (jI (nrD (S0 q).toInt (S0 (q + 1)).toInt (S0 (q + 2)).toInt (S0 (q + 3)).toInt px.toInt py.toInt)))), _]) hP hD rfl
          obtain ⟨hP9, hD9⟩ := zu_sub (wc := [_, _]) hP hD [true, true] rfl rfl
          rw [hQ9]
          exact W.vret hx hb hr (fun t ht hW => ⟨⟨rfl, (nrU (S0 q).toInt (S0 (q + 1)).toInt (S0 (q + 2)).toInt (S0 (q + 3)).toInt px.toInt py.toInt), (nrD (S0 q).toInt (S0 (q + 1)).toInt (S0 (q + 2)).toInt (S0 (q + 3)).toInt px.toInt py.toInt), (by unfold ndP; first | exact Or.inl ⟨Or.inl (by omega), rfl, rfl⟩ | exact Or.inl ⟨Or.inr (by first | with_reducible assumption | assumption), rfl, rfl⟩ | exact Or.inr ⟨fun h => h.elim (by omega) (by first | with_reducible assumption | assumption), rfl, rfl⟩), by rw [ht]; exact hP9, hD9⟩, hS.F ht⟩) hS.2.2 dX11_nearer_209
        · have c_12 : ¬ d = 0 := zl_ne (jI_toInt (by omega)) rfl c_12
          refine lv_aload_n hx hb dX11_nearer_178 rfl (lv_at hl 8 rfl) ?_
          refine lv_lload hx hb dX11_nearer_179 (lv_at hl 0 rfl) ?_
          refine lv_lload hx hb dX11_nearer_181 (lv_at hl 1 rfl) ?_
          refine zz_l (v := jI (nrD (S0 q).toInt (S0 (q + 1)).toInt (S0 (q + 2)).toInt (S0 (q + 3)).toInt px.toInt py.toInt)) (by first | (rw [nrD_0 hT0]; exact jI_1) | (rw [nrD_1 (by omega) (by omega)]; exact jI_1) | (rw [nrD_2 (by omega) (by omega)])) ?_
          refine lv_aload_n hx hb dX11_nearer_183 rfl (lv_at hl 8 rfl) ?_
          refine va_get (D := (dC, dI)) (ci := 9) (v := .long (jI u)) (C := RX11) (T := TX11) (N := 55) hx hb hts inX11 hown hK hP 0 rfl rfl 48 (Nat.le_of_ble_eq_true rfl) (hts _ mw_1207) (fun _ h9 => h9) rfl dX11_nearer_184 ?_
          refine lv_aload_n hx hb dX11_nearer_187 rfl (lv_at hl 8 rfl) ?_
          refine va_get (D := (dC, dI)) (ci := 9) (v := .long (jI d)) (C := RX11) (T := TX11) (N := 55) hx hb hts inX11 hown hK hP 0 rfl rfl 49 (Nat.le_of_ble_eq_true rfl) (hts _ mw_1208) (fun _ h9 => h9) rfl dX11_nearer_188 ?_
          obtain ⟨hPc, hDc, hFc, hI1⟩ := zi_sub (wc := [_]) hP hD hS hA [0] rfl rfl
          refine zcall (st1 := [.int (pI ((nrU (S0 q).toInt (S0 (q + 1)).toInt (S0 (q + 2)).toInt (S0 (q + 3)).toInt px.toInt py.toInt) * d < u * (nrD (S0 q).toInt (S0 (q + 1)).toInt (S0 (q + 2)).toInt (S0 (q + 3)).toInt px.toInt py.toInt)))]) (va_runV (As := [.long (jI (nrU (S0 q).toInt (S0 (q + 1)).toInt (S0 (q + 2)).toInt (S0 (q + 3)).toInt px.toInt py.toInt)), .long (jI (nrD (S0 q).toInt (S0 (q + 1)).toInt (S0 (q + 2)).toInt (S0 (q + 3)).toInt px.toInt py.toInt)), .long (jI u), .long (jI d)]) (rest := []) ⟨hx, hb, hml, hown, hts⟩ (k_M_isLess l dC dI cI cZ cF s.heap.size k0 a I0 (vp_updL (vp_updL J0 48 (jI u)) 49 (jI d)) (nrU (S0 q).toInt (S0 (q + 1)).toInt (S0 (q + 2)).toInt (S0 (q + 3)).toInt px.toInt py.toInt) (nrD (S0 q).toInt (S0 (q + 1)).toInt (S0 (q + 2)).toInt (S0 (q + 3)).toInt px.toInt py.toInt) u d (prN hUb.1 hd9) (prN hu9 ⟨by omega, hUb.2.2⟩) (by first | with_reducible assumption | omega) (by first | with_reducible assumption | omega) (by first | with_reducible assumption | omega) (by first | with_reducible assumption | omega)) (csV_217 hts rfl rfl ⟨Nat.le_of_ble_eq_true rfl, Nat.le_of_ble_eq_true rfl⟩) (zPV2 (q0 := 0) (ci := 9) hPc hDc hK hXN rfl rfl) rfl rfl hl.1 rfl (lv_room (Nat.le_of_ble_eq_true rfl)) dX11_nearer_191 ⟨Nat.le_of_ble_eq_true rfl, Nat.le_of_ble_eq_true rfl⟩) hS hFc hFc rfl (fun t H locs ht hB hk1 hS => ?_)
          obtain ⟨hP1, hD1⟩ := hB
          rw [ht] at hP1
          replace hP := z0 hP hD hk1 hP1 hI1
          clear hk1 hPc hDc hFc hP1 hD1 ht hI1
          refine lv_if_eq (tgt := 209) hx hb dX11_nearer_194 rfl (fun c_13 => ?_) (fun c_13 => ?_)
          · have c_13 : ¬ ((nrU (S0 q).toInt (S0 (q + 1)).toInt (S0 (q + 2)).toInt (S0 (q + 3)).toInt px.toInt py.toInt) * d < u * (nrD (S0 q).toInt (S0 (q + 1)).toInt (S0 (q + 2)).toInt (S0 (q + 3)).toInt px.toInt py.toInt)) := zp_0 c_13
            obtain ⟨hP9, hD9⟩ := zu_sub (wc := [_, _]) hP hD [true, true] rfl rfl
            rw [hQ9]
            exact W.vret hx hb hr (fun t ht hW => ⟨⟨rfl, u, d, (by unfold ndP; first | exact Or.inl ⟨Or.inl (by omega), rfl, rfl⟩ | exact Or.inl ⟨Or.inr (by first | with_reducible assumption | assumption), rfl, rfl⟩ | exact Or.inr ⟨fun h => h.elim (by omega) (by first | with_reducible assumption | assumption), rfl, rfl⟩), by rw [ht]; exact hP9, hD9⟩, hS.F ht⟩) hS.2.2 dX11_nearer_209
          · have c_13 : (nrU (S0 q).toInt (S0 (q + 1)).toInt (S0 (q + 2)).toInt (S0 (q + 3)).toInt px.toInt py.toInt) * d < u * (nrD (S0 q).toInt (S0 (q + 1)).toInt (S0 (q + 2)).toInt (S0 (q + 3)).toInt px.toInt py.toInt) := zp_1 c_13
            refine lv_aload_n hx hb dX11_nearer_197 rfl (lv_at hl 8 rfl) ?_
            refine lv_lload hx hb dX11_nearer_198 (lv_at hl 0 rfl) ?_
            refine va_put (D := (dC, dI)) (ci := 9) (v := .long (jI (nrU (S0 q).toInt (S0 (q + 1)).toInt (S0 (q + 2)).toInt (S0 (q + 3)).toInt px.toInt py.toInt))) (ty := .long) (C := RX11) (T := TX11) (N := 55) hx hb hts inX11 tyX11 tyX11_ok nmX11 hown hK hP hD hS 0 rfl rfl 48 (by decide) (hts _ mw_1207) (fun _ h9 => h9) rfl (by decide +kernel) rfl rfl (Nat.le_of_ble_eq_true rfl) dX11_nearer_200 (fun H locs hP hD hS => ?_)
            obtain ⟨hP, hD⟩ := zre (W2 := [(om k0 a I0 (vp_updL (vp_updL J0 48 (jI (nrU (S0 q).toInt (S0 (q + 1)).toInt (S0 (q + 2)).toInt (S0 (q + 3)).toInt px.toInt py.toInt))) 49 (jI d))), _]) hP hD rfl
            refine lv_aload_n hx hb dX11_nearer_203 rfl (lv_at hl 8 rfl) ?_
            refine lv_lload hx hb dX11_nearer_204 (lv_at hl 1 rfl) ?_
            refine zz_l (v := jI (nrD (S0 q).toInt (S0 (q + 1)).toInt (S0 (q + 2)).toInt (S0 (q + 3)).toInt px.toInt py.toInt)) (by first | (rw [nrD_0 hT0]; exact jI_1) | (rw [nrD_1 (by omega) (by omega)]; exact jI_1) | (rw [nrD_2 (by omega) (by omega)])) ?_
            refine va_put (D := (dC, dI)) (ci := 9) (v := .long (jI (nrD (S0 q).toInt (S0 (q + 1)).toInt (S0 (q + 2)).toInt (S0 (q + 3)).toInt px.toInt py.toInt))) (ty := .long) (C := RX11) (T := TX11) (N := 55) hx hb hts inX11 tyX11 tyX11_ok nmX11 hown hK hP hD hS 0 rfl rfl 49 (by decide) (hts _ mw_1208) (fun _ h9 => h9) rfl (by decide +kernel) rfl rfl (Nat.le_of_ble_eq_true rfl) dX11_nearer_206 (fun H locs hP hD hS => ?_)
            obtain ⟨hP, hD⟩ := zre (W2 := [(om k0 a I0 (vp_updL (vp_updL J0 48 (jI (nrU (S0 q).toInt (S0 (q + 1)).toInt (S0 (q + 2)).toInt (S0 (q + 3)).toInt px.toInt py.toInt))) 49 (jI (nrD (S0 q).toInt (S0 (q + 1)).toInt (S0 (q + 2)).toInt (S0 (q + 3)).toInt px.toInt py.toInt)))), _]) hP hD rfl
            obtain ⟨hP9, hD9⟩ := zu_sub (wc := [_, _]) hP hD [true, true] rfl rfl
            rw [hQ9]
            exact W.vret hx hb hr (fun t ht hW => ⟨⟨rfl, (nrU (S0 q).toInt (S0 (q + 1)).toInt (S0 (q + 2)).toInt (S0 (q + 3)).toInt px.toInt py.toInt), (nrD (S0 q).toInt (S0 (q + 1)).toInt (S0 (q + 2)).toInt (S0 (q + 3)).toInt px.toInt py.toInt), (by unfold ndP; first | exact Or.inl ⟨Or.inl (by omega), rfl, rfl⟩ | exact Or.inl ⟨Or.inr (by first | with_reducible assumption | assumption), rfl, rfl⟩ | exact Or.inr ⟨fun h => h.elim (by omega) (by first | with_reducible assumption | assumption), rfl, rfl⟩), by rw [ht]; exact hP9, hD9⟩, hS.F ht⟩) hS.2.2 dX11_nearer_209
    · have c_8 : (nrT (S0 q).toInt (S0 (q + 1)).toInt (S0 (q + 2)).toInt (S0 (q + 3)).toInt px.toInt py.toInt) ≤ 0 := zl_ngt (jI_toInt (by omega)) rfl c_8
      have hT0 : nrT (S0 q).toInt (S0 (q + 1)).toInt (S0 (q + 2)).toInt (S0 (q + 3)).toInt px.toInt py.toInt ≤ 0 := (by first | omega | (have h9 := nrT_0 (x := px.toInt) (y := py.toInt) (show nrL (S0 q).toInt (S0 (q + 1)).toInt (S0 (q + 2)).toInt (S0 (q + 3)).toInt = 0 by assumption); omega))
      refine lv_lload hx hb dX11_nearer_93 (lv_at hl 4 rfl) ?_
      refine lv_lload hx hb dX11_nearer_95 (lv_at hl 4 rfl) ?_
      refine lv_lmul hx hb dX11_nearer_97 ?_
      refine lv_lload hx hb dX11_nearer_98 (lv_at hl 3 rfl) ?_
      refine lv_lload hx hb dX11_nearer_100 (lv_at hl 3 rfl) ?_
      refine lv_lmul hx hb dX11_nearer_102 ?_
      refine lv_ladd hx hb dX11_nearer_103 ?_
      refine zz_l (v := jI (nrU (S0 q).toInt (S0 (q + 1)).toInt (S0 (q + 2)).toInt (S0 (q + 3)).toInt px.toInt py.toInt)) (nr_u0 (hs q (by omega) (by omega)) (hs (q + 1) (by omega) (by omega)) hpx hpy hT0) ?_
      refine lv_lstore (lv' := [(17, .long (jI (nrU (S0 q).toInt (S0 (q + 1)).toInt (S0 (q + 2)).toInt (S0 (q + 3)).toInt px.toInt py.toInt))), (19, .long 1), (15, .long (jI (nrT (S0 q).toInt (S0 (q + 1)).toInt (S0 (q + 2)).toInt (S0 (q + 3)).toInt px.toInt py.toInt))), (13, .long (jI (nrL (S0 q).toInt (S0 (q + 1)).toInt (S0 (q + 2)).toInt (S0 (q + 3)).toInt))), (11, .long ((py - (S0 (q + 1))).toInt64)), (9, .long ((px - (S0 q)).toInt64)), (7, .long (((S0 (q + 3)) - (S0 (q + 1))).toInt64)), (5, .long (((S0 (q + 2)) - (S0 q)).toInt64)), (0, .ref k0), (1, .ref (a 32)), (2, .int px), (3, .int py), (4, .int (nI q))]) hx hb dX11_nearer_104 hl (Nat.le_of_ble_eq_true rfl) rfl (fun ls hl => ?_)
      refine lv_goto (tgt := 169) hx hb dX11_nearer_106 rfl ?_
      refine lv_aload_n hx hb dX11_nearer_169 rfl (lv_at hl 8 rfl) ?_
      refine va_get (D := (dC, dI)) (ci := 9) (v := .long (jI d)) (C := RX11) (T := TX11) (N := 55) hx hb hts inX11 hown hK hP 0 rfl rfl 49 (Nat.le_of_ble_eq_true rfl) (hts _ mw_1208) (fun _ h9 => h9) rfl dX11_nearer_170 ?_
      refine lv_lconst (v := 0) hx hb dX11_nearer_173 rfl ?_
      refine W.lcmp hx hb dX11_nearer_174 ?_
      refine lv_if_eq (tgt := 197) hx hb dX11_nearer_175 rfl (fun c_14 => ?_) (fun c_14 => ?_)
      · have c_14 : d = 0 := zl_eq (jI_toInt (by omega)) rfl c_14
        refine lv_aload_n hx hb dX11_nearer_197 rfl (lv_at hl 8 rfl) ?_
        refine lv_lload hx hb dX11_nearer_198 (lv_at hl 0 rfl) ?_
        refine va_put (D := (dC, dI)) (ci := 9) (v := .long (jI (nrU (S0 q).toInt (S0 (q + 1)).toInt (S0 (q + 2)).toInt (S0 (q + 3)).toInt px.toInt py.toInt))) (ty := .long) (C := RX11) (T := TX11) (N := 55) hx hb hts inX11 tyX11 tyX11_ok nmX11 hown hK hP hD hS 0 rfl rfl 48 (by decide) (hts _ mw_1207) (fun _ h9 => h9) rfl (by decide +kernel) rfl rfl (Nat.le_of_ble_eq_true rfl) dX11_nearer_200 (fun H locs hP hD hS => ?_)
        obtain ⟨hP, hD⟩ := zre (W2 := [(om k0 a I0 (vp_updL (vp_updL J0 48 (jI (nrU (S0 q).toInt (S0 (q + 1)).toInt (S0 (q + 2)).toInt (S0 (q + 3)).toInt px.toInt py.toInt))) 49 (jI d))), _]) hP hD rfl
        refine lv_aload_n hx hb dX11_nearer_203 rfl (lv_at hl 8 rfl) ?_
        refine lv_lload hx hb dX11_nearer_204 (lv_at hl 1 rfl) ?_
        refine zz_l (v := jI (nrD (S0 q).toInt (S0 (q + 1)).toInt (S0 (q + 2)).toInt (S0 (q + 3)).toInt px.toInt py.toInt)) (by first | (rw [nrD_0 hT0]; exact jI_1) | (rw [nrD_1 (by omega) (by omega)]; exact jI_1) | (rw [nrD_2 (by omega) (by omega)])) ?_
        refine va_put (D := (dC, dI)) (ci := 9) (v := .long (jI (nrD (S0 q).toInt (S0 (q + 1)).toInt (S0 (q + 2)).toInt (S0 (q + 3)).toInt px.toInt py.toInt))) (ty := .long) (C := RX11) (T := TX11) (N := 55) hx hb hts inX11 tyX11 tyX11_ok nmX11 hown hK hP hD hS 0 rfl rfl 49 (by decide) (hts _ mw_1208) (fun _ h9 => h9) rfl (by decide +kernel) rfl rfl (Nat.le_of_ble_eq_true rfl) dX11_nearer_206 (fun H locs hP hD hS => ?_)
        obtain ⟨hP, hD⟩ := zre (W2 := [(om k0 a I0 (vp_updL (vp_updL J0 48 (jI (nrU (S0 q).toInt (S0 (q + 1)).toInt (S0 (q + 2)).toInt (S0 (q + 3)).toInt px.toInt py.toInt))) 49 (jI (nrD (S0 q).toInt (S0 (q + 1)).toInt (S0 (q + 2)).toInt (S0 (q + 3)).toInt px.toInt py.toInt)))), _]) hP hD rfl
        obtain ⟨hP9, hD9⟩ := zu_sub (wc := [_, _]) hP hD [true, true] rfl rfl
        rw [hQ9]
        exact W.vret hx hb hr (fun t ht hW => ⟨⟨rfl, (nrU (S0 q).toInt (S0 (q + 1)).toInt (S0 (q + 2)).toInt (S0 (q + 3)).toInt px.toInt py.toInt), (nrD (S0 q).toInt (S0 (q + 1)).toInt (S0 (q + 2)).toInt (S0 (q + 3)).toInt px.toInt py.toInt), (by unfold ndP; first | exact Or.inl ⟨Or.inl (by omega), rfl, rfl⟩ | exact Or.inl ⟨Or.inr (by first | with_reducible assumption | assumption), rfl, rfl⟩ | exact Or.inr ⟨fun h => h.elim (by omega) (by first | with_reducible assumption | assumption), rfl, rfl⟩), by rw [ht]; exact hP9, hD9⟩, hS.F ht⟩) hS.2.2 dX11_nearer_209
      · have c_14 : ¬ d = 0 := zl_ne (jI_toInt (by omega)) rfl c_14
        refine lv_aload_n hx hb dX11_nearer_178 rfl (lv_at hl 8 rfl) ?_
        refine lv_lload hx hb dX11_nearer_179 (lv_at hl 0 rfl) ?_
        refine lv_lload hx hb dX11_nearer_181 (lv_at hl 1 rfl) ?_
        refine zz_l (v := jI (nrD (S0 q).toInt (S0 (q + 1)).toInt (S0 (q + 2)).toInt (S0 (q + 3)).toInt px.toInt py.toInt)) (by first | (rw [nrD_0 hT0]; exact jI_1) | (rw [nrD_1 (by omega) (by omega)]; exact jI_1) | (rw [nrD_2 (by omega) (by omega)])) ?_
        refine lv_aload_n hx hb dX11_nearer_183 rfl (lv_at hl 8 rfl) ?_
        refine va_get (D := (dC, dI)) (ci := 9) (v := .long (jI u)) (C := RX11) (T := TX11) (N := 55) hx hb hts inX11 hown hK hP 0 rfl rfl 48 (Nat.le_of_ble_eq_true rfl) (hts _ mw_1207) (fun _ h9 => h9) rfl dX11_nearer_184 ?_
        refine lv_aload_n hx hb dX11_nearer_187 rfl (lv_at hl 8 rfl) ?_
        refine va_get (D := (dC, dI)) (ci := 9) (v := .long (jI d)) (C := RX11) (T := TX11) (N := 55) hx hb hts inX11 hown hK hP 0 rfl rfl 49 (Nat.le_of_ble_eq_true rfl) (hts _ mw_1208) (fun _ h9 => h9) rfl dX11_nearer_188 ?_
        obtain ⟨hPc, hDc, hFc, hI1⟩ := zi_sub (wc := [_]) hP hD hS hA [0] rfl rfl
        refine zcall (st1 := [.int (pI ((nrU (S0 q).toInt (S0 (q + 1)).toInt (S0 (q + 2)).toInt (S0 (q + 3)).toInt px.toInt py.toInt) * d < u * (nrD (S0 q).toInt (S0 (q + 1)).toInt (S0 (q + 2)).toInt (S0 (q + 3)).toInt px.toInt py.toInt)))]) (va_runV (As := [.long (jI (nrU (S0 q).toInt (S0 (q + 1)).toInt (S0 (q + 2)).toInt (S0 (q + 3)).toInt px.toInt py.toInt)), .long (jI (nrD (S0 q).toInt (S0 (q + 1)).toInt (S0 (q + 2)).toInt (S0 (q + 3)).toInt px.toInt py.toInt)), .long (jI u), .long (jI d)]) (rest := []) ⟨hx, hb, hml, hown, hts⟩ (k_M_isLess l dC dI cI cZ cF s.heap.size k0 a I0 (vp_updL (vp_updL J0 48 (jI u)) 49 (jI d)) (nrU (S0 q).toInt (S0 (q + 1)).toInt (S0 (q + 2)).toInt (S0 (q + 3)).toInt px.toInt py.toInt) (nrD (S0 q).toInt (S0 (q + 1)).toInt (S0 (q + 2)).toInt (S0 (q + 3)).toInt px.toInt py.toInt) u d (prN hUb.1 hd9) (prN hu9 ⟨by omega, hUb.2.2⟩) (by first | with_reducible assumption | omega) (by first | with_reducible assumption | omega) (by first | with_reducible assumption | omega) (by first | with_reducible assumption | omega)) (csV_217 hts rfl rfl ⟨Nat.le_of_ble_eq_true rfl, Nat.le_of_ble_eq_true rfl⟩) (zPV2 (q0 := 0) (ci := 9) hPc hDc hK hXN rfl rfl) rfl rfl hl.1 rfl (lv_room (Nat.le_of_ble_eq_true rfl)) dX11_nearer_191 ⟨Nat.le_of_ble_eq_true rfl, Nat.le_of_ble_eq_true rfl⟩) hS hFc hFc rfl (fun t H locs ht hB hk1 hS => ?_)
        obtain ⟨hP1, hD1⟩ := hB
        rw [ht] at hP1
        replace hP := z0 hP hD hk1 hP1 hI1
        clear hk1 hPc hDc hFc hP1 hD1 ht hI1
        refine lv_if_eq (tgt := 209) hx hb dX11_nearer_194 rfl (fun c_15 => ?_) (fun c_15 => ?_)
        · have c_15 : ¬ ((nrU (S0 q).toInt (S0 (q + 1)).toInt (S0 (q + 2)).toInt (S0 (q + 3)).toInt px.toInt py.toInt) * d < u * (nrD (S0 q).toInt (S0 (q + 1)).toInt (S0 (q + 2)).toInt (S0 (q + 3)).toInt px.toInt py.toInt)) := zp_0 c_15
          obtain ⟨hP9, hD9⟩ := zu_sub (wc := [_, _]) hP hD [true, true] rfl rfl
          rw [hQ9]
          exact W.vret hx hb hr (fun t ht hW => ⟨⟨rfl, u, d, (by unfold ndP; first | exact Or.inl ⟨Or.inl (by omega), rfl, rfl⟩ | exact Or.inl ⟨Or.inr (by first | with_reducible assumption | assumption), rfl, rfl⟩ | exact Or.inr ⟨fun h => h.elim (by omega) (by first | with_reducible assumption | assumption), rfl, rfl⟩), by rw [ht]; exact hP9, hD9⟩, hS.F ht⟩) hS.2.2 dX11_nearer_209
        · have c_15 : (nrU (S0 q).toInt (S0 (q + 1)).toInt (S0 (q + 2)).toInt (S0 (q + 3)).toInt px.toInt py.toInt) * d < u * (nrD (S0 q).toInt (S0 (q + 1)).toInt (S0 (q + 2)).toInt (S0 (q + 3)).toInt px.toInt py.toInt) := zp_1 c_15
          refine lv_aload_n hx hb dX11_nearer_197 rfl (lv_at hl 8 rfl) ?_
          refine lv_lload hx hb dX11_nearer_198 (lv_at hl 0 rfl) ?_
          refine va_put (D := (dC, dI)) (ci := 9) (v := .long (jI (nrU (S0 q).toInt (S0 (q + 1)).toInt (S0 (q + 2)).toInt (S0 (q + 3)).toInt px.toInt py.toInt))) (ty := .long) (C := RX11) (T := TX11) (N := 55) hx hb hts inX11 tyX11 tyX11_ok nmX11 hown hK hP hD hS 0 rfl rfl 48 (by decide) (hts _ mw_1207) (fun _ h9 => h9) rfl (by decide +kernel) rfl rfl (Nat.le_of_ble_eq_true rfl) dX11_nearer_200 (fun H locs hP hD hS => ?_)
          obtain ⟨hP, hD⟩ := zre (W2 := [(om k0 a I0 (vp_updL (vp_updL J0 48 (jI (nrU (S0 q).toInt (S0 (q + 1)).toInt (S0 (q + 2)).toInt (S0 (q + 3)).toInt px.toInt py.toInt))) 49 (jI d))), _]) hP hD rfl
          refine lv_aload_n hx hb dX11_nearer_203 rfl (lv_at hl 8 rfl) ?_
          refine lv_lload hx hb dX11_nearer_204 (lv_at hl 1 rfl) ?_
          refine zz_l (v := jI (nrD (S0 q).toInt (S0 (q + 1)).toInt (S0 (q + 2)).toInt (S0 (q + 3)).toInt px.toInt py.toInt)) (by first | (rw [nrD_0 hT0]; exact jI_1) | (rw [nrD_1 (by omega) (by omega)]; exact jI_1) | (rw [nrD_2 (by omega) (by omega)])) ?_
          refine va_put (D := (dC, dI)) (ci := 9) (v := .long (jI (nrD (S0 q).toInt (S0 (q + 1)).toInt (S0 (q + 2)).toInt (S0 (q + 3)).toInt px.toInt py.toInt))) (ty := .long) (C := RX11) (T := TX11) (N := 55) hx hb hts inX11 tyX11 tyX11_ok nmX11 hown hK hP hD hS 0 rfl rfl 49 (by decide) (hts _ mw_1208) (fun _ h9 => h9) rfl (by decide +kernel) rfl rfl (Nat.le_of_ble_eq_true rfl) dX11_nearer_206 (fun H locs hP hD hS => ?_)
          obtain ⟨hP, hD⟩ := zre (W2 := [(om k0 a I0 (vp_updL (vp_updL J0 48 (jI (nrU (S0 q).toInt (S0 (q + 1)).toInt (S0 (q + 2)).toInt (S0 (q + 3)).toInt px.toInt py.toInt))) 49 (jI (nrD (S0 q).toInt (S0 (q + 1)).toInt (S0 (q + 2)).toInt (S0 (q + 3)).toInt px.toInt py.toInt)))), _]) hP hD rfl
          obtain ⟨hP9, hD9⟩ := zu_sub (wc := [_, _]) hP hD [true, true] rfl rfl
          rw [hQ9]
          exact W.vret hx hb hr (fun t ht hW => ⟨⟨rfl, (nrU (S0 q).toInt (S0 (q + 1)).toInt (S0 (q + 2)).toInt (S0 (q + 3)).toInt px.toInt py.toInt), (nrD (S0 q).toInt (S0 (q + 1)).toInt (S0 (q + 2)).toInt (S0 (q + 3)).toInt px.toInt py.toInt), (by unfold ndP; first | exact Or.inl ⟨Or.inl (by omega), rfl, rfl⟩ | exact Or.inl ⟨Or.inr (by first | with_reducible assumption | assumption), rfl, rfl⟩ | exact Or.inr ⟨fun h => h.elim (by omega) (by first | with_reducible assumption | assumption), rfl, rfl⟩), by rw [ht]; exact hP9, hD9⟩, hS.F ht⟩) hS.2.2 dX11_nearer_209
set_option maxHeartbeats 4000000 in
set_option maxRecDepth 100000 in
theorem k_M_far_x (l : Launch) (dC : Nat → ClassId) (dI : Nat → Nat → Nat) (cI cZ cF : ClassId) (sz : Nat) (k0 : Nat) (a : Nat → Nat) (I0 : Nat → Int32) (J0 : Nat → Int64) (ft : Nat) (v : Int32) (w : Int32) (hft : I0 0 = nI ft) (h200 : ft ≤ 200) (hv : ¬ (0 ≤ v.toInt ∧ v.toInt < (ft : Int))) : zM l yX11_far cX11_far 9 (some .long) ({ frames := 2, cells := 0, slots := 0, locals := 42 } : Room) [.ref k0, .int v, .int w] (dC, dI) (zTy cI cZ cF) [(om k0 a I0 J0)] sz (some (.long (-1))) (fun A t => zPD (dC, dI) classes A [(om k0 a I0 J0)] t.heap) 0 0 := by
  refine zIn (own := "ScaleShopModel") (loc := [(0, .ref k0), (1, .int v), (2, .int w)]) rfl rfl rfl rfl (fun p e s m below meth c hx hb hr hts hown hlocks hml hnm9 A hA hS hP hD hK hXN Q9 hQ9 ls hl => ?_)
  refine lv_aload_n hx hb dX11_far_0 rfl (lv_at hl 0 rfl) ?_
  refine lv_iload_n hx hb dX11_far_1 rfl (lv_at hl 1 rfl) ?_
  obtain ⟨hPc, hDc, hFc, hI1⟩ := zi_sub (wc := [_]) hP hD hS hA [0] rfl rfl
  refine zcall (st1 := [.int 0]) (va_runV (As := [.int v]) (rest := []) ⟨hx, hb, hml, hown, hts⟩ (k_M_is_x l dC dI cI cZ cF s.heap.size k0 a I0 J0 ft v (by first | with_reducible assumption | assumption) (by first | with_reducible assumption | omega) (by first | with_reducible assumption | assumption)) (csV_179 hts rfl rfl ⟨Nat.le_of_ble_eq_true rfl, Nat.le_of_ble_eq_true rfl⟩) (zPV2 (q0 := 0) (ci := 9) hPc hDc hK hXN rfl rfl) rfl rfl hl.1 rfl (lv_room (Nat.le_of_ble_eq_true rfl)) dX11_far_2 ⟨Nat.le_of_ble_eq_true rfl, Nat.le_of_ble_eq_true rfl⟩) hS hFc hFc rfl (fun t H locs ht hB hk1 hS => ?_)
  obtain ⟨hP1, hD1⟩ := hB
  rw [ht] at hP1
  replace hP := z0 hP hD hk1 hP1 hI1
  clear hk1 hPc hDc hFc hP1 hD1 ht hI1
  refine lv_if_eq (tgt := 17) hx hb dX11_far_5 rfl (fun c_1 => ?_) (fun c_1 => ?_)
  · refine lv_ldc2 hx hb hown (hts _ mw_1620) dX11_far_17 ?_
    obtain ⟨hP9, hD9⟩ := zu_sub (wc := [_]) hP hD [true] rfl rfl
    rw [hQ9]
    exact W.lret (v := (-1)) hx hb hr (fun t ht hW => ⟨⟨rfl, by rw [ht]; exact hP9, hD9⟩, hS.F ht⟩) hS.2.2 dX11_far_20
  · exact absurd (by decide) c_1
set_option maxHeartbeats 4000000 in
set_option maxRecDepth 100000 in
theorem k_M_far_r (l : Launch) (dC : Nat → ClassId) (dI : Nat → Nat → Nat) (cI cZ cF : ClassId) (sz : Nat) (k0 : Nat) (a : Nat → Nat) (I0 : Nat → Int32) (J0 : Nat → Int64) (f : Nat) (ft : Nat) (w : Int32) (st : Nat → Int32) (tn : Nat → Int32) (hft : I0 0 = nI ft) (h200 : ft ≤ 200) (hf_t : f < ft) (hbad : ¬ (lvF ft st tn f ∧ 0 ≤ w.toInt ∧ w.toInt ≤ 1)) : zM l yX11_far cX11_far 9 (some .long) ({ frames := 2, cells := 0, slots := 0, locals := 42 } : Room) [.ref k0, .int (nI f), .int w] (dC, dI) (zTy cI cZ cF) [(om k0 a I0 J0), (oa (a 5) cI 201 st), (oa (a 6) cZ 201 tn)] sz (some (.long (-1))) (fun A t => zPD (dC, dI) classes A [(om k0 a I0 J0), (oa (a 5) cI 201 st), (oa (a 6) cZ 201 tn)] t.heap) 0 0 := by
  refine zIn (own := "ScaleShopModel") (loc := [(0, .ref k0), (1, .int (nI f)), (2, .int w)]) rfl rfl rfl rfl (fun p e s m below meth c hx hb hr hts hown hlocks hml hnm9 A hA hS hP hD hK hXN Q9 hQ9 ls hl => ?_)
  refine lv_aload_n hx hb dX11_far_0 rfl (lv_at hl 0 rfl) ?_
  refine lv_iload_n hx hb dX11_far_1 rfl (lv_at hl 1 rfl) ?_
  obtain ⟨hPc, hDc, hFc, hI1⟩ := zi_sub (wc := [_, _, _]) hP hD hS hA [0, 1, 2] rfl rfl
  refine zcall (st1 := [.int (pI (f < ft ∧ (st f).toInt = 1 ∧ (tn f).toInt = 0))]) (va_runV (As := [.int (nI f)]) (rest := []) ⟨hx, hb, hml, hown, hts⟩ (k_M_is_n l dC dI cI cZ cF s.heap.size k0 a I0 J0 f ft st tn (by first | with_reducible assumption | assumption) (by first | with_reducible assumption | omega) (by first | with_reducible assumption | omega)) (csV_179 hts rfl rfl ⟨Nat.le_of_ble_eq_true rfl, Nat.le_of_ble_eq_true rfl⟩) (zPV2 (q0 := 0) (ci := 9) hPc hDc hK hXN rfl rfl) rfl rfl hl.1 rfl (lv_room (Nat.le_of_ble_eq_true rfl)) dX11_far_2 ⟨Nat.le_of_ble_eq_true rfl, Nat.le_of_ble_eq_true rfl⟩) hS hFc hFc rfl (fun t H locs ht hB hk1 hS => ?_)
  obtain ⟨hP1, hD1⟩ := hB
  rw [ht] at hP1
  replace hP := z0 hP hD hk1 hP1 hI1
  clear hk1 hPc hDc hFc hP1 hD1 ht hI1
  refine lv_if_eq (tgt := 17) hx hb dX11_far_5 rfl (fun c_1 => ?_) (fun c_1 => ?_)
  · have c_1 : ¬ (f < ft ∧ (st f).toInt = 1 ∧ (tn f).toInt = 0) := zp_0 c_1
    refine lv_ldc2 hx hb hown (hts _ mw_1620) dX11_far_17 ?_
    obtain ⟨hP9, hD9⟩ := zu_sub (wc := [_, _, _]) hP hD [true, true, true] rfl rfl
    rw [hQ9]
    exact W.lret (v := (-1)) hx hb hr (fun t ht hW => ⟨⟨rfl, by rw [ht]; exact hP9, hD9⟩, hS.F ht⟩) hS.2.2 dX11_far_20
  · have c_1 : f < ft ∧ (st f).toInt = 1 ∧ (tn f).toInt = 0 := zp_1 c_1
    refine lv_iload_n hx hb dX11_far_8 rfl (lv_at hl 2 rfl) ?_
    refine lv_if_lt (tgt := 17) hx hb dX11_far_9 rfl (fun c_2 => ?_) (fun c_2 => ?_)
    · have c_2 : w.toInt < 0 := zc_lt rfl rfl c_2
      refine lv_ldc2 hx hb hown (hts _ mw_1620) dX11_far_17 ?_
      obtain ⟨hP9, hD9⟩ := zu_sub (wc := [_, _, _]) hP hD [true, true, true] rfl rfl
      rw [hQ9]
      exact W.lret (v := (-1)) hx hb hr (fun t ht hW => ⟨⟨rfl, by rw [ht]; exact hP9, hD9⟩, hS.F ht⟩) hS.2.2 dX11_far_20
    · have c_2 : 0 ≤ w.toInt := zc_nlt rfl rfl c_2
      refine lv_iload_n hx hb dX11_far_12 rfl (lv_at hl 2 rfl) ?_
      refine lv_iconst (v := 1) hx hb dX11_far_13 rfl ?_
      refine lv_icmp_le (tgt := 21) hx hb dX11_far_14 rfl (fun c_3 => ?_) (fun c_3 => ?_)
      · have c_3 : w.toInt ≤ 1 := zc_le rfl rfl c_3
        exact absurd ⟨by assumption, by omega, by omega⟩ hbad
      · have c_3 : 1 < w.toInt := zc_nle rfl rfl c_3
        refine lv_ldc2 hx hb hown (hts _ mw_1620) dX11_far_17 ?_
        obtain ⟨hP9, hD9⟩ := zu_sub (wc := [_, _, _]) hP hD [true, true, true] rfl rfl
        rw [hQ9]
        exact W.lret (v := (-1)) hx hb hr (fun t ht hW => ⟨⟨rfl, by rw [ht]; exact hP9, hD9⟩, hS.F ht⟩) hS.2.2 dX11_far_20
set_option maxHeartbeats 4000000 in
set_option maxRecDepth 100000 in
theorem k_M_far_y0 (l : Launch) (dC : Nat → ClassId) (dI : Nat → Nat → Nat) (cI cZ cF : ClassId) (sz : Nat) (k0 : Nat) (a : Nat → Nat) (I0 : Nat → Int32) (J0 : Nat → Int64) (f : Nat) (ft : Nat) (ln : Nat) (cl : Nat) (dn : Nat) (st : Nat → Int32) (tn : Nat → Int32) (kd : Nat → Int32) (mn : Nat → Int32) (cx : Nat → Int32) (cy : Nat → Int32) (S0 : Nat → Int32) (la : Nat → Int32) (lb : Nat → Int32) (lc : Nat → Int32) (ld : Nat → Int32) (hft : I0 0 = nI ft) (h200 : ft ≤ 200) (hwf : ∀ q, lvF ft st tn q → wfM mn cx cy q) (hln : I0 26 = nI ln) (hlc : ln ≤ 64 * cl) (hcl1 : 1 ≤ cl) (hclm : cl ≤ 1000000) (hf_t : f < ft) (hlv : lvF ft st tn f) (he_f : 1 ≤ eO (kd f).toInt (nN (mn f))) (hpl : ∀ j, j < ln → pl (lb j) ∧ pl (lc j)) (hdn : I0 19 = nI dn) (hdm : dn ≤ 600) : Met l yX11_far (.code yX11_far cX11_far 9 (some .long) :: ws0) ({ frames := 2, cells := 0, slots := 0, locals := 70 } : Room) (va_Pc [.ref k0, .int (nI f), .int 0] (zPre (dC, dI) classes (zTy cI cZ cF) [(om k0 a I0 J0), (oa (a 5) cI 201 st), (oa (a 6) cZ 201 tn), (oa (a 1) cI 201 kd), (oa (a 11) cI 201 mn), (oa (a 12) cI 8040 cx), (oa (a 13) cI 8040 cy), (oa (a 32) cI 8 S0), (oa (a 22) cI (64 * cl) la), (oa (a 23) cI (64 * cl) lb), (oa (a 24) cI (64 * cl) lc), (oa (a 25) cI (64 * cl) ld)] sz zXN)) (zQe (fun v9 t => ∃ (un : Nat), ∃ (dd : Nat), ∃ (u9 : Int64), ∃ (d9 : Int64), ∃ (S1 : Nat → Int32), v9 = (some (.long (jI ((un / Nat.gcd un dd : Nat) : Int)))) ∧ (XM (fxQ (fT la lb lc ld f dn ln) (nN (mn f)) (cF40 cx f) (cF40 cy f) (eO (kd f).toInt (nN (mn f)))) ((un : Nat) : Int) ((dd : Nat) : Int)) ∧ (un ≤ 4000000000000 ∧ 1 ≤ dd ∧ dd ≤ 2000000) ∧ va_P (dC, dI) classes [(om k0 a I0 (vp_updL (vp_updL J0 48 u9) 49 d9)), (oa (a 5) cI 201 st), (oa (a 6) cZ 201 tn), (oa (a 1) cI 201 kd), (oa (a 11) cI 201 mn), (oa (a 12) cI 8040 cx), (oa (a 13) cI 8040 cy), (oa (a 32) cI 8 S1), (oa (a 22) cI (64 * cl) la), (oa (a 23) cI (64 * cl) lb), (oa (a 24) cI (64 * cl) lc), (oa (a 25) cI (64 * cl) ld)] t.heap ∧ va_D (va_A [(om k0 a I0 J0), (oa (a 5) cI 201 st), (oa (a 6) cZ 201 tn), (oa (a 1) cI 201 kd), (oa (a 11) cI 201 mn), (oa (a 12) cI 8040 cx), (oa (a 13) cI 8040 cy), (oa (a 32) cI 8 S0), (oa (a 22) cI (64 * cl) la), (oa (a 23) cI (64 * cl) lb), (oa (a 24) cI (64 * cl) lc), (oa (a 25) cI (64 * cl) ld)] sz) [(om k0 a I0 (vp_updL (vp_updL J0 48 u9) 49 d9)), (oa (a 5) cI 201 st), (oa (a 6) cZ 201 tn), (oa (a 1) cI 201 kd), (oa (a 11) cI 201 mn), (oa (a 12) cI 8040 cx), (oa (a 13) cI 8040 cy), (oa (a 32) cI 8 S1), (oa (a 22) cI (64 * cl) la), (oa (a 23) cI (64 * cl) lb), (oa (a 24) cI (64 * cl) lc), (oa (a 25) cI (64 * cl) ld)]) (va_A [(om k0 a I0 J0), (oa (a 5) cI 201 st), (oa (a 6) cZ 201 tn), (oa (a 1) cI 201 kd), (oa (a 11) cI 201 mn), (oa (a 12) cI 8040 cx), (oa (a 13) cI 8040 cy), (oa (a 32) cI 8 S0), (oa (a 22) cI (64 * cl) la), (oa (a 23) cI (64 * cl) lb), (oa (a 24) cI (64 * cl) lc), (oa (a 25) cI (64 * cl) ld)] sz)) 0 0 (va_A [(om k0 a I0 J0), (oa (a 5) cI 201 st), (oa (a 6) cZ 201 tn), (oa (a 1) cI 201 kd), (oa (a 11) cI 201 mn), (oa (a 12) cI 8040 cx), (oa (a 13) cI 8040 cy), (oa (a 32) cI 8 S0), (oa (a 22) cI (64 * cl) la), (oa (a 23) cI (64 * cl) lb), (oa (a 24) cI (64 * cl) lc), (oa (a 25) cI (64 * cl) ld)] sz) := by
  refine Met.ofW (cc := cX11_far) (maxL := 9) (ret := (some .long)) rfl rfl ?_
  intro p e s m args below meth c s₁ B hml hv
  obtain ⟨rfl, hsz, hP, hK, hD0, hXN⟩ := hv
  have hx := B.exec
  have hb := B.bytes
  have hr := B.returns
  have hts0 := atoms_spec (ws := .code yX11_far cX11_far 9 (some .long) :: ws0) B.pre
  have hts : ∀ w9 ∈ ws0, w9.before ([.ref k0, .int (nI f), .int 0] : List Value).toArray s = true := fun w9 h => hts0 w9 (List.mem_cons_of_mem _ h)
  have hown : s.vm.findClass "ScaleShopModel" = some m.cls := findClass_of_methodNamed B.named
  have hlocks := B.notSynchronized
  subst hsz
  have hD := hD0.self (sz := s.heap.size)
  clear hD0
  generalize hAe : va_A [(om k0 a I0 J0), (oa (a 5) cI 201 st), (oa (a 6) cZ 201 tn), (oa (a 1) cI 201 kd), (oa (a 11) cI 201 mn), (oa (a 12) cI 8040 cx), (oa (a 13) cI 8040 cy), (oa (a 32) cI 8 S0), (oa (a 22) cI (64 * cl) la), (oa (a 23) cI (64 * cl) lb), (oa (a 24) cI (64 * cl) lc), (oa (a 25) cI (64 * cl) ld)] s.heap.size = A at hD ⊢
  have hA : ∀ q : Nat, s.heap.size ≤ q → A q := fun q h => by rw [← hAe]; exact Or.inr h
  clear hAe
  have hS : va_S A s.heap s.heap [] := va_S.rf
  have hP : va_P (dC, dI) classes [(om k0 a I0 J0), (oa (a 5) cI 201 st), (oa (a 6) cZ 201 tn), (oa (a 1) cI 201 kd), (oa (a 11) cI 201 mn), (oa (a 12) cI 8040 cx), (oa (a 13) cI 8040 cy), (oa (a 32) cI 8 S0), (oa (a 22) cI (64 * cl) la), (oa (a 23) cI (64 * cl) lb), (oa (a 24) cI (64 * cl) lc), (oa (a 25) cI (64 * cl) ld)] s.heap := hP
  obtain ⟨Q9, hQ9⟩ : ∃ Q9 : State → Prop, Q9 = MQ below (zQe (fun v9 t => ∃ (un : Nat), ∃ (dd : Nat), ∃ (u9 : Int64), ∃ (d9 : Int64), ∃ (S1 : Nat → Int32), v9 = (some (.long (jI ((un / Nat.gcd un dd : Nat) : Int)))) ∧ (XM (fxQ (fT la lb lc ld f dn ln) (nN (mn f)) (cF40 cx f) (cF40 cy f) (eO (kd f).toInt (nN (mn f)))) ((un : Nat) : Int) ((dd : Nat) : Int)) ∧ (un ≤ 4000000000000 ∧ 1 ≤ dd ∧ dd ≤ 2000000) ∧ va_P (dC, dI) classes [(om k0 a I0 (vp_updL (vp_updL J0 48 u9) 49 d9)), (oa (a 5) cI 201 st), (oa (a 6) cZ 201 tn), (oa (a 1) cI 201 kd), (oa (a 11) cI 201 mn), (oa (a 12) cI 8040 cx), (oa (a 13) cI 8040 cy), (oa (a 32) cI 8 S1), (oa (a 22) cI (64 * cl) la), (oa (a 23) cI (64 * cl) lb), (oa (a 24) cI (64 * cl) lc), (oa (a 25) cI (64 * cl) ld)] t.heap ∧ va_D A [(om k0 a I0 (vp_updL (vp_updL J0 48 u9) 49 d9)), (oa (a 5) cI 201 st), (oa (a 6) cZ 201 tn), (oa (a 1) cI 201 kd), (oa (a 11) cI 201 mn), (oa (a 12) cI 8040 cx), (oa (a 13) cI 8040 cy), (oa (a 32) cI 8 S1), (oa (a 22) cI (64 * cl) la), (oa (a 23) cI (64 * cl) lb), (oa (a 24) cI (64 * cl) lc), (oa (a 25) cI (64 * cl) ld)]) A) ([.ref k0, .int (nI f), .int 0] : List Value).toArray s 0 0 A := ⟨_, rfl⟩
  rw [← hQ9]
  have hl := lv_entry ([.ref k0, .int (nI f), .int 0]) (n := 9) (Nat.le_of_ble_eq_true rfl)
  rw [lg_entry_eq]
  generalize (lg_sl ([.ref k0, .int (nI f), .int 0]) ++ List.replicate (9 - (lg_sl ([.ref k0, .int (nI f), .int 0])).length) Slot.unset).toArray = ls at hl ⊢
  have hl : lv_has ls 9 [(0, .ref k0), (1, .int (nI f)), (2, .int 0)] := hl
  have hw_ff := hwf f (by first | with_reducible assumption | assumption)
  have hm_ff := hw_ff.1
  have hn_ff := hw_ff.2.1
  have hp_ff := hw_ff.2.2
  have hee := eO_le (k := (kd f).toInt) hn_ff.1
  refine lv_aload_n hx hb dX11_far_0 rfl (lv_at hl 0 rfl) ?_
  refine lv_iload_n hx hb dX11_far_1 rfl (lv_at hl 1 rfl) ?_
  obtain ⟨hPc, hDc, hFc, hI1⟩ := zi_sub (wc := [_, _, _]) hP hD hS hA [0, 1, 2] rfl rfl
  refine zcall (st1 := [.int (pI (f < ft ∧ (st f).toInt = 1 ∧ (tn f).toInt = 0))]) (va_runV (As := [.int (nI f)]) (rest := []) ⟨hx, hb, hml, hown, hts⟩ (k_M_is_n l dC dI cI cZ cF s.heap.size k0 a I0 J0 f ft st tn (by first | with_reducible assumption | assumption) (by first | with_reducible assumption | omega) (by first | with_reducible assumption | omega)) (csV_179 hts rfl rfl ⟨Nat.le_of_ble_eq_true rfl, Nat.le_of_ble_eq_true rfl⟩) (zPV2 (q0 := 0) (ci := 9) hPc hDc hK hXN rfl rfl) rfl rfl hl.1 rfl (lv_room (Nat.le_of_ble_eq_true rfl)) dX11_far_2 ⟨Nat.le_of_ble_eq_true rfl, Nat.le_of_ble_eq_true rfl⟩) hS hFc hFc rfl (fun t H locs ht hB hk1 hS => ?_)
  obtain ⟨hP1, hD1⟩ := hB
  rw [ht] at hP1
  replace hP := z0 hP hD hk1 hP1 hI1
  clear hk1 hPc hDc hFc hP1 hD1 ht hI1
  refine lv_if_eq (tgt := 17) hx hb dX11_far_5 rfl (fun c_1 => ?_) (fun c_1 => ?_)
  · have c_1 : ¬ (f < ft ∧ (st f).toInt = 1 ∧ (tn f).toInt = 0) := zp_0 c_1
    exfalso; exact absurd hlv (by first | with_reducible assumption | assumption)
  · have c_1 : f < ft ∧ (st f).toInt = 1 ∧ (tn f).toInt = 0 := zp_1 c_1
    refine lv_iload_n hx hb dX11_far_8 rfl (lv_at hl 2 rfl) ?_
    refine lv_if_lt (tgt := 17) hx hb dX11_far_9 rfl (fun c_2 => ?_) (fun c_2 => ?_)
    · exact absurd c_2 (by decide)
    · refine lv_iload_n hx hb dX11_far_12 rfl (lv_at hl 2 rfl) ?_
      refine lv_iconst (v := 1) hx hb dX11_far_13 rfl ?_
      refine lv_icmp_le (tgt := 21) hx hb dX11_far_14 rfl (fun c_3 => ?_) (fun c_3 => ?_)
      · refine lv_lconst (v := 0) hx hb dX11_far_21 rfl ?_
        refine zz_l (v := jI 0) (jI_0) ?_
        refine lv_lstore_n (lv' := [(3, .long (jI 0)), (0, .ref k0), (1, .int (nI f)), (2, .int 0)]) hx hb dX11_far_22 rfl hl (Nat.le_of_ble_eq_true rfl) rfl (fun ls hl => ?_)
        refine lv_lconst (v := 1) hx hb dX11_far_23 rfl ?_
        refine zz_l (v := jI 1) (jI_1) ?_
        refine lv_lstore (lv' := [(5, .long (jI 1)), (3, .long (jI 0)), (0, .ref k0), (1, .int (nI f)), (2, .int 0)]) hx hb dX11_far_24 hl (Nat.le_of_ble_eq_true rfl) rfl (fun ls hl => ?_)
        refine lv_iconst (v := 0) hx hb dX11_far_26 rfl ?_
        refine lv_istore (lv' := [(7, .int 0), (5, .long (jI 1)), (3, .long (jI 0)), (0, .ref k0), (1, .int (nI f)), (2, .int 0)]) hx hb dX11_far_27 hl (Nat.le_of_ble_eq_true rfl) rfl (fun ls hl => ?_)
        have hl_29 : ∀ (n9 : Nat) (j9 : Nat) (ua : Int) (ub : Int) (u9 : Int64) (d9 : Int64) (S1 : Nat → Int32) (H : Heap) (locs : List Loc) (ls : Array Slot), ln - j9 < n9 → (j9 ≤ ln) → ((0 ≤ ua ∧ ua ≤ 4000000000000) ∧ (1 ≤ ub ∧ ub ≤ 2000000)) → (XM (fxQ (fT la lb lc ld f dn j9) (nN (mn f)) (cF40 cx f) (cF40 cy f) (eO (kd f).toInt (nN (mn f)))) ua ub) → va_P (dC, dI) classes [(om k0 a I0 (vp_updL (vp_updL J0 48 u9) 49 d9)), (oa (a 5) cI 201 st), (oa (a 6) cZ 201 tn), (oa (a 1) cI 201 kd), (oa (a 11) cI 201 mn), (oa (a 12) cI 8040 cx), (oa (a 13) cI 8040 cy), (oa (a 32) cI 8 S1), (oa (a 22) cI (64 * cl) la), (oa (a 23) cI (64 * cl) lb), (oa (a 24) cI (64 * cl) lc), (oa (a 25) cI (64 * cl) ld)] H → va_D A [(om k0 a I0 (vp_updL (vp_updL J0 48 u9) 49 d9)), (oa (a 5) cI 201 st), (oa (a 6) cZ 201 tn), (oa (a 1) cI 201 kd), (oa (a 11) cI 201 mn), (oa (a 12) cI 8040 cx), (oa (a 13) cI 8040 cy), (oa (a 32) cI 8 S1), (oa (a 22) cI (64 * cl) la), (oa (a 23) cI (64 * cl) lb), (oa (a 24) cI (64 * cl) lc), (oa (a 25) cI (64 * cl) ld)] → va_S A s.heap H locs → lv_has ls 9 [(7, .int (nI j9)), (5, .long (jI ub)), (3, .long (jI ua)), (0, .ref k0), (1, .int (nI f)), (2, .int 0)] → W p l e ((headSpec (.code yX11_far cX11_far 9 (some .long) :: ws0) ({ frames := 2, cells := 0, slots := 0, locals := 70 } : Room)).room) s m ([.ref k0, .int (nI f), .int 0] : List Value).toArray below meth c H locs 0 0 Q9 (F0 m 29 ls []) := by
          intro n9
          induction n9 with
          | zero => intro j9 ua ub u9 d9 S1 H locs ls hm; exact absurd hm (Nat.not_lt_zero _)
          | succ n9 ih_29 =>
            intro j9 ua ub u9 d9 S1 H locs ls hm hj9 hab hxm hP hD hS hl
            refine lv_iload hx hb dX11_far_29 (lv_at hl 0 rfl) ?_
            refine lv_aload_n hx hb dX11_far_31 rfl (lv_at hl 3 rfl) ?_
            refine va_get (D := (dC, dI)) (ci := 9) (v := .int (I0 26)) (C := RX11) (T := TX11) (N := 55) hx hb hts inX11 hown hK hP 0 rfl rfl 26 (Nat.le_of_ble_eq_true rfl) (hts _ mw_1185) (fun _ h9 => h9) rfl dX11_far_32 ?_
            refine zz_i (v := nI ln) (hln) ?_
            have b9_5 : zlt (j9) := show j9 < 2147483648 by omega
            have b9_6 : zlt (ln) := show ln < 2147483648 by omega
            refine lv_icmp_ge (tgt := 161) hx hb dX11_far_35 rfl (fun c_4 => ?_) (fun c_4 => ?_)
            · have c_4 : ((ln : Nat) : Int) ≤ ((j9 : Nat) : Int) := zc_le (nI_toInt b9_6) (nI_toInt b9_5) c_4
              refine lv_aload_n hx hb dX11_far_161 rfl (lv_at hl 3 rfl) ?_
              refine lv_lload_n hx hb dX11_far_162 rfl (lv_at hl 2 rfl) ?_
              refine va_put (D := (dC, dI)) (ci := 9) (v := .long (jI ua)) (ty := .long) (C := RX11) (T := TX11) (N := 55) hx hb hts inX11 tyX11 tyX11_ok nmX11 hown hK hP hD hS 0 rfl rfl 48 (by decide) (hts _ mw_1207) (fun _ h9 => h9) rfl (by decide +kernel) rfl rfl (Nat.le_of_ble_eq_true rfl) dX11_far_163 (fun H locs hP hD hS => ?_)
              obtain ⟨hP, hD⟩ := zre (W2 := [(om k0 a I0 (vp_updL (vp_updL J0 48 (jI ua)) 49 d9)), _, _, _, _, _, _, _, _, _, _, _]) hP hD rfl
              refine lv_aload_n hx hb dX11_far_166 rfl (lv_at hl 3 rfl) ?_
              refine lv_lload hx hb dX11_far_167 (lv_at hl 1 rfl) ?_
              refine va_put (D := (dC, dI)) (ci := 9) (v := .long (jI ub)) (ty := .long) (C := RX11) (T := TX11) (N := 55) hx hb hts inX11 tyX11 tyX11_ok nmX11 hown hK hP hD hS 0 rfl rfl 49 (by decide) (hts _ mw_1208) (fun _ h9 => h9) rfl (by decide +kernel) rfl rfl (Nat.le_of_ble_eq_true rfl) dX11_far_169 (fun H locs hP hD hS => ?_)
              obtain ⟨hP, hD⟩ := zre (W2 := [(om k0 a I0 (vp_updL (vp_updL J0 48 (jI ua)) 49 (jI ub))), _, _, _, _, _, _, _, _, _, _, _]) hP hD rfl
              obtain ⟨un, hun⟩ : ∃ un : Nat, ua = ((un : Nat) : Int) := ⟨ua.toNat, by omega⟩
              obtain ⟨dd, hdd⟩ : ∃ dd : Nat, ub = ((dd : Nat) : Int) := ⟨ub.toNat, by omega⟩
              rw [hun, hdd] at hP hD
              refine lv_aload_n hx hb dX11_far_172 rfl (lv_at hl 3 rfl) ?_
              obtain ⟨hPc, hDc, hFc⟩ := zo_sub (wc := [_]) hP hD hS hA [0] rfl rfl
              refine zcall (st1 := []) (va_runV (As := []) (rest := []) ⟨hx, hb, hml, hown, hts⟩ (k_M_plainFraction l dC dI cI cZ cF H.size k0 a I0 (vp_updL (vp_updL J0 48 (jI ((un : Nat) : Int))) 49 (jI ((dd : Nat) : Int))) un dd (by first | with_reducible assumption | omega) (by first | with_reducible assumption | omega)) (csV_224 hts rfl rfl ⟨Nat.le_of_ble_eq_true rfl, Nat.le_of_ble_eq_true rfl⟩) (zPV2 (q0 := 0) (ci := 9) hPc hDc hK hXN rfl rfl) rfl rfl hl.1 rfl (lv_room (Nat.le_of_ble_eq_true rfl)) dX11_far_173 ⟨Nat.le_of_ble_eq_true rfl, Nat.le_of_ble_eq_true rfl⟩) hS hFc hFc rfl (fun t H locs ht hB hk1 hS => ?_)
              obtain ⟨hP1, hD1⟩ := hB
              rw [ht] at hP1
              obtain ⟨hP, hD⟩ := zn (W2 := [(om k0 a I0 (vp_updL (vp_updL J0 48 (jI ((un / Nat.gcd un dd : Nat) : Int))) 49 (jI ((dd / Nat.gcd un dd : Nat) : Int)))), _, _, _, _, _, _, _, _, _, _, _]) hP hD hk1 hFc hP1 hD1 [0] zl_171 zl_171 [0] (by decide +kernel) rfl rfl rfl rfl rfl
              clear hk1 hPc hDc hFc hP1 hD1 ht
              refine lv_iload_n hx hb dX11_far_176 rfl (lv_at hl 5 rfl) ?_
              refine lv_if_ne (tgt := 187) hx hb dX11_far_177 rfl (fun c_7 => ?_) (fun c_7 => ?_)
              · exact absurd (by decide) c_7
              · refine lv_aload_n hx hb dX11_far_180 rfl (lv_at hl 3 rfl) ?_
                refine va_get (D := (dC, dI)) (ci := 9) (v := .long (jI ((un / Nat.gcd un dd : Nat) : Int))) (C := RX11) (T := TX11) (N := 55) hx hb hts inX11 hown hK hP 0 rfl rfl 48 (Nat.le_of_ble_eq_true rfl) (hts _ mw_1207) (fun _ h9 => h9) rfl dX11_far_181 ?_
                refine lv_goto (tgt := 191) hx hb dX11_far_184 rfl ?_
                have hje : j9 = ln := (by omega)
                rw [hje, hun, hdd] at hxm
                obtain ⟨hP9, hD9⟩ := zu_sub (wc := [_, _, _, _, _, _, _, _, _, _, _, _]) hP hD [true, true, true, true, true, true, true, true, true, true, true, true] rfl rfl
                rw [hQ9]
                exact W.lret (v := jI ((un / Nat.gcd un dd : Nat) : Int)) hx hb hr (fun t ht hW => ⟨⟨_, rfl, un, dd, (jI ((un / Nat.gcd un dd : Nat) : Int)), (jI ((dd / Nat.gcd un dd : Nat) : Int)), S1, rfl, (hxm), (by omega), by rw [ht]; exact hP9, hD9⟩, hS.F ht⟩) hS.2.2 dX11_far_191
            · have c_4 : ((j9 : Nat) : Int) < ((ln : Nat) : Int) := zc_nle (nI_toInt b9_6) (nI_toInt b9_5) c_4
              refine lv_aload_n hx hb dX11_far_38 rfl (lv_at hl 3 rfl) ?_
              refine va_get (D := (dC, dI)) (ci := 9) (v := .ref (a 22)) (C := RX11) (T := TX11) (N := 55) hx hb hts inX11 hown hK hP 0 rfl rfl 22 (Nat.le_of_ble_eq_true rfl) (hts _ mw_1181) (fun _ h9 => h9) rfl dX11_far_39 ?_
              refine lv_iload hx hb dX11_far_42 (lv_at hl 0 rfl) ?_
              have b9_8 : j9 < (64 * cl) := by omega
              have b9_9 : zlt ((64 * cl)) := show (64 * cl) < 2147483648 by omega
              refine z_iald hx hb hK hP 8 0 rfl rfl (e := j9) rfl b9_8 b9_9 dX11_far_44 ?_
              refine lv_iload_n hx hb dX11_far_45 rfl (lv_at hl 4 rfl) ?_
              have b9_11 : zlt (f) := show f < 2147483648 by omega
              refine lv_icmp_ne (tgt := 155) hx hb dX11_far_46 rfl (fun c_10 => ?_) (fun c_10 => ?_)
              · have c_10 : ¬ (la j9).toInt = ((f : Nat) : Int) := zc_ne rfl (nI_toInt b9_11) c_10
                refine lv_iinc (v := nI (j9 + 1)) (lv' := [(7, .int (nI (j9 + 1))), (5, .long (jI ub)), (3, .long (jI ua)), (0, .ref k0), (1, .int (nI f)), (2, .int 0)]) hx hb dX11_far_155 hl (k := 0) rfl (nI_add j9 1) (Nat.le_of_ble_eq_true rfl) rfl (fun ls hl => ?_)
                refine lv_goto (tgt := 29) hx hb dX11_far_158 rfl ?_
                exact ih_29 (j9 + 1) ua ub u9 d9 S1 H locs ls (by first | with_reducible assumption | omega) (by first | with_reducible assumption | omega) (by first | exact hab | (have h9 := hd1 (by first | with_reducible assumption | omega); omega)) (by first | exact fxQ_cg (fun x y => fT_y hla9 hld9) (hxs.1 (by first | with_reducible assumption | assumption)) | exact fxQ_cg (fun x y => fT_y hla9 hld9) (hxs.2 (by first | with_reducible assumption | assumption)) | exact fxQ_cg (fun x y => fT_n (fun h9 => by first | (have e9 := congrArg Int32.toInt h9.1; rw [nI_toInt (by first | with_reducible assumption | omega)] at e9; omega) | (have e9 := h9.2; omega))) hxm) hP hD hS (lv_sub hl [0, 1, 2, 3, 4, 5] rfl)
              · have c_10 : (la j9).toInt = ((f : Nat) : Int) := zc_eq rfl (nI_toInt b9_11) c_10
                refine lv_aload_n hx hb dX11_far_49 rfl (lv_at hl 3 rfl) ?_
                refine va_get (D := (dC, dI)) (ci := 9) (v := .ref (a 25)) (C := RX11) (T := TX11) (N := 55) hx hb hts inX11 hown hK hP 0 rfl rfl 25 (Nat.le_of_ble_eq_true rfl) (hts _ mw_1184) (fun _ h9 => h9) rfl dX11_far_50 ?_
                refine lv_iload hx hb dX11_far_53 (lv_at hl 0 rfl) ?_
                refine z_iald hx hb hK hP 11 0 rfl rfl (e := j9) rfl b9_8 b9_9 dX11_far_55 ?_
                refine lv_aload_n hx hb dX11_far_56 rfl (lv_at hl 3 rfl) ?_
                refine va_get (D := (dC, dI)) (ci := 9) (v := .int (I0 19)) (C := RX11) (T := TX11) (N := 55) hx hb hts inX11 hown hK hP 0 rfl rfl 19 (Nat.le_of_ble_eq_true rfl) (hts _ mw_1178) (fun _ h9 => h9) rfl dX11_far_57 ?_
                refine zz_i (v := nI dn) (hdn) ?_
                have b9_13 : zlt (dn) := show dn < 2147483648 by omega
                refine lv_icmp_le (tgt := 66) hx hb dX11_far_60 rfl (fun c_12 => ?_) (fun c_12 => ?_)
                · have c_12 : (ld j9).toInt ≤ ((dn : Nat) : Int) := zc_le rfl (nI_toInt b9_13) c_12
                  have hla9 : la j9 = nI f := Int32.toInt_inj.mp (by rw [nI_toInt (by omega)]; omega)
                  have hld9 : (ld j9).toInt ≤ ((dn : Nat) : Int) := (by omega)
                  refine lv_aload_n hx hb dX11_far_66 rfl (lv_at hl 3 rfl) ?_
                  refine lv_lconst (v := 0) hx hb dX11_far_67 rfl ?_
                  refine zz_l (v := jI 0) (jI_0) ?_
                  refine va_put (D := (dC, dI)) (ci := 9) (v := .long (jI 0)) (ty := .long) (C := RX11) (T := TX11) (N := 55) hx hb hts inX11 tyX11 tyX11_ok nmX11 hown hK hP hD hS 0 rfl rfl 48 (by decide) (hts _ mw_1207) (fun _ h9 => h9) rfl (by decide +kernel) rfl rfl (Nat.le_of_ble_eq_true rfl) dX11_far_68 (fun H locs hP hD hS => ?_)
                  obtain ⟨hP, hD⟩ := zre (W2 := [(om k0 a I0 (vp_updL (vp_updL J0 48 (jI 0)) 49 d9)), _, _, _, _, _, _, _, _, _, _, _]) hP hD rfl
                  refine lv_aload_n hx hb dX11_far_71 rfl (lv_at hl 3 rfl) ?_
                  refine lv_lconst (v := 0) hx hb dX11_far_72 rfl ?_
                  refine zz_l (v := jI 0) (jI_0) ?_
                  refine va_put (D := (dC, dI)) (ci := 9) (v := .long (jI 0)) (ty := .long) (C := RX11) (T := TX11) (N := 55) hx hb hts inX11 tyX11 tyX11_ok nmX11 hown hK hP hD hS 0 rfl rfl 49 (by decide) (hts _ mw_1208) (fun _ h9 => h9) rfl (by decide +kernel) rfl rfl (Nat.le_of_ble_eq_true rfl) dX11_far_73 (fun H locs hP hD hS => ?_)
                  obtain ⟨hP, hD⟩ := zre (W2 := [(om k0 a I0 (vp_updL (vp_updL J0 48 (jI 0)) 49 (jI 0))), _, _, _, _, _, _, _, _, _, _, _]) hP hD rfl
                  refine lv_iconst (v := 0) hx hb dX11_far_76 rfl ?_
                  refine lv_istore (lv' := [(8, .int 0), (7, .int (nI j9)), (5, .long (jI ub)), (3, .long (jI ua)), (0, .ref k0), (1, .int (nI f)), (2, .int 0)]) hx hb dX11_far_77 hl (Nat.le_of_ble_eq_true rfl) rfl (fun ls hl => ?_)
                  have hl_79 : ∀ (n9 : Nat) (e9 : Nat) (u2 : Int) (d2 : Int) (S2 : Nat → Int32) (H : Heap) (locs : List Loc) (ls : Array Slot), eO (kd f).toInt (nN (mn f)) - e9 < n9 → (e9 ≤ eO (kd f).toInt (nN (mn f))) → ((0 ≤ u2 ∧ u2 ≤ 4000000000000) ∧ (0 ≤ d2 ∧ d2 ≤ 2000000)) → (0 < e9 → 1 ≤ d2) → (IM (ofP (fun _ _ => False) (nN (mn f)) (cF40 cx f) (cF40 cy f) (lb j9).toInt (lc j9).toInt e9) u2 d2) → va_P (dC, dI) classes [(om k0 a I0 (vp_updL (vp_updL J0 48 (jI u2)) 49 (jI d2))), (oa (a 5) cI 201 st), (oa (a 6) cZ 201 tn), (oa (a 1) cI 201 kd), (oa (a 11) cI 201 mn), (oa (a 12) cI 8040 cx), (oa (a 13) cI 8040 cy), (oa (a 32) cI 8 S2), (oa (a 22) cI (64 * cl) la), (oa (a 23) cI (64 * cl) lb), (oa (a 24) cI (64 * cl) lc), (oa (a 25) cI (64 * cl) ld)] H → va_D A [(om k0 a I0 (vp_updL (vp_updL J0 48 (jI u2)) 49 (jI d2))), (oa (a 5) cI 201 st), (oa (a 6) cZ 201 tn), (oa (a 1) cI 201 kd), (oa (a 11) cI 201 mn), (oa (a 12) cI 8040 cx), (oa (a 13) cI 8040 cy), (oa (a 32) cI 8 S2), (oa (a 22) cI (64 * cl) la), (oa (a 23) cI (64 * cl) lb), (oa (a 24) cI (64 * cl) lc), (oa (a 25) cI (64 * cl) ld)] → va_S A s.heap H locs → lv_has ls 9 [(8, .int (nI e9)), (7, .int (nI j9)), (5, .long (jI ub)), (3, .long (jI ua)), (0, .ref k0), (1, .int (nI f)), (2, .int 0)] → W p l e ((headSpec (.code yX11_far cX11_far 9 (some .long) :: ws0) ({ frames := 2, cells := 0, slots := 0, locals := 70 } : Room)).room) s m ([.ref k0, .int (nI f), .int 0] : List Value).toArray below meth c H locs 0 0 Q9 (F0 m 79 ls []) := by
                    intro n9
                    induction n9 with
                    | zero => intro e9 u2 d2 S2 H locs ls hm; exact absurd hm (Nat.not_lt_zero _)
                    | succ n9 ih_79 =>
                      intro e9 u2 d2 S2 H locs ls hm he9 hud2 hd1 him2 hP hD hS hl
                      refine lv_iload hx hb dX11_far_79 (lv_at hl 0 rfl) ?_
                      refine lv_aload_n hx hb dX11_far_81 rfl (lv_at hl 4 rfl) ?_
                      refine lv_iload_n hx hb dX11_far_82 rfl (lv_at hl 5 rfl) ?_
                      obtain ⟨hPc, hDc, hFc, hI1⟩ := zi_sub (wc := [_, _, _]) hP hD hS hA [0, 3, 4] rfl rfl
                      refine zcall (st1 := [.int (nI (eO (kd f).toInt (nN (mn f)))), .int (nI e9)]) (va_runV (As := [.int (nI f)]) (rest := [.int (nI e9)]) ⟨hx, hb, hml, hown, hts⟩ (k_M_edgesOf l dC dI cI cZ cF H.size k0 a I0 (vp_updL (vp_updL J0 48 (jI u2)) 49 (jI d2)) f (nN (mn f)) kd mn (by first | with_reducible assumption | omega) (hm_ff) (hn_ff)) (csV_166 hts rfl rfl ⟨Nat.le_of_ble_eq_true rfl, Nat.le_of_ble_eq_true rfl⟩) (zPV2 (q0 := 0) (ci := 9) hPc hDc hK hXN rfl rfl) rfl rfl hl.1 rfl (lv_room (Nat.le_of_ble_eq_true rfl)) dX11_far_83 ⟨Nat.le_of_ble_eq_true rfl, Nat.le_of_ble_eq_true rfl⟩) hS hFc hFc rfl (fun t H locs ht hB hk1 hS => ?_)
                      obtain ⟨hP1, hD1⟩ := hB
                      rw [ht] at hP1
                      replace hP := z0 hP hD hk1 hP1 hI1
                      clear hk1 hPc hDc hFc hP1 hD1 ht hI1
                      have b9_15 : zlt (e9) := show e9 < 2147483648 by omega
                      have b9_16 : zlt ((eO (kd f).toInt (nN (mn f)))) := show (eO (kd f).toInt (nN (mn f))) < 2147483648 by omega
                      refine lv_icmp_ge (tgt := 126) hx hb dX11_far_86 rfl (fun c_14 => ?_) (fun c_14 => ?_)
                      · have c_14 : ((eO (kd f).toInt (nN (mn f)) : Nat) : Int) ≤ ((e9 : Nat) : Int) := zc_le (nI_toInt b9_16) (nI_toInt b9_15) c_14
                        have he10 : e9 = eO (kd f).toInt (nN (mn f)) := (by omega)
                        rw [he10] at him2
                        have hxs := XM_s hxm him2 (hd1 (by omega)) hud2.1.1
                        refine lv_aload_n hx hb dX11_far_126 rfl (lv_at hl 4 rfl) ?_
                        refine lv_lload_n hx hb dX11_far_127 rfl (lv_at hl 3 rfl) ?_
                        refine lv_lload hx hb dX11_far_128 (lv_at hl 2 rfl) ?_
                        refine lv_aload_n hx hb dX11_far_130 rfl (lv_at hl 4 rfl) ?_
                        refine va_get (D := (dC, dI)) (ci := 9) (v := .long (jI u2)) (C := RX11) (T := TX11) (N := 55) hx hb hts inX11 hown hK hP 0 rfl rfl 48 (Nat.le_of_ble_eq_true rfl) (hts _ mw_1207) (fun _ h9 => h9) rfl dX11_far_131 ?_
                        refine lv_aload_n hx hb dX11_far_134 rfl (lv_at hl 4 rfl) ?_
                        refine va_get (D := (dC, dI)) (ci := 9) (v := .long (jI d2)) (C := RX11) (T := TX11) (N := 55) hx hb hts inX11 hown hK hP 0 rfl rfl 49 (Nat.le_of_ble_eq_true rfl) (hts _ mw_1208) (fun _ h9 => h9) rfl dX11_far_135 ?_
                        obtain ⟨hPc, hDc, hFc, hI1⟩ := zi_sub (wc := [_]) hP hD hS hA [0] rfl rfl
                        refine zcall (st1 := [.int (pI (ua * d2 < u2 * ub))]) (va_runV (As := [.long (jI ua), .long (jI ub), .long (jI u2), .long (jI d2)]) (rest := []) ⟨hx, hb, hml, hown, hts⟩ (k_M_isLess l dC dI cI cZ cF H.size k0 a I0 (vp_updL (vp_updL J0 48 (jI u2)) 49 (jI d2)) ua ub u2 d2 (prN hab.1 hud2.2) (prN hud2.1 ⟨by omega, hab.2.2⟩) (by first | with_reducible assumption | omega) (by first | with_reducible assumption | omega) (by first | with_reducible assumption | omega) (by first | with_reducible assumption | omega)) (csV_217 hts rfl rfl ⟨Nat.le_of_ble_eq_true rfl, Nat.le_of_ble_eq_true rfl⟩) (zPV2 (q0 := 0) (ci := 9) hPc hDc hK hXN rfl rfl) rfl rfl hl.1 rfl (lv_room (Nat.le_of_ble_eq_true rfl)) dX11_far_138 ⟨Nat.le_of_ble_eq_true rfl, Nat.le_of_ble_eq_true rfl⟩) hS hFc hFc rfl (fun t H locs ht hB hk1 hS => ?_)
                        obtain ⟨hP1, hD1⟩ := hB
                        rw [ht] at hP1
                        replace hP := z0 hP hD hk1 hP1 hI1
                        clear hk1 hPc hDc hFc hP1 hD1 ht hI1
                        refine lv_if_eq (tgt := 155) hx hb dX11_far_141 rfl (fun c_17 => ?_) (fun c_17 => ?_)
                        · have c_17 : ¬ (ua * d2 < u2 * ub) := zp_0 c_17
                          refine lv_iinc (v := nI (j9 + 1)) (lv' := [(7, .int (nI (j9 + 1))), (8, .int (nI e9)), (5, .long (jI ub)), (3, .long (jI ua)), (0, .ref k0), (1, .int (nI f)), (2, .int 0)]) hx hb dX11_far_155 hl (k := 1) rfl (nI_add j9 1) (Nat.le_of_ble_eq_true rfl) rfl (fun ls hl => ?_)
                          refine lv_goto (tgt := 29) hx hb dX11_far_158 rfl ?_
                          exact ih_29 (j9 + 1) ua ub (jI u2) (jI d2) S2 H locs ls (by first | with_reducible assumption | omega) (by first | with_reducible assumption | omega) (by first | exact hab | (have h9 := hd1 (by first | with_reducible assumption | omega); omega)) (by first | exact fxQ_cg (fun x y => fT_y hla9 hld9) (hxs.1 (by first | with_reducible assumption | assumption)) | exact fxQ_cg (fun x y => fT_y hla9 hld9) (hxs.2 (by first | with_reducible assumption | assumption)) | exact fxQ_cg (fun x y => fT_n (fun h9 => by first | (have e9 := congrArg Int32.toInt h9.1; rw [nI_toInt (by first | with_reducible assumption | omega)] at e9; omega) | (have e9 := h9.2; omega))) hxm) hP hD hS (lv_sub hl [0, 2, 3, 4, 5, 6] rfl)
                        · have c_17 : ua * d2 < u2 * ub := zp_1 c_17
                          refine lv_aload_n hx hb dX11_far_144 rfl (lv_at hl 4 rfl) ?_
                          refine va_get (D := (dC, dI)) (ci := 9) (v := .long (jI u2)) (C := RX11) (T := TX11) (N := 55) hx hb hts inX11 hown hK hP 0 rfl rfl 48 (Nat.le_of_ble_eq_true rfl) (hts _ mw_1207) (fun _ h9 => h9) rfl dX11_far_145 ?_
                          refine lv_lstore_n (lv' := [(3, .long (jI u2)), (8, .int (nI e9)), (7, .int (nI j9)), (5, .long (jI ub)), (0, .ref k0), (1, .int (nI f)), (2, .int 0)]) hx hb dX11_far_148 rfl hl (Nat.le_of_ble_eq_true rfl) rfl (fun ls hl => ?_)
                          refine lv_aload_n hx hb dX11_far_149 rfl (lv_at hl 4 rfl) ?_
                          refine va_get (D := (dC, dI)) (ci := 9) (v := .long (jI d2)) (C := RX11) (T := TX11) (N := 55) hx hb hts inX11 hown hK hP 0 rfl rfl 49 (Nat.le_of_ble_eq_true rfl) (hts _ mw_1208) (fun _ h9 => h9) rfl dX11_far_150 ?_
                          refine lv_lstore (lv' := [(5, .long (jI d2)), (3, .long (jI u2)), (8, .int (nI e9)), (7, .int (nI j9)), (0, .ref k0), (1, .int (nI f)), (2, .int 0)]) hx hb dX11_far_153 hl (Nat.le_of_ble_eq_true rfl) rfl (fun ls hl => ?_)
                          refine lv_iinc (v := nI (j9 + 1)) (lv' := [(7, .int (nI (j9 + 1))), (5, .long (jI d2)), (3, .long (jI u2)), (8, .int (nI e9)), (0, .ref k0), (1, .int (nI f)), (2, .int 0)]) hx hb dX11_far_155 hl (k := 3) rfl (nI_add j9 1) (Nat.le_of_ble_eq_true rfl) rfl (fun ls hl => ?_)
                          refine lv_goto (tgt := 29) hx hb dX11_far_158 rfl ?_
                          exact ih_29 (j9 + 1) u2 d2 (jI u2) (jI d2) S2 H locs ls (by first | with_reducible assumption | omega) (by first | with_reducible assumption | omega) (by first | exact hab | (have h9 := hd1 (by first | with_reducible assumption | omega); omega)) (by first | exact fxQ_cg (fun x y => fT_y hla9 hld9) (hxs.1 (by first | with_reducible assumption | assumption)) | exact fxQ_cg (fun x y => fT_y hla9 hld9) (hxs.2 (by first | with_reducible assumption | assumption)) | exact fxQ_cg (fun x y => fT_n (fun h9 => by first | (have e9 := congrArg Int32.toInt h9.1; rw [nI_toInt (by first | with_reducible assumption | omega)] at e9; omega) | (have e9 := h9.2; omega))) hxm) hP hD hS (lv_sub hl [0, 1, 2, 4, 5, 6] rfl)
                      · have c_14 : ((e9 : Nat) : Int) < ((eO (kd f).toInt (nN (mn f)) : Nat) : Int) := zc_nle (nI_toInt b9_16) (nI_toInt b9_15) c_14
                        have hi9 : e9 < nN (mn f) := (by omega)
                        have hnx := nxt_lt (n := nN (mn f)) (i := e9) (by omega)
                        refine lv_aload_n hx hb dX11_far_89 rfl (lv_at hl 4 rfl) ?_
                        refine lv_iload_n hx hb dX11_far_90 rfl (lv_at hl 5 rfl) ?_
                        refine lv_iload hx hb dX11_far_91 (lv_at hl 0 rfl) ?_
                        refine lv_iconst (v := 0) hx hb dX11_far_93 rfl ?_
                        obtain ⟨hPc, hDc, hFc⟩ := zo_sub (wc := [_, _, _, _, _]) hP hD hS hA [0, 4, 5, 6, 7] (by decide +kernel) rfl
                        refine zcall (st1 := []) (va_runV (As := [.int (nI f), .int (nI e9), .int 0]) (rest := []) ⟨hx, hb, hml, hown, hts⟩ (k_M_edge l dC dI cI cZ cF H.size k0 a I0 (vp_updL (vp_updL J0 48 (jI u2)) 49 (jI d2)) f (nN (mn f)) e9 0 mn cx cy S2 (by first | with_reducible assumption | omega) (hm_ff) (hn_ff) (by first | with_reducible assumption | omega) (by first | with_reducible assumption | omega)) (csV_167 hts rfl rfl ⟨Nat.le_of_ble_eq_true rfl, Nat.le_of_ble_eq_true rfl⟩) (zPV2 (q0 := 0) (ci := 9) hPc hDc hK hXN rfl rfl) rfl rfl hl.1 rfl (lv_room (Nat.le_of_ble_eq_true rfl)) dX11_far_94 ⟨Nat.le_of_ble_eq_true rfl, Nat.le_of_ble_eq_true rfl⟩) hS hFc hFc rfl (fun t H locs ht hB hk1 hS => ?_)
                        obtain ⟨S3, t0, t1, t2, t3, tr, hP1, hD1⟩ := hB
                        rw [ht] at hP1
                        obtain ⟨hP, hD⟩ := zn (W2 := [_, _, _, _, _, _, _, (oa (a 32) cI 8 S3), _, _, _, _]) hP hD hk1 hFc hP1 hD1 [0, 4, 5, 6, 7] zl_271 zl_271 [0, 4, 5, 6, 7] (by decide +kernel) rfl rfl rfl rfl rfl
                        clear hk1 hPc hDc hFc hP1 hD1 ht
                        have v0 : S3 0 = cF40 cx f e9 := t0
                        have v1 : S3 1 = cF40 cy f e9 := t1
                        have v2 : S3 2 = cF40 cx f (nxt (nN (mn f)) e9) := t2
                        have v3 : S3 3 = cF40 cy f (nxt (nN (mn f)) e9) := t3
                        have hs3 : ∀ k, 0 ≤ k → k < 0 + 4 → pl (S3 k) := fun k _ hk => (by rcases (show k = 0 ∨ k = 1 ∨ k = 2 ∨ k = 3 by omega) with h | h | h | h <;> rw [h]; (rw [v0]; exact (hp_ff e9 hi9).1); (rw [v1]; exact (hp_ff e9 hi9).2); (rw [v2]; exact (hp_ff _ hnx).1); (rw [v3]; exact (hp_ff _ hnx).2))
                        refine lv_aload_n hx hb dX11_far_97 rfl (lv_at hl 4 rfl) ?_
                        refine lv_aload_n hx hb dX11_far_98 rfl (lv_at hl 4 rfl) ?_
                        refine va_get (D := (dC, dI)) (ci := 9) (v := .ref (a 32)) (C := RX11) (T := TX11) (N := 55) hx hb hts inX11 hown hK hP 0 rfl rfl 32 (Nat.le_of_ble_eq_true rfl) (hts _ mw_1191) (fun _ h9 => h9) rfl dX11_far_99 ?_
                        refine lv_aload_n hx hb dX11_far_102 rfl (lv_at hl 4 rfl) ?_
                        refine va_get (D := (dC, dI)) (ci := 9) (v := .ref (a 23)) (C := RX11) (T := TX11) (N := 55) hx hb hts inX11 hown hK hP 0 rfl rfl 23 (Nat.le_of_ble_eq_true rfl) (hts _ mw_1182) (fun _ h9 => h9) rfl dX11_far_103 ?_
                        refine lv_iload hx hb dX11_far_106 (lv_at hl 1 rfl) ?_
                        refine z_iald hx hb hK hP 9 0 rfl rfl (e := j9) rfl b9_8 b9_9 dX11_far_108 ?_
                        refine lv_aload_n hx hb dX11_far_109 rfl (lv_at hl 4 rfl) ?_
                        refine va_get (D := (dC, dI)) (ci := 9) (v := .ref (a 24)) (C := RX11) (T := TX11) (N := 55) hx hb hts inX11 hown hK hP 0 rfl rfl 24 (Nat.le_of_ble_eq_true rfl) (hts _ mw_1183) (fun _ h9 => h9) rfl dX11_far_110 ?_
                        refine lv_iload hx hb dX11_far_113 (lv_at hl 1 rfl) ?_
                        refine z_iald hx hb hK hP 10 0 rfl rfl (e := j9) rfl b9_8 b9_9 dX11_far_115 ?_
                        refine lv_iconst (v := 0) hx hb dX11_far_116 rfl ?_
                        obtain ⟨hPc, hDc, hFc⟩ := zo_sub (wc := [_, _]) hP hD hS hA [0, 7] rfl rfl
                        refine zcall (st1 := []) (va_runV (As := [.ref (a 32), .int (lb j9), .int (lc j9), .int 0]) (rest := []) ⟨hx, hb, hml, hown, hts⟩ (k_M_nearer_q l dC dI cI cZ cF H.size k0 a I0 (vp_updL (vp_updL J0 48 (jI u2)) 49 (jI d2)) 0 (lb j9) (lc j9) u2 d2 S3 (by first | with_reducible assumption | omega) (hs3) ((hpl j9 (by first | with_reducible assumption | omega)).1) ((hpl j9 (by first | with_reducible assumption | omega)).2) (hud2.1) (hud2.2)) (csV_225 hts rfl rfl ⟨Nat.le_of_ble_eq_true rfl, Nat.le_of_ble_eq_true rfl⟩) (zPV2 (q0 := 0) (ci := 9) hPc hDc hK hXN rfl rfl) rfl rfl hl.1 rfl (lv_room (Nat.le_of_ble_eq_true rfl)) dX11_far_117 ⟨Nat.le_of_ble_eq_true rfl, Nat.le_of_ble_eq_true rfl⟩) hS hFc hFc rfl (fun t H locs ht hB hk1 hS => ?_)
                        obtain ⟨zu1, zd1, hnd1, hP1, hD1⟩ := hB
                        rw [ht] at hP1
                        obtain ⟨hP, hD⟩ := zn (W2 := [(om k0 a I0 (vp_updL (vp_updL J0 48 (jI zu1)) 49 (jI zd1))), _, _, _, _, _, _, _, _, _, _, _]) hP hD hk1 hFc hP1 hD1 [0, 7] zl_272 zl_272 [0, 7] (by decide +kernel) rfl rfl rfl rfl rfl
                        clear hk1 hPc hDc hFc hP1 hD1 ht
                        have hx1 : ndP u2 d2 (nrU (S3 0).toInt (S3 1).toInt (S3 2).toInt (S3 3).toInt (lb j9).toInt (lc j9).toInt) (nrD (S3 0).toInt (S3 1).toInt (S3 2).toInt (S3 3).toInt (lb j9).toInt (lc j9).toInt) zu1 zd1 := hnd1
                        have hUb9 := nrU_b (hs3 0 (by omega) (by omega)) (hs3 1 (by omega) (by omega)) (hs3 2 (by omega) (by omega)) (hs3 3 (by omega) (by omega)) (hpl j9 (by omega)).1 (hpl j9 (by omega)).2
                        have hb1 := ndP_b hud2.1 hud2.2 hUb9 hx1
                        have hz1 : 1 ≤ zd1 := (by unfold ndP at hx1; rcases hx1 with h9 | h9 <;> omega)
                        have hx2 : ndP u2 d2 (nrU (cF40 cx f e9).toInt (cF40 cy f e9).toInt (cF40 cx f (nxt (nN (mn f)) e9)).toInt (cF40 cy f (nxt (nN (mn f)) e9)).toInt (lb j9).toInt (lc j9).toInt) (nrD (cF40 cx f e9).toInt (cF40 cy f e9).toInt (cF40 cx f (nxt (nN (mn f)) e9)).toInt (cF40 cy f (nxt (nN (mn f)) e9)).toInt (lb j9).toInt (lc j9).toInt) zu1 zd1 := (by rw [← v0, ← v1, ← v2, ← v3]; exact hx1)
                        refine lv_iinc (v := nI (e9 + 1)) (lv' := [(8, .int (nI (e9 + 1))), (7, .int (nI j9)), (5, .long (jI ub)), (3, .long (jI ua)), (0, .ref k0), (1, .int (nI f)), (2, .int 0)]) hx hb dX11_far_120 hl (k := 0) rfl (nI_add e9 1) (Nat.le_of_ble_eq_true rfl) rfl (fun ls hl => ?_)
                        refine lv_goto (tgt := 79) hx hb dX11_far_123 rfl ?_
                        exact ih_79 (e9 + 1) zu1 zd1 S3 H locs ls (by first | with_reducible assumption | omega) (by first | with_reducible assumption | omega) (hb1) (fun _ => hz1) (ofP_s (fun _ _ h => h.elim) hp_ff (hpl j9 (by first | with_reducible assumption | omega)).1 (hpl j9 (by first | with_reducible assumption | omega)).2 (by first | with_reducible assumption | omega) him2 hx2) hP hD hS (lv_sub hl [0, 1, 2, 3, 4, 5, 6] rfl)
                  exact hl_79 _ 0 0 0 S1 H locs ls (Nat.lt_succ_self _) (by first | with_reducible assumption | omega) (by first | with_reducible assumption | omega) (by first | with_reducible assumption | omega) (ofP_0 IM_no) hP hD hS (lv_sub hl [0, 1, 2, 3, 4, 5, 6] rfl)
                · have c_12 : ((dn : Nat) : Int) < (ld j9).toInt := zc_nle rfl (nI_toInt b9_13) c_12
                  refine lv_goto (tgt := 155) hx hb dX11_far_63 rfl ?_
                  refine lv_iinc (v := nI (j9 + 1)) (lv' := [(7, .int (nI (j9 + 1))), (5, .long (jI ub)), (3, .long (jI ua)), (0, .ref k0), (1, .int (nI f)), (2, .int 0)]) hx hb dX11_far_155 hl (k := 0) rfl (nI_add j9 1) (Nat.le_of_ble_eq_true rfl) rfl (fun ls hl => ?_)
                  refine lv_goto (tgt := 29) hx hb dX11_far_158 rfl ?_
                  exact ih_29 (j9 + 1) ua ub u9 d9 S1 H locs ls (by first | with_reducible assumption | omega) (by first | with_reducible assumption | omega) (by first | exact hab | (have h9 := hd1 (by first | with_reducible assumption | omega); omega)) (by first | exact fxQ_cg (fun x y => fT_y hla9 hld9) (hxs.1 (by first | with_reducible assumption | assumption)) | exact fxQ_cg (fun x y => fT_y hla9 hld9) (hxs.2 (by first | with_reducible assumption | assumption)) | exact fxQ_cg (fun x y => fT_n (fun h9 => by first | (have e9 := congrArg Int32.toInt h9.1; rw [nI_toInt (by first | with_reducible assumption | omega)] at e9; omega) | (have e9 := h9.2; omega))) hxm) hP hD hS (lv_sub hl [0, 1, 2, 3, 4, 5] rfl)
        exact hl_29 _ 0 0 1 (J0 48) (J0 49) S0 H locs ls (Nat.lt_succ_self _) (by first | with_reducible assumption | omega) (by first | with_reducible assumption | omega) (XM_0 (fun x y ⟨k, hk, _⟩ => absurd hk (Nat.not_lt_zero k))) hP hD hS (lv_sub hl [0, 1, 2, 3, 4, 5] rfl)
      · exact absurd (by decide) c_3
set_option maxHeartbeats 4000000 in
set_option maxRecDepth 100000 in
theorem k_M_far_y1 (l : Launch) (dC : Nat → ClassId) (dI : Nat → Nat → Nat) (cI cZ cF : ClassId) (sz : Nat) (k0 : Nat) (a : Nat → Nat) (I0 : Nat → Int32) (J0 : Nat → Int64) (f : Nat) (ft : Nat) (ln : Nat) (cl : Nat) (dn : Nat) (st : Nat → Int32) (tn : Nat → Int32) (kd : Nat → Int32) (mn : Nat → Int32) (cx : Nat → Int32) (cy : Nat → Int32) (S0 : Nat → Int32) (la : Nat → Int32) (lb : Nat → Int32) (lc : Nat → Int32) (ld : Nat → Int32) (hft : I0 0 = nI ft) (h200 : ft ≤ 200) (hwf : ∀ q, lvF ft st tn q → wfM mn cx cy q) (hln : I0 26 = nI ln) (hlc : ln ≤ 64 * cl) (hcl1 : 1 ≤ cl) (hclm : cl ≤ 1000000) (hf_t : f < ft) (hlv : lvF ft st tn f) (he_f : 1 ≤ eO (kd f).toInt (nN (mn f))) (hpl : ∀ j, j < ln → pl (lb j) ∧ pl (lc j)) (hdn : I0 19 = nI dn) (hdm : dn ≤ 600) : Met l yX11_far (.code yX11_far cX11_far 9 (some .long) :: ws0) ({ frames := 2, cells := 0, slots := 0, locals := 70 } : Room) (va_Pc [.ref k0, .int (nI f), .int 1] (zPre (dC, dI) classes (zTy cI cZ cF) [(om k0 a I0 J0), (oa (a 5) cI 201 st), (oa (a 6) cZ 201 tn), (oa (a 1) cI 201 kd), (oa (a 11) cI 201 mn), (oa (a 12) cI 8040 cx), (oa (a 13) cI 8040 cy), (oa (a 32) cI 8 S0), (oa (a 22) cI (64 * cl) la), (oa (a 23) cI (64 * cl) lb), (oa (a 24) cI (64 * cl) lc), (oa (a 25) cI (64 * cl) ld)] sz zXN)) (zQe (fun v9 t => ∃ (un : Nat), ∃ (dd : Nat), ∃ (u9 : Int64), ∃ (d9 : Int64), ∃ (S1 : Nat → Int32), v9 = (some (.long (jI ((dd / Nat.gcd un dd : Nat) : Int)))) ∧ (XM (fxQ (fT la lb lc ld f dn ln) (nN (mn f)) (cF40 cx f) (cF40 cy f) (eO (kd f).toInt (nN (mn f)))) ((un : Nat) : Int) ((dd : Nat) : Int)) ∧ (un ≤ 4000000000000 ∧ 1 ≤ dd ∧ dd ≤ 2000000) ∧ va_P (dC, dI) classes [(om k0 a I0 (vp_updL (vp_updL J0 48 u9) 49 d9)), (oa (a 5) cI 201 st), (oa (a 6) cZ 201 tn), (oa (a 1) cI 201 kd), (oa (a 11) cI 201 mn), (oa (a 12) cI 8040 cx), (oa (a 13) cI 8040 cy), (oa (a 32) cI 8 S1), (oa (a 22) cI (64 * cl) la), (oa (a 23) cI (64 * cl) lb), (oa (a 24) cI (64 * cl) lc), (oa (a 25) cI (64 * cl) ld)] t.heap ∧ va_D (va_A [(om k0 a I0 J0), (oa (a 5) cI 201 st), (oa (a 6) cZ 201 tn), (oa (a 1) cI 201 kd), (oa (a 11) cI 201 mn), (oa (a 12) cI 8040 cx), (oa (a 13) cI 8040 cy), (oa (a 32) cI 8 S0), (oa (a 22) cI (64 * cl) la), (oa (a 23) cI (64 * cl) lb), (oa (a 24) cI (64 * cl) lc), (oa (a 25) cI (64 * cl) ld)] sz) [(om k0 a I0 (vp_updL (vp_updL J0 48 u9) 49 d9)), (oa (a 5) cI 201 st), (oa (a 6) cZ 201 tn), (oa (a 1) cI 201 kd), (oa (a 11) cI 201 mn), (oa (a 12) cI 8040 cx), (oa (a 13) cI 8040 cy), (oa (a 32) cI 8 S1), (oa (a 22) cI (64 * cl) la), (oa (a 23) cI (64 * cl) lb), (oa (a 24) cI (64 * cl) lc), (oa (a 25) cI (64 * cl) ld)]) (va_A [(om k0 a I0 J0), (oa (a 5) cI 201 st), (oa (a 6) cZ 201 tn), (oa (a 1) cI 201 kd), (oa (a 11) cI 201 mn), (oa (a 12) cI 8040 cx), (oa (a 13) cI 8040 cy), (oa (a 32) cI 8 S0), (oa (a 22) cI (64 * cl) la), (oa (a 23) cI (64 * cl) lb), (oa (a 24) cI (64 * cl) lc), (oa (a 25) cI (64 * cl) ld)] sz)) 0 0 (va_A [(om k0 a I0 J0), (oa (a 5) cI 201 st), (oa (a 6) cZ 201 tn), (oa (a 1) cI 201 kd), (oa (a 11) cI 201 mn), (oa (a 12) cI 8040 cx), (oa (a 13) cI 8040 cy), (oa (a 32) cI 8 S0), (oa (a 22) cI (64 * cl) la), (oa (a 23) cI (64 * cl) lb), (oa (a 24) cI (64 * cl) lc), (oa (a 25) cI (64 * cl) ld)] sz) := by
  refine Met.ofW (cc := cX11_far) (maxL := 9) (ret := (some .long)) rfl rfl ?_
  intro p e s m args below meth c s₁ B hml hv
  obtain ⟨rfl, hsz, hP, hK, hD0, hXN⟩ := hv
  have hx := B.exec
  have hb := B.bytes
  have hr := B.returns
  have hts0 := atoms_spec (ws := .code yX11_far cX11_far 9 (some .long) :: ws0) B.pre
  have hts : ∀ w9 ∈ ws0, w9.before ([.ref k0, .int (nI f), .int 1] : List Value).toArray s = true := fun w9 h => hts0 w9 (List.mem_cons_of_mem _ h)
  have hown : s.vm.findClass "ScaleShopModel" = some m.cls := findClass_of_methodNamed B.named
  have hlocks := B.notSynchronized
  subst hsz
  have hD := hD0.self (sz := s.heap.size)
  clear hD0
  generalize hAe : va_A [(om k0 a I0 J0), (oa (a 5) cI 201 st), (oa (a 6) cZ 201 tn), (oa (a 1) cI 201 kd), (oa (a 11) cI 201 mn), (oa (a 12) cI 8040 cx), (oa (a 13) cI 8040 cy), (oa (a 32) cI 8 S0), (oa (a 22) cI (64 * cl) la), (oa (a 23) cI (64 * cl) lb), (oa (a 24) cI (64 * cl) lc), (oa (a 25) cI (64 * cl) ld)] s.heap.size = A at hD ⊢
  have hA : ∀ q : Nat, s.heap.size ≤ q → A q := fun q h => by rw [← hAe]; exact Or.inr h
  clear hAe
  have hS : va_S A s.heap s.heap [] := va_S.rf
  have hP : va_P (dC, dI) classes [(om k0 a I0 J0), (oa (a 5) cI 201 st), (oa (a 6) cZ 201 tn), (oa (a 1) cI 201 kd), (oa (a 11) cI 201 mn), (oa (a 12) cI 8040 cx), (oa (a 13) cI 8040 cy), (oa (a 32) cI 8 S0), (oa (a 22) cI (64 * cl) la), (oa (a 23) cI (64 * cl) lb), (oa (a 24) cI (64 * cl) lc), (oa (a 25) cI (64 * cl) ld)] s.heap := hP
  obtain ⟨Q9, hQ9⟩ : ∃ Q9 : State → Prop, Q9 = MQ below (zQe (fun v9 t => ∃ (un : Nat), ∃ (dd : Nat), ∃ (u9 : Int64), ∃ (d9 : Int64), ∃ (S1 : Nat → Int32), v9 = (some (.long (jI ((dd / Nat.gcd un dd : Nat) : Int)))) ∧ (XM (fxQ (fT la lb lc ld f dn ln) (nN (mn f)) (cF40 cx f) (cF40 cy f) (eO (kd f).toInt (nN (mn f)))) ((un : Nat) : Int) ((dd : Nat) : Int)) ∧ (un ≤ 4000000000000 ∧ 1 ≤ dd ∧ dd ≤ 2000000) ∧ va_P (dC, dI) classes [(om k0 a I0 (vp_updL (vp_updL J0 48 u9) 49 d9)), (oa (a 5) cI 201 st), (oa (a 6) cZ 201 tn), (oa (a 1) cI 201 kd), (oa (a 11) cI 201 mn), (oa (a 12) cI 8040 cx), (oa (a 13) cI 8040 cy), (oa (a 32) cI 8 S1), (oa (a 22) cI (64 * cl) la), (oa (a 23) cI (64 * cl) lb), (oa (a 24) cI (64 * cl) lc), (oa (a 25) cI (64 * cl) ld)] t.heap ∧ va_D A [(om k0 a I0 (vp_updL (vp_updL J0 48 u9) 49 d9)), (oa (a 5) cI 201 st), (oa (a 6) cZ 201 tn), (oa (a 1) cI 201 kd), (oa (a 11) cI 201 mn), (oa (a 12) cI 8040 cx), (oa (a 13) cI 8040 cy), (oa (a 32) cI 8 S1), (oa (a 22) cI (64 * cl) la), (oa (a 23) cI (64 * cl) lb), (oa (a 24) cI (64 * cl) lc), (oa (a 25) cI (64 * cl) ld)]) A) ([.ref k0, .int (nI f), .int 1] : List Value).toArray s 0 0 A := ⟨_, rfl⟩
  rw [← hQ9]
  have hl := lv_entry ([.ref k0, .int (nI f), .int 1]) (n := 9) (Nat.le_of_ble_eq_true rfl)
  rw [lg_entry_eq]
  generalize (lg_sl ([.ref k0, .int (nI f), .int 1]) ++ List.replicate (9 - (lg_sl ([.ref k0, .int (nI f), .int 1])).length) Slot.unset).toArray = ls at hl ⊢
  have hl : lv_has ls 9 [(0, .ref k0), (1, .int (nI f)), (2, .int 1)] := hl
  have hw_ff := hwf f (by first | with_reducible assumption | assumption)
  have hm_ff := hw_ff.1
  have hn_ff := hw_ff.2.1
  have hp_ff := hw_ff.2.2
  have hee := eO_le (k := (kd f).toInt) hn_ff.1
  refine lv_aload_n hx hb dX11_far_0 rfl (lv_at hl 0 rfl) ?_
  refine lv_iload_n hx hb dX11_far_1 rfl (lv_at hl 1 rfl) ?_
  obtain ⟨hPc, hDc, hFc, hI1⟩ := zi_sub (wc := [_, _, _]) hP hD hS hA [0, 1, 2] rfl rfl
  refine zcall (st1 := [.int (pI (f < ft ∧ (st f).toInt = 1 ∧ (tn f).toInt = 0))]) (va_runV (As := [.int (nI f)]) (rest := []) ⟨hx, hb, hml, hown, hts⟩ (k_M_is_n l dC dI cI cZ cF s.heap.size k0 a I0 J0 f ft st tn (by first | with_reducible assumption | assumption) (by first | with_reducible assumption | omega) (by first | with_reducible assumption | omega)) (csV_179 hts rfl rfl ⟨Nat.le_of_ble_eq_true rfl, Nat.le_of_ble_eq_true rfl⟩) (zPV2 (q0 := 0) (ci := 9) hPc hDc hK hXN rfl rfl) rfl rfl hl.1 rfl (lv_room (Nat.le_of_ble_eq_true rfl)) dX11_far_2 ⟨Nat.le_of_ble_eq_true rfl, Nat.le_of_ble_eq_true rfl⟩) hS hFc hFc rfl (fun t H locs ht hB hk1 hS => ?_)
  obtain ⟨hP1, hD1⟩ := hB
  rw [ht] at hP1
  replace hP := z0 hP hD hk1 hP1 hI1
  clear hk1 hPc hDc hFc hP1 hD1 ht hI1
  refine lv_if_eq (tgt := 17) hx hb dX11_far_5 rfl (fun c_1 => ?_) (fun c_1 => ?_)
  · have c_1 : ¬ (f < ft ∧ (st f).toInt = 1 ∧ (tn f).toInt = 0) := zp_0 c_1
    exfalso; exact absurd hlv (by first | with_reducible assumption | assumption)
  · have c_1 : f < ft ∧ (st f).toInt = 1 ∧ (tn f).toInt = 0 := zp_1 c_1
    refine lv_iload_n hx hb dX11_far_8 rfl (lv_at hl 2 rfl) ?_
    refine lv_if_lt (tgt := 17) hx hb dX11_far_9 rfl (fun c_2 => ?_) (fun c_2 => ?_)
    · exact absurd c_2 (by decide)
    · refine lv_iload_n hx hb dX11_far_12 rfl (lv_at hl 2 rfl) ?_
      refine lv_iconst (v := 1) hx hb dX11_far_13 rfl ?_
      refine lv_icmp_le (tgt := 21) hx hb dX11_far_14 rfl (fun c_3 => ?_) (fun c_3 => ?_)
      · refine lv_lconst (v := 0) hx hb dX11_far_21 rfl ?_
        refine zz_l (v := jI 0) (jI_0) ?_
        refine lv_lstore_n (lv' := [(3, .long (jI 0)), (0, .ref k0), (1, .int (nI f)), (2, .int 1)]) hx hb dX11_far_22 rfl hl (Nat.le_of_ble_eq_true rfl) rfl (fun ls hl => ?_)
        refine lv_lconst (v := 1) hx hb dX11_far_23 rfl ?_
        refine zz_l (v := jI 1) (jI_1) ?_
        refine lv_lstore (lv' := [(5, .long (jI 1)), (3, .long (jI 0)), (0, .ref k0), (1, .int (nI f)), (2, .int 1)]) hx hb dX11_far_24 hl (Nat.le_of_ble_eq_true rfl) rfl (fun ls hl => ?_)
        refine lv_iconst (v := 0) hx hb dX11_far_26 rfl ?_
        refine lv_istore (lv' := [(7, .int 0), (5, .long (jI 1)), (3, .long (jI 0)), (0, .ref k0), (1, .int (nI f)), (2, .int 1)]) hx hb dX11_far_27 hl (Nat.le_of_ble_eq_true rfl) rfl (fun ls hl => ?_)
        have hl_29 : ∀ (n9 : Nat) (j9 : Nat) (ua : Int) (ub : Int) (u9 : Int64) (d9 : Int64) (S1 : Nat → Int32) (H : Heap) (locs : List Loc) (ls : Array Slot), ln - j9 < n9 → (j9 ≤ ln) → ((0 ≤ ua ∧ ua ≤ 4000000000000) ∧ (1 ≤ ub ∧ ub ≤ 2000000)) → (XM (fxQ (fT la lb lc ld f dn j9) (nN (mn f)) (cF40 cx f) (cF40 cy f) (eO (kd f).toInt (nN (mn f)))) ua ub) → va_P (dC, dI) classes [(om k0 a I0 (vp_updL (vp_updL J0 48 u9) 49 d9)), (oa (a 5) cI 201 st), (oa (a 6) cZ 201 tn), (oa (a 1) cI 201 kd), (oa (a 11) cI 201 mn), (oa (a 12) cI 8040 cx), (oa (a 13) cI 8040 cy), (oa (a 32) cI 8 S1), (oa (a 22) cI (64 * cl) la), (oa (a 23) cI (64 * cl) lb), (oa (a 24) cI (64 * cl) lc), (oa (a 25) cI (64 * cl) ld)] H → va_D A [(om k0 a I0 (vp_updL (vp_updL J0 48 u9) 49 d9)), (oa (a 5) cI 201 st), (oa (a 6) cZ 201 tn), (oa (a 1) cI 201 kd), (oa (a 11) cI 201 mn), (oa (a 12) cI 8040 cx), (oa (a 13) cI 8040 cy), (oa (a 32) cI 8 S1), (oa (a 22) cI (64 * cl) la), (oa (a 23) cI (64 * cl) lb), (oa (a 24) cI (64 * cl) lc), (oa (a 25) cI (64 * cl) ld)] → va_S A s.heap H locs → lv_has ls 9 [(7, .int (nI j9)), (5, .long (jI ub)), (3, .long (jI ua)), (0, .ref k0), (1, .int (nI f)), (2, .int 1)] → W p l e ((headSpec (.code yX11_far cX11_far 9 (some .long) :: ws0) ({ frames := 2, cells := 0, slots := 0, locals := 70 } : Room)).room) s m ([.ref k0, .int (nI f), .int 1] : List Value).toArray below meth c H locs 0 0 Q9 (F0 m 29 ls []) := by
          intro n9
          induction n9 with
          | zero => intro j9 ua ub u9 d9 S1 H locs ls hm; exact absurd hm (Nat.not_lt_zero _)
          | succ n9 ih_29 =>
            intro j9 ua ub u9 d9 S1 H locs ls hm hj9 hab hxm hP hD hS hl
            refine lv_iload hx hb dX11_far_29 (lv_at hl 0 rfl) ?_
            refine lv_aload_n hx hb dX11_far_31 rfl (lv_at hl 3 rfl) ?_
            refine va_get (D := (dC, dI)) (ci := 9) (v := .int (I0 26)) (C := RX11) (T := TX11) (N := 55) hx hb hts inX11 hown hK hP 0 rfl rfl 26 (Nat.le_of_ble_eq_true rfl) (hts _ mw_1185) (fun _ h9 => h9) rfl dX11_far_32 ?_
            refine zz_i (v := nI ln) (hln) ?_
            have b9_5 : zlt (j9) := show j9 < 2147483648 by omega
            have b9_6 : zlt (ln) := show ln < 2147483648 by omega
            refine lv_icmp_ge (tgt := 161) hx hb dX11_far_35 rfl (fun c_4 => ?_) (fun c_4 => ?_)
            · have c_4 : ((ln : Nat) : Int) ≤ ((j9 : Nat) : Int) := zc_le (nI_toInt b9_6) (nI_toInt b9_5) c_4
              refine lv_aload_n hx hb dX11_far_161 rfl (lv_at hl 3 rfl) ?_
              refine lv_lload_n hx hb dX11_far_162 rfl (lv_at hl 2 rfl) ?_
              refine va_put (D := (dC, dI)) (ci := 9) (v := .long (jI ua)) (ty := .long) (C := RX11) (T := TX11) (N := 55) hx hb hts inX11 tyX11 tyX11_ok nmX11 hown hK hP hD hS 0 rfl rfl 48 (by decide) (hts _ mw_1207) (fun _ h9 => h9) rfl (by decide +kernel) rfl rfl (Nat.le_of_ble_eq_true rfl) dX11_far_163 (fun H locs hP hD hS => ?_)
              obtain ⟨hP, hD⟩ := zre (W2 := [(om k0 a I0 (vp_updL (vp_updL J0 48 (jI ua)) 49 d9)), _, _, _, _, _, _, _, _, _, _, _]) hP hD rfl
              refine lv_aload_n hx hb dX11_far_166 rfl (lv_at hl 3 rfl) ?_
              refine lv_lload hx hb dX11_far_167 (lv_at hl 1 rfl) ?_
              refine va_put (D := (dC, dI)) (ci := 9) (v := .long (jI ub)) (ty := .long) (C := RX11) (T := TX11) (N := 55) hx hb hts inX11 tyX11 tyX11_ok nmX11 hown hK hP hD hS 0 rfl rfl 49 (by decide) (hts _ mw_1208) (fun _ h9 => h9) rfl (by decide +kernel) rfl rfl (Nat.le_of_ble_eq_true rfl) dX11_far_169 (fun H locs hP hD hS => ?_)
              obtain ⟨hP, hD⟩ := zre (W2 := [(om k0 a I0 (vp_updL (vp_updL J0 48 (jI ua)) 49 (jI ub))), _, _, _, _, _, _, _, _, _, _, _]) hP hD rfl
              obtain ⟨un, hun⟩ : ∃ un : Nat, ua = ((un : Nat) : Int) := ⟨ua.toNat, by omega⟩
              obtain ⟨dd, hdd⟩ : ∃ dd : Nat, ub = ((dd : Nat) : Int) := ⟨ub.toNat, by omega⟩
              rw [hun, hdd] at hP hD
              refine lv_aload_n hx hb dX11_far_172 rfl (lv_at hl 3 rfl) ?_
              obtain ⟨hPc, hDc, hFc⟩ := zo_sub (wc := [_]) hP hD hS hA [0] rfl rfl
              refine zcall (st1 := []) (va_runV (As := []) (rest := []) ⟨hx, hb, hml, hown, hts⟩ (k_M_plainFraction l dC dI cI cZ cF H.size k0 a I0 (vp_updL (vp_updL J0 48 (jI ((un : Nat) : Int))) 49 (jI ((dd : Nat) : Int))) un dd (by first | with_reducible assumption | omega) (by first | with_reducible assumption | omega)) (csV_224 hts rfl rfl ⟨Nat.le_of_ble_eq_true rfl, Nat.le_of_ble_eq_true rfl⟩) (zPV2 (q0 := 0) (ci := 9) hPc hDc hK hXN rfl rfl) rfl rfl hl.1 rfl (lv_room (Nat.le_of_ble_eq_true rfl)) dX11_far_173 ⟨Nat.le_of_ble_eq_true rfl, Nat.le_of_ble_eq_true rfl⟩) hS hFc hFc rfl (fun t H locs ht hB hk1 hS => ?_)
              obtain ⟨hP1, hD1⟩ := hB
              rw [ht] at hP1
              obtain ⟨hP, hD⟩ := zn (W2 := [(om k0 a I0 (vp_updL (vp_updL J0 48 (jI ((un / Nat.gcd un dd : Nat) : Int))) 49 (jI ((dd / Nat.gcd un dd : Nat) : Int)))), _, _, _, _, _, _, _, _, _, _, _]) hP hD hk1 hFc hP1 hD1 [0] zl_171 zl_171 [0] (by decide +kernel) rfl rfl rfl rfl rfl
              clear hk1 hPc hDc hFc hP1 hD1 ht
              refine lv_iload_n hx hb dX11_far_176 rfl (lv_at hl 5 rfl) ?_
              refine lv_if_ne (tgt := 187) hx hb dX11_far_177 rfl (fun c_7 => ?_) (fun c_7 => ?_)
              · refine lv_aload_n hx hb dX11_far_187 rfl (lv_at hl 3 rfl) ?_
                refine va_get (D := (dC, dI)) (ci := 9) (v := .long (jI ((dd / Nat.gcd un dd : Nat) : Int))) (C := RX11) (T := TX11) (N := 55) hx hb hts inX11 hown hK hP 0 rfl rfl 49 (Nat.le_of_ble_eq_true rfl) (hts _ mw_1208) (fun _ h9 => h9) rfl dX11_far_188 ?_
                have hje : j9 = ln := (by omega)
                rw [hje, hun, hdd] at hxm
                obtain ⟨hP9, hD9⟩ := zu_sub (wc := [_, _, _, _, _, _, _, _, _, _, _, _]) hP hD [true, true, true, true, true, true, true, true, true, true, true, true] rfl rfl
                rw [hQ9]
                exact W.lret (v := jI ((dd / Nat.gcd un dd : Nat) : Int)) hx hb hr (fun t ht hW => ⟨⟨_, rfl, un, dd, (jI ((un / Nat.gcd un dd : Nat) : Int)), (jI ((dd / Nat.gcd un dd : Nat) : Int)), S1, rfl, (hxm), (by omega), by rw [ht]; exact hP9, hD9⟩, hS.F ht⟩) hS.2.2 dX11_far_191
              · exact absurd c_7 (by decide)
            · have c_4 : ((j9 : Nat) : Int) < ((ln : Nat) : Int) := zc_nle (nI_toInt b9_6) (nI_toInt b9_5) c_4
              refine lv_aload_n hx hb dX11_far_38 rfl (lv_at hl 3 rfl) ?_
              refine va_get (D := (dC, dI)) (ci := 9) (v := .ref (a 22)) (C := RX11) (T := TX11) (N := 55) hx hb hts inX11 hown hK hP 0 rfl rfl 22 (Nat.le_of_ble_eq_true rfl) (hts _ mw_1181) (fun _ h9 => h9) rfl dX11_far_39 ?_
              refine lv_iload hx hb dX11_far_42 (lv_at hl 0 rfl) ?_
              have b9_8 : j9 < (64 * cl) := by omega
              have b9_9 : zlt ((64 * cl)) := show (64 * cl) < 2147483648 by omega
              refine z_iald hx hb hK hP 8 0 rfl rfl (e := j9) rfl b9_8 b9_9 dX11_far_44 ?_
              refine lv_iload_n hx hb dX11_far_45 rfl (lv_at hl 4 rfl) ?_
              have b9_11 : zlt (f) := show f < 2147483648 by omega
              refine lv_icmp_ne (tgt := 155) hx hb dX11_far_46 rfl (fun c_10 => ?_) (fun c_10 => ?_)
              · have c_10 : ¬ (la j9).toInt = ((f : Nat) : Int) := zc_ne rfl (nI_toInt b9_11) c_10
                refine lv_iinc (v := nI (j9 + 1)) (lv' := [(7, .int (nI (j9 + 1))), (5, .long (jI ub)), (3, .long (jI ua)), (0, .ref k0), (1, .int (nI f)), (2, .int 1)]) hx hb dX11_far_155 hl (k := 0) rfl (nI_add j9 1) (Nat.le_of_ble_eq_true rfl) rfl (fun ls hl => ?_)
                refine lv_goto (tgt := 29) hx hb dX11_far_158 rfl ?_
                exact ih_29 (j9 + 1) ua ub u9 d9 S1 H locs ls (by first | with_reducible assumption | omega) (by first | with_reducible assumption | omega) (by first | exact hab | (have h9 := hd1 (by first | with_reducible assumption | omega); omega)) (by first | exact fxQ_cg (fun x y => fT_y hla9 hld9) (hxs.1 (by first | with_reducible assumption | assumption)) | exact fxQ_cg (fun x y => fT_y hla9 hld9) (hxs.2 (by first | with_reducible assumption | assumption)) | exact fxQ_cg (fun x y => fT_n (fun h9 => by first | (have e9 := congrArg Int32.toInt h9.1; rw [nI_toInt (by first | with_reducible assumption | omega)] at e9; omega) | (have e9 := h9.2; omega))) hxm) hP hD hS (lv_sub hl [0, 1, 2, 3, 4, 5] rfl)
              · have c_10 : (la j9).toInt = ((f : Nat) : Int) := zc_eq rfl (nI_toInt b9_11) c_10
                refine lv_aload_n hx hb dX11_far_49 rfl (lv_at hl 3 rfl) ?_
                refine va_get (D := (dC, dI)) (ci := 9) (v := .ref (a 25)) (C := RX11) (T := TX11) (N := 55) hx hb hts inX11 hown hK hP 0 rfl rfl 25 (Nat.le_of_ble_eq_true rfl) (hts _ mw_1184) (fun _ h9 => h9) rfl dX11_far_50 ?_
                refine lv_iload hx hb dX11_far_53 (lv_at hl 0 rfl) ?_
                refine z_iald hx hb hK hP 11 0 rfl rfl (e := j9) rfl b9_8 b9_9 dX11_far_55 ?_
                refine lv_aload_n hx hb dX11_far_56 rfl (lv_at hl 3 rfl) ?_
                refine va_get (D := (dC, dI)) (ci := 9) (v := .int (I0 19)) (C := RX11) (T := TX11) (N := 55) hx hb hts inX11 hown hK hP 0 rfl rfl 19 (Nat.le_of_ble_eq_true rfl) (hts _ mw_1178) (fun _ h9 => h9) rfl dX11_far_57 ?_
                refine zz_i (v := nI dn) (hdn) ?_
                have b9_13 : zlt (dn) := show dn < 2147483648 by omega
                refine lv_icmp_le (tgt := 66) hx hb dX11_far_60 rfl (fun c_12 => ?_) (fun c_12 => ?_)
                · have c_12 : (ld j9).toInt ≤ ((dn : Nat) : Int) := zc_le rfl (nI_toInt b9_13) c_12
                  have hla9 : la j9 = nI f := Int32.toInt_inj.mp (by rw [nI_toInt (by omega)]; omega)
                  have hld9 : (ld j9).toInt ≤ ((dn : Nat) : Int) := (by omega)
                  refine lv_aload_n hx hb dX11_far_66 rfl (lv_at hl 3 rfl) ?_
                  refine lv_lconst (v := 0) hx hb dX11_far_67 rfl ?_
                  refine zz_l (v := jI 0) (jI_0) ?_
                  refine va_put (D := (dC, dI)) (ci := 9) (v := .long (jI 0)) (ty := .long) (C := RX11) (T := TX11) (N := 55) hx hb hts inX11 tyX11 tyX11_ok nmX11 hown hK hP hD hS 0 rfl rfl 48 (by decide) (hts _ mw_1207) (fun _ h9 => h9) rfl (by decide +kernel) rfl rfl (Nat.le_of_ble_eq_true rfl) dX11_far_68 (fun H locs hP hD hS => ?_)
                  obtain ⟨hP, hD⟩ := zre (W2 := [(om k0 a I0 (vp_updL (vp_updL J0 48 (jI 0)) 49 d9)), _, _, _, _, _, _, _, _, _, _, _]) hP hD rfl
                  refine lv_aload_n hx hb dX11_far_71 rfl (lv_at hl 3 rfl) ?_
                  refine lv_lconst (v := 0) hx hb dX11_far_72 rfl ?_
                  refine zz_l (v := jI 0) (jI_0) ?_
                  refine va_put (D := (dC, dI)) (ci := 9) (v := .long (jI 0)) (ty := .long) (C := RX11) (T := TX11) (N := 55) hx hb hts inX11 tyX11 tyX11_ok nmX11 hown hK hP hD hS 0 rfl rfl 49 (by decide) (hts _ mw_1208) (fun _ h9 => h9) rfl (by decide +kernel) rfl rfl (Nat.le_of_ble_eq_true rfl) dX11_far_73 (fun H locs hP hD hS => ?_)
                  obtain ⟨hP, hD⟩ := zre (W2 := [(om k0 a I0 (vp_updL (vp_updL J0 48 (jI 0)) 49 (jI 0))), _, _, _, _, _, _, _, _, _, _, _]) hP hD rfl
                  refine lv_iconst (v := 0) hx hb dX11_far_76 rfl ?_
                  refine lv_istore (lv' := [(8, .int 0), (7, .int (nI j9)), (5, .long (jI ub)), (3, .long (jI ua)), (0, .ref k0), (1, .int (nI f)), (2, .int 1)]) hx hb dX11_far_77 hl (Nat.le_of_ble_eq_true rfl) rfl (fun ls hl => ?_)
                  have hl_79 : ∀ (n9 : Nat) (e9 : Nat) (u2 : Int) (d2 : Int) (S2 : Nat → Int32) (H : Heap) (locs : List Loc) (ls : Array Slot), eO (kd f).toInt (nN (mn f)) - e9 < n9 → (e9 ≤ eO (kd f).toInt (nN (mn f))) → ((0 ≤ u2 ∧ u2 ≤ 4000000000000) ∧ (0 ≤ d2 ∧ d2 ≤ 2000000)) → (0 < e9 → 1 ≤ d2) → (IM (ofP (fun _ _ => False) (nN (mn f)) (cF40 cx f) (cF40 cy f) (lb j9).toInt (lc j9).toInt e9) u2 d2) → va_P (dC, dI) classes [(om k0 a I0 (vp_updL (vp_updL J0 48 (jI u2)) 49 (jI d2))), (oa (a 5) cI 201 st), (oa (a 6) cZ 201 tn), (oa (a 1) cI 201 kd), (oa (a 11) cI 201 mn), (oa (a 12) cI 8040 cx), (oa (a 13) cI 8040 cy), (oa (a 32) cI 8 S2), (oa (a 22) cI (64 * cl) la), (oa (a 23) cI (64 * cl) lb), (oa (a 24) cI (64 * cl) lc), (oa (a 25) cI (64 * cl) ld)] H → va_D A [(om k0 a I0 (vp_updL (vp_updL J0 48 (jI u2)) 49 (jI d2))), (oa (a 5) cI 201 st), (oa (a 6) cZ 201 tn), (oa (a 1) cI 201 kd), (oa (a 11) cI 201 mn), (oa (a 12) cI 8040 cx), (oa (a 13) cI 8040 cy), (oa (a 32) cI 8 S2), (oa (a 22) cI (64 * cl) la), (oa (a 23) cI (64 * cl) lb), (oa (a 24) cI (64 * cl) lc), (oa (a 25) cI (64 * cl) ld)] → va_S A s.heap H locs → lv_has ls 9 [(8, .int (nI e9)), (7, .int (nI j9)), (5, .long (jI ub)), (3, .long (jI ua)), (0, .ref k0), (1, .int (nI f)), (2, .int 1)] → W p l e ((headSpec (.code yX11_far cX11_far 9 (some .long) :: ws0) ({ frames := 2, cells := 0, slots := 0, locals := 70 } : Room)).room) s m ([.ref k0, .int (nI f), .int 1] : List Value).toArray below meth c H locs 0 0 Q9 (F0 m 79 ls []) := by
                    intro n9
                    induction n9 with
                    | zero => intro e9 u2 d2 S2 H locs ls hm; exact absurd hm (Nat.not_lt_zero _)
                    | succ n9 ih_79 =>
                      intro e9 u2 d2 S2 H locs ls hm he9 hud2 hd1 him2 hP hD hS hl
                      refine lv_iload hx hb dX11_far_79 (lv_at hl 0 rfl) ?_
                      refine lv_aload_n hx hb dX11_far_81 rfl (lv_at hl 4 rfl) ?_
                      refine lv_iload_n hx hb dX11_far_82 rfl (lv_at hl 5 rfl) ?_
                      obtain ⟨hPc, hDc, hFc, hI1⟩ := zi_sub (wc := [_, _, _]) hP hD hS hA [0, 3, 4] rfl rfl
                      refine zcall (st1 := [.int (nI (eO (kd f).toInt (nN (mn f)))), .int (nI e9)]) (va_runV (As := [.int (nI f)]) (rest := [.int (nI e9)]) ⟨hx, hb, hml, hown, hts⟩ (k_M_edgesOf l dC dI cI cZ cF H.size k0 a I0 (vp_updL (vp_updL J0 48 (jI u2)) 49 (jI d2)) f (nN (mn f)) kd mn (by first | with_reducible assumption | omega) (hm_ff) (hn_ff)) (csV_166 hts rfl rfl ⟨Nat.le_of_ble_eq_true rfl, Nat.le_of_ble_eq_true rfl⟩) (zPV2 (q0 := 0) (ci := 9) hPc hDc hK hXN rfl rfl) rfl rfl hl.1 rfl (lv_room (Nat.le_of_ble_eq_true rfl)) dX11_far_83 ⟨Nat.le_of_ble_eq_true rfl, Nat.le_of_ble_eq_true rfl⟩) hS hFc hFc rfl (fun t H locs ht hB hk1 hS => ?_)
                      obtain ⟨hP1, hD1⟩ := hB
                      rw [ht] at hP1
                      replace hP := z0 hP hD hk1 hP1 hI1
                      clear hk1 hPc hDc hFc hP1 hD1 ht hI1
                      have b9_15 : zlt (e9) := show e9 < 2147483648 by omega
                      have b9_16 : zlt ((eO (kd f).toInt (nN (mn f)))) := show (eO (kd f).toInt (nN (mn f))) < 2147483648 by omega
                      refine lv_icmp_ge (tgt := 126) hx hb dX11_far_86 rfl (fun c_14 => ?_) (fun c_14 => ?_)
                      · have c_14 : ((eO (kd f).toInt (nN (mn f)) : Nat) : Int) ≤ ((e9 : Nat) : Int) := zc_le (nI_toInt b9_16) (nI_toInt b9_15) c_14
                        have he10 : e9 = eO (kd f).toInt (nN (mn f)) := (by omega)
                        rw [he10] at him2
                        have hxs := XM_s hxm him2 (hd1 (by omega)) hud2.1.1
                        refine lv_aload_n hx hb dX11_far_126 rfl (lv_at hl 4 rfl) ?_
                        refine lv_lload_n hx hb dX11_far_127 rfl (lv_at hl 3 rfl) ?_
                        refine lv_lload hx hb dX11_far_128 (lv_at hl 2 rfl) ?_
                        refine lv_aload_n hx hb dX11_far_130 rfl (lv_at hl 4 rfl) ?_
                        refine va_get (D := (dC, dI)) (ci := 9) (v := .long (jI u2)) (C := RX11) (T := TX11) (N := 55) hx hb hts inX11 hown hK hP 0 rfl rfl 48 (Nat.le_of_ble_eq_true rfl) (hts _ mw_1207) (fun _ h9 => h9) rfl dX11_far_131 ?_
                        refine lv_aload_n hx hb dX11_far_134 rfl (lv_at hl 4 rfl) ?_
                        refine va_get (D := (dC, dI)) (ci := 9) (v := .long (jI d2)) (C := RX11) (T := TX11) (N := 55) hx hb hts inX11 hown hK hP 0 rfl rfl 49 (Nat.le_of_ble_eq_true rfl) (hts _ mw_1208) (fun _ h9 => h9) rfl dX11_far_135 ?_
                        obtain ⟨hPc, hDc, hFc, hI1⟩ := zi_sub (wc := [_]) hP hD hS hA [0] rfl rfl
                        refine zcall (st1 := [.int (pI (ua * d2 < u2 * ub))]) (va_runV (As := [.long (jI ua), .long (jI ub), .long (jI u2), .long (jI d2)]) (rest := []) ⟨hx, hb, hml, hown, hts⟩ (k_M_isLess l dC dI cI cZ cF H.size k0 a I0 (vp_updL (vp_updL J0 48 (jI u2)) 49 (jI d2)) ua ub u2 d2 (prN hab.1 hud2.2) (prN hud2.1 ⟨by omega, hab.2.2⟩) (by first | with_reducible assumption | omega) (by first | with_reducible assumption | omega) (by first | with_reducible assumption | omega) (by first | with_reducible assumption | omega)) (csV_217 hts rfl rfl ⟨Nat.le_of_ble_eq_true rfl, Nat.le_of_ble_eq_true rfl⟩) (zPV2 (q0 := 0) (ci := 9) hPc hDc hK hXN rfl rfl) rfl rfl hl.1 rfl (lv_room (Nat.le_of_ble_eq_true rfl)) dX11_far_138 ⟨Nat.le_of_ble_eq_true rfl, Nat.le_of_ble_eq_true rfl⟩) hS hFc hFc rfl (fun t H locs ht hB hk1 hS => ?_)
                        obtain ⟨hP1, hD1⟩ := hB
                        rw [ht] at hP1
                        replace hP := z0 hP hD hk1 hP1 hI1
                        clear hk1 hPc hDc hFc hP1 hD1 ht hI1
                        refine lv_if_eq (tgt := 155) hx hb dX11_far_141 rfl (fun c_17 => ?_) (fun c_17 => ?_)
                        · have c_17 : ¬ (ua * d2 < u2 * ub) := zp_0 c_17
                          refine lv_iinc (v := nI (j9 + 1)) (lv' := [(7, .int (nI (j9 + 1))), (8, .int (nI e9)), (5, .long (jI ub)), (3, .long (jI ua)), (0, .ref k0), (1, .int (nI f)), (2, .int 1)]) hx hb dX11_far_155 hl (k := 1) rfl (nI_add j9 1) (Nat.le_of_ble_eq_true rfl) rfl (fun ls hl => ?_)
                          refine lv_goto (tgt := 29) hx hb dX11_far_158 rfl ?_
                          exact ih_29 (j9 + 1) ua ub (jI u2) (jI d2) S2 H locs ls (by first | with_reducible assumption | omega) (by first | with_reducible assumption | omega) (by first | exact hab | (have h9 := hd1 (by first | with_reducible assumption | omega); omega)) (by first | exact fxQ_cg (fun x y => fT_y hla9 hld9) (hxs.1 (by first | with_reducible assumption | assumption)) | exact fxQ_cg (fun x y => fT_y hla9 hld9) (hxs.2 (by first | with_reducible assumption | assumption)) | exact fxQ_cg (fun x y => fT_n (fun h9 => by first | (have e9 := congrArg Int32.toInt h9.1; rw [nI_toInt (by first | with_reducible assumption | omega)] at e9; omega) | (have e9 := h9.2; omega))) hxm) hP hD hS (lv_sub hl [0, 2, 3, 4, 5, 6] rfl)
                        · have c_17 : ua * d2 < u2 * ub := zp_1 c_17
                          refine lv_aload_n hx hb dX11_far_144 rfl (lv_at hl 4 rfl) ?_
                          refine va_get (D := (dC, dI)) (ci := 9) (v := .long (jI u2)) (C := RX11) (T := TX11) (N := 55) hx hb hts inX11 hown hK hP 0 rfl rfl 48 (Nat.le_of_ble_eq_true rfl) (hts _ mw_1207) (fun _ h9 => h9) rfl dX11_far_145 ?_
                          refine lv_lstore_n (lv' := [(3, .long (jI u2)), (8, .int (nI e9)), (7, .int (nI j9)), (5, .long (jI ub)), (0, .ref k0), (1, .int (nI f)), (2, .int 1)]) hx hb dX11_far_148 rfl hl (Nat.le_of_ble_eq_true rfl) rfl (fun ls hl => ?_)
                          refine lv_aload_n hx hb dX11_far_149 rfl (lv_at hl 4 rfl) ?_
                          refine va_get (D := (dC, dI)) (ci := 9) (v := .long (jI d2)) (C := RX11) (T := TX11) (N := 55) hx hb hts inX11 hown hK hP 0 rfl rfl 49 (Nat.le_of_ble_eq_true rfl) (hts _ mw_1208) (fun _ h9 => h9) rfl dX11_far_150 ?_
                          refine lv_lstore (lv' := [(5, .long (jI d2)), (3, .long (jI u2)), (8, .int (nI e9)), (7, .int (nI j9)), (0, .ref k0), (1, .int (nI f)), (2, .int 1)]) hx hb dX11_far_153 hl (Nat.le_of_ble_eq_true rfl) rfl (fun ls hl => ?_)
                          refine lv_iinc (v := nI (j9 + 1)) (lv' := [(7, .int (nI (j9 + 1))), (5, .long (jI d2)), (3, .long (jI u2)), (8, .int (nI e9)), (0, .ref k0), (1, .int (nI f)), (2, .int 1)]) hx hb dX11_far_155 hl (k := 3) rfl (nI_add j9 1) (Nat.le_of_ble_eq_true rfl) rfl (fun ls hl => ?_)
                          refine lv_goto (tgt := 29) hx hb dX11_far_158 rfl ?_
                          exact ih_29 (j9 + 1) u2 d2 (jI u2) (jI d2) S2 H locs ls (by first | with_reducible assumption | omega) (by first | with_reducible assumption | omega) (by first | exact hab | (have h9 := hd1 (by first | with_reducible assumption | omega); omega)) (by first | exact fxQ_cg (fun x y => fT_y hla9 hld9) (hxs.1 (by first | with_reducible assumption | assumption)) | exact fxQ_cg (fun x y => fT_y hla9 hld9) (hxs.2 (by first | with_reducible assumption | assumption)) | exact fxQ_cg (fun x y => fT_n (fun h9 => by first | (have e9 := congrArg Int32.toInt h9.1; rw [nI_toInt (by first | with_reducible assumption | omega)] at e9; omega) | (have e9 := h9.2; omega))) hxm) hP hD hS (lv_sub hl [0, 1, 2, 4, 5, 6] rfl)
                      · have c_14 : ((e9 : Nat) : Int) < ((eO (kd f).toInt (nN (mn f)) : Nat) : Int) := zc_nle (nI_toInt b9_16) (nI_toInt b9_15) c_14
                        have hi9 : e9 < nN (mn f) := (by omega)
                        have hnx := nxt_lt (n := nN (mn f)) (i := e9) (by omega)
                        refine lv_aload_n hx hb dX11_far_89 rfl (lv_at hl 4 rfl) ?_
                        refine lv_iload_n hx hb dX11_far_90 rfl (lv_at hl 5 rfl) ?_
                        refine lv_iload hx hb dX11_far_91 (lv_at hl 0 rfl) ?_
                        refine lv_iconst (v := 0) hx hb dX11_far_93 rfl ?_
                        obtain ⟨hPc, hDc, hFc⟩ := zo_sub (wc := [_, _, _, _, _]) hP hD hS hA [0, 4, 5, 6, 7] (by decide +kernel) rfl
                        refine zcall (st1 := []) (va_runV (As := [.int (nI f), .int (nI e9), .int 0]) (rest := []) ⟨hx, hb, hml, hown, hts⟩ (k_M_edge l dC dI cI cZ cF H.size k0 a I0 (vp_updL (vp_updL J0 48 (jI u2)) 49 (jI d2)) f (nN (mn f)) e9 0 mn cx cy S2 (by first | with_reducible assumption | omega) (hm_ff) (hn_ff) (by first | with_reducible assumption | omega) (by first | with_reducible assumption | omega)) (csV_167 hts rfl rfl ⟨Nat.le_of_ble_eq_true rfl, Nat.le_of_ble_eq_true rfl⟩) (zPV2 (q0 := 0) (ci := 9) hPc hDc hK hXN rfl rfl) rfl rfl hl.1 rfl (lv_room (Nat.le_of_ble_eq_true rfl)) dX11_far_94 ⟨Nat.le_of_ble_eq_true rfl, Nat.le_of_ble_eq_true rfl⟩) hS hFc hFc rfl (fun t H locs ht hB hk1 hS => ?_)
                        obtain ⟨S3, t0, t1, t2, t3, tr, hP1, hD1⟩ := hB
                        rw [ht] at hP1
                        obtain ⟨hP, hD⟩ := zn (W2 := [_, _, _, _, _, _, _, (oa (a 32) cI 8 S3), _, _, _, _]) hP hD hk1 hFc hP1 hD1 [0, 4, 5, 6, 7] zl_271 zl_271 [0, 4, 5, 6, 7] (by decide +kernel) rfl rfl rfl rfl rfl
                        clear hk1 hPc hDc hFc hP1 hD1 ht
                        have v0 : S3 0 = cF40 cx f e9 := t0
                        have v1 : S3 1 = cF40 cy f e9 := t1
                        have v2 : S3 2 = cF40 cx f (nxt (nN (mn f)) e9) := t2
                        have v3 : S3 3 = cF40 cy f (nxt (nN (mn f)) e9) := t3
                        have hs3 : ∀ k, 0 ≤ k → k < 0 + 4 → pl (S3 k) := fun k _ hk => (by rcases (show k = 0 ∨ k = 1 ∨ k = 2 ∨ k = 3 by omega) with h | h | h | h <;> rw [h]; (rw [v0]; exact (hp_ff e9 hi9).1); (rw [v1]; exact (hp_ff e9 hi9).2); (rw [v2]; exact (hp_ff _ hnx).1); (rw [v3]; exact (hp_ff _ hnx).2))
                        refine lv_aload_n hx hb dX11_far_97 rfl (lv_at hl 4 rfl) ?_
                        refine lv_aload_n hx hb dX11_far_98 rfl (lv_at hl 4 rfl) ?_
                        refine va_get (D := (dC, dI)) (ci := 9) (v := .ref (a 32)) (C := RX11) (T := TX11) (N := 55) hx hb hts inX11 hown hK hP 0 rfl rfl 32 (Nat.le_of_ble_eq_true rfl) (hts _ mw_1191) (fun _ h9 => h9) rfl dX11_far_99 ?_
                        refine lv_aload_n hx hb dX11_far_102 rfl (lv_at hl 4 rfl) ?_
                        refine va_get (D := (dC, dI)) (ci := 9) (v := .ref (a 23)) (C := RX11) (T := TX11) (N := 55) hx hb hts inX11 hown hK hP 0 rfl rfl 23 (Nat.le_of_ble_eq_true rfl) (hts _ mw_1182) (fun _ h9 => h9) rfl dX11_far_103 ?_
                        refine lv_iload hx hb dX11_far_106 (lv_at hl 1 rfl) ?_
                        refine z_iald hx hb hK hP 9 0 rfl rfl (e := j9) rfl b9_8 b9_9 dX11_far_108 ?_
                        refine lv_aload_n hx hb dX11_far_109 rfl (lv_at hl 4 rfl) ?_
                        refine va_get (D := (dC, dI)) (ci := 9) (v := .ref (a 24)) (C := RX11) (T := TX11) (N := 55) hx hb hts inX11 hown hK hP 0 rfl rfl 24 (Nat.le_of_ble_eq_true rfl) (hts _ mw_1183) (fun _ h9 => h9) rfl dX11_far_110 ?_
                        refine lv_iload hx hb dX11_far_113 (lv_at hl 1 rfl) ?_
                        refine z_iald hx hb hK hP 10 0 rfl rfl (e := j9) rfl b9_8 b9_9 dX11_far_115 ?_
                        refine lv_iconst (v := 0) hx hb dX11_far_116 rfl ?_
                        obtain ⟨hPc, hDc, hFc⟩ := zo_sub (wc := [_, _]) hP hD hS hA [0, 7] rfl rfl
                        refine zcall (st1 := []) (va_runV (As := [.ref (a 32), .int (lb j9), .int (lc j9), .int 0]) (rest := []) ⟨hx, hb, hml, hown, hts⟩ (k_M_nearer_q l dC dI cI cZ cF H.size k0 a I0 (vp_updL (vp_updL J0 48 (jI u2)) 49 (jI d2)) 0 (lb j9) (lc j9) u2 d2 S3 (by first | with_reducible assumption | omega) (hs3) ((hpl j9 (by first | with_reducible assumption | omega)).1) ((hpl j9 (by first | with_reducible assumption | omega)).2) (hud2.1) (hud2.2)) (csV_225 hts rfl rfl ⟨Nat.le_of_ble_eq_true rfl, Nat.le_of_ble_eq_true rfl⟩) (zPV2 (q0 := 0) (ci := 9) hPc hDc hK hXN rfl rfl) rfl rfl hl.1 rfl (lv_room (Nat.le_of_ble_eq_true rfl)) dX11_far_117 ⟨Nat.le_of_ble_eq_true rfl, Nat.le_of_ble_eq_true rfl⟩) hS hFc hFc rfl (fun t H locs ht hB hk1 hS => ?_)
                        obtain ⟨zu1, zd1, hnd1, hP1, hD1⟩ := hB
                        rw [ht] at hP1
                        obtain ⟨hP, hD⟩ := zn (W2 := [(om k0 a I0 (vp_updL (vp_updL J0 48 (jI zu1)) 49 (jI zd1))), _, _, _, _, _, _, _, _, _, _, _]) hP hD hk1 hFc hP1 hD1 [0, 7] zl_272 zl_272 [0, 7] (by decide +kernel) rfl rfl rfl rfl rfl
                        clear hk1 hPc hDc hFc hP1 hD1 ht
                        have hx1 : ndP u2 d2 (nrU (S3 0).toInt (S3 1).toInt (S3 2).toInt (S3 3).toInt (lb j9).toInt (lc j9).toInt) (nrD (S3 0).toInt (S3 1).toInt (S3 2).toInt (S3 3).toInt (lb j9).toInt (lc j9).toInt) zu1 zd1 := hnd1
                        have hUb9 := nrU_b (hs3 0 (by omega) (by omega)) (hs3 1 (by omega) (by omega)) (hs3 2 (by omega) (by omega)) (hs3 3 (by omega) (by omega)) (hpl j9 (by omega)).1 (hpl j9 (by omega)).2
                        have hb1 := ndP_b hud2.1 hud2.2 hUb9 hx1
                        have hz1 : 1 ≤ zd1 := (by unfold ndP at hx1; rcases hx1 with h9 | h9 <;> omega)
                        have hx2 : ndP u2 d2 (nrU (cF40 cx f e9).toInt (cF40 cy f e9).toInt (cF40 cx f (nxt (nN (mn f)) e9)).toInt (cF40 cy f (nxt (nN (mn f)) e9)).toInt (lb j9).toInt (lc j9).toInt) (nrD (cF40 cx f e9).toInt (cF40 cy f e9).toInt (cF40 cx f (nxt (nN (mn f)) e9)).toInt (cF40 cy f (nxt (nN (mn f)) e9)).toInt (lb j9).toInt (lc j9).toInt) zu1 zd1 := (by rw [← v0, ← v1, ← v2, ← v3]; exact hx1)
                        refine lv_iinc (v := nI (e9 + 1)) (lv' := [(8, .int (nI (e9 + 1))), (7, .int (nI j9)), (5, .long (jI ub)), (3, .long (jI ua)), (0, .ref k0), (1, .int (nI f)), (2, .int 1)]) hx hb dX11_far_120 hl (k := 0) rfl (nI_add e9 1) (Nat.le_of_ble_eq_true rfl) rfl (fun ls hl => ?_)
                        refine lv_goto (tgt := 79) hx hb dX11_far_123 rfl ?_
                        exact ih_79 (e9 + 1) zu1 zd1 S3 H locs ls (by first | with_reducible assumption | omega) (by first | with_reducible assumption | omega) (hb1) (fun _ => hz1) (ofP_s (fun _ _ h => h.elim) hp_ff (hpl j9 (by first | with_reducible assumption | omega)).1 (hpl j9 (by first | with_reducible assumption | omega)).2 (by first | with_reducible assumption | omega) him2 hx2) hP hD hS (lv_sub hl [0, 1, 2, 3, 4, 5, 6] rfl)
                  exact hl_79 _ 0 0 0 S1 H locs ls (Nat.lt_succ_self _) (by first | with_reducible assumption | omega) (by first | with_reducible assumption | omega) (by first | with_reducible assumption | omega) (ofP_0 IM_no) hP hD hS (lv_sub hl [0, 1, 2, 3, 4, 5, 6] rfl)
                · have c_12 : ((dn : Nat) : Int) < (ld j9).toInt := zc_nle rfl (nI_toInt b9_13) c_12
                  refine lv_goto (tgt := 155) hx hb dX11_far_63 rfl ?_
                  refine lv_iinc (v := nI (j9 + 1)) (lv' := [(7, .int (nI (j9 + 1))), (5, .long (jI ub)), (3, .long (jI ua)), (0, .ref k0), (1, .int (nI f)), (2, .int 1)]) hx hb dX11_far_155 hl (k := 0) rfl (nI_add j9 1) (Nat.le_of_ble_eq_true rfl) rfl (fun ls hl => ?_)
                  refine lv_goto (tgt := 29) hx hb dX11_far_158 rfl ?_
                  exact ih_29 (j9 + 1) ua ub u9 d9 S1 H locs ls (by first | with_reducible assumption | omega) (by first | with_reducible assumption | omega) (by first | exact hab | (have h9 := hd1 (by first | with_reducible assumption | omega); omega)) (by first | exact fxQ_cg (fun x y => fT_y hla9 hld9) (hxs.1 (by first | with_reducible assumption | assumption)) | exact fxQ_cg (fun x y => fT_y hla9 hld9) (hxs.2 (by first | with_reducible assumption | assumption)) | exact fxQ_cg (fun x y => fT_n (fun h9 => by first | (have e9 := congrArg Int32.toInt h9.1; rw [nI_toInt (by first | with_reducible assumption | omega)] at e9; omega) | (have e9 := h9.2; omega))) hxm) hP hD hS (lv_sub hl [0, 1, 2, 3, 4, 5] rfl)
        exact hl_29 _ 0 0 1 (J0 48) (J0 49) S0 H locs ls (Nat.lt_succ_self _) (by first | with_reducible assumption | omega) (by first | with_reducible assumption | omega) (XM_0 (fun x y ⟨k, hk, _⟩ => absurd hk (Nat.not_lt_zero k))) hP hD hS (lv_sub hl [0, 1, 2, 3, 4, 5] rfl)
      · exact absurd (by decide) c_3
end
section
set_option maxHeartbeats 4000000 in
set_option maxRecDepth 100000 in
theorem k_M_told_a (l : Launch) (dC : Nat → ClassId) (dI : Nat → Nat → Nat) (cI cZ cF : ClassId) (sz : Nat) (k0 : Nat) (a : Nat → Nat) (I0 : Nat → Int32) (J0 : Nat → Int64) (f : Nat) (ft : Nat) (w : Int32) (kd : Nat → Int32) (rk : Nat → Int32) (wd : Nat → Int32) (tw : Nat → Int32) (mn : Nat → Int32) (st : Nat → Int32) (tn : Nat → Int32) (gb : Nat → Int32) (pa : Nat → Int32) (pb : Nat → Int32) (it : Nat → Int32) (hft : I0 0 = nI ft) (h200 : ft ≤ 200) (hf_t : f < ft) : Met l yX11_told (.code yX11_told cX11_told 3 (some .int) :: ws0) ({ frames := 1, cells := 0, slots := 0, locals := 21 } : Room) (va_Pc [.ref k0, .int (nI f), .int w] (zPre (dC, dI) classes (zTy cI cZ cF) [(om k0 a I0 J0), (oa (a 1) cI 201 kd), (oa (a 2) cI 201 rk), (oa (a 3) cI 201 wd), (oa (a 4) cI 201 tw), (oa (a 11) cI 201 mn), (oa (a 5) cI 201 st), (oa (a 6) cZ 201 tn), (oa (a 7) cI 201 gb), (oa (a 8) cI 201 pa), (oa (a 9) cI 201 pb), (oa (a 10) cI 201 it)] sz zXN)) (zQe (fun v9 t => ∃ (b9 : Int32), v9 = (some (.int b9)) ∧ va_P (dC, dI) classes [(om k0 a I0 J0), (oa (a 1) cI 201 kd), (oa (a 2) cI 201 rk), (oa (a 3) cI 201 wd), (oa (a 4) cI 201 tw), (oa (a 11) cI 201 mn), (oa (a 5) cI 201 st), (oa (a 6) cZ 201 tn), (oa (a 7) cI 201 gb), (oa (a 8) cI 201 pa), (oa (a 9) cI 201 pb), (oa (a 10) cI 201 it)] t.heap ∧ va_D (va_A [(om k0 a I0 J0), (oa (a 1) cI 201 kd), (oa (a 2) cI 201 rk), (oa (a 3) cI 201 wd), (oa (a 4) cI 201 tw), (oa (a 11) cI 201 mn), (oa (a 5) cI 201 st), (oa (a 6) cZ 201 tn), (oa (a 7) cI 201 gb), (oa (a 8) cI 201 pa), (oa (a 9) cI 201 pb), (oa (a 10) cI 201 it)] sz) [(om k0 a I0 J0), (oa (a 1) cI 201 kd), (oa (a 2) cI 201 rk), (oa (a 3) cI 201 wd), (oa (a 4) cI 201 tw), (oa (a 11) cI 201 mn), (oa (a 5) cI 201 st), (oa (a 6) cZ 201 tn), (oa (a 7) cI 201 gb), (oa (a 8) cI 201 pa), (oa (a 9) cI 201 pb), (oa (a 10) cI 201 it)]) (va_A [(om k0 a I0 J0), (oa (a 1) cI 201 kd), (oa (a 2) cI 201 rk), (oa (a 3) cI 201 wd), (oa (a 4) cI 201 tw), (oa (a 11) cI 201 mn), (oa (a 5) cI 201 st), (oa (a 6) cZ 201 tn), (oa (a 7) cI 201 gb), (oa (a 8) cI 201 pa), (oa (a 9) cI 201 pb), (oa (a 10) cI 201 it)] sz)) 0 0 (va_A [(om k0 a I0 J0), (oa (a 1) cI 201 kd), (oa (a 2) cI 201 rk), (oa (a 3) cI 201 wd), (oa (a 4) cI 201 tw), (oa (a 11) cI 201 mn), (oa (a 5) cI 201 st), (oa (a 6) cZ 201 tn), (oa (a 7) cI 201 gb), (oa (a 8) cI 201 pa), (oa (a 9) cI 201 pb), (oa (a 10) cI 201 it)] sz) := by
  refine Met.ofW (cc := cX11_told) (maxL := 3) (ret := (some .int)) rfl rfl ?_
  intro p e s m args below meth c s₁ B hml hv
  obtain ⟨rfl, hsz, hP, hK, hD0, hXN⟩ := hv
  have hx := B.exec
  have hb := B.bytes
  have hr := B.returns
  have hts0 := atoms_spec (ws := .code yX11_told cX11_told 3 (some .int) :: ws0) B.pre
  have hts : ∀ w9 ∈ ws0, w9.before ([.ref k0, .int (nI f), .int w] : List Value).toArray s = true := fun w9 h => hts0 w9 (List.mem_cons_of_mem _ h)
  have hown : s.vm.findClass "ScaleShopModel" = some m.cls := findClass_of_methodNamed B.named
  have hlocks := B.notSynchronized
  subst hsz
  have hD := hD0.self (sz := s.heap.size)
  clear hD0
  generalize hAe : va_A [(om k0 a I0 J0), (oa (a 1) cI 201 kd), (oa (a 2) cI 201 rk), (oa (a 3) cI 201 wd), (oa (a 4) cI 201 tw), (oa (a 11) cI 201 mn), (oa (a 5) cI 201 st), (oa (a 6) cZ 201 tn), (oa (a 7) cI 201 gb), (oa (a 8) cI 201 pa), (oa (a 9) cI 201 pb), (oa (a 10) cI 201 it)] s.heap.size = A at hD ⊢
  have hA : ∀ q : Nat, s.heap.size ≤ q → A q := fun q h => by rw [← hAe]; exact Or.inr h
  clear hAe
  have hS : va_S A s.heap s.heap [] := va_S.rf
  have hP : va_P (dC, dI) classes [(om k0 a I0 J0), (oa (a 1) cI 201 kd), (oa (a 2) cI 201 rk), (oa (a 3) cI 201 wd), (oa (a 4) cI 201 tw), (oa (a 11) cI 201 mn), (oa (a 5) cI 201 st), (oa (a 6) cZ 201 tn), (oa (a 7) cI 201 gb), (oa (a 8) cI 201 pa), (oa (a 9) cI 201 pb), (oa (a 10) cI 201 it)] s.heap := hP
  obtain ⟨Q9, hQ9⟩ : ∃ Q9 : State → Prop, Q9 = MQ below (zQe (fun v9 t => ∃ (b9 : Int32), v9 = (some (.int b9)) ∧ va_P (dC, dI) classes [(om k0 a I0 J0), (oa (a 1) cI 201 kd), (oa (a 2) cI 201 rk), (oa (a 3) cI 201 wd), (oa (a 4) cI 201 tw), (oa (a 11) cI 201 mn), (oa (a 5) cI 201 st), (oa (a 6) cZ 201 tn), (oa (a 7) cI 201 gb), (oa (a 8) cI 201 pa), (oa (a 9) cI 201 pb), (oa (a 10) cI 201 it)] t.heap ∧ va_D A [(om k0 a I0 J0), (oa (a 1) cI 201 kd), (oa (a 2) cI 201 rk), (oa (a 3) cI 201 wd), (oa (a 4) cI 201 tw), (oa (a 11) cI 201 mn), (oa (a 5) cI 201 st), (oa (a 6) cZ 201 tn), (oa (a 7) cI 201 gb), (oa (a 8) cI 201 pa), (oa (a 9) cI 201 pb), (oa (a 10) cI 201 it)]) A) ([.ref k0, .int (nI f), .int w] : List Value).toArray s 0 0 A := ⟨_, rfl⟩
  rw [← hQ9]
  have hl := lv_entry ([.ref k0, .int (nI f), .int w]) (n := 3) (Nat.le_of_ble_eq_true rfl)
  rw [lg_entry_eq]
  generalize (lg_sl ([.ref k0, .int (nI f), .int w]) ++ List.replicate (3 - (lg_sl ([.ref k0, .int (nI f), .int w])).length) Slot.unset).toArray = ls at hl ⊢
  have hl : lv_has ls 3 [(0, .ref k0), (1, .int (nI f)), (2, .int w)] := hl
  refine lv_aload_n hx hb dX11_told_0 rfl (lv_at hl 0 rfl) ?_
  refine lv_iload_n hx hb dX11_told_1 rfl (lv_at hl 1 rfl) ?_
  obtain ⟨hPc, hDc, hFc, hI1⟩ := zi_sub (wc := [_]) hP hD hS hA [0] rfl rfl
  refine zcall (st1 := [.int (pI (f < ft))]) (va_runV (As := [.int (nI f)]) (rest := []) ⟨hx, hb, hml, hown, hts⟩ (k_M_isFeature_n l dC dI cI cZ cF s.heap.size k0 a I0 J0 f ft (by first | with_reducible assumption | assumption) (by first | with_reducible assumption | omega) (by first | with_reducible assumption | omega)) (csV_178 hts rfl rfl ⟨Nat.le_of_ble_eq_true rfl, Nat.le_of_ble_eq_true rfl⟩) (zPV2 (q0 := 0) (ci := 9) hPc hDc hK hXN rfl rfl) rfl rfl hl.1 rfl (lv_room (Nat.le_of_ble_eq_true rfl)) dX11_told_2 ⟨Nat.le_of_ble_eq_true rfl, Nat.le_of_ble_eq_true rfl⟩) hS hFc hFc rfl (fun t H locs ht hB hk1 hS => ?_)
  obtain ⟨hP1, hD1⟩ := hB
  rw [ht] at hP1
  replace hP := z0 hP hD hk1 hP1 hI1
  clear hk1 hPc hDc hFc hP1 hD1 ht hI1
  refine lv_if_ne (tgt := 10) hx hb dX11_told_5 rfl (fun c_1 => ?_) (fun c_1 => ?_)
  · have c_1 : f < ft := zp_1 c_1
    refine lv_iload_n hx hb dX11_told_10 rfl (lv_at hl 2 rfl) ?_
    rcases zz_sw (lo := 0) (hi := 10) rfl with c_2 | c_2
    · refine lv_tableOut (tgt := 166) hx hb dX11_told_11 c_2.1 (by decide) ?_
      refine lv_iconst (v := (-1)) hx hb dX11_told_166 rfl ?_
      obtain ⟨hP9, hD9⟩ := zu_sub (wc := [_, _, _, _, _, _, _, _, _, _, _, _]) hP hD [true, true, true, true, true, true, true, true, true, true, true, true] rfl rfl
      rw [hQ9]
      exact W.iret (v := (-1)) hx hb hr (fun t ht hW => ⟨⟨_, rfl, (-1), rfl, by rw [ht]; exact hP9, hD9⟩, hS.F ht⟩) hS.2.2 dX11_told_167
    · by_cases c_3 : w.toInt = 0
      · refine lv_tableIn (tgt := 68) (off := 57) hx hb dX11_told_11 c_2.2.1 c_2.2.2 (by rw [show (w).toInt = 0 from (rfl).trans c_3]; rfl) (by decide) ?_
        refine lv_aload_n hx hb dX11_told_68 rfl (lv_at hl 0 rfl) ?_
        refine va_get (D := (dC, dI)) (ci := 9) (v := .ref (a 1)) (C := RX11) (T := TX11) (N := 55) hx hb hts inX11 hown hK hP 0 rfl rfl 1 (Nat.le_of_ble_eq_true rfl) (hts _ mw_1160) (fun _ h9 => h9) rfl dX11_told_69 ?_
        refine lv_iload_n hx hb dX11_told_72 rfl (lv_at hl 1 rfl) ?_
        have b9_4 : f < 201 := by omega
        refine z_iald hx hb hK hP 1 0 rfl rfl (e := f) rfl b9_4 (Nat.le_of_ble_eq_true rfl) dX11_told_73 ?_
        obtain ⟨hP9, hD9⟩ := zu_sub (wc := [_, _, _, _, _, _, _, _, _, _, _, _]) hP hD [true, true, true, true, true, true, true, true, true, true, true, true] rfl rfl
        rw [hQ9]
        exact W.iret (v := kd f) hx hb hr (fun t ht hW => ⟨⟨_, rfl, (kd f), rfl, by rw [ht]; exact hP9, hD9⟩, hS.F ht⟩) hS.2.2 dX11_told_74
      by_cases c_5 : w.toInt = 1
      · refine lv_tableIn (tgt := 75) (off := 64) hx hb dX11_told_11 c_2.2.1 c_2.2.2 (by rw [show (w).toInt = 1 from (rfl).trans c_5]; rfl) (by decide) ?_
        refine lv_aload_n hx hb dX11_told_75 rfl (lv_at hl 0 rfl) ?_
        refine va_get (D := (dC, dI)) (ci := 9) (v := .ref (a 2)) (C := RX11) (T := TX11) (N := 55) hx hb hts inX11 hown hK hP 0 rfl rfl 2 (Nat.le_of_ble_eq_true rfl) (hts _ mw_1161) (fun _ h9 => h9) rfl dX11_told_76 ?_
        refine lv_iload_n hx hb dX11_told_79 rfl (lv_at hl 1 rfl) ?_
        have b9_6 : f < 201 := by omega
        refine z_iald hx hb hK hP 2 0 rfl rfl (e := f) rfl b9_6 (Nat.le_of_ble_eq_true rfl) dX11_told_80 ?_
        obtain ⟨hP9, hD9⟩ := zu_sub (wc := [_, _, _, _, _, _, _, _, _, _, _, _]) hP hD [true, true, true, true, true, true, true, true, true, true, true, true] rfl rfl
        rw [hQ9]
        exact W.iret (v := rk f) hx hb hr (fun t ht hW => ⟨⟨_, rfl, (rk f), rfl, by rw [ht]; exact hP9, hD9⟩, hS.F ht⟩) hS.2.2 dX11_told_81
      by_cases c_7 : w.toInt = 2
      · refine lv_tableIn (tgt := 82) (off := 71) hx hb dX11_told_11 c_2.2.1 c_2.2.2 (by rw [show (w).toInt = 2 from (rfl).trans c_7]; rfl) (by decide) ?_
        refine lv_aload_n hx hb dX11_told_82 rfl (lv_at hl 0 rfl) ?_
        refine va_get (D := (dC, dI)) (ci := 9) (v := .ref (a 3)) (C := RX11) (T := TX11) (N := 55) hx hb hts inX11 hown hK hP 0 rfl rfl 3 (Nat.le_of_ble_eq_true rfl) (hts _ mw_1162) (fun _ h9 => h9) rfl dX11_told_83 ?_
        refine lv_iload_n hx hb dX11_told_86 rfl (lv_at hl 1 rfl) ?_
        have b9_8 : f < 201 := by omega
        refine z_iald hx hb hK hP 3 0 rfl rfl (e := f) rfl b9_8 (Nat.le_of_ble_eq_true rfl) dX11_told_87 ?_
        obtain ⟨hP9, hD9⟩ := zu_sub (wc := [_, _, _, _, _, _, _, _, _, _, _, _]) hP hD [true, true, true, true, true, true, true, true, true, true, true, true] rfl rfl
        rw [hQ9]
        exact W.iret (v := wd f) hx hb hr (fun t ht hW => ⟨⟨_, rfl, (wd f), rfl, by rw [ht]; exact hP9, hD9⟩, hS.F ht⟩) hS.2.2 dX11_told_88
      by_cases c_9 : w.toInt = 3
      · refine lv_tableIn (tgt := 89) (off := 78) hx hb dX11_told_11 c_2.2.1 c_2.2.2 (by rw [show (w).toInt = 3 from (rfl).trans c_9]; rfl) (by decide) ?_
        refine lv_aload_n hx hb dX11_told_89 rfl (lv_at hl 0 rfl) ?_
        refine va_get (D := (dC, dI)) (ci := 9) (v := .ref (a 4)) (C := RX11) (T := TX11) (N := 55) hx hb hts inX11 hown hK hP 0 rfl rfl 4 (Nat.le_of_ble_eq_true rfl) (hts _ mw_1163) (fun _ h9 => h9) rfl dX11_told_90 ?_
        refine lv_iload_n hx hb dX11_told_93 rfl (lv_at hl 1 rfl) ?_
        have b9_10 : f < 201 := by omega
        refine z_iald hx hb hK hP 4 0 rfl rfl (e := f) rfl b9_10 (Nat.le_of_ble_eq_true rfl) dX11_told_94 ?_
        obtain ⟨hP9, hD9⟩ := zu_sub (wc := [_, _, _, _, _, _, _, _, _, _, _, _]) hP hD [true, true, true, true, true, true, true, true, true, true, true, true] rfl rfl
        rw [hQ9]
        exact W.iret (v := tw f) hx hb hr (fun t ht hW => ⟨⟨_, rfl, (tw f), rfl, by rw [ht]; exact hP9, hD9⟩, hS.F ht⟩) hS.2.2 dX11_told_95
      by_cases c_11 : w.toInt = 4
      · refine lv_tableIn (tgt := 96) (off := 85) hx hb dX11_told_11 c_2.2.1 c_2.2.2 (by rw [show (w).toInt = 4 from (rfl).trans c_11]; rfl) (by decide) ?_
        refine lv_aload_n hx hb dX11_told_96 rfl (lv_at hl 0 rfl) ?_
        refine va_get (D := (dC, dI)) (ci := 9) (v := .ref (a 6)) (C := RX11) (T := TX11) (N := 55) hx hb hts inX11 hown hK hP 0 rfl rfl 6 (Nat.le_of_ble_eq_true rfl) (hts _ mw_1165) (fun _ h9 => h9) rfl dX11_told_97 ?_
        refine lv_iload_n hx hb dX11_told_100 rfl (lv_at hl 1 rfl) ?_
        have b9_12 : f < 201 := by omega
        refine z_zald hx hb hK hP 7 1 rfl rfl (e := f) rfl b9_12 (Nat.le_of_ble_eq_true rfl) dX11_told_101 ?_
        refine lv_if_eq (tgt := 109) hx hb dX11_told_102 rfl (fun c_13 => ?_) (fun c_13 => ?_)
        · have c_13 : (tn f).toInt = 0 := zc_eq rfl rfl c_13
          refine lv_aload_n hx hb dX11_told_109 rfl (lv_at hl 0 rfl) ?_
          refine va_get (D := (dC, dI)) (ci := 9) (v := .ref (a 11)) (C := RX11) (T := TX11) (N := 55) hx hb hts inX11 hown hK hP 0 rfl rfl 11 (Nat.le_of_ble_eq_true rfl) (hts _ mw_1170) (fun _ h9 => h9) rfl dX11_told_110 ?_
          refine lv_iload_n hx hb dX11_told_113 rfl (lv_at hl 1 rfl) ?_
          refine z_iald hx hb hK hP 5 0 rfl rfl (e := f) rfl b9_12 (Nat.le_of_ble_eq_true rfl) dX11_told_114 ?_
          obtain ⟨hP9, hD9⟩ := zu_sub (wc := [_, _, _, _, _, _, _, _, _, _, _, _]) hP hD [true, true, true, true, true, true, true, true, true, true, true, true] rfl rfl
          rw [hQ9]
          exact W.iret (v := mn f) hx hb hr (fun t ht hW => ⟨⟨_, rfl, (mn f), rfl, by rw [ht]; exact hP9, hD9⟩, hS.F ht⟩) hS.2.2 dX11_told_115
        · have c_13 : ¬ (tn f).toInt = 0 := zc_ne rfl rfl c_13
          refine lv_iconst (v := 0) hx hb dX11_told_105 rfl ?_
          refine lv_goto (tgt := 115) hx hb dX11_told_106 rfl ?_
          obtain ⟨hP9, hD9⟩ := zu_sub (wc := [_, _, _, _, _, _, _, _, _, _, _, _]) hP hD [true, true, true, true, true, true, true, true, true, true, true, true] rfl rfl
          rw [hQ9]
          exact W.iret (v := 0) hx hb hr (fun t ht hW => ⟨⟨_, rfl, 0, rfl, by rw [ht]; exact hP9, hD9⟩, hS.F ht⟩) hS.2.2 dX11_told_115
      by_cases c_14 : w.toInt = 5
      · refine lv_tableIn (tgt := 116) (off := 105) hx hb dX11_told_11 c_2.2.1 c_2.2.2 (by rw [show (w).toInt = 5 from (rfl).trans c_14]; rfl) (by decide) ?_
        refine lv_aload_n hx hb dX11_told_116 rfl (lv_at hl 0 rfl) ?_
        refine va_get (D := (dC, dI)) (ci := 9) (v := .ref (a 5)) (C := RX11) (T := TX11) (N := 55) hx hb hts inX11 hown hK hP 0 rfl rfl 5 (Nat.le_of_ble_eq_true rfl) (hts _ mw_1164) (fun _ h9 => h9) rfl dX11_told_117 ?_
        refine lv_iload_n hx hb dX11_told_120 rfl (lv_at hl 1 rfl) ?_
        have b9_15 : f < 201 := by omega
        refine z_iald hx hb hK hP 6 0 rfl rfl (e := f) rfl b9_15 (Nat.le_of_ble_eq_true rfl) dX11_told_121 ?_
        obtain ⟨hP9, hD9⟩ := zu_sub (wc := [_, _, _, _, _, _, _, _, _, _, _, _]) hP hD [true, true, true, true, true, true, true, true, true, true, true, true] rfl rfl
        rw [hQ9]
        exact W.iret (v := st f) hx hb hr (fun t ht hW => ⟨⟨_, rfl, (st f), rfl, by rw [ht]; exact hP9, hD9⟩, hS.F ht⟩) hS.2.2 dX11_told_122
      by_cases c_16 : w.toInt = 6
      · refine lv_tableIn (tgt := 123) (off := 112) hx hb dX11_told_11 c_2.2.1 c_2.2.2 (by rw [show (w).toInt = 6 from (rfl).trans c_16]; rfl) (by decide) ?_
        refine lv_aload_n hx hb dX11_told_123 rfl (lv_at hl 0 rfl) ?_
        refine va_get (D := (dC, dI)) (ci := 9) (v := .ref (a 6)) (C := RX11) (T := TX11) (N := 55) hx hb hts inX11 hown hK hP 0 rfl rfl 6 (Nat.le_of_ble_eq_true rfl) (hts _ mw_1165) (fun _ h9 => h9) rfl dX11_told_124 ?_
        refine lv_iload_n hx hb dX11_told_127 rfl (lv_at hl 1 rfl) ?_
        have b9_17 : f < 201 := by omega
        refine z_zald hx hb hK hP 7 1 rfl rfl (e := f) rfl b9_17 (Nat.le_of_ble_eq_true rfl) dX11_told_128 ?_
        refine lv_if_eq (tgt := 136) hx hb dX11_told_129 rfl (fun c_18 => ?_) (fun c_18 => ?_)
        · have c_18 : (tn f).toInt = 0 := zc_eq rfl rfl c_18
          refine lv_iconst (v := 0) hx hb dX11_told_136 rfl ?_
          obtain ⟨hP9, hD9⟩ := zu_sub (wc := [_, _, _, _, _, _, _, _, _, _, _, _]) hP hD [true, true, true, true, true, true, true, true, true, true, true, true] rfl rfl
          rw [hQ9]
          exact W.iret (v := 0) hx hb hr (fun t ht hW => ⟨⟨_, rfl, 0, rfl, by rw [ht]; exact hP9, hD9⟩, hS.F ht⟩) hS.2.2 dX11_told_137
        · have c_18 : ¬ (tn f).toInt = 0 := zc_ne rfl rfl c_18
          refine lv_iconst (v := 1) hx hb dX11_told_132 rfl ?_
          refine lv_goto (tgt := 137) hx hb dX11_told_133 rfl ?_
          obtain ⟨hP9, hD9⟩ := zu_sub (wc := [_, _, _, _, _, _, _, _, _, _, _, _]) hP hD [true, true, true, true, true, true, true, true, true, true, true, true] rfl rfl
          rw [hQ9]
          exact W.iret (v := 1) hx hb hr (fun t ht hW => ⟨⟨_, rfl, 1, rfl, by rw [ht]; exact hP9, hD9⟩, hS.F ht⟩) hS.2.2 dX11_told_137
      by_cases c_19 : w.toInt = 7
      · refine lv_tableIn (tgt := 138) (off := 127) hx hb dX11_told_11 c_2.2.1 c_2.2.2 (by rw [show (w).toInt = 7 from (rfl).trans c_19]; rfl) (by decide) ?_
        refine lv_aload_n hx hb dX11_told_138 rfl (lv_at hl 0 rfl) ?_
        refine va_get (D := (dC, dI)) (ci := 9) (v := .ref (a 7)) (C := RX11) (T := TX11) (N := 55) hx hb hts inX11 hown hK hP 0 rfl rfl 7 (Nat.le_of_ble_eq_true rfl) (hts _ mw_1166) (fun _ h9 => h9) rfl dX11_told_139 ?_
        refine lv_iload_n hx hb dX11_told_142 rfl (lv_at hl 1 rfl) ?_
        have b9_20 : f < 201 := by omega
        refine z_iald hx hb hK hP 8 0 rfl rfl (e := f) rfl b9_20 (Nat.le_of_ble_eq_true rfl) dX11_told_143 ?_
        obtain ⟨hP9, hD9⟩ := zu_sub (wc := [_, _, _, _, _, _, _, _, _, _, _, _]) hP hD [true, true, true, true, true, true, true, true, true, true, true, true] rfl rfl
        rw [hQ9]
        exact W.iret (v := gb f) hx hb hr (fun t ht hW => ⟨⟨_, rfl, (gb f), rfl, by rw [ht]; exact hP9, hD9⟩, hS.F ht⟩) hS.2.2 dX11_told_144
      by_cases c_21 : w.toInt = 8
      · refine lv_tableIn (tgt := 145) (off := 134) hx hb dX11_told_11 c_2.2.1 c_2.2.2 (by rw [show (w).toInt = 8 from (rfl).trans c_21]; rfl) (by decide) ?_
        refine lv_aload_n hx hb dX11_told_145 rfl (lv_at hl 0 rfl) ?_
        refine va_get (D := (dC, dI)) (ci := 9) (v := .ref (a 8)) (C := RX11) (T := TX11) (N := 55) hx hb hts inX11 hown hK hP 0 rfl rfl 8 (Nat.le_of_ble_eq_true rfl) (hts _ mw_1167) (fun _ h9 => h9) rfl dX11_told_146 ?_
        refine lv_iload_n hx hb dX11_told_149 rfl (lv_at hl 1 rfl) ?_
        have b9_22 : f < 201 := by omega
        refine z_iald hx hb hK hP 9 0 rfl rfl (e := f) rfl b9_22 (Nat.le_of_ble_eq_true rfl) dX11_told_150 ?_
        obtain ⟨hP9, hD9⟩ := zu_sub (wc := [_, _, _, _, _, _, _, _, _, _, _, _]) hP hD [true, true, true, true, true, true, true, true, true, true, true, true] rfl rfl
        rw [hQ9]
        exact W.iret (v := pa f) hx hb hr (fun t ht hW => ⟨⟨_, rfl, (pa f), rfl, by rw [ht]; exact hP9, hD9⟩, hS.F ht⟩) hS.2.2 dX11_told_151
      by_cases c_23 : w.toInt = 9
      · refine lv_tableIn (tgt := 152) (off := 141) hx hb dX11_told_11 c_2.2.1 c_2.2.2 (by rw [show (w).toInt = 9 from (rfl).trans c_23]; rfl) (by decide) ?_
        refine lv_aload_n hx hb dX11_told_152 rfl (lv_at hl 0 rfl) ?_
        refine va_get (D := (dC, dI)) (ci := 9) (v := .ref (a 9)) (C := RX11) (T := TX11) (N := 55) hx hb hts inX11 hown hK hP 0 rfl rfl 9 (Nat.le_of_ble_eq_true rfl) (hts _ mw_1168) (fun _ h9 => h9) rfl dX11_told_153 ?_
        refine lv_iload_n hx hb dX11_told_156 rfl (lv_at hl 1 rfl) ?_
        have b9_24 : f < 201 := by omega
        refine z_iald hx hb hK hP 10 0 rfl rfl (e := f) rfl b9_24 (Nat.le_of_ble_eq_true rfl) dX11_told_157 ?_
        obtain ⟨hP9, hD9⟩ := zu_sub (wc := [_, _, _, _, _, _, _, _, _, _, _, _]) hP hD [true, true, true, true, true, true, true, true, true, true, true, true] rfl rfl
        rw [hQ9]
        exact W.iret (v := pb f) hx hb hr (fun t ht hW => ⟨⟨_, rfl, (pb f), rfl, by rw [ht]; exact hP9, hD9⟩, hS.F ht⟩) hS.2.2 dX11_told_158
      by_cases c_25 : w.toInt = 10
      · refine lv_tableIn (tgt := 159) (off := 148) hx hb dX11_told_11 c_2.2.1 c_2.2.2 (by rw [show (w).toInt = 10 from (rfl).trans c_25]; rfl) (by decide) ?_
        refine lv_aload_n hx hb dX11_told_159 rfl (lv_at hl 0 rfl) ?_
        refine va_get (D := (dC, dI)) (ci := 9) (v := .ref (a 10)) (C := RX11) (T := TX11) (N := 55) hx hb hts inX11 hown hK hP 0 rfl rfl 10 (Nat.le_of_ble_eq_true rfl) (hts _ mw_1169) (fun _ h9 => h9) rfl dX11_told_160 ?_
        refine lv_iload_n hx hb dX11_told_163 rfl (lv_at hl 1 rfl) ?_
        have b9_26 : f < 201 := by omega
        refine z_iald hx hb hK hP 11 0 rfl rfl (e := f) rfl b9_26 (Nat.le_of_ble_eq_true rfl) dX11_told_164 ?_
        obtain ⟨hP9, hD9⟩ := zu_sub (wc := [_, _, _, _, _, _, _, _, _, _, _, _]) hP hD [true, true, true, true, true, true, true, true, true, true, true, true] rfl rfl
        rw [hQ9]
        exact W.iret (v := it f) hx hb hr (fun t ht hW => ⟨⟨_, rfl, (it f), rfl, by rw [ht]; exact hP9, hD9⟩, hS.F ht⟩) hS.2.2 dX11_told_165
      exfalso; omega
  · have c_1 : ¬ (f < ft) := zp_0 c_1
    exfalso; omega
set_option maxHeartbeats 4000000 in
set_option maxRecDepth 100000 in
theorem k_M_step_a (l : Launch) (dC : Nat → ClassId) (dI : Nat → Nat → Nat) (cI cZ cF : ClassId) (sz : Nat) (k0 : Nat) (a : Nat → Nat) (I0 : Nat → Int32) (J0 : Nat → Int64) (i : Nat) (dn : Nat) (rd : Nat) (w : Int32) (wh : Nat → Int32) (of9 : Nat → Int32) (we : Nat → Int32) (hdn : I0 19 = nI dn) (hrd : I0 20 = nI rd) (hsum : dn + rd ≤ 512) (hi1 : 1 ≤ i ∧ i ≤ dn + rd) : Met l yX11_step (.code yX11_step cX11_step 3 (some .int) :: ws0) ({ frames := 0, cells := 0, slots := 0, locals := 0 } : Room) (va_Pc [.ref k0, .int (nI i), .int w] (zPre (dC, dI) classes (zTy cI cZ cF) [(om k0 a I0 J0), (oa (a 16) cI 514 wh), (oa (a 17) cI 514 of9), (oa (a 18) cI 514 we)] sz zXN)) (zQe (fun v9 t => ∃ (b9 : Int32), v9 = (some (.int b9)) ∧ va_P (dC, dI) classes [(om k0 a I0 J0), (oa (a 16) cI 514 wh), (oa (a 17) cI 514 of9), (oa (a 18) cI 514 we)] t.heap ∧ va_D (va_A [(om k0 a I0 J0), (oa (a 16) cI 514 wh), (oa (a 17) cI 514 of9), (oa (a 18) cI 514 we)] sz) [(om k0 a I0 J0), (oa (a 16) cI 514 wh), (oa (a 17) cI 514 of9), (oa (a 18) cI 514 we)]) (va_A [(om k0 a I0 J0), (oa (a 16) cI 514 wh), (oa (a 17) cI 514 of9), (oa (a 18) cI 514 we)] sz)) 0 0 (va_A [(om k0 a I0 J0), (oa (a 16) cI 514 wh), (oa (a 17) cI 514 of9), (oa (a 18) cI 514 we)] sz) := by
  refine Met.ofW (cc := cX11_step) (maxL := 3) (ret := (some .int)) rfl rfl ?_
  intro p e s m args below meth c s₁ B hml hv
  obtain ⟨rfl, hsz, hP, hK, hD0, hXN⟩ := hv
  have hx := B.exec
  have hb := B.bytes
  have hr := B.returns
  have hts0 := atoms_spec (ws := .code yX11_step cX11_step 3 (some .int) :: ws0) B.pre
  have hts : ∀ w9 ∈ ws0, w9.before ([.ref k0, .int (nI i), .int w] : List Value).toArray s = true := fun w9 h => hts0 w9 (List.mem_cons_of_mem _ h)
  have hown : s.vm.findClass "ScaleShopModel" = some m.cls := findClass_of_methodNamed B.named
  have hlocks := B.notSynchronized
  subst hsz
  have hD := hD0.self (sz := s.heap.size)
  clear hD0
  generalize hAe : va_A [(om k0 a I0 J0), (oa (a 16) cI 514 wh), (oa (a 17) cI 514 of9), (oa (a 18) cI 514 we)] s.heap.size = A at hD ⊢
  have hA : ∀ q : Nat, s.heap.size ≤ q → A q := fun q h => by rw [← hAe]; exact Or.inr h
  clear hAe
  have hS : va_S A s.heap s.heap [] := va_S.rf
  have hP : va_P (dC, dI) classes [(om k0 a I0 J0), (oa (a 16) cI 514 wh), (oa (a 17) cI 514 of9), (oa (a 18) cI 514 we)] s.heap := hP
  obtain ⟨Q9, hQ9⟩ : ∃ Q9 : State → Prop, Q9 = MQ below (zQe (fun v9 t => ∃ (b9 : Int32), v9 = (some (.int b9)) ∧ va_P (dC, dI) classes [(om k0 a I0 J0), (oa (a 16) cI 514 wh), (oa (a 17) cI 514 of9), (oa (a 18) cI 514 we)] t.heap ∧ va_D A [(om k0 a I0 J0), (oa (a 16) cI 514 wh), (oa (a 17) cI 514 of9), (oa (a 18) cI 514 we)]) A) ([.ref k0, .int (nI i), .int w] : List Value).toArray s 0 0 A := ⟨_, rfl⟩
  rw [← hQ9]
  have hl := lv_entry ([.ref k0, .int (nI i), .int w]) (n := 3) (Nat.le_of_ble_eq_true rfl)
  rw [lg_entry_eq]
  generalize (lg_sl ([.ref k0, .int (nI i), .int w]) ++ List.replicate (3 - (lg_sl ([.ref k0, .int (nI i), .int w])).length) Slot.unset).toArray = ls at hl ⊢
  have hl : lv_has ls 3 [(0, .ref k0), (1, .int (nI i)), (2, .int w)] := hl
  refine lv_iload_n hx hb dX11_step_0 rfl (lv_at hl 1 rfl) ?_
  refine lv_iconst (v := 1) hx hb dX11_step_1 rfl ?_
  have b9_2 : zlt (i) := show i < 2147483648 by omega
  refine lv_icmp_lt (tgt := 18) hx hb dX11_step_2 rfl (fun c_1 => ?_) (fun c_1 => ?_)
  · have c_1 : ((i : Nat) : Int) < 1 := zc_lt (nI_toInt b9_2) rfl c_1
    exfalso; omega
  · have c_1 : 1 ≤ ((i : Nat) : Int) := zc_nlt (nI_toInt b9_2) rfl c_1
    refine lv_iload_n hx hb dX11_step_5 rfl (lv_at hl 1 rfl) ?_
    refine lv_aload_n hx hb dX11_step_6 rfl (lv_at hl 0 rfl) ?_
    refine va_get (D := (dC, dI)) (ci := 9) (v := .int (I0 19)) (C := RX11) (T := TX11) (N := 55) hx hb hts inX11 hown hK hP 0 rfl rfl 19 (Nat.le_of_ble_eq_true rfl) (hts _ mw_1178) (fun _ h9 => h9) rfl dX11_step_7 ?_
    refine zz_i (v := nI dn) (hdn) ?_
    refine lv_aload_n hx hb dX11_step_10 rfl (lv_at hl 0 rfl) ?_
    refine va_get (D := (dC, dI)) (ci := 9) (v := .int (I0 20)) (C := RX11) (T := TX11) (N := 55) hx hb hts inX11 hown hK hP 0 rfl rfl 20 (Nat.le_of_ble_eq_true rfl) (hts _ mw_1179) (fun _ h9 => h9) rfl dX11_step_11 ?_
    refine zz_i (v := nI rd) (hrd) ?_
    refine lv_iadd hx hb dX11_step_14 ?_
    refine zz_i (v := nI (dn + rd)) (nI_add dn rd) ?_
    have b9_4 : zlt ((dn + rd)) := show (dn + rd) < 2147483648 by omega
    refine lv_icmp_le (tgt := 20) hx hb dX11_step_15 rfl (fun c_3 => ?_) (fun c_3 => ?_)
    · have c_3 : ((i : Nat) : Int) ≤ ((dn + rd : Nat) : Int) := zc_le (nI_toInt b9_2) (nI_toInt b9_4) c_3
      refine lv_iload_n hx hb dX11_step_20 rfl (lv_at hl 2 rfl) ?_
      rcases zz_sw (lo := 0) (hi := 3) rfl with c_5 | c_5
      · refine lv_tableOut (tgt := 87) hx hb dX11_step_21 c_5.1 (by decide) ?_
        refine lv_iconst (v := (-1)) hx hb dX11_step_87 rfl ?_
        obtain ⟨hP9, hD9⟩ := zu_sub (wc := [_, _, _, _]) hP hD [true, true, true, true] rfl rfl
        rw [hQ9]
        exact W.iret (v := (-1)) hx hb hr (fun t ht hW => ⟨⟨_, rfl, (-1), rfl, by rw [ht]; exact hP9, hD9⟩, hS.F ht⟩) hS.2.2 dX11_step_88
      · by_cases c_6 : w.toInt = 0
        · refine lv_tableIn (tgt := 52) (off := 31) hx hb dX11_step_21 c_5.2.1 c_5.2.2 (by rw [show (w).toInt = 0 from (rfl).trans c_6]; rfl) (by decide) ?_
          refine lv_aload_n hx hb dX11_step_52 rfl (lv_at hl 0 rfl) ?_
          refine va_get (D := (dC, dI)) (ci := 9) (v := .ref (a 16)) (C := RX11) (T := TX11) (N := 55) hx hb hts inX11 hown hK hP 0 rfl rfl 16 (Nat.le_of_ble_eq_true rfl) (hts _ mw_1175) (fun _ h9 => h9) rfl dX11_step_53 ?_
          refine lv_iload_n hx hb dX11_step_56 rfl (lv_at hl 1 rfl) ?_
          have b9_7 : i < 514 := by omega
          refine z_iald hx hb hK hP 1 0 rfl rfl (e := i) rfl b9_7 (Nat.le_of_ble_eq_true rfl) dX11_step_57 ?_
          obtain ⟨hP9, hD9⟩ := zu_sub (wc := [_, _, _, _]) hP hD [true, true, true, true] rfl rfl
          rw [hQ9]
          exact W.iret (v := wh i) hx hb hr (fun t ht hW => ⟨⟨_, rfl, (wh i), rfl, by rw [ht]; exact hP9, hD9⟩, hS.F ht⟩) hS.2.2 dX11_step_58
        by_cases c_8 : w.toInt = 1
        · refine lv_tableIn (tgt := 59) (off := 38) hx hb dX11_step_21 c_5.2.1 c_5.2.2 (by rw [show (w).toInt = 1 from (rfl).trans c_8]; rfl) (by decide) ?_
          refine lv_aload_n hx hb dX11_step_59 rfl (lv_at hl 0 rfl) ?_
          refine va_get (D := (dC, dI)) (ci := 9) (v := .ref (a 17)) (C := RX11) (T := TX11) (N := 55) hx hb hts inX11 hown hK hP 0 rfl rfl 17 (Nat.le_of_ble_eq_true rfl) (hts _ mw_1176) (fun _ h9 => h9) rfl dX11_step_60 ?_
          refine lv_iload_n hx hb dX11_step_63 rfl (lv_at hl 1 rfl) ?_
          have b9_9 : i < 514 := by omega
          refine z_iald hx hb hK hP 2 0 rfl rfl (e := i) rfl b9_9 (Nat.le_of_ble_eq_true rfl) dX11_step_64 ?_
          obtain ⟨hP9, hD9⟩ := zu_sub (wc := [_, _, _, _]) hP hD [true, true, true, true] rfl rfl
          rw [hQ9]
          exact W.iret (v := of9 i) hx hb hr (fun t ht hW => ⟨⟨_, rfl, (of9 i), rfl, by rw [ht]; exact hP9, hD9⟩, hS.F ht⟩) hS.2.2 dX11_step_65
        by_cases c_10 : w.toInt = 2
        · refine lv_tableIn (tgt := 66) (off := 45) hx hb dX11_step_21 c_5.2.1 c_5.2.2 (by rw [show (w).toInt = 2 from (rfl).trans c_10]; rfl) (by decide) ?_
          refine lv_aload_n hx hb dX11_step_66 rfl (lv_at hl 0 rfl) ?_
          refine va_get (D := (dC, dI)) (ci := 9) (v := .ref (a 18)) (C := RX11) (T := TX11) (N := 55) hx hb hts inX11 hown hK hP 0 rfl rfl 18 (Nat.le_of_ble_eq_true rfl) (hts _ mw_1177) (fun _ h9 => h9) rfl dX11_step_67 ?_
          refine lv_iload_n hx hb dX11_step_70 rfl (lv_at hl 1 rfl) ?_
          have b9_11 : i < 514 := by omega
          refine z_iald hx hb hK hP 3 0 rfl rfl (e := i) rfl b9_11 (Nat.le_of_ble_eq_true rfl) dX11_step_71 ?_
          obtain ⟨hP9, hD9⟩ := zu_sub (wc := [_, _, _, _]) hP hD [true, true, true, true] rfl rfl
          rw [hQ9]
          exact W.iret (v := we i) hx hb hr (fun t ht hW => ⟨⟨_, rfl, (we i), rfl, by rw [ht]; exact hP9, hD9⟩, hS.F ht⟩) hS.2.2 dX11_step_72
        by_cases c_12 : w.toInt = 3
        · refine lv_tableIn (tgt := 73) (off := 52) hx hb dX11_step_21 c_5.2.1 c_5.2.2 (by rw [show (w).toInt = 3 from (rfl).trans c_12]; rfl) (by decide) ?_
          refine lv_iload_n hx hb dX11_step_73 rfl (lv_at hl 1 rfl) ?_
          refine lv_aload_n hx hb dX11_step_74 rfl (lv_at hl 0 rfl) ?_
          refine va_get (D := (dC, dI)) (ci := 9) (v := .int (I0 19)) (C := RX11) (T := TX11) (N := 55) hx hb hts inX11 hown hK hP 0 rfl rfl 19 (Nat.le_of_ble_eq_true rfl) (hts _ mw_1178) (fun _ h9 => h9) rfl dX11_step_75 ?_
          refine zz_i (v := nI dn) (hdn) ?_
          have b9_14 : zlt (dn) := show dn < 2147483648 by omega
          refine lv_icmp_gt (tgt := 85) hx hb dX11_step_78 rfl (fun c_13 => ?_) (fun c_13 => ?_)
          · have c_13 : ((dn : Nat) : Int) < ((i : Nat) : Int) := zc_lt (nI_toInt b9_14) (nI_toInt b9_2) c_13
            refine lv_iconst (v := 0) hx hb dX11_step_85 rfl ?_
            obtain ⟨hP9, hD9⟩ := zu_sub (wc := [_, _, _, _]) hP hD [true, true, true, true] rfl rfl
            rw [hQ9]
            exact W.iret (v := 0) hx hb hr (fun t ht hW => ⟨⟨_, rfl, 0, rfl, by rw [ht]; exact hP9, hD9⟩, hS.F ht⟩) hS.2.2 dX11_step_86
          · have c_13 : ((i : Nat) : Int) ≤ ((dn : Nat) : Int) := zc_nlt (nI_toInt b9_14) (nI_toInt b9_2) c_13
            refine lv_iconst (v := 1) hx hb dX11_step_81 rfl ?_
            refine lv_goto (tgt := 86) hx hb dX11_step_82 rfl ?_
            obtain ⟨hP9, hD9⟩ := zu_sub (wc := [_, _, _, _]) hP hD [true, true, true, true] rfl rfl
            rw [hQ9]
            exact W.iret (v := 1) hx hb hr (fun t ht hW => ⟨⟨_, rfl, 1, rfl, by rw [ht]; exact hP9, hD9⟩, hS.F ht⟩) hS.2.2 dX11_step_86
        exfalso; omega
    · have c_3 : ((dn + rd : Nat) : Int) < ((i : Nat) : Int) := zc_nle (nI_toInt b9_2) (nI_toInt b9_4) c_3
      exfalso; omega
set_option maxHeartbeats 4000000 in
set_option maxRecDepth 100000 in
theorem k_M_count_a (l : Launch) (dC : Nat → ClassId) (dI : Nat → Nat → Nat) (cI cZ cF : ClassId) (sz : Nat) (k0 : Nat) (a : Nat → Nat) (I0 : Nat → Int32) (J0 : Nat → Int64) (ft : Nat) (w : Int32) (st : Nat → Int32) (tn : Nat → Int32) (mn : Nat → Int32) (hft : I0 0 = nI ft) (h200 : ft ≤ 200) (hmw : ∀ q, lvF ft st tn q → mn q = nI (nN (mn q)) ∧ nN (mn q) ≤ 40) : Met l yX11_count (.code yX11_count cX11_count 7 (some .int) :: ws0) ({ frames := 2, cells := 0, slots := 0, locals := 42 } : Room) (va_Pc [.ref k0, .int w] (zPre (dC, dI) classes (zTy cI cZ cF) [(om k0 a I0 J0), (oa (a 5) cI 201 st), (oa (a 6) cZ 201 tn), (oa (a 11) cI 201 mn)] sz zXN)) (zQe (fun v9 t => ∃ (b9 : Int32), v9 = (some (.int b9)) ∧ va_P (dC, dI) classes [(om k0 a I0 J0), (oa (a 5) cI 201 st), (oa (a 6) cZ 201 tn), (oa (a 11) cI 201 mn)] t.heap ∧ va_D (va_A [(om k0 a I0 J0), (oa (a 5) cI 201 st), (oa (a 6) cZ 201 tn), (oa (a 11) cI 201 mn)] sz) [(om k0 a I0 J0), (oa (a 5) cI 201 st), (oa (a 6) cZ 201 tn), (oa (a 11) cI 201 mn)]) (va_A [(om k0 a I0 J0), (oa (a 5) cI 201 st), (oa (a 6) cZ 201 tn), (oa (a 11) cI 201 mn)] sz)) 0 0 (va_A [(om k0 a I0 J0), (oa (a 5) cI 201 st), (oa (a 6) cZ 201 tn), (oa (a 11) cI 201 mn)] sz) := by
  refine Met.ofW (cc := cX11_count) (maxL := 7) (ret := (some .int)) rfl rfl ?_
  intro p e s m args below meth c s₁ B hml hv
  obtain ⟨rfl, hsz, hP, hK, hD0, hXN⟩ := hv
  have hx := B.exec
  have hb := B.bytes
  have hr := B.returns
  have hts0 := atoms_spec (ws := .code yX11_count cX11_count 7 (some .int) :: ws0) B.pre
  have hts : ∀ w9 ∈ ws0, w9.before ([.ref k0, .int w] : List Value).toArray s = true := fun w9 h => hts0 w9 (List.mem_cons_of_mem _ h)
  have hown : s.vm.findClass "ScaleShopModel" = some m.cls := findClass_of_methodNamed B.named
  have hlocks := B.notSynchronized
  subst hsz
  have hD := hD0.self (sz := s.heap.size)
  clear hD0
  generalize hAe : va_A [(om k0 a I0 J0), (oa (a 5) cI 201 st), (oa (a 6) cZ 201 tn), (oa (a 11) cI 201 mn)] s.heap.size = A at hD ⊢
  have hA : ∀ q : Nat, s.heap.size ≤ q → A q := fun q h => by rw [← hAe]; exact Or.inr h
  clear hAe
  have hS : va_S A s.heap s.heap [] := va_S.rf
  have hP : va_P (dC, dI) classes [(om k0 a I0 J0), (oa (a 5) cI 201 st), (oa (a 6) cZ 201 tn), (oa (a 11) cI 201 mn)] s.heap := hP
  obtain ⟨Q9, hQ9⟩ : ∃ Q9 : State → Prop, Q9 = MQ below (zQe (fun v9 t => ∃ (b9 : Int32), v9 = (some (.int b9)) ∧ va_P (dC, dI) classes [(om k0 a I0 J0), (oa (a 5) cI 201 st), (oa (a 6) cZ 201 tn), (oa (a 11) cI 201 mn)] t.heap ∧ va_D A [(om k0 a I0 J0), (oa (a 5) cI 201 st), (oa (a 6) cZ 201 tn), (oa (a 11) cI 201 mn)]) A) ([.ref k0, .int w] : List Value).toArray s 0 0 A := ⟨_, rfl⟩
  rw [← hQ9]
  have hl := lv_entry ([.ref k0, .int w]) (n := 7) (Nat.le_of_ble_eq_true rfl)
  rw [lg_entry_eq]
  generalize (lg_sl ([.ref k0, .int w]) ++ List.replicate (7 - (lg_sl ([.ref k0, .int w])).length) Slot.unset).toArray = ls at hl ⊢
  have hl : lv_has ls 7 [(0, .ref k0), (1, .int w)] := hl
  refine lv_iconst (v := 0) hx hb dX11_count_0 rfl ?_
  refine lv_istore_n (lv' := [(2, .int 0), (0, .ref k0), (1, .int w)]) hx hb dX11_count_1 rfl hl (Nat.le_of_ble_eq_true rfl) rfl (fun ls hl => ?_)
  refine lv_iconst (v := 0) hx hb dX11_count_2 rfl ?_
  refine lv_istore_n (lv' := [(3, .int 0), (2, .int 0), (0, .ref k0), (1, .int w)]) hx hb dX11_count_3 rfl hl (Nat.le_of_ble_eq_true rfl) rfl (fun ls hl => ?_)
  refine lv_iconst (v := 0) hx hb dX11_count_4 rfl ?_
  refine lv_istore (lv' := [(4, .int 0), (3, .int 0), (2, .int 0), (0, .ref k0), (1, .int w)]) hx hb dX11_count_5 hl (Nat.le_of_ble_eq_true rfl) rfl (fun ls hl => ?_)
  refine lv_iconst (v := 0) hx hb dX11_count_7 rfl ?_
  refine lv_istore (lv' := [(5, .int 0), (4, .int 0), (3, .int 0), (2, .int 0), (0, .ref k0), (1, .int w)]) hx hb dX11_count_8 hl (Nat.le_of_ble_eq_true rfl) rfl (fun ls hl => ?_)
  refine lv_iconst (v := 0) hx hb dX11_count_10 rfl ?_
  refine lv_istore (lv' := [(6, .int 0), (5, .int 0), (4, .int 0), (3, .int 0), (2, .int 0), (0, .ref k0), (1, .int w)]) hx hb dX11_count_11 hl (Nat.le_of_ble_eq_true rfl) rfl (fun ls hl => ?_)
  have hl_13 : ∀ (n9 : Nat) (q : Nat) (H : Heap) (locs : List Loc) (ls : Array Slot), ft - q < n9 → (q ≤ ft) → va_P (dC, dI) classes [(om k0 a I0 J0), (oa (a 5) cI 201 st), (oa (a 6) cZ 201 tn), (oa (a 11) cI 201 mn)] H → va_D A [(om k0 a I0 J0), (oa (a 5) cI 201 st), (oa (a 6) cZ 201 tn), (oa (a 11) cI 201 mn)] → va_S A s.heap H locs → lv_has ls 7 [(6, .int (nI q)), (5, .int (nI (smP (lvF ft st tn) (fun g => nN (mn g)) q))), (4, .int (nI (cntP (fun g => ¬ (tn g).toInt = 0) q))), (3, .int (nI (cntP (fun g => (st g).toInt = 2) q))), (2, .int (nI (cntP (fun g => (st g).toInt = 1) q))), (0, .ref k0), (1, .int w)] → W p l e ((headSpec (.code yX11_count cX11_count 7 (some .int) :: ws0) ({ frames := 2, cells := 0, slots := 0, locals := 42 } : Room)).room) s m ([.ref k0, .int w] : List Value).toArray below meth c H locs 0 0 Q9 (F0 m 13 ls []) := by
    intro n9
    induction n9 with
    | zero => intro q H locs ls hm; exact absurd hm (Nat.not_lt_zero _)
    | succ n9 ih_13 =>
      intro q H locs ls hm hq hP hD hS hl
      have hc2 := cntP_b (fun g => (st g).toInt = 1) q
      have hc3 := cntP_b (fun g => (st g).toInt = 2) q
      have hc4 := cntP_b (fun g => ¬ (tn g).toInt = 0) q
      have hc5 := smP_b (P := lvF ft st tn) (c := fun g => nN (mn g)) q (fun j _ h => (hmw j h).2)
      refine lv_iload hx hb dX11_count_13 (lv_at hl 0 rfl) ?_
      refine lv_aload_n hx hb dX11_count_15 rfl (lv_at hl 5 rfl) ?_
      refine va_get (D := (dC, dI)) (ci := 9) (v := .int (I0 0)) (C := RX11) (T := TX11) (N := 55) hx hb hts inX11 hown hK hP 0 rfl rfl 0 (Nat.le_of_ble_eq_true rfl) (hts _ mw_1159) (fun _ h9 => h9) rfl dX11_count_16 ?_
      refine zz_i (v := nI ft) (hft) ?_
      have b9_2 : zlt (q) := show q < 2147483648 by omega
      have b9_3 : zlt (ft) := show ft < 2147483648 by omega
      refine lv_icmp_ge (tgt := 111) hx hb dX11_count_19 rfl (fun c_1 => ?_) (fun c_1 => ?_)
      · have c_1 : ((ft : Nat) : Int) ≤ ((q : Nat) : Int) := zc_le (nI_toInt b9_3) (nI_toInt b9_2) c_1
        refine lv_iload_n hx hb dX11_count_111 rfl (lv_at hl 6 rfl) ?_
        rcases zz_sw (lo := 0) (hi := 7) rfl with c_4 | c_4
        · refine lv_tableOut (tgt := 190) hx hb dX11_count_112 c_4.1 (by decide) ?_
          refine lv_iconst (v := (-1)) hx hb dX11_count_190 rfl ?_
          obtain ⟨hP9, hD9⟩ := zu_sub (wc := [_, _, _, _]) hP hD [true, true, true, true] rfl rfl
          rw [hQ9]
          exact W.iret (v := (-1)) hx hb hr (fun t ht hW => ⟨⟨_, rfl, (-1), rfl, by rw [ht]; exact hP9, hD9⟩, hS.F ht⟩) hS.2.2 dX11_count_191
        · by_cases c_5 : w.toInt = 0
          · refine lv_tableIn (tgt := 160) (off := 48) hx hb dX11_count_112 c_4.2.1 c_4.2.2 (by rw [show (w).toInt = 0 from (rfl).trans c_5]; rfl) (by decide) ?_
            refine lv_aload_n hx hb dX11_count_160 rfl (lv_at hl 5 rfl) ?_
            refine va_get (D := (dC, dI)) (ci := 9) (v := .int (I0 0)) (C := RX11) (T := TX11) (N := 55) hx hb hts inX11 hown hK hP 0 rfl rfl 0 (Nat.le_of_ble_eq_true rfl) (hts _ mw_1159) (fun _ h9 => h9) rfl dX11_count_161 ?_
            refine zz_i (v := nI ft) (hft) ?_
            obtain ⟨hP9, hD9⟩ := zu_sub (wc := [_, _, _, _]) hP hD [true, true, true, true] rfl rfl
            rw [hQ9]
            exact W.iret (v := nI ft) hx hb hr (fun t ht hW => ⟨⟨_, rfl, (nI ft), rfl, by rw [ht]; exact hP9, hD9⟩, hS.F ht⟩) hS.2.2 dX11_count_164
          by_cases c_6 : w.toInt = 1
          · refine lv_tableIn (tgt := 165) (off := 53) hx hb dX11_count_112 c_4.2.1 c_4.2.2 (by rw [show (w).toInt = 1 from (rfl).trans c_6]; rfl) (by decide) ?_
            refine lv_iload_n hx hb dX11_count_165 rfl (lv_at hl 4 rfl) ?_
            obtain ⟨hP9, hD9⟩ := zu_sub (wc := [_, _, _, _]) hP hD [true, true, true, true] rfl rfl
            rw [hQ9]
            exact W.iret (v := nI (cntP (fun g => (st g).toInt = 1) q)) hx hb hr (fun t ht hW => ⟨⟨_, rfl, (nI (cntP (fun g => (st g).toInt = 1) q)), rfl, by rw [ht]; exact hP9, hD9⟩, hS.F ht⟩) hS.2.2 dX11_count_166
          by_cases c_7 : w.toInt = 2
          · refine lv_tableIn (tgt := 167) (off := 55) hx hb dX11_count_112 c_4.2.1 c_4.2.2 (by rw [show (w).toInt = 2 from (rfl).trans c_7]; rfl) (by decide) ?_
            refine lv_iload_n hx hb dX11_count_167 rfl (lv_at hl 3 rfl) ?_
            obtain ⟨hP9, hD9⟩ := zu_sub (wc := [_, _, _, _]) hP hD [true, true, true, true] rfl rfl
            rw [hQ9]
            exact W.iret (v := nI (cntP (fun g => (st g).toInt = 2) q)) hx hb hr (fun t ht hW => ⟨⟨_, rfl, (nI (cntP (fun g => (st g).toInt = 2) q)), rfl, by rw [ht]; exact hP9, hD9⟩, hS.F ht⟩) hS.2.2 dX11_count_168
          by_cases c_8 : w.toInt = 3
          · refine lv_tableIn (tgt := 169) (off := 57) hx hb dX11_count_112 c_4.2.1 c_4.2.2 (by rw [show (w).toInt = 3 from (rfl).trans c_8]; rfl) (by decide) ?_
            refine lv_iload hx hb dX11_count_169 (lv_at hl 2 rfl) ?_
            obtain ⟨hP9, hD9⟩ := zu_sub (wc := [_, _, _, _]) hP hD [true, true, true, true] rfl rfl
            rw [hQ9]
            exact W.iret (v := nI (cntP (fun g => ¬ (tn g).toInt = 0) q)) hx hb hr (fun t ht hW => ⟨⟨_, rfl, (nI (cntP (fun g => ¬ (tn g).toInt = 0) q)), rfl, by rw [ht]; exact hP9, hD9⟩, hS.F ht⟩) hS.2.2 dX11_count_171
          by_cases c_9 : w.toInt = 4
          · refine lv_tableIn (tgt := 172) (off := 60) hx hb dX11_count_112 c_4.2.1 c_4.2.2 (by rw [show (w).toInt = 4 from (rfl).trans c_9]; rfl) (by decide) ?_
            refine lv_iload hx hb dX11_count_172 (lv_at hl 1 rfl) ?_
            obtain ⟨hP9, hD9⟩ := zu_sub (wc := [_, _, _, _]) hP hD [true, true, true, true] rfl rfl
            rw [hQ9]
            exact W.iret (v := nI (smP (lvF ft st tn) (fun g => nN (mn g)) q)) hx hb hr (fun t ht hW => ⟨⟨_, rfl, (nI (smP (lvF ft st tn) (fun g => nN (mn g)) q)), rfl, by rw [ht]; exact hP9, hD9⟩, hS.F ht⟩) hS.2.2 dX11_count_174
          by_cases c_10 : w.toInt = 5
          · refine lv_tableIn (tgt := 175) (off := 63) hx hb dX11_count_112 c_4.2.1 c_4.2.2 (by rw [show (w).toInt = 5 from (rfl).trans c_10]; rfl) (by decide) ?_
            refine lv_aload_n hx hb dX11_count_175 rfl (lv_at hl 5 rfl) ?_
            refine va_get (D := (dC, dI)) (ci := 9) (v := .int (I0 19)) (C := RX11) (T := TX11) (N := 55) hx hb hts inX11 hown hK hP 0 rfl rfl 19 (Nat.le_of_ble_eq_true rfl) (hts _ mw_1178) (fun _ h9 => h9) rfl dX11_count_176 ?_
            obtain ⟨hP9, hD9⟩ := zu_sub (wc := [_, _, _, _]) hP hD [true, true, true, true] rfl rfl
            rw [hQ9]
            exact W.iret (v := I0 19) hx hb hr (fun t ht hW => ⟨⟨_, rfl, (I0 19), rfl, by rw [ht]; exact hP9, hD9⟩, hS.F ht⟩) hS.2.2 dX11_count_179
          by_cases c_11 : w.toInt = 6
          · refine lv_tableIn (tgt := 180) (off := 68) hx hb dX11_count_112 c_4.2.1 c_4.2.2 (by rw [show (w).toInt = 6 from (rfl).trans c_11]; rfl) (by decide) ?_
            refine lv_aload_n hx hb dX11_count_180 rfl (lv_at hl 5 rfl) ?_
            refine va_get (D := (dC, dI)) (ci := 9) (v := .int (I0 20)) (C := RX11) (T := TX11) (N := 55) hx hb hts inX11 hown hK hP 0 rfl rfl 20 (Nat.le_of_ble_eq_true rfl) (hts _ mw_1179) (fun _ h9 => h9) rfl dX11_count_181 ?_
            obtain ⟨hP9, hD9⟩ := zu_sub (wc := [_, _, _, _]) hP hD [true, true, true, true] rfl rfl
            rw [hQ9]
            exact W.iret (v := I0 20) hx hb hr (fun t ht hW => ⟨⟨_, rfl, (I0 20), rfl, by rw [ht]; exact hP9, hD9⟩, hS.F ht⟩) hS.2.2 dX11_count_184
          by_cases c_12 : w.toInt = 7
          · refine lv_tableIn (tgt := 185) (off := 73) hx hb dX11_count_112 c_4.2.1 c_4.2.2 (by rw [show (w).toInt = 7 from (rfl).trans c_12]; rfl) (by decide) ?_
            refine lv_aload_n hx hb dX11_count_185 rfl (lv_at hl 5 rfl) ?_
            refine va_get (D := (dC, dI)) (ci := 9) (v := .int (I0 15)) (C := RX11) (T := TX11) (N := 55) hx hb hts inX11 hown hK hP 0 rfl rfl 15 (Nat.le_of_ble_eq_true rfl) (hts _ mw_1174) (fun _ h9 => h9) rfl dX11_count_186 ?_
            obtain ⟨hP9, hD9⟩ := zu_sub (wc := [_, _, _, _]) hP hD [true, true, true, true] rfl rfl
            rw [hQ9]
            exact W.iret (v := I0 15) hx hb hr (fun t ht hW => ⟨⟨_, rfl, (I0 15), rfl, by rw [ht]; exact hP9, hD9⟩, hS.F ht⟩) hS.2.2 dX11_count_189
          exfalso; omega
      · have c_1 : ((q : Nat) : Int) < ((ft : Nat) : Int) := zc_nle (nI_toInt b9_3) (nI_toInt b9_2) c_1
        refine lv_iload_n hx hb dX11_count_22 rfl (lv_at hl 4 rfl) ?_
        refine lv_aload_n hx hb dX11_count_23 rfl (lv_at hl 5 rfl) ?_
        refine va_get (D := (dC, dI)) (ci := 9) (v := .ref (a 5)) (C := RX11) (T := TX11) (N := 55) hx hb hts inX11 hown hK hP 0 rfl rfl 5 (Nat.le_of_ble_eq_true rfl) (hts _ mw_1164) (fun _ h9 => h9) rfl dX11_count_24 ?_
        refine lv_iload hx hb dX11_count_27 (lv_at hl 0 rfl) ?_
        have b9_13 : q < 201 := by omega
        refine z_iald hx hb hK hP 1 0 rfl rfl (e := q) rfl b9_13 (Nat.le_of_ble_eq_true rfl) dX11_count_29 ?_
        refine lv_iconst (v := 1) hx hb dX11_count_30 rfl ?_
        refine lv_icmp_ne (tgt := 38) hx hb dX11_count_31 rfl (fun c_14 => ?_) (fun c_14 => ?_)
        · have c_14 : ¬ (st q).toInt = 1 := zc_ne rfl rfl c_14
          refine lv_iconst (v := 0) hx hb dX11_count_38 rfl ?_
          refine lv_iadd hx hb dX11_count_39 ?_
          refine zz_i (v := nI ((cntP (fun g => (st g).toInt = 1) q) + 0)) (nI_add (cntP (fun g => (st g).toInt = 1) q) 0) ?_
          refine lv_istore_n (lv' := [(2, .int (nI ((cntP (fun g => (st g).toInt = 1) q) + 0))), (6, .int (nI q)), (5, .int (nI (smP (lvF ft st tn) (fun g => nN (mn g)) q))), (4, .int (nI (cntP (fun g => ¬ (tn g).toInt = 0) q))), (3, .int (nI (cntP (fun g => (st g).toInt = 2) q))), (0, .ref k0), (1, .int w)]) hx hb dX11_count_40 rfl hl (Nat.le_of_ble_eq_true rfl) rfl (fun ls hl => ?_)
          refine lv_iload_n hx hb dX11_count_41 rfl (lv_at hl 4 rfl) ?_
          refine lv_aload_n hx hb dX11_count_42 rfl (lv_at hl 5 rfl) ?_
          refine va_get (D := (dC, dI)) (ci := 9) (v := .ref (a 5)) (C := RX11) (T := TX11) (N := 55) hx hb hts inX11 hown hK hP 0 rfl rfl 5 (Nat.le_of_ble_eq_true rfl) (hts _ mw_1164) (fun _ h9 => h9) rfl dX11_count_43 ?_
          refine lv_iload hx hb dX11_count_46 (lv_at hl 1 rfl) ?_
          refine z_iald hx hb hK hP 1 0 rfl rfl (e := q) rfl b9_13 (Nat.le_of_ble_eq_true rfl) dX11_count_48 ?_
          refine lv_iconst (v := 2) hx hb dX11_count_49 rfl ?_
          refine lv_icmp_ne (tgt := 57) hx hb dX11_count_50 rfl (fun c_15 => ?_) (fun c_15 => ?_)
          · have c_15 : ¬ (st q).toInt = 2 := zc_ne rfl rfl c_15
            refine lv_iconst (v := 0) hx hb dX11_count_57 rfl ?_
            refine lv_iadd hx hb dX11_count_58 ?_
            refine zz_i (v := nI ((cntP (fun g => (st g).toInt = 2) q) + 0)) (nI_add (cntP (fun g => (st g).toInt = 2) q) 0) ?_
            refine lv_istore_n (lv' := [(3, .int (nI ((cntP (fun g => (st g).toInt = 2) q) + 0))), (2, .int (nI ((cntP (fun g => (st g).toInt = 1) q) + 0))), (6, .int (nI q)), (5, .int (nI (smP (lvF ft st tn) (fun g => nN (mn g)) q))), (4, .int (nI (cntP (fun g => ¬ (tn g).toInt = 0) q))), (0, .ref k0), (1, .int w)]) hx hb dX11_count_59 rfl hl (Nat.le_of_ble_eq_true rfl) rfl (fun ls hl => ?_)
            refine lv_iload hx hb dX11_count_60 (lv_at hl 4 rfl) ?_
            refine lv_aload_n hx hb dX11_count_62 rfl (lv_at hl 5 rfl) ?_
            refine va_get (D := (dC, dI)) (ci := 9) (v := .ref (a 6)) (C := RX11) (T := TX11) (N := 55) hx hb hts inX11 hown hK hP 0 rfl rfl 6 (Nat.le_of_ble_eq_true rfl) (hts _ mw_1165) (fun _ h9 => h9) rfl dX11_count_63 ?_
            refine lv_iload hx hb dX11_count_66 (lv_at hl 2 rfl) ?_
            refine z_zald hx hb hK hP 2 1 rfl rfl (e := q) rfl b9_13 (Nat.le_of_ble_eq_true rfl) dX11_count_68 ?_
            refine lv_if_eq (tgt := 76) hx hb dX11_count_69 rfl (fun c_16 => ?_) (fun c_16 => ?_)
            · have c_16 : (tn q).toInt = 0 := zc_eq rfl rfl c_16
              refine lv_iconst (v := 0) hx hb dX11_count_76 rfl ?_
              refine lv_iadd hx hb dX11_count_77 ?_
              refine zz_i (v := nI ((cntP (fun g => ¬ (tn g).toInt = 0) q) + 0)) (nI_add (cntP (fun g => ¬ (tn g).toInt = 0) q) 0) ?_
              refine lv_istore (lv' := [(4, .int (nI ((cntP (fun g => ¬ (tn g).toInt = 0) q) + 0))), (3, .int (nI ((cntP (fun g => (st g).toInt = 2) q) + 0))), (2, .int (nI ((cntP (fun g => (st g).toInt = 1) q) + 0))), (6, .int (nI q)), (5, .int (nI (smP (lvF ft st tn) (fun g => nN (mn g)) q))), (0, .ref k0), (1, .int w)]) hx hb dX11_count_78 hl (Nat.le_of_ble_eq_true rfl) rfl (fun ls hl => ?_)
              refine lv_iload hx hb dX11_count_80 (lv_at hl 4 rfl) ?_
              refine lv_aload_n hx hb dX11_count_82 rfl (lv_at hl 5 rfl) ?_
              refine lv_iload hx hb dX11_count_83 (lv_at hl 3 rfl) ?_
              obtain ⟨hPc, hDc, hFc, hI1⟩ := zi_sub (wc := [_, _, _]) hP hD hS hA [0, 1, 2] rfl rfl
              refine zcall (st1 := [.int (pI (q < ft ∧ (st q).toInt = 1 ∧ (tn q).toInt = 0)), .int (nI (smP (lvF ft st tn) (fun g => nN (mn g)) q))]) (va_runV (As := [.int (nI q)]) (rest := [.int (nI (smP (lvF ft st tn) (fun g => nN (mn g)) q))]) ⟨hx, hb, hml, hown, hts⟩ (k_M_is_n l dC dI cI cZ cF H.size k0 a I0 J0 q ft st tn (by first | with_reducible assumption | assumption) (by first | with_reducible assumption | omega) (by first | with_reducible assumption | omega)) (csV_179 hts rfl rfl ⟨Nat.le_of_ble_eq_true rfl, Nat.le_of_ble_eq_true rfl⟩) (zPV2 (q0 := 0) (ci := 9) hPc hDc hK hXN rfl rfl) rfl rfl hl.1 rfl (lv_room (Nat.le_of_ble_eq_true rfl)) dX11_count_85 ⟨Nat.le_of_ble_eq_true rfl, Nat.le_of_ble_eq_true rfl⟩) hS hFc hFc rfl (fun t H locs ht hB hk1 hS => ?_)
              obtain ⟨hP1, hD1⟩ := hB
              rw [ht] at hP1
              replace hP := z0 hP hD hk1 hP1 hI1
              clear hk1 hPc hDc hFc hP1 hD1 ht hI1
              refine lv_if_eq (tgt := 101) hx hb dX11_count_88 rfl (fun c_17 => ?_) (fun c_17 => ?_)
              · have c_17 : ¬ (q < ft ∧ (st q).toInt = 1 ∧ (tn q).toInt = 0) := zp_0 c_17
                refine lv_iconst (v := 0) hx hb dX11_count_101 rfl ?_
                refine lv_iadd hx hb dX11_count_102 ?_
                refine zz_i (v := nI ((smP (lvF ft st tn) (fun g => nN (mn g)) q) + 0)) (nI_add (smP (lvF ft st tn) (fun g => nN (mn g)) q) 0) ?_
                refine lv_istore (lv' := [(5, .int (nI ((smP (lvF ft st tn) (fun g => nN (mn g)) q) + 0))), (4, .int (nI ((cntP (fun g => ¬ (tn g).toInt = 0) q) + 0))), (3, .int (nI ((cntP (fun g => (st g).toInt = 2) q) + 0))), (2, .int (nI ((cntP (fun g => (st g).toInt = 1) q) + 0))), (6, .int (nI q)), (0, .ref k0), (1, .int w)]) hx hb dX11_count_103 hl (Nat.le_of_ble_eq_true rfl) rfl (fun ls hl => ?_)
                refine lv_iinc (v := nI (q + 1)) (lv' := [(6, .int (nI (q + 1))), (5, .int (nI ((smP (lvF ft st tn) (fun g => nN (mn g)) q) + 0))), (4, .int (nI ((cntP (fun g => ¬ (tn g).toInt = 0) q) + 0))), (3, .int (nI ((cntP (fun g => (st g).toInt = 2) q) + 0))), (2, .int (nI ((cntP (fun g => (st g).toInt = 1) q) + 0))), (0, .ref k0), (1, .int w)]) hx hb dX11_count_105 hl (k := 4) rfl (nI_add q 1) (Nat.le_of_ble_eq_true rfl) rfl (fun ls hl => ?_)
                refine lv_goto (tgt := 13) hx hb dX11_count_108 rfl ?_
                have hl9 := lv_sub hl [0, 1, 2, 3, 4, 5, 6] rfl
                have e9_2 : nI (cntP (fun g => (st g).toInt = 1) (q + 1)) = (nI ((cntP (fun g => (st g).toInt = 1) q) + 0) : Int32) := by first | exact congrArg nI (cntP_y (P := fun g => (st g).toInt = 1) (show (st q).toInt = 1 by omega)) | exact congrArg nI (cntP_n0 (P := fun g => (st g).toInt = 1) (show ¬ (st q).toInt = 1 by omega))
                have e9_3 : nI (cntP (fun g => (st g).toInt = 2) (q + 1)) = (nI ((cntP (fun g => (st g).toInt = 2) q) + 0) : Int32) := by first | exact congrArg nI (cntP_y (P := fun g => (st g).toInt = 2) (show (st q).toInt = 2 by omega)) | exact congrArg nI (cntP_n0 (P := fun g => (st g).toInt = 2) (show ¬ (st q).toInt = 2 by omega))
                have e9_4 : nI (cntP (fun g => ¬ (tn g).toInt = 0) (q + 1)) = (nI ((cntP (fun g => ¬ (tn g).toInt = 0) q) + 0) : Int32) := by first | exact congrArg nI (cntP_y (P := fun g => ¬ (tn g).toInt = 0) (show ¬ (tn q).toInt = 0 by omega)) | exact congrArg nI (cntP_n0 (P := fun g => ¬ (tn g).toInt = 0) (show ¬ ¬ (tn q).toInt = 0 by omega))
                have e9_5 : nI (smP (lvF ft st tn) (fun g => nN (mn g)) (q + 1)) = (nI ((smP (lvF ft st tn) (fun g => nN (mn g)) q) + 0) : Int32) := by first | exact congrArg nI (smP_y (P := lvF ft st tn) (by first | with_reducible assumption | assumption)) | exact congrArg nI (smP_n (P := lvF ft st tn) (by first | with_reducible assumption | assumption))
                have hl9 : lv_has ls 7 [(6, .int (nI (q + 1))), (5, .int (nI (smP (lvF ft st tn) (fun g => nN (mn g)) (q + 1)))), (4, .int (nI (cntP (fun g => ¬ (tn g).toInt = 0) (q + 1)))), (3, .int (nI (cntP (fun g => (st g).toInt = 2) (q + 1)))), (2, .int (nI (cntP (fun g => (st g).toInt = 1) (q + 1)))), (0, .ref k0), (1, .int w)] := by rw [e9_2]; rw [e9_3]; rw [e9_4]; rw [e9_5]; exact hl9
                exact ih_13 (q + 1) H locs ls (by first | with_reducible assumption | omega) (by first | with_reducible assumption | omega) hP hD hS hl9
              · have c_17 : q < ft ∧ (st q).toInt = 1 ∧ (tn q).toInt = 0 := zp_1 c_17
                refine lv_aload_n hx hb dX11_count_91 rfl (lv_at hl 5 rfl) ?_
                refine va_get (D := (dC, dI)) (ci := 9) (v := .ref (a 11)) (C := RX11) (T := TX11) (N := 55) hx hb hts inX11 hown hK hP 0 rfl rfl 11 (Nat.le_of_ble_eq_true rfl) (hts _ mw_1170) (fun _ h9 => h9) rfl dX11_count_92 ?_
                refine lv_iload hx hb dX11_count_95 (lv_at hl 3 rfl) ?_
                refine z_iald hx hb hK hP 3 0 rfl rfl (e := q) rfl b9_13 (Nat.le_of_ble_eq_true rfl) dX11_count_97 ?_
                refine zz_i (v := nI (nN (mn q))) ((hmw q (by first | with_reducible assumption | assumption)).1) ?_
                refine lv_goto (tgt := 102) hx hb dX11_count_98 rfl ?_
                refine lv_iadd hx hb dX11_count_102 ?_
                refine zz_i (v := nI ((smP (lvF ft st tn) (fun g => nN (mn g)) q) + (nN (mn q)))) (nI_add (smP (lvF ft st tn) (fun g => nN (mn g)) q) (nN (mn q))) ?_
                refine lv_istore (lv' := [(5, .int (nI ((smP (lvF ft st tn) (fun g => nN (mn g)) q) + (nN (mn q))))), (4, .int (nI ((cntP (fun g => ¬ (tn g).toInt = 0) q) + 0))), (3, .int (nI ((cntP (fun g => (st g).toInt = 2) q) + 0))), (2, .int (nI ((cntP (fun g => (st g).toInt = 1) q) + 0))), (6, .int (nI q)), (0, .ref k0), (1, .int w)]) hx hb dX11_count_103 hl (Nat.le_of_ble_eq_true rfl) rfl (fun ls hl => ?_)
                refine lv_iinc (v := nI (q + 1)) (lv' := [(6, .int (nI (q + 1))), (5, .int (nI ((smP (lvF ft st tn) (fun g => nN (mn g)) q) + (nN (mn q))))), (4, .int (nI ((cntP (fun g => ¬ (tn g).toInt = 0) q) + 0))), (3, .int (nI ((cntP (fun g => (st g).toInt = 2) q) + 0))), (2, .int (nI ((cntP (fun g => (st g).toInt = 1) q) + 0))), (0, .ref k0), (1, .int w)]) hx hb dX11_count_105 hl (k := 4) rfl (nI_add q 1) (Nat.le_of_ble_eq_true rfl) rfl (fun ls hl => ?_)
                refine lv_goto (tgt := 13) hx hb dX11_count_108 rfl ?_
                have hl9 := lv_sub hl [0, 1, 2, 3, 4, 5, 6] rfl
                have e9_2 : nI (cntP (fun g => (st g).toInt = 1) (q + 1)) = (nI ((cntP (fun g => (st g).toInt = 1) q) + 0) : Int32) := by first | exact congrArg nI (cntP_y (P := fun g => (st g).toInt = 1) (show (st q).toInt = 1 by omega)) | exact congrArg nI (cntP_n0 (P := fun g => (st g).toInt = 1) (show ¬ (st q).toInt = 1 by omega))
                have e9_3 : nI (cntP (fun g => (st g).toInt = 2) (q + 1)) = (nI ((cntP (fun g => (st g).toInt = 2) q) + 0) : Int32) := by first | exact congrArg nI (cntP_y (P := fun g => (st g).toInt = 2) (show (st q).toInt = 2 by omega)) | exact congrArg nI (cntP_n0 (P := fun g => (st g).toInt = 2) (show ¬ (st q).toInt = 2 by omega))
                have e9_4 : nI (cntP (fun g => ¬ (tn g).toInt = 0) (q + 1)) = (nI ((cntP (fun g => ¬ (tn g).toInt = 0) q) + 0) : Int32) := by first | exact congrArg nI (cntP_y (P := fun g => ¬ (tn g).toInt = 0) (show ¬ (tn q).toInt = 0 by omega)) | exact congrArg nI (cntP_n0 (P := fun g => ¬ (tn g).toInt = 0) (show ¬ ¬ (tn q).toInt = 0 by omega))
                have e9_5 : nI (smP (lvF ft st tn) (fun g => nN (mn g)) (q + 1)) = (nI ((smP (lvF ft st tn) (fun g => nN (mn g)) q) + (nN (mn q))) : Int32) := by first | exact congrArg nI (smP_y (P := lvF ft st tn) (by first | with_reducible assumption | assumption)) | exact congrArg nI (smP_n (P := lvF ft st tn) (by first | with_reducible assumption | assumption))
                have hl9 : lv_has ls 7 [(6, .int (nI (q + 1))), (5, .int (nI (smP (lvF ft st tn) (fun g => nN (mn g)) (q + 1)))), (4, .int (nI (cntP (fun g => ¬ (tn g).toInt = 0) (q + 1)))), (3, .int (nI (cntP (fun g => (st g).toInt = 2) (q + 1)))), (2, .int (nI (cntP (fun g => (st g).toInt = 1) (q + 1)))), (0, .ref k0), (1, .int w)] := by rw [e9_2]; rw [e9_3]; rw [e9_4]; rw [e9_5]; exact hl9
                exact ih_13 (q + 1) H locs ls (by first | with_reducible assumption | omega) (by first | with_reducible assumption | omega) hP hD hS hl9
            · have c_16 : ¬ (tn q).toInt = 0 := zc_ne rfl rfl c_16
              refine lv_iconst (v := 1) hx hb dX11_count_72 rfl ?_
              refine lv_goto (tgt := 77) hx hb dX11_count_73 rfl ?_
              refine lv_iadd hx hb dX11_count_77 ?_
              refine zz_i (v := nI ((cntP (fun g => ¬ (tn g).toInt = 0) q) + 1)) (nI_add (cntP (fun g => ¬ (tn g).toInt = 0) q) 1) ?_
              refine lv_istore (lv' := [(4, .int (nI ((cntP (fun g => ¬ (tn g).toInt = 0) q) + 1))), (3, .int (nI ((cntP (fun g => (st g).toInt = 2) q) + 0))), (2, .int (nI ((cntP (fun g => (st g).toInt = 1) q) + 0))), (6, .int (nI q)), (5, .int (nI (smP (lvF ft st tn) (fun g => nN (mn g)) q))), (0, .ref k0), (1, .int w)]) hx hb dX11_count_78 hl (Nat.le_of_ble_eq_true rfl) rfl (fun ls hl => ?_)
              refine lv_iload hx hb dX11_count_80 (lv_at hl 4 rfl) ?_
              refine lv_aload_n hx hb dX11_count_82 rfl (lv_at hl 5 rfl) ?_
              refine lv_iload hx hb dX11_count_83 (lv_at hl 3 rfl) ?_
              obtain ⟨hPc, hDc, hFc, hI1⟩ := zi_sub (wc := [_, _, _]) hP hD hS hA [0, 1, 2] rfl rfl
              refine zcall (st1 := [.int (pI (q < ft ∧ (st q).toInt = 1 ∧ (tn q).toInt = 0)), .int (nI (smP (lvF ft st tn) (fun g => nN (mn g)) q))]) (va_runV (As := [.int (nI q)]) (rest := [.int (nI (smP (lvF ft st tn) (fun g => nN (mn g)) q))]) ⟨hx, hb, hml, hown, hts⟩ (k_M_is_n l dC dI cI cZ cF H.size k0 a I0 J0 q ft st tn (by first | with_reducible assumption | assumption) (by first | with_reducible assumption | omega) (by first | with_reducible assumption | omega)) (csV_179 hts rfl rfl ⟨Nat.le_of_ble_eq_true rfl, Nat.le_of_ble_eq_true rfl⟩) (zPV2 (q0 := 0) (ci := 9) hPc hDc hK hXN rfl rfl) rfl rfl hl.1 rfl (lv_room (Nat.le_of_ble_eq_true rfl)) dX11_count_85 ⟨Nat.le_of_ble_eq_true rfl, Nat.le_of_ble_eq_true rfl⟩) hS hFc hFc rfl (fun t H locs ht hB hk1 hS => ?_)
              obtain ⟨hP1, hD1⟩ := hB
              rw [ht] at hP1
              replace hP := z0 hP hD hk1 hP1 hI1
              clear hk1 hPc hDc hFc hP1 hD1 ht hI1
              refine lv_if_eq (tgt := 101) hx hb dX11_count_88 rfl (fun c_18 => ?_) (fun c_18 => ?_)
              · have c_18 : ¬ (q < ft ∧ (st q).toInt = 1 ∧ (tn q).toInt = 0) := zp_0 c_18
                refine lv_iconst (v := 0) hx hb dX11_count_101 rfl ?_
                refine lv_iadd hx hb dX11_count_102 ?_
                refine zz_i (v := nI ((smP (lvF ft st tn) (fun g => nN (mn g)) q) + 0)) (nI_add (smP (lvF ft st tn) (fun g => nN (mn g)) q) 0) ?_
                refine lv_istore (lv' := [(5, .int (nI ((smP (lvF ft st tn) (fun g => nN (mn g)) q) + 0))), (4, .int (nI ((cntP (fun g => ¬ (tn g).toInt = 0) q) + 1))), (3, .int (nI ((cntP (fun g => (st g).toInt = 2) q) + 0))), (2, .int (nI ((cntP (fun g => (st g).toInt = 1) q) + 0))), (6, .int (nI q)), (0, .ref k0), (1, .int w)]) hx hb dX11_count_103 hl (Nat.le_of_ble_eq_true rfl) rfl (fun ls hl => ?_)
                refine lv_iinc (v := nI (q + 1)) (lv' := [(6, .int (nI (q + 1))), (5, .int (nI ((smP (lvF ft st tn) (fun g => nN (mn g)) q) + 0))), (4, .int (nI ((cntP (fun g => ¬ (tn g).toInt = 0) q) + 1))), (3, .int (nI ((cntP (fun g => (st g).toInt = 2) q) + 0))), (2, .int (nI ((cntP (fun g => (st g).toInt = 1) q) + 0))), (0, .ref k0), (1, .int w)]) hx hb dX11_count_105 hl (k := 4) rfl (nI_add q 1) (Nat.le_of_ble_eq_true rfl) rfl (fun ls hl => ?_)
                refine lv_goto (tgt := 13) hx hb dX11_count_108 rfl ?_
                have hl9 := lv_sub hl [0, 1, 2, 3, 4, 5, 6] rfl
                have e9_2 : nI (cntP (fun g => (st g).toInt = 1) (q + 1)) = (nI ((cntP (fun g => (st g).toInt = 1) q) + 0) : Int32) := by first | exact congrArg nI (cntP_y (P := fun g => (st g).toInt = 1) (show (st q).toInt = 1 by omega)) | exact congrArg nI (cntP_n0 (P := fun g => (st g).toInt = 1) (show ¬ (st q).toInt = 1 by omega))
                have e9_3 : nI (cntP (fun g => (st g).toInt = 2) (q + 1)) = (nI ((cntP (fun g => (st g).toInt = 2) q) + 0) : Int32) := by first | exact congrArg nI (cntP_y (P := fun g => (st g).toInt = 2) (show (st q).toInt = 2 by omega)) | exact congrArg nI (cntP_n0 (P := fun g => (st g).toInt = 2) (show ¬ (st q).toInt = 2 by omega))
                have e9_4 : nI (cntP (fun g => ¬ (tn g).toInt = 0) (q + 1)) = (nI ((cntP (fun g => ¬ (tn g).toInt = 0) q) + 1) : Int32) := by first | exact congrArg nI (cntP_y (P := fun g => ¬ (tn g).toInt = 0) (show ¬ (tn q).toInt = 0 by omega)) | exact congrArg nI (cntP_n0 (P := fun g => ¬ (tn g).toInt = 0) (show ¬ ¬ (tn q).toInt = 0 by omega))
                have e9_5 : nI (smP (lvF ft st tn) (fun g => nN (mn g)) (q + 1)) = (nI ((smP (lvF ft st tn) (fun g => nN (mn g)) q) + 0) : Int32) := by first | exact congrArg nI (smP_y (P := lvF ft st tn) (by first | with_reducible assumption | assumption)) | exact congrArg nI (smP_n (P := lvF ft st tn) (by first | with_reducible assumption | assumption))
                have hl9 : lv_has ls 7 [(6, .int (nI (q + 1))), (5, .int (nI (smP (lvF ft st tn) (fun g => nN (mn g)) (q + 1)))), (4, .int (nI (cntP (fun g => ¬ (tn g).toInt = 0) (q + 1)))), (3, .int (nI (cntP (fun g => (st g).toInt = 2) (q + 1)))), (2, .int (nI (cntP (fun g => (st g).toInt = 1) (q + 1)))), (0, .ref k0), (1, .int w)] := by rw [e9_2]; rw [e9_3]; rw [e9_4]; rw [e9_5]; exact hl9
                exact ih_13 (q + 1) H locs ls (by first | with_reducible assumption | omega) (by first | with_reducible assumption | omega) hP hD hS hl9
              · have c_18 : q < ft ∧ (st q).toInt = 1 ∧ (tn q).toInt = 0 := zp_1 c_18
                refine lv_aload_n hx hb dX11_count_91 rfl (lv_at hl 5 rfl) ?_
                refine va_get (D := (dC, dI)) (ci := 9) (v := .ref (a 11)) (C := RX11) (T := TX11) (N := 55) hx hb hts inX11 hown hK hP 0 rfl rfl 11 (Nat.le_of_ble_eq_true rfl) (hts _ mw_1170) (fun _ h9 => h9) rfl dX11_count_92 ?_
                refine lv_iload hx hb dX11_count_95 (lv_at hl 3 rfl) ?_
                refine z_iald hx hb hK hP 3 0 rfl rfl (e := q) rfl b9_13 (Nat.le_of_ble_eq_true rfl) dX11_count_97 ?_
                refine zz_i (v := nI (nN (mn q))) ((hmw q (by first | with_reducible assumption | assumption)).1) ?_
                refine lv_goto (tgt := 102) hx hb dX11_count_98 rfl ?_
                refine lv_iadd hx hb dX11_count_102 ?_
                refine zz_i (v := nI ((smP (lvF ft st tn) (fun g => nN (mn g)) q) + (nN (mn q)))) (nI_add (smP (lvF ft st tn) (fun g => nN (mn g)) q) (nN (mn q))) ?_
                refine lv_istore (lv' := [(5, .int (nI ((smP (lvF ft st tn) (fun g => nN (mn g)) q) + (nN (mn q))))), (4, .int (nI ((cntP (fun g => ¬ (tn g).toInt = 0) q) + 1))), (3, .int (nI ((cntP (fun g => (st g).toInt = 2) q) + 0))), (2, .int (nI ((cntP (fun g => (st g).toInt = 1) q) + 0))), (6, .int (nI q)), (0, .ref k0), (1, .int w)]) hx hb dX11_count_103 hl (Nat.le_of_ble_eq_true rfl) rfl (fun ls hl => ?_)
                refine lv_iinc (v := nI (q + 1)) (lv' := [(6, .int (nI (q + 1))), (5, .int (nI ((smP (lvF ft st tn) (fun g => nN (mn g)) q) + (nN (mn q))))), (4, .int (nI ((cntP (fun g => ¬ (tn g).toInt = 0) q) + 1))), (3, .int (nI ((cntP (fun g => (st g).toInt = 2) q) + 0))), (2, .int (nI ((cntP (fun g => (st g).toInt = 1) q) + 0))), (0, .ref k0), (1, .int w)]) hx hb dX11_count_105 hl (k := 4) rfl (nI_add q 1) (Nat.le_of_ble_eq_true rfl) rfl (fun ls hl => ?_)
                refine lv_goto (tgt := 13) hx hb dX11_count_108 rfl ?_
                have hl9 := lv_sub hl [0, 1, 2, 3, 4, 5, 6] rfl
                have e9_2 : nI (cntP (fun g => (st g).toInt = 1) (q + 1)) = (nI ((cntP (fun g => (st g).toInt = 1) q) + 0) : Int32) := by first | exact congrArg nI (cntP_y (P := fun g => (st g).toInt = 1) (show (st q).toInt = 1 by omega)) | exact congrArg nI (cntP_n0 (P := fun g => (st g).toInt = 1) (show ¬ (st q).toInt = 1 by omega))
                have e9_3 : nI (cntP (fun g => (st g).toInt = 2) (q + 1)) = (nI ((cntP (fun g => (st g).toInt = 2) q) + 0) : Int32) := by first | exact congrArg nI (cntP_y (P := fun g => (st g).toInt = 2) (show (st q).toInt = 2 by omega)) | exact congrArg nI (cntP_n0 (P := fun g => (st g).toInt = 2) (show ¬ (st q).toInt = 2 by omega))
                have e9_4 : nI (cntP (fun g => ¬ (tn g).toInt = 0) (q + 1)) = (nI ((cntP (fun g => ¬ (tn g).toInt = 0) q) + 1) : Int32) := by first | exact congrArg nI (cntP_y (P := fun g => ¬ (tn g).toInt = 0) (show ¬ (tn q).toInt = 0 by omega)) | exact congrArg nI (cntP_n0 (P := fun g => ¬ (tn g).toInt = 0) (show ¬ ¬ (tn q).toInt = 0 by omega))
                have e9_5 : nI (smP (lvF ft st tn) (fun g => nN (mn g)) (q + 1)) = (nI ((smP (lvF ft st tn) (fun g => nN (mn g)) q) + (nN (mn q))) : Int32) := by first | exact congrArg nI (smP_y (P := lvF ft st tn) (by first | with_reducible assumption | assumption)) | exact congrArg nI (smP_n (P := lvF ft st tn) (by first | with_reducible assumption | assumption))
                have hl9 : lv_has ls 7 [(6, .int (nI (q + 1))), (5, .int (nI (smP (lvF ft st tn) (fun g => nN (mn g)) (q + 1)))), (4, .int (nI (cntP (fun g => ¬ (tn g).toInt = 0) (q + 1)))), (3, .int (nI (cntP (fun g => (st g).toInt = 2) (q + 1)))), (2, .int (nI (cntP (fun g => (st g).toInt = 1) (q + 1)))), (0, .ref k0), (1, .int w)] := by rw [e9_2]; rw [e9_3]; rw [e9_4]; rw [e9_5]; exact hl9
                exact ih_13 (q + 1) H locs ls (by first | with_reducible assumption | omega) (by first | with_reducible assumption | omega) hP hD hS hl9
          · have c_15 : (st q).toInt = 2 := zc_eq rfl rfl c_15
            refine lv_iconst (v := 1) hx hb dX11_count_53 rfl ?_
            refine lv_goto (tgt := 58) hx hb dX11_count_54 rfl ?_
            refine lv_iadd hx hb dX11_count_58 ?_
            refine zz_i (v := nI ((cntP (fun g => (st g).toInt = 2) q) + 1)) (nI_add (cntP (fun g => (st g).toInt = 2) q) 1) ?_
            refine lv_istore_n (lv' := [(3, .int (nI ((cntP (fun g => (st g).toInt = 2) q) + 1))), (2, .int (nI ((cntP (fun g => (st g).toInt = 1) q) + 0))), (6, .int (nI q)), (5, .int (nI (smP (lvF ft st tn) (fun g => nN (mn g)) q))), (4, .int (nI (cntP (fun g => ¬ (tn g).toInt = 0) q))), (0, .ref k0), (1, .int w)]) hx hb dX11_count_59 rfl hl (Nat.le_of_ble_eq_true rfl) rfl (fun ls hl => ?_)
            refine lv_iload hx hb dX11_count_60 (lv_at hl 4 rfl) ?_
            refine lv_aload_n hx hb dX11_count_62 rfl (lv_at hl 5 rfl) ?_
            refine va_get (D := (dC, dI)) (ci := 9) (v := .ref (a 6)) (C := RX11) (T := TX11) (N := 55) hx hb hts inX11 hown hK hP 0 rfl rfl 6 (Nat.le_of_ble_eq_true rfl) (hts _ mw_1165) (fun _ h9 => h9) rfl dX11_count_63 ?_
            refine lv_iload hx hb dX11_count_66 (lv_at hl 2 rfl) ?_
            refine z_zald hx hb hK hP 2 1 rfl rfl (e := q) rfl b9_13 (Nat.le_of_ble_eq_true rfl) dX11_count_68 ?_
            refine lv_if_eq (tgt := 76) hx hb dX11_count_69 rfl (fun c_19 => ?_) (fun c_19 => ?_)
            · have c_19 : (tn q).toInt = 0 := zc_eq rfl rfl c_19
              refine lv_iconst (v := 0) hx hb dX11_count_76 rfl ?_
              refine lv_iadd hx hb dX11_count_77 ?_
              refine zz_i (v := nI ((cntP (fun g => ¬ (tn g).toInt = 0) q) + 0)) (nI_add (cntP (fun g => ¬ (tn g).toInt = 0) q) 0) ?_
              refine lv_istore (lv' := [(4, .int (nI ((cntP (fun g => ¬ (tn g).toInt = 0) q) + 0))), (3, .int (nI ((cntP (fun g => (st g).toInt = 2) q) + 1))), (2, .int (nI ((cntP (fun g => (st g).toInt = 1) q) + 0))), (6, .int (nI q)), (5, .int (nI (smP (lvF ft st tn) (fun g => nN (mn g)) q))), (0, .ref k0), (1, .int w)]) hx hb dX11_count_78 hl (Nat.le_of_ble_eq_true rfl) rfl (fun ls hl => ?_)
              refine lv_iload hx hb dX11_count_80 (lv_at hl 4 rfl) ?_
              refine lv_aload_n hx hb dX11_count_82 rfl (lv_at hl 5 rfl) ?_
              refine lv_iload hx hb dX11_count_83 (lv_at hl 3 rfl) ?_
              obtain ⟨hPc, hDc, hFc, hI1⟩ := zi_sub (wc := [_, _, _]) hP hD hS hA [0, 1, 2] rfl rfl
              refine zcall (st1 := [.int (pI (q < ft ∧ (st q).toInt = 1 ∧ (tn q).toInt = 0)), .int (nI (smP (lvF ft st tn) (fun g => nN (mn g)) q))]) (va_runV (As := [.int (nI q)]) (rest := [.int (nI (smP (lvF ft st tn) (fun g => nN (mn g)) q))]) ⟨hx, hb, hml, hown, hts⟩ (k_M_is_n l dC dI cI cZ cF H.size k0 a I0 J0 q ft st tn (by first | with_reducible assumption | assumption) (by first | with_reducible assumption | omega) (by first | with_reducible assumption | omega)) (csV_179 hts rfl rfl ⟨Nat.le_of_ble_eq_true rfl, Nat.le_of_ble_eq_true rfl⟩) (zPV2 (q0 := 0) (ci := 9) hPc hDc hK hXN rfl rfl) rfl rfl hl.1 rfl (lv_room (Nat.le_of_ble_eq_true rfl)) dX11_count_85 ⟨Nat.le_of_ble_eq_true rfl, Nat.le_of_ble_eq_true rfl⟩) hS hFc hFc rfl (fun t H locs ht hB hk1 hS => ?_)
              obtain ⟨hP1, hD1⟩ := hB
              rw [ht] at hP1
              replace hP := z0 hP hD hk1 hP1 hI1
              clear hk1 hPc hDc hFc hP1 hD1 ht hI1
              refine lv_if_eq (tgt := 101) hx hb dX11_count_88 rfl (fun c_20 => ?_) (fun c_20 => ?_)
              · have c_20 : ¬ (q < ft ∧ (st q).toInt = 1 ∧ (tn q).toInt = 0) := zp_0 c_20
                refine lv_iconst (v := 0) hx hb dX11_count_101 rfl ?_
                refine lv_iadd hx hb dX11_count_102 ?_
                refine zz_i (v := nI ((smP (lvF ft st tn) (fun g => nN (mn g)) q) + 0)) (nI_add (smP (lvF ft st tn) (fun g => nN (mn g)) q) 0) ?_
                refine lv_istore (lv' := [(5, .int (nI ((smP (lvF ft st tn) (fun g => nN (mn g)) q) + 0))), (4, .int (nI ((cntP (fun g => ¬ (tn g).toInt = 0) q) + 0))), (3, .int (nI ((cntP (fun g => (st g).toInt = 2) q) + 1))), (2, .int (nI ((cntP (fun g => (st g).toInt = 1) q) + 0))), (6, .int (nI q)), (0, .ref k0), (1, .int w)]) hx hb dX11_count_103 hl (Nat.le_of_ble_eq_true rfl) rfl (fun ls hl => ?_)
                refine lv_iinc (v := nI (q + 1)) (lv' := [(6, .int (nI (q + 1))), (5, .int (nI ((smP (lvF ft st tn) (fun g => nN (mn g)) q) + 0))), (4, .int (nI ((cntP (fun g => ¬ (tn g).toInt = 0) q) + 0))), (3, .int (nI ((cntP (fun g => (st g).toInt = 2) q) + 1))), (2, .int (nI ((cntP (fun g => (st g).toInt = 1) q) + 0))), (0, .ref k0), (1, .int w)]) hx hb dX11_count_105 hl (k := 4) rfl (nI_add q 1) (Nat.le_of_ble_eq_true rfl) rfl (fun ls hl => ?_)
                refine lv_goto (tgt := 13) hx hb dX11_count_108 rfl ?_
                have hl9 := lv_sub hl [0, 1, 2, 3, 4, 5, 6] rfl
                have e9_2 : nI (cntP (fun g => (st g).toInt = 1) (q + 1)) = (nI ((cntP (fun g => (st g).toInt = 1) q) + 0) : Int32) := by first | exact congrArg nI (cntP_y (P := fun g => (st g).toInt = 1) (show (st q).toInt = 1 by omega)) | exact congrArg nI (cntP_n0 (P := fun g => (st g).toInt = 1) (show ¬ (st q).toInt = 1 by omega))
                have e9_3 : nI (cntP (fun g => (st g).toInt = 2) (q + 1)) = (nI ((cntP (fun g => (st g).toInt = 2) q) + 1) : Int32) := by first | exact congrArg nI (cntP_y (P := fun g => (st g).toInt = 2) (show (st q).toInt = 2 by omega)) | exact congrArg nI (cntP_n0 (P := fun g => (st g).toInt = 2) (show ¬ (st q).toInt = 2 by omega))
                have e9_4 : nI (cntP (fun g => ¬ (tn g).toInt = 0) (q + 1)) = (nI ((cntP (fun g => ¬ (tn g).toInt = 0) q) + 0) : Int32) := by first | exact congrArg nI (cntP_y (P := fun g => ¬ (tn g).toInt = 0) (show ¬ (tn q).toInt = 0 by omega)) | exact congrArg nI (cntP_n0 (P := fun g => ¬ (tn g).toInt = 0) (show ¬ ¬ (tn q).toInt = 0 by omega))
                have e9_5 : nI (smP (lvF ft st tn) (fun g => nN (mn g)) (q + 1)) = (nI ((smP (lvF ft st tn) (fun g => nN (mn g)) q) + 0) : Int32) := by first | exact congrArg nI (smP_y (P := lvF ft st tn) (by first | with_reducible assumption | assumption)) | exact congrArg nI (smP_n (P := lvF ft st tn) (by first | with_reducible assumption | assumption))
                have hl9 : lv_has ls 7 [(6, .int (nI (q + 1))), (5, .int (nI (smP (lvF ft st tn) (fun g => nN (mn g)) (q + 1)))), (4, .int (nI (cntP (fun g => ¬ (tn g).toInt = 0) (q + 1)))), (3, .int (nI (cntP (fun g => (st g).toInt = 2) (q + 1)))), (2, .int (nI (cntP (fun g => (st g).toInt = 1) (q + 1)))), (0, .ref k0), (1, .int w)] := by rw [e9_2]; rw [e9_3]; rw [e9_4]; rw [e9_5]; exact hl9
                exact ih_13 (q + 1) H locs ls (by first | with_reducible assumption | omega) (by first | with_reducible assumption | omega) hP hD hS hl9
              · have c_20 : q < ft ∧ (st q).toInt = 1 ∧ (tn q).toInt = 0 := zp_1 c_20
                refine lv_aload_n hx hb dX11_count_91 rfl (lv_at hl 5 rfl) ?_
                refine va_get (D := (dC, dI)) (ci := 9) (v := .ref (a 11)) (C := RX11) (T := TX11) (N := 55) hx hb hts inX11 hown hK hP 0 rfl rfl 11 (Nat.le_of_ble_eq_true rfl) (hts _ mw_1170) (fun _ h9 => h9) rfl dX11_count_92 ?_
                refine lv_iload hx hb dX11_count_95 (lv_at hl 3 rfl) ?_
                refine z_iald hx hb hK hP 3 0 rfl rfl (e := q) rfl b9_13 (Nat.le_of_ble_eq_true rfl) dX11_count_97 ?_
                refine zz_i (v := nI (nN (mn q))) ((hmw q (by first | with_reducible assumption | assumption)).1) ?_
                refine lv_goto (tgt := 102) hx hb dX11_count_98 rfl ?_
                refine lv_iadd hx hb dX11_count_102 ?_
                refine zz_i (v := nI ((smP (lvF ft st tn) (fun g => nN (mn g)) q) + (nN (mn q)))) (nI_add (smP (lvF ft st tn) (fun g => nN (mn g)) q) (nN (mn q))) ?_
                refine lv_istore (lv' := [(5, .int (nI ((smP (lvF ft st tn) (fun g => nN (mn g)) q) + (nN (mn q))))), (4, .int (nI ((cntP (fun g => ¬ (tn g).toInt = 0) q) + 0))), (3, .int (nI ((cntP (fun g => (st g).toInt = 2) q) + 1))), (2, .int (nI ((cntP (fun g => (st g).toInt = 1) q) + 0))), (6, .int (nI q)), (0, .ref k0), (1, .int w)]) hx hb dX11_count_103 hl (Nat.le_of_ble_eq_true rfl) rfl (fun ls hl => ?_)
                refine lv_iinc (v := nI (q + 1)) (lv' := [(6, .int (nI (q + 1))), (5, .int (nI ((smP (lvF ft st tn) (fun g => nN (mn g)) q) + (nN (mn q))))), (4, .int (nI ((cntP (fun g => ¬ (tn g).toInt = 0) q) + 0))), (3, .int (nI ((cntP (fun g => (st g).toInt = 2) q) + 1))), (2, .int (nI ((cntP (fun g => (st g).toInt = 1) q) + 0))), (0, .ref k0), (1, .int w)]) hx hb dX11_count_105 hl (k := 4) rfl (nI_add q 1) (Nat.le_of_ble_eq_true rfl) rfl (fun ls hl => ?_)
                refine lv_goto (tgt := 13) hx hb dX11_count_108 rfl ?_
                have hl9 := lv_sub hl [0, 1, 2, 3, 4, 5, 6] rfl
                have e9_2 : nI (cntP (fun g => (st g).toInt = 1) (q + 1)) = (nI ((cntP (fun g => (st g).toInt = 1) q) + 0) : Int32) := by first | exact congrArg nI (cntP_y (P := fun g => (st g).toInt = 1) (show (st q).toInt = 1 by omega)) | exact congrArg nI (cntP_n0 (P := fun g => (st g).toInt = 1) (show ¬ (st q).toInt = 1 by omega))
                have e9_3 : nI (cntP (fun g => (st g).toInt = 2) (q + 1)) = (nI ((cntP (fun g => (st g).toInt = 2) q) + 1) : Int32) := by first | exact congrArg nI (cntP_y (P := fun g => (st g).toInt = 2) (show (st q).toInt = 2 by omega)) | exact congrArg nI (cntP_n0 (P := fun g => (st g).toInt = 2) (show ¬ (st q).toInt = 2 by omega))
                have e9_4 : nI (cntP (fun g => ¬ (tn g).toInt = 0) (q + 1)) = (nI ((cntP (fun g => ¬ (tn g).toInt = 0) q) + 0) : Int32) := by first | exact congrArg nI (cntP_y (P := fun g => ¬ (tn g).toInt = 0) (show ¬ (tn q).toInt = 0 by omega)) | exact congrArg nI (cntP_n0 (P := fun g => ¬ (tn g).toInt = 0) (show ¬ ¬ (tn q).toInt = 0 by omega))
                have e9_5 : nI (smP (lvF ft st tn) (fun g => nN (mn g)) (q + 1)) = (nI ((smP (lvF ft st tn) (fun g => nN (mn g)) q) + (nN (mn q))) : Int32) := by first | exact congrArg nI (smP_y (P := lvF ft st tn) (by first | with_reducible assumption | assumption)) | exact congrArg nI (smP_n (P := lvF ft st tn) (by first | with_reducible assumption | assumption))
                have hl9 : lv_has ls 7 [(6, .int (nI (q + 1))), (5, .int (nI (smP (lvF ft st tn) (fun g => nN (mn g)) (q + 1)))), (4, .int (nI (cntP (fun g => ¬ (tn g).toInt = 0) (q + 1)))), (3, .int (nI (cntP (fun g => (st g).toInt = 2) (q + 1)))), (2, .int (nI (cntP (fun g => (st g).toInt = 1) (q + 1)))), (0, .ref k0), (1, .int w)] := by rw [e9_2]; rw [e9_3]; rw [e9_4]; rw [e9_5]; exact hl9
                exact ih_13 (q + 1) H locs ls (by first | with_reducible assumption | omega) (by first | with_reducible assumption | omega) hP hD hS hl9
            · have c_19 : ¬ (tn q).toInt = 0 := zc_ne rfl rfl c_19
              refine lv_iconst (v := 1) hx hb dX11_count_72 rfl ?_
              refine lv_goto (tgt := 77) hx hb dX11_count_73 rfl ?_
              refine lv_iadd hx hb dX11_count_77 ?_
              refine zz_i (v := nI ((cntP (fun g => ¬ (tn g).toInt = 0) q) + 1)) (nI_add (cntP (fun g => ¬ (tn g).toInt = 0) q) 1) ?_
              refine lv_istore (lv' := [(4, .int (nI ((cntP (fun g => ¬ (tn g).toInt = 0) q) + 1))), (3, .int (nI ((cntP (fun g => (st g).toInt = 2) q) + 1))), (2, .int (nI ((cntP (fun g => (st g).toInt = 1) q) + 0))), (6, .int (nI q)), (5, .int (nI (smP (lvF ft st tn) (fun g => nN (mn g)) q))), (0, .ref k0), (1, .int w)]) hx hb dX11_count_78 hl (Nat.le_of_ble_eq_true rfl) rfl (fun ls hl => ?_)
              refine lv_iload hx hb dX11_count_80 (lv_at hl 4 rfl) ?_
              refine lv_aload_n hx hb dX11_count_82 rfl (lv_at hl 5 rfl) ?_
              refine lv_iload hx hb dX11_count_83 (lv_at hl 3 rfl) ?_
              obtain ⟨hPc, hDc, hFc, hI1⟩ := zi_sub (wc := [_, _, _]) hP hD hS hA [0, 1, 2] rfl rfl
              refine zcall (st1 := [.int (pI (q < ft ∧ (st q).toInt = 1 ∧ (tn q).toInt = 0)), .int (nI (smP (lvF ft st tn) (fun g => nN (mn g)) q))]) (va_runV (As := [.int (nI q)]) (rest := [.int (nI (smP (lvF ft st tn) (fun g => nN (mn g)) q))]) ⟨hx, hb, hml, hown, hts⟩ (k_M_is_n l dC dI cI cZ cF H.size k0 a I0 J0 q ft st tn (by first | with_reducible assumption | assumption) (by first | with_reducible assumption | omega) (by first | with_reducible assumption | omega)) (csV_179 hts rfl rfl ⟨Nat.le_of_ble_eq_true rfl, Nat.le_of_ble_eq_true rfl⟩) (zPV2 (q0 := 0) (ci := 9) hPc hDc hK hXN rfl rfl) rfl rfl hl.1 rfl (lv_room (Nat.le_of_ble_eq_true rfl)) dX11_count_85 ⟨Nat.le_of_ble_eq_true rfl, Nat.le_of_ble_eq_true rfl⟩) hS hFc hFc rfl (fun t H locs ht hB hk1 hS => ?_)
              obtain ⟨hP1, hD1⟩ := hB
              rw [ht] at hP1
              replace hP := z0 hP hD hk1 hP1 hI1
              clear hk1 hPc hDc hFc hP1 hD1 ht hI1
              refine lv_if_eq (tgt := 101) hx hb dX11_count_88 rfl (fun c_21 => ?_) (fun c_21 => ?_)
              · have c_21 : ¬ (q < ft ∧ (st q).toInt = 1 ∧ (tn q).toInt = 0) := zp_0 c_21
                refine lv_iconst (v := 0) hx hb dX11_count_101 rfl ?_
                refine lv_iadd hx hb dX11_count_102 ?_
                refine zz_i (v := nI ((smP (lvF ft st tn) (fun g => nN (mn g)) q) + 0)) (nI_add (smP (lvF ft st tn) (fun g => nN (mn g)) q) 0) ?_
                refine lv_istore (lv' := [(5, .int (nI ((smP (lvF ft st tn) (fun g => nN (mn g)) q) + 0))), (4, .int (nI ((cntP (fun g => ¬ (tn g).toInt = 0) q) + 1))), (3, .int (nI ((cntP (fun g => (st g).toInt = 2) q) + 1))), (2, .int (nI ((cntP (fun g => (st g).toInt = 1) q) + 0))), (6, .int (nI q)), (0, .ref k0), (1, .int w)]) hx hb dX11_count_103 hl (Nat.le_of_ble_eq_true rfl) rfl (fun ls hl => ?_)
                refine lv_iinc (v := nI (q + 1)) (lv' := [(6, .int (nI (q + 1))), (5, .int (nI ((smP (lvF ft st tn) (fun g => nN (mn g)) q) + 0))), (4, .int (nI ((cntP (fun g => ¬ (tn g).toInt = 0) q) + 1))), (3, .int (nI ((cntP (fun g => (st g).toInt = 2) q) + 1))), (2, .int (nI ((cntP (fun g => (st g).toInt = 1) q) + 0))), (0, .ref k0), (1, .int w)]) hx hb dX11_count_105 hl (k := 4) rfl (nI_add q 1) (Nat.le_of_ble_eq_true rfl) rfl (fun ls hl => ?_)
                refine lv_goto (tgt := 13) hx hb dX11_count_108 rfl ?_
                have hl9 := lv_sub hl [0, 1, 2, 3, 4, 5, 6] rfl
                have e9_2 : nI (cntP (fun g => (st g).toInt = 1) (q + 1)) = (nI ((cntP (fun g => (st g).toInt = 1) q) + 0) : Int32) := by first | exact congrArg nI (cntP_y (P := fun g => (st g).toInt = 1) (show (st q).toInt = 1 by omega)) | exact congrArg nI (cntP_n0 (P := fun g => (st g).toInt = 1) (show ¬ (st q).toInt = 1 by omega))
                have e9_3 : nI (cntP (fun g => (st g).toInt = 2) (q + 1)) = (nI ((cntP (fun g => (st g).toInt = 2) q) + 1) : Int32) := by first | exact congrArg nI (cntP_y (P := fun g => (st g).toInt = 2) (show (st q).toInt = 2 by omega)) | exact congrArg nI (cntP_n0 (P := fun g => (st g).toInt = 2) (show ¬ (st q).toInt = 2 by omega))
                have e9_4 : nI (cntP (fun g => ¬ (tn g).toInt = 0) (q + 1)) = (nI ((cntP (fun g => ¬ (tn g).toInt = 0) q) + 1) : Int32) := by first | exact congrArg nI (cntP_y (P := fun g => ¬ (tn g).toInt = 0) (show ¬ (tn q).toInt = 0 by omega)) | exact congrArg nI (cntP_n0 (P := fun g => ¬ (tn g).toInt = 0) (show ¬ ¬ (tn q).toInt = 0 by omega))
                have e9_5 : nI (smP (lvF ft st tn) (fun g => nN (mn g)) (q + 1)) = (nI ((smP (lvF ft st tn) (fun g => nN (mn g)) q) + 0) : Int32) := by first | exact congrArg nI (smP_y (P := lvF ft st tn) (by first | with_reducible assumption | assumption)) | exact congrArg nI (smP_n (P := lvF ft st tn) (by first | with_reducible assumption | assumption))
                have hl9 : lv_has ls 7 [(6, .int (nI (q + 1))), (5, .int (nI (smP (lvF ft st tn) (fun g => nN (mn g)) (q + 1)))), (4, .int (nI (cntP (fun g => ¬ (tn g).toInt = 0) (q + 1)))), (3, .int (nI (cntP (fun g => (st g).toInt = 2) (q + 1)))), (2, .int (nI (cntP (fun g => (st g).toInt = 1) (q + 1)))), (0, .ref k0), (1, .int w)] := by rw [e9_2]; rw [e9_3]; rw [e9_4]; rw [e9_5]; exact hl9
                exact ih_13 (q + 1) H locs ls (by first | with_reducible assumption | omega) (by first | with_reducible assumption | omega) hP hD hS hl9
              · have c_21 : q < ft ∧ (st q).toInt = 1 ∧ (tn q).toInt = 0 := zp_1 c_21
                refine lv_aload_n hx hb dX11_count_91 rfl (lv_at hl 5 rfl) ?_
                refine va_get (D := (dC, dI)) (ci := 9) (v := .ref (a 11)) (C := RX11) (T := TX11) (N := 55) hx hb hts inX11 hown hK hP 0 rfl rfl 11 (Nat.le_of_ble_eq_true rfl) (hts _ mw_1170) (fun _ h9 => h9) rfl dX11_count_92 ?_
                refine lv_iload hx hb dX11_count_95 (lv_at hl 3 rfl) ?_
                refine z_iald hx hb hK hP 3 0 rfl rfl (e := q) rfl b9_13 (Nat.le_of_ble_eq_true rfl) dX11_count_97 ?_
                refine zz_i (v := nI (nN (mn q))) ((hmw q (by first | with_reducible assumption | assumption)).1) ?_
                refine lv_goto (tgt := 102) hx hb dX11_count_98 rfl ?_
                refine lv_iadd hx hb dX11_count_102 ?_
                refine zz_i (v := nI ((smP (lvF ft st tn) (fun g => nN (mn g)) q) + (nN (mn q)))) (nI_add (smP (lvF ft st tn) (fun g => nN (mn g)) q) (nN (mn q))) ?_
                refine lv_istore (lv' := [(5, .int (nI ((smP (lvF ft st tn) (fun g => nN (mn g)) q) + (nN (mn q))))), (4, .int (nI ((cntP (fun g => ¬ (tn g).toInt = 0) q) + 1))), (3, .int (nI ((cntP (fun g => (st g).toInt = 2) q) + 1))), (2, .int (nI ((cntP (fun g => (st g).toInt = 1) q) + 0))), (6, .int (nI q)), (0, .ref k0), (1, .int w)]) hx hb dX11_count_103 hl (Nat.le_of_ble_eq_true rfl) rfl (fun ls hl => ?_)
                refine lv_iinc (v := nI (q + 1)) (lv' := [(6, .int (nI (q + 1))), (5, .int (nI ((smP (lvF ft st tn) (fun g => nN (mn g)) q) + (nN (mn q))))), (4, .int (nI ((cntP (fun g => ¬ (tn g).toInt = 0) q) + 1))), (3, .int (nI ((cntP (fun g => (st g).toInt = 2) q) + 1))), (2, .int (nI ((cntP (fun g => (st g).toInt = 1) q) + 0))), (0, .ref k0), (1, .int w)]) hx hb dX11_count_105 hl (k := 4) rfl (nI_add q 1) (Nat.le_of_ble_eq_true rfl) rfl (fun ls hl => ?_)
                refine lv_goto (tgt := 13) hx hb dX11_count_108 rfl ?_
                have hl9 := lv_sub hl [0, 1, 2, 3, 4, 5, 6] rfl
                have e9_2 : nI (cntP (fun g => (st g).toInt = 1) (q + 1)) = (nI ((cntP (fun g => (st g).toInt = 1) q) + 0) : Int32) := by first | exact congrArg nI (cntP_y (P := fun g => (st g).toInt = 1) (show (st q).toInt = 1 by omega)) | exact congrArg nI (cntP_n0 (P := fun g => (st g).toInt = 1) (show ¬ (st q).toInt = 1 by omega))
                have e9_3 : nI (cntP (fun g => (st g).toInt = 2) (q + 1)) = (nI ((cntP (fun g => (st g).toInt = 2) q) + 1) : Int32) := by first | exact congrArg nI (cntP_y (P := fun g => (st g).toInt = 2) (show (st q).toInt = 2 by omega)) | exact congrArg nI (cntP_n0 (P := fun g => (st g).toInt = 2) (show ¬ (st q).toInt = 2 by omega))
                have e9_4 : nI (cntP (fun g => ¬ (tn g).toInt = 0) (q + 1)) = (nI ((cntP (fun g => ¬ (tn g).toInt = 0) q) + 1) : Int32) := by first | exact congrArg nI (cntP_y (P := fun g => ¬ (tn g).toInt = 0) (show ¬ (tn q).toInt = 0 by omega)) | exact congrArg nI (cntP_n0 (P := fun g => ¬ (tn g).toInt = 0) (show ¬ ¬ (tn q).toInt = 0 by omega))
                have e9_5 : nI (smP (lvF ft st tn) (fun g => nN (mn g)) (q + 1)) = (nI ((smP (lvF ft st tn) (fun g => nN (mn g)) q) + (nN (mn q))) : Int32) := by first | exact congrArg nI (smP_y (P := lvF ft st tn) (by first | with_reducible assumption | assumption)) | exact congrArg nI (smP_n (P := lvF ft st tn) (by first | with_reducible assumption | assumption))
                have hl9 : lv_has ls 7 [(6, .int (nI (q + 1))), (5, .int (nI (smP (lvF ft st tn) (fun g => nN (mn g)) (q + 1)))), (4, .int (nI (cntP (fun g => ¬ (tn g).toInt = 0) (q + 1)))), (3, .int (nI (cntP (fun g => (st g).toInt = 2) (q + 1)))), (2, .int (nI (cntP (fun g => (st g).toInt = 1) (q + 1)))), (0, .ref k0), (1, .int w)] := by rw [e9_2]; rw [e9_3]; rw [e9_4]; rw [e9_5]; exact hl9
                exact ih_13 (q + 1) H locs ls (by first | with_reducible assumption | omega) (by first | with_reducible assumption | omega) hP hD hS hl9
        · have c_14 : (st q).toInt = 1 := zc_eq rfl rfl c_14
          refine lv_iconst (v := 1) hx hb dX11_count_34 rfl ?_
          refine lv_goto (tgt := 39) hx hb dX11_count_35 rfl ?_
          refine lv_iadd hx hb dX11_count_39 ?_
          refine zz_i (v := nI ((cntP (fun g => (st g).toInt = 1) q) + 1)) (nI_add (cntP (fun g => (st g).toInt = 1) q) 1) ?_
          refine lv_istore_n (lv' := [(2, .int (nI ((cntP (fun g => (st g).toInt = 1) q) + 1))), (6, .int (nI q)), (5, .int (nI (smP (lvF ft st tn) (fun g => nN (mn g)) q))), (4, .int (nI (cntP (fun g => ¬ (tn g).toInt = 0) q))), (3, .int (nI (cntP (fun g => (st g).toInt = 2) q))), (0, .ref k0), (1, .int w)]) hx hb dX11_count_40 rfl hl (Nat.le_of_ble_eq_true rfl) rfl (fun ls hl => ?_)
          refine lv_iload_n hx hb dX11_count_41 rfl (lv_at hl 4 rfl) ?_
          refine lv_aload_n hx hb dX11_count_42 rfl (lv_at hl 5 rfl) ?_
          refine va_get (D := (dC, dI)) (ci := 9) (v := .ref (a 5)) (C := RX11) (T := TX11) (N := 55) hx hb hts inX11 hown hK hP 0 rfl rfl 5 (Nat.le_of_ble_eq_true rfl) (hts _ mw_1164) (fun _ h9 => h9) rfl dX11_count_43 ?_
          refine lv_iload hx hb dX11_count_46 (lv_at hl 1 rfl) ?_
          refine z_iald hx hb hK hP 1 0 rfl rfl (e := q) rfl b9_13 (Nat.le_of_ble_eq_true rfl) dX11_count_48 ?_
          refine lv_iconst (v := 2) hx hb dX11_count_49 rfl ?_
          refine lv_icmp_ne (tgt := 57) hx hb dX11_count_50 rfl (fun c_22 => ?_) (fun c_22 => ?_)
          · have c_22 : ¬ (st q).toInt = 2 := zc_ne rfl rfl c_22
            refine lv_iconst (v := 0) hx hb dX11_count_57 rfl ?_
            refine lv_iadd hx hb dX11_count_58 ?_
            refine zz_i (v := nI ((cntP (fun g => (st g).toInt = 2) q) + 0)) (nI_add (cntP (fun g => (st g).toInt = 2) q) 0) ?_
            refine lv_istore_n (lv' := [(3, .int (nI ((cntP (fun g => (st g).toInt = 2) q) + 0))), (2, .int (nI ((cntP (fun g => (st g).toInt = 1) q) + 1))), (6, .int (nI q)), (5, .int (nI (smP (lvF ft st tn) (fun g => nN (mn g)) q))), (4, .int (nI (cntP (fun g => ¬ (tn g).toInt = 0) q))), (0, .ref k0), (1, .int w)]) hx hb dX11_count_59 rfl hl (Nat.le_of_ble_eq_true rfl) rfl (fun ls hl => ?_)
            refine lv_iload hx hb dX11_count_60 (lv_at hl 4 rfl) ?_
            refine lv_aload_n hx hb dX11_count_62 rfl (lv_at hl 5 rfl) ?_
            refine va_get (D := (dC, dI)) (ci := 9) (v := .ref (a 6)) (C := RX11) (T := TX11) (N := 55) hx hb hts inX11 hown hK hP 0 rfl rfl 6 (Nat.le_of_ble_eq_true rfl) (hts _ mw_1165) (fun _ h9 => h9) rfl dX11_count_63 ?_
            refine lv_iload hx hb dX11_count_66 (lv_at hl 2 rfl) ?_
            refine z_zald hx hb hK hP 2 1 rfl rfl (e := q) rfl b9_13 (Nat.le_of_ble_eq_true rfl) dX11_count_68 ?_
            refine lv_if_eq (tgt := 76) hx hb dX11_count_69 rfl (fun c_23 => ?_) (fun c_23 => ?_)
            · have c_23 : (tn q).toInt = 0 := zc_eq rfl rfl c_23
              refine lv_iconst (v := 0) hx hb dX11_count_76 rfl ?_
              refine lv_iadd hx hb dX11_count_77 ?_
              refine zz_i (v := nI ((cntP (fun g => ¬ (tn g).toInt = 0) q) + 0)) (nI_add (cntP (fun g => ¬ (tn g).toInt = 0) q) 0) ?_
              refine lv_istore (lv' := [(4, .int (nI ((cntP (fun g => ¬ (tn g).toInt = 0) q) + 0))), (3, .int (nI ((cntP (fun g => (st g).toInt = 2) q) + 0))), (2, .int (nI ((cntP (fun g => (st g).toInt = 1) q) + 1))), (6, .int (nI q)), (5, .int (nI (smP (lvF ft st tn) (fun g => nN (mn g)) q))), (0, .ref k0), (1, .int w)]) hx hb dX11_count_78 hl (Nat.le_of_ble_eq_true rfl) rfl (fun ls hl => ?_)
              refine lv_iload hx hb dX11_count_80 (lv_at hl 4 rfl) ?_
              refine lv_aload_n hx hb dX11_count_82 rfl (lv_at hl 5 rfl) ?_
              refine lv_iload hx hb dX11_count_83 (lv_at hl 3 rfl) ?_
              obtain ⟨hPc, hDc, hFc, hI1⟩ := zi_sub (wc := [_, _, _]) hP hD hS hA [0, 1, 2] rfl rfl
              refine zcall (st1 := [.int (pI (q < ft ∧ (st q).toInt = 1 ∧ (tn q).toInt = 0)), .int (nI (smP (lvF ft st tn) (fun g => nN (mn g)) q))]) (va_runV (As := [.int (nI q)]) (rest := [.int (nI (smP (lvF ft st tn) (fun g => nN (mn g)) q))]) ⟨hx, hb, hml, hown, hts⟩ (k_M_is_n l dC dI cI cZ cF H.size k0 a I0 J0 q ft st tn (by first | with_reducible assumption | assumption) (by first | with_reducible assumption | omega) (by first | with_reducible assumption | omega)) (csV_179 hts rfl rfl ⟨Nat.le_of_ble_eq_true rfl, Nat.le_of_ble_eq_true rfl⟩) (zPV2 (q0 := 0) (ci := 9) hPc hDc hK hXN rfl rfl) rfl rfl hl.1 rfl (lv_room (Nat.le_of_ble_eq_true rfl)) dX11_count_85 ⟨Nat.le_of_ble_eq_true rfl, Nat.le_of_ble_eq_true rfl⟩) hS hFc hFc rfl (fun t H locs ht hB hk1 hS => ?_)
              obtain ⟨hP1, hD1⟩ := hB
              rw [ht] at hP1
              replace hP := z0 hP hD hk1 hP1 hI1
              clear hk1 hPc hDc hFc hP1 hD1 ht hI1
              refine lv_if_eq (tgt := 101) hx hb dX11_count_88 rfl (fun c_24 => ?_) (fun c_24 => ?_)
              · have c_24 : ¬ (q < ft ∧ (st q).toInt = 1 ∧ (tn q).toInt = 0) := zp_0 c_24
                refine lv_iconst (v := 0) hx hb dX11_count_101 rfl ?_
                refine lv_iadd hx hb dX11_count_102 ?_
                refine zz_i (v := nI ((smP (lvF ft st tn) (fun g => nN (mn g)) q) + 0)) (nI_add (smP (lvF ft st tn) (fun g => nN (mn g)) q) 0) ?_
                refine lv_istore (lv' := [(5, .int (nI ((smP (lvF ft st tn) (fun g => nN (mn g)) q) + 0))), (4, .int (nI ((cntP (fun g => ¬ (tn g).toInt = 0) q) + 0))), (3, .int (nI ((cntP (fun g => (st g).toInt = 2) q) + 0))), (2, .int (nI ((cntP (fun g => (st g).toInt = 1) q) + 1))), (6, .int (nI q)), (0, .ref k0), (1, .int w)]) hx hb dX11_count_103 hl (Nat.le_of_ble_eq_true rfl) rfl (fun ls hl => ?_)
                refine lv_iinc (v := nI (q + 1)) (lv' := [(6, .int (nI (q + 1))), (5, .int (nI ((smP (lvF ft st tn) (fun g => nN (mn g)) q) + 0))), (4, .int (nI ((cntP (fun g => ¬ (tn g).toInt = 0) q) + 0))), (3, .int (nI ((cntP (fun g => (st g).toInt = 2) q) + 0))), (2, .int (nI ((cntP (fun g => (st g).toInt = 1) q) + 1))), (0, .ref k0), (1, .int w)]) hx hb dX11_count_105 hl (k := 4) rfl (nI_add q 1) (Nat.le_of_ble_eq_true rfl) rfl (fun ls hl => ?_)
                refine lv_goto (tgt := 13) hx hb dX11_count_108 rfl ?_
                have hl9 := lv_sub hl [0, 1, 2, 3, 4, 5, 6] rfl
                have e9_2 : nI (cntP (fun g => (st g).toInt = 1) (q + 1)) = (nI ((cntP (fun g => (st g).toInt = 1) q) + 1) : Int32) := by first | exact congrArg nI (cntP_y (P := fun g => (st g).toInt = 1) (show (st q).toInt = 1 by omega)) | exact congrArg nI (cntP_n0 (P := fun g => (st g).toInt = 1) (show ¬ (st q).toInt = 1 by omega))
                have e9_3 : nI (cntP (fun g => (st g).toInt = 2) (q + 1)) = (nI ((cntP (fun g => (st g).toInt = 2) q) + 0) : Int32) := by first | exact congrArg nI (cntP_y (P := fun g => (st g).toInt = 2) (show (st q).toInt = 2 by omega)) | exact congrArg nI (cntP_n0 (P := fun g => (st g).toInt = 2) (show ¬ (st q).toInt = 2 by omega))
                have e9_4 : nI (cntP (fun g => ¬ (tn g).toInt = 0) (q + 1)) = (nI ((cntP (fun g => ¬ (tn g).toInt = 0) q) + 0) : Int32) := by first | exact congrArg nI (cntP_y (P := fun g => ¬ (tn g).toInt = 0) (show ¬ (tn q).toInt = 0 by omega)) | exact congrArg nI (cntP_n0 (P := fun g => ¬ (tn g).toInt = 0) (show ¬ ¬ (tn q).toInt = 0 by omega))
                have e9_5 : nI (smP (lvF ft st tn) (fun g => nN (mn g)) (q + 1)) = (nI ((smP (lvF ft st tn) (fun g => nN (mn g)) q) + 0) : Int32) := by first | exact congrArg nI (smP_y (P := lvF ft st tn) (by first | with_reducible assumption | assumption)) | exact congrArg nI (smP_n (P := lvF ft st tn) (by first | with_reducible assumption | assumption))
                have hl9 : lv_has ls 7 [(6, .int (nI (q + 1))), (5, .int (nI (smP (lvF ft st tn) (fun g => nN (mn g)) (q + 1)))), (4, .int (nI (cntP (fun g => ¬ (tn g).toInt = 0) (q + 1)))), (3, .int (nI (cntP (fun g => (st g).toInt = 2) (q + 1)))), (2, .int (nI (cntP (fun g => (st g).toInt = 1) (q + 1)))), (0, .ref k0), (1, .int w)] := by rw [e9_2]; rw [e9_3]; rw [e9_4]; rw [e9_5]; exact hl9
                exact ih_13 (q + 1) H locs ls (by first | with_reducible assumption | omega) (by first | with_reducible assumption | omega) hP hD hS hl9
              · have c_24 : q < ft ∧ (st q).toInt = 1 ∧ (tn q).toInt = 0 := zp_1 c_24
                refine lv_aload_n hx hb dX11_count_91 rfl (lv_at hl 5 rfl) ?_
                refine va_get (D := (dC, dI)) (ci := 9) (v := .ref (a 11)) (C := RX11) (T := TX11) (N := 55) hx hb hts inX11 hown hK hP 0 rfl rfl 11 (Nat.le_of_ble_eq_true rfl) (hts _ mw_1170) (fun _ h9 => h9) rfl dX11_count_92 ?_
                refine lv_iload hx hb dX11_count_95 (lv_at hl 3 rfl) ?_
                refine z_iald hx hb hK hP 3 0 rfl rfl (e := q) rfl b9_13 (Nat.le_of_ble_eq_true rfl) dX11_count_97 ?_
                refine zz_i (v := nI (nN (mn q))) ((hmw q (by first | with_reducible assumption | assumption)).1) ?_
                refine lv_goto (tgt := 102) hx hb dX11_count_98 rfl ?_
                refine lv_iadd hx hb dX11_count_102 ?_
                refine zz_i (v := nI ((smP (lvF ft st tn) (fun g => nN (mn g)) q) + (nN (mn q)))) (nI_add (smP (lvF ft st tn) (fun g => nN (mn g)) q) (nN (mn q))) ?_
                refine lv_istore (lv' := [(5, .int (nI ((smP (lvF ft st tn) (fun g => nN (mn g)) q) + (nN (mn q))))), (4, .int (nI ((cntP (fun g => ¬ (tn g).toInt = 0) q) + 0))), (3, .int (nI ((cntP (fun g => (st g).toInt = 2) q) + 0))), (2, .int (nI ((cntP (fun g => (st g).toInt = 1) q) + 1))), (6, .int (nI q)), (0, .ref k0), (1, .int w)]) hx hb dX11_count_103 hl (Nat.le_of_ble_eq_true rfl) rfl (fun ls hl => ?_)
                refine lv_iinc (v := nI (q + 1)) (lv' := [(6, .int (nI (q + 1))), (5, .int (nI ((smP (lvF ft st tn) (fun g => nN (mn g)) q) + (nN (mn q))))), (4, .int (nI ((cntP (fun g => ¬ (tn g).toInt = 0) q) + 0))), (3, .int (nI ((cntP (fun g => (st g).toInt = 2) q) + 0))), (2, .int (nI ((cntP (fun g => (st g).toInt = 1) q) + 1))), (0, .ref k0), (1, .int w)]) hx hb dX11_count_105 hl (k := 4) rfl (nI_add q 1) (Nat.le_of_ble_eq_true rfl) rfl (fun ls hl => ?_)
                refine lv_goto (tgt := 13) hx hb dX11_count_108 rfl ?_
                have hl9 := lv_sub hl [0, 1, 2, 3, 4, 5, 6] rfl
                have e9_2 : nI (cntP (fun g => (st g).toInt = 1) (q + 1)) = (nI ((cntP (fun g => (st g).toInt = 1) q) + 1) : Int32) := by first | exact congrArg nI (cntP_y (P := fun g => (st g).toInt = 1) (show (st q).toInt = 1 by omega)) | exact congrArg nI (cntP_n0 (P := fun g => (st g).toInt = 1) (show ¬ (st q).toInt = 1 by omega))
                have e9_3 : nI (cntP (fun g => (st g).toInt = 2) (q + 1)) = (nI ((cntP (fun g => (st g).toInt = 2) q) + 0) : Int32) := by first | exact congrArg nI (cntP_y (P := fun g => (st g).toInt = 2) (show (st q).toInt = 2 by omega)) | exact congrArg nI (cntP_n0 (P := fun g => (st g).toInt = 2) (show ¬ (st q).toInt = 2 by omega))
                have e9_4 : nI (cntP (fun g => ¬ (tn g).toInt = 0) (q + 1)) = (nI ((cntP (fun g => ¬ (tn g).toInt = 0) q) + 0) : Int32) := by first | exact congrArg nI (cntP_y (P := fun g => ¬ (tn g).toInt = 0) (show ¬ (tn q).toInt = 0 by omega)) | exact congrArg nI (cntP_n0 (P := fun g => ¬ (tn g).toInt = 0) (show ¬ ¬ (tn q).toInt = 0 by omega))
                have e9_5 : nI (smP (lvF ft st tn) (fun g => nN (mn g)) (q + 1)) = (nI ((smP (lvF ft st tn) (fun g => nN (mn g)) q) + (nN (mn q))) : Int32) := by first | exact congrArg nI (smP_y (P := lvF ft st tn) (by first | with_reducible assumption | assumption)) | exact congrArg nI (smP_n (P := lvF ft st tn) (by first | with_reducible assumption | assumption))
                have hl9 : lv_has ls 7 [(6, .int (nI (q + 1))), (5, .int (nI (smP (lvF ft st tn) (fun g => nN (mn g)) (q + 1)))), (4, .int (nI (cntP (fun g => ¬ (tn g).toInt = 0) (q + 1)))), (3, .int (nI (cntP (fun g => (st g).toInt = 2) (q + 1)))), (2, .int (nI (cntP (fun g => (st g).toInt = 1) (q + 1)))), (0, .ref k0), (1, .int w)] := by rw [e9_2]; rw [e9_3]; rw [e9_4]; rw [e9_5]; exact hl9
                exact ih_13 (q + 1) H locs ls (by first | with_reducible assumption | omega) (by first | with_reducible assumption | omega) hP hD hS hl9
            · have c_23 : ¬ (tn q).toInt = 0 := zc_ne rfl rfl c_23
              refine lv_iconst (v := 1) hx hb dX11_count_72 rfl ?_
              refine lv_goto (tgt := 77) hx hb dX11_count_73 rfl ?_
              refine lv_iadd hx hb dX11_count_77 ?_
              refine zz_i (v := nI ((cntP (fun g => ¬ (tn g).toInt = 0) q) + 1)) (nI_add (cntP (fun g => ¬ (tn g).toInt = 0) q) 1) ?_
              refine lv_istore (lv' := [(4, .int (nI ((cntP (fun g => ¬ (tn g).toInt = 0) q) + 1))), (3, .int (nI ((cntP (fun g => (st g).toInt = 2) q) + 0))), (2, .int (nI ((cntP (fun g => (st g).toInt = 1) q) + 1))), (6, .int (nI q)), (5, .int (nI (smP (lvF ft st tn) (fun g => nN (mn g)) q))), (0, .ref k0), (1, .int w)]) hx hb dX11_count_78 hl (Nat.le_of_ble_eq_true rfl) rfl (fun ls hl => ?_)
              refine lv_iload hx hb dX11_count_80 (lv_at hl 4 rfl) ?_
              refine lv_aload_n hx hb dX11_count_82 rfl (lv_at hl 5 rfl) ?_
              refine lv_iload hx hb dX11_count_83 (lv_at hl 3 rfl) ?_
              obtain ⟨hPc, hDc, hFc, hI1⟩ := zi_sub (wc := [_, _, _]) hP hD hS hA [0, 1, 2] rfl rfl
              refine zcall (st1 := [.int (pI (q < ft ∧ (st q).toInt = 1 ∧ (tn q).toInt = 0)), .int (nI (smP (lvF ft st tn) (fun g => nN (mn g)) q))]) (va_runV (As := [.int (nI q)]) (rest := [.int (nI (smP (lvF ft st tn) (fun g => nN (mn g)) q))]) ⟨hx, hb, hml, hown, hts⟩ (k_M_is_n l dC dI cI cZ cF H.size k0 a I0 J0 q ft st tn (by first | with_reducible assumption | assumption) (by first | with_reducible assumption | omega) (by first | with_reducible assumption | omega)) (csV_179 hts rfl rfl ⟨Nat.le_of_ble_eq_true rfl, Nat.le_of_ble_eq_true rfl⟩) (zPV2 (q0 := 0) (ci := 9) hPc hDc hK hXN rfl rfl) rfl rfl hl.1 rfl (lv_room (Nat.le_of_ble_eq_true rfl)) dX11_count_85 ⟨Nat.le_of_ble_eq_true rfl, Nat.le_of_ble_eq_true rfl⟩) hS hFc hFc rfl (fun t H locs ht hB hk1 hS => ?_)
              obtain ⟨hP1, hD1⟩ := hB
              rw [ht] at hP1
              replace hP := z0 hP hD hk1 hP1 hI1
              clear hk1 hPc hDc hFc hP1 hD1 ht hI1
              refine lv_if_eq (tgt := 101) hx hb dX11_count_88 rfl (fun c_25 => ?_) (fun c_25 => ?_)
              · have c_25 : ¬ (q < ft ∧ (st q).toInt = 1 ∧ (tn q).toInt = 0) := zp_0 c_25
                refine lv_iconst (v := 0) hx hb dX11_count_101 rfl ?_
                refine lv_iadd hx hb dX11_count_102 ?_
                refine zz_i (v := nI ((smP (lvF ft st tn) (fun g => nN (mn g)) q) + 0)) (nI_add (smP (lvF ft st tn) (fun g => nN (mn g)) q) 0) ?_
                refine lv_istore (lv' := [(5, .int (nI ((smP (lvF ft st tn) (fun g => nN (mn g)) q) + 0))), (4, .int (nI ((cntP (fun g => ¬ (tn g).toInt = 0) q) + 1))), (3, .int (nI ((cntP (fun g => (st g).toInt = 2) q) + 0))), (2, .int (nI ((cntP (fun g => (st g).toInt = 1) q) + 1))), (6, .int (nI q)), (0, .ref k0), (1, .int w)]) hx hb dX11_count_103 hl (Nat.le_of_ble_eq_true rfl) rfl (fun ls hl => ?_)
                refine lv_iinc (v := nI (q + 1)) (lv' := [(6, .int (nI (q + 1))), (5, .int (nI ((smP (lvF ft st tn) (fun g => nN (mn g)) q) + 0))), (4, .int (nI ((cntP (fun g => ¬ (tn g).toInt = 0) q) + 1))), (3, .int (nI ((cntP (fun g => (st g).toInt = 2) q) + 0))), (2, .int (nI ((cntP (fun g => (st g).toInt = 1) q) + 1))), (0, .ref k0), (1, .int w)]) hx hb dX11_count_105 hl (k := 4) rfl (nI_add q 1) (Nat.le_of_ble_eq_true rfl) rfl (fun ls hl => ?_)
                refine lv_goto (tgt := 13) hx hb dX11_count_108 rfl ?_
                have hl9 := lv_sub hl [0, 1, 2, 3, 4, 5, 6] rfl
                have e9_2 : nI (cntP (fun g => (st g).toInt = 1) (q + 1)) = (nI ((cntP (fun g => (st g).toInt = 1) q) + 1) : Int32) := by first | exact congrArg nI (cntP_y (P := fun g => (st g).toInt = 1) (show (st q).toInt = 1 by omega)) | exact congrArg nI (cntP_n0 (P := fun g => (st g).toInt = 1) (show ¬ (st q).toInt = 1 by omega))
                have e9_3 : nI (cntP (fun g => (st g).toInt = 2) (q + 1)) = (nI ((cntP (fun g => (st g).toInt = 2) q) + 0) : Int32) := by first | exact congrArg nI (cntP_y (P := fun g => (st g).toInt = 2) (show (st q).toInt = 2 by omega)) | exact congrArg nI (cntP_n0 (P := fun g => (st g).toInt = 2) (show ¬ (st q).toInt = 2 by omega))
                have e9_4 : nI (cntP (fun g => ¬ (tn g).toInt = 0) (q + 1)) = (nI ((cntP (fun g => ¬ (tn g).toInt = 0) q) + 1) : Int32) := by first | exact congrArg nI (cntP_y (P := fun g => ¬ (tn g).toInt = 0) (show ¬ (tn q).toInt = 0 by omega)) | exact congrArg nI (cntP_n0 (P := fun g => ¬ (tn g).toInt = 0) (show ¬ ¬ (tn q).toInt = 0 by omega))
                have e9_5 : nI (smP (lvF ft st tn) (fun g => nN (mn g)) (q + 1)) = (nI ((smP (lvF ft st tn) (fun g => nN (mn g)) q) + 0) : Int32) := by first | exact congrArg nI (smP_y (P := lvF ft st tn) (by first | with_reducible assumption | assumption)) | exact congrArg nI (smP_n (P := lvF ft st tn) (by first | with_reducible assumption | assumption))
                have hl9 : lv_has ls 7 [(6, .int (nI (q + 1))), (5, .int (nI (smP (lvF ft st tn) (fun g => nN (mn g)) (q + 1)))), (4, .int (nI (cntP (fun g => ¬ (tn g).toInt = 0) (q + 1)))), (3, .int (nI (cntP (fun g => (st g).toInt = 2) (q + 1)))), (2, .int (nI (cntP (fun g => (st g).toInt = 1) (q + 1)))), (0, .ref k0), (1, .int w)] := by rw [e9_2]; rw [e9_3]; rw [e9_4]; rw [e9_5]; exact hl9
                exact ih_13 (q + 1) H locs ls (by first | with_reducible assumption | omega) (by first | with_reducible assumption | omega) hP hD hS hl9
              · have c_25 : q < ft ∧ (st q).toInt = 1 ∧ (tn q).toInt = 0 := zp_1 c_25
                refine lv_aload_n hx hb dX11_count_91 rfl (lv_at hl 5 rfl) ?_
                refine va_get (D := (dC, dI)) (ci := 9) (v := .ref (a 11)) (C := RX11) (T := TX11) (N := 55) hx hb hts inX11 hown hK hP 0 rfl rfl 11 (Nat.le_of_ble_eq_true rfl) (hts _ mw_1170) (fun _ h9 => h9) rfl dX11_count_92 ?_
                refine lv_iload hx hb dX11_count_95 (lv_at hl 3 rfl) ?_
                refine z_iald hx hb hK hP 3 0 rfl rfl (e := q) rfl b9_13 (Nat.le_of_ble_eq_true rfl) dX11_count_97 ?_
                refine zz_i (v := nI (nN (mn q))) ((hmw q (by first | with_reducible assumption | assumption)).1) ?_
                refine lv_goto (tgt := 102) hx hb dX11_count_98 rfl ?_
                refine lv_iadd hx hb dX11_count_102 ?_
                refine zz_i (v := nI ((smP (lvF ft st tn) (fun g => nN (mn g)) q) + (nN (mn q)))) (nI_add (smP (lvF ft st tn) (fun g => nN (mn g)) q) (nN (mn q))) ?_
                refine lv_istore (lv' := [(5, .int (nI ((smP (lvF ft st tn) (fun g => nN (mn g)) q) + (nN (mn q))))), (4, .int (nI ((cntP (fun g => ¬ (tn g).toInt = 0) q) + 1))), (3, .int (nI ((cntP (fun g => (st g).toInt = 2) q) + 0))), (2, .int (nI ((cntP (fun g => (st g).toInt = 1) q) + 1))), (6, .int (nI q)), (0, .ref k0), (1, .int w)]) hx hb dX11_count_103 hl (Nat.le_of_ble_eq_true rfl) rfl (fun ls hl => ?_)
                refine lv_iinc (v := nI (q + 1)) (lv' := [(6, .int (nI (q + 1))), (5, .int (nI ((smP (lvF ft st tn) (fun g => nN (mn g)) q) + (nN (mn q))))), (4, .int (nI ((cntP (fun g => ¬ (tn g).toInt = 0) q) + 1))), (3, .int (nI ((cntP (fun g => (st g).toInt = 2) q) + 0))), (2, .int (nI ((cntP (fun g => (st g).toInt = 1) q) + 1))), (0, .ref k0), (1, .int w)]) hx hb dX11_count_105 hl (k := 4) rfl (nI_add q 1) (Nat.le_of_ble_eq_true rfl) rfl (fun ls hl => ?_)
                refine lv_goto (tgt := 13) hx hb dX11_count_108 rfl ?_
                have hl9 := lv_sub hl [0, 1, 2, 3, 4, 5, 6] rfl
                have e9_2 : nI (cntP (fun g => (st g).toInt = 1) (q + 1)) = (nI ((cntP (fun g => (st g).toInt = 1) q) + 1) : Int32) := by first | exact congrArg nI (cntP_y (P := fun g => (st g).toInt = 1) (show (st q).toInt = 1 by omega)) | exact congrArg nI (cntP_n0 (P := fun g => (st g).toInt = 1) (show ¬ (st q).toInt = 1 by omega))
                have e9_3 : nI (cntP (fun g => (st g).toInt = 2) (q + 1)) = (nI ((cntP (fun g => (st g).toInt = 2) q) + 0) : Int32) := by first | exact congrArg nI (cntP_y (P := fun g => (st g).toInt = 2) (show (st q).toInt = 2 by omega)) | exact congrArg nI (cntP_n0 (P := fun g => (st g).toInt = 2) (show ¬ (st q).toInt = 2 by omega))
                have e9_4 : nI (cntP (fun g => ¬ (tn g).toInt = 0) (q + 1)) = (nI ((cntP (fun g => ¬ (tn g).toInt = 0) q) + 1) : Int32) := by first | exact congrArg nI (cntP_y (P := fun g => ¬ (tn g).toInt = 0) (show ¬ (tn q).toInt = 0 by omega)) | exact congrArg nI (cntP_n0 (P := fun g => ¬ (tn g).toInt = 0) (show ¬ ¬ (tn q).toInt = 0 by omega))
                have e9_5 : nI (smP (lvF ft st tn) (fun g => nN (mn g)) (q + 1)) = (nI ((smP (lvF ft st tn) (fun g => nN (mn g)) q) + (nN (mn q))) : Int32) := by first | exact congrArg nI (smP_y (P := lvF ft st tn) (by first | with_reducible assumption | assumption)) | exact congrArg nI (smP_n (P := lvF ft st tn) (by first | with_reducible assumption | assumption))
                have hl9 : lv_has ls 7 [(6, .int (nI (q + 1))), (5, .int (nI (smP (lvF ft st tn) (fun g => nN (mn g)) (q + 1)))), (4, .int (nI (cntP (fun g => ¬ (tn g).toInt = 0) (q + 1)))), (3, .int (nI (cntP (fun g => (st g).toInt = 2) (q + 1)))), (2, .int (nI (cntP (fun g => (st g).toInt = 1) (q + 1)))), (0, .ref k0), (1, .int w)] := by rw [e9_2]; rw [e9_3]; rw [e9_4]; rw [e9_5]; exact hl9
                exact ih_13 (q + 1) H locs ls (by first | with_reducible assumption | omega) (by first | with_reducible assumption | omega) hP hD hS hl9
          · have c_22 : (st q).toInt = 2 := zc_eq rfl rfl c_22
            refine lv_iconst (v := 1) hx hb dX11_count_53 rfl ?_
            refine lv_goto (tgt := 58) hx hb dX11_count_54 rfl ?_
            refine lv_iadd hx hb dX11_count_58 ?_
            refine zz_i (v := nI ((cntP (fun g => (st g).toInt = 2) q) + 1)) (nI_add (cntP (fun g => (st g).toInt = 2) q) 1) ?_
            refine lv_istore_n (lv' := [(3, .int (nI ((cntP (fun g => (st g).toInt = 2) q) + 1))), (2, .int (nI ((cntP (fun g => (st g).toInt = 1) q) + 1))), (6, .int (nI q)), (5, .int (nI (smP (lvF ft st tn) (fun g => nN (mn g)) q))), (4, .int (nI (cntP (fun g => ¬ (tn g).toInt = 0) q))), (0, .ref k0), (1, .int w)]) hx hb dX11_count_59 rfl hl (Nat.le_of_ble_eq_true rfl) rfl (fun ls hl => ?_)
            refine lv_iload hx hb dX11_count_60 (lv_at hl 4 rfl) ?_
            refine lv_aload_n hx hb dX11_count_62 rfl (lv_at hl 5 rfl) ?_
            refine va_get (D := (dC, dI)) (ci := 9) (v := .ref (a 6)) (C := RX11) (T := TX11) (N := 55) hx hb hts inX11 hown hK hP 0 rfl rfl 6 (Nat.le_of_ble_eq_true rfl) (hts _ mw_1165) (fun _ h9 => h9) rfl dX11_count_63 ?_
            refine lv_iload hx hb dX11_count_66 (lv_at hl 2 rfl) ?_
            refine z_zald hx hb hK hP 2 1 rfl rfl (e := q) rfl b9_13 (Nat.le_of_ble_eq_true rfl) dX11_count_68 ?_
            refine lv_if_eq (tgt := 76) hx hb dX11_count_69 rfl (fun c_26 => ?_) (fun c_26 => ?_)
            · have c_26 : (tn q).toInt = 0 := zc_eq rfl rfl c_26
              refine lv_iconst (v := 0) hx hb dX11_count_76 rfl ?_
              refine lv_iadd hx hb dX11_count_77 ?_
              refine zz_i (v := nI ((cntP (fun g => ¬ (tn g).toInt = 0) q) + 0)) (nI_add (cntP (fun g => ¬ (tn g).toInt = 0) q) 0) ?_
              refine lv_istore (lv' := [(4, .int (nI ((cntP (fun g => ¬ (tn g).toInt = 0) q) + 0))), (3, .int (nI ((cntP (fun g => (st g).toInt = 2) q) + 1))), (2, .int (nI ((cntP (fun g => (st g).toInt = 1) q) + 1))), (6, .int (nI q)), (5, .int (nI (smP (lvF ft st tn) (fun g => nN (mn g)) q))), (0, .ref k0), (1, .int w)]) hx hb dX11_count_78 hl (Nat.le_of_ble_eq_true rfl) rfl (fun ls hl => ?_)
              refine lv_iload hx hb dX11_count_80 (lv_at hl 4 rfl) ?_
              refine lv_aload_n hx hb dX11_count_82 rfl (lv_at hl 5 rfl) ?_
              refine lv_iload hx hb dX11_count_83 (lv_at hl 3 rfl) ?_
              obtain ⟨hPc, hDc, hFc, hI1⟩ := zi_sub (wc := [_, _, _]) hP hD hS hA [0, 1, 2] rfl rfl
              refine zcall (st1 := [.int (pI (q < ft ∧ (st q).toInt = 1 ∧ (tn q).toInt = 0)), .int (nI (smP (lvF ft st tn) (fun g => nN (mn g)) q))]) (va_runV (As := [.int (nI q)]) (rest := [.int (nI (smP (lvF ft st tn) (fun g => nN (mn g)) q))]) ⟨hx, hb, hml, hown, hts⟩ (k_M_is_n l dC dI cI cZ cF H.size k0 a I0 J0 q ft st tn (by first | with_reducible assumption | assumption) (by first | with_reducible assumption | omega) (by first | with_reducible assumption | omega)) (csV_179 hts rfl rfl ⟨Nat.le_of_ble_eq_true rfl, Nat.le_of_ble_eq_true rfl⟩) (zPV2 (q0 := 0) (ci := 9) hPc hDc hK hXN rfl rfl) rfl rfl hl.1 rfl (lv_room (Nat.le_of_ble_eq_true rfl)) dX11_count_85 ⟨Nat.le_of_ble_eq_true rfl, Nat.le_of_ble_eq_true rfl⟩) hS hFc hFc rfl (fun t H locs ht hB hk1 hS => ?_)
              obtain ⟨hP1, hD1⟩ := hB
              rw [ht] at hP1
              replace hP := z0 hP hD hk1 hP1 hI1
              clear hk1 hPc hDc hFc hP1 hD1 ht hI1
              refine lv_if_eq (tgt := 101) hx hb dX11_count_88 rfl (fun c_27 => ?_) (fun c_27 => ?_)
              · have c_27 : ¬ (q < ft ∧ (st q).toInt = 1 ∧ (tn q).toInt = 0) := zp_0 c_27
                refine lv_iconst (v := 0) hx hb dX11_count_101 rfl ?_
                refine lv_iadd hx hb dX11_count_102 ?_
                refine zz_i (v := nI ((smP (lvF ft st tn) (fun g => nN (mn g)) q) + 0)) (nI_add (smP (lvF ft st tn) (fun g => nN (mn g)) q) 0) ?_
                refine lv_istore (lv' := [(5, .int (nI ((smP (lvF ft st tn) (fun g => nN (mn g)) q) + 0))), (4, .int (nI ((cntP (fun g => ¬ (tn g).toInt = 0) q) + 0))), (3, .int (nI ((cntP (fun g => (st g).toInt = 2) q) + 1))), (2, .int (nI ((cntP (fun g => (st g).toInt = 1) q) + 1))), (6, .int (nI q)), (0, .ref k0), (1, .int w)]) hx hb dX11_count_103 hl (Nat.le_of_ble_eq_true rfl) rfl (fun ls hl => ?_)
                refine lv_iinc (v := nI (q + 1)) (lv' := [(6, .int (nI (q + 1))), (5, .int (nI ((smP (lvF ft st tn) (fun g => nN (mn g)) q) + 0))), (4, .int (nI ((cntP (fun g => ¬ (tn g).toInt = 0) q) + 0))), (3, .int (nI ((cntP (fun g => (st g).toInt = 2) q) + 1))), (2, .int (nI ((cntP (fun g => (st g).toInt = 1) q) + 1))), (0, .ref k0), (1, .int w)]) hx hb dX11_count_105 hl (k := 4) rfl (nI_add q 1) (Nat.le_of_ble_eq_true rfl) rfl (fun ls hl => ?_)
                refine lv_goto (tgt := 13) hx hb dX11_count_108 rfl ?_
                have hl9 := lv_sub hl [0, 1, 2, 3, 4, 5, 6] rfl
                have e9_2 : nI (cntP (fun g => (st g).toInt = 1) (q + 1)) = (nI ((cntP (fun g => (st g).toInt = 1) q) + 1) : Int32) := by first | exact congrArg nI (cntP_y (P := fun g => (st g).toInt = 1) (show (st q).toInt = 1 by omega)) | exact congrArg nI (cntP_n0 (P := fun g => (st g).toInt = 1) (show ¬ (st q).toInt = 1 by omega))
                have e9_3 : nI (cntP (fun g => (st g).toInt = 2) (q + 1)) = (nI ((cntP (fun g => (st g).toInt = 2) q) + 1) : Int32) := by first | exact congrArg nI (cntP_y (P := fun g => (st g).toInt = 2) (show (st q).toInt = 2 by omega)) | exact congrArg nI (cntP_n0 (P := fun g => (st g).toInt = 2) (show ¬ (st q).toInt = 2 by omega))
                have e9_4 : nI (cntP (fun g => ¬ (tn g).toInt = 0) (q + 1)) = (nI ((cntP (fun g => ¬ (tn g).toInt = 0) q) + 0) : Int32) := by first | exact congrArg nI (cntP_y (P := fun g => ¬ (tn g).toInt = 0) (show ¬ (tn q).toInt = 0 by omega)) | exact congrArg nI (cntP_n0 (P := fun g => ¬ (tn g).toInt = 0) (show ¬ ¬ (tn q).toInt = 0 by omega))
                have e9_5 : nI (smP (lvF ft st tn) (fun g => nN (mn g)) (q + 1)) = (nI ((smP (lvF ft st tn) (fun g => nN (mn g)) q) + 0) : Int32) := by first | exact congrArg nI (smP_y (P := lvF ft st tn) (by first | with_reducible assumption | assumption)) | exact congrArg nI (smP_n (P := lvF ft st tn) (by first | with_reducible assumption | assumption))
                have hl9 : lv_has ls 7 [(6, .int (nI (q + 1))), (5, .int (nI (smP (lvF ft st tn) (fun g => nN (mn g)) (q + 1)))), (4, .int (nI (cntP (fun g => ¬ (tn g).toInt = 0) (q + 1)))), (3, .int (nI (cntP (fun g => (st g).toInt = 2) (q + 1)))), (2, .int (nI (cntP (fun g => (st g).toInt = 1) (q + 1)))), (0, .ref k0), (1, .int w)] := by rw [e9_2]; rw [e9_3]; rw [e9_4]; rw [e9_5]; exact hl9
                exact ih_13 (q + 1) H locs ls (by first | with_reducible assumption | omega) (by first | with_reducible assumption | omega) hP hD hS hl9
              · have c_27 : q < ft ∧ (st q).toInt = 1 ∧ (tn q).toInt = 0 := zp_1 c_27
                refine lv_aload_n hx hb dX11_count_91 rfl (lv_at hl 5 rfl) ?_
                refine va_get (D := (dC, dI)) (ci := 9) (v := .ref (a 11)) (C := RX11) (T := TX11) (N := 55) hx hb hts inX11 hown hK hP 0 rfl rfl 11 (Nat.le_of_ble_eq_true rfl) (hts _ mw_1170) (fun _ h9 => h9) rfl dX11_count_92 ?_
                refine lv_iload hx hb dX11_count_95 (lv_at hl 3 rfl) ?_
                refine z_iald hx hb hK hP 3 0 rfl rfl (e := q) rfl b9_13 (Nat.le_of_ble_eq_true rfl) dX11_count_97 ?_
                refine zz_i (v := nI (nN (mn q))) ((hmw q (by first | with_reducible assumption | assumption)).1) ?_
                refine lv_goto (tgt := 102) hx hb dX11_count_98 rfl ?_
                refine lv_iadd hx hb dX11_count_102 ?_
                refine zz_i (v := nI ((smP (lvF ft st tn) (fun g => nN (mn g)) q) + (nN (mn q)))) (nI_add (smP (lvF ft st tn) (fun g => nN (mn g)) q) (nN (mn q))) ?_
                refine lv_istore (lv' := [(5, .int (nI ((smP (lvF ft st tn) (fun g => nN (mn g)) q) + (nN (mn q))))), (4, .int (nI ((cntP (fun g => ¬ (tn g).toInt = 0) q) + 0))), (3, .int (nI ((cntP (fun g => (st g).toInt = 2) q) + 1))), (2, .int (nI ((cntP (fun g => (st g).toInt = 1) q) + 1))), (6, .int (nI q)), (0, .ref k0), (1, .int w)]) hx hb dX11_count_103 hl (Nat.le_of_ble_eq_true rfl) rfl (fun ls hl => ?_)
                refine lv_iinc (v := nI (q + 1)) (lv' := [(6, .int (nI (q + 1))), (5, .int (nI ((smP (lvF ft st tn) (fun g => nN (mn g)) q) + (nN (mn q))))), (4, .int (nI ((cntP (fun g => ¬ (tn g).toInt = 0) q) + 0))), (3, .int (nI ((cntP (fun g => (st g).toInt = 2) q) + 1))), (2, .int (nI ((cntP (fun g => (st g).toInt = 1) q) + 1))), (0, .ref k0), (1, .int w)]) hx hb dX11_count_105 hl (k := 4) rfl (nI_add q 1) (Nat.le_of_ble_eq_true rfl) rfl (fun ls hl => ?_)
                refine lv_goto (tgt := 13) hx hb dX11_count_108 rfl ?_
                have hl9 := lv_sub hl [0, 1, 2, 3, 4, 5, 6] rfl
                have e9_2 : nI (cntP (fun g => (st g).toInt = 1) (q + 1)) = (nI ((cntP (fun g => (st g).toInt = 1) q) + 1) : Int32) := by first | exact congrArg nI (cntP_y (P := fun g => (st g).toInt = 1) (show (st q).toInt = 1 by omega)) | exact congrArg nI (cntP_n0 (P := fun g => (st g).toInt = 1) (show ¬ (st q).toInt = 1 by omega))
                have e9_3 : nI (cntP (fun g => (st g).toInt = 2) (q + 1)) = (nI ((cntP (fun g => (st g).toInt = 2) q) + 1) : Int32) := by first | exact congrArg nI (cntP_y (P := fun g => (st g).toInt = 2) (show (st q).toInt = 2 by omega)) | exact congrArg nI (cntP_n0 (P := fun g => (st g).toInt = 2) (show ¬ (st q).toInt = 2 by omega))
                have e9_4 : nI (cntP (fun g => ¬ (tn g).toInt = 0) (q + 1)) = (nI ((cntP (fun g => ¬ (tn g).toInt = 0) q) + 0) : Int32) := by first | exact congrArg nI (cntP_y (P := fun g => ¬ (tn g).toInt = 0) (show ¬ (tn q).toInt = 0 by omega)) | exact congrArg nI (cntP_n0 (P := fun g => ¬ (tn g).toInt = 0) (show ¬ ¬ (tn q).toInt = 0 by omega))
                have e9_5 : nI (smP (lvF ft st tn) (fun g => nN (mn g)) (q + 1)) = (nI ((smP (lvF ft st tn) (fun g => nN (mn g)) q) + (nN (mn q))) : Int32) := by first | exact congrArg nI (smP_y (P := lvF ft st tn) (by first | with_reducible assumption | assumption)) | exact congrArg nI (smP_n (P := lvF ft st tn) (by first | with_reducible assumption | assumption))
                have hl9 : lv_has ls 7 [(6, .int (nI (q + 1))), (5, .int (nI (smP (lvF ft st tn) (fun g => nN (mn g)) (q + 1)))), (4, .int (nI (cntP (fun g => ¬ (tn g).toInt = 0) (q + 1)))), (3, .int (nI (cntP (fun g => (st g).toInt = 2) (q + 1)))), (2, .int (nI (cntP (fun g => (st g).toInt = 1) (q + 1)))), (0, .ref k0), (1, .int w)] := by rw [e9_2]; rw [e9_3]; rw [e9_4]; rw [e9_5]; exact hl9
                exact ih_13 (q + 1) H locs ls (by first | with_reducible assumption | omega) (by first | with_reducible assumption | omega) hP hD hS hl9
            · have c_26 : ¬ (tn q).toInt = 0 := zc_ne rfl rfl c_26
              refine lv_iconst (v := 1) hx hb dX11_count_72 rfl ?_
              refine lv_goto (tgt := 77) hx hb dX11_count_73 rfl ?_
              refine lv_iadd hx hb dX11_count_77 ?_
              refine zz_i (v := nI ((cntP (fun g => ¬ (tn g).toInt = 0) q) + 1)) (nI_add (cntP (fun g => ¬ (tn g).toInt = 0) q) 1) ?_
              refine lv_istore (lv' := [(4, .int (nI ((cntP (fun g => ¬ (tn g).toInt = 0) q) + 1))), (3, .int (nI ((cntP (fun g => (st g).toInt = 2) q) + 1))), (2, .int (nI ((cntP (fun g => (st g).toInt = 1) q) + 1))), (6, .int (nI q)), (5, .int (nI (smP (lvF ft st tn) (fun g => nN (mn g)) q))), (0, .ref k0), (1, .int w)]) hx hb dX11_count_78 hl (Nat.le_of_ble_eq_true rfl) rfl (fun ls hl => ?_)
              refine lv_iload hx hb dX11_count_80 (lv_at hl 4 rfl) ?_
              refine lv_aload_n hx hb dX11_count_82 rfl (lv_at hl 5 rfl) ?_
              refine lv_iload hx hb dX11_count_83 (lv_at hl 3 rfl) ?_
              obtain ⟨hPc, hDc, hFc, hI1⟩ := zi_sub (wc := [_, _, _]) hP hD hS hA [0, 1, 2] rfl rfl
              refine zcall (st1 := [.int (pI (q < ft ∧ (st q).toInt = 1 ∧ (tn q).toInt = 0)), .int (nI (smP (lvF ft st tn) (fun g => nN (mn g)) q))]) (va_runV (As := [.int (nI q)]) (rest := [.int (nI (smP (lvF ft st tn) (fun g => nN (mn g)) q))]) ⟨hx, hb, hml, hown, hts⟩ (k_M_is_n l dC dI cI cZ cF H.size k0 a I0 J0 q ft st tn (by first | with_reducible assumption | assumption) (by first | with_reducible assumption | omega) (by first | with_reducible assumption | omega)) (csV_179 hts rfl rfl ⟨Nat.le_of_ble_eq_true rfl, Nat.le_of_ble_eq_true rfl⟩) (zPV2 (q0 := 0) (ci := 9) hPc hDc hK hXN rfl rfl) rfl rfl hl.1 rfl (lv_room (Nat.le_of_ble_eq_true rfl)) dX11_count_85 ⟨Nat.le_of_ble_eq_true rfl, Nat.le_of_ble_eq_true rfl⟩) hS hFc hFc rfl (fun t H locs ht hB hk1 hS => ?_)
              obtain ⟨hP1, hD1⟩ := hB
              rw [ht] at hP1
              replace hP := z0 hP hD hk1 hP1 hI1
              clear hk1 hPc hDc hFc hP1 hD1 ht hI1
              refine lv_if_eq (tgt := 101) hx hb dX11_count_88 rfl (fun c_28 => ?_) (fun c_28 => ?_)
              · have c_28 : ¬ (q < ft ∧ (st q).toInt = 1 ∧ (tn q).toInt = 0) := zp_0 c_28
                refine lv_iconst (v := 0) hx hb dX11_count_101 rfl ?_
                refine lv_iadd hx hb dX11_count_102 ?_
                refine zz_i (v := nI ((smP (lvF ft st tn) (fun g => nN (mn g)) q) + 0)) (nI_add (smP (lvF ft st tn) (fun g => nN (mn g)) q) 0) ?_
                refine lv_istore (lv' := [(5, .int (nI ((smP (lvF ft st tn) (fun g => nN (mn g)) q) + 0))), (4, .int (nI ((cntP (fun g => ¬ (tn g).toInt = 0) q) + 1))), (3, .int (nI ((cntP (fun g => (st g).toInt = 2) q) + 1))), (2, .int (nI ((cntP (fun g => (st g).toInt = 1) q) + 1))), (6, .int (nI q)), (0, .ref k0), (1, .int w)]) hx hb dX11_count_103 hl (Nat.le_of_ble_eq_true rfl) rfl (fun ls hl => ?_)
                refine lv_iinc (v := nI (q + 1)) (lv' := [(6, .int (nI (q + 1))), (5, .int (nI ((smP (lvF ft st tn) (fun g => nN (mn g)) q) + 0))), (4, .int (nI ((cntP (fun g => ¬ (tn g).toInt = 0) q) + 1))), (3, .int (nI ((cntP (fun g => (st g).toInt = 2) q) + 1))), (2, .int (nI ((cntP (fun g => (st g).toInt = 1) q) + 1))), (0, .ref k0), (1, .int w)]) hx hb dX11_count_105 hl (k := 4) rfl (nI_add q 1) (Nat.le_of_ble_eq_true rfl) rfl (fun ls hl => ?_)
                refine lv_goto (tgt := 13) hx hb dX11_count_108 rfl ?_
                have hl9 := lv_sub hl [0, 1, 2, 3, 4, 5, 6] rfl
                have e9_2 : nI (cntP (fun g => (st g).toInt = 1) (q + 1)) = (nI ((cntP (fun g => (st g).toInt = 1) q) + 1) : Int32) := by first | exact congrArg nI (cntP_y (P := fun g => (st g).toInt = 1) (show (st q).toInt = 1 by omega)) | exact congrArg nI (cntP_n0 (P := fun g => (st g).toInt = 1) (show ¬ (st q).toInt = 1 by omega))
                have e9_3 : nI (cntP (fun g => (st g).toInt = 2) (q + 1)) = (nI ((cntP (fun g => (st g).toInt = 2) q) + 1) : Int32) := by first | exact congrArg nI (cntP_y (P := fun g => (st g).toInt = 2) (show (st q).toInt = 2 by omega)) | exact congrArg nI (cntP_n0 (P := fun g => (st g).toInt = 2) (show ¬ (st q).toInt = 2 by omega))
                have e9_4 : nI (cntP (fun g => ¬ (tn g).toInt = 0) (q + 1)) = (nI ((cntP (fun g => ¬ (tn g).toInt = 0) q) + 1) : Int32) := by first | exact congrArg nI (cntP_y (P := fun g => ¬ (tn g).toInt = 0) (show ¬ (tn q).toInt = 0 by omega)) | exact congrArg nI (cntP_n0 (P := fun g => ¬ (tn g).toInt = 0) (show ¬ ¬ (tn q).toInt = 0 by omega))
                have e9_5 : nI (smP (lvF ft st tn) (fun g => nN (mn g)) (q + 1)) = (nI ((smP (lvF ft st tn) (fun g => nN (mn g)) q) + 0) : Int32) := by first | exact congrArg nI (smP_y (P := lvF ft st tn) (by first | with_reducible assumption | assumption)) | exact congrArg nI (smP_n (P := lvF ft st tn) (by first | with_reducible assumption | assumption))
                have hl9 : lv_has ls 7 [(6, .int (nI (q + 1))), (5, .int (nI (smP (lvF ft st tn) (fun g => nN (mn g)) (q + 1)))), (4, .int (nI (cntP (fun g => ¬ (tn g).toInt = 0) (q + 1)))), (3, .int (nI (cntP (fun g => (st g).toInt = 2) (q + 1)))), (2, .int (nI (cntP (fun g => (st g).toInt = 1) (q + 1)))), (0, .ref k0), (1, .int w)] := by rw [e9_2]; rw [e9_3]; rw [e9_4]; rw [e9_5]; exact hl9
                exact ih_13 (q + 1) H locs ls (by first | with_reducible assumption | omega) (by first | with_reducible assumption | omega) hP hD hS hl9
              · have c_28 : q < ft ∧ (st q).toInt = 1 ∧ (tn q).toInt = 0 := zp_1 c_28
                refine lv_aload_n hx hb dX11_count_91 rfl (lv_at hl 5 rfl) ?_
                refine va_get (D := (dC, dI)) (ci := 9) (v := .ref (a 11)) (C := RX11) (T := TX11) (N := 55) hx hb hts inX11 hown hK hP 0 rfl rfl 11 (Nat.le_of_ble_eq_true rfl) (hts _ mw_1170) (fun _ h9 => h9) rfl dX11_count_92 ?_
                refine lv_iload hx hb dX11_count_95 (lv_at hl 3 rfl) ?_
                refine z_iald hx hb hK hP 3 0 rfl rfl (e := q) rfl b9_13 (Nat.le_of_ble_eq_true rfl) dX11_count_97 ?_
                refine zz_i (v := nI (nN (mn q))) ((hmw q (by first | with_reducible assumption | assumption)).1) ?_
                refine lv_goto (tgt := 102) hx hb dX11_count_98 rfl ?_
                refine lv_iadd hx hb dX11_count_102 ?_
                refine zz_i (v := nI ((smP (lvF ft st tn) (fun g => nN (mn g)) q) + (nN (mn q)))) (nI_add (smP (lvF ft st tn) (fun g => nN (mn g)) q) (nN (mn q))) ?_
                refine lv_istore (lv' := [(5, .int (nI ((smP (lvF ft st tn) (fun g => nN (mn g)) q) + (nN (mn q))))), (4, .int (nI ((cntP (fun g => ¬ (tn g).toInt = 0) q) + 1))), (3, .int (nI ((cntP (fun g => (st g).toInt = 2) q) + 1))), (2, .int (nI ((cntP (fun g => (st g).toInt = 1) q) + 1))), (6, .int (nI q)), (0, .ref k0), (1, .int w)]) hx hb dX11_count_103 hl (Nat.le_of_ble_eq_true rfl) rfl (fun ls hl => ?_)
                refine lv_iinc (v := nI (q + 1)) (lv' := [(6, .int (nI (q + 1))), (5, .int (nI ((smP (lvF ft st tn) (fun g => nN (mn g)) q) + (nN (mn q))))), (4, .int (nI ((cntP (fun g => ¬ (tn g).toInt = 0) q) + 1))), (3, .int (nI ((cntP (fun g => (st g).toInt = 2) q) + 1))), (2, .int (nI ((cntP (fun g => (st g).toInt = 1) q) + 1))), (0, .ref k0), (1, .int w)]) hx hb dX11_count_105 hl (k := 4) rfl (nI_add q 1) (Nat.le_of_ble_eq_true rfl) rfl (fun ls hl => ?_)
                refine lv_goto (tgt := 13) hx hb dX11_count_108 rfl ?_
                have hl9 := lv_sub hl [0, 1, 2, 3, 4, 5, 6] rfl
                have e9_2 : nI (cntP (fun g => (st g).toInt = 1) (q + 1)) = (nI ((cntP (fun g => (st g).toInt = 1) q) + 1) : Int32) := by first | exact congrArg nI (cntP_y (P := fun g => (st g).toInt = 1) (show (st q).toInt = 1 by omega)) | exact congrArg nI (cntP_n0 (P := fun g => (st g).toInt = 1) (show ¬ (st q).toInt = 1 by omega))
                have e9_3 : nI (cntP (fun g => (st g).toInt = 2) (q + 1)) = (nI ((cntP (fun g => (st g).toInt = 2) q) + 1) : Int32) := by first | exact congrArg nI (cntP_y (P := fun g => (st g).toInt = 2) (show (st q).toInt = 2 by omega)) | exact congrArg nI (cntP_n0 (P := fun g => (st g).toInt = 2) (show ¬ (st q).toInt = 2 by omega))
                have e9_4 : nI (cntP (fun g => ¬ (tn g).toInt = 0) (q + 1)) = (nI ((cntP (fun g => ¬ (tn g).toInt = 0) q) + 1) : Int32) := by first | exact congrArg nI (cntP_y (P := fun g => ¬ (tn g).toInt = 0) (show ¬ (tn q).toInt = 0 by omega)) | exact congrArg nI (cntP_n0 (P := fun g => ¬ (tn g).toInt = 0) (show ¬ ¬ (tn q).toInt = 0 by omega))
                have e9_5 : nI (smP (lvF ft st tn) (fun g => nN (mn g)) (q + 1)) = (nI ((smP (lvF ft st tn) (fun g => nN (mn g)) q) + (nN (mn q))) : Int32) := by first | exact congrArg nI (smP_y (P := lvF ft st tn) (by first | with_reducible assumption | assumption)) | exact congrArg nI (smP_n (P := lvF ft st tn) (by first | with_reducible assumption | assumption))
                have hl9 : lv_has ls 7 [(6, .int (nI (q + 1))), (5, .int (nI (smP (lvF ft st tn) (fun g => nN (mn g)) (q + 1)))), (4, .int (nI (cntP (fun g => ¬ (tn g).toInt = 0) (q + 1)))), (3, .int (nI (cntP (fun g => (st g).toInt = 2) (q + 1)))), (2, .int (nI (cntP (fun g => (st g).toInt = 1) (q + 1)))), (0, .ref k0), (1, .int w)] := by rw [e9_2]; rw [e9_3]; rw [e9_4]; rw [e9_5]; exact hl9
                exact ih_13 (q + 1) H locs ls (by first | with_reducible assumption | omega) (by first | with_reducible assumption | omega) hP hD hS hl9
  have e9_2 : nI (cntP (fun g => (st g).toInt = 1) 0) = (0 : Int32) := by rfl
  have e9_3 : nI (cntP (fun g => (st g).toInt = 2) 0) = (0 : Int32) := by rfl
  have e9_4 : nI (cntP (fun g => ¬ (tn g).toInt = 0) 0) = (0 : Int32) := by rfl
  have e9_5 : nI (smP (lvF ft st tn) (fun g => nN (mn g)) 0) = (0 : Int32) := by rfl
  have hl9 : lv_has ls 7 [(6, .int (nI 0)), (5, .int (nI (smP (lvF ft st tn) (fun g => nN (mn g)) 0))), (4, .int (nI (cntP (fun g => ¬ (tn g).toInt = 0) 0))), (3, .int (nI (cntP (fun g => (st g).toInt = 2) 0))), (2, .int (nI (cntP (fun g => (st g).toInt = 1) 0))), (0, .ref k0), (1, .int w)] := by rw [e9_2]; rw [e9_3]; rw [e9_4]; rw [e9_5]; exact lv_sub hl [0, 1, 2, 3, 4, 5, 6] rfl
  exact hl_13 _ 0 s.heap [] ls (Nat.lt_succ_self _) (by first | with_reducible assumption | omega) hP hD hS hl9
set_option maxHeartbeats 4000000 in
set_option maxRecDepth 100000 in
theorem k_M_near_a (l : Launch) (dC : Nat → ClassId) (dI : Nat → Nat → Nat) (cI cZ cF : ClassId) (sz : Nat) (k0 : Nat) (a : Nat → Nat) (I0 : Nat → Int32) (J0 : Nat → Int64) (f : Nat) (g : Nat) (ft : Nat) (w : Int32) (st : Nat → Int32) (tn : Nat → Int32) (kd : Nat → Int32) (mn : Nat → Int32) (cx : Nat → Int32) (cy : Nat → Int32) (S0 : Nat → Int32) (hft : I0 0 = nI ft) (h200 : ft ≤ 200) (hwf : ∀ q, lvF ft st tn q → wfM mn cx cy q) (hf_t : f < ft) (hg_t : g < ft) (hlf : lvF ft st tn f) (hlg : lvF ft st tn g) (hw1 : 0 ≤ w.toInt ∧ w.toInt ≤ 1) (he_f : 1 ≤ eO (kd f).toInt (nN (mn f))) (he_g : 1 ≤ eO (kd g).toInt (nN (mn g))) : Met l yX11_near (.code yX11_near cX11_near 4 (some .long) :: ws0) ({ frames := 5, cells := 0, slots := 0, locals := 129 } : Room) (va_Pc [.ref k0, .int (nI f), .int (nI g), .int w] (zPre (dC, dI) classes (zTy cI cZ cF) [(om k0 a I0 J0), (oa (a 5) cI 201 st), (oa (a 6) cZ 201 tn), (oa (a 1) cI 201 kd), (oa (a 11) cI 201 mn), (oa (a 12) cI 8040 cx), (oa (a 13) cI 8040 cy), (oa (a 32) cI 8 S0)] sz zXN)) (zQe (fun v9 t => ∃ (b9 : Int64), ∃ (un : Nat), ∃ (dd : Nat), ∃ (S1 : Nat → Int32), v9 = (some (.long b9)) ∧ va_P (dC, dI) classes [(om k0 a I0 (vp_updL (vp_updL J0 48 (jI ((un : Nat) : Int))) 49 (jI ((dd : Nat) : Int)))), (oa (a 5) cI 201 st), (oa (a 6) cZ 201 tn), (oa (a 1) cI 201 kd), (oa (a 11) cI 201 mn), (oa (a 12) cI 8040 cx), (oa (a 13) cI 8040 cy), (oa (a 32) cI 8 S1)] t.heap ∧ va_D (va_A [(om k0 a I0 J0), (oa (a 5) cI 201 st), (oa (a 6) cZ 201 tn), (oa (a 1) cI 201 kd), (oa (a 11) cI 201 mn), (oa (a 12) cI 8040 cx), (oa (a 13) cI 8040 cy), (oa (a 32) cI 8 S0)] sz) [(om k0 a I0 (vp_updL (vp_updL J0 48 (jI ((un : Nat) : Int))) 49 (jI ((dd : Nat) : Int)))), (oa (a 5) cI 201 st), (oa (a 6) cZ 201 tn), (oa (a 1) cI 201 kd), (oa (a 11) cI 201 mn), (oa (a 12) cI 8040 cx), (oa (a 13) cI 8040 cy), (oa (a 32) cI 8 S1)]) (va_A [(om k0 a I0 J0), (oa (a 5) cI 201 st), (oa (a 6) cZ 201 tn), (oa (a 1) cI 201 kd), (oa (a 11) cI 201 mn), (oa (a 12) cI 8040 cx), (oa (a 13) cI 8040 cy), (oa (a 32) cI 8 S0)] sz)) 0 0 (va_A [(om k0 a I0 J0), (oa (a 5) cI 201 st), (oa (a 6) cZ 201 tn), (oa (a 1) cI 201 kd), (oa (a 11) cI 201 mn), (oa (a 12) cI 8040 cx), (oa (a 13) cI 8040 cy), (oa (a 32) cI 8 S0)] sz) := by
  refine Met.ofW (cc := cX11_near) (maxL := 4) (ret := (some .long)) rfl rfl ?_
  intro p e s m args below meth c s₁ B hml hv
  obtain ⟨rfl, hsz, hP, hK, hD0, hXN⟩ := hv
  have hx := B.exec
  have hb := B.bytes
  have hr := B.returns
  have hts0 := atoms_spec (ws := .code yX11_near cX11_near 4 (some .long) :: ws0) B.pre
  have hts : ∀ w9 ∈ ws0, w9.before ([.ref k0, .int (nI f), .int (nI g), .int w] : List Value).toArray s = true := fun w9 h => hts0 w9 (List.mem_cons_of_mem _ h)
  have hown : s.vm.findClass "ScaleShopModel" = some m.cls := findClass_of_methodNamed B.named
  have hlocks := B.notSynchronized
  subst hsz
  have hD := hD0.self (sz := s.heap.size)
  clear hD0
  generalize hAe : va_A [(om k0 a I0 J0), (oa (a 5) cI 201 st), (oa (a 6) cZ 201 tn), (oa (a 1) cI 201 kd), (oa (a 11) cI 201 mn), (oa (a 12) cI 8040 cx), (oa (a 13) cI 8040 cy), (oa (a 32) cI 8 S0)] s.heap.size = A at hD ⊢
  have hA : ∀ q : Nat, s.heap.size ≤ q → A q := fun q h => by rw [← hAe]; exact Or.inr h
  clear hAe
  have hS : va_S A s.heap s.heap [] := va_S.rf
  have hP : va_P (dC, dI) classes [(om k0 a I0 J0), (oa (a 5) cI 201 st), (oa (a 6) cZ 201 tn), (oa (a 1) cI 201 kd), (oa (a 11) cI 201 mn), (oa (a 12) cI 8040 cx), (oa (a 13) cI 8040 cy), (oa (a 32) cI 8 S0)] s.heap := hP
  obtain ⟨Q9, hQ9⟩ : ∃ Q9 : State → Prop, Q9 = MQ below (zQe (fun v9 t => ∃ (b9 : Int64), ∃ (un : Nat), ∃ (dd : Nat), ∃ (S1 : Nat → Int32), v9 = (some (.long b9)) ∧ va_P (dC, dI) classes [(om k0 a I0 (vp_updL (vp_updL J0 48 (jI ((un : Nat) : Int))) 49 (jI ((dd : Nat) : Int)))), (oa (a 5) cI 201 st), (oa (a 6) cZ 201 tn), (oa (a 1) cI 201 kd), (oa (a 11) cI 201 mn), (oa (a 12) cI 8040 cx), (oa (a 13) cI 8040 cy), (oa (a 32) cI 8 S1)] t.heap ∧ va_D A [(om k0 a I0 (vp_updL (vp_updL J0 48 (jI ((un : Nat) : Int))) 49 (jI ((dd : Nat) : Int)))), (oa (a 5) cI 201 st), (oa (a 6) cZ 201 tn), (oa (a 1) cI 201 kd), (oa (a 11) cI 201 mn), (oa (a 12) cI 8040 cx), (oa (a 13) cI 8040 cy), (oa (a 32) cI 8 S1)]) A) ([.ref k0, .int (nI f), .int (nI g), .int w] : List Value).toArray s 0 0 A := ⟨_, rfl⟩
  rw [← hQ9]
  have hl := lv_entry ([.ref k0, .int (nI f), .int (nI g), .int w]) (n := 4) (Nat.le_of_ble_eq_true rfl)
  rw [lg_entry_eq]
  generalize (lg_sl ([.ref k0, .int (nI f), .int (nI g), .int w]) ++ List.replicate (4 - (lg_sl ([.ref k0, .int (nI f), .int (nI g), .int w])).length) Slot.unset).toArray = ls at hl ⊢
  have hl : lv_has ls 4 [(0, .ref k0), (1, .int (nI f)), (2, .int (nI g)), (3, .int w)] := hl
  refine lv_aload_n hx hb dX11_near_0 rfl (lv_at hl 0 rfl) ?_
  refine lv_iload_n hx hb dX11_near_1 rfl (lv_at hl 1 rfl) ?_
  obtain ⟨hPc, hDc, hFc, hI1⟩ := zi_sub (wc := [_, _, _]) hP hD hS hA [0, 1, 2] rfl rfl
  refine zcall (st1 := [.int (pI (f < ft ∧ (st f).toInt = 1 ∧ (tn f).toInt = 0))]) (va_runV (As := [.int (nI f)]) (rest := []) ⟨hx, hb, hml, hown, hts⟩ (k_M_is_n l dC dI cI cZ cF s.heap.size k0 a I0 J0 f ft st tn (by first | with_reducible assumption | assumption) (by first | with_reducible assumption | omega) (by first | with_reducible assumption | omega)) (csV_179 hts rfl rfl ⟨Nat.le_of_ble_eq_true rfl, Nat.le_of_ble_eq_true rfl⟩) (zPV2 (q0 := 0) (ci := 9) hPc hDc hK hXN rfl rfl) rfl rfl hl.1 rfl (lv_room (Nat.le_of_ble_eq_true rfl)) dX11_near_2 ⟨Nat.le_of_ble_eq_true rfl, Nat.le_of_ble_eq_true rfl⟩) hS hFc hFc rfl (fun t H locs ht hB hk1 hS => ?_)
  obtain ⟨hP1, hD1⟩ := hB
  rw [ht] at hP1
  replace hP := z0 hP hD hk1 hP1 hI1
  clear hk1 hPc hDc hFc hP1 hD1 ht hI1
  refine lv_if_eq (tgt := 25) hx hb dX11_near_5 rfl (fun c_1 => ?_) (fun c_1 => ?_)
  · have c_1 : ¬ (f < ft ∧ (st f).toInt = 1 ∧ (tn f).toInt = 0) := zp_0 c_1
    exfalso; exact absurd hlf (by first | with_reducible assumption | assumption)
  · have c_1 : f < ft ∧ (st f).toInt = 1 ∧ (tn f).toInt = 0 := zp_1 c_1
    have hw_ff := hwf f (by first | with_reducible assumption | assumption)
    have hm_ff := hw_ff.1
    have hn_ff := hw_ff.2.1
    have hp_ff := hw_ff.2.2
    refine lv_aload_n hx hb dX11_near_8 rfl (lv_at hl 0 rfl) ?_
    refine lv_iload_n hx hb dX11_near_9 rfl (lv_at hl 2 rfl) ?_
    obtain ⟨hPc, hDc, hFc, hI1⟩ := zi_sub (wc := [_, _, _]) hP hD hS hA [0, 1, 2] rfl rfl
    refine zcall (st1 := [.int (pI (g < ft ∧ (st g).toInt = 1 ∧ (tn g).toInt = 0))]) (va_runV (As := [.int (nI g)]) (rest := []) ⟨hx, hb, hml, hown, hts⟩ (k_M_is_n l dC dI cI cZ cF H.size k0 a I0 J0 g ft st tn (by first | with_reducible assumption | assumption) (by first | with_reducible assumption | omega) (by first | with_reducible assumption | omega)) (csV_179 hts rfl rfl ⟨Nat.le_of_ble_eq_true rfl, Nat.le_of_ble_eq_true rfl⟩) (zPV2 (q0 := 0) (ci := 9) hPc hDc hK hXN rfl rfl) rfl rfl hl.1 rfl (lv_room (Nat.le_of_ble_eq_true rfl)) dX11_near_10 ⟨Nat.le_of_ble_eq_true rfl, Nat.le_of_ble_eq_true rfl⟩) hS hFc hFc rfl (fun t H locs ht hB hk1 hS => ?_)
    obtain ⟨hP1, hD1⟩ := hB
    rw [ht] at hP1
    replace hP := z0 hP hD hk1 hP1 hI1
    clear hk1 hPc hDc hFc hP1 hD1 ht hI1
    refine lv_if_eq (tgt := 25) hx hb dX11_near_13 rfl (fun c_2 => ?_) (fun c_2 => ?_)
    · have c_2 : ¬ (g < ft ∧ (st g).toInt = 1 ∧ (tn g).toInt = 0) := zp_0 c_2
      exfalso; exact absurd hlg (by first | with_reducible assumption | assumption)
    · have c_2 : g < ft ∧ (st g).toInt = 1 ∧ (tn g).toInt = 0 := zp_1 c_2
      have hw_gg := hwf g (by first | with_reducible assumption | assumption)
      have hm_gg := hw_gg.1
      have hn_gg := hw_gg.2.1
      have hp_gg := hw_gg.2.2
      refine lv_iload_n hx hb dX11_near_16 rfl (lv_at hl 3 rfl) ?_
      refine lv_if_lt (tgt := 25) hx hb dX11_near_17 rfl (fun c_3 => ?_) (fun c_3 => ?_)
      · have c_3 : w.toInt < 0 := zc_lt rfl rfl c_3
        exfalso; omega
      · have c_3 : 0 ≤ w.toInt := zc_nlt rfl rfl c_3
        refine lv_iload_n hx hb dX11_near_20 rfl (lv_at hl 3 rfl) ?_
        refine lv_iconst (v := 1) hx hb dX11_near_21 rfl ?_
        refine lv_icmp_le (tgt := 29) hx hb dX11_near_22 rfl (fun c_4 => ?_) (fun c_4 => ?_)
        · have c_4 : w.toInt ≤ 1 := zc_le rfl rfl c_4
          refine lv_aload_n hx hb dX11_near_29 rfl (lv_at hl 0 rfl) ?_
          refine lv_iload_n hx hb dX11_near_30 rfl (lv_at hl 1 rfl) ?_
          refine lv_iload_n hx hb dX11_near_31 rfl (lv_at hl 2 rfl) ?_
          obtain ⟨hPc, hDc, hFc⟩ := zo_sub (wc := [_, _, _, _, _, _]) hP hD hS hA [0, 3, 4, 5, 6, 7] (by decide +kernel) rfl
          refine zcall (st1 := []) (va_runV (As := [.int (nI f), .int (nI g)]) (rest := []) ⟨hx, hb, hml, hown, hts⟩ (k_M_distance_a l dC dI cI cZ cF H.size k0 a I0 J0 f (nN (mn f)) g (nN (mn g)) kd mn cx cy S0 (by first | with_reducible assumption | omega) (by first | with_reducible assumption | assumption) (by first | with_reducible assumption | omega) (by first | with_reducible assumption | assumption) (by first | with_reducible assumption | omega) (by first | with_reducible assumption | assumption) (by first | with_reducible assumption | omega) (by first | with_reducible assumption | assumption) (he_f) (he_g)) (csV_226 hts rfl rfl ⟨Nat.le_of_ble_eq_true rfl, Nat.le_of_ble_eq_true rfl⟩) (zPV2 (q0 := 0) (ci := 9) hPc hDc hK hXN rfl rfl) rfl rfl hl.1 rfl (lv_room (Nat.le_of_ble_eq_true rfl)) dX11_near_32 ⟨Nat.le_of_ble_eq_true rfl, Nat.le_of_ble_eq_true rfl⟩) hS hFc hFc rfl (fun t H locs ht hB hk1 hS => ?_)
          obtain ⟨un, dd, S1, hfr, hub, hP1, hD1⟩ := hB
          rw [ht] at hP1
          obtain ⟨hP, hD⟩ := zn (W2 := [(om k0 a I0 (vp_updL (vp_updL J0 48 (jI ((un : Nat) : Int))) 49 (jI ((dd : Nat) : Int)))), _, _, _, _, _, _, (oa (a 32) cI 8 S1)]) hP hD hk1 hFc hP1 hD1 [0, 3, 4, 5, 6, 7] [false, true, true] zl_146 [0, 3, 4, 5, 6, 7] (by decide +kernel) rfl rfl rfl rfl rfl
          clear hk1 hPc hDc hFc hP1 hD1 ht
          refine lv_iload_n hx hb dX11_near_35 rfl (lv_at hl 3 rfl) ?_
          refine lv_if_ne (tgt := 46) hx hb dX11_near_36 rfl (fun c_5 => ?_) (fun c_5 => ?_)
          · have c_5 : ¬ w.toInt = 0 := zc_ne rfl rfl c_5
            refine lv_aload_n hx hb dX11_near_46 rfl (lv_at hl 0 rfl) ?_
            refine va_get (D := (dC, dI)) (ci := 9) (v := .long (jI ((dd : Nat) : Int))) (C := RX11) (T := TX11) (N := 55) hx hb hts inX11 hown hK hP 0 rfl rfl 49 (Nat.le_of_ble_eq_true rfl) (hts _ mw_1208) (fun _ h9 => h9) rfl dX11_near_47 ?_
            obtain ⟨hP9, hD9⟩ := zu_sub (wc := [_, _, _, _, _, _, _, _]) hP hD [true, true, true, true, true, true, true, true] rfl rfl
            rw [hQ9]
            exact W.lret (v := jI ((dd : Nat) : Int)) hx hb hr (fun t ht hW => ⟨⟨_, rfl, (jI ((dd : Nat) : Int)), un, dd, S1, rfl, by rw [ht]; exact hP9, hD9⟩, hS.F ht⟩) hS.2.2 dX11_near_50
          · have c_5 : w.toInt = 0 := zc_eq rfl rfl c_5
            refine lv_aload_n hx hb dX11_near_39 rfl (lv_at hl 0 rfl) ?_
            refine va_get (D := (dC, dI)) (ci := 9) (v := .long (jI ((un : Nat) : Int))) (C := RX11) (T := TX11) (N := 55) hx hb hts inX11 hown hK hP 0 rfl rfl 48 (Nat.le_of_ble_eq_true rfl) (hts _ mw_1207) (fun _ h9 => h9) rfl dX11_near_40 ?_
            refine lv_goto (tgt := 50) hx hb dX11_near_43 rfl ?_
            obtain ⟨hP9, hD9⟩ := zu_sub (wc := [_, _, _, _, _, _, _, _]) hP hD [true, true, true, true, true, true, true, true] rfl rfl
            rw [hQ9]
            exact W.lret (v := jI ((un : Nat) : Int)) hx hb hr (fun t ht hW => ⟨⟨_, rfl, (jI ((un : Nat) : Int)), un, dd, S1, rfl, by rw [ht]; exact hP9, hD9⟩, hS.F ht⟩) hS.2.2 dX11_near_50
        · have c_4 : 1 < w.toInt := zc_nle rfl rfl c_4
          exfalso; omega
end
section
/-! the reference as it is made -/
abbrev oc9 (a : Nat) (v0 : Int32) (v1 : Value) (v2 : Value) (v3 : Value) (v4 : Value) (v5 : Value) (v6 : Value) (v7 : Value) (v8 : Value) (v9 : Value) (v10 : Value) (v11 : Value) (v12 : Value) (v13 : Value) (v14 : Int32) (v15 : Int32) (v16 : Value) (v17 : Value) (v18 : Value) (v19 : Int32) (v20 : Int32) (v21 : Int32) (v22 : Value) (v23 : Value) (v24 : Value) (v25 : Value) (v26 : Int32) (v27 : Value) (v28 : Value) (v29 : Value) (v30 : Value) (v31 : Int32) (v32 : Value) (v33 : Value) (v34 : Value) (v35 : Int32) (v36 : Int32) (v37 : Value) (v38 : Value) (v39 : Value) (v40 : Value) (v41 : Int32) (v42 : Int32) (v43 : Value) (v44 : Int32) (v45 : Int32) (v46 : Int32) (v47 : Int32) (v48 : Int64) (v49 : Int64) (v50 : Value) (v51 : Value) (v52 : Value) (v53 : Value) (v54 : Int32) : Nat × va_E := (a, .inr (9, .int v0 :: v1 :: v2 :: v3 :: v4 :: v5 :: v6 :: v7 :: v8 :: v9 :: v10 :: v11 :: v12 :: v13 :: .int v14 :: .int v15 :: v16 :: v17 :: v18 :: .int v19 :: .int v20 :: .int v21 :: v22 :: v23 :: v24 :: v25 :: .int v26 :: v27 :: v28 :: v29 :: v30 :: .int v31 :: v32 :: v33 :: v34 :: .int v35 :: .int v36 :: v37 :: v38 :: v39 :: v40 :: .int v41 :: .int v42 :: v43 :: .int v44 :: .int v45 :: .int v46 :: .int v47 :: .long v48 :: .long v49 :: v50 :: v51 :: v52 :: v53 :: .int v54 :: []))
end
section
set_option maxHeartbeats 4000000 in
set_option maxRecDepth 100000 in
theorem k_M_init (l : Launch) (dC : Nat → ClassId) (dI : Nat → Nat → Nat) (cI cZ cF : ClassId) (sz : Nat) (k0 : Nat) : zM l yX11_init cX11_init 1 none ({ frames := 1, cells := 36, slots := 34772, locals := 12 } : Room) [.ref k0] (dC, dI) (zTy cI cZ cF) [(oc9 k0 0 .null .null .null .null .null .null .null .null .null .null .null .null .null 0 0 .null .null .null 0 0 0 .null .null .null .null 0 .null .null .null .null 0 .null .null .null 0 0 .null .null .null .null 0 0 .null 0 0 0 0 0 0 .null .null .null .null 0)] sz none (fun A t => ∃ (m1 : Nat), ∃ (m2 : Nat), ∃ (m3 : Nat), ∃ (m4 : Nat), ∃ (m5 : Nat), ∃ (m6 : Nat), ∃ (m7 : Nat), ∃ (m8 : Nat), ∃ (m9 : Nat), ∃ (m10 : Nat), ∃ (m11 : Nat), ∃ (m12 : Nat), ∃ (m13 : Nat), ∃ (m16 : Nat), ∃ (m17 : Nat), ∃ (m18 : Nat), ∃ (m22 : Nat), ∃ (m23 : Nat), ∃ (m24 : Nat), ∃ (m25 : Nat), ∃ (m27 : Nat), ∃ (m28 : Nat), ∃ (m29 : Nat), ∃ (m30 : Nat), ∃ (m32 : Nat), ∃ (m33 : Nat), ∃ (m34 : Nat), ∃ (m37 : Nat), ∃ (m38 : Nat), ∃ (m39 : Nat), ∃ (m40 : Nat), ∃ (m43 : Nat), ∃ (m50 : Nat), ∃ (m51 : Nat), ∃ (m52 : Nat), ∃ (m53 : Nat), zPD (dC, dI) classes A ((oc9 k0 0 (.ref m1) (.ref m2) (.ref m3) (.ref m4) (.ref m5) (.ref m6) (.ref m7) (.ref m8) (.ref m9) (.ref m10) (.ref m11) (.ref m12) (.ref m13) 0 0 (.ref m16) (.ref m17) (.ref m18) 0 0 0 (.ref m22) (.ref m23) (.ref m24) (.ref m25) 0 (.ref m27) (.ref m28) (.ref m29) (.ref m30) 0 (.ref m32) (.ref m33) (.ref m34) 0 0 (.ref m37) (.ref m38) (.ref m39) (.ref m40) 0 0 (.ref m43) 0 0 0 0 0 0 (.ref m50) (.ref m51) (.ref m52) (.ref m53) 0) :: (oa m1 cI 201 (fun _ => 0)) :: (oa m2 cI 201 (fun _ => 0)) :: (oa m3 cI 201 (fun _ => 0)) :: (oa m4 cI 201 (fun _ => 0)) :: (oa m5 cI 201 (fun _ => 0)) :: (oa m6 cZ 201 (fun _ => 0)) :: (oa m7 cI 201 (fun _ => 0)) :: (oa m8 cI 201 (fun _ => 0)) :: (oa m9 cI 201 (fun _ => 0)) :: (oa m10 cI 201 (fun _ => 0)) :: (oa m11 cI 201 (fun _ => 0)) :: (oa m12 cI 8040 (fun _ => 0)) :: (oa m13 cI 8040 (fun _ => 0)) :: (oa m16 cI 514 (fun _ => 0)) :: (oa m17 cI 514 (fun _ => 0)) :: (oa m18 cI 514 (fun _ => 0)) :: (oa m22 cI 64 (fun _ => 0)) :: (oa m23 cI 64 (fun _ => 0)) :: (oa m24 cI 64 (fun _ => 0)) :: (oa m25 cI 64 (fun _ => 0)) :: (oa m27 cI 516 (fun _ => 0)) :: (oa m28 cI 4096 (fun _ => 0)) :: (oa m29 cI 42 (fun _ => 0)) :: (oa m30 cI 42 (fun _ => 0)) :: (oa m32 cI 8 (fun _ => 0)) :: (oa m33 cI 42 (fun _ => 0)) :: (oa m34 cI 42 (fun _ => 0)) :: (oa m37 cZ 201 (fun _ => 0)) :: (oa m38 cZ 201 (fun _ => 0)) :: (oa m39 cZ 8040 (fun _ => 0)) :: (oa m40 cI 6 (fun _ => 0)) :: (oa m43 cZ 40 (fun _ => 0)) :: (oa m50 cZ 201 (fun _ => 0)) :: (oa m51 cI 402 (fun _ => 0)) :: (oa m52 cI 402 (fun _ => 0)) :: (oa m53 cI 402 (fun _ => 0)) :: []) t.heap) 36 34772 := by
  refine zIn (own := "ScaleShopModel") (loc := [(0, .ref k0)]) rfl rfl rfl rfl (fun p e s m below meth c hx hb hr hts hown hlocks hml hnm9 A hA hS hP hD hK hXN Q9 hQ9 ls hl => ?_)
  have hin : meth.name = "<init>" := hnm9
  refine lv_aload_n hx hb dX11_init_0 rfl (lv_at hl 0 rfl) ?_
  refine W.objInit hx hb hown (hts _ mw_1158) (hts _ mw_126) (hts _ mw_objcode) rfl (by rw [hml]; exact hl.1) rfl dX11_init_1 (Nat.le_of_ble_eq_true rfl) (Nat.le_of_ble_eq_true rfl) ?_
  refine W.eq (g2 := F0 m 4 ls []) rfl ?_
  refine lv_aload_n hx hb dX11_init_4 rfl (lv_at hl 0 rfl) ?_
  refine lv_sipush (v := 201) hx hb dX11_init_5 rfl ?_
  refine zz_newa (atype := .int) (a0 := (201, .inl (fun _ => 0))) hx hb (hts _ mw_195) (ty := .int) rfl hK hP hD hS hA (n := nI 201) (N' := 201) (cA := cI) 0 rfl (fun _ => rfl) (nI_pos (by omega)) (nI_clamp (by omega)) (show 201 * 4 ≤ 536870912 by omega) (Nat.le_of_ble_eq_true rfl) (Nat.le_of_ble_eq_true rfl) dX11_init_8 (fun m1 H hP hD hS => ?_)
  obtain ⟨hP, hD⟩ := zre (W2 := [_, (oa m1 cI 201 (fun _ => 0))]) hP hD rfl
  refine va_putF (D := (dC, dI)) (ci := 9) (v := .ref m1) (ty := .array .int) (C := RX11) (T := TX11) (N := 55) hx hb hts inX11 tyX11 tyX11_ok nmX11 hown hK hP hD hS 0 rfl rfl 1 (by decide) (hts _ mw_1160) (fun _ h9 => h9) rfl hin rfl (by decide +kernel) rfl rfl (Nat.le_of_ble_eq_true rfl) dX11_init_10 (fun H locs hP hD hS => ?_)
  obtain ⟨hP, hD⟩ := zre (W2 := [(oc9 k0 0 (.ref m1) .null .null .null .null .null .null .null .null .null .null .null .null 0 0 .null .null .null 0 0 0 .null .null .null .null 0 .null .null .null .null 0 .null .null .null 0 0 .null .null .null .null 0 0 .null 0 0 0 0 0 0 .null .null .null .null 0), _]) hP hD rfl
  refine lv_aload_n hx hb dX11_init_13 rfl (lv_at hl 0 rfl) ?_
  refine lv_sipush (v := 201) hx hb dX11_init_14 rfl ?_
  refine zz_newa (atype := .int) (a0 := (201, .inl (fun _ => 0))) hx hb (hts _ mw_195) (ty := .int) rfl hK hP hD hS hA (n := nI 201) (N' := 201) (cA := cI) 0 rfl (fun _ => rfl) (nI_pos (by omega)) (nI_clamp (by omega)) (show 201 * 4 ≤ 536870912 by omega) (Nat.le_of_ble_eq_true rfl) (Nat.le_of_ble_eq_true rfl) dX11_init_17 (fun m2 H hP hD hS => ?_)
  obtain ⟨hP, hD⟩ := zre (W2 := [_, _, (oa m2 cI 201 (fun _ => 0))]) hP hD rfl
  refine va_putF (D := (dC, dI)) (ci := 9) (v := .ref m2) (ty := .array .int) (C := RX11) (T := TX11) (N := 55) hx hb hts inX11 tyX11 tyX11_ok nmX11 hown hK hP hD hS 0 rfl rfl 2 (by decide) (hts _ mw_1161) (fun _ h9 => h9) rfl hin rfl (by decide +kernel) rfl rfl (Nat.le_of_ble_eq_true rfl) dX11_init_19 (fun H locs hP hD hS => ?_)
  obtain ⟨hP, hD⟩ := zre (W2 := [(oc9 k0 0 (.ref m1) (.ref m2) .null .null .null .null .null .null .null .null .null .null .null 0 0 .null .null .null 0 0 0 .null .null .null .null 0 .null .null .null .null 0 .null .null .null 0 0 .null .null .null .null 0 0 .null 0 0 0 0 0 0 .null .null .null .null 0), _, _]) hP hD rfl
  refine lv_aload_n hx hb dX11_init_22 rfl (lv_at hl 0 rfl) ?_
  refine lv_sipush (v := 201) hx hb dX11_init_23 rfl ?_
  refine zz_newa (atype := .int) (a0 := (201, .inl (fun _ => 0))) hx hb (hts _ mw_195) (ty := .int) rfl hK hP hD hS hA (n := nI 201) (N' := 201) (cA := cI) 0 rfl (fun _ => rfl) (nI_pos (by omega)) (nI_clamp (by omega)) (show 201 * 4 ≤ 536870912 by omega) (Nat.le_of_ble_eq_true rfl) (Nat.le_of_ble_eq_true rfl) dX11_init_26 (fun m3 H hP hD hS => ?_)
  obtain ⟨hP, hD⟩ := zre (W2 := [_, _, _, (oa m3 cI 201 (fun _ => 0))]) hP hD rfl
  refine va_putF (D := (dC, dI)) (ci := 9) (v := .ref m3) (ty := .array .int) (C := RX11) (T := TX11) (N := 55) hx hb hts inX11 tyX11 tyX11_ok nmX11 hown hK hP hD hS 0 rfl rfl 3 (by decide) (hts _ mw_1162) (fun _ h9 => h9) rfl hin rfl (by decide +kernel) rfl rfl (Nat.le_of_ble_eq_true rfl) dX11_init_28 (fun H locs hP hD hS => ?_)
  obtain ⟨hP, hD⟩ := zre (W2 := [(oc9 k0 0 (.ref m1) (.ref m2) (.ref m3) .null .null .null .null .null .null .null .null .null .null 0 0 .null .null .null 0 0 0 .null .null .null .null 0 .null .null .null .null 0 .null .null .null 0 0 .null .null .null .null 0 0 .null 0 0 0 0 0 0 .null .null .null .null 0), _, _, _]) hP hD rfl
  refine lv_aload_n hx hb dX11_init_31 rfl (lv_at hl 0 rfl) ?_
  refine lv_sipush (v := 201) hx hb dX11_init_32 rfl ?_
  refine zz_newa (atype := .int) (a0 := (201, .inl (fun _ => 0))) hx hb (hts _ mw_195) (ty := .int) rfl hK hP hD hS hA (n := nI 201) (N' := 201) (cA := cI) 0 rfl (fun _ => rfl) (nI_pos (by omega)) (nI_clamp (by omega)) (show 201 * 4 ≤ 536870912 by omega) (Nat.le_of_ble_eq_true rfl) (Nat.le_of_ble_eq_true rfl) dX11_init_35 (fun m4 H hP hD hS => ?_)
  obtain ⟨hP, hD⟩ := zre (W2 := [_, _, _, _, (oa m4 cI 201 (fun _ => 0))]) hP hD rfl
  refine va_putF (D := (dC, dI)) (ci := 9) (v := .ref m4) (ty := .array .int) (C := RX11) (T := TX11) (N := 55) hx hb hts inX11 tyX11 tyX11_ok nmX11 hown hK hP hD hS 0 rfl rfl 4 (by decide) (hts _ mw_1163) (fun _ h9 => h9) rfl hin rfl (by decide +kernel) rfl rfl (Nat.le_of_ble_eq_true rfl) dX11_init_37 (fun H locs hP hD hS => ?_)
  obtain ⟨hP, hD⟩ := zre (W2 := [(oc9 k0 0 (.ref m1) (.ref m2) (.ref m3) (.ref m4) .null .null .null .null .null .null .null .null .null 0 0 .null .null .null 0 0 0 .null .null .null .null 0 .null .null .null .null 0 .null .null .null 0 0 .null .null .null .null 0 0 .null 0 0 0 0 0 0 .null .null .null .null 0), _, _, _, _]) hP hD rfl
  refine lv_aload_n hx hb dX11_init_40 rfl (lv_at hl 0 rfl) ?_
  refine lv_sipush (v := 201) hx hb dX11_init_41 rfl ?_
  refine zz_newa (atype := .int) (a0 := (201, .inl (fun _ => 0))) hx hb (hts _ mw_195) (ty := .int) rfl hK hP hD hS hA (n := nI 201) (N' := 201) (cA := cI) 0 rfl (fun _ => rfl) (nI_pos (by omega)) (nI_clamp (by omega)) (show 201 * 4 ≤ 536870912 by omega) (Nat.le_of_ble_eq_true rfl) (Nat.le_of_ble_eq_true rfl) dX11_init_44 (fun m5 H hP hD hS => ?_)
  obtain ⟨hP, hD⟩ := zre (W2 := [_, _, _, _, _, (oa m5 cI 201 (fun _ => 0))]) hP hD rfl
  refine va_putF (D := (dC, dI)) (ci := 9) (v := .ref m5) (ty := .array .int) (C := RX11) (T := TX11) (N := 55) hx hb hts inX11 tyX11 tyX11_ok nmX11 hown hK hP hD hS 0 rfl rfl 5 (by decide) (hts _ mw_1164) (fun _ h9 => h9) rfl hin rfl (by decide +kernel) rfl rfl (Nat.le_of_ble_eq_true rfl) dX11_init_46 (fun H locs hP hD hS => ?_)
  obtain ⟨hP, hD⟩ := zre (W2 := [(oc9 k0 0 (.ref m1) (.ref m2) (.ref m3) (.ref m4) (.ref m5) .null .null .null .null .null .null .null .null 0 0 .null .null .null 0 0 0 .null .null .null .null 0 .null .null .null .null 0 .null .null .null 0 0 .null .null .null .null 0 0 .null 0 0 0 0 0 0 .null .null .null .null 0), _, _, _, _, _]) hP hD rfl
  refine lv_aload_n hx hb dX11_init_49 rfl (lv_at hl 0 rfl) ?_
  refine lv_sipush (v := 201) hx hb dX11_init_50 rfl ?_
  refine zz_newa (atype := .boolean) (a0 := (201, .inl (fun _ => 0))) hx hb (hts _ mw_308) (ty := .boolean) rfl hK hP hD hS hA (n := nI 201) (N' := 201) (cA := cZ) 1 rfl (fun _ => rfl) (nI_pos (by omega)) (nI_clamp (by omega)) (show 201 * 1 ≤ 536870912 by omega) (Nat.le_of_ble_eq_true rfl) (Nat.le_of_ble_eq_true rfl) dX11_init_53 (fun m6 H hP hD hS => ?_)
  obtain ⟨hP, hD⟩ := zre (W2 := [_, _, _, _, _, _, (oa m6 cZ 201 (fun _ => 0))]) hP hD rfl
  refine va_putF (D := (dC, dI)) (ci := 9) (v := .ref m6) (ty := .array .boolean) (C := RX11) (T := TX11) (N := 55) hx hb hts inX11 tyX11 tyX11_ok nmX11 hown hK hP hD hS 0 rfl rfl 6 (by decide) (hts _ mw_1165) (fun _ h9 => h9) rfl hin rfl (by decide +kernel) rfl rfl (Nat.le_of_ble_eq_true rfl) dX11_init_55 (fun H locs hP hD hS => ?_)
  obtain ⟨hP, hD⟩ := zre (W2 := [(oc9 k0 0 (.ref m1) (.ref m2) (.ref m3) (.ref m4) (.ref m5) (.ref m6) .null .null .null .null .null .null .null 0 0 .null .null .null 0 0 0 .null .null .null .null 0 .null .null .null .null 0 .null .null .null 0 0 .null .null .null .null 0 0 .null 0 0 0 0 0 0 .null .null .null .null 0), _, _, _, _, _, _]) hP hD rfl
  refine lv_aload_n hx hb dX11_init_58 rfl (lv_at hl 0 rfl) ?_
  refine lv_sipush (v := 201) hx hb dX11_init_59 rfl ?_
  refine zz_newa (atype := .int) (a0 := (201, .inl (fun _ => 0))) hx hb (hts _ mw_195) (ty := .int) rfl hK hP hD hS hA (n := nI 201) (N' := 201) (cA := cI) 0 rfl (fun _ => rfl) (nI_pos (by omega)) (nI_clamp (by omega)) (show 201 * 4 ≤ 536870912 by omega) (Nat.le_of_ble_eq_true rfl) (Nat.le_of_ble_eq_true rfl) dX11_init_62 (fun m7 H hP hD hS => ?_)
  obtain ⟨hP, hD⟩ := zre (W2 := [_, _, _, _, _, _, _, (oa m7 cI 201 (fun _ => 0))]) hP hD rfl
  refine va_putF (D := (dC, dI)) (ci := 9) (v := .ref m7) (ty := .array .int) (C := RX11) (T := TX11) (N := 55) hx hb hts inX11 tyX11 tyX11_ok nmX11 hown hK hP hD hS 0 rfl rfl 7 (by decide) (hts _ mw_1166) (fun _ h9 => h9) rfl hin rfl (by decide +kernel) rfl rfl (Nat.le_of_ble_eq_true rfl) dX11_init_64 (fun H locs hP hD hS => ?_)
  obtain ⟨hP, hD⟩ := zre (W2 := [(oc9 k0 0 (.ref m1) (.ref m2) (.ref m3) (.ref m4) (.ref m5) (.ref m6) (.ref m7) .null .null .null .null .null .null 0 0 .null .null .null 0 0 0 .null .null .null .null 0 .null .null .null .null 0 .null .null .null 0 0 .null .null .null .null 0 0 .null 0 0 0 0 0 0 .null .null .null .null 0), _, _, _, _, _, _, _]) hP hD rfl
  refine lv_aload_n hx hb dX11_init_67 rfl (lv_at hl 0 rfl) ?_
  refine lv_sipush (v := 201) hx hb dX11_init_68 rfl ?_
  refine zz_newa (atype := .int) (a0 := (201, .inl (fun _ => 0))) hx hb (hts _ mw_195) (ty := .int) rfl hK hP hD hS hA (n := nI 201) (N' := 201) (cA := cI) 0 rfl (fun _ => rfl) (nI_pos (by omega)) (nI_clamp (by omega)) (show 201 * 4 ≤ 536870912 by omega) (Nat.le_of_ble_eq_true rfl) (Nat.le_of_ble_eq_true rfl) dX11_init_71 (fun m8 H hP hD hS => ?_)
  obtain ⟨hP, hD⟩ := zre (W2 := [_, _, _, _, _, _, _, _, (oa m8 cI 201 (fun _ => 0))]) hP hD rfl
  refine va_putF (D := (dC, dI)) (ci := 9) (v := .ref m8) (ty := .array .int) (C := RX11) (T := TX11) (N := 55) hx hb hts inX11 tyX11 tyX11_ok nmX11 hown hK hP hD hS 0 rfl rfl 8 (by decide) (hts _ mw_1167) (fun _ h9 => h9) rfl hin rfl (by decide +kernel) rfl rfl (Nat.le_of_ble_eq_true rfl) dX11_init_73 (fun H locs hP hD hS => ?_)
  obtain ⟨hP, hD⟩ := zre (W2 := [(oc9 k0 0 (.ref m1) (.ref m2) (.ref m3) (.ref m4) (.ref m5) (.ref m6) (.ref m7) (.ref m8) .null .null .null .null .null 0 0 .null .null .null 0 0 0 .null .null .null .null 0 .null .null .null .null 0 .null .null .null 0 0 .null .null .null .null 0 0 .null 0 0 0 0 0 0 .null .null .null .null 0), _, _, _, _, _, _, _, _]) hP hD rfl
  refine lv_aload_n hx hb dX11_init_76 rfl (lv_at hl 0 rfl) ?_
  refine lv_sipush (v := 201) hx hb dX11_init_77 rfl ?_
  refine zz_newa (atype := .int) (a0 := (201, .inl (fun _ => 0))) hx hb (hts _ mw_195) (ty := .int) rfl hK hP hD hS hA (n := nI 201) (N' := 201) (cA := cI) 0 rfl (fun _ => rfl) (nI_pos (by omega)) (nI_clamp (by omega)) (show 201 * 4 ≤ 536870912 by omega) (Nat.le_of_ble_eq_true rfl) (Nat.le_of_ble_eq_true rfl) dX11_init_80 (fun m9 H hP hD hS => ?_)
  obtain ⟨hP, hD⟩ := zre (W2 := [_, _, _, _, _, _, _, _, _, (oa m9 cI 201 (fun _ => 0))]) hP hD rfl
  refine va_putF (D := (dC, dI)) (ci := 9) (v := .ref m9) (ty := .array .int) (C := RX11) (T := TX11) (N := 55) hx hb hts inX11 tyX11 tyX11_ok nmX11 hown hK hP hD hS 0 rfl rfl 9 (by decide) (hts _ mw_1168) (fun _ h9 => h9) rfl hin rfl (by decide +kernel) rfl rfl (Nat.le_of_ble_eq_true rfl) dX11_init_82 (fun H locs hP hD hS => ?_)
  obtain ⟨hP, hD⟩ := zre (W2 := [(oc9 k0 0 (.ref m1) (.ref m2) (.ref m3) (.ref m4) (.ref m5) (.ref m6) (.ref m7) (.ref m8) (.ref m9) .null .null .null .null 0 0 .null .null .null 0 0 0 .null .null .null .null 0 .null .null .null .null 0 .null .null .null 0 0 .null .null .null .null 0 0 .null 0 0 0 0 0 0 .null .null .null .null 0), _, _, _, _, _, _, _, _, _]) hP hD rfl
  refine lv_aload_n hx hb dX11_init_85 rfl (lv_at hl 0 rfl) ?_
  refine lv_sipush (v := 201) hx hb dX11_init_86 rfl ?_
  refine zz_newa (atype := .int) (a0 := (201, .inl (fun _ => 0))) hx hb (hts _ mw_195) (ty := .int) rfl hK hP hD hS hA (n := nI 201) (N' := 201) (cA := cI) 0 rfl (fun _ => rfl) (nI_pos (by omega)) (nI_clamp (by omega)) (show 201 * 4 ≤ 536870912 by omega) (Nat.le_of_ble_eq_true rfl) (Nat.le_of_ble_eq_true rfl) dX11_init_89 (fun m10 H hP hD hS => ?_)
  obtain ⟨hP, hD⟩ := zre (W2 := [_, _, _, _, _, _, _, _, _, _, (oa m10 cI 201 (fun _ => 0))]) hP hD rfl
  refine va_putF (D := (dC, dI)) (ci := 9) (v := .ref m10) (ty := .array .int) (C := RX11) (T := TX11) (N := 55) hx hb hts inX11 tyX11 tyX11_ok nmX11 hown hK hP hD hS 0 rfl rfl 10 (by decide) (hts _ mw_1169) (fun _ h9 => h9) rfl hin rfl (by decide +kernel) rfl rfl (Nat.le_of_ble_eq_true rfl) dX11_init_91 (fun H locs hP hD hS => ?_)
  obtain ⟨hP, hD⟩ := zre (W2 := [(oc9 k0 0 (.ref m1) (.ref m2) (.ref m3) (.ref m4) (.ref m5) (.ref m6) (.ref m7) (.ref m8) (.ref m9) (.ref m10) .null .null .null 0 0 .null .null .null 0 0 0 .null .null .null .null 0 .null .null .null .null 0 .null .null .null 0 0 .null .null .null .null 0 0 .null 0 0 0 0 0 0 .null .null .null .null 0), _, _, _, _, _, _, _, _, _, _]) hP hD rfl
  refine lv_aload_n hx hb dX11_init_94 rfl (lv_at hl 0 rfl) ?_
  refine lv_sipush (v := 201) hx hb dX11_init_95 rfl ?_
  refine zz_newa (atype := .int) (a0 := (201, .inl (fun _ => 0))) hx hb (hts _ mw_195) (ty := .int) rfl hK hP hD hS hA (n := nI 201) (N' := 201) (cA := cI) 0 rfl (fun _ => rfl) (nI_pos (by omega)) (nI_clamp (by omega)) (show 201 * 4 ≤ 536870912 by omega) (Nat.le_of_ble_eq_true rfl) (Nat.le_of_ble_eq_true rfl) dX11_init_98 (fun m11 H hP hD hS => ?_)
  obtain ⟨hP, hD⟩ := zre (W2 := [_, _, _, _, _, _, _, _, _, _, _, (oa m11 cI 201 (fun _ => 0))]) hP hD rfl
  refine va_putF (D := (dC, dI)) (ci := 9) (v := .ref m11) (ty := .array .int) (C := RX11) (T := TX11) (N := 55) hx hb hts inX11 tyX11 tyX11_ok nmX11 hown hK hP hD hS 0 rfl rfl 11 (by decide) (hts _ mw_1170) (fun _ h9 => h9) rfl hin rfl (by decide +kernel) rfl rfl (Nat.le_of_ble_eq_true rfl) dX11_init_100 (fun H locs hP hD hS => ?_)
  obtain ⟨hP, hD⟩ := zre (W2 := [(oc9 k0 0 (.ref m1) (.ref m2) (.ref m3) (.ref m4) (.ref m5) (.ref m6) (.ref m7) (.ref m8) (.ref m9) (.ref m10) (.ref m11) .null .null 0 0 .null .null .null 0 0 0 .null .null .null .null 0 .null .null .null .null 0 .null .null .null 0 0 .null .null .null .null 0 0 .null 0 0 0 0 0 0 .null .null .null .null 0), _, _, _, _, _, _, _, _, _, _, _]) hP hD rfl
  refine lv_aload_n hx hb dX11_init_103 rfl (lv_at hl 0 rfl) ?_
  refine lv_sipush (v := 8040) hx hb dX11_init_104 rfl ?_
  refine zz_newa (atype := .int) (a0 := (8040, .inl (fun _ => 0))) hx hb (hts _ mw_195) (ty := .int) rfl hK hP hD hS hA (n := nI 8040) (N' := 8040) (cA := cI) 0 rfl (fun _ => rfl) (nI_pos (by omega)) (nI_clamp (by omega)) (show 8040 * 4 ≤ 536870912 by omega) (Nat.le_of_ble_eq_true rfl) (Nat.le_of_ble_eq_true rfl) dX11_init_107 (fun m12 H hP hD hS => ?_)
  obtain ⟨hP, hD⟩ := zre (W2 := [_, _, _, _, _, _, _, _, _, _, _, _, (oa m12 cI 8040 (fun _ => 0))]) hP hD rfl
  refine va_putF (D := (dC, dI)) (ci := 9) (v := .ref m12) (ty := .array .int) (C := RX11) (T := TX11) (N := 55) hx hb hts inX11 tyX11 tyX11_ok nmX11 hown hK hP hD hS 0 rfl rfl 12 (by decide) (hts _ mw_1171) (fun _ h9 => h9) rfl hin rfl (by decide +kernel) rfl rfl (Nat.le_of_ble_eq_true rfl) dX11_init_109 (fun H locs hP hD hS => ?_)
  obtain ⟨hP, hD⟩ := zre (W2 := [(oc9 k0 0 (.ref m1) (.ref m2) (.ref m3) (.ref m4) (.ref m5) (.ref m6) (.ref m7) (.ref m8) (.ref m9) (.ref m10) (.ref m11) (.ref m12) .null 0 0 .null .null .null 0 0 0 .null .null .null .null 0 .null .null .null .null 0 .null .null .null 0 0 .null .null .null .null 0 0 .null 0 0 0 0 0 0 .null .null .null .null 0), _, _, _, _, _, _, _, _, _, _, _, _]) hP hD rfl
  refine lv_aload_n hx hb dX11_init_112 rfl (lv_at hl 0 rfl) ?_
  refine lv_sipush (v := 8040) hx hb dX11_init_113 rfl ?_
  refine zz_newa (atype := .int) (a0 := (8040, .inl (fun _ => 0))) hx hb (hts _ mw_195) (ty := .int) rfl hK hP hD hS hA (n := nI 8040) (N' := 8040) (cA := cI) 0 rfl (fun _ => rfl) (nI_pos (by omega)) (nI_clamp (by omega)) (show 8040 * 4 ≤ 536870912 by omega) (Nat.le_of_ble_eq_true rfl) (Nat.le_of_ble_eq_true rfl) dX11_init_116 (fun m13 H hP hD hS => ?_)
  obtain ⟨hP, hD⟩ := zre (W2 := [_, _, _, _, _, _, _, _, _, _, _, _, _, (oa m13 cI 8040 (fun _ => 0))]) hP hD rfl
  refine va_putF (D := (dC, dI)) (ci := 9) (v := .ref m13) (ty := .array .int) (C := RX11) (T := TX11) (N := 55) hx hb hts inX11 tyX11 tyX11_ok nmX11 hown hK hP hD hS 0 rfl rfl 13 (by decide) (hts _ mw_1172) (fun _ h9 => h9) rfl hin rfl (by decide +kernel) rfl rfl (Nat.le_of_ble_eq_true rfl) dX11_init_118 (fun H locs hP hD hS => ?_)
  obtain ⟨hP, hD⟩ := zre (W2 := [(oc9 k0 0 (.ref m1) (.ref m2) (.ref m3) (.ref m4) (.ref m5) (.ref m6) (.ref m7) (.ref m8) (.ref m9) (.ref m10) (.ref m11) (.ref m12) (.ref m13) 0 0 .null .null .null 0 0 0 .null .null .null .null 0 .null .null .null .null 0 .null .null .null 0 0 .null .null .null .null 0 0 .null 0 0 0 0 0 0 .null .null .null .null 0), _, _, _, _, _, _, _, _, _, _, _, _, _]) hP hD rfl
  refine lv_aload_n hx hb dX11_init_121 rfl (lv_at hl 0 rfl) ?_
  refine lv_sipush (v := 514) hx hb dX11_init_122 rfl ?_
  refine zz_newa (atype := .int) (a0 := (514, .inl (fun _ => 0))) hx hb (hts _ mw_195) (ty := .int) rfl hK hP hD hS hA (n := nI 514) (N' := 514) (cA := cI) 0 rfl (fun _ => rfl) (nI_pos (by omega)) (nI_clamp (by omega)) (show 514 * 4 ≤ 536870912 by omega) (Nat.le_of_ble_eq_true rfl) (Nat.le_of_ble_eq_true rfl) dX11_init_125 (fun m16 H hP hD hS => ?_)
  obtain ⟨hP, hD⟩ := zre (W2 := [_, _, _, _, _, _, _, _, _, _, _, _, _, _, (oa m16 cI 514 (fun _ => 0))]) hP hD rfl
  refine va_putF (D := (dC, dI)) (ci := 9) (v := .ref m16) (ty := .array .int) (C := RX11) (T := TX11) (N := 55) hx hb hts inX11 tyX11 tyX11_ok nmX11 hown hK hP hD hS 0 rfl rfl 16 (by decide) (hts _ mw_1175) (fun _ h9 => h9) rfl hin rfl (by decide +kernel) rfl rfl (Nat.le_of_ble_eq_true rfl) dX11_init_127 (fun H locs hP hD hS => ?_)
  obtain ⟨hP, hD⟩ := zre (W2 := [(oc9 k0 0 (.ref m1) (.ref m2) (.ref m3) (.ref m4) (.ref m5) (.ref m6) (.ref m7) (.ref m8) (.ref m9) (.ref m10) (.ref m11) (.ref m12) (.ref m13) 0 0 (.ref m16) .null .null 0 0 0 .null .null .null .null 0 .null .null .null .null 0 .null .null .null 0 0 .null .null .null .null 0 0 .null 0 0 0 0 0 0 .null .null .null .null 0), _, _, _, _, _, _, _, _, _, _, _, _, _, _]) hP hD rfl
  refine lv_aload_n hx hb dX11_init_130 rfl (lv_at hl 0 rfl) ?_
  refine lv_sipush (v := 514) hx hb dX11_init_131 rfl ?_
  refine zz_newa (atype := .int) (a0 := (514, .inl (fun _ => 0))) hx hb (hts _ mw_195) (ty := .int) rfl hK hP hD hS hA (n := nI 514) (N' := 514) (cA := cI) 0 rfl (fun _ => rfl) (nI_pos (by omega)) (nI_clamp (by omega)) (show 514 * 4 ≤ 536870912 by omega) (Nat.le_of_ble_eq_true rfl) (Nat.le_of_ble_eq_true rfl) dX11_init_134 (fun m17 H hP hD hS => ?_)
  obtain ⟨hP, hD⟩ := zre (W2 := [_, _, _, _, _, _, _, _, _, _, _, _, _, _, _, (oa m17 cI 514 (fun _ => 0))]) hP hD rfl
  refine va_putF (D := (dC, dI)) (ci := 9) (v := .ref m17) (ty := .array .int) (C := RX11) (T := TX11) (N := 55) hx hb hts inX11 tyX11 tyX11_ok nmX11 hown hK hP hD hS 0 rfl rfl 17 (by decide) (hts _ mw_1176) (fun _ h9 => h9) rfl hin rfl (by decide +kernel) rfl rfl (Nat.le_of_ble_eq_true rfl) dX11_init_136 (fun H locs hP hD hS => ?_)
  obtain ⟨hP, hD⟩ := zre (W2 := [(oc9 k0 0 (.ref m1) (.ref m2) (.ref m3) (.ref m4) (.ref m5) (.ref m6) (.ref m7) (.ref m8) (.ref m9) (.ref m10) (.ref m11) (.ref m12) (.ref m13) 0 0 (.ref m16) (.ref m17) .null 0 0 0 .null .null .null .null 0 .null .null .null .null 0 .null .null .null 0 0 .null .null .null .null 0 0 .null 0 0 0 0 0 0 .null .null .null .null 0), _, _, _, _, _, _, _, _, _, _, _, _, _, _, _]) hP hD rfl
  refine lv_aload_n hx hb dX11_init_139 rfl (lv_at hl 0 rfl) ?_
  refine lv_sipush (v := 514) hx hb dX11_init_140 rfl ?_
  refine zz_newa (atype := .int) (a0 := (514, .inl (fun _ => 0))) hx hb (hts _ mw_195) (ty := .int) rfl hK hP hD hS hA (n := nI 514) (N' := 514) (cA := cI) 0 rfl (fun _ => rfl) (nI_pos (by omega)) (nI_clamp (by omega)) (show 514 * 4 ≤ 536870912 by omega) (Nat.le_of_ble_eq_true rfl) (Nat.le_of_ble_eq_true rfl) dX11_init_143 (fun m18 H hP hD hS => ?_)
  obtain ⟨hP, hD⟩ := zre (W2 := [_, _, _, _, _, _, _, _, _, _, _, _, _, _, _, _, (oa m18 cI 514 (fun _ => 0))]) hP hD rfl
  refine va_putF (D := (dC, dI)) (ci := 9) (v := .ref m18) (ty := .array .int) (C := RX11) (T := TX11) (N := 55) hx hb hts inX11 tyX11 tyX11_ok nmX11 hown hK hP hD hS 0 rfl rfl 18 (by decide) (hts _ mw_1177) (fun _ h9 => h9) rfl hin rfl (by decide +kernel) rfl rfl (Nat.le_of_ble_eq_true rfl) dX11_init_145 (fun H locs hP hD hS => ?_)
  obtain ⟨hP, hD⟩ := zre (W2 := [(oc9 k0 0 (.ref m1) (.ref m2) (.ref m3) (.ref m4) (.ref m5) (.ref m6) (.ref m7) (.ref m8) (.ref m9) (.ref m10) (.ref m11) (.ref m12) (.ref m13) 0 0 (.ref m16) (.ref m17) (.ref m18) 0 0 0 .null .null .null .null 0 .null .null .null .null 0 .null .null .null 0 0 .null .null .null .null 0 0 .null 0 0 0 0 0 0 .null .null .null .null 0), _, _, _, _, _, _, _, _, _, _, _, _, _, _, _, _]) hP hD rfl
  refine lv_aload_n hx hb dX11_init_148 rfl (lv_at hl 0 rfl) ?_
  refine lv_bipush (v := 64) hx hb dX11_init_149 rfl ?_
  refine zz_newa (atype := .int) (a0 := (64, .inl (fun _ => 0))) hx hb (hts _ mw_195) (ty := .int) rfl hK hP hD hS hA (n := nI 64) (N' := 64) (cA := cI) 0 rfl (fun _ => rfl) (nI_pos (by omega)) (nI_clamp (by omega)) (show 64 * 4 ≤ 536870912 by omega) (Nat.le_of_ble_eq_true rfl) (Nat.le_of_ble_eq_true rfl) dX11_init_151 (fun m22 H hP hD hS => ?_)
  obtain ⟨hP, hD⟩ := zre (W2 := [_, _, _, _, _, _, _, _, _, _, _, _, _, _, _, _, _, (oa m22 cI 64 (fun _ => 0))]) hP hD rfl
  refine va_put (D := (dC, dI)) (ci := 9) (v := .ref m22) (ty := .array .int) (C := RX11) (T := TX11) (N := 55) hx hb hts inX11 tyX11 tyX11_ok nmX11 hown hK hP hD hS 0 rfl rfl 22 (by decide) (hts _ mw_1181) (fun _ h9 => h9) rfl (by decide +kernel) rfl rfl (Nat.le_of_ble_eq_true rfl) dX11_init_153 (fun H locs hP hD hS => ?_)
  obtain ⟨hP, hD⟩ := zre (W2 := [(oc9 k0 0 (.ref m1) (.ref m2) (.ref m3) (.ref m4) (.ref m5) (.ref m6) (.ref m7) (.ref m8) (.ref m9) (.ref m10) (.ref m11) (.ref m12) (.ref m13) 0 0 (.ref m16) (.ref m17) (.ref m18) 0 0 0 (.ref m22) .null .null .null 0 .null .null .null .null 0 .null .null .null 0 0 .null .null .null .null 0 0 .null 0 0 0 0 0 0 .null .null .null .null 0), _, _, _, _, _, _, _, _, _, _, _, _, _, _, _, _, _]) hP hD rfl
  refine lv_aload_n hx hb dX11_init_156 rfl (lv_at hl 0 rfl) ?_
  refine lv_bipush (v := 64) hx hb dX11_init_157 rfl ?_
  refine zz_newa (atype := .int) (a0 := (64, .inl (fun _ => 0))) hx hb (hts _ mw_195) (ty := .int) rfl hK hP hD hS hA (n := nI 64) (N' := 64) (cA := cI) 0 rfl (fun _ => rfl) (nI_pos (by omega)) (nI_clamp (by omega)) (show 64 * 4 ≤ 536870912 by omega) (Nat.le_of_ble_eq_true rfl) (Nat.le_of_ble_eq_true rfl) dX11_init_159 (fun m23 H hP hD hS => ?_)
  obtain ⟨hP, hD⟩ := zre (W2 := [_, _, _, _, _, _, _, _, _, _, _, _, _, _, _, _, _, _, (oa m23 cI 64 (fun _ => 0))]) hP hD rfl
  refine va_put (D := (dC, dI)) (ci := 9) (v := .ref m23) (ty := .array .int) (C := RX11) (T := TX11) (N := 55) hx hb hts inX11 tyX11 tyX11_ok nmX11 hown hK hP hD hS 0 rfl rfl 23 (by decide) (hts _ mw_1182) (fun _ h9 => h9) rfl (by decide +kernel) rfl rfl (Nat.le_of_ble_eq_true rfl) dX11_init_161 (fun H locs hP hD hS => ?_)
  obtain ⟨hP, hD⟩ := zre (W2 := [(oc9 k0 0 (.ref m1) (.ref m2) (.ref m3) (.ref m4) (.ref m5) (.ref m6) (.ref m7) (.ref m8) (.ref m9) (.ref m10) (.ref m11) (.ref m12) (.ref m13) 0 0 (.ref m16) (.ref m17) (.ref m18) 0 0 0 (.ref m22) (.ref m23) .null .null 0 .null .null .null .null 0 .null .null .null 0 0 .null .null .null .null 0 0 .null 0 0 0 0 0 0 .null .null .null .null 0), _, _, _, _, _, _, _, _, _, _, _, _, _, _, _, _, _, _]) hP hD rfl
  refine lv_aload_n hx hb dX11_init_164 rfl (lv_at hl 0 rfl) ?_
  refine lv_bipush (v := 64) hx hb dX11_init_165 rfl ?_
  refine zz_newa (atype := .int) (a0 := (64, .inl (fun _ => 0))) hx hb (hts _ mw_195) (ty := .int) rfl hK hP hD hS hA (n := nI 64) (N' := 64) (cA := cI) 0 rfl (fun _ => rfl) (nI_pos (by omega)) (nI_clamp (by omega)) (show 64 * 4 ≤ 536870912 by omega) (Nat.le_of_ble_eq_true rfl) (Nat.le_of_ble_eq_true rfl) dX11_init_167 (fun m24 H hP hD hS => ?_)
  obtain ⟨hP, hD⟩ := zre (W2 := [_, _, _, _, _, _, _, _, _, _, _, _, _, _, _, _, _, _, _, (oa m24 cI 64 (fun _ => 0))]) hP hD rfl
  refine va_put (D := (dC, dI)) (ci := 9) (v := .ref m24) (ty := .array .int) (C := RX11) (T := TX11) (N := 55) hx hb hts inX11 tyX11 tyX11_ok nmX11 hown hK hP hD hS 0 rfl rfl 24 (by decide) (hts _ mw_1183) (fun _ h9 => h9) rfl (by decide +kernel) rfl rfl (Nat.le_of_ble_eq_true rfl) dX11_init_169 (fun H locs hP hD hS => ?_)
  obtain ⟨hP, hD⟩ := zre (W2 := [(oc9 k0 0 (.ref m1) (.ref m2) (.ref m3) (.ref m4) (.ref m5) (.ref m6) (.ref m7) (.ref m8) (.ref m9) (.ref m10) (.ref m11) (.ref m12) (.ref m13) 0 0 (.ref m16) (.ref m17) (.ref m18) 0 0 0 (.ref m22) (.ref m23) (.ref m24) .null 0 .null .null .null .null 0 .null .null .null 0 0 .null .null .null .null 0 0 .null 0 0 0 0 0 0 .null .null .null .null 0), _, _, _, _, _, _, _, _, _, _, _, _, _, _, _, _, _, _, _]) hP hD rfl
  refine lv_aload_n hx hb dX11_init_172 rfl (lv_at hl 0 rfl) ?_
  refine lv_bipush (v := 64) hx hb dX11_init_173 rfl ?_
  refine zz_newa (atype := .int) (a0 := (64, .inl (fun _ => 0))) hx hb (hts _ mw_195) (ty := .int) rfl hK hP hD hS hA (n := nI 64) (N' := 64) (cA := cI) 0 rfl (fun _ => rfl) (nI_pos (by omega)) (nI_clamp (by omega)) (show 64 * 4 ≤ 536870912 by omega) (Nat.le_of_ble_eq_true rfl) (Nat.le_of_ble_eq_true rfl) dX11_init_175 (fun m25 H hP hD hS => ?_)
  obtain ⟨hP, hD⟩ := zre (W2 := [_, _, _, _, _, _, _, _, _, _, _, _, _, _, _, _, _, _, _, _, (oa m25 cI 64 (fun _ => 0))]) hP hD rfl
  refine va_put (D := (dC, dI)) (ci := 9) (v := .ref m25) (ty := .array .int) (C := RX11) (T := TX11) (N := 55) hx hb hts inX11 tyX11 tyX11_ok nmX11 hown hK hP hD hS 0 rfl rfl 25 (by decide) (hts _ mw_1184) (fun _ h9 => h9) rfl (by decide +kernel) rfl rfl (Nat.le_of_ble_eq_true rfl) dX11_init_177 (fun H locs hP hD hS => ?_)
  obtain ⟨hP, hD⟩ := zre (W2 := [(oc9 k0 0 (.ref m1) (.ref m2) (.ref m3) (.ref m4) (.ref m5) (.ref m6) (.ref m7) (.ref m8) (.ref m9) (.ref m10) (.ref m11) (.ref m12) (.ref m13) 0 0 (.ref m16) (.ref m17) (.ref m18) 0 0 0 (.ref m22) (.ref m23) (.ref m24) (.ref m25) 0 .null .null .null .null 0 .null .null .null 0 0 .null .null .null .null 0 0 .null 0 0 0 0 0 0 .null .null .null .null 0), _, _, _, _, _, _, _, _, _, _, _, _, _, _, _, _, _, _, _, _]) hP hD rfl
  refine lv_aload_n hx hb dX11_init_180 rfl (lv_at hl 0 rfl) ?_
  refine lv_sipush (v := 516) hx hb dX11_init_181 rfl ?_
  refine zz_newa (atype := .int) (a0 := (516, .inl (fun _ => 0))) hx hb (hts _ mw_195) (ty := .int) rfl hK hP hD hS hA (n := nI 516) (N' := 516) (cA := cI) 0 rfl (fun _ => rfl) (nI_pos (by omega)) (nI_clamp (by omega)) (show 516 * 4 ≤ 536870912 by omega) (Nat.le_of_ble_eq_true rfl) (Nat.le_of_ble_eq_true rfl) dX11_init_184 (fun m27 H hP hD hS => ?_)
  obtain ⟨hP, hD⟩ := zre (W2 := [_, _, _, _, _, _, _, _, _, _, _, _, _, _, _, _, _, _, _, _, _, (oa m27 cI 516 (fun _ => 0))]) hP hD rfl
  refine va_putF (D := (dC, dI)) (ci := 9) (v := .ref m27) (ty := .array .int) (C := RX11) (T := TX11) (N := 55) hx hb hts inX11 tyX11 tyX11_ok nmX11 hown hK hP hD hS 0 rfl rfl 27 (by decide) (hts _ mw_1186) (fun _ h9 => h9) rfl hin rfl (by decide +kernel) rfl rfl (Nat.le_of_ble_eq_true rfl) dX11_init_186 (fun H locs hP hD hS => ?_)
  obtain ⟨hP, hD⟩ := zre (W2 := [(oc9 k0 0 (.ref m1) (.ref m2) (.ref m3) (.ref m4) (.ref m5) (.ref m6) (.ref m7) (.ref m8) (.ref m9) (.ref m10) (.ref m11) (.ref m12) (.ref m13) 0 0 (.ref m16) (.ref m17) (.ref m18) 0 0 0 (.ref m22) (.ref m23) (.ref m24) (.ref m25) 0 (.ref m27) .null .null .null 0 .null .null .null 0 0 .null .null .null .null 0 0 .null 0 0 0 0 0 0 .null .null .null .null 0), _, _, _, _, _, _, _, _, _, _, _, _, _, _, _, _, _, _, _, _, _]) hP hD rfl
  refine lv_aload_n hx hb dX11_init_189 rfl (lv_at hl 0 rfl) ?_
  refine lv_sipush (v := 4096) hx hb dX11_init_190 rfl ?_
  refine zz_newa (atype := .int) (a0 := (4096, .inl (fun _ => 0))) hx hb (hts _ mw_195) (ty := .int) rfl hK hP hD hS hA (n := nI 4096) (N' := 4096) (cA := cI) 0 rfl (fun _ => rfl) (nI_pos (by omega)) (nI_clamp (by omega)) (show 4096 * 4 ≤ 536870912 by omega) (Nat.le_of_ble_eq_true rfl) (Nat.le_of_ble_eq_true rfl) dX11_init_193 (fun m28 H hP hD hS => ?_)
  obtain ⟨hP, hD⟩ := zre (W2 := [_, _, _, _, _, _, _, _, _, _, _, _, _, _, _, _, _, _, _, _, _, _, (oa m28 cI 4096 (fun _ => 0))]) hP hD rfl
  refine va_put (D := (dC, dI)) (ci := 9) (v := .ref m28) (ty := .array .int) (C := RX11) (T := TX11) (N := 55) hx hb hts inX11 tyX11 tyX11_ok nmX11 hown hK hP hD hS 0 rfl rfl 28 (by decide) (hts _ mw_1187) (fun _ h9 => h9) rfl (by decide +kernel) rfl rfl (Nat.le_of_ble_eq_true rfl) dX11_init_195 (fun H locs hP hD hS => ?_)
  obtain ⟨hP, hD⟩ := zre (W2 := [(oc9 k0 0 (.ref m1) (.ref m2) (.ref m3) (.ref m4) (.ref m5) (.ref m6) (.ref m7) (.ref m8) (.ref m9) (.ref m10) (.ref m11) (.ref m12) (.ref m13) 0 0 (.ref m16) (.ref m17) (.ref m18) 0 0 0 (.ref m22) (.ref m23) (.ref m24) (.ref m25) 0 (.ref m27) (.ref m28) .null .null 0 .null .null .null 0 0 .null .null .null .null 0 0 .null 0 0 0 0 0 0 .null .null .null .null 0), _, _, _, _, _, _, _, _, _, _, _, _, _, _, _, _, _, _, _, _, _, _]) hP hD rfl
  refine lv_aload_n hx hb dX11_init_198 rfl (lv_at hl 0 rfl) ?_
  refine lv_bipush (v := 42) hx hb dX11_init_199 rfl ?_
  refine zz_newa (atype := .int) (a0 := (42, .inl (fun _ => 0))) hx hb (hts _ mw_195) (ty := .int) rfl hK hP hD hS hA (n := nI 42) (N' := 42) (cA := cI) 0 rfl (fun _ => rfl) (nI_pos (by omega)) (nI_clamp (by omega)) (show 42 * 4 ≤ 536870912 by omega) (Nat.le_of_ble_eq_true rfl) (Nat.le_of_ble_eq_true rfl) dX11_init_201 (fun m29 H hP hD hS => ?_)
  obtain ⟨hP, hD⟩ := zre (W2 := [_, _, _, _, _, _, _, _, _, _, _, _, _, _, _, _, _, _, _, _, _, _, _, (oa m29 cI 42 (fun _ => 0))]) hP hD rfl
  refine va_putF (D := (dC, dI)) (ci := 9) (v := .ref m29) (ty := .array .int) (C := RX11) (T := TX11) (N := 55) hx hb hts inX11 tyX11 tyX11_ok nmX11 hown hK hP hD hS 0 rfl rfl 29 (by decide) (hts _ mw_1188) (fun _ h9 => h9) rfl hin rfl (by decide +kernel) rfl rfl (Nat.le_of_ble_eq_true rfl) dX11_init_203 (fun H locs hP hD hS => ?_)
  obtain ⟨hP, hD⟩ := zre (W2 := [(oc9 k0 0 (.ref m1) (.ref m2) (.ref m3) (.ref m4) (.ref m5) (.ref m6) (.ref m7) (.ref m8) (.ref m9) (.ref m10) (.ref m11) (.ref m12) (.ref m13) 0 0 (.ref m16) (.ref m17) (.ref m18) 0 0 0 (.ref m22) (.ref m23) (.ref m24) (.ref m25) 0 (.ref m27) (.ref m28) (.ref m29) .null 0 .null .null .null 0 0 .null .null .null .null 0 0 .null 0 0 0 0 0 0 .null .null .null .null 0), _, _, _, _, _, _, _, _, _, _, _, _, _, _, _, _, _, _, _, _, _, _, _]) hP hD rfl
  refine lv_aload_n hx hb dX11_init_206 rfl (lv_at hl 0 rfl) ?_
  refine lv_bipush (v := 42) hx hb dX11_init_207 rfl ?_
  refine zz_newa (atype := .int) (a0 := (42, .inl (fun _ => 0))) hx hb (hts _ mw_195) (ty := .int) rfl hK hP hD hS hA (n := nI 42) (N' := 42) (cA := cI) 0 rfl (fun _ => rfl) (nI_pos (by omega)) (nI_clamp (by omega)) (show 42 * 4 ≤ 536870912 by omega) (Nat.le_of_ble_eq_true rfl) (Nat.le_of_ble_eq_true rfl) dX11_init_209 (fun m30 H hP hD hS => ?_)
  obtain ⟨hP, hD⟩ := zre (W2 := [_, _, _, _, _, _, _, _, _, _, _, _, _, _, _, _, _, _, _, _, _, _, _, _, (oa m30 cI 42 (fun _ => 0))]) hP hD rfl
  refine va_putF (D := (dC, dI)) (ci := 9) (v := .ref m30) (ty := .array .int) (C := RX11) (T := TX11) (N := 55) hx hb hts inX11 tyX11 tyX11_ok nmX11 hown hK hP hD hS 0 rfl rfl 30 (by decide) (hts _ mw_1189) (fun _ h9 => h9) rfl hin rfl (by decide +kernel) rfl rfl (Nat.le_of_ble_eq_true rfl) dX11_init_211 (fun H locs hP hD hS => ?_)
  obtain ⟨hP, hD⟩ := zre (W2 := [(oc9 k0 0 (.ref m1) (.ref m2) (.ref m3) (.ref m4) (.ref m5) (.ref m6) (.ref m7) (.ref m8) (.ref m9) (.ref m10) (.ref m11) (.ref m12) (.ref m13) 0 0 (.ref m16) (.ref m17) (.ref m18) 0 0 0 (.ref m22) (.ref m23) (.ref m24) (.ref m25) 0 (.ref m27) (.ref m28) (.ref m29) (.ref m30) 0 .null .null .null 0 0 .null .null .null .null 0 0 .null 0 0 0 0 0 0 .null .null .null .null 0), _, _, _, _, _, _, _, _, _, _, _, _, _, _, _, _, _, _, _, _, _, _, _, _]) hP hD rfl
  refine lv_aload_n hx hb dX11_init_214 rfl (lv_at hl 0 rfl) ?_
  refine lv_bipush (v := 8) hx hb dX11_init_215 rfl ?_
  refine zz_newa (atype := .int) (a0 := (8, .inl (fun _ => 0))) hx hb (hts _ mw_195) (ty := .int) rfl hK hP hD hS hA (n := nI 8) (N' := 8) (cA := cI) 0 rfl (fun _ => rfl) (nI_pos (by omega)) (nI_clamp (by omega)) (show 8 * 4 ≤ 536870912 by omega) (Nat.le_of_ble_eq_true rfl) (Nat.le_of_ble_eq_true rfl) dX11_init_217 (fun m32 H hP hD hS => ?_)
  obtain ⟨hP, hD⟩ := zre (W2 := [_, _, _, _, _, _, _, _, _, _, _, _, _, _, _, _, _, _, _, _, _, _, _, _, _, (oa m32 cI 8 (fun _ => 0))]) hP hD rfl
  refine va_putF (D := (dC, dI)) (ci := 9) (v := .ref m32) (ty := .array .int) (C := RX11) (T := TX11) (N := 55) hx hb hts inX11 tyX11 tyX11_ok nmX11 hown hK hP hD hS 0 rfl rfl 32 (by decide) (hts _ mw_1191) (fun _ h9 => h9) rfl hin rfl (by decide +kernel) rfl rfl (Nat.le_of_ble_eq_true rfl) dX11_init_219 (fun H locs hP hD hS => ?_)
  obtain ⟨hP, hD⟩ := zre (W2 := [(oc9 k0 0 (.ref m1) (.ref m2) (.ref m3) (.ref m4) (.ref m5) (.ref m6) (.ref m7) (.ref m8) (.ref m9) (.ref m10) (.ref m11) (.ref m12) (.ref m13) 0 0 (.ref m16) (.ref m17) (.ref m18) 0 0 0 (.ref m22) (.ref m23) (.ref m24) (.ref m25) 0 (.ref m27) (.ref m28) (.ref m29) (.ref m30) 0 (.ref m32) .null .null 0 0 .null .null .null .null 0 0 .null 0 0 0 0 0 0 .null .null .null .null 0), _, _, _, _, _, _, _, _, _, _, _, _, _, _, _, _, _, _, _, _, _, _, _, _, _]) hP hD rfl
  refine lv_aload_n hx hb dX11_init_222 rfl (lv_at hl 0 rfl) ?_
  refine lv_bipush (v := 42) hx hb dX11_init_223 rfl ?_
  refine zz_newa (atype := .int) (a0 := (42, .inl (fun _ => 0))) hx hb (hts _ mw_195) (ty := .int) rfl hK hP hD hS hA (n := nI 42) (N' := 42) (cA := cI) 0 rfl (fun _ => rfl) (nI_pos (by omega)) (nI_clamp (by omega)) (show 42 * 4 ≤ 536870912 by omega) (Nat.le_of_ble_eq_true rfl) (Nat.le_of_ble_eq_true rfl) dX11_init_225 (fun m33 H hP hD hS => ?_)
  obtain ⟨hP, hD⟩ := zre (W2 := [_, _, _, _, _, _, _, _, _, _, _, _, _, _, _, _, _, _, _, _, _, _, _, _, _, _, (oa m33 cI 42 (fun _ => 0))]) hP hD rfl
  refine va_putF (D := (dC, dI)) (ci := 9) (v := .ref m33) (ty := .array .int) (C := RX11) (T := TX11) (N := 55) hx hb hts inX11 tyX11 tyX11_ok nmX11 hown hK hP hD hS 0 rfl rfl 33 (by decide) (hts _ mw_1192) (fun _ h9 => h9) rfl hin rfl (by decide +kernel) rfl rfl (Nat.le_of_ble_eq_true rfl) dX11_init_227 (fun H locs hP hD hS => ?_)
  obtain ⟨hP, hD⟩ := zre (W2 := [(oc9 k0 0 (.ref m1) (.ref m2) (.ref m3) (.ref m4) (.ref m5) (.ref m6) (.ref m7) (.ref m8) (.ref m9) (.ref m10) (.ref m11) (.ref m12) (.ref m13) 0 0 (.ref m16) (.ref m17) (.ref m18) 0 0 0 (.ref m22) (.ref m23) (.ref m24) (.ref m25) 0 (.ref m27) (.ref m28) (.ref m29) (.ref m30) 0 (.ref m32) (.ref m33) .null 0 0 .null .null .null .null 0 0 .null 0 0 0 0 0 0 .null .null .null .null 0), _, _, _, _, _, _, _, _, _, _, _, _, _, _, _, _, _, _, _, _, _, _, _, _, _, _]) hP hD rfl
  refine lv_aload_n hx hb dX11_init_230 rfl (lv_at hl 0 rfl) ?_
  refine lv_bipush (v := 42) hx hb dX11_init_231 rfl ?_
  refine zz_newa (atype := .int) (a0 := (42, .inl (fun _ => 0))) hx hb (hts _ mw_195) (ty := .int) rfl hK hP hD hS hA (n := nI 42) (N' := 42) (cA := cI) 0 rfl (fun _ => rfl) (nI_pos (by omega)) (nI_clamp (by omega)) (show 42 * 4 ≤ 536870912 by omega) (Nat.le_of_ble_eq_true rfl) (Nat.le_of_ble_eq_true rfl) dX11_init_233 (fun m34 H hP hD hS => ?_)
  obtain ⟨hP, hD⟩ := zre (W2 := [_, _, _, _, _, _, _, _, _, _, _, _, _, _, _, _, _, _, _, _, _, _, _, _, _, _, _, (oa m34 cI 42 (fun _ => 0))]) hP hD rfl
  refine va_putF (D := (dC, dI)) (ci := 9) (v := .ref m34) (ty := .array .int) (C := RX11) (T := TX11) (N := 55) hx hb hts inX11 tyX11 tyX11_ok nmX11 hown hK hP hD hS 0 rfl rfl 34 (by decide) (hts _ mw_1193) (fun _ h9 => h9) rfl hin rfl (by decide +kernel) rfl rfl (Nat.le_of_ble_eq_true rfl) dX11_init_235 (fun H locs hP hD hS => ?_)
  obtain ⟨hP, hD⟩ := zre (W2 := [(oc9 k0 0 (.ref m1) (.ref m2) (.ref m3) (.ref m4) (.ref m5) (.ref m6) (.ref m7) (.ref m8) (.ref m9) (.ref m10) (.ref m11) (.ref m12) (.ref m13) 0 0 (.ref m16) (.ref m17) (.ref m18) 0 0 0 (.ref m22) (.ref m23) (.ref m24) (.ref m25) 0 (.ref m27) (.ref m28) (.ref m29) (.ref m30) 0 (.ref m32) (.ref m33) (.ref m34) 0 0 .null .null .null .null 0 0 .null 0 0 0 0 0 0 .null .null .null .null 0), _, _, _, _, _, _, _, _, _, _, _, _, _, _, _, _, _, _, _, _, _, _, _, _, _, _, _]) hP hD rfl
  refine lv_aload_n hx hb dX11_init_238 rfl (lv_at hl 0 rfl) ?_
  refine lv_sipush (v := 201) hx hb dX11_init_239 rfl ?_
  refine zz_newa (atype := .boolean) (a0 := (201, .inl (fun _ => 0))) hx hb (hts _ mw_308) (ty := .boolean) rfl hK hP hD hS hA (n := nI 201) (N' := 201) (cA := cZ) 1 rfl (fun _ => rfl) (nI_pos (by omega)) (nI_clamp (by omega)) (show 201 * 1 ≤ 536870912 by omega) (Nat.le_of_ble_eq_true rfl) (Nat.le_of_ble_eq_true rfl) dX11_init_242 (fun m37 H hP hD hS => ?_)
  obtain ⟨hP, hD⟩ := zre (W2 := [_, _, _, _, _, _, _, _, _, _, _, _, _, _, _, _, _, _, _, _, _, _, _, _, _, _, _, _, (oa m37 cZ 201 (fun _ => 0))]) hP hD rfl
  refine va_putF (D := (dC, dI)) (ci := 9) (v := .ref m37) (ty := .array .boolean) (C := RX11) (T := TX11) (N := 55) hx hb hts inX11 tyX11 tyX11_ok nmX11 hown hK hP hD hS 0 rfl rfl 37 (by decide) (hts _ mw_1196) (fun _ h9 => h9) rfl hin rfl (by decide +kernel) rfl rfl (Nat.le_of_ble_eq_true rfl) dX11_init_244 (fun H locs hP hD hS => ?_)
  obtain ⟨hP, hD⟩ := zre (W2 := [(oc9 k0 0 (.ref m1) (.ref m2) (.ref m3) (.ref m4) (.ref m5) (.ref m6) (.ref m7) (.ref m8) (.ref m9) (.ref m10) (.ref m11) (.ref m12) (.ref m13) 0 0 (.ref m16) (.ref m17) (.ref m18) 0 0 0 (.ref m22) (.ref m23) (.ref m24) (.ref m25) 0 (.ref m27) (.ref m28) (.ref m29) (.ref m30) 0 (.ref m32) (.ref m33) (.ref m34) 0 0 (.ref m37) .null .null .null 0 0 .null 0 0 0 0 0 0 .null .null .null .null 0), _, _, _, _, _, _, _, _, _, _, _, _, _, _, _, _, _, _, _, _, _, _, _, _, _, _, _, _]) hP hD rfl
  refine lv_aload_n hx hb dX11_init_247 rfl (lv_at hl 0 rfl) ?_
  refine lv_sipush (v := 201) hx hb dX11_init_248 rfl ?_
  refine zz_newa (atype := .boolean) (a0 := (201, .inl (fun _ => 0))) hx hb (hts _ mw_308) (ty := .boolean) rfl hK hP hD hS hA (n := nI 201) (N' := 201) (cA := cZ) 1 rfl (fun _ => rfl) (nI_pos (by omega)) (nI_clamp (by omega)) (show 201 * 1 ≤ 536870912 by omega) (Nat.le_of_ble_eq_true rfl) (Nat.le_of_ble_eq_true rfl) dX11_init_251 (fun m38 H hP hD hS => ?_)
  obtain ⟨hP, hD⟩ := zre (W2 := [_, _, _, _, _, _, _, _, _, _, _, _, _, _, _, _, _, _, _, _, _, _, _, _, _, _, _, _, _, (oa m38 cZ 201 (fun _ => 0))]) hP hD rfl
  refine va_putF (D := (dC, dI)) (ci := 9) (v := .ref m38) (ty := .array .boolean) (C := RX11) (T := TX11) (N := 55) hx hb hts inX11 tyX11 tyX11_ok nmX11 hown hK hP hD hS 0 rfl rfl 38 (by decide) (hts _ mw_1197) (fun _ h9 => h9) rfl hin rfl (by decide +kernel) rfl rfl (Nat.le_of_ble_eq_true rfl) dX11_init_253 (fun H locs hP hD hS => ?_)
  obtain ⟨hP, hD⟩ := zre (W2 := [(oc9 k0 0 (.ref m1) (.ref m2) (.ref m3) (.ref m4) (.ref m5) (.ref m6) (.ref m7) (.ref m8) (.ref m9) (.ref m10) (.ref m11) (.ref m12) (.ref m13) 0 0 (.ref m16) (.ref m17) (.ref m18) 0 0 0 (.ref m22) (.ref m23) (.ref m24) (.ref m25) 0 (.ref m27) (.ref m28) (.ref m29) (.ref m30) 0 (.ref m32) (.ref m33) (.ref m34) 0 0 (.ref m37) (.ref m38) .null .null 0 0 .null 0 0 0 0 0 0 .null .null .null .null 0), _, _, _, _, _, _, _, _, _, _, _, _, _, _, _, _, _, _, _, _, _, _, _, _, _, _, _, _, _]) hP hD rfl
  refine lv_aload_n hx hb dX11_init_256 rfl (lv_at hl 0 rfl) ?_
  refine lv_sipush (v := 8040) hx hb dX11_init_257 rfl ?_
  refine zz_newa (atype := .boolean) (a0 := (8040, .inl (fun _ => 0))) hx hb (hts _ mw_308) (ty := .boolean) rfl hK hP hD hS hA (n := nI 8040) (N' := 8040) (cA := cZ) 1 rfl (fun _ => rfl) (nI_pos (by omega)) (nI_clamp (by omega)) (show 8040 * 1 ≤ 536870912 by omega) (Nat.le_of_ble_eq_true rfl) (Nat.le_of_ble_eq_true rfl) dX11_init_260 (fun m39 H hP hD hS => ?_)
  obtain ⟨hP, hD⟩ := zre (W2 := [_, _, _, _, _, _, _, _, _, _, _, _, _, _, _, _, _, _, _, _, _, _, _, _, _, _, _, _, _, _, (oa m39 cZ 8040 (fun _ => 0))]) hP hD rfl
  refine va_putF (D := (dC, dI)) (ci := 9) (v := .ref m39) (ty := .array .boolean) (C := RX11) (T := TX11) (N := 55) hx hb hts inX11 tyX11 tyX11_ok nmX11 hown hK hP hD hS 0 rfl rfl 39 (by decide) (hts _ mw_1198) (fun _ h9 => h9) rfl hin rfl (by decide +kernel) rfl rfl (Nat.le_of_ble_eq_true rfl) dX11_init_262 (fun H locs hP hD hS => ?_)
  obtain ⟨hP, hD⟩ := zre (W2 := [(oc9 k0 0 (.ref m1) (.ref m2) (.ref m3) (.ref m4) (.ref m5) (.ref m6) (.ref m7) (.ref m8) (.ref m9) (.ref m10) (.ref m11) (.ref m12) (.ref m13) 0 0 (.ref m16) (.ref m17) (.ref m18) 0 0 0 (.ref m22) (.ref m23) (.ref m24) (.ref m25) 0 (.ref m27) (.ref m28) (.ref m29) (.ref m30) 0 (.ref m32) (.ref m33) (.ref m34) 0 0 (.ref m37) (.ref m38) (.ref m39) .null 0 0 .null 0 0 0 0 0 0 .null .null .null .null 0), _, _, _, _, _, _, _, _, _, _, _, _, _, _, _, _, _, _, _, _, _, _, _, _, _, _, _, _, _, _]) hP hD rfl
  refine lv_aload_n hx hb dX11_init_265 rfl (lv_at hl 0 rfl) ?_
  refine lv_bipush (v := 6) hx hb dX11_init_266 rfl ?_
  refine zz_newa (atype := .int) (a0 := (6, .inl (fun _ => 0))) hx hb (hts _ mw_195) (ty := .int) rfl hK hP hD hS hA (n := nI 6) (N' := 6) (cA := cI) 0 rfl (fun _ => rfl) (nI_pos (by omega)) (nI_clamp (by omega)) (show 6 * 4 ≤ 536870912 by omega) (Nat.le_of_ble_eq_true rfl) (Nat.le_of_ble_eq_true rfl) dX11_init_268 (fun m40 H hP hD hS => ?_)
  obtain ⟨hP, hD⟩ := zre (W2 := [_, _, _, _, _, _, _, _, _, _, _, _, _, _, _, _, _, _, _, _, _, _, _, _, _, _, _, _, _, _, _, (oa m40 cI 6 (fun _ => 0))]) hP hD rfl
  refine va_putF (D := (dC, dI)) (ci := 9) (v := .ref m40) (ty := .array .int) (C := RX11) (T := TX11) (N := 55) hx hb hts inX11 tyX11 tyX11_ok nmX11 hown hK hP hD hS 0 rfl rfl 40 (by decide) (hts _ mw_1199) (fun _ h9 => h9) rfl hin rfl (by decide +kernel) rfl rfl (Nat.le_of_ble_eq_true rfl) dX11_init_270 (fun H locs hP hD hS => ?_)
  obtain ⟨hP, hD⟩ := zre (W2 := [(oc9 k0 0 (.ref m1) (.ref m2) (.ref m3) (.ref m4) (.ref m5) (.ref m6) (.ref m7) (.ref m8) (.ref m9) (.ref m10) (.ref m11) (.ref m12) (.ref m13) 0 0 (.ref m16) (.ref m17) (.ref m18) 0 0 0 (.ref m22) (.ref m23) (.ref m24) (.ref m25) 0 (.ref m27) (.ref m28) (.ref m29) (.ref m30) 0 (.ref m32) (.ref m33) (.ref m34) 0 0 (.ref m37) (.ref m38) (.ref m39) (.ref m40) 0 0 .null 0 0 0 0 0 0 .null .null .null .null 0), _, _, _, _, _, _, _, _, _, _, _, _, _, _, _, _, _, _, _, _, _, _, _, _, _, _, _, _, _, _, _]) hP hD rfl
  refine lv_aload_n hx hb dX11_init_273 rfl (lv_at hl 0 rfl) ?_
  refine lv_bipush (v := 40) hx hb dX11_init_274 rfl ?_
  refine zz_newa (atype := .boolean) (a0 := (40, .inl (fun _ => 0))) hx hb (hts _ mw_308) (ty := .boolean) rfl hK hP hD hS hA (n := nI 40) (N' := 40) (cA := cZ) 1 rfl (fun _ => rfl) (nI_pos (by omega)) (nI_clamp (by omega)) (show 40 * 1 ≤ 536870912 by omega) (Nat.le_of_ble_eq_true rfl) (Nat.le_of_ble_eq_true rfl) dX11_init_276 (fun m43 H hP hD hS => ?_)
  obtain ⟨hP, hD⟩ := zre (W2 := (_ :: _ :: _ :: _ :: _ :: _ :: _ :: _ :: _ :: _ :: _ :: _ :: _ :: _ :: _ :: _ :: _ :: _ :: _ :: _ :: _ :: _ :: _ :: _ :: _ :: _ :: _ :: _ :: _ :: _ :: _ :: _ :: (oa m43 cZ 40 (fun _ => 0)) :: [])) hP hD rfl
  refine va_putF (D := (dC, dI)) (ci := 9) (v := .ref m43) (ty := .array .boolean) (C := RX11) (T := TX11) (N := 55) hx hb hts inX11 tyX11 tyX11_ok nmX11 hown hK hP hD hS 0 rfl rfl 43 (by decide) (hts _ mw_1202) (fun _ h9 => h9) rfl hin rfl (by decide +kernel) rfl rfl (Nat.le_of_ble_eq_true rfl) dX11_init_278 (fun H locs hP hD hS => ?_)
  obtain ⟨hP, hD⟩ := zre (W2 := ((oc9 k0 0 (.ref m1) (.ref m2) (.ref m3) (.ref m4) (.ref m5) (.ref m6) (.ref m7) (.ref m8) (.ref m9) (.ref m10) (.ref m11) (.ref m12) (.ref m13) 0 0 (.ref m16) (.ref m17) (.ref m18) 0 0 0 (.ref m22) (.ref m23) (.ref m24) (.ref m25) 0 (.ref m27) (.ref m28) (.ref m29) (.ref m30) 0 (.ref m32) (.ref m33) (.ref m34) 0 0 (.ref m37) (.ref m38) (.ref m39) (.ref m40) 0 0 (.ref m43) 0 0 0 0 0 0 .null .null .null .null 0) :: _ :: _ :: _ :: _ :: _ :: _ :: _ :: _ :: _ :: _ :: _ :: _ :: _ :: _ :: _ :: _ :: _ :: _ :: _ :: _ :: _ :: _ :: _ :: _ :: _ :: _ :: _ :: _ :: _ :: _ :: _ :: _ :: [])) hP hD rfl
  refine lv_aload_n hx hb dX11_init_281 rfl (lv_at hl 0 rfl) ?_
  refine lv_sipush (v := 201) hx hb dX11_init_282 rfl ?_
  refine zz_newa (atype := .boolean) (a0 := (201, .inl (fun _ => 0))) hx hb (hts _ mw_308) (ty := .boolean) rfl hK hP hD hS hA (n := nI 201) (N' := 201) (cA := cZ) 1 rfl (fun _ => rfl) (nI_pos (by omega)) (nI_clamp (by omega)) (show 201 * 1 ≤ 536870912 by omega) (Nat.le_of_ble_eq_true rfl) (Nat.le_of_ble_eq_true rfl) dX11_init_285 (fun m50 H hP hD hS => ?_)
  obtain ⟨hP, hD⟩ := zre (W2 := (_ :: _ :: _ :: _ :: _ :: _ :: _ :: _ :: _ :: _ :: _ :: _ :: _ :: _ :: _ :: _ :: _ :: _ :: _ :: _ :: _ :: _ :: _ :: _ :: _ :: _ :: _ :: _ :: _ :: _ :: _ :: _ :: _ :: (oa m50 cZ 201 (fun _ => 0)) :: [])) hP hD rfl
  refine va_putF (D := (dC, dI)) (ci := 9) (v := .ref m50) (ty := .array .boolean) (C := RX11) (T := TX11) (N := 55) hx hb hts inX11 tyX11 tyX11_ok nmX11 hown hK hP hD hS 0 rfl rfl 50 (by decide) (hts _ mw_1209) (fun _ h9 => h9) rfl hin rfl (by decide +kernel) rfl rfl (Nat.le_of_ble_eq_true rfl) dX11_init_287 (fun H locs hP hD hS => ?_)
  obtain ⟨hP, hD⟩ := zre (W2 := ((oc9 k0 0 (.ref m1) (.ref m2) (.ref m3) (.ref m4) (.ref m5) (.ref m6) (.ref m7) (.ref m8) (.ref m9) (.ref m10) (.ref m11) (.ref m12) (.ref m13) 0 0 (.ref m16) (.ref m17) (.ref m18) 0 0 0 (.ref m22) (.ref m23) (.ref m24) (.ref m25) 0 (.ref m27) (.ref m28) (.ref m29) (.ref m30) 0 (.ref m32) (.ref m33) (.ref m34) 0 0 (.ref m37) (.ref m38) (.ref m39) (.ref m40) 0 0 (.ref m43) 0 0 0 0 0 0 (.ref m50) .null .null .null 0) :: _ :: _ :: _ :: _ :: _ :: _ :: _ :: _ :: _ :: _ :: _ :: _ :: _ :: _ :: _ :: _ :: _ :: _ :: _ :: _ :: _ :: _ :: _ :: _ :: _ :: _ :: _ :: _ :: _ :: _ :: _ :: _ :: _ :: [])) hP hD rfl
  refine lv_aload_n hx hb dX11_init_290 rfl (lv_at hl 0 rfl) ?_
  refine lv_sipush (v := 402) hx hb dX11_init_291 rfl ?_
  refine zz_newa (atype := .int) (a0 := (402, .inl (fun _ => 0))) hx hb (hts _ mw_195) (ty := .int) rfl hK hP hD hS hA (n := nI 402) (N' := 402) (cA := cI) 0 rfl (fun _ => rfl) (nI_pos (by omega)) (nI_clamp (by omega)) (show 402 * 4 ≤ 536870912 by omega) (Nat.le_of_ble_eq_true rfl) (Nat.le_of_ble_eq_true rfl) dX11_init_294 (fun m51 H hP hD hS => ?_)
  obtain ⟨hP, hD⟩ := zre (W2 := (_ :: _ :: _ :: _ :: _ :: _ :: _ :: _ :: _ :: _ :: _ :: _ :: _ :: _ :: _ :: _ :: _ :: _ :: _ :: _ :: _ :: _ :: _ :: _ :: _ :: _ :: _ :: _ :: _ :: _ :: _ :: _ :: _ :: _ :: (oa m51 cI 402 (fun _ => 0)) :: [])) hP hD rfl
  refine va_putF (D := (dC, dI)) (ci := 9) (v := .ref m51) (ty := .array .int) (C := RX11) (T := TX11) (N := 55) hx hb hts inX11 tyX11 tyX11_ok nmX11 hown hK hP hD hS 0 rfl rfl 51 (by decide) (hts _ mw_1210) (fun _ h9 => h9) rfl hin rfl (by decide +kernel) rfl rfl (Nat.le_of_ble_eq_true rfl) dX11_init_296 (fun H locs hP hD hS => ?_)
  obtain ⟨hP, hD⟩ := zre (W2 := ((oc9 k0 0 (.ref m1) (.ref m2) (.ref m3) (.ref m4) (.ref m5) (.ref m6) (.ref m7) (.ref m8) (.ref m9) (.ref m10) (.ref m11) (.ref m12) (.ref m13) 0 0 (.ref m16) (.ref m17) (.ref m18) 0 0 0 (.ref m22) (.ref m23) (.ref m24) (.ref m25) 0 (.ref m27) (.ref m28) (.ref m29) (.ref m30) 0 (.ref m32) (.ref m33) (.ref m34) 0 0 (.ref m37) (.ref m38) (.ref m39) (.ref m40) 0 0 (.ref m43) 0 0 0 0 0 0 (.ref m50) (.ref m51) .null .null 0) :: _ :: _ :: _ :: _ :: _ :: _ :: _ :: _ :: _ :: _ :: _ :: _ :: _ :: _ :: _ :: _ :: _ :: _ :: _ :: _ :: _ :: _ :: _ :: _ :: _ :: _ :: _ :: _ :: _ :: _ :: _ :: _ :: _ :: _ :: [])) hP hD rfl
  refine lv_aload_n hx hb dX11_init_299 rfl (lv_at hl 0 rfl) ?_
  refine lv_sipush (v := 402) hx hb dX11_init_300 rfl ?_
  refine zz_newa (atype := .int) (a0 := (402, .inl (fun _ => 0))) hx hb (hts _ mw_195) (ty := .int) rfl hK hP hD hS hA (n := nI 402) (N' := 402) (cA := cI) 0 rfl (fun _ => rfl) (nI_pos (by omega)) (nI_clamp (by omega)) (show 402 * 4 ≤ 536870912 by omega) (Nat.le_of_ble_eq_true rfl) (Nat.le_of_ble_eq_true rfl) dX11_init_303 (fun m52 H hP hD hS => ?_)
  obtain ⟨hP, hD⟩ := zre (W2 := (_ :: _ :: _ :: _ :: _ :: _ :: _ :: _ :: _ :: _ :: _ :: _ :: _ :: _ :: _ :: _ :: _ :: _ :: _ :: _ :: _ :: _ :: _ :: _ :: _ :: _ :: _ :: _ :: _ :: _ :: _ :: _ :: _ :: _ :: _ :: (oa m52 cI 402 (fun _ => 0)) :: [])) hP hD rfl
  refine va_putF (D := (dC, dI)) (ci := 9) (v := .ref m52) (ty := .array .int) (C := RX11) (T := TX11) (N := 55) hx hb hts inX11 tyX11 tyX11_ok nmX11 hown hK hP hD hS 0 rfl rfl 52 (by decide) (hts _ mw_1211) (fun _ h9 => h9) rfl hin rfl (by decide +kernel) rfl rfl (Nat.le_of_ble_eq_true rfl) dX11_init_305 (fun H locs hP hD hS => ?_)
  obtain ⟨hP, hD⟩ := zre (W2 := ((oc9 k0 0 (.ref m1) (.ref m2) (.ref m3) (.ref m4) (.ref m5) (.ref m6) (.ref m7) (.ref m8) (.ref m9) (.ref m10) (.ref m11) (.ref m12) (.ref m13) 0 0 (.ref m16) (.ref m17) (.ref m18) 0 0 0 (.ref m22) (.ref m23) (.ref m24) (.ref m25) 0 (.ref m27) (.ref m28) (.ref m29) (.ref m30) 0 (.ref m32) (.ref m33) (.ref m34) 0 0 (.ref m37) (.ref m38) (.ref m39) (.ref m40) 0 0 (.ref m43) 0 0 0 0 0 0 (.ref m50) (.ref m51) (.ref m52) .null 0) :: _ :: _ :: _ :: _ :: _ :: _ :: _ :: _ :: _ :: _ :: _ :: _ :: _ :: _ :: _ :: _ :: _ :: _ :: _ :: _ :: _ :: _ :: _ :: _ :: _ :: _ :: _ :: _ :: _ :: _ :: _ :: _ :: _ :: _ :: _ :: [])) hP hD rfl
  refine lv_aload_n hx hb dX11_init_308 rfl (lv_at hl 0 rfl) ?_
  refine lv_sipush (v := 402) hx hb dX11_init_309 rfl ?_
  refine zz_newa (atype := .int) (a0 := (402, .inl (fun _ => 0))) hx hb (hts _ mw_195) (ty := .int) rfl hK hP hD hS hA (n := nI 402) (N' := 402) (cA := cI) 0 rfl (fun _ => rfl) (nI_pos (by omega)) (nI_clamp (by omega)) (show 402 * 4 ≤ 536870912 by omega) (Nat.le_of_ble_eq_true rfl) (Nat.le_of_ble_eq_true rfl) dX11_init_312 (fun m53 H hP hD hS => ?_)
  obtain ⟨hP, hD⟩ := zre (W2 := (_ :: _ :: _ :: _ :: _ :: _ :: _ :: _ :: _ :: _ :: _ :: _ :: _ :: _ :: _ :: _ :: _ :: _ :: _ :: _ :: _ :: _ :: _ :: _ :: _ :: _ :: _ :: _ :: _ :: _ :: _ :: _ :: _ :: _ :: _ :: _ :: (oa m53 cI 402 (fun _ => 0)) :: [])) hP hD rfl
  refine va_putF (D := (dC, dI)) (ci := 9) (v := .ref m53) (ty := .array .int) (C := RX11) (T := TX11) (N := 55) hx hb hts inX11 tyX11 tyX11_ok nmX11 hown hK hP hD hS 0 rfl rfl 53 (by decide) (hts _ mw_1212) (fun _ h9 => h9) rfl hin rfl (by decide +kernel) rfl rfl (Nat.le_of_ble_eq_true rfl) dX11_init_314 (fun H locs hP hD hS => ?_)
  obtain ⟨hP, hD⟩ := zre (W2 := ((oc9 k0 0 (.ref m1) (.ref m2) (.ref m3) (.ref m4) (.ref m5) (.ref m6) (.ref m7) (.ref m8) (.ref m9) (.ref m10) (.ref m11) (.ref m12) (.ref m13) 0 0 (.ref m16) (.ref m17) (.ref m18) 0 0 0 (.ref m22) (.ref m23) (.ref m24) (.ref m25) 0 (.ref m27) (.ref m28) (.ref m29) (.ref m30) 0 (.ref m32) (.ref m33) (.ref m34) 0 0 (.ref m37) (.ref m38) (.ref m39) (.ref m40) 0 0 (.ref m43) 0 0 0 0 0 0 (.ref m50) (.ref m51) (.ref m52) (.ref m53) 0) :: _ :: _ :: _ :: _ :: _ :: _ :: _ :: _ :: _ :: _ :: _ :: _ :: _ :: _ :: _ :: _ :: _ :: _ :: _ :: _ :: _ :: _ :: _ :: _ :: _ :: _ :: _ :: _ :: _ :: _ :: _ :: _ :: _ :: _ :: _ :: _ :: [])) hP hD rfl
  obtain ⟨hP9, hD9⟩ := zu_sub (wc := (_ :: _ :: _ :: _ :: _ :: _ :: _ :: _ :: _ :: _ :: _ :: _ :: _ :: _ :: _ :: _ :: _ :: _ :: _ :: _ :: _ :: _ :: _ :: _ :: _ :: _ :: _ :: _ :: _ :: _ :: _ :: _ :: _ :: _ :: _ :: _ :: _ :: [])) hP hD (true :: true :: true :: true :: true :: true :: true :: true :: true :: true :: true :: true :: true :: true :: true :: true :: true :: true :: true :: true :: true :: true :: true :: true :: true :: true :: true :: true :: true :: true :: true :: true :: true :: true :: true :: true :: true :: []) rfl rfl
  refine W.widen (k := 36) (n := 34772) (by decide) (by decide) ?_
  rw [hQ9]
  exact W.vret hx hb hr (fun t ht hW => ⟨⟨rfl, m1, m2, m3, m4, m5, m6, m7, m8, m9, m10, m11, m12, m13, m16, m17, m18, m22, m23, m24, m25, m27, m28, m29, m30, m32, m33, m34, m37, m38, m39, m40, m43, m50, m51, m52, m53, by rw [ht]; exact hP9, hD9⟩, hS.F ht⟩) hS.2.2 dX11_init_317
end
section
/-! what holds of a state: of one feature, of all -/
def wfQ (kd st tn mn it : Int32) (X Y : Nat → Int32) : Prop :=
  (0 ≤ kd.toInt ∧ kd.toInt ≤ 6) ∧ (0 ≤ st.toInt ∧ st.toInt ≤ 2) ∧ (tn.toInt = 0 → (mn = nI (nN mn) ∧ nN mn ≤ 40 ∧ (kd.toInt = 0 → nN mn ≤ 1) ∧ pls (nN mn) X Y) ∧ (¬ st.toInt = 0 → mSm kd.toInt (nN mn) X Y)) ∧ (¬ st.toInt = 2 → it = -1)
def wfS (ft : Nat) (kd st tn mn it cx cy : Nat → Int32) : Prop := ∀ q, q < ft → wfQ (kd q) (st q) (tn q) (mn q) (it q) (cF40 cx q) (cF40 cy q)
theorem wfQ_cg {kd st tn mn it : Int32} {X Y X1 Y1 : Nat → Int32} (hc : ∀ k, k < 40 → X1 k = X k ∧ Y1 k = Y k) (h : wfQ kd st tn mn it X Y) : wfQ kd st tn mn it X1 Y1 := by
  obtain ⟨h1, h2, h3, h4⟩ := h
  refine ⟨h1, h2, fun t => ?_, h4⟩
  obtain ⟨⟨a1, a2, a3, a4⟩, a5⟩ := h3 t
  have hc2 : ∀ k, k < nN mn → X k = X1 k ∧ Y k = Y1 k := fun k hk => ⟨(hc k (by omega)).1.symm, (hc k (by omega)).2.symm⟩
  exact ⟨⟨a1, a2, a3, (pls_cg hc2).mp a4⟩, fun s => mSm_cg hc2 (a5 s)⟩
section
variable {ft f : Nat} {kd st tn mn it cx cy kd1 st1 tn1 mn1 it1 cx1 cy1 : Nat → Int32}
theorem wfS_wf (h : wfS ft kd st tn mn it cx cy) : ∀ q, lvF ft st tn q → wfM mn cx cy q := fun q hq => by
  obtain ⟨_, _, h3, _⟩ := h q hq.1
  obtain ⟨⟨a1, a2, _, a4⟩, a5⟩ := h3 hq.2.2
  have s := a5 (by have := hq.2.1; omega)
  exact ⟨a1, ⟨mSm_pos s, a2⟩, a4⟩
theorem wfS_sm (h : wfS ft kd st tn mn it cx cy) {q : Nat} (hq : lvF ft st tn q) : mSm (kd q).toInt (nN (mn q)) (cF40 cx q) (cF40 cy q) := by
  obtain ⟨_, _, h3, _⟩ := h q hq.1
  exact (h3 hq.2.2).2 (by have := hq.2.1; omega)
theorem mSm_kn {kd : Int} {n : Nat} {X Y : Nat → Int32} (h : mSm kd n X Y) : (kd = 0 ∧ n = 1) ∨ (¬ kd = 0 ∧ 2 ≤ n) := by
  by_cases e : kd = 0
  · exact Or.inl ⟨e, h.1 e⟩
  · have := (h.2 e).1
    unfold mnc at this
    exact Or.inr ⟨e, by split at this <;> omega⟩
theorem wfS_kn (h : wfS ft kd st tn mn it cx cy) : okN ft st tn kd mn := fun q hq => mSm_kn (wfS_sm h hq)
theorem wfS_ok (h : wfS ft kd st tn mn it cx cy) : okA ft st tn kd mn cx cy := fun q hq => ⟨wfS_wf h q hq, wfS_sm h hq⟩
theorem wfS_it (h : wfS ft kd st tn mn it cx cy) : ∀ q, q < ft → (st q).toInt = 1 → it q = -1 := fun q hq s1 => (h q hq).2.2.2 (by omega)
theorem wfS_io (h : wfS ft kd st tn mn it cx cy) : ∀ q, q < ft → (st q).toInt = 0 → it q = -1 := fun q hq s0 => (h q hq).2.2.2 (by omega)
theorem wfS_mn (h : wfS ft kd st tn mn it cx cy) : ∀ q, q < ft → (tn q).toInt = 0 → ¬ (st q).toInt = 0 → mn q = nI (nN (mn q)) ∧ nN (mn q) ≤ 40 := fun q hq ht _ => ⟨((h q hq).2.2.1 ht).1.1, ((h q hq).2.2.1 ht).1.2.1⟩
/-- one feature has changed -/
theorem wfS_1 (h : wfS ft kd st tn mn it cx cy) (ho : ∀ p, p < ft → p ≠ f → kd1 p = kd p ∧ st1 p = st p ∧ tn1 p = tn p ∧ mn1 p = mn p ∧ it1 p = it p ∧ ∀ k, k < 40 → cF40 cx1 p k = cF40 cx p k ∧ cF40 cy1 p k = cF40 cy p k) (hf : f < ft → wfQ (kd1 f) (st1 f) (tn1 f) (mn1 f) (it1 f) (cF40 cx1 f) (cF40 cy1 f)) : wfS ft kd1 st1 tn1 mn1 it1 cx1 cy1 := by
  intro p hp
  by_cases e : p = f
  · rw [e]; exact hf (by omega)
  · obtain ⟨o1, o2, o3, o4, o5, o6⟩ := ho p hp e
    rw [o1, o2, o3, o4, o5]
    exact wfQ_cg o6 (h p hp)
theorem wfS_cg (h : wfS ft kd st tn mn it cx cy) (ho : ∀ p, p < ft → kd1 p = kd p ∧ st1 p = st p ∧ tn1 p = tn p ∧ mn1 p = mn p ∧ it1 p = it p ∧ ∀ k, k < 40 → cF40 cx1 p k = cF40 cx p k ∧ cF40 cy1 p k = cF40 cy p k) : wfS ft kd1 st1 tn1 mn1 it1 cx1 cy1 := fun p hp => by
  obtain ⟨o1, o2, o3, o4, o5, o6⟩ := ho p hp
  rw [o1, o2, o3, o4, o5]
  exact wfQ_cg o6 (h p hp)
/-- it goes -/
theorem wfQ_go {k s t m i : Int32} {X Y : Nat → Int32} (h : wfQ k s t m i X Y) (hs : s.toInt = 1) (j : Int32) : wfQ k 2 t m j X Y := by
  obtain ⟨h1, h2, h3, h4⟩ := h
  have e2 : (2 : Int32).toInt = 2 := by decide
  refine ⟨h1, by rw [e2]; omega, fun ht => ⟨(h3 ht).1, fun _ => (h3 ht).2 (by omega)⟩, fun g => absurd e2 g⟩
theorem wfS_go (h : wfS ft kd st tn mn it cx cy) (hs : f < ft → (st f).toInt = 1) (j : Int32) : wfS ft kd (upd st f 2) tn mn (upd it f j) cx cy :=
  wfS_1 (f := f) h (fun p _ e => ⟨rfl, if_neg e, rfl, rfl, if_neg e, fun k _ => ⟨rfl, rfl⟩⟩) (fun hf => by rw [up_at, up_at]; exact wfQ_go (h f hf) (hs hf) j)
theorem wfS_gn {M : Nat → Prop} (h : wfS ft kd st tn mn it cx cy) (hs : ∀ q, q < ft → M q → (st q).toInt = 1) (j : Int32) : wfS ft kd (gnA M ft 2 st) tn mn (gnA M ft j it) cx cy := by
  intro q hq
  by_cases m : M q
  · rw [show gnA M ft 2 st q = 2 by unfold gnA; rw [if_pos ⟨hq, m⟩], show gnA M ft j it q = j by unfold gnA; rw [if_pos ⟨hq, m⟩]]
    exact wfQ_go (h q hq) (hs q hq m) j
  · rw [show gnA M ft 2 st q = st q by unfold gnA; rw [if_neg (fun g => m g.2)], show gnA M ft j it q = it q by unfold gnA; rw [if_neg (fun g => m g.2)]]
    exact h q hq
/-- its corners move, or go -/
theorem wfS_row {n : Nat} {m : Int32} (h : wfS ft kd st tn mn it cx cy) (hl : lvF ft st tn f) (ho : ∀ p, p ≠ f → mn1 p = mn p) (hx : ∀ j, (j < 40 * f ∨ 40 * f + 40 ≤ j) → cx1 j = cx j ∧ cy1 j = cy j) (hm : mn1 f = nI n) (hn : n ≤ 40) (hp : pls n (cF40 cx1 f) (cF40 cy1 f)) (hs : mSm (kd f).toInt n (cF40 cx1 f) (cF40 cy1 f)) : wfS ft kd st tn mn1 it cx1 cy1 := by
  refine wfS_1 (f := f) h (fun p _ e => ⟨rfl, rfl, rfl, ho p e, rfl, fun k hk => hx (40 * p + k) (by omega)⟩) (fun hf => ?_)
  obtain ⟨h1, h2, h3, h4⟩ := h f hf
  refine ⟨h1, h2, fun ht => ?_, h4⟩
  rw [hm, nN_nI (by omega)]
  exact ⟨⟨rfl, hn, fun g => by have := hs.1 g; omega, hp⟩, fun _ => hs⟩
/-- a new feature -/
theorem wfS_new {k1 : Int32} (h : wfS ft kd st tn mn it cx cy) (hk : 0 ≤ k1.toInt ∧ k1.toInt ≤ 6) : wfS (ft + 1) (upd kd ft k1) (upd st ft 0) (upd tn ft 0) (upd mn ft 0) (upd it ft (-1)) cx cy := by
  intro q hq
  by_cases e : q = ft
  · rw [e, up_at, up_at, up_at, up_at, up_at]
    have n0 : nN (0 : Int32) = 0 := by decide
    have e0 : (0 : Int32).toInt = 0 := by decide
    refine ⟨hk, by rw [e0]; omega, fun _ => ⟨⟨by rw [n0]; rfl, by omega, fun _ => by omega, fun k hk => by omega⟩, fun g => absurd e0 g⟩, fun _ => rfl⟩
  · rw [show upd kd ft k1 q = kd q from if_neg e, show upd st ft 0 q = st q from if_neg e, show upd tn ft 0 q = tn q from if_neg e, show upd mn ft 0 q = mn q from if_neg e, show upd it ft (-1) q = it q from if_neg e]
    exact h q (by omega)
theorem wfS_cor {px py : Int32} (h : wfS ft kd st tn mn it cx cy) (hf : f < ft) (hs : (st f).toInt = 0) (ht : (tn f).toInt = 0) (hn : nN (mn f) < (if (kd f).toInt = 0 then 1 else 40)) (hx : pl px) (hy : pl py) : wfS ft kd st tn (upd mn f (nI (nN (mn f) + 1))) it (upd cx (40 * f + nN (mn f)) px) (upd cy (40 * f + nN (mn f)) py) := by
  have hn40 : nN (mn f) < 40 := by split at hn <;> omega
  refine wfS_1 (f := f) h (fun p _ e => ⟨rfl, rfl, rfl, if_neg e, rfl, fun k hk => ⟨if_neg (by omega), if_neg (by omega)⟩⟩) (fun hf => ?_)
  obtain ⟨h1, h2, h3, h4⟩ := h f hf
  obtain ⟨⟨a1, a2, a3, a4⟩, a5⟩ := h3 ht
  rw [up_at]
  refine ⟨h1, h2, fun _ => ?_, h4⟩
  rw [nN_nI (by omega)]
  refine ⟨⟨rfl, by omega, fun g => by rw [if_pos g] at hn; omega, fun k hk => ?_⟩, fun g => absurd hs g⟩
  by_cases e : k = nN (mn f)
  · show pl (upd cx (40 * f + nN (mn f)) px (40 * f + k)) ∧ pl (upd cy (40 * f + nN (mn f)) py (40 * f + k))
    rw [e, up_at, up_at]; exact ⟨hx, hy⟩
  · show pl (upd cx (40 * f + nN (mn f)) px (40 * f + k)) ∧ pl (upd cy (40 * f + nN (mn f)) py (40 * f + k))
    rw [show upd cx (40 * f + nN (mn f)) px (40 * f + k) = cx (40 * f + k) from if_neg (by omega), show upd cy (40 * f + nN (mn f)) py (40 * f + k) = cy (40 * f + k) from if_neg (by omega)]
    exact a4 k (by omega)
theorem wfS_tear (h : wfS ft kd st tn mn it cx cy) : wfS ft kd st (upd tn f 1) (upd mn f 0) it cx cy :=
  wfS_1 (f := f) h (fun p _ e => ⟨rfl, rfl, if_neg e, if_neg e, rfl, fun k _ => ⟨rfl, rfl⟩⟩) (fun hf => by
    obtain ⟨h1, h2, h3, h4⟩ := h f hf
    rw [up_at, up_at]
    exact ⟨h1, h2, fun g => absurd g (by decide), h4⟩)
theorem wfS_done (h : wfS ft kd st tn mn it cx cy) (hs : mSm (kd f).toInt (nN (mn f)) (cF40 cx f) (cF40 cy f)) (hi : it f = -1) : wfS ft kd (upd st f 1) tn mn it cx cy :=
  wfS_1 (f := f) h (fun p _ e => ⟨rfl, if_neg e, rfl, rfl, rfl, fun k _ => ⟨rfl, rfl⟩⟩) (fun hf => by
    obtain ⟨h1, h2, h3, h4⟩ := h f hf
    rw [up_at]
    exact ⟨h1, by decide, fun ht => ⟨(h3 ht).1, fun _ => hs⟩, fun _ => hi⟩)
end
end
section
/-! the reference's kept sheets are the positions -/
section
variable {gh : Nat → Nat → Int32}
theorem shD_g {kd st gb it pa pb rk wd tw kd1 st1 gb1 it1 pa1 pb1 rk1 wd1 tw1 : Nat → Int32} {nn nm : Nat → Nat} {cx cy cx1 cy1 : Nat → Int32} {f j : Nat} (h0 : kd f = kd1 f) (h1 : st f = st1 f) (h2 : gb f = gb1 f) (h3 : it f = it1 f) (h4 : pa f = pa1 f) (h5 : pb f = pb1 f) (h6 : rk f = rk1 f) (h7 : wd f = wd1 f) (h8 : tw f = tw1 f) (hn : nn f = nm f) (hc : ∀ k, k < nn f → cx (40 * f + k) = cx1 (40 * f + k) ∧ cy (40 * f + k) = cy1 (40 * f + k)) (hj : j < 10 + 2 * nn f) :
    shD kd st gb it pa pb rk wd tw nn cx cy f j = shD kd1 st1 gb1 it1 pa1 pb1 rk1 wd1 tw1 nm cx1 cy1 f j := by
  rcases Nat.lt_or_ge j 10 with q | q
  · rcases (show j = 0 ∨ j = 1 ∨ j = 2 ∨ j = 3 ∨ j = 4 ∨ j = 5 ∨ j = 6 ∨ j = 7 ∨ j = 8 ∨ j = 9 by omega) with rfl | rfl | rfl | rfl | rfl | rfl | rfl | rfl | rfl | rfl
    · exact h0
    · exact h1
    · exact h2
    · exact h3
    · exact h4
    · exact h5
    · exact h6
    · exact h7
    · exact h8
    · show nI (nn f) = nI (nm f); rw [hn]
  · rcases Nat.mod_two_eq_zero_or_one j with q2 | q2
    · rw [shD_x (k := (j - 10) / 2) (by omega), shD_x (k := (j - 10) / 2) (by omega)]; exact (hc _ (by omega)).1
    · rw [shD_y (k := (j - 11) / 2) (by omega), shD_y (k := (j - 11) / 2) (by omega)]; exact (hc _ (by omega)).2
abbrev nnV (V : Nat → Nat → Nat → Int32) (tn : Nat → Int32) (t : Nat) : Nat → Nat := nnF (V t 1) tn (V t 4)
def blK (sh : Nat → Int32) (pa pb rk wd tw tn : Nat → Int32) (F : Nat) (Vt : Nat → Nat → Int32) (X Y : Nat → Int32) (w : Nat) : Prop :=
  sh w = nI F ∧ ∀ g, g < F → ∀ j, j < 10 + 2 * nnF (Vt 1) tn (Vt 4) g → sh (psN (nnF (Vt 1) tn (Vt 4)) w g + j) = shD (Vt 0) (Vt 1) (Vt 2) (Vt 3) pa pb rk wd tw (nnF (Vt 1) tn (Vt 4)) X Y g j
def kpB (sa sh : Nat → Int32) (pa pb rk wd tw tn : Nat → Int32) (bs T : Nat) (FT : Nat → Nat) (V : Nat → Nat → Nat → Int32) (VX VY : Nat → Nat → Int32) (W : Nat → Nat) : Prop :=
  W bs = 0 ∧ (∀ t, bs ≤ t → t ≤ T → sa (t - bs) = nI (W t)) ∧ (∀ t, bs ≤ t → t < T → W (t + 1) = psN (nnV V tn t) (W t) (FT t)) ∧ (bs < T → ∀ t, bs ≤ t → t ≤ T → blK sh pa pb rk wd tw tn (FT t) (V t) (VX t) (VY t) (W t))
section
variable {sa sh sh2 : Nat → Int32} {pa pb rk wd tw tn pa1 pb1 rk1 wd1 tw1 tn1 kd st gb it mn cx cy kd1 st1 gb1 it1 mn1 cx1 cy1 : Nat → Int32} {bs dn T ft ft1 : Nat} {FT : Nat → Nat} {V : Nat → Nat → Nat → Int32} {VX VY : Nat → Nat → Int32} {W : Nat → Nat}
theorem kpB_mono (h : kpB sa sh pa pb rk wd tw tn bs T FT V VX VY W) : ∀ k t, bs ≤ t → t + k ≤ T → W t ≤ W (t + k) := by
  intro k
  induction k with
  | zero => intro t _ _; exact Nat.le_refl _
  | succ k ih =>
    intro t t1 t2
    have h5 := ih t t1 (by omega)
    have h6 := h.2.2.1 (t + k) (by omega) (by omega)
    have h7 := psN_ge (nnV V tn (t + k)) (W (t + k)) (FT (t + k))
    rw [show t + (k + 1) = t + k + 1 by omega]
    omega
theorem kpB_le (h : kpB sa sh pa pb rk wd tw tn bs T FT V VX VY W) {t u : Nat} (h1 : bs ≤ t) (h2 : t ≤ u) (h3 : u ≤ T) : W t ≤ W u := by
  have := kpB_mono h (u - t) t h1 (by omega)
  rw [show t + (u - t) = u by omega] at this; exact this
/-- a block, seen by other arrays -/
theorem blK_cg {F w : Nat} {Vt Vu : Nat → Nat → Int32} {X Y X1 Y1 : Nat → Int32} (h : blK sh pa pb rk wd tw tn F Vt X Y w) (hs : ∀ j, w ≤ j → j < psN (nnF (Vt 1) tn (Vt 4)) w F → sh2 j = sh j) (hg : ∀ g, g < F → pa1 g = pa g ∧ pb1 g = pb g ∧ rk1 g = rk g ∧ wd1 g = wd g ∧ tw1 g = tw g ∧ tn1 g = tn g) (hv : ∀ g, g < F → Vu 0 g = Vt 0 g ∧ Vu 1 g = Vt 1 g ∧ Vu 2 g = Vt 2 g ∧ Vu 3 g = Vt 3 g ∧ nnF (Vu 1) tn1 (Vu 4) g = nnF (Vt 1) tn (Vt 4) g ∧ ∀ k, k < nnF (Vt 1) tn (Vt 4) g → X1 (40 * g + k) = X (40 * g + k) ∧ Y1 (40 * g + k) = Y (40 * g + k)) : blK sh2 pa1 pb1 rk1 wd1 tw1 tn1 F Vu X1 Y1 w := by
  have hps : ∀ g, g ≤ F → psN (nnF (Vu 1) tn1 (Vu 4)) w g = psN (nnF (Vt 1) tn (Vt 4)) w g := psN_cg (fun g hg2 => (hv g hg2).2.2.2.2.1)
  refine ⟨?_, fun g hg2 j hj => ?_⟩
  · rw [hs w (Nat.le_refl _) (by have := psN_ge (nnF (Vt 1) tn (Vt 4)) w F; omega)]; exact h.1
  · obtain ⟨a1, a2, a3, a4, a5, a6⟩ := hg g hg2
    obtain ⟨b1, b2, b3, b4, b5, b6⟩ := hv g hg2
    rw [b5] at hj
    have hm := psN_mono (nnF (Vt 1) tn (Vt 4)) w hg2
    have hw := psN_ge (nnF (Vt 1) tn (Vt 4)) w g
    rw [hps g (by omega), hs _ (by omega) (by omega), h.2 g hg2 j hj]
    exact shD_g b1.symm b2.symm b3.symm b4.symm a1.symm a2.symm a3.symm a4.symm a5.symm b5.symm (fun k hk => ⟨(b6 k hk).1.symm, (b6 k hk).2.symm⟩) hj
/-- a step is told -/
theorem kpB_step {P1 P2 : Nat} (h : kpB sa sh pa pb rk wd tw tn bs T FT V VX VY W) (hbd : bs ≤ dn) (hdT : dn ≤ T) (hD : HiD dn ft V VX VY kd st gb it tn mn cx cy) (hft : ft = FT dn) (hmo : ∀ t, bs ≤ t → t ≤ dn → FT t ≤ ft) (hP1 : P1 = psN (nnF st tn mn) (W dn) ft)
    (p0 : sh2 (W dn) = nI ft) (p1 : ∀ j, j < W dn → sh2 j = sh j) (p2 : ∀ g, g < ft → ∀ j, j < 10 + 2 * (nnF st tn mn) g → sh2 (psN (nnF st tn mn) (W dn) g + j) = (shD kd st gb it pa pb rk wd tw (nnF st tn mn) cx cy) g j)
    (p3 : sh2 P1 = nI ft1) (p4 : ∀ g, g < ft1 → ∀ j, j < 10 + 2 * (nnF st1 tn1 mn1) g → sh2 (psN (nnF st1 tn1 mn1) P1 g + j) = (shD kd1 st1 gb1 it1 pa1 pb1 rk1 wd1 tw1 (nnF st1 tn1 mn1) cx1 cy1) g j)
    (hs : ∀ g, g < ft → pa1 g = pa g ∧ pb1 g = pb g ∧ rk1 g = rk g ∧ wd1 g = wd g ∧ tw1 g = tw g ∧ tn1 g = tn g) :
    kpB (upd (upd sa (dn - bs + 1) (nI P1)) (dn + 1 - bs + 1) (nI P2)) sh2 pa1 pb1 rk1 wd1 tw1 tn1 bs (dn + 1) (upN FT (dn + 1) ft1) (upN V (dn + 1) (vC gh kd1 st1 gb1 it1 mn1)) (upN VX (dn + 1) cx1) (upN VY (dn + 1) cy1) (upN W (dn + 1) P1) := by
  have hnn : ∀ g, g < ft → nnV V tn dn g = nnF st tn mn g := fun g hg => by
    have d := hD g hg
    show nnF (V dn 1) tn (V dn 4) g = _
    unfold nnF
    rw [d.2.1]
    by_cases c : (tn g).toInt = 0 ∧ ¬ (st g).toInt = 0
    · rw [if_pos c, if_pos c]; exact (d.2.2.2.2 c.2 c.1).1
    · rw [if_neg c, if_neg c]
  have hP1' : P1 = psN (nnV V tn dn) (W dn) (FT dn) := by rw [hP1, ← hft]; exact (psN_cg hnn ft (Nat.le_refl _)).symm
  refine ⟨by rw [upN_o (by omega)]; exact h.1, fun t t1 t2 => ?_, fun t t1 t2 => ?_, fun _ t t1 t2 => ?_⟩
  · rw [upo9 (by omega)]
    by_cases e : t = dn + 1
    · rw [e, upN_at, show dn + 1 - bs = dn - bs + 1 by omega, up_at]
    · rw [upN_o e, upo9 (by omega)]; exact h.2.1 t t1 (by omega)
  · rw [show nnV (upN V (dn + 1) (vC gh kd1 st1 gb1 it1 mn1)) tn1 t = nnF (V t 1) tn1 (V t 4) by show nnF (upN V (dn + 1) _ t 1) tn1 (upN V (dn + 1) _ t 4) = _; rw [upN_o (show t ≠ dn + 1 by omega)], upN_o (f := W) (show t ≠ dn + 1 by omega), upN_o (f := FT) (show t ≠ dn + 1 by omega)]
    have hc : psN (nnF (V t 1) tn1 (V t 4)) (W t) (FT t) = psN (nnV V tn t) (W t) (FT t) := psN_cg (fun g hg => by
      have := hs g (by have := hmo t t1 (by omega); omega)
      show nnF (V t 1) tn1 (V t 4) g = nnF (V t 1) tn (V t 4) g
      unfold nnF; rw [this.2.2.2.2.2]) (FT t) (Nat.le_refl _)
    rw [hc]
    by_cases e : t = dn
    · rw [e, upN_at]; exact hP1'
    · rw [upN_o (by omega)]; exact h.2.2.1 t t1 (by omega)
  · by_cases e : t = dn + 1
    · rw [e, upN_at, upN_at, upN_at, upN_at, upN_at]
      exact ⟨p3, p4⟩
    · rw [upN_o e, upN_o e, upN_o e, upN_o e, upN_o e]
      by_cases e2 : t = dn
      · rw [e2]
        have b : blK sh2 pa pb rk wd tw tn ft (vC gh kd st gb it mn) cx cy (W dn) := ⟨p0, p2⟩
        rw [← hft]
        refine blK_cg b (fun j _ _ => rfl) (fun g hg => hs g hg) (fun g hg => ?_)
        have d := hD g hg
        have hn1 : nnF (V dn 1) tn1 (V dn 4) g = nnF st tn mn g := by
          rw [← hnn g hg]; show nnF (V dn 1) tn1 (V dn 4) g = nnF (V dn 1) tn (V dn 4) g
          unfold nnF; rw [(hs g hg).2.2.2.2.2]
        refine ⟨d.1, d.2.1, d.2.2.1, d.2.2.2.1, hn1, fun k hk => ?_⟩
        have hk : k < nnF st tn mn g := hk
        unfold nnF at hk
        by_cases c : (tn g).toInt = 0 ∧ ¬ (st g).toInt = 0
        · rw [if_pos c] at hk
          exact (d.2.2.2.2 c.2 c.1).2 k hk
        · rw [if_neg c] at hk; omega
      · have hb := h.2.2.2 (by omega) t t1 (by omega)
        have hw : psN (nnV V tn t) (W t) (FT t) ≤ W dn := by rw [← h.2.2.1 t t1 (by omega)]; exact kpB_le h (by omega) (by omega) hdT
        refine blK_cg hb (fun j _ hj => p1 j (by have : j < psN (nnV V tn t) (W t) (FT t) := hj; omega)) (fun g hg => hs g (by have := hmo t t1 (by omega); omega)) (fun g hg => ⟨rfl, rfl, rfl, rfl, ?_, fun k _ => ⟨rfl, rfl⟩⟩)
        have := hs g (by have := hmo t t1 (by omega); omega)
        unfold nnF; rw [this.2.2.2.2.2]
/-- what is no step forgets the positions -/
theorem kpB_0 (h0 : sa 0 = nI 0) : kpB sa sh pa pb rk wd tw tn dn dn FT V VX VY (fun _ => 0) :=
  ⟨rfl, fun t t1 t2 => by rw [show t - dn = 0 by omega]; exact h0, fun t t1 t2 => by omega, fun g => by omega⟩
end
end
end
section
/-! a position is taken up again: what the reference restores -/
/-- what the relation says of the positions alone -/
def poS (bs dn T ft : Nat) (FT : Nat → Nat) (V : Nat → Nat → Nat → Int32) (VX VY : Nat → Nat → Int32) (tn kd st gb it mn cx cy : Nat → Int32) : Prop :=
  (bs ≤ dn ∧ dn ≤ T ∧ T ≤ 512 ∧ ft = FT dn ∧ FT T ≤ 200) ∧ (∀ t u, bs ≤ t → t ≤ u → u ≤ T → FT t ≤ FT u) ∧ HiD dn ft V VX VY kd st gb it tn mn cx cy ∧
  (∀ t, bs ≤ t → t ≤ T → ∀ q, q < FT t → ((V t 1 q).toInt = 0 ∨ (q < FT dn ∧ (V dn 1 q).toInt = 0)) → q < FT bs ∧ V t 0 q = V dn 0 q ∧ V t 1 q = V dn 1 q ∧ V t 2 q = V dn 2 q ∧ V t 3 q = V dn 3 q)
section
variable {cI cO : ClassId} {L : List Nat} {f : Nat → va_E} {e0 ea : Nat} {FA : Nat → Option Nat} {bs dn T ft : Nat} {FT : Nat → Nat} {V : Nat → Nat → Nat → Int32} {VX VY : Nat → Nat → Int32} {tn rk wd tw pa pb wh of9 we kd st gb it mn cx cy : Nat → Int32} {sa sh : Nat → Int32} {W : Nat → Nat}
theorem shB_po (h : shB cI cO L f e0 FA ea bs dn T ft FT V VX VY tn rk wd tw pa pb wh of9 we kd st gb it mn cx cy) : poS bs dn T ft FT V VX VY tn kd st gb it mn cx cy := by
  obtain ⟨own, fe, cl, la, sp, SA, ⟨h1, h2, h3, h4, h5, ⟨m1, m2, m3, m4, m5, m6⟩, h7⟩, h8, h9⟩ := h
  exact ⟨⟨m1, m2, m3, h9.1, m6⟩, fun t u a b c => StA_le h4 a b c, h8, fun t t1 t2 q hq g => ((h3 t t1 t2 q hq).2 g).2⟩
def wfV (FT : Nat → Nat) (V : Nat → Nat → Nat → Int32) (VX VY : Nat → Nat → Int32) (tn : Nat → Int32) (t : Nat) : Prop := ∀ q, q < FT t → ¬ (V t 1 q).toInt = 0 → wfQ (V t 0 q) (V t 1 q) (tn q) (V t 4 q) (V t 3 q) (cF40 (VX t) q) (cF40 (VY t) q)
theorem wfQ_cg2 {kd st tn mn it : Int32} {X Y X1 Y1 : Nat → Int32} (hc : tn.toInt = 0 → ∀ k, k < nN mn → X1 k = X k ∧ Y1 k = Y k) (h : wfQ kd st tn mn it X Y) : wfQ kd st tn mn it X1 Y1 := by
  obtain ⟨h1, h2, h3, h4⟩ := h
  refine ⟨h1, h2, fun t => ?_, h4⟩
  obtain ⟨⟨a1, a2, a3, a4⟩, a5⟩ := h3 t
  have hc2 : ∀ k, k < nN mn → X k = X1 k ∧ Y k = Y1 k := fun k hk => ⟨(hc t k hk).1.symm, (hc t k hk).2.symm⟩
  exact ⟨⟨a1, a2, a3, (pls_cg hc2).mp a4⟩, fun s => mSm_cg hc2 (a5 s)⟩
/-- what lies kept at a position -/
def DV (V : Nat → Nat → Nat → Int32) (VX VY : Nat → Nat → Int32) (pa pb rk wd tw tn : Nat → Int32) (t : Nat) : Nat → Nat → Int32 := shD (V t 0) (V t 1) (V t 2) (V t 3) pa pb rk wd tw (nnV V tn t) (VX t) (VY t)
theorem rsA_id (q : Nat) (k : Nat → Int32) : rsA q (fun g => k g) k = k := by
  funext g; unfold rsA; split <;> rfl
theorem nnV_40 {t : Nat} (h : wfV FT V VX VY tn t) {q : Nat} (hq : q < FT t) : nnV V tn t q ≤ 40 := by
  show nnF (V t 1) tn (V t 4) q ≤ 40
  unfold nnF
  by_cases c : (tn q).toInt = 0 ∧ ¬ (V t 1 q).toInt = 0
  · rw [if_pos c]; exact ((h q hq c.2).2.2.1 c.1).1.2.1
  · rw [if_neg c]; omega
/-- the arrays behind a restore, feature by feature -/
theorem rs_HC {t : Nat} (hV : wfV FT V VX VY tn t) : ∀ q, q < FT t → rsA (FT t) (fun g => DV V VX VY pa pb rk wd tw tn t g 0) kd q = V t 0 q ∧ rsA (FT t) (fun g => DV V VX VY pa pb rk wd tw tn t g 1) st q = V t 1 q ∧ rsA (FT t) (fun g => DV V VX VY pa pb rk wd tw tn t g 2) gb q = V t 2 q ∧ rsA (FT t) (fun g => DV V VX VY pa pb rk wd tw tn t g 3) it q = V t 3 q ∧
    ((¬ (V t 1 q).toInt = 0 ∧ (tn q).toInt = 0) → nN (rsM (FT t) (DV V VX VY pa pb rk wd tw tn t) (nnV V tn t) tn mn q) = nN (V t 4 q) ∧ ∀ k, k < nN (V t 4 q) → cF40 (rsC (FT t) 0 (DV V VX VY pa pb rk wd tw tn t) (nnV V tn t) 10 cx) q k = cF40 (VX t) q k ∧ cF40 (rsC (FT t) 0 (DV V VX VY pa pb rk wd tw tn t) (nnV V tn t) 11 cy) q k = cF40 (VY t) q k) ∧
    ((V t 1 q).toInt = 0 → rsM (FT t) (DV V VX VY pa pb rk wd tw tn t) (nnV V tn t) tn mn q = mn q ∧ ∀ k, k < 40 → cF40 (rsC (FT t) 0 (DV V VX VY pa pb rk wd tw tn t) (nnV V tn t) 10 cx) q k = cF40 cx q k ∧ cF40 (rsC (FT t) 0 (DV V VX VY pa pb rk wd tw tn t) (nnV V tn t) 11 cy) q k = cF40 cy q k) := by
  intro q hq
  have r : ∀ (d k : Nat → Int32), rsA (FT t) d k q = d q := fun d k => by unfold rsA; rw [if_pos hq]
  refine ⟨(r _ _).trans rfl, (r _ _).trans rfl, (r _ _).trans rfl, (r _ _).trans rfl, fun hs => ?_, fun hs => ?_⟩
  · have hn : nnV V tn t q = nN (V t 4 q) := by show nnF (V t 1) tn (V t 4) q = _; unfold nnF; rw [if_pos ⟨hs.2, hs.1⟩]
    have h40 := nnV_40 hV hq
    refine ⟨?_, fun k hk => ?_⟩
    · unfold rsM
      rw [if_pos ⟨hq, hs.1, hs.2⟩, nN_nI (by omega), hn]
    · have e1 : (40 * q + k) / 40 = q := by omega
      have e2 : (40 * q + k) % 40 = k := by omega
      have c : ∀ o (D : Nat → Nat → Int32) (z : Nat → Int32), rsC (FT t) 0 D (nnV V tn t) o z (40 * q + k) = D q (o + 2 * k) := fun o D z => by
        unfold rsC
        rw [e1, e2, if_pos (Or.inl ⟨hq, by omega⟩)]
      exact ⟨(c 10 _ cx).trans (shD_x rfl), (c 11 _ cy).trans (shD_y rfl)⟩
  · have hn : nnV V tn t q = 0 := by show nnF (V t 1) tn (V t 4) q = _; unfold nnF; rw [if_neg (fun g => g.2 hs)]
    refine ⟨?_, fun k hk => ?_⟩
    · unfold rsM
      exact if_neg (fun g => g.2.1 hs)
    · have e1 : (40 * q + k) / 40 = q := by omega
      have e2 : (40 * q + k) % 40 = k := by omega
      have c : ∀ o (D : Nat → Nat → Int32) (z : Nat → Int32), rsC (FT t) 0 D (nnV V tn t) o z (40 * q + k) = z (40 * q + k) := fun o D z => by
        unfold rsC
        rw [e1, e2, if_neg (fun g => by omega)]
      exact ⟨c 10 _ cx, c 11 _ cy⟩
/-- the state at a position is sound -/
theorem rs_wf {t : Nat} {kd1 st1 gb1 it1 mn1 cx1 cy1 : Nat → Int32} (hp : poS bs dn T ft FT V VX VY tn kd st gb it mn cx cy) (h1 : bs ≤ t) (h2 : t ≤ T) (hw : wfS ft kd st tn mn it cx cy) (hV : wfV FT V VX VY tn t) (hm : ∀ q, q < FT t → (¬ (V t 1 q).toInt = 0 ∧ (tn q).toInt = 0) → mn1 q = nI (nN (mn1 q)))
    (hc : ∀ q, q < FT t → kd1 q = V t 0 q ∧ st1 q = V t 1 q ∧ gb1 q = V t 2 q ∧ it1 q = V t 3 q ∧ ((¬ (V t 1 q).toInt = 0 ∧ (tn q).toInt = 0) → nN (mn1 q) = nN (V t 4 q) ∧ ∀ k, k < nN (V t 4 q) → cF40 cx1 q k = cF40 (VX t) q k ∧ cF40 cy1 q k = cF40 (VY t) q k) ∧ ((V t 1 q).toInt = 0 → mn1 q = mn q ∧ ∀ k, k < 40 → cF40 cx1 q k = cF40 cx q k ∧ cF40 cy1 q k = cF40 cy q k)) : wfS (FT t) kd1 st1 tn mn1 it1 cx1 cy1 := by
  intro q hq
  obtain ⟨c1, c2, c3, c4, c5, c6⟩ := hc q hq
  obtain ⟨⟨p1, p2, p3, p4, p5⟩, p6, p7, p8⟩ := hp
  rw [c1, c2, c4]
  by_cases o : (V t 1 q).toInt = 0
  · have e := p8 t h1 h2 q hq (Or.inl o)
    have hqf : q < ft := by rw [p4]; exact Nat.lt_of_lt_of_le e.1 (p6 bs dn (Nat.le_refl _) p1 p2)
    have d := p7 q hqf
    rw [e.2.1, e.2.2.1, e.2.2.2.2, d.1, d.2.1, d.2.2.2.1, (c6 o).1]
    exact wfQ_cg (c6 o).2 (hw q hqf)
  · have v := hV q hq o
    by_cases t0 : (tn q).toInt = 0
    · have c := c5 ⟨o, t0⟩
      have em : mn1 q = V t 4 q := by rw [hm q hq ⟨o, t0⟩, c.1]; exact ((v.2.2.1 t0).1.1).symm
      rw [em]
      exact wfQ_cg2 (fun _ k hk => c.2 k hk) v
    · exact ⟨v.1, v.2.1, fun g => absurd g t0, v.2.2.2⟩
end
end
section
/-! the house that a JOIN makes is a house -/
theorem cr_b1 (a b c d : Int) : cr a c b c b d = (b - a) * (d - c) := by unfold cr; grind
theorem cr_b2 (a b c d : Int) : cr b c b d a d = (b - a) * (d - c) := by unfold cr; grind
theorem cr_b3 (a b c d : Int) : cr b d a d a c = (b - a) * (d - c) := by unfold cr; grind
theorem cr_b4 (a b c d : Int) : cr a d a c b c = (b - a) * (d - c) := by unfold cr; grind
theorem dt_b1 (a b c d : Int) : dt a d a c b c = 0 := by unfold dt; grind
theorem dt_b2 (a b c d : Int) : dt a c b c b d = 0 := by unfold dt; grind
theorem dt_b3 (a b c d : Int) : dt b c b d a d = 0 := by unfold dt; grind
theorem dt_b4 (a b c d : Int) : dt b d a d a c = 0 := by unfold dt; grind
theorem bx_sm {P Q : Nat → Int32} {a b c d : Int32} (hp : P 0 = a ∧ P 1 = b ∧ P 2 = b ∧ P 3 = a) (hq : Q 0 = c ∧ Q 1 = c ∧ Q 2 = d ∧ Q 3 = d) (h1 : a.toInt < b.toInt) (h2 : c.toInt < d.toInt) : mSm 6 4 P Q := by
  have e : eO 6 4 = 4 := rfl
  have n0 : nxt 4 0 = 1 := rfl
  have n1 : nxt 4 1 = 2 := rfl
  have n2 : nxt 4 2 = 3 := rfl
  have n3 : nxt 4 3 = 0 := rfl
  have v0 : prv 4 0 = 3 := rfl
  have v1 : prv 4 1 = 0 := rfl
  have v2 : prv 4 2 = 1 := rfl
  have v3 : prv 4 3 = 2 := rfl
  obtain ⟨p0, p1, p2, p3⟩ := hp
  obtain ⟨q0, q1, q2, q3⟩ := hq
  have m : 0 < (b.toInt - a.toInt) * (d.toInt - c.toInt) := Int.mul_pos (by omega) (by omega)
  refine ⟨fun g => absurd g (by decide), fun _ => ⟨by decide, fun i hi => ?_, fun i k hik hk => ?_, Or.inr fun k hk => ?_⟩⟩
  · rw [e] at hi
    rcases (show i = 0 ∨ i = 1 ∨ i = 2 ∨ i = 3 by omega) with rfl | rfl | rfl | rfl
    · rw [n0, p0, p1]; omega
    · rw [n1, q1, q2]; omega
    · rw [n2, p2, p3]; omega
    · rw [n3, q3, q0]; omega
  · rw [e] at hk
    unfold mCn mFl fld
    rcases (show (i = 0 ∧ k = 1) ∨ (i = 1 ∧ k = 2) ∨ (i = 2 ∧ k = 3) ∨ (i = 0 ∧ k = 3) ∨ (i = 0 ∧ k = 2) ∨ (i = 1 ∧ k = 3) by omega) with ⟨rfl, rfl⟩ | ⟨rfl, rfl⟩ | ⟨rfl, rfl⟩ | ⟨rfl, rfl⟩ | ⟨rfl, rfl⟩ | ⟨rfl, rfl⟩
    · refine ⟨fun _ h => ?_, fun h => absurd rfl h, fun h => absurd rfl h⟩
      have h := h.1
      rw [n0, n1, p0, q0, p1, q1, p2, q2, cr_b1] at h; omega
    · refine ⟨fun _ h => ?_, fun h => absurd rfl h, fun h => absurd rfl h⟩
      have h := h.1
      rw [n1, n2, p1, q1, p2, q2, p3, q3, cr_b2] at h; omega
    · refine ⟨fun _ h => ?_, fun h => absurd rfl h, fun h => absurd rfl h⟩
      have h := h.1
      rw [n2, n3, p2, q2, p3, q3, p0, q0, cr_b3] at h; omega
    · refine ⟨fun g => absurd g (by decide), fun _ _ h => ?_, fun _ g => absurd ⟨by decide, rfl, by rw [e]⟩ g⟩
      have h := h.1
      rw [n3, n0, p3, q3, p0, q0, p1, q1, cr_b4] at h; omega
    · refine ⟨fun g => absurd g (by decide), fun _ g => absurd g.2.2 (by rw [e]; decide), fun _ _ h => ?_⟩
      unfold eMt mtC at h
      have h := h.2.1
      rw [n0, n2, q0, q1, q2, q3] at h; omega
    · refine ⟨fun g => absurd g (by decide), fun _ g => absurd g.2.1 (by decide), fun _ _ h => ?_⟩
      unfold eMt mtC at h
      have h := h.1
      rw [n1, n3, p1, p2, p3, p0] at h; omega
  · unfold eRt
    rcases (show k = 0 ∨ k = 1 ∨ k = 2 ∨ k = 3 by omega) with rfl | rfl | rfl | rfl
    · rw [v0, n0, p3, q3, p0, q0, p1, q1]; exact dt_b1 _ _ _ _
    · rw [v1, n1, p0, q0, p1, q1, p2, q2]; exact dt_b2 _ _ _ _
    · rw [v2, n2, p1, q1, p2, q2, p3, q3]; exact dt_b3 _ _ _ _
    · rw [v3, n3, p2, q2, p3, q3, p0, q0]; exact dt_b4 _ _ _ _
theorem ne_two {X : Nat → Int32} {n i j : Nat} (hi : i < n) (hj : j < n) (h : ¬ (X i).toInt = (X j).toInt) : ∃ i j, i < n ∧ j < n ∧ (X i).toInt < (X j).toInt := by
  rcases Int.lt_or_le (X i).toInt (X j).toInt with g | g
  · exact ⟨i, j, hi, hj, g⟩
  · exact ⟨j, i, hj, hi, by omega⟩
/-- a house is as wide as it is high: both ways more than nothing -/
theorem ho_nd {n : Nat} {X Y : Nat → Int32} (h : mSm 6 n X Y) : (∃ i j, i < n ∧ j < n ∧ (X i).toInt < (X j).toInt) ∧ ∃ i j, i < n ∧ j < n ∧ (Y i).toInt < (Y j).toInt := by
  obtain ⟨h1, h2, h3, h4⟩ := h.2 (by decide)
  have hn : 3 ≤ n := h1
  have e : eO 6 n = n := rfl
  have n0 : nxt n 0 = 1 := by unfold nxt; rw [if_pos (by omega)]
  have v0 : prv n 0 = n - 1 := rfl
  have nl : nxt n (n - 1) = 0 := by unfold nxt; rw [if_neg (by omega)]
  have a := h2 0 (by rw [e]; omega)
  have b := h2 (n - 1) (by rw [e]; omega)
  have r := (h4.resolve_left (fun g => g rfl)) 0 (by omega)
  unfold eRt dt at r
  rw [n0] at a
  rw [nl] at b
  rw [n0, v0] at r
  have z : ∀ u v : Int, ¬ u = 0 → ¬ v = 0 → ¬ u * v = 0 := fun u v hu hv g => (Int.mul_eq_zero.mp g).elim hu hv
  constructor
  · by_cases c1 : (X (n - 1)).toInt = (X 0).toInt
    · by_cases c2 : (X 1).toInt = (X 0).toInt
      · exfalso
        have d1 : ¬ ((Y (n - 1)).toInt - (Y 0).toInt) = 0 := by omega
        have d2 : ¬ ((Y 1).toInt - (Y 0).toInt) = 0 := by omega
        have d3 := z _ _ d1 d2
        rw [c1, c2, Int.sub_self, Int.zero_mul, Int.zero_add] at r
        exact d3 r
      · exact ne_two (i := 1) (j := 0) (by omega) (by omega) c2
    · exact ne_two (i := n - 1) (j := 0) (by omega) (by omega) c1
  · by_cases c1 : (Y (n - 1)).toInt = (Y 0).toInt
    · by_cases c2 : (Y 1).toInt = (Y 0).toInt
      · exfalso
        have d1 : ¬ ((X (n - 1)).toInt - (X 0).toInt) = 0 := by omega
        have d2 : ¬ ((X 1).toInt - (X 0).toInt) = 0 := by omega
        have d3 := z _ _ d1 d2
        rw [c1, c2, Int.sub_self, Int.zero_mul, Int.add_zero] at r
        exact d3 r
      · exact ne_two (i := 1) (j := 0) (by omega) (by omega) c2
    · exact ne_two (i := n - 1) (j := 0) (by omega) (by omega) c1
theorem jlo_lt {cx cy : Nat → Int32} {f n g m : Nat} (hf : pls n (cF40 cx f) (cF40 cy f)) (hg : pls m (cF40 cx g) (cF40 cy g)) (hs : mSm 6 n (cF40 cx f) (cF40 cy f)) : (jlo cx f n g m).toInt < (jhi cx f n g m).toInt ∧ (jlo cy f n g m).toInt < (jhi cy f n g m).toInt := by
  obtain ⟨⟨i, j, hi, hj, hl⟩, k, l, hk, hl2, hm⟩ := ho_nd hs
  have hp := mSm_pos hs
  have h0 := hf 0 (by omega)
  unfold pl at h0
  have a := mnP h0.1 hf n (Nat.le_refl _)
  have b := mnP h0.2 hf n (Nat.le_refl _)
  have c1 := (mnP a.1 hg m (Nat.le_refl _)).1
  have c2 := (mnP a.2.2.1 hg m (Nat.le_refl _)).2.2.1
  have c3 := (mnP b.2.1 hg m (Nat.le_refl _)).2.1
  have c4 := (mnP b.2.2.2 hg m (Nat.le_refl _)).2.2.2
  have u : ∀ (X U : Nat → Int32) (z : Int) (i j : Nat), i < n → j < n → (X i).toInt < (X j).toInt → mnI (mnI z X n) U m < mxI (mxI z X n) U m := fun X U z i j hi hj h => by
    have e1 := (mn_mx (z := mnI z X n) (X := U) m).1
    have e2 := (mn_mx (z := mxI z X n) (X := U) m).2
    have e3 := mnI_le (z := z) (X := X) hi
    have e4 := le_mxI (z := z) (X := X) hj
    omega
  unfold jlo jhi
  rw [iI_toInt (by omega), iI_toInt (by omega), iI_toInt (by omega), iI_toInt (by omega)]
  exact ⟨u _ _ _ i j hi hj hl, u _ _ _ k l hk hl2 hm⟩
end
section
/-! how much there can be: features, corners, kept sheets -/
def smN (c : Nat → Nat) : Nat → Nat
  | 0 => 0
  | n + 1 => smN c n + c n
theorem smN_le (c : Nat → Nat) {a b : Nat} (h : a ≤ b) : smN c a ≤ smN c b := by
  induction b with
  | zero => rw [show a = 0 by omega]; exact Nat.le_refl _
  | succ b ih =>
    rcases Nat.lt_or_ge a (b + 1) with g | g
    · have := ih (by omega); show _ ≤ smN c b + c b; omega
    · rw [show a = b + 1 by omega]; exact Nat.le_refl _
theorem smN_up (c : Nat → Nat) {f : Nat} : ∀ n, smN (upN c f (c f + 1)) n ≤ smN c n + 1 ∧ (n ≤ f → smN (upN c f (c f + 1)) n = smN c n) := by
  intro n
  induction n with
  | zero => exact ⟨Nat.zero_le _, fun _ => rfl⟩
  | succ n ih =>
    obtain ⟨h1, h2⟩ := ih
    show smN (upN c f (c f + 1)) n + upN c f (c f + 1) n ≤ smN c n + c n + 1 ∧ (n + 1 ≤ f → smN (upN c f (c f + 1)) n + upN c f (c f + 1) n = smN c n + c n)
    by_cases e : n = f
    · rw [h2 (by omega), e, upN_at]; exact ⟨by omega, fun g => by omega⟩
    · rw [upN_o e]; exact ⟨by omega, fun g => by rw [h2 (by omega)]⟩
/-- THERE, and all, against what was begun and done; corners against what was told -/
def bdC (cc : Nat → Nat) (AD F : Nat) (k s m tn : Nat → Int32) : Prop := cntP (fun q => (s q).toInt = 1) F + F ≤ AD ∧ ∀ q, q < F → (tn q).toInt = 0 → nN (m q) ≤ 4 + cc q ∧ ((k q).toInt ≤ 5 → nN (m q) ≤ cc q)
section
variable {cc cc1 : Nat → Nat} {AD AD1 C F ft f : Nat} {k s m tn kd kd1 st st1 mn mn1 tn1 : Nat → Int32}
theorem bdC_F (h : bdC cc AD F k s m tn) : F ≤ AD := by have := h.1; omega
theorem bdC_ps (h : bdC cc AD F k s m tn) {w : Nat} : ∀ g, g ≤ F → psN (nnF s tn m) w g ≤ w + 1 + 18 * g + 2 * smN cc g := by
  intro g
  induction g with
  | zero => intro _; show w + 1 ≤ _; omega
  | succ g ih =>
    intro hg
    have h1 := ih (by omega)
    have h2 : nnF s tn m g ≤ 4 + cc g := by
      unfold nnF
      by_cases c : (tn g).toInt = 0 ∧ ¬ (s g).toInt = 0
      · rw [if_pos c]; exact (h.2 g (by omega) c.1).1
      · rw [if_neg c]; omega
    show psN (nnF s tn m) w g + (10 + 2 * nnF s tn m g) ≤ w + 1 + 18 * (g + 1) + 2 * (smN cc g + cc g)
    omega
theorem bdC_p2 (h : bdC cc AD F k s m tn) (h200 : F ≤ 200) (hC : smN cc 200 ≤ C) {w : Nat} : psN (nnF s tn m) w F ≤ w + (1 + 18 * AD + 2 * C) := by
  have h1 := bdC_ps h (w := w) F (Nat.le_refl _)
  have h2 := smN_le cc h200
  have h3 := bdC_F h
  omega
theorem bdC_mono (h : bdC cc AD F k s m tn) (hA : AD ≤ AD1) (hc : ∀ q, cc q ≤ cc1 q) : bdC cc1 AD1 F k s m tn := ⟨Nat.le_trans h.1 hA, fun q hq ht => ⟨Nat.le_trans (h.2 q hq ht).1 (by have := hc q; omega), fun g => Nat.le_trans ((h.2 q hq ht).2 g) (hc q)⟩⟩
theorem bdC_cg (h : bdC cc AD F kd st mn tn) (hs : ∀ q, q < F → (st1 q).toInt = 1 → (st q).toInt = 1) (hm : ∀ q, q < F → (tn1 q).toInt = 0 → ((tn q).toInt = 0 ∧ kd1 q = kd q ∧ nN (mn1 q) ≤ nN (mn q)) ∨ ((kd1 q).toInt = 6 ∧ nN (mn1 q) ≤ 4)) : bdC cc AD F kd1 st1 mn1 tn1 := by
  refine ⟨Nat.le_trans (Nat.add_le_add_right ?_ _) h.1, fun q hq ht => ?_⟩
  · have e : cntP (fun q => (st1 q).toInt = 1) F = cntP (fun q => q < F ∧ (st1 q).toInt = 1) F := cntP_cg (fun q hq => ⟨fun g => ⟨hq, g⟩, fun g => g.2⟩)
    rw [e]
    exact cntP_le (fun q g => hs q g.1 g.2) F
  · rcases hm q hq ht with ⟨g1, g2, g3⟩ | ⟨g1, g2⟩
    · rw [g2]; exact ⟨Nat.le_trans g3 (h.2 q hq g1).1, fun g => Nat.le_trans g3 ((h.2 q hq g1).2 g)⟩
    · exact ⟨by omega, fun g => by omega⟩
theorem cnt_o {a : Int32} (hf : F ≤ f) : cntP (fun q => (upd st f a q).toInt = 1) F = cntP (fun q => (st q).toInt = 1) F := cntP_cg (fun q hq => by rw [upo9 (show q ≠ f by omega)])
theorem cnt_1 {a : Int32} (hf : f < F) (h0 : ¬ (st f).toInt = 1) (ha : a.toInt = 1) : cntP (fun q => (upd st f a q).toInt = 1) F = cntP (fun q => (st q).toInt = 1) F + 1 := by
  rw [← cntP_ins (P := fun q => (st q).toInt = 1) hf h0]
  refine cntP_cg (fun q _ => ?_)
  by_cases e : q = f
  · rw [e, up_at]; exact ⟨fun _ => Or.inr rfl, fun _ => ha⟩
  · rw [upo9 e]; exact ⟨Or.inl, fun g => g.resolve_right e⟩
theorem cnt_0 {a : Int32} (hf : f < F) (h0 : (st f).toInt = 1) (ha : ¬ a.toInt = 1) : cntP (fun q => (upd st f a q).toInt = 1) F + 1 = cntP (fun q => (st q).toInt = 1) F := by
  rw [← cntP_ins (P := fun q => (upd st f a q).toInt = 1) hf (by rw [up_at]; exact ha)]
  refine cntP_cg (fun q _ => ?_)
  by_cases e : q = f
  · rw [e]; exact ⟨fun _ => h0, fun _ => Or.inr rfl⟩
  · rw [upo9 e]; exact ⟨fun g => g.resolve_right e, Or.inl⟩
theorem bdC_new {k1 : Int32} (h : bdC cc AD ft kd st mn tn) : bdC cc (AD + 1) (ft + 1) (upd kd ft k1) (upd st ft 0) (upd mn ft 0) (upd tn ft 0) := by
  refine ⟨?_, fun q hq ht => ?_⟩
  · rw [cntP_n (by rw [up_at]; decide), cnt_o (Nat.le_refl _)]
    have := h.1; omega
  · by_cases e : q = ft
    · rw [e, up_at, up_at]; have : nN (0 : Int32) = 0 := by decide
      omega
    · rw [upo9 e] at ht
      rw [upo9 e, upo9 e]; exact h.2 q (by omega) ht
theorem bdC_done (h : bdC cc AD ft kd st mn tn) (hf : f < ft) (hs : (st f).toInt = 0) : bdC cc (AD + 1) ft kd (upd st f 1) mn tn :=
  ⟨by rw [cnt_1 hf (by omega) (by decide)]; have := h.1; omega, h.2⟩
theorem bdC_cor (h : bdC cc AD ft kd st mn tn) (hn : nN (mn f) < 40) : bdC (upN cc f (cc f + 1)) AD ft kd st (upd mn f (nI (nN (mn f) + 1))) tn := by
  refine ⟨h.1, fun q hq ht => ?_⟩
  by_cases e : q = f
  · rw [e] at hq ht ⊢
    rw [up_at, upN_at, nN_nI (by omega)]; have := h.2 f hq ht; exact ⟨by omega, fun g => by have := this.2 g; omega⟩
  · rw [upo9 e, upN_o e]; exact h.2 q hq ht
theorem bdC_join {g : Nat} (h : bdC cc AD ft kd st mn tn) (hf : f < ft) (hg : g < ft) (hgf : g ≠ f) (hs : (st f).toInt = 1) (hs2 : (st g).toInt = 1) : bdC cc AD (ft + 1) (upd kd ft 6) (upd (upd (upd st f 2) g 2) ft 1) (upd mn ft 4) (upd tn ft 0) := by
  refine ⟨?_, fun q hq ht => ?_⟩
  · have c1 := cnt_0 (st := st) (a := 2) hf hs (by decide)
    have c2 := cnt_0 (st := upd st f 2) (a := 2) hg (by rw [upo9 hgf]; exact hs2) (by decide)
    rw [cntP_y (by rw [up_at]; decide), cnt_o (Nat.le_refl _)]
    have := h.1; omega
  · by_cases e : q = ft
    · rw [e, up_at, up_at]; have : nN (4 : Int32) = 4 := by decide
      exact ⟨by omega, fun g => absurd g (by decide)⟩
    · rw [upo9 e] at ht
      rw [upo9 e, upo9 e]; exact h.2 q (by omega) ht
end
end
section
/-! all that holds between two calls, but for the cells -/
section
variable {gh : Nat → Nat → Int32}
def capC (Sn AD C : Nat) : Nat := (Sn + 1) * (1 + 18 * AD + 2 * C)
def INV (K Sn AD C : Nat) (cc W : Nat → Nat) (bs T ft cp ln cl : Nat) (FT : Nat → Nat) (V : Nat → Nat → Nat → Int32) (VX VY : Nat → Nat → Int32) (tn rk wd tw pa pb kd st it mn cx cy sa sh lb lc : Nat → Int32) : Prop :=
  (wfS ft kd st tn mn it cx cy ∧ (∀ q, q < FT T → (0 ≤ (rk q).toInt ∧ (rk q).toInt ≤ 9) ∧ (0 ≤ (wd q).toInt ∧ (wd q).toInt ≤ 100)) ∧ bdC cc AD ft kd st mn tn ∧ ∀ q, q < 200 → ¬ (tn q).toInt = 0 → mn q = 0) ∧
  (∀ t, bs ≤ t → t ≤ T → wfV FT V VX VY tn t ∧ bdC cc AD (FT t) (V t 0) (V t 1) (V t 4) tn) ∧
  (kpB sa sh pa pb rk wd tw tn bs T FT V VX VY W ∧ 1 ≤ cp ∧ pw 1 cp ∧ W T ≤ 4096 * cp ∧ (bs < T → psN (nnV V tn T) (W T) (FT T) ≤ 4096 * cp) ∧ (cp = 1 ∨ 2048 * cp ≤ capC Sn AD C)) ∧
  (smN cc 200 ≤ C ∧ AD + C + Sn ≤ K ∧ T ≤ Sn) ∧
  (ln ≤ 64 * cl ∧ 1 ≤ cl ∧ ln ≤ Sn * C ∧ (cl = 1 ∨ 32 * cl ≤ Sn * C) ∧ ∀ j, j < ln → pl (lb j) ∧ pl (lc j))
theorem capC_le {Sn Sn1 AD AD1 C C1 : Nat} (h1 : Sn ≤ Sn1) (h2 : AD ≤ AD1) (h3 : C ≤ C1) : capC Sn AD C ≤ capC Sn1 AD1 C1 := Nat.mul_le_mul (by omega) (by omega)
/-- a product of two numbers whose sum is at most 514 -/
theorem sq_257 (a : Int) : (257 - a) * (257 - a) = 66049 - a * (514 - a) := by grind
theorem mul_514 {a b : Nat} (h : a + b ≤ 514) : a * b ≤ 66049 := by
  have hb : b ≤ 514 - a := by omega
  have h1 : a * b ≤ a * (514 - a) := Nat.mul_le_mul (Nat.le_refl _) hb
  have hz : (0 : Int) ≤ (257 - (a : Int)) * (257 - (a : Int)) := gg_0
  rw [sq_257] at hz
  have e3 : ((514 - a : Nat) : Int) = 514 - (a : Int) := by omega
  have e2 : ((a * (514 - a) : Nat) : Int) = (a : Int) * (514 - (a : Int)) := by rw [Int.natCast_mul, e3]
  omega
theorem capC_b {Sn AD C : Nat} (h : AD + C + Sn ≤ 512) : capC Sn AD C ≤ 1200000 := by
  have h1 : capC Sn AD C ≤ (Sn + 1) * (1 + 18 * (AD + C)) := Nat.mul_le_mul (Nat.le_refl _) (by omega)
  have h2 := mul_514 (a := Sn + 1) (b := AD + C) (by omega)
  have h3 : (Sn + 1) * (1 + 18 * (AD + C)) = (Sn + 1) + 18 * ((Sn + 1) * (AD + C)) := by rw [Nat.mul_add, Nat.mul_one, Nat.mul_left_comm]
  omega
theorem pw_512 {c : Nat} (h : pw 1 c) (hc : c < 1024) : c ≤ 512 := by
  obtain ⟨k, rfl⟩ := h
  rw [Nat.one_mul] at hc ⊢
  rcases Nat.lt_or_ge k 10 with g | g
  · have : 2 ^ k ≤ 2 ^ 9 := Nat.pow_le_pow_right (by omega) (by omega)
    omega
  · have : 2 ^ 10 ≤ 2 ^ k := Nat.pow_le_pow_right (by omega) g
    omega
section
variable {K Sn AD C : Nat} {cc W : Nat → Nat} {bs dn T ft cp ln cl : Nat} {FT : Nat → Nat} {V : Nat → Nat → Nat → Int32} {VX VY : Nat → Nat → Int32} {tn rk wd tw pa pb kd st gb it mn cx cy sa sh lb lc sh2 tn1 rk1 wd1 tw1 pa1 pb1 kd1 st1 gb1 it1 mn1 cx1 cy1 lb1 lc1 : Nat → Int32}
theorem bdC_tn {F : Nat} {k s m : Nat → Int32} (h : bdC cc AD F k s m tn) (ht : ∀ q, q < F → tn1 q = tn q) : bdC cc AD F k s m tn1 := ⟨h.1, fun q hq g => h.2 q hq (by rw [← ht q hq]; exact g)⟩
theorem wfV_tn {t : Nat} (h : wfV FT V VX VY tn t) (ht : ∀ q, q < FT t → tn1 q = tn q) : wfV FT V VX VY tn1 t := fun q hq o => by rw [ht q hq]; exact h q hq o
theorem INV_K (h : INV K Sn AD C cc W bs T ft cp ln cl FT V VX VY tn rk wd tw pa pb kd st it mn cx cy sa sh lb lc) : INV (K + 1) Sn AD C cc W bs T ft cp ln cl FT V VX VY tn rk wd tw pa pb kd st it mn cx cy sa sh lb lc :=
  ⟨h.1, h.2.1, h.2.2.1, ⟨h.2.2.2.1.1, by have := h.2.2.2.1.2.1; omega, h.2.2.2.1.2.2⟩, h.2.2.2.2⟩
theorem INV_cp (h : INV K Sn AD C cc W bs T ft cp ln cl FT V VX VY tn rk wd tw pa pb kd st it mn cx cy sa sh lb lc) (hK : K ≤ 512) : cp ≤ 512 := by
  obtain ⟨_, _, ⟨_, _, h3, _, _, h6⟩, ⟨_, h8, _⟩, _⟩ := h
  have := capC_b (Sn := Sn) (AD := AD) (C := C) (by omega)
  exact pw_512 h3 (by omega)
/-- where a position lies -/
theorem INV_W (h : INV K Sn AD C cc W bs T ft cp ln cl FT V VX VY tn rk wd tw pa pb kd st it mn cx cy sa sh lb lc) (h200 : ∀ t, bs ≤ t → t ≤ T → FT t ≤ 200) : ∀ k, bs + k ≤ T → W (bs + k) ≤ k * (1 + 18 * AD + 2 * C) := by
  intro k
  induction k with
  | zero => intro _; rw [show bs + 0 = bs from rfl, h.2.2.1.1.1]; omega
  | succ k ih =>
    intro hk
    have h1 := ih (by omega)
    have h2 := h.2.2.1.1.2.2.1 (bs + k) (by omega) (by omega)
    have h3 := bdC_p2 (h.2.1 (bs + k) (by omega) (by omega)).2 (h200 _ (by omega) (by omega)) h.2.2.2.1.1 (w := W (bs + k))
    have h4 : W (bs + (k + 1)) = psN (nnV V tn (bs + k)) (W (bs + k)) (FT (bs + k)) := h2
    rw [Nat.succ_mul]
    show W (bs + (k + 1)) ≤ _
    rw [h4]
    exact Nat.le_trans h3 (by omega)
/-- room for two sheets more -/
theorem INV_fit {F1 F2 : Nat} {k1 s1 m1 t1 k2 s2 m2 t2 : Nat → Int32} (h : INV K Sn AD C cc W bs T ft cp ln cl FT V VX VY tn rk wd tw pa pb kd st it mn cx cy sa sh lb lc) (hK : K + 1 ≤ 512) (hb : bs ≤ dn) (hd : dn ≤ T) (h200 : ∀ t, bs ≤ t → t ≤ T → FT t ≤ 200) (b1 : bdC cc AD F1 k1 s1 m1 t1) (f1 : F1 ≤ 200) (b2 : bdC cc AD F2 k2 s2 m2 t2) (f2 : F2 ≤ 200) :
    ∃ c1 c2, pw cp c1 ∧ W dn ≤ 4096 * cp ∧ psN (nnF s1 t1 m1) (W dn) F1 ≤ 4096 * c1 ∧ (c1 = cp ∨ 2048 * c1 < psN (nnF s1 t1 m1) (W dn) F1) ∧ c1 ≤ 512 ∧ pw c1 c2 ∧ psN (nnF s2 t2 m2) (psN (nnF s1 t1 m1) (W dn) F1) F2 ≤ 4096 * c2 ∧ (c2 = c1 ∨ 2048 * c2 < psN (nnF s2 t2 m2) (psN (nnF s1 t1 m1) (W dn) F1) F2) ∧ c2 ≤ 512 ∧ pw 1 c2 ∧ (c2 = 1 ∨ 2048 * c2 ≤ capC (Sn + 1) AD C) := by
  have hcp := INV_cp h (by omega)
  have hW := INV_W h h200 (dn - bs) (by omega)
  rw [show bs + (dn - bs) = dn by omega] at hW
  have hWT := kpB_le h.2.2.1.1 hb hd (Nat.le_refl _)
  obtain ⟨_, _, ⟨h1, h2, h3, h4, h5, h6⟩, ⟨h7, h8, h9⟩, _⟩ := h
  have q1 := bdC_p2 b1 f1 h7 (w := W dn)
  have q2 := bdC_p2 b2 f2 h7 (w := psN (nnF s1 t1 m1) (W dn) F1)
  generalize psN (nnF s1 t1 m1) (W dn) F1 = P1 at q1 q2 ⊢
  generalize psN (nnF s2 t2 m2) P1 F2 = P2 at q2 ⊢
  have hm : (dn - bs) * (1 + 18 * AD + 2 * C) + 2 * (1 + 18 * AD + 2 * C) ≤ capC (Sn + 1) AD C := by
    unfold capC
    rw [← Nat.add_mul]
    exact Nat.mul_le_mul (by omega) (Nat.le_refl _)
  have hB := capC_b (Sn := Sn + 1) (AD := AD) (C := C) (by omega)
  have hmo := capC_le (Sn := Sn) (Sn1 := Sn + 1) (AD := AD) (AD1 := AD) (C := C) (C1 := C) (by omega) (Nat.le_refl _) (Nat.le_refl _)
  obtain ⟨c1, e1, e2, e3⟩ := pw_ex P1 P1 cp h2 (by omega)
  have l1 := pw_le e1
  have p1 : pw 1 c1 := pw_tr h3 e1
  have c1b : c1 ≤ 512 := pw_512 p1 (by omega)
  obtain ⟨c2, g1, g2, g3⟩ := pw_ex P2 P2 c1 (by omega) (by omega)
  have p2 : pw 1 c2 := pw_tr p1 g1
  have c2b : c2 ≤ 512 := pw_512 p2 (by omega)
  exact ⟨c1, c2, e1, by omega, e2, e3, c1b, g1, g2, g3, c2b, p2, by omega⟩
end
section
variable {K Sn AD C : Nat} {cc W : Nat → Nat} {bs dn T ft ft1 cp ln cl c2 ln1 cl1 P1 P2 : Nat} {FT : Nat → Nat} {V : Nat → Nat → Nat → Int32} {VX VY : Nat → Nat → Int32} {tn rk wd tw pa pb kd st gb it mn cx cy sa sh lb lc sh2 tn1 rk1 wd1 tw1 pa1 pb1 kd1 st1 gb1 it1 mn1 cx1 cy1 lb1 lc1 : Nat → Int32}
/-- a step -/
theorem INV_step (h : INV K Sn AD C cc W bs T ft cp ln cl FT V VX VY tn rk wd tw pa pb kd st it mn cx cy sa sh lb lc) (hp : poS bs dn T ft FT V VX VY tn kd st gb it mn cx cy) (hP1 : P1 = psN (nnF st tn mn) (W dn) ft) (hP2 : P2 = psN (nnF st1 tn1 mn1) P1 ft1)
    (p0 : sh2 (W dn) = nI ft) (p1 : ∀ j, j < W dn → sh2 j = sh j) (p2 : ∀ g, g < ft → ∀ j, j < 10 + 2 * (nnF st tn mn) g → sh2 (psN (nnF st tn mn) (W dn) g + j) = (shD kd st gb it pa pb rk wd tw (nnF st tn mn) cx cy) g j)
    (p3 : sh2 P1 = nI ft1) (p4 : ∀ g, g < ft1 → ∀ j, j < 10 + 2 * (nnF st1 tn1 mn1) g → sh2 (psN (nnF st1 tn1 mn1) P1 g + j) = (shD kd1 st1 gb1 it1 pa1 pb1 rk1 wd1 tw1 (nnF st1 tn1 mn1) cx1 cy1) g j)
    (hs : ∀ g, g < ft → pa1 g = pa g ∧ pb1 g = pb g ∧ rk1 g = rk g ∧ wd1 g = wd g ∧ tw1 g = tw g ∧ tn1 g = tn g) (hw : wfS ft1 kd1 st1 tn1 mn1 it1 cx1 cy1) (hr : ∀ q, q < ft1 → (0 ≤ (rk1 q).toInt ∧ (rk1 q).toInt ≤ 9) ∧ (0 ≤ (wd1 q).toInt ∧ (wd1 q).toInt ≤ 100)) (hb : bdC cc AD ft1 kd1 st1 mn1 tn1) (ht0 : ∀ q, q < 200 → ¬ (tn1 q).toInt = 0 → mn1 q = 0)
    (hc1 : 1 ≤ c2) (hc2 : pw 1 c2) (hc3 : P2 ≤ 4096 * c2) (hc4 : c2 = 1 ∨ 2048 * c2 ≤ capC (Sn + 1) AD C) (hl : ln1 ≤ 64 * cl1 ∧ 1 ≤ cl1 ∧ ln1 ≤ (Sn + 1) * C ∧ (cl1 = 1 ∨ 32 * cl1 ≤ (Sn + 1) * C) ∧ ∀ j, j < ln1 → pl (lb1 j) ∧ pl (lc1 j)) :
    INV (K + 1) (Sn + 1) AD C cc (upN W (dn + 1) P1) bs (dn + 1) ft1 c2 ln1 cl1 (upN FT (dn + 1) ft1) (upN V (dn + 1) (vC gh kd1 st1 gb1 it1 mn1)) (upN VX (dn + 1) cx1) (upN VY (dn + 1) cy1) tn1 rk1 wd1 tw1 pa1 pb1 kd1 st1 it1 mn1 cx1 cy1 (upd (upd sa (dn - bs + 1) (nI P1)) (dn + 1 - bs + 1) (nI P2)) sh2 lb1 lc1 := by
  obtain ⟨⟨a1, a2, a3⟩, b1, ⟨k1, k2, k3, k4, k5, k6⟩, ⟨n1, n2, n3⟩, l1⟩ := h
  obtain ⟨⟨q1, q2, q3, q4, q5⟩, q6, q7, q8⟩ := hp
  have hmo : ∀ t, bs ≤ t → t ≤ dn → FT t ≤ ft := fun t t1 t2 => by rw [q4]; exact q6 t dn t1 t2 q2
  have hk := kpB_step (gh := gh) (P2 := P2) k1 q1 q2 q7 q4 hmo hP1 p0 p1 p2 p3 p4 hs
  have hPw := psN_ge (nnF st1 tn1 mn1) P1 ft1
  refine ⟨⟨hw, fun q hq => hr q (by rw [upN_at] at hq; exact hq), hb, ht0⟩, fun t t1 t2 => ?_, ⟨hk, hc1, hc2, by rw [upN_at]; omega, fun _ => ?_, hc4⟩, ⟨n1, by omega, by omega⟩, hl⟩
  · by_cases e : t = dn + 1
    · rw [e]
      refine ⟨fun q hq o => ?_, ?_⟩
      · rw [upN_at] at hq
        rw [upN_at, upN_at, upN_at]; exact hw q hq
      · rw [upN_at, upN_at]; exact hb
    · have ht := hmo t t1 (by omega)
      have tt : ∀ q, q < FT t → tn1 q = tn q := fun q hq => (hs q (by omega)).2.2.2.2.2
      obtain ⟨v, d⟩ := b1 t t1 (by omega)
      refine ⟨fun q hq o => ?_, ?_⟩
      · rw [upN_o e] at hq o
        rw [upN_o e, upN_o e, upN_o e]; exact wfV_tn v tt q hq o
      · rw [upN_o e, upN_o e]; exact bdC_tn d tt
  · rw [show nnV (upN V (dn + 1) (vC gh kd1 st1 gb1 it1 mn1)) tn1 (dn + 1) = nnF st1 tn1 mn1 by show nnF (upN V (dn + 1) _ (dn + 1) 1) tn1 (upN V (dn + 1) _ (dn + 1) 4) = _; rw [upN_at]; rfl, upN_at, upN_at, ← hP2]
    exact hc3
/-- what is no step -/
theorem INV_seal (h : INV K Sn AD C cc W bs T ft cp ln cl FT V VX VY tn rk wd tw pa pb kd st it mn cx cy sa sh lb lc) {AD1 : Nat} {sa1 : Nat → Int32} (hd : dn ≤ T) (h0 : sa1 0 = nI 0) (hA : AD ≤ AD1 ∧ AD1 ≤ AD + 1) (hw : wfS ft1 kd1 st1 tn1 mn1 it1 cx1 cy1) (hr : ∀ q, q < ft1 → (0 ≤ (rk1 q).toInt ∧ (rk1 q).toInt ≤ 9) ∧ (0 ≤ (wd1 q).toInt ∧ (wd1 q).toInt ≤ 100)) (hb : bdC cc AD1 ft1 kd1 st1 mn1 tn1) (ht0 : ∀ q, q < 200 → ¬ (tn1 q).toInt = 0 → mn1 q = 0) :
    INV (K + 1) Sn AD1 C cc (fun _ => 0) dn dn ft1 cp ln cl (fun _ => ft1) (fun _ => vC gh kd1 st1 gb1 it1 mn1) (fun _ => cx1) (fun _ => cy1) tn1 rk1 wd1 tw1 pa1 pb1 kd1 st1 it1 mn1 cx1 cy1 sa1 sh lb lc := by
  obtain ⟨⟨a1, a2, a3⟩, b1, ⟨k1, k2, k3, k4, k5, k6⟩, ⟨n1, n2, n3⟩, l1⟩ := h
  have hm := capC_le (Sn := Sn) (Sn1 := Sn) (AD := AD) (AD1 := AD1) (C := C) (C1 := C) (Nat.le_refl _) hA.1 (Nat.le_refl _)
  exact ⟨⟨hw, hr, hb, ht0⟩, fun t t1 t2 => ⟨fun q hq _ => hw q hq, hb⟩, ⟨kpB_0 h0, k2, k3, Nat.zero_le _, fun g => absurd g (Nat.lt_irrefl _), by omega⟩, ⟨n1, by omega, by omega⟩, l1⟩
/-- a corner more -/
theorem INV_cor {f : Nat} {px py : Int32} (h : INV K Sn AD C cc W bs T ft cp ln cl FT V VX VY tn rk wd tw pa pb kd st it mn cx cy sa sh lb lc) (hf : f < ft) (hs : (st f).toInt = 0) (ht : (tn f).toInt = 0) (hn : nN (mn f) < (if (kd f).toInt = 0 then 1 else 40)) (hx : pl px) (hy : pl py) :
    INV (K + 1) Sn AD (C + 1) (upN cc f (cc f + 1)) W bs T ft cp ln cl FT V VX VY tn rk wd tw pa pb kd st it (upd mn f (nI (nN (mn f) + 1))) (upd cx (40 * f + nN (mn f)) px) (upd cy (40 * f + nN (mn f)) py) sa sh lb lc := by
  obtain ⟨⟨a1, a2, a3⟩, b1, ⟨k1, k2, k3, k4, k5, k6⟩, ⟨n1, n2, n3⟩, l1, l2, l3, l4, l5⟩ := h
  have hm := capC_le (Sn := Sn) (Sn1 := Sn) (AD := AD) (AD1 := AD) (C := C) (C1 := C + 1) (Nat.le_refl _) (Nat.le_refl _) (by omega)
  have hcc : ∀ q, cc q ≤ upN cc f (cc f + 1) q := fun q => by
    by_cases e : q = f
    · rw [e, upN_at]; omega
    · rw [upN_o e]; exact Nat.le_refl _
  have hn40 : nN (mn f) < 40 := by split at hn <;> omega
  have hl : Sn * C ≤ Sn * (C + 1) := Nat.mul_le_mul (Nat.le_refl _) (by omega)
  have hsm := (smN_up cc (f := f) 200).1
  exact ⟨⟨wfS_cor a1 hf hs ht hn hx hy, a2, bdC_cor a3.1 hn40, fun q hq g => by rw [upo9 (fun e => g (by rw [e]; exact ht))]; exact a3.2 q hq g⟩, fun t t1 t2 => ⟨(b1 t t1 t2).1, bdC_mono (b1 t t1 t2).2 (Nat.le_refl _) hcc⟩, ⟨k1, k2, k3, k4, k5, by omega⟩, ⟨by omega, by omega, n3⟩, l1, l2, by omega, by omega, l5⟩
/-- a position is taken up -/
theorem INV_pos {t : Nat} (h : INV K Sn AD C cc W bs T ft cp ln cl FT V VX VY tn rk wd tw pa pb kd st it mn cx cy sa sh lb lc) (hp : poS bs dn T ft FT V VX VY tn kd st gb it mn cx cy) (h1 : bs ≤ t) (h2 : t ≤ T) (hm : ∀ q, q < FT t → (¬ (V t 1 q).toInt = 0 ∧ (tn q).toInt = 0) → mn1 q = nI (nN (mn1 q))) (ht0 : ∀ q, ¬ (tn q).toInt = 0 → mn1 q = mn q)
    (hc : ∀ q, q < FT t → kd1 q = V t 0 q ∧ st1 q = V t 1 q ∧ gb1 q = V t 2 q ∧ it1 q = V t 3 q ∧ ((¬ (V t 1 q).toInt = 0 ∧ (tn q).toInt = 0) → nN (mn1 q) = nN (V t 4 q) ∧ ∀ k, k < nN (V t 4 q) → cF40 cx1 q k = cF40 (VX t) q k ∧ cF40 cy1 q k = cF40 (VY t) q k) ∧ ((V t 1 q).toInt = 0 → mn1 q = mn q ∧ ∀ k, k < 40 → cF40 cx1 q k = cF40 cx q k ∧ cF40 cy1 q k = cF40 cy q k)) :
    INV (K + 1) Sn AD C cc W bs T (FT t) cp ln cl FT V VX VY tn rk wd tw pa pb kd1 st1 it1 mn1 cx1 cy1 sa sh lb lc := by
  obtain ⟨⟨a1, a2, a3⟩, b1, k1, ⟨n1, n2, n3⟩, l1⟩ := h
  have hw := rs_wf hp h1 h2 a1 (b1 t h1 h2).1 hm hc
  refine ⟨⟨hw, a2, ?_, fun q hq g => by rw [ht0 q g]; exact a3.2 q hq g⟩, b1, k1, ⟨n1, by omega, n3⟩, l1⟩
  have d := (b1 t h1 h2).2
  obtain ⟨⟨p1, p2, p3, p4, p5⟩, p6, p7, p8⟩ := hp
  refine ⟨?_, fun q hq t0 => ?_⟩
  · have e : cntP (fun q => (st1 q).toInt = 1) (FT t) = cntP (fun q => (V t 1 q).toInt = 1) (FT t) := cntP_cg (fun q hq => by rw [(hc q hq).2.1])
    rw [e]; exact d.1
  · obtain ⟨c1, c2, c3, c4, c5, c6⟩ := hc q hq
    by_cases o : (V t 1 q).toInt = 0
    · have e := p8 t h1 h2 q hq (Or.inl o)
      have hqf : q < ft := by rw [p4]; exact Nat.lt_of_lt_of_le e.1 (p6 bs dn (Nat.le_refl _) p1 p2)
      rw [(c6 o).1, c1, e.2.1, (p7 q hqf).1]; exact a3.1.2 q hqf t0
    · rw [(c5 ⟨o, t0⟩).1, c1]; exact d.2 q hq t0
end
theorem ub_s {U Sn AD C s : Nat} (h : U ≤ Sn * (28 * (AD + C) + 1000) + 200 * (AD + C)) (hs : s ≤ 28 * (AD + C) + 1000) : U + s ≤ (Sn + 1) * (28 * (AD + C) + 1000) + 200 * (AD + C) := by
  rw [Nat.succ_mul]; omega
theorem ub_f {U Sn AD C AD1 C1 s : Nat} (h : U ≤ Sn * (28 * (AD + C) + 1000) + 200 * (AD + C)) (h1 : AD + C + 1 ≤ AD1 + C1) (hs : s ≤ 200) : U + s ≤ Sn * (28 * (AD1 + C1) + 1000) + 200 * (AD1 + C1) := by
  have h2 : Sn * (28 * (AD + C) + 1000) ≤ Sn * (28 * (AD1 + C1) + 1000) := Nat.mul_le_mul (Nat.le_refl _) (by omega)
  omega
end
end
section
/-! PLAINER and RUN keep a state sound, and how many corners they take -/
theorem smN_1 {c c1 : Nat → Nat} {g m : Nat} (hg : c1 g + m = c g) (ho : ∀ q, q ≠ g → c1 q = c q) : ∀ n, (g < n → smN c1 n + m = smN c n) ∧ (n ≤ g → smN c1 n = smN c n) := by
  intro n
  induction n with
  | zero => exact ⟨fun h => absurd h (Nat.not_lt_zero _), fun _ => rfl⟩
  | succ n ih =>
    show (g < n + 1 → smN c1 n + c1 n + m = smN c n + c n) ∧ (n + 1 ≤ g → smN c1 n + c1 n = smN c n + c n)
    refine ⟨fun h => ?_, fun h => ?_⟩
    · by_cases e : n = g
      · have h1 := ih.2 (by omega)
        rw [e] at h1 ⊢; omega
      · have h1 := ih.1 (by omega)
        rw [ho n e]; omega
    · rw [ih.2 (by omega), ho n (by omega)]
theorem smN_mono {c d : Nat → Nat} : ∀ n, (∀ q, q < n → c q ≤ d q) → smN c n ≤ smN d n := by
  intro n
  induction n with
  | zero => intro _; exact Nat.le_refl _
  | succ n ih =>
    intro h
    have h1 := ih (fun q hq => h q (by omega))
    have h2 := h n (by omega)
    show smN c n + c n ≤ smN d n + d n
    omega
noncomputable def rnC (ft : Nat) (st tn kd mn : Nat → Int32) (q : Nat) : Nat := @ite Nat (lvF ft st tn q ∧ ¬ (kd q).toInt = 0 ∧ ¬ (kd q).toInt = 6) (Classical.propDecidable _) (nN (mn q)) 0
section
variable {ft f L m n1 : Nat} {kd st tn mn it cx cy mn1 cx1 cy1 : Nat → Int32}
theorem pl_wf (h : wfS ft kd st tn mn it cx cy) (hl : lvF ft st tn f) (h0 : ¬ (kd f).toInt = 0) (h6 : ¬ (kd f).toInt = 6) (hp : plN ft st tn kd f L m mn cx cy (nN (mn f)) mn1 cx1 cy1 n1) : wfS ft kd st tn mn1 it cx1 cy1 ∧ (∀ q, q ≠ f → mn1 q = mn q) ∧ nN (mn1 f) + m = nN (mn f) := by
  have hk := (h f hl.1).1
  have hok := wfS_ok h
  have ho := okA_s hok hl (by omega) hp
  have he := plN_end _ _ _ _ _ _ _ _ _ (allI_p (okA_al hok) hl) hp
  have hn : nN (mn1 f) = n1 := by rw [he.1.1, nN_nI (by have := he.1.2.1; omega)]
  have hs := (ho f hl).2
  rw [hn] at hs
  exact ⟨wfS_row (m := 0) h hl he.2.2.1 he.2.2.2.1 he.1.1 he.1.2.1.2 he.1.2.2.1 hs, he.2.2.1, by rw [hn]; exact he.2.1⟩
theorem rn1_w {g : Nat} (h : wfS ft kd st tn mn it cx cy) (hr : rn1 ft st tn kd L g mn cx cy m mn1 cx1 cy1) : wfS ft kd st tn mn1 it cx1 cy1 ∧ smN (rnC ft st tn kd mn1) ft + m = smN (rnC ft st tn kd mn) ft ∧ ∀ q, nN (mn1 q) ≤ nN (mn q) ∧ (¬ lvF ft st tn q → mn1 q = mn q) := by
  by_cases b : lvF ft st tn g ∧ ¬ (kd g).toInt = 0 ∧ ¬ (kd g).toInt = 6
  · obtain ⟨n1, hp⟩ := hr.1 b
    obtain ⟨w1, w2, w3⟩ := pl_wf h b.1 b.2.1 b.2.2 hp
    refine ⟨w1, (smN_1 (g := g) ?_ (fun q hq => ?_) ft).1 b.1.1, fun q => ?_⟩
    · unfold rnC; rw [if_pos b, if_pos b]; exact w3
    · unfold rnC; rw [w2 q hq]
    · by_cases e : q = g
      · rw [e]; exact ⟨by omega, fun g => absurd b.1 g⟩
      · exact ⟨by rw [w2 q e]; exact Nat.le_refl _, fun _ => w2 q e⟩
  · obtain ⟨rfl, rfl, rfl, rfl⟩ := hr.2 b
    exact ⟨h, rfl, fun q => ⟨Nat.le_refl _, fun _ => rfl⟩⟩
end
section
variable {ft L : Nat} {kd st tn it : Nat → Int32}
theorem rnP_w : ∀ (j : Nat) (mn cx cy : Nat → Int32) (t : Nat) (mn1 cx1 cy1 : Nat → Int32), wfS ft kd st tn mn it cx cy → rnP ft st tn kd L j mn cx cy t mn1 cx1 cy1 → wfS ft kd st tn mn1 it cx1 cy1 ∧ smN (rnC ft st tn kd mn1) ft + t = smN (rnC ft st tn kd mn) ft ∧ ∀ q, nN (mn1 q) ≤ nN (mn q) ∧ (¬ lvF ft st tn q → mn1 q = mn q) := by
  intro j
  induction j with
  | zero =>
    intro mn cx cy t mn1 cx1 cy1 h hr
    obtain ⟨rfl, rfl, rfl, rfl⟩ := hr
    exact ⟨h, rfl, fun q => ⟨Nat.le_refl _, fun _ => rfl⟩⟩
  | succ j ih =>
    intro mn cx cy t mn1 cx1 cy1 h hr
    obtain ⟨m, mn2, cx2, cy2, t2, h1, h2, h3⟩ := hr
    obtain ⟨a1, a2, a3⟩ := rn1_w h h1
    obtain ⟨b1, b2, b3⟩ := ih _ _ _ _ _ _ _ a1 h2
    exact ⟨b1, by omega, fun q => ⟨Nat.le_trans (b3 q).1 (a3 q).1, fun g => ((b3 q).2 g).trans ((a3 q).2 g)⟩⟩
theorem rnA_w : ∀ (p : Nat) (mn cx cy : Nat → Int32) (t : Nat) (mn1 cx1 cy1 : Nat → Int32), wfS ft kd st tn mn it cx cy → rnA ft st tn kd L p mn cx cy t mn1 cx1 cy1 → wfS ft kd st tn mn1 it cx1 cy1 ∧ smN (rnC ft st tn kd mn1) ft + t = smN (rnC ft st tn kd mn) ft ∧ ∀ q, nN (mn1 q) ≤ nN (mn q) ∧ (¬ lvF ft st tn q → mn1 q = mn q) := by
  intro p
  induction p with
  | zero => intro mn cx cy t mn1 cx1 cy1 _ hr; exact absurd hr (fun g => g)
  | succ p ih =>
    intro mn cx cy t mn1 cx1 cy1 h hr
    obtain ⟨t2, mn2, cx2, cy2, h1, h2⟩ := hr
    obtain ⟨a1, a2, a3⟩ := rnP_w _ _ _ _ _ _ _ _ h h1
    rcases h2 with ⟨e1, e2, rfl, rfl, rfl⟩ | ⟨_, t3, h3, h4⟩
    · exact ⟨a1, by omega, a3⟩
    · obtain ⟨b1, b2, b3⟩ := ih _ _ _ _ _ _ _ a1 h3
      exact ⟨b1, by omega, fun q => ⟨Nat.le_trans (b3 q).1 (a3 q).1, fun g => ((b3 q).2 g).trans ((a3 q).2 g)⟩⟩
theorem rnC_le {cc : Nat → Nat} {AD : Nat} {mn : Nat → Int32} (h : bdC cc AD ft kd st mn tn) (hk : ∀ q, q < ft → (kd q).toInt ≤ 6) : smN (rnC ft st tn kd mn) ft ≤ smN cc ft := smN_mono ft (fun q hq => by
  unfold rnC
  by_cases b : lvF ft st tn q ∧ ¬ (kd q).toInt = 0 ∧ ¬ (kd q).toInt = 6
  · rw [if_pos b]; exact (h.2 q hq b.1.2.2).2 (by have := hk q hq; omega)
  · rw [if_neg b]; omega)
end
end
section
/-! a sheet is kept, and nothing came of it -/
section
variable {gh : Nat → Nat → Int32}
section
variable {K Sn AD C : Nat} {cc W : Nat → Nat} {bs dn T ft cp ln cl c1 P1 : Nat} {FT : Nat → Nat} {V : Nat → Nat → Nat → Int32} {VX VY : Nat → Nat → Int32} {tn rk wd tw pa pb kd st gb it mn cx cy sa sh lb lc sh1 lb1 lc1 : Nat → Int32}
theorem nnV_dn (hD : HiD dn ft V VX VY kd st gb it tn mn cx cy) : ∀ g, g < ft → nnV V tn dn g = nnF st tn mn g := fun g hg => by
  have d := hD g hg
  show nnF (V dn 1) tn (V dn 4) g = _
  unfold nnF
  rw [d.2.1]
  by_cases c : (tn g).toInt = 0 ∧ ¬ (st g).toInt = 0
  · rw [if_pos c, if_pos c]; exact (d.2.2.2.2 c.2 c.1).1
  · rw [if_neg c, if_neg c]
theorem INV_fit1 (h : INV K Sn AD C cc W bs T ft cp ln cl FT V VX VY tn rk wd tw pa pb kd st it mn cx cy sa sh lb lc) (hK : K + 1 ≤ 512) (hp : poS bs dn T ft FT V VX VY tn kd st gb it mn cx cy) :
    ∃ c1, pw cp c1 ∧ W dn ≤ 4096 * cp ∧ psN (nnF st tn mn) (W dn) ft ≤ 4096 * c1 ∧ (c1 = cp ∨ 2048 * c1 < psN (nnF st tn mn) (W dn) ft) ∧ c1 ≤ 512 ∧ pw 1 c1 ∧ (c1 = 1 ∨ 2048 * c1 ≤ capC Sn AD C) := by
  obtain ⟨⟨q1, q2, q3, q4, q5⟩, q6, q7, q8⟩ := hp
  have h200 : ∀ t, bs ≤ t → t ≤ T → FT t ≤ 200 := fun t t1 t2 => Nat.le_trans (q6 t T t1 t2 (Nat.le_refl _)) q5
  have hcp := INV_cp h (by omega)
  have hW := INV_W h h200 (dn - bs) (by omega)
  rw [show bs + (dn - bs) = dn by omega] at hW
  have hWT := kpB_le h.2.2.1.1 q1 q2 (Nat.le_refl _)
  have hf := h200 dn q1 q2
  obtain ⟨⟨_, _, a3, _⟩, _, ⟨h1, h2, h3, h4, h5, h6⟩, ⟨h7, h8, h9⟩, _⟩ := h
  have e1 := bdC_p2 a3 (by omega) h7 (w := W dn)
  generalize psN (nnF st tn mn) (W dn) ft = P1 at e1 ⊢
  have hm : (dn - bs) * (1 + 18 * AD + 2 * C) + (1 + 18 * AD + 2 * C) ≤ capC Sn AD C := by
    unfold capC
    rw [← Nat.succ_mul]
    exact Nat.mul_le_mul (by omega) (Nat.le_refl _)
  have hB := capC_b (Sn := Sn) (AD := AD) (C := C) (by omega)
  obtain ⟨c1, g1, g2, g3⟩ := pw_ex P1 P1 cp h2 (by omega)
  have p1 : pw 1 c1 := pw_tr h3 g1
  have c1b : c1 ≤ 512 := pw_512 p1 (by omega)
  exact ⟨c1, g1, by omega, g2, g3, c1b, p1, by omega⟩
theorem INV_keep (h : INV K Sn AD C cc W bs T ft cp ln cl FT V VX VY tn rk wd tw pa pb kd st it mn cx cy sa sh lb lc) (hp : poS bs dn T ft FT V VX VY tn kd st gb it mn cx cy) (hP1 : P1 = psN (nnF st tn mn) (W dn) ft)
    (p0 : sh1 (W dn) = nI ft) (p1 : ∀ j, j < W dn → sh1 j = sh j) (p2 : ∀ g, g < ft → ∀ j, j < 10 + 2 * nnF st tn mn g → sh1 (psN (nnF st tn mn) (W dn) g + j) = (shD kd st gb it pa pb rk wd tw (nnF st tn mn) cx cy) g j) (po : ∀ j, psN (nnF st tn mn) (W dn) ft ≤ j → j < 4096 * cp → sh1 j = sh j)
    (hl : (∀ j, j < ln → pl (lb j) ∧ pl (lc j)) → ∀ j, j < ln → pl (lb1 j) ∧ pl (lc1 j)) (hc0 : pw cp c1) (hc1 : pw 1 c1) (hc2 : c1 = 1 ∨ 2048 * c1 ≤ capC Sn AD C) :
    INV (K + 1) Sn AD C cc W bs T ft c1 ln cl FT V VX VY tn rk wd tw pa pb kd st it mn cx cy (upd sa (dn - bs + 1) (nI P1)) sh1 lb1 lc1 := by
  obtain ⟨a, b1, ⟨k1, k2, k3, k4, k5, k6⟩, ⟨n1, n2, n3⟩, l1, l2, l3, l4, l5⟩ := h
  obtain ⟨⟨q1, q2, q3, q4, q5⟩, q6, q7, q8⟩ := hp
  have hnn := nnV_dn q7
  have hps : psN (nnV V tn dn) (W dn) (FT dn) = psN (nnF st tn mn) (W dn) ft := by rw [← q4]; exact psN_cg hnn ft (Nat.le_refl _)
  have hle := pw_le hc0
  have hW1 : dn < T → W (dn + 1) = P1 := fun g => by rw [k1.2.2.1 dn q1 g, hps, hP1]
  refine ⟨a, b1, ⟨⟨k1.1, fun t t1 t2 => ?_, k1.2.2.1, fun g t t1 t2 => ?_⟩, by omega, hc1, by omega, fun g => by have := k5 g; omega, hc2⟩, ⟨n1, by omega, n3⟩, l1, l2, l3, l4, hl l5⟩
  · by_cases e : t = dn + 1
    · rw [e, show dn + 1 - bs = dn - bs + 1 by omega, up_at, hW1 (by omega)]
    · rw [upo9 (by omega)]; exact k1.2.1 t t1 t2
  · have hb := k1.2.2.2 g t t1 t2
    rcases Nat.lt_trichotomy t dn with c | c | c
    · have hw : psN (nnV V tn t) (W t) (FT t) ≤ W dn := by rw [← k1.2.2.1 t t1 (by omega)]; exact kpB_le k1 (by omega) (by omega) q2
      exact blK_cg hb (fun j _ hj => p1 j (by have : j < psN (nnV V tn t) (W t) (FT t) := hj; omega)) (fun g hg => ⟨rfl, rfl, rfl, rfl, rfl, rfl⟩) (fun g hg => ⟨rfl, rfl, rfl, rfl, rfl, fun k _ => ⟨rfl, rfl⟩⟩)
    · rw [c]
      have b : blK sh1 pa pb rk wd tw tn ft (vC (fun _ _ => 0) kd st gb it mn) cx cy (W dn) := ⟨p0, p2⟩
      rw [← q4]
      refine blK_cg b (fun j _ _ => rfl) (fun g hg => ⟨rfl, rfl, rfl, rfl, rfl, rfl⟩) (fun g hg => ?_)
      have d := q7 g hg
      refine ⟨d.1, d.2.1, d.2.2.1, d.2.2.2.1, hnn g hg, fun k hk => ?_⟩
      have hk : k < nnF st tn mn g := hk
      unfold nnF at hk
      by_cases c : (tn g).toInt = 0 ∧ ¬ (st g).toInt = 0
      · rw [if_pos c] at hk
        exact (d.2.2.2.2 c.2 c.1).2 k hk
      · rw [if_neg c] at hk; omega
    · have hw1 : P1 ≤ W t := by rw [← hW1 (by omega)]; exact kpB_le k1 (by omega) (by omega) t2
      have hw2 : psN (nnV V tn t) (W t) (FT t) ≤ 4096 * cp := by
        by_cases e : t = T
        · rw [e]; exact k5 g
        · rw [← k1.2.2.1 t t1 (by omega)]
          have := kpB_le k1 (show bs ≤ t + 1 by omega) (show t + 1 ≤ T by omega) (Nat.le_refl _); omega
      exact blK_cg hb (fun j hj1 hj => po j (by omega) (by have : j < psN (nnV V tn t) (W t) (FT t) := hj; omega)) (fun g hg => ⟨rfl, rfl, rfl, rfl, rfl, rfl⟩) (fun g hg => ⟨rfl, rfl, rfl, rfl, rfl, fun k _ => ⟨rfl, rfl⟩⟩)
end
/-! room -/
theorem mul_3 {S a c : Nat} (h : a + c + S ≤ 512) : S * (100 * a + 52 * c) ≤ 6604900 := by
  have h1 : S * (100 * a + 52 * c) ≤ S * (100 * (a + c)) := Nat.mul_le_mul (Nat.le_refl _) (by omega)
  have h2 := mul_514 (a := S) (b := a + c) (by omega)
  have h3 : S * (100 * (a + c)) = 100 * (S * (a + c)) := by rw [Nat.mul_left_comm]
  omega
theorem rm_e (S a c : Nat) : 4 * ((S + 1) * (1 + 18 * a + 2 * c)) + 16 * (S * c) + S * (28 * (a + c) + 1000) = S * (100 * a + 52 * c) + 1004 * S + 4 + 72 * a + 8 * c := by grind
theorem room_c {Sn AD C c cl U : Nat} (h : AD + C + Sn ≤ 512) (hc : c = 1 ∨ 2048 * c ≤ capC Sn AD C) (hl : cl = 1 ∨ 32 * cl ≤ Sn * C) (hU : U ≤ Sn * (28 * (AD + C) + 1000) + 200 * (AD + C)) : 45000 + 8192 * c + 512 * cl + U ≤ 7302250 := by
  have h1 := mul_3 (S := Sn) (a := AD) (c := C) (by omega)
  have h2 := rm_e Sn AD C
  unfold capC at hc
  generalize (Sn + 1) * (1 + 18 * AD + 2 * C) = A at hc h2
  generalize Sn * C = B at hl h2
  generalize Sn * (28 * (AD + C) + 1000) = D at hU h2
  omega
end
end
section
/-! the moves keep what holds of a state -/
section
variable {ft f : Nat} {kd st tn mn it cx cy VX VY : Nat → Int32} {cc : Nat → Nat} {AD : Nat}
theorem wfS_mv (h : wfS ft kd st tn mn it cx cy) (hl : lvF ft st tn f) (hlw : lwM ft st tn kd mn cx cy f (nN (mn f)) VX VY) : wfS ft kd st tn mn it (fgX f (nN (mn f)) VX cx) (fgX f (nN (mn f)) VY cy) := by
  have m := wfS_wf h f hl
  have m2 := m.2.1.2
  exact wfS_row (m := 0) h hl (fun _ _ => rfl) (fun j hj => ⟨fgX_o (by omega), fgX_o (by omega)⟩) m.1 m2 hlw.1 hlw.2.1
theorem wfS_sq {z1 z2 z3 z4 : Int32} (h : wfS ft kd st tn mn it cx cy) (hlw : lwS ft st tn kd mn cx cy f (nN (mn f))) (e1 : z1 = iI (bL (cF40 cx f) (nN (mn f)))) (e2 : z2 = iI (bL (cF40 cy f) (nN (mn f)))) (e3 : z3 = iI (bH (cF40 cx f) (nN (mn f)))) (e4 : z4 = iI (bH (cF40 cy f) (nN (mn f)))) : wfS ft (upd kd f 6) st tn (upd mn f 4) it (bxX f z1 z3 4 cx) (bxY f z2 z4 4 cy) := by
  obtain ⟨p, s, _⟩ := hlw
  rw [← e1, ← e2, ← e3, ← e4] at p s
  refine wfS_1 (f := f) h (fun p _ e => ⟨upo9 e, rfl, rfl, upo9 e, rfl, fun k hk => ⟨show bxX f z1 z3 4 cx (40 * p + k) = cx (40 * p + k) from bxX_o (by omega), show bxY f z2 z4 4 cy (40 * p + k) = cy (40 * p + k) from bxY_o (by omega)⟩⟩) (fun hf => ?_)
  obtain ⟨h1, h2, h3, h4⟩ := h f hf
  rw [up_at] at s
  rw [up_at, up_at]
  have n4 : nN (4 : Int32) = 4 := by decide
  have e6 : (6 : Int32).toInt = 6 := by decide
  refine ⟨by rw [e6]; omega, h2, fun ht => ?_, h4⟩
  rw [n4]
  exact ⟨⟨by decide, by omega, fun g => by rw [e6] at g; omega, p⟩, fun _ => s⟩
theorem bdC_sq (h : bdC cc AD ft kd st mn tn) : bdC cc AD ft (upd kd f 6) st (upd mn f 4) tn := bdC_cg h (fun _ _ g => g) (fun q _ g => by
  by_cases e : q = f
  · rw [e, up_at, up_at]; exact Or.inr ⟨by decide, by decide⟩
  · rw [upo9 e, upo9 e]; exact Or.inl ⟨g, rfl, Nat.le_refl _⟩)
/-- a house that grows moves -/
theorem gw_mv {n : Nat} {X Y : Nat → Int32} (h : mSm 6 n X Y) : mvd n (fun i => 2 * X i - X 0) (fun i => 2 * Y i - Y 0) X Y := by
  obtain ⟨⟨i, j, hi, hj, hlt⟩, _⟩ := ho_nd h
  have key : ∀ k, 2 * X k - X 0 = X k → X k = X 0 := fun k hk => by
    have h1 : 2 * X k - X 0 - X k + X 0 = X k - X k + X 0 := by rw [hk]
    have h2 : 2 * X k - X 0 - X k + X 0 = X k := by grind
    have h3 : X k - X k + X 0 = X 0 := by grind
    rw [← h2, h1, h3]
  by_cases g : X i = X 0
  · refine ⟨j, hj, fun e => ?_⟩
    have := key j e.1
    rw [g, this] at hlt
    omega
  · exact ⟨i, hi, fun e => g (key i e.1)⟩
/-- room for a corner -/
theorem cor_lt {kd st tn mn it : Int32} {X Y : Nat → Int32} (h : wfQ kd st tn mn it X Y) (ht : tn.toInt = 0) (hn : ¬ nN mn = cpk kd.toInt) : nN mn < (if kd.toInt = 0 then 1 else 40) := by
  obtain ⟨⟨_, a2, a3, _⟩, _⟩ := h.2.2.1 ht
  unfold cpk at hn
  by_cases e : kd.toInt = 0
  · rw [if_pos e] at hn ⊢
    have := a3 e; omega
  · rw [if_neg e] at hn ⊢
    omega
theorem cor_ne {n : Nat} {k : Int} (h : n < (if k = 0 then 1 else 40)) : ¬ n = cpk k := by
  unfold cpk
  intro e
  rw [← e] at h
  omega
end
theorem up_same {I : Nat → Int32} {k : Nat} {v : Int32} (h : I k = v) : upd I k v = I := by
  funext j
  unfold upd
  by_cases e : j = k
  · rw [if_pos e, e, h]
  · rw [if_neg e]
theorem smN_q {c : Nat → Nat} {q n : Nat} (h : q < n) : c q ≤ smN c n := Nat.le_trans (show c q ≤ smN c (q + 1) from Nat.le_add_left (c q) (smN c q)) (smN_le c h)
/-! a position's sheet -/
section
variable {K Sn AD C : Nat} {cc W : Nat → Nat} {bs dn T ft cp ln cl t : Nat} {FT : Nat → Nat} {V : Nat → Nat → Nat → Int32} {VX VY : Nat → Nat → Int32} {tn rk wd tw pa pb kd st gb it mn cx cy sa sh lb lc : Nat → Int32}
theorem INV_at (h : INV K Sn AD C cc W bs T ft cp ln cl FT V VX VY tn rk wd tw pa pb kd st it mn cx cy sa sh lb lc) (hT : bs < T) (t1 : bs ≤ t) (t2 : t ≤ T) : sa (t - bs) = nI (W t) ∧ sh (W t) = nI (FT t) ∧ (∀ g, g < FT t → ∀ j, j < 10 + 2 * nnV V tn t g → sh (psN (nnV V tn t) (W t) g + j) = DV V VX VY pa pb rk wd tw tn t g j) ∧ psN (nnV V tn t) (W t) (FT t) ≤ 4096 * cp := by
  obtain ⟨_, _, ⟨k1, k2, k3, k4, k5, k6⟩, _, _⟩ := h
  have b := k1.2.2.2 hT t t1 t2
  refine ⟨k1.2.1 t t1 t2, b.1, b.2, ?_⟩
  by_cases e : t = T
  · rw [e]; exact k5 hT
  · rw [← k1.2.2.1 t t1 (by omega)]
    exact Nat.le_trans (kpB_le k1 (show bs ≤ t + 1 by omega) (show t + 1 ≤ T by omega) (Nat.le_refl _)) k4
theorem rsM_e (hV : wfV FT V VX VY tn t) : (∀ q, q < FT t → (¬ (V t 1 q).toInt = 0 ∧ (tn q).toInt = 0) → rsM (FT t) (DV V VX VY pa pb rk wd tw tn t) (nnV V tn t) tn mn q = nI (nN (rsM (FT t) (DV V VX VY pa pb rk wd tw tn t) (nnV V tn t) tn mn q))) ∧ ∀ q, ¬ (tn q).toInt = 0 → rsM (FT t) (DV V VX VY pa pb rk wd tw tn t) (nnV V tn t) tn mn q = mn q := by
  refine ⟨fun q hq hs => ?_, fun q g => ?_⟩
  · have e : rsM (FT t) (DV V VX VY pa pb rk wd tw tn t) (nnV V tn t) tn mn q = nI (nnV V tn t q) := by unfold rsM; exact if_pos ⟨hq, hs.1, hs.2⟩
    rw [e, nN_nI (by have := nnV_40 hV hq; omega)]
  · unfold rsM; exact if_neg (fun c => g c.2.2)
/-- what a run asks for -/
theorem smd_b (h : bdC cc AD ft kd st mn tn) (h0 : ∀ q, q < 200 → ¬ (tn q).toInt = 0 → mn q = 0) (hf : ft ≤ 200) : ∀ k, k ≤ ft → smd (fun _ => 1) (fun q => nN (mn q)) k ≤ 18 * k + 2 * smN cc k := by
  intro k
  induction k with
  | zero => intro _; exact Nat.le_refl _
  | succ k ih =>
    intro hk
    have h1 := ih (by omega)
    have h2 : smd (fun _ => 1) (fun q => nN (mn q)) (k + 1) = smd (fun _ => 1) (fun q => nN (mn q)) k + (2 * nN (mn k) + 10) := rfl
    have h3 : smN cc (k + 1) = smN cc k + cc k := rfl
    have h4 : nN (mn k) ≤ 4 + cc k := by
      by_cases t0 : (tn k).toInt = 0
      · exact (h.2 k (by omega) t0).1
      · rw [h0 k (by omega) t0, show nN (0 : Int32) = 0 by decide]; exact Nat.zero_le _
    omega
end
end
section
/-! arrays that agree as far as features go -/
section
variable {gh : Nat → Nat → Int32}
def agS (ft : Nat) (kd st gb it mn cx cy kd1 st1 gb1 it1 mn1 cx1 cy1 : Nat → Int32) : Prop :=
  ∀ q, q < ft → kd1 q = kd q ∧ st1 q = st q ∧ gb1 q = gb q ∧ it1 q = it q ∧ mn1 q = mn q ∧ ∀ k, k < 40 → cF40 cx1 q k = cF40 cx q k ∧ cF40 cy1 q k = cF40 cy q k
section
variable {cI cO : ClassId} {L : List Nat} {f : Nat → va_E} {e0 ea : Nat} {FA : Nat → Option Nat} {bs dn T ft : Nat} {FT : Nat → Nat} {V : Nat → Nat → Nat → Int32} {VX VY : Nat → Nat → Int32} {tn rk wd tw pa pb wh of9 we kd st gb it mn cx cy kd1 st1 gb1 it1 mn1 cx1 cy1 : Nat → Int32} {sa sh lb lc : Nat → Int32} {W cc : Nat → Nat} {K Sn AD C cp ln cl : Nat}
theorem shB_fx (h : shB cI cO L f e0 FA ea bs dn T ft FT V VX VY tn rk wd tw pa pb wh of9 we kd st gb it mn cx cy) : ∀ q, q < ft → ∃ a, FA q = some a := by
  obtain ⟨own, fe, cl, la, sp, SA, ⟨h1, h2, h3, h4, h5, h6, h7⟩, h8, h9⟩ := h
  exact fun q hq => ⟨_, h7 q hq⟩
theorem shB_cg (h : shB cI cO L f e0 FA ea bs dn T ft FT V VX VY tn rk wd tw pa pb wh of9 we kd st gb it mn cx cy) (hn : ∀ q, q < ft → (tn q).toInt = 0 → ¬ (st q).toInt = 0 → mn q = nI (nN (mn q)) ∧ nN (mn q) ≤ 40) (ha : agS ft kd st gb it mn cx cy kd1 st1 gb1 it1 mn1 cx1 cy1) : shB cI cO L f e0 FA ea bs dn T ft FT V VX VY tn rk wd tw pa pb wh of9 we kd1 st1 gb1 it1 mn1 cx1 cy1 := by
  obtain ⟨own, fe, cl, la, sp, SA, ⟨h1, h2, h3, h4, h5, h6, h7⟩, h8, h9⟩ := h
  refine ⟨own, fe, cl, la, sp, SA, ⟨h1, fun q hq => ?_, h3, h4, h5, h6, h7⟩, fun q hq => ?_, h9⟩
  · obtain ⟨a1, a2, a3, a4, a5, a6⟩ := ha q hq
    rw [a1, a2, a3, a4, a5]
    exact lkG_cg a6 (h2 q hq)
  · obtain ⟨a1, a2, a3, a4, a5, a6⟩ := ha q hq
    obtain ⟨b1, b2, b3, b4, b5⟩ := h8 q hq
    rw [a1, a2, a3, a4, a5]
    refine ⟨b1, b2, b3, b4, fun s t => ⟨(b5 s t).1, fun k hk => ?_⟩⟩
    have h40 := (hn q hq t s).2
    have c := a6 k (by omega)
    rw [c.1, c.2]
    exact (b5 s t).2 k hk
theorem INV_cg (h : INV K Sn AD C cc W bs T ft cp ln cl FT V VX VY tn rk wd tw pa pb kd st it mn cx cy sa sh lb lc) (ha : agS ft kd st gb it mn cx cy kd1 st1 gb1 it1 mn1 cx1 cy1) (h0 : ∀ q, q < 200 → ¬ (tn q).toInt = 0 → mn1 q = 0) : INV K Sn AD C cc W bs T ft cp ln cl FT V VX VY tn rk wd tw pa pb kd1 st1 it1 mn1 cx1 cy1 sa sh lb lc := by
  obtain ⟨⟨a1, a2, a3, a4⟩, b⟩ := h
  refine ⟨⟨wfS_cg a1 (fun p hp => ?_), a2, bdC_cg a3 (fun q hq g => ?_) (fun q hq g => ?_), h0⟩, b⟩
  · have c := ha p hp
    exact ⟨c.1, c.2.1, rfl, c.2.2.2.2.1, c.2.2.2.1, c.2.2.2.2.2⟩
  · rw [← (ha q hq).2.1]; exact g
  · exact Or.inl ⟨g, (ha q hq).1, by rw [(ha q hq).2.2.2.2.1]; exact Nat.le_refl _⟩
theorem bxX_p {f : Nat} {a b : Int32} {c c1 : Nat → Int32} {j : Nat} (h : c1 j = c j) : bxX f a b 4 c1 j = bxX f a b 4 c j := by unfold bxX; rw [h]
theorem bxY_p {f : Nat} {a b : Int32} {c c1 : Nat → Int32} {j : Nat} (h : c1 j = c j) : bxY f a b 4 c1 j = bxY f a b 4 c j := by unfold bxY; rw [h]
theorem ag_200 {z1 z2 z3 z4 : Int32} (h : ft ≤ 200) : agS ft kd st gb it mn cx cy (upd kd 200 6) st gb it (upd mn 200 4) (bxX 200 z1 z3 4 cx) (bxY 200 z2 z4 4 cy) := fun q hq =>
  ⟨upo9 (by omega), rfl, rfl, rfl, upo9 (by omega), fun k hk => ⟨show bxX 200 z1 z3 4 cx (40 * q + k) = cx (40 * q + k) from bxX_o (by omega), show bxY 200 z2 z4 4 cy (40 * q + k) = cy (40 * q + k) from bxY_o (by omega)⟩⟩
theorem ag_join {z1 z2 z3 z4 : Int32} (h : ft < 200) : agS (ft + 1) (upd kd ft 6) st gb it (upd mn ft 4) (bxX ft z1 z3 4 cx) (bxY ft z2 z4 4 cy) (upd (upd kd 200 6) ft 6) st gb it (upd (upd mn 200 4) ft 4) (bxX ft z1 z3 4 (bxX 200 z1 z3 4 cx)) (bxY ft z2 z4 4 (bxY 200 z2 z4 4 cy)) := fun q hq => by
  have e : ∀ (c : Nat → Int32) (x : Int32), upd (upd c 200 x) ft x q = upd c ft x q := fun c x => by
    by_cases g : q = ft
    · rw [g, up_at, up_at]
    · rw [upo9 g, upo9 g, upo9 (show q ≠ 200 by omega)]
  exact ⟨e kd 6, rfl, rfl, rfl, e mn 4, fun k hk => ⟨show bxX ft z1 z3 4 (bxX 200 z1 z3 4 cx) (40 * q + k) = bxX ft z1 z3 4 cx (40 * q + k) from bxX_p (bxX_o (by omega)), show bxY ft z2 z4 4 (bxY 200 z2 z4 4 cy) (40 * q + k) = bxY ft z2 z4 4 cy (40 * q + k) from bxY_p (bxY_o (by omega))⟩⟩
theorem upd3 {s : Nat → Int32} {a b c : Nat} {x y z : Int32} (h1 : b ≠ a) (h2 : c ≠ a) : upd (upd (upd s a x) b y) c z = upd (upd (upd s b y) c z) a x := by
  funext j
  by_cases e : j = a
  · rw [e, upo9 (fun g => h2 g.symm), upo9 (fun g => h1 g.symm), up_at, up_at]
  · rw [upo9 (m := upd (upd s b y) c z) e]
    by_cases g : j = c
    · rw [g, up_at, up_at]
    · rw [upo9 g, upo9 g]
      by_cases i : j = b
      · rw [i, up_at, up_at]
      · rw [upo9 i, upo9 i, upo9 e]
theorem nnF_ag (ha : agS ft kd st gb it mn cx cy kd1 st1 gb1 it1 mn1 cx1 cy1) (g : Nat) (hg : g < ft) : nnF st1 tn mn1 g = nnF st tn mn g := by
  unfold nnF
  rw [(ha g hg).2.1, (ha g hg).2.2.2.2.1]
theorem blK_ag {w : Nat} (ha : agS ft kd st gb it mn cx cy kd1 st1 gb1 it1 mn1 cx1 cy1) (h : blK sh pa pb rk wd tw tn ft (vC gh kd1 st1 gb1 it1 mn1) cx1 cy1 w) (hw : wfS ft kd st tn mn it cx cy) : blK sh pa pb rk wd tw tn ft (vC gh kd st gb it mn) cx cy w := by
  refine blK_cg h (fun j _ _ => rfl) (fun g _ => ⟨rfl, rfl, rfl, rfl, rfl, rfl⟩) (fun g hg => ?_)
  have c := ha g hg
  refine ⟨c.1.symm, c.2.1.symm, c.2.2.1.symm, c.2.2.2.1.symm, (nnF_ag ha g hg).symm, fun k hk => ?_⟩
  have hk : k < nnF st1 tn mn1 g := hk
  rw [nnF_ag ha g hg] at hk
  have h40 : nnF st tn mn g ≤ 40 := by
    unfold nnF
    by_cases d : (tn g).toInt = 0 ∧ ¬ (st g).toInt = 0
    · rw [if_pos d]; exact (wfS_mn hw g hg d.1 d.2).2
    · rw [if_neg d]; omega
  have e := c.2.2.2.2.2 k (by omega)
  exact ⟨e.1.symm, e.2.symm⟩
theorem wfS_join {f g : Nat} {z1 z2 z3 z4 : Int32} (h : wfS ft kd st tn mn it cx cy) (hf : f < ft) (hg : g < ft) (hs : (st f).toInt = 1) (hs2 : (st g).toInt = 1) (hgf : g ≠ f) (p1 : pl z1) (p2 : pl z2) (p3 : pl z3) (p4 : pl z4) (l1 : z1.toInt < z3.toInt) (l2 : z2.toInt < z4.toInt) : wfS (ft + 1) (upd kd ft 6) (upd (upd (upd st f 2) g 2) ft 1) (upd tn ft 0) (upd mn ft 4) (upd (upd (upd it f (nI ft)) g (nI ft)) ft (-1)) (bxX ft z1 z3 4 cx) (bxY ft z2 z4 4 cy) := by
  intro q hq
  by_cases e : q = ft
  · rw [e, up_at, up_at, up_at, up_at, up_at]
    have n4 : nN (4 : Int32) = 4 := by decide
    have e6 : (6 : Int32).toInt = 6 := by decide
    have e1 : (1 : Int32).toInt = 1 := by decide
    have c0 : cF40 (bxX ft z1 z3 4 cx) ft 0 = z1 ∧ cF40 (bxX ft z1 z3 4 cx) ft 1 = z3 ∧ cF40 (bxX ft z1 z3 4 cx) ft 2 = z3 ∧ cF40 (bxX ft z1 z3 4 cx) ft 3 = z1 := by
      refine ⟨?_, ?_, ?_, ?_⟩
      · show bxX ft z1 z3 4 cx (40 * ft + 0) = z1; unfold bxX; rw [if_pos (by omega), if_neg (by omega)]
      · show bxX ft z1 z3 4 cx (40 * ft + 1) = z3; unfold bxX; rw [if_pos (by omega), if_pos (by omega)]
      · show bxX ft z1 z3 4 cx (40 * ft + 2) = z3; unfold bxX; rw [if_pos (by omega), if_pos (by omega)]
      · show bxX ft z1 z3 4 cx (40 * ft + 3) = z1; unfold bxX; rw [if_pos (by omega), if_neg (by omega)]
    have d0 : cF40 (bxY ft z2 z4 4 cy) ft 0 = z2 ∧ cF40 (bxY ft z2 z4 4 cy) ft 1 = z2 ∧ cF40 (bxY ft z2 z4 4 cy) ft 2 = z4 ∧ cF40 (bxY ft z2 z4 4 cy) ft 3 = z4 := by
      refine ⟨?_, ?_, ?_, ?_⟩
      · show bxY ft z2 z4 4 cy (40 * ft + 0) = z2; unfold bxY; rw [if_pos (by omega), if_neg (by omega)]
      · show bxY ft z2 z4 4 cy (40 * ft + 1) = z2; unfold bxY; rw [if_pos (by omega), if_neg (by omega)]
      · show bxY ft z2 z4 4 cy (40 * ft + 2) = z4; unfold bxY; rw [if_pos (by omega), if_pos (by omega)]
      · show bxY ft z2 z4 4 cy (40 * ft + 3) = z4; unfold bxY; rw [if_pos (by omega), if_pos (by omega)]
    have sm := bx_sm c0 d0 l1 l2
    refine ⟨by rw [e6]; omega, by rw [e1]; omega, fun _ => ?_, fun _ => rfl⟩
    rw [n4, e6]
    refine ⟨⟨by decide, by omega, fun g => by omega, fun k hk => ?_⟩, fun _ => sm⟩
    rcases (show k = 0 ∨ k = 1 ∨ k = 2 ∨ k = 3 by omega) with rfl | rfl | rfl | rfl
    · rw [c0.1, d0.1]; exact ⟨p1, p2⟩
    · rw [c0.2.1, d0.2.1]; exact ⟨p3, p2⟩
    · rw [c0.2.2.1, d0.2.2.1]; exact ⟨p3, p4⟩
    · rw [c0.2.2.2, d0.2.2.2]; exact ⟨p1, p4⟩
  · rw [upo9 e, upo9 e, upo9 e, upo9 e, upo9 e]
    have hw := h q (by omega)
    refine wfQ_cg (fun k hk => ⟨show bxX ft z1 z3 4 cx (40 * q + k) = cx (40 * q + k) from bxX_o (by omega), show bxY ft z2 z4 4 cy (40 * q + k) = cy (40 * q + k) from bxY_o (by omega)⟩) ?_
    by_cases e2 : q = g
    · rw [e2, up_at, up_at]
      rw [e2] at hw
      exact wfQ_go hw hs2 _
    · rw [upo9 e2, upo9 e2]
      by_cases e3 : q = f
      · rw [e3, up_at, up_at]
        rw [e3] at hw
        exact wfQ_go hw hs _
      · rw [upo9 e3, upo9 e3]; exact hw
end
theorem eO_6 {k : Int} {n : Nat} (h : k = 6) (hn : 1 ≤ n) : 1 ≤ eO k n := by
  rw [h]; unfold eO; rw [if_neg (by decide), if_pos (by decide)]; exact hn
theorem cntP_no {P : Nat → Prop} {n : Nat} (h : cntP P n = 0) (q : Nat) (hq : q < n) : ¬ P q := fun hp => by
  have := cntP_lt (P := P) (Q := fun _ => False) (fun _ g => g.elim) hq hp (fun g => g)
  omega
theorem gn_1 {M : Nat → Prop} {ft q : Nat} {st : Nat → Int32} (h : M q → (st q).toInt = 1) (g : (gnA M ft 2 st q).toInt = 1) : (st q).toInt = 1 := by
  by_cases m : M q
  · exact h m
  · rw [show gnA M ft 2 st q = st q by unfold gnA; rw [if_neg (fun c => m c.2)]] at g; exact g
/-! a run that takes nothing -/
section
variable {ft L : Nat} {kd st tn : Nat → Int32}
theorem rnP_no : ∀ (j : Nat) (mn cx cy mn1 cx1 cy1 : Nat → Int32), j ≤ ft → rnP ft st tn kd L j mn cx cy 0 mn1 cx1 cy1 → ∀ q, ft - j ≤ q → q < ft → lvF ft st tn q → ¬ (kd q).toInt = 0 → ¬ (kd q).toInt = 6 → plN ft st tn kd q L 0 mn cx cy (nN (mn q)) mn cx cy (nN (mn q)) := by
  intro j
  induction j with
  | zero => intro mn cx cy mn1 cx1 cy1 _ _ q h1 h2; omega
  | succ j ih =>
    intro mn cx cy mn1 cx1 cy1 hj hr q h1 h2 hl k0 k6
    obtain ⟨m, mn2, cx2, cy2, t2, r1, r2, r3⟩ := hr
    have em : m = 0 := by omega
    have et : t2 = 0 := by omega
    subst em et
    have e : mn2 = mn ∧ cx2 = cx ∧ cy2 = cy := by
      by_cases b : lvF ft st tn (ft - (j + 1)) ∧ ¬ (kd (ft - (j + 1))).toInt = 0 ∧ ¬ (kd (ft - (j + 1))).toInt = 6
      · obtain ⟨n1, hp⟩ := r1.1 b
        have z := plN_z rfl hp
        exact ⟨z.1, z.2.1, z.2.2.1⟩
      · exact (r1.2 b).2
    obtain ⟨rfl, rfl, rfl⟩ := e
    by_cases g : q = ft - (j + 1)
    · have b : lvF ft st tn (ft - (j + 1)) ∧ ¬ (kd (ft - (j + 1))).toInt = 0 ∧ ¬ (kd (ft - (j + 1))).toInt = 6 := by rw [← g]; exact ⟨hl, k0, k6⟩
      obtain ⟨n1, hp⟩ := r1.1 b
      have z := plN_z rfl hp
      rw [z.2.2.2.1, ← g] at hp
      exact hp
    · exact ih _ _ _ _ _ _ (by omega) r2 q (by omega) h2 hl k0 k6
theorem rnA_no {p : Nat} {mn cx cy mn1 cx1 cy1 : Nat → Int32} (h : rnA ft st tn kd L p mn cx cy 0 mn1 cx1 cy1) (hk : ∀ q, q < ft → 0 ≤ (kd q).toInt ∧ (kd q).toInt ≤ 6) : ∀ q, lvF ft st tn q → (1 ≤ (kd q).toInt ∧ (kd q).toInt ≤ 5) → plN ft st tn kd q L 0 mn cx cy (nN (mn q)) mn cx cy (nN (mn q)) := by
  intro q hl hb
  cases p with
  | zero => exact absurd h (fun g => g)
  | succ p =>
    obtain ⟨t2, mn2, cx2, cy2, h1, h2⟩ := h
    have e : t2 = 0 := by
      rcases h2 with ⟨e, _⟩ | ⟨_, t3, _, e⟩
      · exact e
      · omega
    rw [e] at h1
    exact rnP_no ft _ _ _ _ _ _ (Nat.le_refl _) h1 q (by omega) hl.1 hl (by omega) (by omega)
end
theorem eO_1 {k : Int} {n : Nat} (h : (k = 0 ∧ n = 1) ∨ (¬ k = 0 ∧ 2 ≤ n)) : 1 ≤ eO k n := by
  unfold eO
  by_cases e : k = 0
  · rw [if_pos e]; exact Nat.le_refl _
  · rw [if_neg e]; split <;> omega
end
end
section
/-! numbers of the script -/
theorem nI_ex {v : Int32} {n : Nat} (h : 0 ≤ v.toInt ∧ v.toInt < ((n : Nat) : Int)) : ∃ f, f < n ∧ v = nI f := by
  have h2 := Int32.toInt_lt v
  exact ⟨v.toInt.toNat, by omega, Int32.toInt_inj.mp (by rw [nI_toInt (by omega)]; omega)⟩
theorem nI_ge9 {v : Int32} (h : 0 ≤ v.toInt) : ∃ n, n ≤ 2147483647 ∧ v = nI n := by
  have h2 := Int32.toInt_lt v
  exact ⟨v.toInt.toNat, by omega, Int32.toInt_inj.mp (by rw [nI_toInt (by omega)]; omega)⟩
theorem lw_sub6 {L : Nat} (h : L ≤ 3072) : (Int32.ofNat L - 6).toInt = ((L : Nat) : Int) - 6 := by
  have e1 : (Int32.ofNat L).toInt = ((L : Nat) : Int) := nI_toInt (by omega)
  have e2 : (6 : Int32).toInt = 6 := by decide
  rw [fb_subI (by rw [e1, e2]; omega) (by rw [e1, e2]; omega), e1, e2]
/-! at the start -/
theorem shB_0 {cI cO : ClassId} {f : Nat → va_E} {e0 : Nat} {V : Nat → Nat → Nat → Int32} {VX VY : Nat → Nat → Int32} {tn rk wd tw pa pb wh of9 we kd st gb it mn cx cy : Nat → Int32} : shB cI cO [] f e0 (fun _ => none) e0 0 0 0 0 (fun _ => 0) V VX VY tn rk wd tw pa pb wh of9 we kd st gb it mn cx cy := by
  refine ⟨fun _ => 0, fun _ => 0, fun _ => 0, fun _ _ => 0, fun _ => 0, fun _ => none, ⟨?_, ?_, ?_, ?_, ?_, ?_, ?_⟩, ?_, rfl, fun q hq => absurd hq (Nat.not_lt_zero _)⟩
  · intro q hq; exact absurd hq (Nat.not_lt_zero _)
  · intro q hq; exact absurd hq (Nat.not_lt_zero _)
  · intro t _ _ q hq; exact absurd hq (Nat.not_lt_zero _)
  · intro t h1 h2; omega
  · exact Or.inl ⟨rfl, rfl⟩
  · exact ⟨Nat.le_refl _, Nat.le_refl _, Nat.zero_le _, fun _ _ _ => Nat.le_refl _, Nat.le_refl _, Nat.zero_le _⟩
  · intro q hq; exact absurd hq (Nat.not_lt_zero _)
  · intro q hq; exact absurd hq (Nat.not_lt_zero _)
theorem smN_00 : ∀ n, smN (fun _ => 0) n = 0 := by
  intro n
  induction n with
  | zero => rfl
  | succ n ih => show smN (fun _ => 0) n + 0 = 0; rw [ih]
theorem INV_0 {V : Nat → Nat → Nat → Int32} {VX VY : Nat → Nat → Int32} {rk wd tw pa pb kd st it mn cx cy sh lb lc : Nat → Int32} : INV 0 0 0 0 (fun _ => 0) (fun _ => 0) 0 0 0 1 0 1 (fun _ => 0) V VX VY (fun _ => 0) rk wd tw pa pb kd st it mn cx cy (fun _ => 0) sh lb lc := by
  have e0 : (0 : Int32).toInt = 0 := by decide
  have hb : ∀ (k s m : Nat → Int32), bdC (fun _ => 0) 0 0 k s m (fun _ => 0) := fun k s m => ⟨Nat.le_refl _, fun q hq => absurd hq (Nat.not_lt_zero _)⟩
  refine ⟨⟨fun q hq => absurd hq (Nat.not_lt_zero _), fun q hq => absurd hq (Nat.not_lt_zero _), hb _ _ _, fun q _ g => absurd e0 g⟩, fun t _ _ => ⟨fun q hq => absurd hq (Nat.not_lt_zero _), hb _ _ _⟩, ⟨⟨rfl, fun t _ _ => rfl, fun t _ h => absurd h (Nat.not_lt_zero _), fun h => absurd h (Nat.lt_irrefl _)⟩, Nat.le_refl _, ⟨0, rfl⟩, Nat.zero_le _, fun h => absurd h (Nat.lt_irrefl _), Or.inl rfl⟩, ⟨by rw [smN_00]; exact Nat.le_refl _, Nat.le_refl _, Nat.le_refl _⟩, ⟨Nat.zero_le _, Nat.le_refl _, Nat.zero_le _, Or.inl rfl, fun j hj => absurd hj (Nat.not_lt_zero _)⟩⟩
theorem lw_e0 {A : Array Value} {s : State} {t : Term} {e0 : Nat} {cell0 : Cell} (hl : (Cond.eq (.length t) (.int 0)).before A s = true) (ha : (Cond.arrayOf t (.object "java/lang/Object")).before A s = true) (ht : t.eval A s none [] s = some (.ref e0)) (hc : s.arrayAt? e0 = some cell0) : zE0 e0 (fun q : Nat => s.heap.size ≤ q) s s.heap := by
  have hv := va_eqt hl
  have hcb := (State.arrayAt?_spec hc).1
  have h31 : cell0.slots.size < 2147483648 ∧ cell0.slots.size.toInt32 = 0 := by
    simp only [Term.eval, ht, hc, Option.bind_eq_bind, Option.bind_some] at hv
    by_cases hlt : cell0.slots.size < 2147483648
    · rw [if_pos hlt] at hv
      have h1 := Option.some.inj hv
      injection h1 with h2
      exact ⟨hlt, h2⟩
    · rw [if_neg hlt] at hv
      cases hv
  have e : (nI cell0.slots.size).toInt = ((cell0.slots.size : Nat) : Int) := nI_toInt h31.1
  have e2 : nI cell0.slots.size = 0 := h31.2
  rw [e2] at e
  have e3 : (0 : Int32).toInt = 0 := by decide
  exact ⟨cell0, hcb, by omega, (Cond.arrayOf_spec ha ht hcb).1, fun h => absurd (Array.getElem?_eq_some_iff.mp hcb).1 (Nat.not_lt.mpr h)⟩
section
variable {ft L : Nat} {kd st tn : Nat → Int32}
theorem rnP_e : ∀ (j : Nat) (mn cx cy mn1 cx1 cy1 : Nat → Int32), rnP ft st tn kd L j mn cx cy 0 mn1 cx1 cy1 → mn1 = mn ∧ cx1 = cx ∧ cy1 = cy := by
  intro j
  induction j with
  | zero => intro mn cx cy mn1 cx1 cy1 h; exact h.2
  | succ j ih =>
    intro mn cx cy mn1 cx1 cy1 hr
    obtain ⟨m, mn2, cx2, cy2, t2, r1, r2, r3⟩ := hr
    have em : m = 0 := by omega
    have et : t2 = 0 := by omega
    subst em et
    have e : mn2 = mn ∧ cx2 = cx ∧ cy2 = cy := by
      by_cases b : lvF ft st tn (ft - (j + 1)) ∧ ¬ (kd (ft - (j + 1))).toInt = 0 ∧ ¬ (kd (ft - (j + 1))).toInt = 6
      · obtain ⟨n1, hp⟩ := r1.1 b
        have z := plN_z rfl hp
        exact ⟨z.1, z.2.1, z.2.2.1⟩
      · exact (r1.2 b).2
    have i := ih _ _ _ _ _ _ r2
    exact ⟨i.1.trans e.1, i.2.1.trans e.2.1, i.2.2.trans e.2.2⟩
theorem rnA_e {p : Nat} {mn cx cy mn1 cx1 cy1 : Nat → Int32} (h : rnA ft st tn kd L p mn cx cy 0 mn1 cx1 cy1) : mn1 = mn ∧ cx1 = cx ∧ cy1 = cy := by
  cases p with
  | zero => exact absurd h (fun g => g)
  | succ p =>
    obtain ⟨t2, mn2, cx2, cy2, h1, h2⟩ := h
    rcases h2 with ⟨e, _, e1, e2, e3⟩ | ⟨g, t3, _, e⟩
    · rw [e] at h1
      have i := rnP_e _ _ _ _ _ _ _ h1
      exact ⟨e1.trans i.1, e2.trans i.2.1, e3.trans i.2.2⟩
    · omega
end
end
section
/-! what the answers of the asking calls want besides -/
theorem dv9 {u g U G : Nat} (hg : 0 < g) (hG : 0 < G) (h1 : g ∣ u) (h2 : G ∣ U) (e : u * G = U * g) : u / g = U / G := by
  obtain ⟨x, rfl⟩ := h1
  obtain ⟨y, rfl⟩ := h2
  rw [Nat.mul_div_cancel_left _ hg, Nat.mul_div_cancel_left _ hG]
  have e1 : g * G * x = g * G * y := by
    calc g * G * x = g * x * G := by ac_rfl
      _ = G * y * g := e
      _ = g * G * y := by ac_rfl
  exact Nat.eq_of_mul_eq_mul_left (Nat.mul_pos hg hG) e1
theorem red9 {u d U D : Nat} (hd : 1 ≤ d) (hD : 1 ≤ D) (e : u * D = U * d) : u / Nat.gcd u d = U / Nat.gcd U D ∧ d / Nat.gcd u d = D / Nat.gcd U D := by
  have ga : 0 < Nat.gcd u d := Nat.gcd_pos_of_pos_right u hd
  have gb : 0 < Nat.gcd U D := Nat.gcd_pos_of_pos_right U hD
  have e2 : Nat.gcd u d * D = Nat.gcd U D * d := by
    have q1 : Nat.gcd (u * D) (d * D) = Nat.gcd u d * D := Nat.gcd_mul_right u D d
    have q2 : Nat.gcd (U * d) (D * d) = Nat.gcd U D * d := Nat.gcd_mul_right U d D
    rw [← q1, ← q2, e, Nat.mul_comm d D]
  have e3 : u * Nat.gcd U D = U * Nat.gcd u d := by
    refine Nat.eq_of_mul_eq_mul_left (show 0 < D * d from Nat.mul_pos hD hd) ?_
    calc D * d * (u * Nat.gcd U D) = (u * D) * (Nat.gcd U D * d) := by ac_rfl
      _ = (U * d) * (Nat.gcd u d * D) := by rw [e, e2]
      _ = D * d * (U * Nat.gcd u d) := by ac_rfl
  have e4 : d * Nat.gcd U D = D * Nat.gcd u d := by
    rw [Nat.mul_comm d, Nat.mul_comm D]
    exact e2.symm
  exact ⟨dv9 ga gb (Nat.gcd_dvd_left u d) (Nat.gcd_dvd_left U D) e3, dv9 ga gb (Nat.gcd_dvd_right u d) (Nat.gcd_dvd_right U D) e4⟩
end
section
/-! the two sides' accounts of what went -/
def lsR (bs T ln : Nat) (FT : Nat → Nat) (V : Nat → Nat → Nat → Int32) (la lb lc ld : Nat → Int32) : Prop :=
  ∀ t, bs ≤ t → t ≤ T → (∀ k, k < ln → (ld k).toInt ≤ ((t : Nat) : Int) → ∃ q, q < FT t ∧ la k = nI q) ∧
    ∀ q, q < FT t → ∀ x y, (∃ i, i < nN (V t 5 q) ∧ V t (i + 6) q = x ∧ V t (i + 50) q = y) ↔ (∃ k, k < ln ∧ la k = nI q ∧ (ld k).toInt ≤ ((t : Nat) : Int) ∧ lb k = x ∧ lc k = y)
section
variable {bs dn T ln t9 ft1 : Nat} {FT : Nat → Nat} {V : Nat → Nat → Nat → Int32} {v1 : Nat → Nat → Int32} {la lb lc ld la1 lb1 lc1 ld1 kd st gb it mn : Nat → Int32} {S : Nat → Int32 → Int32 → Prop}
theorem lsR_0 : lsR 0 0 0 (fun _ => 0) V la lb lc ld := fun t _ _ => ⟨fun k hk => absurd hk (Nat.not_lt_zero k), fun q hq => absurd hq (Nat.not_lt_zero q)⟩
theorem lsR_cg (h : lsR bs T ln FT V la lb lc ld) (he : lsE ln la lb lc ld la1 lb1 lc1 ld1) : lsR bs T ln FT V la1 lb1 lc1 ld1 := by
  intro t t1 t2
  obtain ⟨h1, h2⟩ := h t t1 t2
  refine ⟨fun k hk hd => ?_, fun q hq x y => (h2 q hq x y).trans ⟨?_, ?_⟩⟩
  · obtain ⟨e1, e2, e3, e4⟩ := he k hk
    obtain ⟨q, q1, q2⟩ := h1 k hk (by rw [← e4]; exact hd)
    exact ⟨q, q1, e1.trans q2⟩
  · rintro ⟨k, k1, k2, k3, k4, k5⟩
    obtain ⟨e1, e2, e3, e4⟩ := he k k1
    exact ⟨k, k1, e1.trans k2, by rw [e4]; exact k3, e2.trans k4, e3.trans k5⟩
  · rintro ⟨k, k1, k2, k3, k4, k5⟩
    obtain ⟨e1, e2, e3, e4⟩ := he k k1
    exact ⟨k, k1, e1.symm.trans k2, by rw [← e4]; exact k3, e2.symm.trans k4, e3.symm.trans k5⟩
/-- a step: the accounts before it, and what it adds -/
theorem lsR_T (h : lsR bs T ln FT V la lb lc ld) (h1 : bs ≤ dn) (h2 : dn ≤ T) (h5 : dn ≤ 600) (hz : lsZ dn ln la lb lc ld t9 la1 lb1 lc1 ld1 S) (hS : ∀ q x y, S q x y → q < ft1) (hf : FT dn ≤ ft1) (hf2 : ft1 ≤ 200)
    (hn : ∀ q, q < ft1 → ∀ x y, (∃ i, i < nN (v1 5 q) ∧ v1 (i + 6) q = x ∧ v1 (i + 50) q = y) ↔ ((q < FT dn ∧ ∃ i, i < nN (V dn 5 q) ∧ V dn (i + 6) q = x ∧ V dn (i + 50) q = y) ∨ S q x y)) :
    lsR bs (dn + 1) t9 (upN FT (dn + 1) ft1) (upN V (dn + 1) v1) la1 lb1 lc1 ld1 := by
  obtain ⟨z1, z2, z3⟩ := hz
  have eT : (nI (dn + 1)).toInt = ((dn + 1 : Nat) : Int) := nI_toInt (by omega)
  intro t t1 t2
  by_cases e : t = dn + 1
  · subst e
    simp only [upN_at]
    obtain ⟨d1, d2⟩ := h dn h1 h2
    refine ⟨fun k hk _ => ?_, fun q hq x y => (hn q hq x y).trans ⟨?_, ?_⟩⟩
    · rcases z2 k hk with ⟨i, i1, i2, i3, _⟩ | ⟨_, q, q1, q2⟩
      · obtain ⟨q, q1, q2⟩ := d1 i i1 i2
        exact ⟨q, by omega, i3.trans q2⟩
      · exact ⟨q, hS _ _ _ q2, q1⟩
    · rintro (⟨q1, r⟩ | r)
      · obtain ⟨k, k1, k2, k3, k4, k5⟩ := (d2 q q1 x y).mp r
        obtain ⟨j, j1, j2, j3, j4, j5⟩ := z1 k k1 k3
        exact ⟨j, j1, j2.trans k2, by rw [j5]; omega, j3.trans k4, j4.trans k5⟩
      · obtain ⟨j, j1, j2, j3, j4, j5⟩ := z3 q x y r
        exact ⟨j, j1, j2, by rw [j5, eT]; exact Int.le_refl _, j3, j4⟩
    · rintro ⟨j, j1, j2, j3, j4, j5⟩
      rcases z2 j j1 with ⟨i, i1, i2, i3, i4, i5, i6⟩ | ⟨_, p, p1, p2⟩
      · obtain ⟨p, p1, p2⟩ := d1 i i1 i2
        have e2 : q = p := nI_inj9 (by omega) (by omega) (j2.symm.trans (i3.trans p2))
        rw [← e2] at p1
        exact Or.inl ⟨p1, (d2 q p1 x y).mpr ⟨i, i1, i3.symm.trans j2, i2, i4.symm.trans j4, i5.symm.trans j5⟩⟩
      · have hp := hS _ _ _ p2
        have e2 : q = p := nI_inj9 (by omega) (by omega) (j2.symm.trans p1)
        rw [j4, j5, ← e2] at p2
        exact Or.inr p2
  · have t3 : t ≤ dn := by omega
    simp only [upN_o e]
    obtain ⟨d1, d2⟩ := h t t1 (by omega)
    have no : ∀ j, j < t9 → (ld1 j).toInt ≤ ((t : Nat) : Int) → ∃ i, i < ln ∧ la1 j = la i ∧ lb1 j = lb i ∧ lc1 j = lc i ∧ ld1 j = ld i := fun j hj hd => by
      rcases z2 j hj with ⟨i, i1, _, i3⟩ | ⟨r, _⟩
      · exact ⟨i, i1, i3⟩
      · rw [r, eT] at hd; omega
    refine ⟨fun k hk hd => ?_, fun q hq x y => (d2 q hq x y).trans ⟨?_, ?_⟩⟩
    · obtain ⟨i, i1, i2, i3, i4, i5⟩ := no k hk hd
      obtain ⟨q, q1, q2⟩ := d1 i i1 (by rw [← i5]; exact hd)
      exact ⟨q, q1, i2.trans q2⟩
    · rintro ⟨k, k1, k2, k3, k4, k5⟩
      obtain ⟨j, j1, j2, j3, j4, j5⟩ := z1 k k1 (by omega)
      exact ⟨j, j1, j2.trans k2, by rw [j5]; exact k3, j3.trans k4, j4.trans k5⟩
    · rintro ⟨j, j1, j2, j3, j4, j5⟩
      obtain ⟨i, i1, i2, i3, i4, i5⟩ := no j j1 j3
      exact ⟨i, i1, i2.symm.trans j2, by rw [← i5]; exact j3, i3.symm.trans j4, i4.symm.trans j5⟩
/-- a step by which nothing goes -/
theorem lsR_n (h : lsR bs T ln FT V la lb lc ld) (h1 : bs ≤ dn) (h2 : dn ≤ T) (h5 : dn ≤ 600) (hz : lsZ dn ln la lb lc ld t9 la1 lb1 lc1 ld1 (fun _ _ _ => False)) (hf : ft1 = FT dn) (hf2 : ft1 ≤ 200) :
    lsR bs (dn + 1) t9 (upN FT (dn + 1) ft1) (upN V (dn + 1) (vC (V dn) kd st gb it mn)) la1 lb1 lc1 ld1 :=
  lsR_T h h1 h2 h5 hz (fun _ _ _ z => z.elim) (by omega) hf2 (fun q hq x y => ⟨fun g => Or.inl ⟨by omega, g⟩, fun g => g.elim (fun g => g.2) (fun g => g.elim)⟩)
/-- a house is made besides -/
theorem lsR_j (h : lsR bs T ln FT V la lb lc ld) (h1 : bs ≤ dn) (h2 : dn ≤ T) (h5 : dn ≤ 600) (hz : lsZ dn ln la lb lc ld t9 la1 lb1 lc1 ld1 (fun _ _ _ => False)) {ft : Nat} (hf : ft = FT dn) (hf2 : ft + 1 ≤ 200) :
    lsR bs (dn + 1) t9 (upN FT (dn + 1) (ft + 1)) (upN V (dn + 1) (vC (gZ (V dn) ft) kd st gb it mn)) la1 lb1 lc1 ld1 := by
  refine lsR_T h h1 h2 h5 hz (fun _ _ _ z => z.elim) (by omega) hf2 (fun q hq x y => ?_)
  by_cases e : q = ft
  · subst e
    have e5 : nN (gZ (V dn) q 5 q) = 0 := by rw [gZ_5]; decide
    constructor
    · rintro ⟨i, i1, _⟩
      exact absurd (show i < 0 by rw [← e5]; exact i1) (Nat.not_lt_zero i)
    · rintro (g | g)
      · exact absurd g.1 (by omega)
      · exact g.elim
  · have o := gZ_o (g := V dn) e
    constructor
    · rintro ⟨i, i1, i2, i3⟩
      exact Or.inl ⟨by omega, i, by rw [← o 5]; exact i1, (o (i + 6)).symm.trans i2, (o (i + 50)).symm.trans i3⟩
    · rintro (⟨_, i, i1, i2, i3⟩ | g)
      · exact ⟨i, show i < nN (gZ (V dn) ft 5 q) by rw [o 5]; exact i1, (o (i + 6)).trans i2, (o (i + 50)).trans i3⟩
      · exact g.elim
/-- what is no step -/
theorem lsR_l (h : lsR bs T ln FT V la lb lc ld) (h1 : bs ≤ dn) (h2 : dn ≤ T) (hf : ft1 = FT dn) : lsR dn dn ln (fun _ => ft1) (fun _ => vC (V dn) kd st gb it mn) la lb lc ld := by
  intro t t1 t2
  have e : t = dn := by omega
  subst e
  subst hf
  exact h t h1 h2
theorem lsR_f (h : lsR bs T ln FT V la lb lc ld) (h1 : bs ≤ dn) (h2 : dn ≤ T) {ft : Nat} (hf : ft = FT dn) (hf2 : ft ≤ 200) : lsR dn dn ln (fun _ => ft + 1) (fun _ => vC (gZ (V dn) ft) kd st gb it mn) la lb lc ld := by
  intro t t1 t2
  have e : t = dn := by omega
  subst e
  obtain ⟨d1, d2⟩ := h t h1 h2
  rw [← hf] at d1 d2
  refine ⟨fun k hk hd => ?_, fun q hq x y => ?_⟩
  · obtain ⟨q, q1, q2⟩ := d1 k hk hd
    exact ⟨q, show q < ft + 1 by omega, q2⟩
  · have hq2 : q < ft + 1 := hq
    by_cases e : q = ft
    · subst e
      have e5 : nN (gZ (V t) q 5 q) = 0 := by rw [gZ_5]; decide
      constructor
      · rintro ⟨i, i1, _⟩
        exact absurd (show i < 0 by rw [← e5]; exact i1) (Nat.not_lt_zero i)
      · rintro ⟨k, k1, k2, k3, _⟩
        obtain ⟨p, p1, p2⟩ := d1 k k1 k3
        exact absurd (nI_inj9 (by omega) (by omega) (k2.symm.trans p2)) (by omega)
    · have o := gZ_o (g := V t) e
      refine Iff.trans ⟨?_, ?_⟩ (d2 q (by omega) x y)
      · rintro ⟨i, i1, i2, i3⟩
        exact ⟨i, by rw [← o 5]; exact i1, (o (i + 6)).symm.trans i2, (o (i + 50)).symm.trans i3⟩
      · rintro ⟨i, i1, i2, i3⟩
        exact ⟨i, show i < nN (gZ (V t) ft 5 q) by rw [o 5]; exact i1, (o (i + 6)).trans i2, (o (i + 50)).trans i3⟩
/-- what goes from one feature, as its numbers tell it -/
theorem gL_x {g g1 : Nat → Nat → Int32} {q n m : Nat} {X Y P Q : Nat → Int32} (h : gL g g1 q n X Y m P Q) (x y : Int32) : (∃ i, i < nN (g1 5 q) ∧ g1 (i + 6) q = x ∧ g1 (i + 50) q = y) ↔ ((∃ i, i < nN (g 5 q) ∧ g (i + 6) q = x ∧ g (i + 50) q = y) ∨ (isR n X Y x y ∧ ¬ isR m P Q x y)) := by
  obtain ⟨w, w1, a1, a2, a3, b1, b2, b3, _⟩ := h
  rw [a1, a2, nN_n9 (by omega), nN_n9 (by omega), ← b3 x y]
  constructor
  · rintro ⟨i, i1, i2, i3⟩
    rcases Nat.lt_or_ge i w with z | z
    · exact Or.inl ⟨i, z, (b1 i z).1.symm.trans i2, (b1 i z).2.symm.trans i3⟩
    · exact Or.inr ⟨i, z, i1, i2, i3⟩
  · rintro (⟨i, i1, i2, i3⟩ | ⟨i, i0, i1, i2, i3⟩)
    · exact ⟨i, by omega, (b1 i i1).1.trans i2, (b1 i i1).2.trans i3⟩
    · exact ⟨i, i1, i2, i3⟩
theorem lsR_p {gh9 : Nat → Nat → Int32} {f0 n m : Nat} {X Y P Q : Nat → Int32} (h : lsR bs T ln FT V la lb lc ld) (h1 : bs ≤ dn) (h2 : dn ≤ T) (h5 : dn ≤ 600) (hz : lsZ dn ln la lb lc ld t9 la1 lb1 lc1 ld1 (fun q x y => q = f0 ∧ isR n X Y x y ∧ ¬ isR m P Q x y)) (hf : ft1 = FT dn) (hf2 : ft1 ≤ 200) (hf0 : f0 < ft1) (hl : gL (V dn) gh9 f0 n X Y m P Q) (ho : ∀ p, p ≠ f0 → ∀ j, gh9 j p = V dn j p) :
    lsR bs (dn + 1) t9 (upN FT (dn + 1) ft1) (upN V (dn + 1) (vC gh9 kd st gb it mn)) la1 lb1 lc1 ld1 := by
  refine lsR_T h h1 h2 h5 hz (fun q x y z => by rw [z.1]; exact hf0) (by omega) hf2 (fun q hq x y => ?_)
  by_cases e : q = f0
  · subst e
    exact (gL_x hl x y).trans ⟨fun g => g.elim (fun g => Or.inl ⟨by omega, g⟩) (fun g => Or.inr ⟨rfl, g⟩), fun g => g.elim (fun g => Or.inl g.2) (fun g => Or.inr g.2)⟩
  · have o := ho q e
    constructor
    · rintro ⟨i, i1, i2, i3⟩
      exact Or.inl ⟨by omega, i, by rw [← o 5]; exact i1, (o (i + 6)).symm.trans i2, (o (i + 50)).symm.trans i3⟩
    · rintro (⟨_, i, i1, i2, i3⟩ | g)
      · exact ⟨i, show i < nN (gh9 5 q) by rw [o 5]; exact i1, (o (i + 6)).trans i2, (o (i + 50)).trans i3⟩
      · exact absurd g.1 e
theorem lsR_r {gh9 : Nat → Nat → Int32} {tn cx cy mn1 cx1 cy1 : Nat → Int32} (h : lsR bs T ln FT V la lb lc ld) (h1 : bs ≤ dn) (h2 : dn ≤ T) (h5 : dn ≤ 600) (hz : lsZ dn ln la lb lc ld t9 la1 lb1 lc1 ld1 (fun q x y => bnQ ft1 st tn kd q ∧ isR (nN (mn q)) (cF40 cx q) (cF40 cy q) x y ∧ ¬ isR (nN (mn1 q)) (cF40 cx1 q) (cF40 cy1 q) x y)) (hf : ft1 = FT dn) (hf2 : ft1 ≤ 200) (hk : ∀ q, q < ft1 → 0 ≤ (kd q).toInt ∧ (kd q).toInt ≤ 6) (hg : gR (V dn) gh9 ft1 st tn kd mn cx cy mn1 cx1 cy1) :
    lsR bs (dn + 1) t9 (upN FT (dn + 1) ft1) (upN V (dn + 1) (vC gh9 kd st gb it mn1)) la1 lb1 lc1 ld1 := by
  refine lsR_T h h1 h2 h5 hz (fun q x y z => z.1.1.1) (by omega) hf2 (fun q hq x y => ?_)
  obtain ⟨r1, r2⟩ := hg q hq
  have hkq := hk q hq
  by_cases b : lvF ft1 st tn q ∧ 1 ≤ (kd q).toInt ∧ (kd q).toInt ≤ 5
  · have hb : bnQ ft1 st tn kd q := ⟨b.1, by have := b.2; omega, by have := b.2; omega⟩
    exact (gL_x (r1 b) x y).trans ⟨fun g => g.elim (fun g => Or.inl ⟨by omega, g⟩) (fun g => Or.inr ⟨hb, g⟩), fun g => g.elim (fun g => Or.inl g.2) (fun g => Or.inr g.2)⟩
  · have o := r2 b
    constructor
    · rintro ⟨i, i1, i2, i3⟩
      exact Or.inl ⟨by omega, i, by rw [← o 5]; exact i1, (o (i + 6)).symm.trans i2, (o (i + 50)).symm.trans i3⟩
    · rintro (⟨_, i, i1, i2, i3⟩ | g)
      · exact ⟨i, show i < nN (gh9 5 q) by rw [o 5]; exact i1, (o (i + 6)).trans i2, (o (i + 50)).trans i3⟩
      · exact absurd ⟨g.1.1, by have := g.1.2; omega, by have := g.1.2; omega⟩ b
end
theorem XM_red {Q : Int → Int → Prop} {u d U D : Nat} (h : XM Q ((u : Nat) : Int) ((d : Nat) : Int)) (g : XM Q ((U : Nat) : Int) ((D : Nat) : Int)) (hd : 1 ≤ d) (hD : 1 ≤ D) : u / Nat.gcd u d = U / Nat.gcd U D ∧ d / Nat.gcd u d = D / Nat.gcd U D := by
  have e := XM_eq h g
  exact red9 hd hD (by exact_mod_cast e)
theorem XM_red0 {Q : Int → Int → Prop} {u d U D : Nat} (h : XM Q ((u : Nat) : Int) ((d : Nat) : Int)) (g : XM Q ((U : Nat) : Int) ((D : Nat) : Int)) (hd : u ≤ 4000000000000 ∧ 1 ≤ d ∧ d ≤ 2000000) (hD : U ≤ 4000000000000 ∧ 1 ≤ D ∧ D ≤ 2000000) : jI ((u / Nat.gcd u d : Nat) : Int) = jI ((U / Nat.gcd U D : Nat) : Int) := by
  rw [(XM_red h g hd.2.1 hD.2.1).1]
theorem XM_red1 {Q : Int → Int → Prop} {u d U D : Nat} (h : XM Q ((u : Nat) : Int) ((d : Nat) : Int)) (g : XM Q ((U : Nat) : Int) ((D : Nat) : Int)) (hd : u ≤ 4000000000000 ∧ 1 ≤ d ∧ d ≤ 2000000) (hD : U ≤ 4000000000000 ∧ 1 ≤ D ∧ D ≤ 2000000) : jI ((d / Nat.gcd u d : Nat) : Int) = jI ((D / Nat.gcd U D : Nat) : Int) := by
  rw [(XM_red h g hd.2.1 hD.2.1).2]
end
section
/-! corners beyond a row's own do not matter -/
def agC (ft : Nat) (mn cx cy cx1 cy1 : Nat → Int32) : Prop := ∀ q, q < ft → ∀ k, k < nN (mn q) → cF40 cx1 q k = cF40 cx q k ∧ cF40 cy1 q k = cF40 cy q k
section
variable {cI cO : ClassId} {L : List Nat} {f : Nat → va_E} {e0 ea : Nat} {FA : Nat → Option Nat} {bs dn T ft : Nat} {FT : Nat → Nat} {V : Nat → Nat → Nat → Int32} {VX VY : Nat → Nat → Int32} {tn rk wd tw pa pb wh of9 we kd st gb it mn cx cy cx1 cy1 : Nat → Int32} {sa sh lb lc : Nat → Int32} {W cc : Nat → Nat} {K Sn AD C cp ln cl : Nat}
theorem shB_cx (h : shB cI cO L f e0 FA ea bs dn T ft FT V VX VY tn rk wd tw pa pb wh of9 we kd st gb it mn cx cy) (ha : agC ft mn cx cy cx1 cy1) : shB cI cO L f e0 FA ea bs dn T ft FT V VX VY tn rk wd tw pa pb wh of9 we kd st gb it mn cx1 cy1 := by
  obtain ⟨own, fe, cl, la, sp, SA, ⟨h1, h2, h3, h4, h5, h6, h7⟩, h8, h9⟩ := h
  refine ⟨own, fe, cl, la, sp, SA, ⟨h1, fun q hq => ?_, h3, h4, h5, h6, h7⟩, fun q hq => ?_, h9⟩
  · obtain ⟨we9, rv, g1, g2, g3, g4⟩ := h2 q hq
    refine ⟨we9, rv, g1, g2, g3, g4.1, fun h0 => ?_⟩
    obtain ⟨r, rx, ry, cap, X, Y, i1, i2, i3, i4, i5, i6, i7⟩ := g4.2 h0
    exact ⟨r, rx, ry, cap, X, Y, i1, i2, i3, i4, i5, fun k hk => ⟨(i6 k hk).1.trans (ha q hq k hk).1.symm, (i6 k hk).2.trans (ha q hq k hk).2.symm⟩, i7⟩
  · obtain ⟨b1, b2, b3, b4, b5⟩ := h8 q hq
    exact ⟨b1, b2, b3, b4, fun s t => ⟨(b5 s t).1, fun k hk => ⟨((b5 s t).2 k hk).1.trans (ha q hq k hk).1.symm, ((b5 s t).2 k hk).2.trans (ha q hq k hk).2.symm⟩⟩⟩
theorem INV_cx (h : INV K Sn AD C cc W bs T ft cp ln cl FT V VX VY tn rk wd tw pa pb kd st it mn cx cy sa sh lb lc) (ha : agC ft mn cx cy cx1 cy1) : INV K Sn AD C cc W bs T ft cp ln cl FT V VX VY tn rk wd tw pa pb kd st it mn cx1 cy1 sa sh lb lc := by
  obtain ⟨⟨a1, a2, a3, a4⟩, b⟩ := h
  refine ⟨⟨fun q hq => ?_, a2, a3, a4⟩, b⟩
  obtain ⟨w1, w2, w3, w4⟩ := a1 q hq
  refine ⟨w1, w2, fun t => ?_, w4⟩
  obtain ⟨⟨c1, c2, c3, c4⟩, c5⟩ := w3 t
  have hc2 : ∀ k, k < nN (mn q) → cF40 cx q k = cF40 cx1 q k ∧ cF40 cy q k = cF40 cy1 q k := fun k hk => ⟨(ha q hq k hk).1.symm, (ha q hq k hk).2.symm⟩
  exact ⟨⟨c1, c2, c3, (pls_cg hc2).mp c4⟩, fun s => mSm_cg hc2 (c5 s)⟩
theorem ag_sq {f0 : Nat} {z1 z2 z3 z4 : Int32} (h40 : ∀ q, q < ft → nN (mn q) ≤ 40) (hf : f0 < ft) : agC ft mn cx cy (fgX f0 (nN (mn f0)) (cF40 cx f0) (bxX f0 z1 z3 4 cx)) (fgX f0 (nN (mn f0)) (cF40 cy f0) (bxY f0 z2 z4 4 cy)) := fun q hq k hk => by
  have h4 := h40 q hq
  have h5 := h40 f0 hf
  by_cases e : q = f0
  · subst e
    exact ⟨fgX_f k hk, fgX_f k hk⟩
  · exact ⟨show fgX f0 (nN (mn f0)) (cF40 cx f0) (bxX f0 z1 z3 4 cx) (40 * q + k) = cx (40 * q + k) from (fgX_o (by omega)).trans (bxX_o (by omega)), show fgX f0 (nN (mn f0)) (cF40 cy f0) (bxY f0 z2 z4 4 cy) (40 * q + k) = cy (40 * q + k) from (fgX_o (by omega)).trans (bxY_o (by omega))⟩
end
/-! bounds that every outcome of the law asks for -/
theorem r9_k {k L : Nat} (h : 6 * k + 6 ≤ L) (g : L ≤ 3072) : k + 1 ≤ 512 := by omega
theorem r9_s {AD C Sn K : Nat} (h : AD + C + Sn ≤ K) (g : K + 1 ≤ 512) : AD + C + Sn ≤ 512 ∧ Sn + C ≤ 514 ∧ AD + C + (Sn + 1) ≤ 512 := by omega
theorem r9_d {AD C Sn K T dn : Nat} (h : AD + C + Sn ≤ K ∧ T ≤ Sn) (g : K + 1 ≤ 512) (d : dn ≤ T) : dn + 1 ≤ 512 := by omega
theorem r9_c {cl b : Nat} (h : cl = 1 ∨ 32 * cl ≤ b) (g : b ≤ 66049) : cl ≤ 100000 := by omega
theorem r9_l {cl a b : Nat} (h : cl = 1 ∨ 32 * cl ≤ a) (g : a ≤ b) : cl = 1 ∨ 32 * cl ≤ b := by omega
end
section
-- ===== end of PART A; then your names; then what follows =====
/-! THE CLAIM OUT OF ONE WALK OF THE LAW'S BODY. Your part is whole_start (and what it stands on); all else here is the same for every law, but numbers. -/
def R_law : String := "ScaleShopLaw"
def lw_P (b : Addr) (xs : List Int32) (args : Array Value) (s : State) : Prop := args = #[.ref b] ∧ s.IntsAt b xs ∧ xs.length ≤ 3072 ∧ (Jvm.Cond.and given_1 narrow_1).before args s = true
def lw_Q (_ : Array Value) (s : State) (o : Outcome) (t : State) : Prop := o = .returned (some (.int 1)) ∧ Framed s o t [] 600000 7302250
def lw_Z (below : List Frame) (a : Array Value) (s : State) : State → Prop := fun t => ∃ o, t.status = .running ∧ Ended t below o ∧ lw_Q a s o t
/-- the law's own end, with 1 on the stack, nothing written that was there before, its room as the claim has it -/
theorem lw_ret {p : Program} {l : Launch} {e : Env} {s : State} {m : MethodId} {below : List Frame} {meth : Method} {c : Code} {b : Nat} (hx : p.tables.exec = Jvm.exec) (hb : c.code = code) (hr : meth.sig.returnType = ret) (hlocks : meth.locks = false) {pc : Nat} {H : Heap} {ls : Array Slot} (hdg : decode code pc = .ok (.ireturn, 1)) : W p l e room_1 s m #[Value.ref b] below meth c H [] 600000 7302250 (lw_Z below #[Value.ref b] s) (F0 m pc ls [.int 1]) := by
  intro T hT X
  obtain ⟨fs, hret, hrun, hended, hW, hframe⟩ := X.leave (v := some (.int 1)) (hlocks := hlocks) (fun h => by rw [hr] at h; cases h)
  have hmeth' : T.vm.method? m = some meth := X.method'
  refine ⟨T.setFrames fs, ?_, .returned (some (.int 1)), hrun, hended, rfl, ⟨_, rfl⟩, hW, hframe⟩
  jvm_step X.here [X.here.top, hx, hb, hdg, hmeth', hr, ret, narrow_b1]
  (try refine ⟨rfl, ?_⟩); (try refine ⟨rfl, ?_⟩)
  first | (intro acts; rw [hret _ acts rfl rfl rfl]) | rw [hret _ _ rfl rfl rfl]
  exact Steps.refl _
/-- what holds at the law's entry: the machine, the code, the tables' words (any of lw_tbl by 'hts w (by decide +kernel)'), the script of L ints xs at the cell b, what the Statement gives of the start (any of its parts by flat_of_before) -/
def lw_At (p : Program) (s : State) (m : MethodId) (meth : Method) (c : Code) (b L : Nat) (xs : Nat → Int32) : Prop :=
  p.tables.exec = Jvm.exec ∧ c.code = code ∧ meth.sig.returnType = ret ∧ c.maxLocals = 4 ∧ s.vm.findClass R_law = some m.cls ∧ (∀ w ∈ lw_tbl, w.before #[Value.ref b] s = true) ∧ va_X b L xs s s.heap ∧ b < s.heap.size ∧ meth.locks = false ∧ (Jvm.Cond.and given_1 narrow_1).before #[Value.ref b] s = true
end
