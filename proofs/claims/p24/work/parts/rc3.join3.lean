section
set_option maxHeartbeats 4000000 in
set_option maxRecDepth 100000 in
theorem k_M_join_7 (l : Launch) (dC : Nat → ClassId) (dI : Nat → Nat → Nat) (cI cZ cF : ClassId) (sz : Nat) (k0 : Nat) (a : Nat → Nat) (I0 : Nat → Int32) (J0 : Nat → Int64) (f : Nat) (n : Nat) (g : Nat) (m2 : Nat) (ft : Nat) (gp9 : Int32) (st : Nat → Int32) (tn : Nat → Int32) (kd : Nat → Int32) (mn : Nat → Int32) (cx : Nat → Int32) (cy : Nat → Int32) (S0 : Nat → Int32) (hft : I0 0 = nI ft) (h200 : ft ≤ 200) (hf_f : f ≤ 200) (hm_f : mn f = nI n) (hn_f : 1 ≤ n ∧ n ≤ 40) (hp_f : pls n (cF40 cx f) (cF40 cy f)) (hf_g : g ≤ 200) (hm_g : mn g = nI m2) (hn_g : 1 ≤ m2 ∧ m2 ≤ 40) (hp_g : pls m2 (cF40 cx g) (cF40 cy g)) (hf_t : f < ft) (hg_t : g < ft) (hok : ((st f).toInt = 1 ∧ (st g).toInt = 1) ∧ ((kd f).toInt = 6 ∧ (kd g).toInt = 6) ∧ (0 ≤ gp9.toInt ∧ gp9.toInt ≤ 1000) ∧ ((tn f).toInt = 0 ∧ (tn g).toInt = 0)) (he_f : 1 ≤ eO (kd f).toInt n) (he_g : 1 ≤ eO (kd g).toInt m2) (hwf : ∀ q, lvF ft st tn q → wfM mn cx cy q) (hnf : ¬ (¬ mtF (kd f).toInt n (cF40 cx f) (cF40 cy f) (kd g).toInt m2 (cF40 cx g) (cF40 cy g) ∧ ∀ u d : Nat, 1 ≤ d → IM (dcP n (cF40 cx f) (cF40 cy f) m2 (cF40 cx g) (cF40 cy g) (eO (kd g).toInt m2) (eO (kd f).toInt n) 0) ((u : Nat) : Int) ((d : Nat) : Int) → gp9.toInt * gp9.toInt * ((d : Nat) : Int) < ((u : Nat) : Int))) (hno : ¬ jFr ft st tn (upd kd 200 6) (upd mn 200 4) (bxX 200 ((jlo cx f n g m2)) ((jhi cx f n g m2)) 4 cx) (bxY 200 ((jlo cy f n g m2)) ((jhi cy f n g m2)) 4 cy) f g ft) : zM l yX11_join cX11_join 9 (some .int) ({ frames := 5, cells := 0, slots := 0, locals := 129 } : Room) [.ref k0, .int (nI f), .int (nI g), .int gp9] (dC, dI) (zTy cI cZ cF) [(om k0 a I0 J0), (oa (a 5) cI 201 st), (oa (a 6) cZ 201 tn), (oa (a 1) cI 201 kd), (oa (a 11) cI 201 mn), (oa (a 12) cI 8040 cx), (oa (a 13) cI 8040 cy), (oa (a 32) cI 8 S0)] sz (some (.int (-1))) (fun A t => ∃ (uq : Nat), ∃ (dq : Nat), ∃ (S1 : Nat → Int32), ∃ (x1 : Int32), ∃ (x2 : Int32), ∃ (x3 : Int32), ∃ (x4 : Int32), (x1 = jlo cx f n g m2) ∧ (x2 = jlo cy f n g m2) ∧ (x3 = jhi cx f n g m2) ∧ (x4 = jhi cy f n g m2) ∧ zPD (dC, dI) classes A [(om k0 a (upd (upd (upd (upd (upd (upd I0 14 7) 15 (I0 15 + 1)) 44 x1) 45 x2) 46 x3) 47 x4) (vp_updL (vp_updL J0 48 (jI ((uq : Nat) : Int))) 49 (jI ((dq : Nat) : Int)))), (oa (a 5) cI 201 st), (oa (a 6) cZ 201 tn), (oa (a 1) cI 201 (upd kd 200 6)), (oa (a 11) cI 201 (upd mn 200 4)), (oa (a 12) cI 8040 (bxX 200 (x1) (x3) 4 cx)), (oa (a 13) cI 8040 (bxY 200 (x2) (x4) 4 cy)), (oa (a 32) cI 8 S1)] t.heap) 0 0 := by
  refine zIn (own := "ScaleShopModel") (loc := [(0, .ref k0), (1, .int (nI f)), (2, .int (nI g)), (3, .int gp9)]) rfl rfl rfl rfl (fun p e s m below meth c hx hb hr hts hown hlocks hml hnm9 A hA hS hP hD hK hXN Q9 hQ9 ls hl => ?_)
  refine lv_aload_n hx hb dX11_join_0 rfl (lv_at hl 0 rfl) ?_
  refine lv_iload_n hx hb dX11_join_1 rfl (lv_at hl 1 rfl) ?_
  obtain ⟨hPc, hDc, hFc, hI1⟩ := zi_sub (wc := [_]) hP hD hS hA [0] rfl rfl
  refine zcall (st1 := [.int (pI (f < ft))]) (va_runV (As := [.int (nI f)]) (rest := []) ⟨hx, hb, hml, hown, hts⟩ (k_M_isFeature_n l dC dI cI cZ cF s.heap.size k0 a I0 J0 f ft (by first | with_reducible assumption | assumption) (by first | with_reducible assumption | omega) (by first | with_reducible assumption | omega)) (csV_178 hts rfl rfl ⟨Nat.le_of_ble_eq_true rfl, Nat.le_of_ble_eq_true rfl⟩) (zPV2 (q0 := 0) (ci := 9) hPc hDc hK hXN rfl rfl) rfl rfl hl.1 rfl (lv_room (Nat.le_of_ble_eq_true rfl)) dX11_join_2 ⟨Nat.le_of_ble_eq_true rfl, Nat.le_of_ble_eq_true rfl⟩) hS hFc hFc rfl (fun t H locs ht hB hk1 hS => ?_)
  obtain ⟨hP1, hD1⟩ := hB
  rw [ht] at hP1
  replace hP := z0 hP hD hk1 hP1 hI1
  clear hk1 hPc hDc hFc hP1 hD1 ht hI1
  refine lv_if_eq (tgt := 16) hx hb dX11_join_5 rfl (fun c_1 => ?_) (fun c_1 => ?_)
  · have c_1 : ¬ (f < ft) := zp_0 c_1
    exfalso; omega
  · have c_1 : f < ft := zp_1 c_1
    refine lv_aload_n hx hb dX11_join_8 rfl (lv_at hl 0 rfl) ?_
    refine lv_iload_n hx hb dX11_join_9 rfl (lv_at hl 2 rfl) ?_
    obtain ⟨hPc, hDc, hFc, hI1⟩ := zi_sub (wc := [_]) hP hD hS hA [0] rfl rfl
    refine zcall (st1 := [.int (pI (g < ft))]) (va_runV (As := [.int (nI g)]) (rest := []) ⟨hx, hb, hml, hown, hts⟩ (k_M_isFeature_n l dC dI cI cZ cF H.size k0 a I0 J0 g ft (by first | with_reducible assumption | assumption) (by first | with_reducible assumption | omega) (by first | with_reducible assumption | omega)) (csV_178 hts rfl rfl ⟨Nat.le_of_ble_eq_true rfl, Nat.le_of_ble_eq_true rfl⟩) (zPV2 (q0 := 0) (ci := 9) hPc hDc hK hXN rfl rfl) rfl rfl hl.1 rfl (lv_room (Nat.le_of_ble_eq_true rfl)) dX11_join_10 ⟨Nat.le_of_ble_eq_true rfl, Nat.le_of_ble_eq_true rfl⟩) hS hFc hFc rfl (fun t H locs ht hB hk1 hS => ?_)
    obtain ⟨hP1, hD1⟩ := hB
    rw [ht] at hP1
    replace hP := z0 hP hD hk1 hP1 hI1
    clear hk1 hPc hDc hFc hP1 hD1 ht hI1
    refine lv_if_ne (tgt := 20) hx hb dX11_join_13 rfl (fun c_2 => ?_) (fun c_2 => ?_)
    · have c_2 : g < ft := zp_1 c_2
      refine lv_aload_n hx hb dX11_join_20 rfl (lv_at hl 0 rfl) ?_
      refine va_get (D := (dC, dI)) (ci := 9) (v := .ref (a 5)) (C := RX11) (T := TX11) (N := 55) hx hb hts inX11 hown hK hP 0 rfl rfl 5 (Nat.le_of_ble_eq_true rfl) (hts _ mw_1164) (fun _ h9 => h9) rfl dX11_join_21 ?_
      refine lv_iload_n hx hb dX11_join_24 rfl (lv_at hl 1 rfl) ?_
      have b9_3 : f < 201 := by omega
      refine z_iald hx hb hK hP 1 0 rfl rfl (e := f) rfl b9_3 (Nat.le_of_ble_eq_true rfl) dX11_join_25 ?_
      refine lv_iconst (v := 1) hx hb dX11_join_26 rfl ?_
      refine lv_icmp_ne (tgt := 40) hx hb dX11_join_27 rfl (fun c_4 => ?_) (fun c_4 => ?_)
      · have c_4 : ¬ (st f).toInt = 1 := zc_ne rfl rfl c_4
        exfalso; omega
      · have c_4 : (st f).toInt = 1 := zc_eq rfl rfl c_4
        refine lv_aload_n hx hb dX11_join_30 rfl (lv_at hl 0 rfl) ?_
        refine va_get (D := (dC, dI)) (ci := 9) (v := .ref (a 5)) (C := RX11) (T := TX11) (N := 55) hx hb hts inX11 hown hK hP 0 rfl rfl 5 (Nat.le_of_ble_eq_true rfl) (hts _ mw_1164) (fun _ h9 => h9) rfl dX11_join_31 ?_
        refine lv_iload_n hx hb dX11_join_34 rfl (lv_at hl 2 rfl) ?_
        have b9_5 : g < 201 := by omega
        refine z_iald hx hb hK hP 1 0 rfl rfl (e := g) rfl b9_5 (Nat.le_of_ble_eq_true rfl) dX11_join_35 ?_
        refine lv_iconst (v := 1) hx hb dX11_join_36 rfl ?_
        refine lv_icmp_eq (tgt := 44) hx hb dX11_join_37 rfl (fun c_6 => ?_) (fun c_6 => ?_)
        · have c_6 : (st g).toInt = 1 := zc_eq rfl rfl c_6
          refine lv_iconst (v := 0) hx hb dX11_join_44 rfl ?_
          refine lv_istore (lv' := [(4, .int 0), (0, .ref k0), (1, .int (nI f)), (2, .int (nI g)), (3, .int gp9)]) hx hb dX11_join_45 hl (Nat.le_of_ble_eq_true rfl) rfl (fun ls hl => ?_)
          refine lv_iload hx hb dX11_join_47 (lv_at hl 0 rfl) ?_
          refine lv_if_le (tgt := 57) hx hb dX11_join_49 rfl (fun c_7 => ?_) (fun c_7 => ?_)
          · refine lv_aload_n hx hb dX11_join_57 rfl (lv_at hl 1 rfl) ?_
            refine va_get (D := (dC, dI)) (ci := 9) (v := .ref (a 1)) (C := RX11) (T := TX11) (N := 55) hx hb hts inX11 hown hK hP 0 rfl rfl 1 (Nat.le_of_ble_eq_true rfl) (hts _ mw_1160) (fun _ h9 => h9) rfl dX11_join_58 ?_
            refine lv_iload_n hx hb dX11_join_61 rfl (lv_at hl 2 rfl) ?_
            refine z_iald hx hb hK hP 3 0 rfl rfl (e := f) rfl b9_3 (Nat.le_of_ble_eq_true rfl) dX11_join_62 ?_
            refine lv_bipush (v := 6) hx hb dX11_join_63 rfl ?_
            refine lv_icmp_ne (tgt := 79) hx hb dX11_join_65 rfl (fun c_8 => ?_) (fun c_8 => ?_)
            · have c_8 : ¬ (kd f).toInt = 6 := zc_ne rfl rfl c_8
              exfalso; omega
            · have c_8 : (kd f).toInt = 6 := zc_eq rfl rfl c_8
              refine lv_aload_n hx hb dX11_join_68 rfl (lv_at hl 1 rfl) ?_
              refine va_get (D := (dC, dI)) (ci := 9) (v := .ref (a 1)) (C := RX11) (T := TX11) (N := 55) hx hb hts inX11 hown hK hP 0 rfl rfl 1 (Nat.le_of_ble_eq_true rfl) (hts _ mw_1160) (fun _ h9 => h9) rfl dX11_join_69 ?_
              refine lv_iload_n hx hb dX11_join_72 rfl (lv_at hl 3 rfl) ?_
              refine z_iald hx hb hK hP 3 0 rfl rfl (e := g) rfl b9_5 (Nat.le_of_ble_eq_true rfl) dX11_join_73 ?_
              refine lv_bipush (v := 6) hx hb dX11_join_74 rfl ?_
              refine lv_icmp_eq (tgt := 83) hx hb dX11_join_76 rfl (fun c_9 => ?_) (fun c_9 => ?_)
              · have c_9 : (kd g).toInt = 6 := zc_eq rfl rfl c_9
                refine lv_iload_n hx hb dX11_join_83 rfl (lv_at hl 4 rfl) ?_
                refine lv_if_lt (tgt := 94) hx hb dX11_join_84 rfl (fun c_10 => ?_) (fun c_10 => ?_)
                · have c_10 : gp9.toInt < 0 := zc_lt rfl rfl c_10
                  exfalso; omega
                · have c_10 : 0 ≤ gp9.toInt := zc_nlt rfl rfl c_10
                  refine lv_iload_n hx hb dX11_join_87 rfl (lv_at hl 4 rfl) ?_
                  refine lv_sipush (v := 1000) hx hb dX11_join_88 rfl ?_
                  refine lv_icmp_le (tgt := 98) hx hb dX11_join_91 rfl (fun c_11 => ?_) (fun c_11 => ?_)
                  · have c_11 : gp9.toInt ≤ 1000 := zc_le rfl rfl c_11
                    refine lv_aload_n hx hb dX11_join_98 rfl (lv_at hl 1 rfl) ?_
                    refine va_get (D := (dC, dI)) (ci := 9) (v := .ref (a 6)) (C := RX11) (T := TX11) (N := 55) hx hb hts inX11 hown hK hP 0 rfl rfl 6 (Nat.le_of_ble_eq_true rfl) (hts _ mw_1165) (fun _ h9 => h9) rfl dX11_join_99 ?_
                    refine lv_iload_n hx hb dX11_join_102 rfl (lv_at hl 2 rfl) ?_
                    refine z_zald hx hb hK hP 2 1 rfl rfl (e := f) rfl b9_3 (Nat.le_of_ble_eq_true rfl) dX11_join_103 ?_
                    refine lv_if_ne (tgt := 116) hx hb dX11_join_104 rfl (fun c_12 => ?_) (fun c_12 => ?_)
                    · have c_12 : ¬ (tn f).toInt = 0 := zc_ne rfl rfl c_12
                      exfalso; omega
                    · have c_12 : (tn f).toInt = 0 := zc_eq rfl rfl c_12
                      refine lv_aload_n hx hb dX11_join_107 rfl (lv_at hl 1 rfl) ?_
                      refine va_get (D := (dC, dI)) (ci := 9) (v := .ref (a 6)) (C := RX11) (T := TX11) (N := 55) hx hb hts inX11 hown hK hP 0 rfl rfl 6 (Nat.le_of_ble_eq_true rfl) (hts _ mw_1165) (fun _ h9 => h9) rfl dX11_join_108 ?_
                      refine lv_iload_n hx hb dX11_join_111 rfl (lv_at hl 3 rfl) ?_
                      refine z_zald hx hb hK hP 2 1 rfl rfl (e := g) rfl b9_5 (Nat.le_of_ble_eq_true rfl) dX11_join_112 ?_
                      refine lv_if_eq (tgt := 120) hx hb dX11_join_113 rfl (fun c_13 => ?_) (fun c_13 => ?_)
                      · have c_13 : (tn g).toInt = 0 := zc_eq rfl rfl c_13
                        refine lv_iconst (v := 0) hx hb dX11_join_120 rfl ?_
                        refine lv_istore (lv' := [(4, .int 0), (0, .ref k0), (1, .int (nI f)), (2, .int (nI g)), (3, .int gp9)]) hx hb dX11_join_121 hl (Nat.le_of_ble_eq_true rfl) rfl (fun ls hl => ?_)
                        refine lv_iload hx hb dX11_join_123 (lv_at hl 0 rfl) ?_
                        refine lv_if_le (tgt := 135) hx hb dX11_join_125 rfl (fun c_14 => ?_) (fun c_14 => ?_)
                        · refine lv_aload_n hx hb dX11_join_135 rfl (lv_at hl 1 rfl) ?_
                          refine lv_iload_n hx hb dX11_join_136 rfl (lv_at hl 2 rfl) ?_
                          refine lv_iload_n hx hb dX11_join_137 rfl (lv_at hl 3 rfl) ?_
                          obtain ⟨hPc, hDc, hFc⟩ := zo_sub (wc := [_, _, _, _, _, _]) hP hD hS hA [0, 3, 4, 5, 6, 7] (by decide +kernel) rfl
                          refine zcall (st1 := []) (va_runV (As := [.int (nI f), .int (nI g)]) (rest := []) ⟨hx, hb, hml, hown, hts⟩ (k_M_distance_a l dC dI cI cZ cF H.size k0 a I0 J0 f n g m2 kd mn cx cy S0 (by first | with_reducible assumption | omega) (by first | with_reducible assumption | assumption) (by first | with_reducible assumption | omega) (by first | with_reducible assumption | assumption) (by first | with_reducible assumption | omega) (by first | with_reducible assumption | assumption) (by first | with_reducible assumption | omega) (by first | with_reducible assumption | assumption) (he_f) (he_g)) (csV_226 hts rfl rfl ⟨Nat.le_of_ble_eq_true rfl, Nat.le_of_ble_eq_true rfl⟩) (zPV2 (q0 := 0) (ci := 9) hPc hDc hK hXN rfl rfl) rfl rfl hl.1 rfl (lv_room (Nat.le_of_ble_eq_true rfl)) dX11_join_138 ⟨Nat.le_of_ble_eq_true rfl, Nat.le_of_ble_eq_true rfl⟩) hS hFc hFc rfl (fun t H locs ht hB hk1 hS => ?_)
                          obtain ⟨uq, dq, S2, hfr, hub, hP1, hD1⟩ := hB
                          rw [ht] at hP1
                          obtain ⟨hP, hD⟩ := zn (W2 := [(om k0 a I0 (vp_updL (vp_updL J0 48 (jI ((uq : Nat) : Int))) 49 (jI ((dq : Nat) : Int)))), _, _, _, _, _, _, (oa (a 32) cI 8 S2)]) hP hD hk1 hFc hP1 hD1 [0, 3, 4, 5, 6, 7] [false, true, true] zl_146 [0, 3, 4, 5, 6, 7] (by decide +kernel) rfl rfl rfl rfl rfl
                          clear hk1 hPc hDc hFc hP1 hD1 ht
                          have hgb := gpB9 (g := gp9) (D := dq) hok.2.2.1 (by omega)
                          have hf9 := hfr (gp9.toInt * gp9.toInt) (by omega)
                          refine lv_aload_n hx hb dX11_join_141 rfl (lv_at hl 1 rfl) ?_
                          refine va_get (D := (dC, dI)) (ci := 9) (v := .long (jI ((uq : Nat) : Int))) (C := RX11) (T := TX11) (N := 55) hx hb hts inX11 hown hK hP 0 rfl rfl 48 (Nat.le_of_ble_eq_true rfl) (hts _ mw_1207) (fun _ h9 => h9) rfl dX11_join_142 ?_
                          refine lv_iload_n hx hb dX11_join_145 rfl (lv_at hl 4 rfl) ?_
                          refine lv_i2l (v := gp9.toInt64) hx hb dX11_join_146 (rfl) ?_
                          refine lv_iload_n hx hb dX11_join_147 rfl (lv_at hl 4 rfl) ?_
                          refine lv_i2l (v := gp9.toInt64) hx hb dX11_join_148 (rfl) ?_
                          refine lv_lmul hx hb dX11_join_149 ?_
                          refine lv_aload_n hx hb dX11_join_150 rfl (lv_at hl 1 rfl) ?_
                          refine va_get (D := (dC, dI)) (ci := 9) (v := .long (jI ((dq : Nat) : Int))) (C := RX11) (T := TX11) (N := 55) hx hb hts inX11 hown hK hP 0 rfl rfl 49 (Nat.le_of_ble_eq_true rfl) (hts _ mw_1208) (fun _ h9 => h9) rfl dX11_join_151 ?_
                          refine lv_lmul hx hb dX11_join_154 ?_
                          refine zz_l (v := jI (gp9.toInt * gp9.toInt * ((dq : Nat) : Int))) (gpL hok.2.2.1 (by omega)) ?_
                          refine W.lcmp hx hb dX11_join_155 ?_
                          refine lv_if_le (tgt := 165) hx hb dX11_join_156 rfl (fun c_15 => ?_) (fun c_15 => ?_)
                          · have c_15 : ((uq : Nat) : Int) ≤ (gp9.toInt * gp9.toInt * ((dq : Nat) : Int)) := zl_le (jI_toInt (by omega)) (jI_toInt (by omega)) c_15
                            refine lv_aload_n hx hb dX11_join_165 rfl (lv_at hl 1 rfl) ?_
                            refine lv_iload_n hx hb dX11_join_166 rfl (lv_at hl 2 rfl) ?_
                            refine lv_iconst (v := 1) hx hb dX11_join_167 rfl ?_
                            obtain ⟨hPc, hDc, hFc⟩ := zo_sub (wc := [_, _, _, _]) hP hD hS hA [0, 4, 5, 6] (by decide +kernel) rfl
                            refine zcall (st1 := []) (va_runV (As := [.int (nI f), .int 1]) (rest := []) ⟨hx, hb, hml, hown, hts⟩ (k_M_box_v l dC dI cI cZ cF H.size k0 a I0 (vp_updL (vp_updL J0 48 (jI ((uq : Nat) : Int))) 49 (jI ((dq : Nat) : Int))) f n mn cx cy (by first | with_reducible assumption | omega) (by first | with_reducible assumption | assumption) (by first | with_reducible assumption | omega) (by first | with_reducible assumption | assumption)) (csV_221 hts rfl rfl ⟨Nat.le_of_ble_eq_true rfl, Nat.le_of_ble_eq_true rfl⟩) (zPV2 (q0 := 0) (ci := 9) hPc hDc hK hXN rfl rfl) rfl rfl hl.1 rfl (lv_room (Nat.le_of_ble_eq_true rfl)) dX11_join_168 ⟨Nat.le_of_ble_eq_true rfl, Nat.le_of_ble_eq_true rfl⟩) hS hFc hFc rfl (fun t H locs ht hB hk1 hS => ?_)
                            obtain ⟨y1, y2, y3, y4, ea1, ea2, ea3, ea4, hP1, hD1⟩ := hB
                            rw [ht] at hP1
                            obtain ⟨hP, hD⟩ := zn (W2 := [(om k0 a (upd (upd (upd (upd I0 44 y1) 45 y2) 46 y3) 47 y4) (vp_updL (vp_updL J0 48 (jI ((uq : Nat) : Int))) 49 (jI ((dq : Nat) : Int)))), _, _, _, _, _, _, _]) hP hD hk1 hFc hP1 hD1 [0, 4, 5, 6] zl_251 zl_251 [0, 4, 5, 6] (by decide +kernel) rfl rfl rfl rfl rfl
                            clear hk1 hPc hDc hFc hP1 hD1 ht
                            refine lv_aload_n hx hb dX11_join_171 rfl (lv_at hl 1 rfl) ?_
                            refine lv_iload_n hx hb dX11_join_172 rfl (lv_at hl 3 rfl) ?_
                            refine lv_iconst (v := 0) hx hb dX11_join_173 rfl ?_
                            obtain ⟨hPc, hDc, hFc⟩ := zo_sub (wc := [_, _, _, _]) hP hD hS hA [0, 4, 5, 6] (by decide +kernel) rfl
                            refine zcall (st1 := []) (va_runV (As := [.int (nI g), .int 0]) (rest := []) ⟨hx, hb, hml, hown, hts⟩ (k_M_box_w l dC dI cI cZ cF H.size k0 a (upd (upd (upd (upd I0 44 y1) 45 y2) 46 y3) 47 y4) (vp_updL (vp_updL J0 48 (jI ((uq : Nat) : Int))) 49 (jI ((dq : Nat) : Int))) g m2 y1 y2 y3 y4 mn cx cy (by first | with_reducible assumption | omega) (by first | with_reducible assumption | assumption) (by first | with_reducible assumption | omega) (by first | with_reducible assumption | assumption)) (csV_221 hts rfl rfl ⟨Nat.le_of_ble_eq_true rfl, Nat.le_of_ble_eq_true rfl⟩) (zPV2 (q0 := 0) (ci := 9) hPc hDc hK hXN rfl rfl) rfl rfl hl.1 rfl (lv_room (Nat.le_of_ble_eq_true rfl)) dX11_join_174 ⟨Nat.le_of_ble_eq_true rfl, Nat.le_of_ble_eq_true rfl⟩) hS hFc hFc rfl (fun t H locs ht hB hk1 hS => ?_)
                            obtain ⟨x1, x2, x3, x4, eb1, eb2, eb3, eb4, hP1, hD1⟩ := hB
                            rw [ht] at hP1
                            obtain ⟨hP, hD⟩ := zn (W2 := [(om k0 a (upd (upd (upd (upd I0 44 x1) 45 x2) 46 x3) 47 x4) (vp_updL (vp_updL J0 48 (jI ((uq : Nat) : Int))) 49 (jI ((dq : Nat) : Int)))), _, _, _, _, _, _, _]) hP hD hk1 hFc hP1 hD1 [0, 4, 5, 6] zl_251 zl_251 [0, 4, 5, 6] (by decide +kernel) rfl rfl rfl rfl rfl
                            clear hk1 hPc hDc hFc hP1 hD1 ht
                            have h0f := hp_f 0 (by omega)
                            unfold pl at h0f
                            have mA := mnP h0f.1 hp_f n (Nat.le_refl _)
                            have mB := mnP h0f.2 hp_f n (Nat.le_refl _)
                            have ej1 : x1 = jlo cx f n g m2 := jlo_e rfl ea1 mA.1 eb1
                            have ej2 : x2 = jlo cy f n g m2 := jlo_e rfl ea2 mB.2.1 eb2
                            have ej3 : x3 = jhi cx f n g m2 := jhi_e rfl ea3 mA.2.2.1 eb3
                            have ej4 : x4 = jhi cy f n g m2 := jhi_e rfl ea4 mB.2.2.2 eb4
                            clear eb1 eb2 eb3 eb4
                            have hjp : pl x1 ∧ pl x3 ∧ pl x2 ∧ pl x4 := (by rw [ej1, ej2, ej3, ej4]; exact jpl hp_f hn_f.1 hp_g)
                            have hno9 : ¬ jFr ft st tn (upd kd 200 6) (upd mn 200 4) (bxX 200 (x1) (x3) 4 cx) (bxY 200 (x2) (x4) 4 cy) f g ft := (by rw [ej1, ej2, ej3, ej4]; exact hno)
                            refine lv_aload_n hx hb dX11_join_177 rfl (lv_at hl 1 rfl) ?_
                            refine va_get (D := (dC, dI)) (ci := 9) (v := .int (I0 0)) (C := RX11) (T := TX11) (N := 55) hx hb hts inX11 hown hK hP 0 rfl rfl 0 (Nat.le_of_ble_eq_true rfl) (hts _ mw_1159) (fun _ h9 => h9) rfl dX11_join_178 ?_
                            refine zz_i (v := nI ft) (hft) ?_
                            refine lv_istore (lv' := [(5, .int (nI ft)), (4, .int 0), (0, .ref k0), (1, .int (nI f)), (2, .int (nI g)), (3, .int gp9)]) hx hb dX11_join_181 hl (Nat.le_of_ble_eq_true rfl) rfl (fun ls hl => ?_)
                            refine lv_aload_n hx hb dX11_join_183 rfl (lv_at hl 2 rfl) ?_
                            refine lv_sipush (v := 200) hx hb dX11_join_184 rfl ?_
                            obtain ⟨hPc, hDc, hFc⟩ := zo_sub (wc := [_, _, _, _, _]) hP hD hS hA [0, 3, 4, 5, 6] (by decide +kernel) rfl
                            refine zcall (st1 := []) (va_runV (As := [.int 200]) (rest := []) ⟨hx, hb, hml, hown, hts⟩ (k_M_layBox l dC dI cI cZ cF H.size k0 a (upd (upd (upd (upd I0 44 x1) 45 x2) 46 x3) 47 x4) (vp_updL (vp_updL J0 48 (jI ((uq : Nat) : Int))) 49 (jI ((dq : Nat) : Int))) 200 kd mn cx cy (by first | with_reducible assumption | omega)) (csV_222 hts rfl rfl ⟨Nat.le_of_ble_eq_true rfl, Nat.le_of_ble_eq_true rfl⟩) (zPV2 (q0 := 0) (ci := 9) hPc hDc hK hXN rfl rfl) rfl rfl hl.1 rfl (lv_room (Nat.le_of_ble_eq_true rfl)) dX11_join_187 ⟨Nat.le_of_ble_eq_true rfl, Nat.le_of_ble_eq_true rfl⟩) hS hFc hFc rfl (fun t H locs ht hB hk1 hS => ?_)
                            obtain ⟨hP1, hD1⟩ := hB
                            rw [ht] at hP1
                            obtain ⟨hP, hD⟩ := zn (W2 := [_, _, _, (oa (a 1) cI 201 (upd kd 200 6)), (oa (a 11) cI 201 (upd mn 200 4)), (oa (a 12) cI 8040 (bxX 200 (x1) (x3) 4 cx)), (oa (a 13) cI 8040 (bxY 200 (x2) (x4) 4 cy)), _]) hP hD hk1 hFc hP1 hD1 [0, 3, 4, 5, 6] zl_252 zl_252 [0, 3, 4, 5, 6] (by decide +kernel) rfl rfl rfl rfl rfl
                            clear hk1 hPc hDc hFc hP1 hD1 ht
                            have hm_b : (upd mn 200 4) 200 = nI 4 := (up_at _ _ _).trans rfl
                            have hp_b : pls 4 (cF40 (bxX 200 (x1) (x3) 4 cx) 200) (cF40 (bxY 200 (x2) (x4) 4 cy) 200) := bx_pls hjp.1 hjp.2.1 hjp.2.2.1 hjp.2.2.2
                            have hwf2 : ∀ q, lvF ft st tn q → wfM (upd mn 200 4) (bxX 200 (x1) (x3) 4 cx) (bxY 200 (x2) (x4) 4 cy) q := fun q h1 => wfM_o (f := 200) (hwf q h1) (by have := h1.1; omega) (fun j hj => if_neg hj) (fun j hj => ⟨bxX_o (by omega), bxY_o (by omega)⟩)
                            refine lv_iconst (v := 1) hx hb dX11_join_190 rfl ?_
                            refine lv_istore (lv' := [(6, .int 1), (5, .int (nI ft)), (4, .int 0), (0, .ref k0), (1, .int (nI f)), (2, .int (nI g)), (3, .int gp9)]) hx hb dX11_join_191 hl (Nat.le_of_ble_eq_true rfl) rfl (fun ls hl => ?_)
                            refine lv_iconst (v := 0) hx hb dX11_join_193 rfl ?_
                            refine lv_istore (lv' := [(7, .int 0), (6, .int 1), (5, .int (nI ft)), (4, .int 0), (0, .ref k0), (1, .int (nI f)), (2, .int (nI g)), (3, .int gp9)]) hx hb dX11_join_194 hl (Nat.le_of_ble_eq_true rfl) rfl (fun ls hl => ?_)
                            have hl_196 : ∀ (n9 : Nat) (q : Nat) (S1 : Nat → Int32) (H : Heap) (locs : List Loc) (ls : Array Slot), ft - q < n9 → (q ≤ ft) → va_P (dC, dI) classes [(om k0 a (upd (upd (upd (upd I0 44 x1) 45 x2) 46 x3) 47 x4) (vp_updL (vp_updL J0 48 (jI ((uq : Nat) : Int))) 49 (jI ((dq : Nat) : Int)))), (oa (a 5) cI 201 st), (oa (a 6) cZ 201 tn), (oa (a 1) cI 201 (upd kd 200 6)), (oa (a 11) cI 201 (upd mn 200 4)), (oa (a 12) cI 8040 (bxX 200 (x1) (x3) 4 cx)), (oa (a 13) cI 8040 (bxY 200 (x2) (x4) 4 cy)), (oa (a 32) cI 8 S1)] H → va_D A [(om k0 a (upd (upd (upd (upd I0 44 x1) 45 x2) 46 x3) 47 x4) (vp_updL (vp_updL J0 48 (jI ((uq : Nat) : Int))) 49 (jI ((dq : Nat) : Int)))), (oa (a 5) cI 201 st), (oa (a 6) cZ 201 tn), (oa (a 1) cI 201 (upd kd 200 6)), (oa (a 11) cI 201 (upd mn 200 4)), (oa (a 12) cI 8040 (bxX 200 (x1) (x3) 4 cx)), (oa (a 13) cI 8040 (bxY 200 (x2) (x4) 4 cy)), (oa (a 32) cI 8 S1)] → va_S A s.heap H locs → lv_has ls 9 [(7, .int (nI q)), (6, .int (pI (jFr ft st tn (upd kd 200 6) (upd mn 200 4) (bxX 200 (x1) (x3) 4 cx) (bxY 200 (x2) (x4) 4 cy) f g q))), (5, .int (nI ft)), (4, .int 0), (0, .ref k0), (1, .int (nI f)), (2, .int (nI g)), (3, .int gp9)] → W p l e ({ frames := 5, cells := 0, slots := 0, locals := 129 } : Room) s m ([.ref k0, .int (nI f), .int (nI g), .int gp9] : List Value).toArray below meth c H locs 0 0 Q9 (F0 m 196 ls []) := by
                              intro n9
                              induction n9 with
                              | zero => intro q S1 H locs ls hm; exact absurd hm (Nat.not_lt_zero _)
                              | succ n9 ih_196 =>
                                intro q S1 H locs ls hm hq hP hD hS hl
                                refine lv_iload hx hb dX11_join_196 (lv_at hl 0 rfl) ?_
                                refine lv_iload hx hb dX11_join_198 (lv_at hl 2 rfl) ?_
                                have b9_17 : zlt (q) := show q < 2147483648 by omega
                                have b9_18 : zlt (ft) := show ft < 2147483648 by omega
                                refine lv_icmp_ge (tgt := 275) hx hb dX11_join_200 rfl (fun c_16 => ?_) (fun c_16 => ?_)
                                · have c_16 : ((ft : Nat) : Int) ≤ ((q : Nat) : Int) := zc_le (nI_toInt b9_18) (nI_toInt b9_17) c_16
                                  have hqe : q = ft := (by omega)
                                  rw [hqe] at hl
                                  refine lv_iload hx hb dX11_join_275 (lv_at hl 1 rfl) ?_
                                  refine lv_if_ne (tgt := 287) hx hb dX11_join_277 rfl (fun c_19 => ?_) (fun c_19 => ?_)
                                  · have c_19 : jFr ft st tn (upd kd 200 6) (upd mn 200 4) (bxX 200 (x1) (x3) 4 cx) (bxY 200 (x2) (x4) 4 cy) f g ft := zp_1 c_19
                                    exfalso; exact absurd (by first | with_reducible assumption | assumption) hno9
                                  · have c_19 : ¬ (jFr ft st tn (upd kd 200 6) (upd mn 200 4) (bxX 200 (x1) (x3) 4 cx) (bxY 200 (x2) (x4) 4 cy) f g ft) := zp_0 c_19
                                    refine lv_aload_n hx hb dX11_join_280 rfl (lv_at hl 4 rfl) ?_
                                    refine lv_bipush (v := 7) hx hb dX11_join_281 rfl ?_
                                    obtain ⟨hPc, hDc, hFc⟩ := zo_sub (wc := [_]) hP hD hS hA [0] rfl rfl
                                    refine zcall (st1 := [.int (-1)]) (va_runV (As := [.int 7]) (rest := []) ⟨hx, hb, hml, hown, hts⟩ (k_M_refuse_7 l dC dI cI cZ cF H.size k0 a (upd (upd (upd (upd I0 44 x1) 45 x2) 46 x3) 47 x4) (vp_updL (vp_updL J0 48 (jI ((uq : Nat) : Int))) 49 (jI ((dq : Nat) : Int))) ) (csV_185 hts rfl rfl ⟨Nat.le_of_ble_eq_true rfl, Nat.le_of_ble_eq_true rfl⟩) (zPV2 (q0 := 0) (ci := 9) hPc hDc hK hXN rfl rfl) rfl rfl hl.1 rfl (lv_room (Nat.le_of_ble_eq_true rfl)) dX11_join_283 ⟨Nat.le_of_ble_eq_true rfl, Nat.le_of_ble_eq_true rfl⟩) hS hFc hFc rfl (fun t H locs ht hB hk1 hS => ?_)
                                    obtain ⟨hP1, hD1⟩ := hB
                                    rw [ht] at hP1
                                    obtain ⟨hP, hD⟩ := zn (W2 := [(om k0 a (upd (upd (upd (upd (upd (upd I0 14 7) 15 (I0 15 + 1)) 44 x1) 45 x2) 46 x3) 47 x4) (vp_updL (vp_updL J0 48 (jI ((uq : Nat) : Int))) 49 (jI ((dq : Nat) : Int)))), _, _, _, _, _, _, _]) hP hD hk1 hFc hP1 hD1 [0] zl_54 zl_54 [0] (by decide +kernel) rfl rfl rfl rfl rfl
                                    clear hk1 hPc hDc hFc hP1 hD1 ht
                                    obtain ⟨hP9, hD9⟩ := zu_sub (wc := [_, _, _, _, _, _, _, _]) hP hD [true, true, true, true, true, true, true, true] rfl rfl
                                    rw [hQ9]
                                    exact W.iret (v := (-1)) hx hb hr (fun t ht hW => ⟨⟨rfl, uq, dq, S1, x1, x2, x3, x4, (ej1), (ej2), (ej3), (ej4), by rw [ht]; exact hP9, hD9⟩, hS.F ht⟩) hS.2.2 dX11_join_286
                                · have c_16 : ((q : Nat) : Int) < ((ft : Nat) : Int) := zc_nle (nI_toInt b9_18) (nI_toInt b9_17) c_16
                                  refine lv_iload hx hb dX11_join_203 (lv_at hl 0 rfl) ?_
                                  refine lv_iload_n hx hb dX11_join_205 rfl (lv_at hl 5 rfl) ?_
                                  have b9_21 : zlt (f) := show f < 2147483648 by omega
                                  refine lv_icmp_eq (tgt := 269) hx hb dX11_join_206 rfl (fun c_20 => ?_) (fun c_20 => ?_)
                                  · have c_20 : ((q : Nat) : Int) = ((f : Nat) : Int) := zc_eq (nI_toInt b9_17) (nI_toInt b9_21) c_20
                                    refine lv_iinc (v := nI (q + 1)) (lv' := [(7, .int (nI (q + 1))), (6, .int (pI (jFr ft st tn (upd kd 200 6) (upd mn 200 4) (bxX 200 (x1) (x3) 4 cx) (bxY 200 (x2) (x4) 4 cy) f g q))), (5, .int (nI ft)), (4, .int 0), (0, .ref k0), (1, .int (nI f)), (2, .int (nI g)), (3, .int gp9)]) hx hb dX11_join_269 hl (k := 0) rfl (nI_add q 1) (Nat.le_of_ble_eq_true rfl) rfl (fun ls hl => ?_)
                                    refine lv_goto (tgt := 196) hx hb dX11_join_272 rfl ?_
                                    have hl9 := lv_sub hl [0, 1, 2, 3, 4, 5, 6, 7] rfl
                                    have e9_6 : pI (jFr ft st tn (upd kd 200 6) (upd mn 200 4) (bxX 200 (x1) (x3) 4 cx) (bxY 200 (x2) (x4) 4 cy) f g (q + 1)) = (pI (jFr ft st tn (upd kd 200 6) (upd mn 200 4) (bxX 200 (x1) (x3) 4 cx) (bxY 200 (x2) (x4) 4 cy) f g q) : Int32) := by first | exact zp_iff (jF_y (fun h1 h2 h3 => ⟨by assumption, by assumption⟩)) | exact zp_f (jF_n (by omega) (by omega) (by first | with_reducible assumption | assumption) (by first | exact Or.inl (by first | with_reducible assumption | assumption) | exact Or.inr (by first | with_reducible assumption | assumption))) | exact zp_iff (jF_y (fun h1 h2 h3 => by first | (exfalso; omega) | exact absurd h3 (by first | with_reducible assumption | assumption)))
                                    have hl9 : lv_has ls 9 [(7, .int (nI (q + 1))), (6, .int (pI (jFr ft st tn (upd kd 200 6) (upd mn 200 4) (bxX 200 (x1) (x3) 4 cx) (bxY 200 (x2) (x4) 4 cy) f g (q + 1)))), (5, .int (nI ft)), (4, .int 0), (0, .ref k0), (1, .int (nI f)), (2, .int (nI g)), (3, .int gp9)] := by rw [e9_6]; exact hl9
                                    exact ih_196 (q + 1) S1 H locs ls (by first | with_reducible assumption | omega) (by first | with_reducible assumption | omega) hP hD hS hl9
                                  · have c_20 : ¬ ((q : Nat) : Int) = ((f : Nat) : Int) := zc_ne (nI_toInt b9_17) (nI_toInt b9_21) c_20
                                    refine lv_iload hx hb dX11_join_209 (lv_at hl 0 rfl) ?_
                                    refine lv_iload_n hx hb dX11_join_211 rfl (lv_at hl 6 rfl) ?_
                                    have b9_23 : zlt (g) := show g < 2147483648 by omega
                                    refine lv_icmp_eq (tgt := 269) hx hb dX11_join_212 rfl (fun c_22 => ?_) (fun c_22 => ?_)
                                    · have c_22 : ((q : Nat) : Int) = ((g : Nat) : Int) := zc_eq (nI_toInt b9_17) (nI_toInt b9_23) c_22
                                      refine lv_iinc (v := nI (q + 1)) (lv' := [(7, .int (nI (q + 1))), (6, .int (pI (jFr ft st tn (upd kd 200 6) (upd mn 200 4) (bxX 200 (x1) (x3) 4 cx) (bxY 200 (x2) (x4) 4 cy) f g q))), (5, .int (nI ft)), (4, .int 0), (0, .ref k0), (1, .int (nI f)), (2, .int (nI g)), (3, .int gp9)]) hx hb dX11_join_269 hl (k := 0) rfl (nI_add q 1) (Nat.le_of_ble_eq_true rfl) rfl (fun ls hl => ?_)
                                      refine lv_goto (tgt := 196) hx hb dX11_join_272 rfl ?_
                                      have hl9 := lv_sub hl [0, 1, 2, 3, 4, 5, 6, 7] rfl
                                      have e9_6 : pI (jFr ft st tn (upd kd 200 6) (upd mn 200 4) (bxX 200 (x1) (x3) 4 cx) (bxY 200 (x2) (x4) 4 cy) f g (q + 1)) = (pI (jFr ft st tn (upd kd 200 6) (upd mn 200 4) (bxX 200 (x1) (x3) 4 cx) (bxY 200 (x2) (x4) 4 cy) f g q) : Int32) := by first | exact zp_iff (jF_y (fun h1 h2 h3 => ⟨by assumption, by assumption⟩)) | exact zp_f (jF_n (by omega) (by omega) (by first | with_reducible assumption | assumption) (by first | exact Or.inl (by first | with_reducible assumption | assumption) | exact Or.inr (by first | with_reducible assumption | assumption))) | exact zp_iff (jF_y (fun h1 h2 h3 => by first | (exfalso; omega) | exact absurd h3 (by first | with_reducible assumption | assumption)))
                                      have hl9 : lv_has ls 9 [(7, .int (nI (q + 1))), (6, .int (pI (jFr ft st tn (upd kd 200 6) (upd mn 200 4) (bxX 200 (x1) (x3) 4 cx) (bxY 200 (x2) (x4) 4 cy) f g (q + 1)))), (5, .int (nI ft)), (4, .int 0), (0, .ref k0), (1, .int (nI f)), (2, .int (nI g)), (3, .int gp9)] := by rw [e9_6]; exact hl9
                                      exact ih_196 (q + 1) S1 H locs ls (by first | with_reducible assumption | omega) (by first | with_reducible assumption | omega) hP hD hS hl9
                                    · have c_22 : ¬ ((q : Nat) : Int) = ((g : Nat) : Int) := zc_ne (nI_toInt b9_17) (nI_toInt b9_23) c_22
                                      refine lv_aload_n hx hb dX11_join_215 rfl (lv_at hl 4 rfl) ?_
                                      refine lv_iload hx hb dX11_join_216 (lv_at hl 0 rfl) ?_
                                      obtain ⟨hPc, hDc, hFc, hI1⟩ := zi_sub (wc := [_, _, _]) hP hD hS hA [0, 1, 2] rfl rfl
                                      refine zcall (st1 := [.int (pI (q < ft ∧ (st q).toInt = 1 ∧ (tn q).toInt = 0))]) (va_runV (As := [.int (nI q)]) (rest := []) ⟨hx, hb, hml, hown, hts⟩ (k_M_is_n l dC dI cI cZ cF H.size k0 a (upd (upd (upd (upd I0 44 x1) 45 x2) 46 x3) 47 x4) (vp_updL (vp_updL J0 48 (jI ((uq : Nat) : Int))) 49 (jI ((dq : Nat) : Int))) q ft st tn (by first | with_reducible assumption | assumption) (by first | with_reducible assumption | omega) (by first | with_reducible assumption | omega)) (csV_179 hts rfl rfl ⟨Nat.le_of_ble_eq_true rfl, Nat.le_of_ble_eq_true rfl⟩) (zPV2 (q0 := 0) (ci := 9) hPc hDc hK hXN rfl rfl) rfl rfl hl.1 rfl (lv_room (Nat.le_of_ble_eq_true rfl)) dX11_join_218 ⟨Nat.le_of_ble_eq_true rfl, Nat.le_of_ble_eq_true rfl⟩) hS hFc hFc rfl (fun t H locs ht hB hk1 hS => ?_)
                                      obtain ⟨hP1, hD1⟩ := hB
                                      rw [ht] at hP1
                                      replace hP := z0 hP hD hk1 hP1 hI1
                                      clear hk1 hPc hDc hFc hP1 hD1 ht hI1
                                      refine lv_if_eq (tgt := 269) hx hb dX11_join_221 rfl (fun c_24 => ?_) (fun c_24 => ?_)
                                      · have c_24 : ¬ (q < ft ∧ (st q).toInt = 1 ∧ (tn q).toInt = 0) := zp_0 c_24
                                        refine lv_iinc (v := nI (q + 1)) (lv' := [(7, .int (nI (q + 1))), (6, .int (pI (jFr ft st tn (upd kd 200 6) (upd mn 200 4) (bxX 200 (x1) (x3) 4 cx) (bxY 200 (x2) (x4) 4 cy) f g q))), (5, .int (nI ft)), (4, .int 0), (0, .ref k0), (1, .int (nI f)), (2, .int (nI g)), (3, .int gp9)]) hx hb dX11_join_269 hl (k := 0) rfl (nI_add q 1) (Nat.le_of_ble_eq_true rfl) rfl (fun ls hl => ?_)
                                        refine lv_goto (tgt := 196) hx hb dX11_join_272 rfl ?_
                                        have hl9 := lv_sub hl [0, 1, 2, 3, 4, 5, 6, 7] rfl
                                        have e9_6 : pI (jFr ft st tn (upd kd 200 6) (upd mn 200 4) (bxX 200 (x1) (x3) 4 cx) (bxY 200 (x2) (x4) 4 cy) f g (q + 1)) = (pI (jFr ft st tn (upd kd 200 6) (upd mn 200 4) (bxX 200 (x1) (x3) 4 cx) (bxY 200 (x2) (x4) 4 cy) f g q) : Int32) := by first | exact zp_iff (jF_y (fun h1 h2 h3 => ⟨by assumption, by assumption⟩)) | exact zp_f (jF_n (by omega) (by omega) (by first | with_reducible assumption | assumption) (by first | exact Or.inl (by first | with_reducible assumption | assumption) | exact Or.inr (by first | with_reducible assumption | assumption))) | exact zp_iff (jF_y (fun h1 h2 h3 => by first | (exfalso; omega) | exact absurd h3 (by first | with_reducible assumption | assumption)))
                                        have hl9 : lv_has ls 9 [(7, .int (nI (q + 1))), (6, .int (pI (jFr ft st tn (upd kd 200 6) (upd mn 200 4) (bxX 200 (x1) (x3) 4 cx) (bxY 200 (x2) (x4) 4 cy) f g (q + 1)))), (5, .int (nI ft)), (4, .int 0), (0, .ref k0), (1, .int (nI f)), (2, .int (nI g)), (3, .int gp9)] := by rw [e9_6]; exact hl9
                                        exact ih_196 (q + 1) S1 H locs ls (by first | with_reducible assumption | omega) (by first | with_reducible assumption | omega) hP hD hS hl9
                                      · have c_24 : q < ft ∧ (st q).toInt = 1 ∧ (tn q).toInt = 0 := zp_1 c_24
                                        have hw_q := hwf2 q (by first | with_reducible assumption | assumption)
                                        have hn_q := hw_q.2.1
                                        refine lv_aload_n hx hb dX11_join_224 rfl (lv_at hl 4 rfl) ?_
                                        refine lv_sipush (v := 200) hx hb dX11_join_225 rfl ?_
                                        refine lv_iload hx hb dX11_join_228 (lv_at hl 0 rfl) ?_
                                        obtain ⟨hPc, hDc, hFc⟩ := zo_sub (wc := [_, _, _, _, _, _]) hP hD hS hA [0, 3, 4, 5, 6, 7] (by decide +kernel) rfl
                                        refine zcall (st1 := [.int (pI (∃ i, i < eO ((upd kd 200 6) 200).toInt 4 ∧ ∃ j, j < eO ((upd kd 200 6) q).toInt (nN ((upd mn 200 4) q)) ∧ eMt 4 (cF40 (bxX 200 (x1) (x3) 4 cx) 200) (cF40 (bxY 200 (x2) (x4) 4 cy) 200) i (nN ((upd mn 200 4) q)) (cF40 (bxX 200 (x1) (x3) 4 cx) q) (cF40 (bxY 200 (x2) (x4) 4 cy) q) j))]) (va_runV (As := [.int 200, .int (nI q)]) (rest := []) ⟨hx, hb, hml, hown, hts⟩ (k_M_isMet l dC dI cI cZ cF H.size k0 a (upd (upd (upd (upd I0 44 x1) 45 x2) 46 x3) 47 x4) (vp_updL (vp_updL J0 48 (jI ((uq : Nat) : Int))) 49 (jI ((dq : Nat) : Int))) 200 4 q (nN ((upd mn 200 4) q)) (upd kd 200 6) (upd mn 200 4) (bxX 200 (x1) (x3) 4 cx) (bxY 200 (x2) (x4) 4 cy) S1 (by first | with_reducible assumption | omega) (hm_b) (by first | with_reducible assumption | omega) (hp_b) (by first | with_reducible assumption | omega) (hw_q.1) (hw_q.2.1) (hw_q.2.2)) (csV_180 hts rfl rfl ⟨Nat.le_of_ble_eq_true rfl, Nat.le_of_ble_eq_true rfl⟩) (zPV2 (q0 := 0) (ci := 9) hPc hDc hK hXN rfl rfl) rfl rfl hl.1 rfl (lv_room (Nat.le_of_ble_eq_true rfl)) dX11_join_230 ⟨Nat.le_of_ble_eq_true rfl, Nat.le_of_ble_eq_true rfl⟩) hS hFc hFc rfl (fun t H locs ht hB hk1 hS => ?_)
                                        obtain ⟨q_25, hP1, hD1⟩ := hB
                                        rw [ht] at hP1
                                        obtain ⟨hP, hD⟩ := zn (W2 := [_, _, _, _, _, _, _, (oa (a 32) cI 8 q_25)]) hP hD hk1 hFc hP1 hD1 [0, 3, 4, 5, 6, 7] [false, true, true] zl_146 [0, 3, 4, 5, 6, 7] (by decide +kernel) rfl rfl rfl rfl rfl
                                        clear hk1 hPc hDc hFc hP1 hD1 ht
                                        refine zz_i (v := pI (mtF ((upd kd 200 6) 200).toInt 4 (cF40 (bxX 200 (x1) (x3) 4 cx) 200) (cF40 (bxY 200 (x2) (x4) 4 cy) 200) ((upd kd 200 6) q).toInt (nN ((upd mn 200 4) q)) (cF40 (bxX 200 (x1) (x3) 4 cx) q) (cF40 (bxY 200 (x2) (x4) 4 cy) q))) (rfl) ?_
                                        refine lv_if_ne (tgt := 266) hx hb dX11_join_233 rfl (fun c_26 => ?_) (fun c_26 => ?_)
                                        · have c_26 : mtF ((upd kd 200 6) 200).toInt 4 (cF40 (bxX 200 (x1) (x3) 4 cx) 200) (cF40 (bxY 200 (x2) (x4) 4 cy) 200) ((upd kd 200 6) q).toInt (nN ((upd mn 200 4) q)) (cF40 (bxX 200 (x1) (x3) 4 cx) q) (cF40 (bxY 200 (x2) (x4) 4 cy) q) := zp_1 c_26
                                          refine lv_iconst (v := 0) hx hb dX11_join_266 rfl ?_
                                          refine lv_istore (lv' := [(6, .int 0), (7, .int (nI q)), (5, .int (nI ft)), (4, .int 0), (0, .ref k0), (1, .int (nI f)), (2, .int (nI g)), (3, .int gp9)]) hx hb dX11_join_267 hl (Nat.le_of_ble_eq_true rfl) rfl (fun ls hl => ?_)
                                          refine lv_iinc (v := nI (q + 1)) (lv' := [(7, .int (nI (q + 1))), (6, .int 0), (5, .int (nI ft)), (4, .int 0), (0, .ref k0), (1, .int (nI f)), (2, .int (nI g)), (3, .int gp9)]) hx hb dX11_join_269 hl (k := 1) rfl (nI_add q 1) (Nat.le_of_ble_eq_true rfl) rfl (fun ls hl => ?_)
                                          refine lv_goto (tgt := 196) hx hb dX11_join_272 rfl ?_
                                          have hl9 := lv_sub hl [0, 1, 2, 3, 4, 5, 6, 7] rfl
                                          have e9_6 : pI (jFr ft st tn (upd kd 200 6) (upd mn 200 4) (bxX 200 (x1) (x3) 4 cx) (bxY 200 (x2) (x4) 4 cy) f g (q + 1)) = (0 : Int32) := by first | exact zp_iff (jF_y (fun h1 h2 h3 => ⟨by assumption, by assumption⟩)) | exact zp_f (jF_n (by omega) (by omega) (by first | with_reducible assumption | assumption) (by first | exact Or.inl (by first | with_reducible assumption | assumption) | exact Or.inr (by first | with_reducible assumption | assumption))) | exact zp_iff (jF_y (fun h1 h2 h3 => by first | (exfalso; omega) | exact absurd h3 (by first | with_reducible assumption | assumption)))
                                          have hl9 : lv_has ls 9 [(7, .int (nI (q + 1))), (6, .int (pI (jFr ft st tn (upd kd 200 6) (upd mn 200 4) (bxX 200 (x1) (x3) 4 cx) (bxY 200 (x2) (x4) 4 cy) f g (q + 1)))), (5, .int (nI ft)), (4, .int 0), (0, .ref k0), (1, .int (nI f)), (2, .int (nI g)), (3, .int gp9)] := by rw [e9_6]; exact hl9
                                          exact ih_196 (q + 1) q_25 H locs ls (by first | with_reducible assumption | omega) (by first | with_reducible assumption | omega) hP hD hS hl9
                                        · have c_26 : ¬ (mtF ((upd kd 200 6) 200).toInt 4 (cF40 (bxX 200 (x1) (x3) 4 cx) 200) (cF40 (bxY 200 (x2) (x4) 4 cy) 200) ((upd kd 200 6) q).toInt (nN ((upd mn 200 4) q)) (cF40 (bxX 200 (x1) (x3) 4 cx) q) (cF40 (bxY 200 (x2) (x4) 4 cy) q)) := zp_0 c_26
                                          refine lv_aload_n hx hb dX11_join_236 rfl (lv_at hl 4 rfl) ?_
                                          refine lv_sipush (v := 200) hx hb dX11_join_237 rfl ?_
                                          refine lv_aload_n hx hb dX11_join_240 rfl (lv_at hl 4 rfl) ?_
                                          refine va_get (D := (dC, dI)) (ci := 9) (v := .ref (a 12)) (C := RX11) (T := TX11) (N := 55) hx hb hts inX11 hown hK hP 0 rfl rfl 12 (Nat.le_of_ble_eq_true rfl) (hts _ mw_1171) (fun _ h9 => h9) rfl dX11_join_241 ?_
                                          refine lv_bipush (v := 40) hx hb dX11_join_244 rfl ?_
                                          refine lv_iload hx hb dX11_join_246 (lv_at hl 0 rfl) ?_
                                          refine lv_imul hx hb dX11_join_248 ?_
                                          refine zz_i (v := nI (40 * q)) (pk_mul 40 q) ?_
                                          have b9_27 : 40 * q < 8040 := by omega
                                          refine z_iald hx hb hK hP 5 0 rfl rfl (e := 40 * q) rfl b9_27 (Nat.le_of_ble_eq_true rfl) dX11_join_249 ?_
                                          refine lv_aload_n hx hb dX11_join_250 rfl (lv_at hl 4 rfl) ?_
                                          refine va_get (D := (dC, dI)) (ci := 9) (v := .ref (a 13)) (C := RX11) (T := TX11) (N := 55) hx hb hts inX11 hown hK hP 0 rfl rfl 13 (Nat.le_of_ble_eq_true rfl) (hts _ mw_1172) (fun _ h9 => h9) rfl dX11_join_251 ?_
                                          refine lv_bipush (v := 40) hx hb dX11_join_254 rfl ?_
                                          refine lv_iload hx hb dX11_join_256 (lv_at hl 0 rfl) ?_
                                          refine lv_imul hx hb dX11_join_258 ?_
                                          refine zz_i (v := nI (40 * q)) (pk_mul 40 q) ?_
                                          refine z_iald hx hb hK hP 6 0 rfl rfl (e := 40 * q) rfl b9_27 (Nat.le_of_ble_eq_true rfl) dX11_join_259 ?_
                                          obtain ⟨hPc, hDc, hFc⟩ := zo_sub (wc := [_, _, _, _, _, _]) hP hD hS hA [0, 3, 4, 5, 6, 7] (by decide +kernel) rfl
                                          refine zcall (st1 := [.int (pI (¬ (∃ i, i < eO ((upd kd 200 6) 200).toInt 4 ∧ eOn 4 (cF40 (bxX 200 (x1) (x3) 4 cx) 200) (cF40 (bxY 200 (x2) (x4) 4 cy) 200) i ((bxX 200 (x1) (x3) 4 cx) (40 * q)).toInt ((bxY 200 (x2) (x4) 4 cy) (40 * q)).toInt) ∧ par2 (eTg 4 (cF40 (bxX 200 (x1) (x3) 4 cx) 200) (cF40 (bxY 200 (x2) (x4) 4 cy) 200) ((bxX 200 (x1) (x3) 4 cx) (40 * q)).toInt ((bxY 200 (x2) (x4) 4 cy) (40 * q)).toInt) (eO ((upd kd 200 6) 200).toInt 4)))]) (va_runV (As := [.int 200, .int ((bxX 200 (x1) (x3) 4 cx) (40 * q)), .int ((bxY 200 (x2) (x4) 4 cy) (40 * q))]) (rest := []) ⟨hx, hb, hml, hown, hts⟩ (k_M_isInside l dC dI cI cZ cF H.size k0 a (upd (upd (upd (upd I0 44 x1) 45 x2) 46 x3) 47 x4) (vp_updL (vp_updL J0 48 (jI ((uq : Nat) : Int))) 49 (jI ((dq : Nat) : Int))) 200 4 (upd kd 200 6) (upd mn 200 4) (bxX 200 (x1) (x3) 4 cx) (bxY 200 (x2) (x4) 4 cy) q_25 ((bxX 200 (x1) (x3) 4 cx) (40 * q)) ((bxY 200 (x2) (x4) 4 cy) (40 * q)) (by first | with_reducible assumption | omega) (hm_b) (by first | with_reducible assumption | omega) (hp_b) ((hw_q.2.2 0 (by first | with_reducible assumption | omega)).1) ((hw_q.2.2 0 (by first | with_reducible assumption | omega)).2)) (csV_183 hts rfl rfl ⟨Nat.le_of_ble_eq_true rfl, Nat.le_of_ble_eq_true rfl⟩) (zPV2 (q0 := 0) (ci := 9) hPc hDc hK hXN rfl rfl) rfl rfl hl.1 rfl (lv_room (Nat.le_of_ble_eq_true rfl)) dX11_join_260 ⟨Nat.le_of_ble_eq_true rfl, Nat.le_of_ble_eq_true rfl⟩) hS hFc hFc rfl (fun t H locs ht hB hk1 hS => ?_)
                                          obtain ⟨q_28, hP1, hD1⟩ := hB
                                          rw [ht] at hP1
                                          obtain ⟨hP, hD⟩ := zn (W2 := [_, _, _, _, _, _, _, (oa (a 32) cI 8 q_28)]) hP hD hk1 hFc hP1 hD1 [0, 3, 4, 5, 6, 7] [false, true, true] zl_146 [0, 3, 4, 5, 6, 7] (by decide +kernel) rfl rfl rfl rfl rfl
                                          clear hk1 hPc hDc hFc hP1 hD1 ht
                                          refine zz_i (v := pI (inF ((upd kd 200 6) 200).toInt 4 (cF40 (bxX 200 (x1) (x3) 4 cx) 200) (cF40 (bxY 200 (x2) (x4) 4 cy) 200) ((bxX 200 (x1) (x3) 4 cx) (40 * q)).toInt ((bxY 200 (x2) (x4) 4 cy) (40 * q)).toInt)) (rfl) ?_
                                          refine lv_if_eq (tgt := 269) hx hb dX11_join_263 rfl (fun c_29 => ?_) (fun c_29 => ?_)
                                          · have c_29 : ¬ (inF ((upd kd 200 6) 200).toInt 4 (cF40 (bxX 200 (x1) (x3) 4 cx) 200) (cF40 (bxY 200 (x2) (x4) 4 cy) 200) ((bxX 200 (x1) (x3) 4 cx) (40 * q)).toInt ((bxY 200 (x2) (x4) 4 cy) (40 * q)).toInt) := zp_0 c_29
                                            refine lv_iinc (v := nI (q + 1)) (lv' := [(7, .int (nI (q + 1))), (6, .int (pI (jFr ft st tn (upd kd 200 6) (upd mn 200 4) (bxX 200 (x1) (x3) 4 cx) (bxY 200 (x2) (x4) 4 cy) f g q))), (5, .int (nI ft)), (4, .int 0), (0, .ref k0), (1, .int (nI f)), (2, .int (nI g)), (3, .int gp9)]) hx hb dX11_join_269 hl (k := 0) rfl (nI_add q 1) (Nat.le_of_ble_eq_true rfl) rfl (fun ls hl => ?_)
                                            refine lv_goto (tgt := 196) hx hb dX11_join_272 rfl ?_
                                            have hl9 := lv_sub hl [0, 1, 2, 3, 4, 5, 6, 7] rfl
                                            have e9_6 : pI (jFr ft st tn (upd kd 200 6) (upd mn 200 4) (bxX 200 (x1) (x3) 4 cx) (bxY 200 (x2) (x4) 4 cy) f g (q + 1)) = (pI (jFr ft st tn (upd kd 200 6) (upd mn 200 4) (bxX 200 (x1) (x3) 4 cx) (bxY 200 (x2) (x4) 4 cy) f g q) : Int32) := by first | exact zp_iff (jF_y (fun h1 h2 h3 => ⟨by assumption, by assumption⟩)) | exact zp_f (jF_n (by omega) (by omega) (by first | with_reducible assumption | assumption) (by first | exact Or.inl (by first | with_reducible assumption | assumption) | exact Or.inr (by first | with_reducible assumption | assumption))) | exact zp_iff (jF_y (fun h1 h2 h3 => by first | (exfalso; omega) | exact absurd h3 (by first | with_reducible assumption | assumption)))
                                            have hl9 : lv_has ls 9 [(7, .int (nI (q + 1))), (6, .int (pI (jFr ft st tn (upd kd 200 6) (upd mn 200 4) (bxX 200 (x1) (x3) 4 cx) (bxY 200 (x2) (x4) 4 cy) f g (q + 1)))), (5, .int (nI ft)), (4, .int 0), (0, .ref k0), (1, .int (nI f)), (2, .int (nI g)), (3, .int gp9)] := by rw [e9_6]; exact hl9
                                            exact ih_196 (q + 1) q_28 H locs ls (by first | with_reducible assumption | omega) (by first | with_reducible assumption | omega) hP hD hS hl9
                                          · have c_29 : inF ((upd kd 200 6) 200).toInt 4 (cF40 (bxX 200 (x1) (x3) 4 cx) 200) (cF40 (bxY 200 (x2) (x4) 4 cy) 200) ((bxX 200 (x1) (x3) 4 cx) (40 * q)).toInt ((bxY 200 (x2) (x4) 4 cy) (40 * q)).toInt := zp_1 c_29
                                            refine lv_iconst (v := 0) hx hb dX11_join_266 rfl ?_
                                            refine lv_istore (lv' := [(6, .int 0), (7, .int (nI q)), (5, .int (nI ft)), (4, .int 0), (0, .ref k0), (1, .int (nI f)), (2, .int (nI g)), (3, .int gp9)]) hx hb dX11_join_267 hl (Nat.le_of_ble_eq_true rfl) rfl (fun ls hl => ?_)
                                            refine lv_iinc (v := nI (q + 1)) (lv' := [(7, .int (nI (q + 1))), (6, .int 0), (5, .int (nI ft)), (4, .int 0), (0, .ref k0), (1, .int (nI f)), (2, .int (nI g)), (3, .int gp9)]) hx hb dX11_join_269 hl (k := 1) rfl (nI_add q 1) (Nat.le_of_ble_eq_true rfl) rfl (fun ls hl => ?_)
                                            refine lv_goto (tgt := 196) hx hb dX11_join_272 rfl ?_
                                            have hl9 := lv_sub hl [0, 1, 2, 3, 4, 5, 6, 7] rfl
                                            have e9_6 : pI (jFr ft st tn (upd kd 200 6) (upd mn 200 4) (bxX 200 (x1) (x3) 4 cx) (bxY 200 (x2) (x4) 4 cy) f g (q + 1)) = (0 : Int32) := by first | exact zp_iff (jF_y (fun h1 h2 h3 => ⟨by assumption, by assumption⟩)) | exact zp_f (jF_n (by omega) (by omega) (by first | with_reducible assumption | assumption) (by first | exact Or.inl (by first | with_reducible assumption | assumption) | exact Or.inr (by first | with_reducible assumption | assumption))) | exact zp_iff (jF_y (fun h1 h2 h3 => by first | (exfalso; omega) | exact absurd h3 (by first | with_reducible assumption | assumption)))
                                            have hl9 : lv_has ls 9 [(7, .int (nI (q + 1))), (6, .int (pI (jFr ft st tn (upd kd 200 6) (upd mn 200 4) (bxX 200 (x1) (x3) 4 cx) (bxY 200 (x2) (x4) 4 cy) f g (q + 1)))), (5, .int (nI ft)), (4, .int 0), (0, .ref k0), (1, .int (nI f)), (2, .int (nI g)), (3, .int gp9)] := by rw [e9_6]; exact hl9
                                            exact ih_196 (q + 1) q_28 H locs ls (by first | with_reducible assumption | omega) (by first | with_reducible assumption | omega) hP hD hS hl9
                            have e9_6 : pI (jFr ft st tn (upd kd 200 6) (upd mn 200 4) (bxX 200 (x1) (x3) 4 cx) (bxY 200 (x2) (x4) 4 cy) f g 0) = (1 : Int32) := by exact zp_t jF_0
                            have hl9 : lv_has ls 9 [(7, .int (nI 0)), (6, .int (pI (jFr ft st tn (upd kd 200 6) (upd mn 200 4) (bxX 200 (x1) (x3) 4 cx) (bxY 200 (x2) (x4) 4 cy) f g 0))), (5, .int (nI ft)), (4, .int 0), (0, .ref k0), (1, .int (nI f)), (2, .int (nI g)), (3, .int gp9)] := by rw [e9_6]; exact lv_sub hl [0, 1, 2, 3, 4, 5, 6, 7] rfl
                            exact hl_196 _ 0 S2 H locs ls (Nat.lt_succ_self _) (by first | with_reducible assumption | omega) hP hD hS hl9
                          · have c_15 : (gp9.toInt * gp9.toInt * ((dq : Nat) : Int)) < ((uq : Nat) : Int) := zl_nle (jI_toInt (by omega)) (jI_toInt (by omega)) c_15
                            exfalso; exact hnf (hf9.mp (by omega))
                        · exact absurd (by decide) c_14
                      · have c_13 : ¬ (tn g).toInt = 0 := zc_ne rfl rfl c_13
                        exfalso; omega
                  · have c_11 : 1000 < gp9.toInt := zc_nle rfl rfl c_11
                    exfalso; omega
              · have c_9 : ¬ (kd g).toInt = 6 := zc_ne rfl rfl c_9
                exfalso; omega
          · exact absurd (by decide) c_7
        · have c_6 : ¬ (st g).toInt = 1 := zc_ne rfl rfl c_6
          exfalso; omega
    · have c_2 : ¬ (g < ft) := zp_0 c_2
      exfalso; omega
set_option maxHeartbeats 4000000 in
set_option maxRecDepth 100000 in
theorem k_M_join_8 (l : Launch) (dC : Nat → ClassId) (dI : Nat → Nat → Nat) (cI cZ cF : ClassId) (sz : Nat) (k0 : Nat) (a : Nat → Nat) (I0 : Nat → Int32) (J0 : Nat → Int64) (f : Nat) (n : Nat) (g : Nat) (m2 : Nat) (ft : Nat) (gp9 : Int32) (st : Nat → Int32) (tn : Nat → Int32) (kd : Nat → Int32) (mn : Nat → Int32) (cx : Nat → Int32) (cy : Nat → Int32) (S0 : Nat → Int32) (hft : I0 0 = nI ft) (h200 : ft ≤ 200) (hf_f : f ≤ 200) (hm_f : mn f = nI n) (hn_f : 1 ≤ n ∧ n ≤ 40) (hp_f : pls n (cF40 cx f) (cF40 cy f)) (hf_g : g ≤ 200) (hm_g : mn g = nI m2) (hn_g : 1 ≤ m2 ∧ m2 ≤ 40) (hp_g : pls m2 (cF40 cx g) (cF40 cy g)) (hf_t : f < ft) (hg_t : g < ft) (hok : ((st f).toInt = 1 ∧ (st g).toInt = 1) ∧ ((kd f).toInt = 6 ∧ (kd g).toInt = 6) ∧ (0 ≤ gp9.toInt ∧ gp9.toInt ≤ 1000) ∧ ((tn f).toInt = 0 ∧ (tn g).toInt = 0)) (he_f : 1 ≤ eO (kd f).toInt n) (he_g : 1 ≤ eO (kd g).toInt m2) (hwf : ∀ q, lvF ft st tn q → wfM mn cx cy q) (hnf : ¬ (¬ mtF (kd f).toInt n (cF40 cx f) (cF40 cy f) (kd g).toInt m2 (cF40 cx g) (cF40 cy g) ∧ ∀ u d : Nat, 1 ≤ d → IM (dcP n (cF40 cx f) (cF40 cy f) m2 (cF40 cx g) (cF40 cy g) (eO (kd g).toInt m2) (eO (kd f).toInt n) 0) ((u : Nat) : Int) ((d : Nat) : Int) → gp9.toInt * gp9.toInt * ((d : Nat) : Int) < ((u : Nat) : Int))) (hfree : jFr ft st tn (upd kd 200 6) (upd mn 200 4) (bxX 200 ((jlo cx f n g m2)) ((jhi cx f n g m2)) 4 cx) (bxY 200 ((jlo cy f n g m2)) ((jhi cy f n g m2)) 4 cy) f g ft) (h8 : f = g ∨ ft = 200) : zM l yX11_join cX11_join 9 (some .int) ({ frames := 5, cells := 0, slots := 0, locals := 129 } : Room) [.ref k0, .int (nI f), .int (nI g), .int gp9] (dC, dI) (zTy cI cZ cF) [(om k0 a I0 J0), (oa (a 5) cI 201 st), (oa (a 6) cZ 201 tn), (oa (a 1) cI 201 kd), (oa (a 11) cI 201 mn), (oa (a 12) cI 8040 cx), (oa (a 13) cI 8040 cy), (oa (a 32) cI 8 S0)] sz (some (.int (-1))) (fun A t => ∃ (uq : Nat), ∃ (dq : Nat), ∃ (S1 : Nat → Int32), ∃ (x1 : Int32), ∃ (x2 : Int32), ∃ (x3 : Int32), ∃ (x4 : Int32), (x1 = jlo cx f n g m2) ∧ (x2 = jlo cy f n g m2) ∧ (x3 = jhi cx f n g m2) ∧ (x4 = jhi cy f n g m2) ∧ zPD (dC, dI) classes A [(om k0 a (upd (upd (upd (upd (upd (upd I0 14 8) 15 (I0 15)) 44 x1) 45 x2) 46 x3) 47 x4) (vp_updL (vp_updL J0 48 (jI ((uq : Nat) : Int))) 49 (jI ((dq : Nat) : Int)))), (oa (a 5) cI 201 st), (oa (a 6) cZ 201 tn), (oa (a 1) cI 201 (upd kd 200 6)), (oa (a 11) cI 201 (upd mn 200 4)), (oa (a 12) cI 8040 (bxX 200 (x1) (x3) 4 cx)), (oa (a 13) cI 8040 (bxY 200 (x2) (x4) 4 cy)), (oa (a 32) cI 8 S1)] t.heap) 0 0 := by
  refine zIn (own := "ScaleShopModel") (loc := [(0, .ref k0), (1, .int (nI f)), (2, .int (nI g)), (3, .int gp9)]) rfl rfl rfl rfl (fun p e s m below meth c hx hb hr hts hown hlocks hml hnm9 A hA hS hP hD hK hXN Q9 hQ9 ls hl => ?_)
  refine lv_aload_n hx hb dX11_join_0 rfl (lv_at hl 0 rfl) ?_
  refine lv_iload_n hx hb dX11_join_1 rfl (lv_at hl 1 rfl) ?_
  obtain ⟨hPc, hDc, hFc, hI1⟩ := zi_sub (wc := [_]) hP hD hS hA [0] rfl rfl
  refine zcall (st1 := [.int (pI (f < ft))]) (va_runV (As := [.int (nI f)]) (rest := []) ⟨hx, hb, hml, hown, hts⟩ (k_M_isFeature_n l dC dI cI cZ cF s.heap.size k0 a I0 J0 f ft (by first | with_reducible assumption | assumption) (by first | with_reducible assumption | omega) (by first | with_reducible assumption | omega)) (csV_178 hts rfl rfl ⟨Nat.le_of_ble_eq_true rfl, Nat.le_of_ble_eq_true rfl⟩) (zPV2 (q0 := 0) (ci := 9) hPc hDc hK hXN rfl rfl) rfl rfl hl.1 rfl (lv_room (Nat.le_of_ble_eq_true rfl)) dX11_join_2 ⟨Nat.le_of_ble_eq_true rfl, Nat.le_of_ble_eq_true rfl⟩) hS hFc hFc rfl (fun t H locs ht hB hk1 hS => ?_)
  obtain ⟨hP1, hD1⟩ := hB
  rw [ht] at hP1
  replace hP := z0 hP hD hk1 hP1 hI1
  clear hk1 hPc hDc hFc hP1 hD1 ht hI1
  refine lv_if_eq (tgt := 16) hx hb dX11_join_5 rfl (fun c_1 => ?_) (fun c_1 => ?_)
  · have c_1 : ¬ (f < ft) := zp_0 c_1
    exfalso; omega
  · have c_1 : f < ft := zp_1 c_1
    refine lv_aload_n hx hb dX11_join_8 rfl (lv_at hl 0 rfl) ?_
    refine lv_iload_n hx hb dX11_join_9 rfl (lv_at hl 2 rfl) ?_
    obtain ⟨hPc, hDc, hFc, hI1⟩ := zi_sub (wc := [_]) hP hD hS hA [0] rfl rfl
    refine zcall (st1 := [.int (pI (g < ft))]) (va_runV (As := [.int (nI g)]) (rest := []) ⟨hx, hb, hml, hown, hts⟩ (k_M_isFeature_n l dC dI cI cZ cF H.size k0 a I0 J0 g ft (by first | with_reducible assumption | assumption) (by first | with_reducible assumption | omega) (by first | with_reducible assumption | omega)) (csV_178 hts rfl rfl ⟨Nat.le_of_ble_eq_true rfl, Nat.le_of_ble_eq_true rfl⟩) (zPV2 (q0 := 0) (ci := 9) hPc hDc hK hXN rfl rfl) rfl rfl hl.1 rfl (lv_room (Nat.le_of_ble_eq_true rfl)) dX11_join_10 ⟨Nat.le_of_ble_eq_true rfl, Nat.le_of_ble_eq_true rfl⟩) hS hFc hFc rfl (fun t H locs ht hB hk1 hS => ?_)
    obtain ⟨hP1, hD1⟩ := hB
    rw [ht] at hP1
    replace hP := z0 hP hD hk1 hP1 hI1
    clear hk1 hPc hDc hFc hP1 hD1 ht hI1
    refine lv_if_ne (tgt := 20) hx hb dX11_join_13 rfl (fun c_2 => ?_) (fun c_2 => ?_)
    · have c_2 : g < ft := zp_1 c_2
      refine lv_aload_n hx hb dX11_join_20 rfl (lv_at hl 0 rfl) ?_
      refine va_get (D := (dC, dI)) (ci := 9) (v := .ref (a 5)) (C := RX11) (T := TX11) (N := 55) hx hb hts inX11 hown hK hP 0 rfl rfl 5 (Nat.le_of_ble_eq_true rfl) (hts _ mw_1164) (fun _ h9 => h9) rfl dX11_join_21 ?_
      refine lv_iload_n hx hb dX11_join_24 rfl (lv_at hl 1 rfl) ?_
      have b9_3 : f < 201 := by omega
      refine z_iald hx hb hK hP 1 0 rfl rfl (e := f) rfl b9_3 (Nat.le_of_ble_eq_true rfl) dX11_join_25 ?_
      refine lv_iconst (v := 1) hx hb dX11_join_26 rfl ?_
      refine lv_icmp_ne (tgt := 40) hx hb dX11_join_27 rfl (fun c_4 => ?_) (fun c_4 => ?_)
      · have c_4 : ¬ (st f).toInt = 1 := zc_ne rfl rfl c_4
        exfalso; omega
      · have c_4 : (st f).toInt = 1 := zc_eq rfl rfl c_4
        refine lv_aload_n hx hb dX11_join_30 rfl (lv_at hl 0 rfl) ?_
        refine va_get (D := (dC, dI)) (ci := 9) (v := .ref (a 5)) (C := RX11) (T := TX11) (N := 55) hx hb hts inX11 hown hK hP 0 rfl rfl 5 (Nat.le_of_ble_eq_true rfl) (hts _ mw_1164) (fun _ h9 => h9) rfl dX11_join_31 ?_
        refine lv_iload_n hx hb dX11_join_34 rfl (lv_at hl 2 rfl) ?_
        have b9_5 : g < 201 := by omega
        refine z_iald hx hb hK hP 1 0 rfl rfl (e := g) rfl b9_5 (Nat.le_of_ble_eq_true rfl) dX11_join_35 ?_
        refine lv_iconst (v := 1) hx hb dX11_join_36 rfl ?_
        refine lv_icmp_eq (tgt := 44) hx hb dX11_join_37 rfl (fun c_6 => ?_) (fun c_6 => ?_)
        · have c_6 : (st g).toInt = 1 := zc_eq rfl rfl c_6
          refine lv_iconst (v := 0) hx hb dX11_join_44 rfl ?_
          refine lv_istore (lv' := [(4, .int 0), (0, .ref k0), (1, .int (nI f)), (2, .int (nI g)), (3, .int gp9)]) hx hb dX11_join_45 hl (Nat.le_of_ble_eq_true rfl) rfl (fun ls hl => ?_)
          refine lv_iload hx hb dX11_join_47 (lv_at hl 0 rfl) ?_
          refine lv_if_le (tgt := 57) hx hb dX11_join_49 rfl (fun c_7 => ?_) (fun c_7 => ?_)
          · refine lv_aload_n hx hb dX11_join_57 rfl (lv_at hl 1 rfl) ?_
            refine va_get (D := (dC, dI)) (ci := 9) (v := .ref (a 1)) (C := RX11) (T := TX11) (N := 55) hx hb hts inX11 hown hK hP 0 rfl rfl 1 (Nat.le_of_ble_eq_true rfl) (hts _ mw_1160) (fun _ h9 => h9) rfl dX11_join_58 ?_
            refine lv_iload_n hx hb dX11_join_61 rfl (lv_at hl 2 rfl) ?_
            refine z_iald hx hb hK hP 3 0 rfl rfl (e := f) rfl b9_3 (Nat.le_of_ble_eq_true rfl) dX11_join_62 ?_
            refine lv_bipush (v := 6) hx hb dX11_join_63 rfl ?_
            refine lv_icmp_ne (tgt := 79) hx hb dX11_join_65 rfl (fun c_8 => ?_) (fun c_8 => ?_)
            · have c_8 : ¬ (kd f).toInt = 6 := zc_ne rfl rfl c_8
              exfalso; omega
            · have c_8 : (kd f).toInt = 6 := zc_eq rfl rfl c_8
              refine lv_aload_n hx hb dX11_join_68 rfl (lv_at hl 1 rfl) ?_
              refine va_get (D := (dC, dI)) (ci := 9) (v := .ref (a 1)) (C := RX11) (T := TX11) (N := 55) hx hb hts inX11 hown hK hP 0 rfl rfl 1 (Nat.le_of_ble_eq_true rfl) (hts _ mw_1160) (fun _ h9 => h9) rfl dX11_join_69 ?_
              refine lv_iload_n hx hb dX11_join_72 rfl (lv_at hl 3 rfl) ?_
              refine z_iald hx hb hK hP 3 0 rfl rfl (e := g) rfl b9_5 (Nat.le_of_ble_eq_true rfl) dX11_join_73 ?_
              refine lv_bipush (v := 6) hx hb dX11_join_74 rfl ?_
              refine lv_icmp_eq (tgt := 83) hx hb dX11_join_76 rfl (fun c_9 => ?_) (fun c_9 => ?_)
              · have c_9 : (kd g).toInt = 6 := zc_eq rfl rfl c_9
                refine lv_iload_n hx hb dX11_join_83 rfl (lv_at hl 4 rfl) ?_
                refine lv_if_lt (tgt := 94) hx hb dX11_join_84 rfl (fun c_10 => ?_) (fun c_10 => ?_)
                · have c_10 : gp9.toInt < 0 := zc_lt rfl rfl c_10
                  exfalso; omega
                · have c_10 : 0 ≤ gp9.toInt := zc_nlt rfl rfl c_10
                  refine lv_iload_n hx hb dX11_join_87 rfl (lv_at hl 4 rfl) ?_
                  refine lv_sipush (v := 1000) hx hb dX11_join_88 rfl ?_
                  refine lv_icmp_le (tgt := 98) hx hb dX11_join_91 rfl (fun c_11 => ?_) (fun c_11 => ?_)
                  · have c_11 : gp9.toInt ≤ 1000 := zc_le rfl rfl c_11
                    refine lv_aload_n hx hb dX11_join_98 rfl (lv_at hl 1 rfl) ?_
                    refine va_get (D := (dC, dI)) (ci := 9) (v := .ref (a 6)) (C := RX11) (T := TX11) (N := 55) hx hb hts inX11 hown hK hP 0 rfl rfl 6 (Nat.le_of_ble_eq_true rfl) (hts _ mw_1165) (fun _ h9 => h9) rfl dX11_join_99 ?_
                    refine lv_iload_n hx hb dX11_join_102 rfl (lv_at hl 2 rfl) ?_
                    refine z_zald hx hb hK hP 2 1 rfl rfl (e := f) rfl b9_3 (Nat.le_of_ble_eq_true rfl) dX11_join_103 ?_
                    refine lv_if_ne (tgt := 116) hx hb dX11_join_104 rfl (fun c_12 => ?_) (fun c_12 => ?_)
                    · have c_12 : ¬ (tn f).toInt = 0 := zc_ne rfl rfl c_12
                      exfalso; omega
                    · have c_12 : (tn f).toInt = 0 := zc_eq rfl rfl c_12
                      refine lv_aload_n hx hb dX11_join_107 rfl (lv_at hl 1 rfl) ?_
                      refine va_get (D := (dC, dI)) (ci := 9) (v := .ref (a 6)) (C := RX11) (T := TX11) (N := 55) hx hb hts inX11 hown hK hP 0 rfl rfl 6 (Nat.le_of_ble_eq_true rfl) (hts _ mw_1165) (fun _ h9 => h9) rfl dX11_join_108 ?_
                      refine lv_iload_n hx hb dX11_join_111 rfl (lv_at hl 3 rfl) ?_
                      refine z_zald hx hb hK hP 2 1 rfl rfl (e := g) rfl b9_5 (Nat.le_of_ble_eq_true rfl) dX11_join_112 ?_
                      refine lv_if_eq (tgt := 120) hx hb dX11_join_113 rfl (fun c_13 => ?_) (fun c_13 => ?_)
                      · have c_13 : (tn g).toInt = 0 := zc_eq rfl rfl c_13
                        refine lv_iconst (v := 0) hx hb dX11_join_120 rfl ?_
                        refine lv_istore (lv' := [(4, .int 0), (0, .ref k0), (1, .int (nI f)), (2, .int (nI g)), (3, .int gp9)]) hx hb dX11_join_121 hl (Nat.le_of_ble_eq_true rfl) rfl (fun ls hl => ?_)
                        refine lv_iload hx hb dX11_join_123 (lv_at hl 0 rfl) ?_
                        refine lv_if_le (tgt := 135) hx hb dX11_join_125 rfl (fun c_14 => ?_) (fun c_14 => ?_)
                        · refine lv_aload_n hx hb dX11_join_135 rfl (lv_at hl 1 rfl) ?_
                          refine lv_iload_n hx hb dX11_join_136 rfl (lv_at hl 2 rfl) ?_
                          refine lv_iload_n hx hb dX11_join_137 rfl (lv_at hl 3 rfl) ?_
                          obtain ⟨hPc, hDc, hFc⟩ := zo_sub (wc := [_, _, _, _, _, _]) hP hD hS hA [0, 3, 4, 5, 6, 7] (by decide +kernel) rfl
                          refine zcall (st1 := []) (va_runV (As := [.int (nI f), .int (nI g)]) (rest := []) ⟨hx, hb, hml, hown, hts⟩ (k_M_distance_a l dC dI cI cZ cF H.size k0 a I0 J0 f n g m2 kd mn cx cy S0 (by first | with_reducible assumption | omega) (by first | with_reducible assumption | assumption) (by first | with_reducible assumption | omega) (by first | with_reducible assumption | assumption) (by first | with_reducible assumption | omega) (by first | with_reducible assumption | assumption) (by first | with_reducible assumption | omega) (by first | with_reducible assumption | assumption) (he_f) (he_g)) (csV_226 hts rfl rfl ⟨Nat.le_of_ble_eq_true rfl, Nat.le_of_ble_eq_true rfl⟩) (zPV2 (q0 := 0) (ci := 9) hPc hDc hK hXN rfl rfl) rfl rfl hl.1 rfl (lv_room (Nat.le_of_ble_eq_true rfl)) dX11_join_138 ⟨Nat.le_of_ble_eq_true rfl, Nat.le_of_ble_eq_true rfl⟩) hS hFc hFc rfl (fun t H locs ht hB hk1 hS => ?_)
                          obtain ⟨uq, dq, S2, hfr, hub, hP1, hD1⟩ := hB
                          rw [ht] at hP1
                          obtain ⟨hP, hD⟩ := zn (W2 := [(om k0 a I0 (vp_updL (vp_updL J0 48 (jI ((uq : Nat) : Int))) 49 (jI ((dq : Nat) : Int)))), _, _, _, _, _, _, (oa (a 32) cI 8 S2)]) hP hD hk1 hFc hP1 hD1 [0, 3, 4, 5, 6, 7] [false, true, true] zl_146 [0, 3, 4, 5, 6, 7] (by decide +kernel) rfl rfl rfl rfl rfl
                          clear hk1 hPc hDc hFc hP1 hD1 ht
                          have hgb := gpB9 (g := gp9) (D := dq) hok.2.2.1 (by omega)
                          have hf9 := hfr (gp9.toInt * gp9.toInt) (by omega)
                          refine lv_aload_n hx hb dX11_join_141 rfl (lv_at hl 1 rfl) ?_
                          refine va_get (D := (dC, dI)) (ci := 9) (v := .long (jI ((uq : Nat) : Int))) (C := RX11) (T := TX11) (N := 55) hx hb hts inX11 hown hK hP 0 rfl rfl 48 (Nat.le_of_ble_eq_true rfl) (hts _ mw_1207) (fun _ h9 => h9) rfl dX11_join_142 ?_
                          refine lv_iload_n hx hb dX11_join_145 rfl (lv_at hl 4 rfl) ?_
                          refine lv_i2l (v := gp9.toInt64) hx hb dX11_join_146 (rfl) ?_
                          refine lv_iload_n hx hb dX11_join_147 rfl (lv_at hl 4 rfl) ?_
                          refine lv_i2l (v := gp9.toInt64) hx hb dX11_join_148 (rfl) ?_
                          refine lv_lmul hx hb dX11_join_149 ?_
                          refine lv_aload_n hx hb dX11_join_150 rfl (lv_at hl 1 rfl) ?_
                          refine va_get (D := (dC, dI)) (ci := 9) (v := .long (jI ((dq : Nat) : Int))) (C := RX11) (T := TX11) (N := 55) hx hb hts inX11 hown hK hP 0 rfl rfl 49 (Nat.le_of_ble_eq_true rfl) (hts _ mw_1208) (fun _ h9 => h9) rfl dX11_join_151 ?_
                          refine lv_lmul hx hb dX11_join_154 ?_
                          refine zz_l (v := jI (gp9.toInt * gp9.toInt * ((dq : Nat) : Int))) (gpL hok.2.2.1 (by omega)) ?_
                          refine W.lcmp hx hb dX11_join_155 ?_
                          refine lv_if_le (tgt := 165) hx hb dX11_join_156 rfl (fun c_15 => ?_) (fun c_15 => ?_)
                          · have c_15 : ((uq : Nat) : Int) ≤ (gp9.toInt * gp9.toInt * ((dq : Nat) : Int)) := zl_le (jI_toInt (by omega)) (jI_toInt (by omega)) c_15
                            refine lv_aload_n hx hb dX11_join_165 rfl (lv_at hl 1 rfl) ?_
                            refine lv_iload_n hx hb dX11_join_166 rfl (lv_at hl 2 rfl) ?_
                            refine lv_iconst (v := 1) hx hb dX11_join_167 rfl ?_
                            obtain ⟨hPc, hDc, hFc⟩ := zo_sub (wc := [_, _, _, _]) hP hD hS hA [0, 4, 5, 6] (by decide +kernel) rfl
                            refine zcall (st1 := []) (va_runV (As := [.int (nI f), .int 1]) (rest := []) ⟨hx, hb, hml, hown, hts⟩ (k_M_box_v l dC dI cI cZ cF H.size k0 a I0 (vp_updL (vp_updL J0 48 (jI ((uq : Nat) : Int))) 49 (jI ((dq : Nat) : Int))) f n mn cx cy (by first | with_reducible assumption | omega) (by first | with_reducible assumption | assumption) (by first | with_reducible assumption | omega) (by first | with_reducible assumption | assumption)) (csV_221 hts rfl rfl ⟨Nat.le_of_ble_eq_true rfl, Nat.le_of_ble_eq_true rfl⟩) (zPV2 (q0 := 0) (ci := 9) hPc hDc hK hXN rfl rfl) rfl rfl hl.1 rfl (lv_room (Nat.le_of_ble_eq_true rfl)) dX11_join_168 ⟨Nat.le_of_ble_eq_true rfl, Nat.le_of_ble_eq_true rfl⟩) hS hFc hFc rfl (fun t H locs ht hB hk1 hS => ?_)
                            obtain ⟨y1, y2, y3, y4, ea1, ea2, ea3, ea4, hP1, hD1⟩ := hB
                            rw [ht] at hP1
                            obtain ⟨hP, hD⟩ := zn (W2 := [(om k0 a (upd (upd (upd (upd I0 44 y1) 45 y2) 46 y3) 47 y4) (vp_updL (vp_updL J0 48 (jI ((uq : Nat) : Int))) 49 (jI ((dq : Nat) : Int)))), _, _, _, _, _, _, _]) hP hD hk1 hFc hP1 hD1 [0, 4, 5, 6] zl_251 zl_251 [0, 4, 5, 6] (by decide +kernel) rfl rfl rfl rfl rfl
                            clear hk1 hPc hDc hFc hP1 hD1 ht
                            refine lv_aload_n hx hb dX11_join_171 rfl (lv_at hl 1 rfl) ?_
                            refine lv_iload_n hx hb dX11_join_172 rfl (lv_at hl 3 rfl) ?_
                            refine lv_iconst (v := 0) hx hb dX11_join_173 rfl ?_
                            obtain ⟨hPc, hDc, hFc⟩ := zo_sub (wc := [_, _, _, _]) hP hD hS hA [0, 4, 5, 6] (by decide +kernel) rfl
                            refine zcall (st1 := []) (va_runV (As := [.int (nI g), .int 0]) (rest := []) ⟨hx, hb, hml, hown, hts⟩ (k_M_box_w l dC dI cI cZ cF H.size k0 a (upd (upd (upd (upd I0 44 y1) 45 y2) 46 y3) 47 y4) (vp_updL (vp_updL J0 48 (jI ((uq : Nat) : Int))) 49 (jI ((dq : Nat) : Int))) g m2 y1 y2 y3 y4 mn cx cy (by first | with_reducible assumption | omega) (by first | with_reducible assumption | assumption) (by first | with_reducible assumption | omega) (by first | with_reducible assumption | assumption)) (csV_221 hts rfl rfl ⟨Nat.le_of_ble_eq_true rfl, Nat.le_of_ble_eq_true rfl⟩) (zPV2 (q0 := 0) (ci := 9) hPc hDc hK hXN rfl rfl) rfl rfl hl.1 rfl (lv_room (Nat.le_of_ble_eq_true rfl)) dX11_join_174 ⟨Nat.le_of_ble_eq_true rfl, Nat.le_of_ble_eq_true rfl⟩) hS hFc hFc rfl (fun t H locs ht hB hk1 hS => ?_)
                            obtain ⟨x1, x2, x3, x4, eb1, eb2, eb3, eb4, hP1, hD1⟩ := hB
                            rw [ht] at hP1
                            obtain ⟨hP, hD⟩ := zn (W2 := [(om k0 a (upd (upd (upd (upd I0 44 x1) 45 x2) 46 x3) 47 x4) (vp_updL (vp_updL J0 48 (jI ((uq : Nat) : Int))) 49 (jI ((dq : Nat) : Int)))), _, _, _, _, _, _, _]) hP hD hk1 hFc hP1 hD1 [0, 4, 5, 6] zl_251 zl_251 [0, 4, 5, 6] (by decide +kernel) rfl rfl rfl rfl rfl
                            clear hk1 hPc hDc hFc hP1 hD1 ht
                            have h0f := hp_f 0 (by omega)
                            unfold pl at h0f
                            have mA := mnP h0f.1 hp_f n (Nat.le_refl _)
                            have mB := mnP h0f.2 hp_f n (Nat.le_refl _)
                            have ej1 : x1 = jlo cx f n g m2 := jlo_e rfl ea1 mA.1 eb1
                            have ej2 : x2 = jlo cy f n g m2 := jlo_e rfl ea2 mB.2.1 eb2
                            have ej3 : x3 = jhi cx f n g m2 := jhi_e rfl ea3 mA.2.2.1 eb3
                            have ej4 : x4 = jhi cy f n g m2 := jhi_e rfl ea4 mB.2.2.2 eb4
                            clear eb1 eb2 eb3 eb4
                            have hjp : pl x1 ∧ pl x3 ∧ pl x2 ∧ pl x4 := (by rw [ej1, ej2, ej3, ej4]; exact jpl hp_f hn_f.1 hp_g)
                            have hfree9 : jFr ft st tn (upd kd 200 6) (upd mn 200 4) (bxX 200 (x1) (x3) 4 cx) (bxY 200 (x2) (x4) 4 cy) f g ft := (by rw [ej1, ej2, ej3, ej4]; exact hfree)
                            refine lv_aload_n hx hb dX11_join_177 rfl (lv_at hl 1 rfl) ?_
                            refine va_get (D := (dC, dI)) (ci := 9) (v := .int (I0 0)) (C := RX11) (T := TX11) (N := 55) hx hb hts inX11 hown hK hP 0 rfl rfl 0 (Nat.le_of_ble_eq_true rfl) (hts _ mw_1159) (fun _ h9 => h9) rfl dX11_join_178 ?_
                            refine zz_i (v := nI ft) (hft) ?_
                            refine lv_istore (lv' := [(5, .int (nI ft)), (4, .int 0), (0, .ref k0), (1, .int (nI f)), (2, .int (nI g)), (3, .int gp9)]) hx hb dX11_join_181 hl (Nat.le_of_ble_eq_true rfl) rfl (fun ls hl => ?_)
                            refine lv_aload_n hx hb dX11_join_183 rfl (lv_at hl 2 rfl) ?_
                            refine lv_sipush (v := 200) hx hb dX11_join_184 rfl ?_
                            obtain ⟨hPc, hDc, hFc⟩ := zo_sub (wc := [_, _, _, _, _]) hP hD hS hA [0, 3, 4, 5, 6] (by decide +kernel) rfl
                            refine zcall (st1 := []) (va_runV (As := [.int 200]) (rest := []) ⟨hx, hb, hml, hown, hts⟩ (k_M_layBox l dC dI cI cZ cF H.size k0 a (upd (upd (upd (upd I0 44 x1) 45 x2) 46 x3) 47 x4) (vp_updL (vp_updL J0 48 (jI ((uq : Nat) : Int))) 49 (jI ((dq : Nat) : Int))) 200 kd mn cx cy (by first | with_reducible assumption | omega)) (csV_222 hts rfl rfl ⟨Nat.le_of_ble_eq_true rfl, Nat.le_of_ble_eq_true rfl⟩) (zPV2 (q0 := 0) (ci := 9) hPc hDc hK hXN rfl rfl) rfl rfl hl.1 rfl (lv_room (Nat.le_of_ble_eq_true rfl)) dX11_join_187 ⟨Nat.le_of_ble_eq_true rfl, Nat.le_of_ble_eq_true rfl⟩) hS hFc hFc rfl (fun t H locs ht hB hk1 hS => ?_)
                            obtain ⟨hP1, hD1⟩ := hB
                            rw [ht] at hP1
                            obtain ⟨hP, hD⟩ := zn (W2 := [_, _, _, (oa (a 1) cI 201 (upd kd 200 6)), (oa (a 11) cI 201 (upd mn 200 4)), (oa (a 12) cI 8040 (bxX 200 (x1) (x3) 4 cx)), (oa (a 13) cI 8040 (bxY 200 (x2) (x4) 4 cy)), _]) hP hD hk1 hFc hP1 hD1 [0, 3, 4, 5, 6] zl_252 zl_252 [0, 3, 4, 5, 6] (by decide +kernel) rfl rfl rfl rfl rfl
                            clear hk1 hPc hDc hFc hP1 hD1 ht
                            have hm_b : (upd mn 200 4) 200 = nI 4 := (up_at _ _ _).trans rfl
                            have hp_b : pls 4 (cF40 (bxX 200 (x1) (x3) 4 cx) 200) (cF40 (bxY 200 (x2) (x4) 4 cy) 200) := bx_pls hjp.1 hjp.2.1 hjp.2.2.1 hjp.2.2.2
                            have hwf2 : ∀ q, lvF ft st tn q → wfM (upd mn 200 4) (bxX 200 (x1) (x3) 4 cx) (bxY 200 (x2) (x4) 4 cy) q := fun q h1 => wfM_o (f := 200) (hwf q h1) (by have := h1.1; omega) (fun j hj => if_neg hj) (fun j hj => ⟨bxX_o (by omega), bxY_o (by omega)⟩)
                            refine lv_iconst (v := 1) hx hb dX11_join_190 rfl ?_
                            refine lv_istore (lv' := [(6, .int 1), (5, .int (nI ft)), (4, .int 0), (0, .ref k0), (1, .int (nI f)), (2, .int (nI g)), (3, .int gp9)]) hx hb dX11_join_191 hl (Nat.le_of_ble_eq_true rfl) rfl (fun ls hl => ?_)
                            refine lv_iconst (v := 0) hx hb dX11_join_193 rfl ?_
                            refine lv_istore (lv' := [(7, .int 0), (6, .int 1), (5, .int (nI ft)), (4, .int 0), (0, .ref k0), (1, .int (nI f)), (2, .int (nI g)), (3, .int gp9)]) hx hb dX11_join_194 hl (Nat.le_of_ble_eq_true rfl) rfl (fun ls hl => ?_)
                            have hl_196 : ∀ (n9 : Nat) (q : Nat) (S1 : Nat → Int32) (H : Heap) (locs : List Loc) (ls : Array Slot), ft - q < n9 → (q ≤ ft) → va_P (dC, dI) classes [(om k0 a (upd (upd (upd (upd I0 44 x1) 45 x2) 46 x3) 47 x4) (vp_updL (vp_updL J0 48 (jI ((uq : Nat) : Int))) 49 (jI ((dq : Nat) : Int)))), (oa (a 5) cI 201 st), (oa (a 6) cZ 201 tn), (oa (a 1) cI 201 (upd kd 200 6)), (oa (a 11) cI 201 (upd mn 200 4)), (oa (a 12) cI 8040 (bxX 200 (x1) (x3) 4 cx)), (oa (a 13) cI 8040 (bxY 200 (x2) (x4) 4 cy)), (oa (a 32) cI 8 S1)] H → va_D A [(om k0 a (upd (upd (upd (upd I0 44 x1) 45 x2) 46 x3) 47 x4) (vp_updL (vp_updL J0 48 (jI ((uq : Nat) : Int))) 49 (jI ((dq : Nat) : Int)))), (oa (a 5) cI 201 st), (oa (a 6) cZ 201 tn), (oa (a 1) cI 201 (upd kd 200 6)), (oa (a 11) cI 201 (upd mn 200 4)), (oa (a 12) cI 8040 (bxX 200 (x1) (x3) 4 cx)), (oa (a 13) cI 8040 (bxY 200 (x2) (x4) 4 cy)), (oa (a 32) cI 8 S1)] → va_S A s.heap H locs → lv_has ls 9 [(7, .int (nI q)), (6, .int (pI (jFr ft st tn (upd kd 200 6) (upd mn 200 4) (bxX 200 (x1) (x3) 4 cx) (bxY 200 (x2) (x4) 4 cy) f g q))), (5, .int (nI ft)), (4, .int 0), (0, .ref k0), (1, .int (nI f)), (2, .int (nI g)), (3, .int gp9)] → W p l e ({ frames := 5, cells := 0, slots := 0, locals := 129 } : Room) s m ([.ref k0, .int (nI f), .int (nI g), .int gp9] : List Value).toArray below meth c H locs 0 0 Q9 (F0 m 196 ls []) := by
                              intro n9
                              induction n9 with
                              | zero => intro q S1 H locs ls hm; exact absurd hm (Nat.not_lt_zero _)
                              | succ n9 ih_196 =>
                                intro q S1 H locs ls hm hq hP hD hS hl
                                refine lv_iload hx hb dX11_join_196 (lv_at hl 0 rfl) ?_
                                refine lv_iload hx hb dX11_join_198 (lv_at hl 2 rfl) ?_
                                have b9_17 : zlt (q) := show q < 2147483648 by omega
                                have b9_18 : zlt (ft) := show ft < 2147483648 by omega
                                refine lv_icmp_ge (tgt := 275) hx hb dX11_join_200 rfl (fun c_16 => ?_) (fun c_16 => ?_)
                                · have c_16 : ((ft : Nat) : Int) ≤ ((q : Nat) : Int) := zc_le (nI_toInt b9_18) (nI_toInt b9_17) c_16
                                  have hqe : q = ft := (by omega)
                                  rw [hqe] at hl
                                  refine lv_iload hx hb dX11_join_275 (lv_at hl 1 rfl) ?_
                                  refine lv_if_ne (tgt := 287) hx hb dX11_join_277 rfl (fun c_19 => ?_) (fun c_19 => ?_)
                                  · have c_19 : jFr ft st tn (upd kd 200 6) (upd mn 200 4) (bxX 200 (x1) (x3) 4 cx) (bxY 200 (x2) (x4) 4 cy) f g ft := zp_1 c_19
                                    refine lv_iload_n hx hb dX11_join_287 rfl (lv_at hl 5 rfl) ?_
                                    refine lv_iload_n hx hb dX11_join_288 rfl (lv_at hl 6 rfl) ?_
                                    have b9_21 : zlt (f) := show f < 2147483648 by omega
                                    have b9_22 : zlt (g) := show g < 2147483648 by omega
                                    refine lv_icmp_eq (tgt := 302) hx hb dX11_join_289 rfl (fun c_20 => ?_) (fun c_20 => ?_)
                                    · have c_20 : ((f : Nat) : Int) = ((g : Nat) : Int) := zc_eq (nI_toInt b9_21) (nI_toInt b9_22) c_20
                                      refine lv_aload_n hx hb dX11_join_302 rfl (lv_at hl 4 rfl) ?_
                                      refine lv_bipush (v := 8) hx hb dX11_join_303 rfl ?_
                                      obtain ⟨hPc, hDc, hFc⟩ := zo_sub (wc := [_]) hP hD hS hA [0] rfl rfl
                                      refine zcall (st1 := [.int (-1)]) (va_runV (As := [.int 8]) (rest := []) ⟨hx, hb, hml, hown, hts⟩ (k_M_refuse l dC dI cI cZ cF H.size k0 a (upd (upd (upd (upd I0 44 x1) 45 x2) 46 x3) 47 x4) (vp_updL (vp_updL J0 48 (jI ((uq : Nat) : Int))) 49 (jI ((dq : Nat) : Int))) 8 (by decide)) (csV_185 hts rfl rfl ⟨Nat.le_of_ble_eq_true rfl, Nat.le_of_ble_eq_true rfl⟩) (zPV2 (q0 := 0) (ci := 9) hPc hDc hK hXN rfl rfl) rfl rfl hl.1 rfl (lv_room (Nat.le_of_ble_eq_true rfl)) dX11_join_305 ⟨Nat.le_of_ble_eq_true rfl, Nat.le_of_ble_eq_true rfl⟩) hS hFc hFc rfl (fun t H locs ht hB hk1 hS => ?_)
                                      obtain ⟨hP1, hD1⟩ := hB
                                      rw [ht] at hP1
                                      obtain ⟨hP, hD⟩ := zn (W2 := [(om k0 a (upd (upd (upd (upd (upd (upd I0 14 8) 15 (I0 15)) 44 x1) 45 x2) 46 x3) 47 x4) (vp_updL (vp_updL J0 48 (jI ((uq : Nat) : Int))) 49 (jI ((dq : Nat) : Int)))), _, _, _, _, _, _, _]) hP hD hk1 hFc hP1 hD1 [0] zl_54 zl_54 [0] (by decide +kernel) rfl rfl rfl rfl rfl
                                      clear hk1 hPc hDc hFc hP1 hD1 ht
                                      obtain ⟨hP9, hD9⟩ := zu_sub (wc := [_, _, _, _, _, _, _, _]) hP hD [true, true, true, true, true, true, true, true] rfl rfl
                                      rw [hQ9]
                                      exact W.iret (v := (-1)) hx hb hr (fun t ht hW => ⟨⟨rfl, uq, dq, S1, x1, x2, x3, x4, (ej1), (ej2), (ej3), (ej4), by rw [ht]; exact hP9, hD9⟩, hS.F ht⟩) hS.2.2 dX11_join_308
                                    · have c_20 : ¬ ((f : Nat) : Int) = ((g : Nat) : Int) := zc_ne (nI_toInt b9_21) (nI_toInt b9_22) c_20
                                      refine lv_aload_n hx hb dX11_join_292 rfl (lv_at hl 4 rfl) ?_
                                      refine va_get (D := (dC, dI)) (ci := 9) (v := .int (I0 0)) (C := RX11) (T := TX11) (N := 55) hx hb hts inX11 hown hK hP 0 rfl rfl 0 (Nat.le_of_ble_eq_true rfl) (hts _ mw_1159) (fun _ h9 => h9) rfl dX11_join_293 ?_
                                      refine zz_i (v := nI ft) (hft) ?_
                                      refine lv_sipush (v := 200) hx hb dX11_join_296 rfl ?_
                                      refine lv_icmp_ne (tgt := 309) hx hb dX11_join_299 rfl (fun c_23 => ?_) (fun c_23 => ?_)
                                      · have c_23 : ¬ ((ft : Nat) : Int) = 200 := zc_ne (nI_toInt b9_18) rfl c_23
                                        exfalso; omega
                                      · have c_23 : ((ft : Nat) : Int) = 200 := zc_eq (nI_toInt b9_18) rfl c_23
                                        refine lv_aload_n hx hb dX11_join_302 rfl (lv_at hl 4 rfl) ?_
                                        refine lv_bipush (v := 8) hx hb dX11_join_303 rfl ?_
                                        obtain ⟨hPc, hDc, hFc⟩ := zo_sub (wc := [_]) hP hD hS hA [0] rfl rfl
                                        refine zcall (st1 := [.int (-1)]) (va_runV (As := [.int 8]) (rest := []) ⟨hx, hb, hml, hown, hts⟩ (k_M_refuse l dC dI cI cZ cF H.size k0 a (upd (upd (upd (upd I0 44 x1) 45 x2) 46 x3) 47 x4) (vp_updL (vp_updL J0 48 (jI ((uq : Nat) : Int))) 49 (jI ((dq : Nat) : Int))) 8 (by decide)) (csV_185 hts rfl rfl ⟨Nat.le_of_ble_eq_true rfl, Nat.le_of_ble_eq_true rfl⟩) (zPV2 (q0 := 0) (ci := 9) hPc hDc hK hXN rfl rfl) rfl rfl hl.1 rfl (lv_room (Nat.le_of_ble_eq_true rfl)) dX11_join_305 ⟨Nat.le_of_ble_eq_true rfl, Nat.le_of_ble_eq_true rfl⟩) hS hFc hFc rfl (fun t H locs ht hB hk1 hS => ?_)
                                        obtain ⟨hP1, hD1⟩ := hB
                                        rw [ht] at hP1
                                        obtain ⟨hP, hD⟩ := zn (W2 := [(om k0 a (upd (upd (upd (upd (upd (upd I0 14 8) 15 (I0 15)) 44 x1) 45 x2) 46 x3) 47 x4) (vp_updL (vp_updL J0 48 (jI ((uq : Nat) : Int))) 49 (jI ((dq : Nat) : Int)))), _, _, _, _, _, _, _]) hP hD hk1 hFc hP1 hD1 [0] zl_54 zl_54 [0] (by decide +kernel) rfl rfl rfl rfl rfl
                                        clear hk1 hPc hDc hFc hP1 hD1 ht
                                        obtain ⟨hP9, hD9⟩ := zu_sub (wc := [_, _, _, _, _, _, _, _]) hP hD [true, true, true, true, true, true, true, true] rfl rfl
                                        rw [hQ9]
                                        exact W.iret (v := (-1)) hx hb hr (fun t ht hW => ⟨⟨rfl, uq, dq, S1, x1, x2, x3, x4, (ej1), (ej2), (ej3), (ej4), by rw [ht]; exact hP9, hD9⟩, hS.F ht⟩) hS.2.2 dX11_join_308
                                  · have c_19 : ¬ (jFr ft st tn (upd kd 200 6) (upd mn 200 4) (bxX 200 (x1) (x3) 4 cx) (bxY 200 (x2) (x4) 4 cy) f g ft) := zp_0 c_19
                                    exfalso; exact absurd hfree9 (by first | with_reducible assumption | assumption)
                                · have c_16 : ((q : Nat) : Int) < ((ft : Nat) : Int) := zc_nle (nI_toInt b9_18) (nI_toInt b9_17) c_16
                                  refine lv_iload hx hb dX11_join_203 (lv_at hl 0 rfl) ?_
                                  refine lv_iload_n hx hb dX11_join_205 rfl (lv_at hl 5 rfl) ?_
                                  have b9_25 : zlt (f) := show f < 2147483648 by omega
                                  refine lv_icmp_eq (tgt := 269) hx hb dX11_join_206 rfl (fun c_24 => ?_) (fun c_24 => ?_)
                                  · have c_24 : ((q : Nat) : Int) = ((f : Nat) : Int) := zc_eq (nI_toInt b9_17) (nI_toInt b9_25) c_24
                                    refine lv_iinc (v := nI (q + 1)) (lv' := [(7, .int (nI (q + 1))), (6, .int (pI (jFr ft st tn (upd kd 200 6) (upd mn 200 4) (bxX 200 (x1) (x3) 4 cx) (bxY 200 (x2) (x4) 4 cy) f g q))), (5, .int (nI ft)), (4, .int 0), (0, .ref k0), (1, .int (nI f)), (2, .int (nI g)), (3, .int gp9)]) hx hb dX11_join_269 hl (k := 0) rfl (nI_add q 1) (Nat.le_of_ble_eq_true rfl) rfl (fun ls hl => ?_)
                                    refine lv_goto (tgt := 196) hx hb dX11_join_272 rfl ?_
                                    have hl9 := lv_sub hl [0, 1, 2, 3, 4, 5, 6, 7] rfl
                                    have e9_6 : pI (jFr ft st tn (upd kd 200 6) (upd mn 200 4) (bxX 200 (x1) (x3) 4 cx) (bxY 200 (x2) (x4) 4 cy) f g (q + 1)) = (pI (jFr ft st tn (upd kd 200 6) (upd mn 200 4) (bxX 200 (x1) (x3) 4 cx) (bxY 200 (x2) (x4) 4 cy) f g q) : Int32) := by first | exact zp_iff (jF_y (fun h1 h2 h3 => ⟨by assumption, by assumption⟩)) | exact zp_f (jF_n (by omega) (by omega) (by first | with_reducible assumption | assumption) (by first | exact Or.inl (by first | with_reducible assumption | assumption) | exact Or.inr (by first | with_reducible assumption | assumption))) | exact zp_iff (jF_y (fun h1 h2 h3 => by first | (exfalso; omega) | exact absurd h3 (by first | with_reducible assumption | assumption)))
                                    have hl9 : lv_has ls 9 [(7, .int (nI (q + 1))), (6, .int (pI (jFr ft st tn (upd kd 200 6) (upd mn 200 4) (bxX 200 (x1) (x3) 4 cx) (bxY 200 (x2) (x4) 4 cy) f g (q + 1)))), (5, .int (nI ft)), (4, .int 0), (0, .ref k0), (1, .int (nI f)), (2, .int (nI g)), (3, .int gp9)] := by rw [e9_6]; exact hl9
                                    exact ih_196 (q + 1) S1 H locs ls (by first | with_reducible assumption | omega) (by first | with_reducible assumption | omega) hP hD hS hl9
                                  · have c_24 : ¬ ((q : Nat) : Int) = ((f : Nat) : Int) := zc_ne (nI_toInt b9_17) (nI_toInt b9_25) c_24
                                    refine lv_iload hx hb dX11_join_209 (lv_at hl 0 rfl) ?_
                                    refine lv_iload_n hx hb dX11_join_211 rfl (lv_at hl 6 rfl) ?_
                                    have b9_27 : zlt (g) := show g < 2147483648 by omega
                                    refine lv_icmp_eq (tgt := 269) hx hb dX11_join_212 rfl (fun c_26 => ?_) (fun c_26 => ?_)
                                    · have c_26 : ((q : Nat) : Int) = ((g : Nat) : Int) := zc_eq (nI_toInt b9_17) (nI_toInt b9_27) c_26
                                      refine lv_iinc (v := nI (q + 1)) (lv' := [(7, .int (nI (q + 1))), (6, .int (pI (jFr ft st tn (upd kd 200 6) (upd mn 200 4) (bxX 200 (x1) (x3) 4 cx) (bxY 200 (x2) (x4) 4 cy) f g q))), (5, .int (nI ft)), (4, .int 0), (0, .ref k0), (1, .int (nI f)), (2, .int (nI g)), (3, .int gp9)]) hx hb dX11_join_269 hl (k := 0) rfl (nI_add q 1) (Nat.le_of_ble_eq_true rfl) rfl (fun ls hl => ?_)
                                      refine lv_goto (tgt := 196) hx hb dX11_join_272 rfl ?_
                                      have hl9 := lv_sub hl [0, 1, 2, 3, 4, 5, 6, 7] rfl
                                      have e9_6 : pI (jFr ft st tn (upd kd 200 6) (upd mn 200 4) (bxX 200 (x1) (x3) 4 cx) (bxY 200 (x2) (x4) 4 cy) f g (q + 1)) = (pI (jFr ft st tn (upd kd 200 6) (upd mn 200 4) (bxX 200 (x1) (x3) 4 cx) (bxY 200 (x2) (x4) 4 cy) f g q) : Int32) := by first | exact zp_iff (jF_y (fun h1 h2 h3 => ⟨by assumption, by assumption⟩)) | exact zp_f (jF_n (by omega) (by omega) (by first | with_reducible assumption | assumption) (by first | exact Or.inl (by first | with_reducible assumption | assumption) | exact Or.inr (by first | with_reducible assumption | assumption))) | exact zp_iff (jF_y (fun h1 h2 h3 => by first | (exfalso; omega) | exact absurd h3 (by first | with_reducible assumption | assumption)))
                                      have hl9 : lv_has ls 9 [(7, .int (nI (q + 1))), (6, .int (pI (jFr ft st tn (upd kd 200 6) (upd mn 200 4) (bxX 200 (x1) (x3) 4 cx) (bxY 200 (x2) (x4) 4 cy) f g (q + 1)))), (5, .int (nI ft)), (4, .int 0), (0, .ref k0), (1, .int (nI f)), (2, .int (nI g)), (3, .int gp9)] := by rw [e9_6]; exact hl9
                                      exact ih_196 (q + 1) S1 H locs ls (by first | with_reducible assumption | omega) (by first | with_reducible assumption | omega) hP hD hS hl9
                                    · have c_26 : ¬ ((q : Nat) : Int) = ((g : Nat) : Int) := zc_ne (nI_toInt b9_17) (nI_toInt b9_27) c_26
                                      refine lv_aload_n hx hb dX11_join_215 rfl (lv_at hl 4 rfl) ?_
                                      refine lv_iload hx hb dX11_join_216 (lv_at hl 0 rfl) ?_
                                      obtain ⟨hPc, hDc, hFc, hI1⟩ := zi_sub (wc := [_, _, _]) hP hD hS hA [0, 1, 2] rfl rfl
                                      refine zcall (st1 := [.int (pI (q < ft ∧ (st q).toInt = 1 ∧ (tn q).toInt = 0))]) (va_runV (As := [.int (nI q)]) (rest := []) ⟨hx, hb, hml, hown, hts⟩ (k_M_is_n l dC dI cI cZ cF H.size k0 a (upd (upd (upd (upd I0 44 x1) 45 x2) 46 x3) 47 x4) (vp_updL (vp_updL J0 48 (jI ((uq : Nat) : Int))) 49 (jI ((dq : Nat) : Int))) q ft st tn (by first | with_reducible assumption | assumption) (by first | with_reducible assumption | omega) (by first | with_reducible assumption | omega)) (csV_179 hts rfl rfl ⟨Nat.le_of_ble_eq_true rfl, Nat.le_of_ble_eq_true rfl⟩) (zPV2 (q0 := 0) (ci := 9) hPc hDc hK hXN rfl rfl) rfl rfl hl.1 rfl (lv_room (Nat.le_of_ble_eq_true rfl)) dX11_join_218 ⟨Nat.le_of_ble_eq_true rfl, Nat.le_of_ble_eq_true rfl⟩) hS hFc hFc rfl (fun t H locs ht hB hk1 hS => ?_)
                                      obtain ⟨hP1, hD1⟩ := hB
                                      rw [ht] at hP1
                                      replace hP := z0 hP hD hk1 hP1 hI1
                                      clear hk1 hPc hDc hFc hP1 hD1 ht hI1
                                      refine lv_if_eq (tgt := 269) hx hb dX11_join_221 rfl (fun c_28 => ?_) (fun c_28 => ?_)
                                      · have c_28 : ¬ (q < ft ∧ (st q).toInt = 1 ∧ (tn q).toInt = 0) := zp_0 c_28
                                        refine lv_iinc (v := nI (q + 1)) (lv' := [(7, .int (nI (q + 1))), (6, .int (pI (jFr ft st tn (upd kd 200 6) (upd mn 200 4) (bxX 200 (x1) (x3) 4 cx) (bxY 200 (x2) (x4) 4 cy) f g q))), (5, .int (nI ft)), (4, .int 0), (0, .ref k0), (1, .int (nI f)), (2, .int (nI g)), (3, .int gp9)]) hx hb dX11_join_269 hl (k := 0) rfl (nI_add q 1) (Nat.le_of_ble_eq_true rfl) rfl (fun ls hl => ?_)
                                        refine lv_goto (tgt := 196) hx hb dX11_join_272 rfl ?_
                                        have hl9 := lv_sub hl [0, 1, 2, 3, 4, 5, 6, 7] rfl
                                        have e9_6 : pI (jFr ft st tn (upd kd 200 6) (upd mn 200 4) (bxX 200 (x1) (x3) 4 cx) (bxY 200 (x2) (x4) 4 cy) f g (q + 1)) = (pI (jFr ft st tn (upd kd 200 6) (upd mn 200 4) (bxX 200 (x1) (x3) 4 cx) (bxY 200 (x2) (x4) 4 cy) f g q) : Int32) := by first | exact zp_iff (jF_y (fun h1 h2 h3 => ⟨by assumption, by assumption⟩)) | exact zp_f (jF_n (by omega) (by omega) (by first | with_reducible assumption | assumption) (by first | exact Or.inl (by first | with_reducible assumption | assumption) | exact Or.inr (by first | with_reducible assumption | assumption))) | exact zp_iff (jF_y (fun h1 h2 h3 => by first | (exfalso; omega) | exact absurd h3 (by first | with_reducible assumption | assumption)))
                                        have hl9 : lv_has ls 9 [(7, .int (nI (q + 1))), (6, .int (pI (jFr ft st tn (upd kd 200 6) (upd mn 200 4) (bxX 200 (x1) (x3) 4 cx) (bxY 200 (x2) (x4) 4 cy) f g (q + 1)))), (5, .int (nI ft)), (4, .int 0), (0, .ref k0), (1, .int (nI f)), (2, .int (nI g)), (3, .int gp9)] := by rw [e9_6]; exact hl9
                                        exact ih_196 (q + 1) S1 H locs ls (by first | with_reducible assumption | omega) (by first | with_reducible assumption | omega) hP hD hS hl9
                                      · have c_28 : q < ft ∧ (st q).toInt = 1 ∧ (tn q).toInt = 0 := zp_1 c_28
                                        have hw_q := hwf2 q (by first | with_reducible assumption | assumption)
                                        have hn_q := hw_q.2.1
                                        refine lv_aload_n hx hb dX11_join_224 rfl (lv_at hl 4 rfl) ?_
                                        refine lv_sipush (v := 200) hx hb dX11_join_225 rfl ?_
                                        refine lv_iload hx hb dX11_join_228 (lv_at hl 0 rfl) ?_
                                        obtain ⟨hPc, hDc, hFc⟩ := zo_sub (wc := [_, _, _, _, _, _]) hP hD hS hA [0, 3, 4, 5, 6, 7] (by decide +kernel) rfl
                                        refine zcall (st1 := [.int (pI (∃ i, i < eO ((upd kd 200 6) 200).toInt 4 ∧ ∃ j, j < eO ((upd kd 200 6) q).toInt (nN ((upd mn 200 4) q)) ∧ eMt 4 (cF40 (bxX 200 (x1) (x3) 4 cx) 200) (cF40 (bxY 200 (x2) (x4) 4 cy) 200) i (nN ((upd mn 200 4) q)) (cF40 (bxX 200 (x1) (x3) 4 cx) q) (cF40 (bxY 200 (x2) (x4) 4 cy) q) j))]) (va_runV (As := [.int 200, .int (nI q)]) (rest := []) ⟨hx, hb, hml, hown, hts⟩ (k_M_isMet l dC dI cI cZ cF H.size k0 a (upd (upd (upd (upd I0 44 x1) 45 x2) 46 x3) 47 x4) (vp_updL (vp_updL J0 48 (jI ((uq : Nat) : Int))) 49 (jI ((dq : Nat) : Int))) 200 4 q (nN ((upd mn 200 4) q)) (upd kd 200 6) (upd mn 200 4) (bxX 200 (x1) (x3) 4 cx) (bxY 200 (x2) (x4) 4 cy) S1 (by first | with_reducible assumption | omega) (hm_b) (by first | with_reducible assumption | omega) (hp_b) (by first | with_reducible assumption | omega) (hw_q.1) (hw_q.2.1) (hw_q.2.2)) (csV_180 hts rfl rfl ⟨Nat.le_of_ble_eq_true rfl, Nat.le_of_ble_eq_true rfl⟩) (zPV2 (q0 := 0) (ci := 9) hPc hDc hK hXN rfl rfl) rfl rfl hl.1 rfl (lv_room (Nat.le_of_ble_eq_true rfl)) dX11_join_230 ⟨Nat.le_of_ble_eq_true rfl, Nat.le_of_ble_eq_true rfl⟩) hS hFc hFc rfl (fun t H locs ht hB hk1 hS => ?_)
                                        obtain ⟨q_29, hP1, hD1⟩ := hB
                                        rw [ht] at hP1
                                        obtain ⟨hP, hD⟩ := zn (W2 := [_, _, _, _, _, _, _, (oa (a 32) cI 8 q_29)]) hP hD hk1 hFc hP1 hD1 [0, 3, 4, 5, 6, 7] [false, true, true] zl_146 [0, 3, 4, 5, 6, 7] (by decide +kernel) rfl rfl rfl rfl rfl
                                        clear hk1 hPc hDc hFc hP1 hD1 ht
                                        refine zz_i (v := pI (mtF ((upd kd 200 6) 200).toInt 4 (cF40 (bxX 200 (x1) (x3) 4 cx) 200) (cF40 (bxY 200 (x2) (x4) 4 cy) 200) ((upd kd 200 6) q).toInt (nN ((upd mn 200 4) q)) (cF40 (bxX 200 (x1) (x3) 4 cx) q) (cF40 (bxY 200 (x2) (x4) 4 cy) q))) (rfl) ?_
                                        refine lv_if_ne (tgt := 266) hx hb dX11_join_233 rfl (fun c_30 => ?_) (fun c_30 => ?_)
                                        · have c_30 : mtF ((upd kd 200 6) 200).toInt 4 (cF40 (bxX 200 (x1) (x3) 4 cx) 200) (cF40 (bxY 200 (x2) (x4) 4 cy) 200) ((upd kd 200 6) q).toInt (nN ((upd mn 200 4) q)) (cF40 (bxX 200 (x1) (x3) 4 cx) q) (cF40 (bxY 200 (x2) (x4) 4 cy) q) := zp_1 c_30
                                          refine lv_iconst (v := 0) hx hb dX11_join_266 rfl ?_
                                          refine lv_istore (lv' := [(6, .int 0), (7, .int (nI q)), (5, .int (nI ft)), (4, .int 0), (0, .ref k0), (1, .int (nI f)), (2, .int (nI g)), (3, .int gp9)]) hx hb dX11_join_267 hl (Nat.le_of_ble_eq_true rfl) rfl (fun ls hl => ?_)
                                          refine lv_iinc (v := nI (q + 1)) (lv' := [(7, .int (nI (q + 1))), (6, .int 0), (5, .int (nI ft)), (4, .int 0), (0, .ref k0), (1, .int (nI f)), (2, .int (nI g)), (3, .int gp9)]) hx hb dX11_join_269 hl (k := 1) rfl (nI_add q 1) (Nat.le_of_ble_eq_true rfl) rfl (fun ls hl => ?_)
                                          refine lv_goto (tgt := 196) hx hb dX11_join_272 rfl ?_
                                          have hl9 := lv_sub hl [0, 1, 2, 3, 4, 5, 6, 7] rfl
                                          have e9_6 : pI (jFr ft st tn (upd kd 200 6) (upd mn 200 4) (bxX 200 (x1) (x3) 4 cx) (bxY 200 (x2) (x4) 4 cy) f g (q + 1)) = (0 : Int32) := by first | exact zp_iff (jF_y (fun h1 h2 h3 => ⟨by assumption, by assumption⟩)) | exact zp_f (jF_n (by omega) (by omega) (by first | with_reducible assumption | assumption) (by first | exact Or.inl (by first | with_reducible assumption | assumption) | exact Or.inr (by first | with_reducible assumption | assumption))) | exact zp_iff (jF_y (fun h1 h2 h3 => by first | (exfalso; omega) | exact absurd h3 (by first | with_reducible assumption | assumption)))
                                          have hl9 : lv_has ls 9 [(7, .int (nI (q + 1))), (6, .int (pI (jFr ft st tn (upd kd 200 6) (upd mn 200 4) (bxX 200 (x1) (x3) 4 cx) (bxY 200 (x2) (x4) 4 cy) f g (q + 1)))), (5, .int (nI ft)), (4, .int 0), (0, .ref k0), (1, .int (nI f)), (2, .int (nI g)), (3, .int gp9)] := by rw [e9_6]; exact hl9
                                          exact ih_196 (q + 1) q_29 H locs ls (by first | with_reducible assumption | omega) (by first | with_reducible assumption | omega) hP hD hS hl9
                                        · have c_30 : ¬ (mtF ((upd kd 200 6) 200).toInt 4 (cF40 (bxX 200 (x1) (x3) 4 cx) 200) (cF40 (bxY 200 (x2) (x4) 4 cy) 200) ((upd kd 200 6) q).toInt (nN ((upd mn 200 4) q)) (cF40 (bxX 200 (x1) (x3) 4 cx) q) (cF40 (bxY 200 (x2) (x4) 4 cy) q)) := zp_0 c_30
                                          refine lv_aload_n hx hb dX11_join_236 rfl (lv_at hl 4 rfl) ?_
                                          refine lv_sipush (v := 200) hx hb dX11_join_237 rfl ?_
                                          refine lv_aload_n hx hb dX11_join_240 rfl (lv_at hl 4 rfl) ?_
                                          refine va_get (D := (dC, dI)) (ci := 9) (v := .ref (a 12)) (C := RX11) (T := TX11) (N := 55) hx hb hts inX11 hown hK hP 0 rfl rfl 12 (Nat.le_of_ble_eq_true rfl) (hts _ mw_1171) (fun _ h9 => h9) rfl dX11_join_241 ?_
                                          refine lv_bipush (v := 40) hx hb dX11_join_244 rfl ?_
                                          refine lv_iload hx hb dX11_join_246 (lv_at hl 0 rfl) ?_
                                          refine lv_imul hx hb dX11_join_248 ?_
                                          refine zz_i (v := nI (40 * q)) (pk_mul 40 q) ?_
                                          have b9_31 : 40 * q < 8040 := by omega
                                          refine z_iald hx hb hK hP 5 0 rfl rfl (e := 40 * q) rfl b9_31 (Nat.le_of_ble_eq_true rfl) dX11_join_249 ?_
                                          refine lv_aload_n hx hb dX11_join_250 rfl (lv_at hl 4 rfl) ?_
                                          refine va_get (D := (dC, dI)) (ci := 9) (v := .ref (a 13)) (C := RX11) (T := TX11) (N := 55) hx hb hts inX11 hown hK hP 0 rfl rfl 13 (Nat.le_of_ble_eq_true rfl) (hts _ mw_1172) (fun _ h9 => h9) rfl dX11_join_251 ?_
                                          refine lv_bipush (v := 40) hx hb dX11_join_254 rfl ?_
                                          refine lv_iload hx hb dX11_join_256 (lv_at hl 0 rfl) ?_
                                          refine lv_imul hx hb dX11_join_258 ?_
                                          refine zz_i (v := nI (40 * q)) (pk_mul 40 q) ?_
                                          refine z_iald hx hb hK hP 6 0 rfl rfl (e := 40 * q) rfl b9_31 (Nat.le_of_ble_eq_true rfl) dX11_join_259 ?_
                                          obtain ⟨hPc, hDc, hFc⟩ := zo_sub (wc := [_, _, _, _, _, _]) hP hD hS hA [0, 3, 4, 5, 6, 7] (by decide +kernel) rfl
                                          refine zcall (st1 := [.int (pI (¬ (∃ i, i < eO ((upd kd 200 6) 200).toInt 4 ∧ eOn 4 (cF40 (bxX 200 (x1) (x3) 4 cx) 200) (cF40 (bxY 200 (x2) (x4) 4 cy) 200) i ((bxX 200 (x1) (x3) 4 cx) (40 * q)).toInt ((bxY 200 (x2) (x4) 4 cy) (40 * q)).toInt) ∧ par2 (eTg 4 (cF40 (bxX 200 (x1) (x3) 4 cx) 200) (cF40 (bxY 200 (x2) (x4) 4 cy) 200) ((bxX 200 (x1) (x3) 4 cx) (40 * q)).toInt ((bxY 200 (x2) (x4) 4 cy) (40 * q)).toInt) (eO ((upd kd 200 6) 200).toInt 4)))]) (va_runV (As := [.int 200, .int ((bxX 200 (x1) (x3) 4 cx) (40 * q)), .int ((bxY 200 (x2) (x4) 4 cy) (40 * q))]) (rest := []) ⟨hx, hb, hml, hown, hts⟩ (k_M_isInside l dC dI cI cZ cF H.size k0 a (upd (upd (upd (upd I0 44 x1) 45 x2) 46 x3) 47 x4) (vp_updL (vp_updL J0 48 (jI ((uq : Nat) : Int))) 49 (jI ((dq : Nat) : Int))) 200 4 (upd kd 200 6) (upd mn 200 4) (bxX 200 (x1) (x3) 4 cx) (bxY 200 (x2) (x4) 4 cy) q_29 ((bxX 200 (x1) (x3) 4 cx) (40 * q)) ((bxY 200 (x2) (x4) 4 cy) (40 * q)) (by first | with_reducible assumption | omega) (hm_b) (by first | with_reducible assumption | omega) (hp_b) ((hw_q.2.2 0 (by first | with_reducible assumption | omega)).1) ((hw_q.2.2 0 (by first | with_reducible assumption | omega)).2)) (csV_183 hts rfl rfl ⟨Nat.le_of_ble_eq_true rfl, Nat.le_of_ble_eq_true rfl⟩) (zPV2 (q0 := 0) (ci := 9) hPc hDc hK hXN rfl rfl) rfl rfl hl.1 rfl (lv_room (Nat.le_of_ble_eq_true rfl)) dX11_join_260 ⟨Nat.le_of_ble_eq_true rfl, Nat.le_of_ble_eq_true rfl⟩) hS hFc hFc rfl (fun t H locs ht hB hk1 hS => ?_)
                                          obtain ⟨q_32, hP1, hD1⟩ := hB
                                          rw [ht] at hP1
                                          obtain ⟨hP, hD⟩ := zn (W2 := [_, _, _, _, _, _, _, (oa (a 32) cI 8 q_32)]) hP hD hk1 hFc hP1 hD1 [0, 3, 4, 5, 6, 7] [false, true, true] zl_146 [0, 3, 4, 5, 6, 7] (by decide +kernel) rfl rfl rfl rfl rfl
                                          clear hk1 hPc hDc hFc hP1 hD1 ht
                                          refine zz_i (v := pI (inF ((upd kd 200 6) 200).toInt 4 (cF40 (bxX 200 (x1) (x3) 4 cx) 200) (cF40 (bxY 200 (x2) (x4) 4 cy) 200) ((bxX 200 (x1) (x3) 4 cx) (40 * q)).toInt ((bxY 200 (x2) (x4) 4 cy) (40 * q)).toInt)) (rfl) ?_
                                          refine lv_if_eq (tgt := 269) hx hb dX11_join_263 rfl (fun c_33 => ?_) (fun c_33 => ?_)
                                          · have c_33 : ¬ (inF ((upd kd 200 6) 200).toInt 4 (cF40 (bxX 200 (x1) (x3) 4 cx) 200) (cF40 (bxY 200 (x2) (x4) 4 cy) 200) ((bxX 200 (x1) (x3) 4 cx) (40 * q)).toInt ((bxY 200 (x2) (x4) 4 cy) (40 * q)).toInt) := zp_0 c_33
                                            refine lv_iinc (v := nI (q + 1)) (lv' := [(7, .int (nI (q + 1))), (6, .int (pI (jFr ft st tn (upd kd 200 6) (upd mn 200 4) (bxX 200 (x1) (x3) 4 cx) (bxY 200 (x2) (x4) 4 cy) f g q))), (5, .int (nI ft)), (4, .int 0), (0, .ref k0), (1, .int (nI f)), (2, .int (nI g)), (3, .int gp9)]) hx hb dX11_join_269 hl (k := 0) rfl (nI_add q 1) (Nat.le_of_ble_eq_true rfl) rfl (fun ls hl => ?_)
                                            refine lv_goto (tgt := 196) hx hb dX11_join_272 rfl ?_
                                            have hl9 := lv_sub hl [0, 1, 2, 3, 4, 5, 6, 7] rfl
                                            have e9_6 : pI (jFr ft st tn (upd kd 200 6) (upd mn 200 4) (bxX 200 (x1) (x3) 4 cx) (bxY 200 (x2) (x4) 4 cy) f g (q + 1)) = (pI (jFr ft st tn (upd kd 200 6) (upd mn 200 4) (bxX 200 (x1) (x3) 4 cx) (bxY 200 (x2) (x4) 4 cy) f g q) : Int32) := by first | exact zp_iff (jF_y (fun h1 h2 h3 => ⟨by assumption, by assumption⟩)) | exact zp_f (jF_n (by omega) (by omega) (by first | with_reducible assumption | assumption) (by first | exact Or.inl (by first | with_reducible assumption | assumption) | exact Or.inr (by first | with_reducible assumption | assumption))) | exact zp_iff (jF_y (fun h1 h2 h3 => by first | (exfalso; omega) | exact absurd h3 (by first | with_reducible assumption | assumption)))
                                            have hl9 : lv_has ls 9 [(7, .int (nI (q + 1))), (6, .int (pI (jFr ft st tn (upd kd 200 6) (upd mn 200 4) (bxX 200 (x1) (x3) 4 cx) (bxY 200 (x2) (x4) 4 cy) f g (q + 1)))), (5, .int (nI ft)), (4, .int 0), (0, .ref k0), (1, .int (nI f)), (2, .int (nI g)), (3, .int gp9)] := by rw [e9_6]; exact hl9
                                            exact ih_196 (q + 1) q_32 H locs ls (by first | with_reducible assumption | omega) (by first | with_reducible assumption | omega) hP hD hS hl9
                                          · have c_33 : inF ((upd kd 200 6) 200).toInt 4 (cF40 (bxX 200 (x1) (x3) 4 cx) 200) (cF40 (bxY 200 (x2) (x4) 4 cy) 200) ((bxX 200 (x1) (x3) 4 cx) (40 * q)).toInt ((bxY 200 (x2) (x4) 4 cy) (40 * q)).toInt := zp_1 c_33
                                            refine lv_iconst (v := 0) hx hb dX11_join_266 rfl ?_
                                            refine lv_istore (lv' := [(6, .int 0), (7, .int (nI q)), (5, .int (nI ft)), (4, .int 0), (0, .ref k0), (1, .int (nI f)), (2, .int (nI g)), (3, .int gp9)]) hx hb dX11_join_267 hl (Nat.le_of_ble_eq_true rfl) rfl (fun ls hl => ?_)
                                            refine lv_iinc (v := nI (q + 1)) (lv' := [(7, .int (nI (q + 1))), (6, .int 0), (5, .int (nI ft)), (4, .int 0), (0, .ref k0), (1, .int (nI f)), (2, .int (nI g)), (3, .int gp9)]) hx hb dX11_join_269 hl (k := 1) rfl (nI_add q 1) (Nat.le_of_ble_eq_true rfl) rfl (fun ls hl => ?_)
                                            refine lv_goto (tgt := 196) hx hb dX11_join_272 rfl ?_
                                            have hl9 := lv_sub hl [0, 1, 2, 3, 4, 5, 6, 7] rfl
                                            have e9_6 : pI (jFr ft st tn (upd kd 200 6) (upd mn 200 4) (bxX 200 (x1) (x3) 4 cx) (bxY 200 (x2) (x4) 4 cy) f g (q + 1)) = (0 : Int32) := by first | exact zp_iff (jF_y (fun h1 h2 h3 => ⟨by assumption, by assumption⟩)) | exact zp_f (jF_n (by omega) (by omega) (by first | with_reducible assumption | assumption) (by first | exact Or.inl (by first | with_reducible assumption | assumption) | exact Or.inr (by first | with_reducible assumption | assumption))) | exact zp_iff (jF_y (fun h1 h2 h3 => by first | (exfalso; omega) | exact absurd h3 (by first | with_reducible assumption | assumption)))
                                            have hl9 : lv_has ls 9 [(7, .int (nI (q + 1))), (6, .int (pI (jFr ft st tn (upd kd 200 6) (upd mn 200 4) (bxX 200 (x1) (x3) 4 cx) (bxY 200 (x2) (x4) 4 cy) f g (q + 1)))), (5, .int (nI ft)), (4, .int 0), (0, .ref k0), (1, .int (nI f)), (2, .int (nI g)), (3, .int gp9)] := by rw [e9_6]; exact hl9
                                            exact ih_196 (q + 1) q_32 H locs ls (by first | with_reducible assumption | omega) (by first | with_reducible assumption | omega) hP hD hS hl9
                            have e9_6 : pI (jFr ft st tn (upd kd 200 6) (upd mn 200 4) (bxX 200 (x1) (x3) 4 cx) (bxY 200 (x2) (x4) 4 cy) f g 0) = (1 : Int32) := by exact zp_t jF_0
                            have hl9 : lv_has ls 9 [(7, .int (nI 0)), (6, .int (pI (jFr ft st tn (upd kd 200 6) (upd mn 200 4) (bxX 200 (x1) (x3) 4 cx) (bxY 200 (x2) (x4) 4 cy) f g 0))), (5, .int (nI ft)), (4, .int 0), (0, .ref k0), (1, .int (nI f)), (2, .int (nI g)), (3, .int gp9)] := by rw [e9_6]; exact lv_sub hl [0, 1, 2, 3, 4, 5, 6, 7] rfl
                            exact hl_196 _ 0 S2 H locs ls (Nat.lt_succ_self _) (by first | with_reducible assumption | omega) hP hD hS hl9
                          · have c_15 : (gp9.toInt * gp9.toInt * ((dq : Nat) : Int)) < ((uq : Nat) : Int) := zl_nle (jI_toInt (by omega)) (jI_toInt (by omega)) c_15
                            exfalso; exact hnf (hf9.mp (by omega))
                        · exact absurd (by decide) c_14
                      · have c_13 : ¬ (tn g).toInt = 0 := zc_ne rfl rfl c_13
                        exfalso; omega
                  · have c_11 : 1000 < gp9.toInt := zc_nle rfl rfl c_11
                    exfalso; omega
              · have c_9 : ¬ (kd g).toInt = 6 := zc_ne rfl rfl c_9
                exfalso; omega
          · exact absurd (by decide) c_7
        · have c_6 : ¬ (st g).toInt = 1 := zc_ne rfl rfl c_6
          exfalso; omega
    · have c_2 : ¬ (g < ft) := zp_0 c_2
      exfalso; omega
set_option maxHeartbeats 4000000 in
set_option maxRecDepth 100000 in
theorem k_M_join_y (l : Launch) (dC : Nat → ClassId) (dI : Nat → Nat → Nat) (cI cZ cF : ClassId) (sz : Nat) (k0 : Nat) (a : Nat → Nat) (I0 : Nat → Int32) (J0 : Nat → Int64) (f : Nat) (n : Nat) (g : Nat) (m2 : Nat) (ft : Nat) (gp9 : Int32) (dn : Nat) (bs : Nat) (w0 : Nat) (cp : Nat) (c1 : Nat) (c2 : Nat) (ln : Nat) (cl : Nat) (kd : Nat → Int32) (st : Nat → Int32) (gb : Nat → Int32) (it : Nat → Int32) (pa : Nat → Int32) (pb : Nat → Int32) (rk : Nat → Int32) (wd : Nat → Int32) (tw : Nat → Int32) (tn : Nat → Int32) (mn : Nat → Int32) (cx : Nat → Int32) (cy : Nat → Int32) (sa : Nat → Int32) (sh : Nat → Int32) (wh : Nat → Int32) (of9 : Nat → Int32) (we : Nat → Int32) (S0 : Nat → Int32) (la : Nat → Int32) (lb : Nat → Int32) (lc : Nat → Int32) (ld : Nat → Int32) (hft : I0 0 = nI ft) (h200 : ft ≤ 200) (hf_f : f ≤ 200) (hm_f : mn f = nI n) (hn_f : 1 ≤ n ∧ n ≤ 40) (hp_f : pls n (cF40 cx f) (cF40 cy f)) (hf_g : g ≤ 200) (hm_g : mn g = nI m2) (hn_g : 1 ≤ m2 ∧ m2 ≤ 40) (hp_g : pls m2 (cF40 cx g) (cF40 cy g)) (hf_t : f < ft) (hg_t : g < ft) (hok : ((st f).toInt = 1 ∧ (st g).toInt = 1) ∧ ((kd f).toInt = 6 ∧ (kd g).toInt = 6) ∧ (0 ≤ gp9.toInt ∧ gp9.toInt ≤ 1000) ∧ ((tn f).toInt = 0 ∧ (tn g).toInt = 0)) (he_f : 1 ≤ eO (kd f).toInt n) (he_g : 1 ≤ eO (kd g).toInt m2) (hwf : ∀ q, lvF ft st tn q → wfM mn cx cy q) (hnf : ¬ (¬ mtF (kd f).toInt n (cF40 cx f) (cF40 cy f) (kd g).toInt m2 (cF40 cx g) (cF40 cy g) ∧ ∀ u d : Nat, 1 ≤ d → IM (dcP n (cF40 cx f) (cF40 cy f) m2 (cF40 cx g) (cF40 cy g) (eO (kd g).toInt m2) (eO (kd f).toInt n) 0) ((u : Nat) : Int) ((d : Nat) : Int) → gp9.toInt * gp9.toInt * ((d : Nat) : Int) < ((u : Nat) : Int))) (hfree : jFr ft st tn (upd kd 200 6) (upd mn 200 4) (bxX 200 ((jlo cx f n g m2)) ((jhi cx f n g m2)) 4 cx) (bxY 200 ((jlo cy f n g m2)) ((jhi cy f n g m2)) 4 cy) f g ft) (h8 : ¬ f = g ∧ ft < 200) (hdn : I0 19 = nI dn) (hbs : I0 21 = nI bs) (hbd : bs ≤ dn) (hd512 : dn ≤ 512) (hlc : ln ≤ 64 * cl) (hcl1 : 1 ≤ cl) (hclm : cl ≤ 1000000) (hi5_1 : (dn - bs) < 515) (hsa_1 : sa (dn - bs) = nI w0) (hmn_1 : ∀ v9, v9 < ft → (tn v9).toInt = 0 → ¬ (st v9).toInt = 0 → mn v9 = nI (nN (mn v9)) ∧ nN (mn v9) ≤ 40) (hc1_1 : 1 ≤ cp) (hpw_1 : pw cp c1) (hw0_1 : w0 ≤ 4096 * cp) (hfit_1 : psN (nnF st tn mn) w0 ft ≤ 4096 * c1) (hmin_1 : c1 = cp ∨ 2048 * c1 < psN (nnF st tn mn) w0 ft) (hcE_1 : c1 ≤ 512) (hpw_2 : pw c1 c2) (hfit_2 : (psN (nnF (upd (upd (upd st ft 1) f 2) g 2) (upd tn ft 0) (upd (upd mn 200 4) ft 4)) (psN (nnF st tn mn) w0 ft) (ft + 1)) ≤ 4096 * c2) (hmin_2 : c2 = c1 ∨ 2048 * c2 < (psN (nnF (upd (upd (upd st ft 1) f 2) g 2) (upd tn ft 0) (upd (upd mn 200 4) ft 4)) (psN (nnF st tn mn) w0 ft) (ft + 1))) (hcE_2 : c2 ≤ 512) : zM l yX11_join cX11_join 9 (some .int) ({ frames := 5, cells := c2 - cp, slots := 8192 * (c2 - cp), locals := 129 } : Room) [.ref k0, .int (nI f), .int (nI g), .int gp9] (dC, dI) (zTy cI cZ cF) [(om k0 a (upd I0 26 (nI ln)) J0), (oa (a 1) cI 201 kd), (oa (a 5) cI 201 st), (oa (a 7) cI 201 gb), (oa (a 10) cI 201 it), (oa (a 8) cI 201 pa), (oa (a 9) cI 201 pb), (oa (a 2) cI 201 rk), (oa (a 3) cI 201 wd), (oa (a 4) cI 201 tw), (oa (a 6) cZ 201 tn), (oa (a 11) cI 201 mn), (oa (a 12) cI 8040 cx), (oa (a 13) cI 8040 cy), (oa (a 27) cI 516 sa), (oa (a 28) cI (4096 * cp) sh), (oa (a 16) cI 514 wh), (oa (a 17) cI 514 of9), (oa (a 18) cI 514 we), (oa (a 32) cI 8 S0), (oa (a 22) cI (64 * cl) la), (oa (a 23) cI (64 * cl) lb), (oa (a 24) cI (64 * cl) lc), (oa (a 25) cI (64 * cl) ld)] sz (some (.int (nI ft))) (fun A t => ∃ (b2 : Nat), ∃ (sh2 : Nat → Int32), ∃ (t9 : Nat), ∃ (uq : Nat), ∃ (dq : Nat), ∃ (S1 : Nat → Int32), ∃ (x1 : Int32), ∃ (x2 : Int32), ∃ (x3 : Int32), ∃ (x4 : Int32), ∃ (la1 : Nat → Int32), ∃ (lb1 : Nat → Int32), ∃ (lc1 : Nat → Int32), ∃ (ld1 : Nat → Int32), (x1 = jlo cx f n g m2) ∧ (x2 = jlo cy f n g m2) ∧ (x3 = jhi cx f n g m2) ∧ (x4 = jhi cy f n g m2) ∧ (sh2 w0 = nI ft) ∧ (∀ j, j < w0 → sh2 j = sh j) ∧ (∀ g, g < ft → ∀ j, j < 10 + 2 * (nnF st tn mn) g → sh2 (psN (nnF st tn mn) w0 g + j) = (shD kd st gb it pa pb rk wd tw (nnF st tn mn) cx cy) g j) ∧ (sh2 (psN (nnF st tn mn) w0 ft) = nI (ft + 1)) ∧ (∀ g9, g9 < ft + 1 → ∀ j, j < 10 + 2 * (nnF (upd (upd (upd st ft 1) f 2) g 2) (upd tn ft 0) (upd (upd mn 200 4) ft 4)) g9 → sh2 (psN (nnF (upd (upd (upd st ft 1) f 2) g 2) (upd tn ft 0) (upd (upd mn 200 4) ft 4)) (psN (nnF st tn mn) w0 ft) g9 + j) = (shD (upd (upd kd 200 6) ft 6) (upd (upd (upd st ft 1) f 2) g 2) (upd (upd (upd gb ft 0) f (nI (dn + 1))) g (nI (dn + 1))) (upd (upd (upd it ft (-1)) f (nI ft)) g (nI ft)) (upd pa ft (nI f)) (upd pb ft (nI g)) (upd rk ft (rk f)) (upd wd ft (wd f)) (upd tw ft (tw f)) (nnF (upd (upd (upd st ft 1) f 2) g 2) (upd tn ft 0) (upd (upd mn 200 4) ft 4)) (bxX ft (x1) (x3) 4 (bxX 200 (x1) (x3) 4 cx)) (bxY ft (x2) (x4) 4 (bxY 200 (x2) (x4) 4 cy))) g9 j) ∧ (t9 ≤ ln) ∧ ((∀ j, j < t9 → ∃ i, i < ln ∧ lb1 j = lb i ∧ lc1 j = lc i) ∧ lsZ dn ln la lb lc ld t9 la1 lb1 lc1 ld1 (fun _ _ _ => False)) ∧ zPD (dC, dI) classes A [(om k0 (va_up a 28 b2) (upd (upd (upd (upd (upd (upd (upd (upd (upd (upd I0 0 (nI (ft + 1))) 14 0) 19 (nI (dn + 1))) 20 0) 26 (nI t9)) 41 (nI (psN (nnF (upd (upd (upd st ft 1) f 2) g 2) (upd tn ft 0) (upd (upd mn 200 4) ft 4)) (psN (nnF st tn mn) w0 ft) (ft + 1)))) 44 x1) 45 x2) 46 x3) 47 x4) (vp_updL (vp_updL J0 48 (jI ((uq : Nat) : Int))) 49 (jI ((dq : Nat) : Int)))), (oa (a 1) cI 201 (upd (upd kd 200 6) ft 6)), (oa (a 5) cI 201 (upd (upd (upd st ft 1) f 2) g 2)), (oa (a 7) cI 201 (upd (upd (upd gb ft 0) f (nI (dn + 1))) g (nI (dn + 1)))), (oa (a 10) cI 201 (upd (upd (upd it ft (-1)) f (nI ft)) g (nI ft))), (oa (a 8) cI 201 (upd pa ft (nI f))), (oa (a 9) cI 201 (upd pb ft (nI g))), (oa (a 2) cI 201 (upd rk ft (rk f))), (oa (a 3) cI 201 (upd wd ft (wd f))), (oa (a 4) cI 201 (upd tw ft (tw f))), (oa (a 6) cZ 201 (upd tn ft 0)), (oa (a 11) cI 201 (upd (upd mn 200 4) ft 4)), (oa (a 12) cI 8040 (bxX ft (x1) (x3) 4 (bxX 200 (x1) (x3) 4 cx))), (oa (a 13) cI 8040 (bxY ft (x2) (x4) 4 (bxY 200 (x2) (x4) 4 cy))), (oa (a 27) cI 516 (upd (upd sa (dn - bs + 1) (nI (psN (nnF st tn mn) w0 ft))) (dn + 1 - bs + 1) (nI (psN (nnF (upd (upd (upd st ft 1) f 2) g 2) (upd tn ft 0) (upd (upd mn 200 4) ft 4)) (psN (nnF st tn mn) w0 ft) (ft + 1))))), (oa b2 cI (4096 * c2) sh2), (oa (a 16) cI 514 (upd wh (dn + 1) (6 : Int32))), (oa (a 17) cI 514 (upd of9 (dn + 1) (nI f))), (oa (a 18) cI 514 (upd we (dn + 1) (2 : Int32))), (oa (a 32) cI 8 S1), (oa (a 22) cI (64 * cl) la1), (oa (a 23) cI (64 * cl) lb1), (oa (a 24) cI (64 * cl) lc1), (oa (a 25) cI (64 * cl) ld1)] t.heap) (c2 - cp) (8192 * (c2 - cp)) := by
  refine zIn (own := "ScaleShopModel") (loc := [(0, .ref k0), (1, .int (nI f)), (2, .int (nI g)), (3, .int gp9)]) rfl rfl rfl rfl (fun p e s m below meth c hx hb hr hts hown hlocks hml hnm9 A hA hS hP hD hK hXN Q9 hQ9 ls hl => ?_)
  have hq1 := pw_le hpw_1
  have hq2 := pw_le hpw_2
  refine lv_aload_n hx hb dX11_join_0 rfl (lv_at hl 0 rfl) ?_
  refine lv_iload_n hx hb dX11_join_1 rfl (lv_at hl 1 rfl) ?_
  obtain ⟨hPc, hDc, hFc, hI1⟩ := zi_sub (wc := [_]) hP hD hS hA [0] rfl rfl
  refine zcall (st1 := [.int (pI (f < ft))]) (va_runV (As := [.int (nI f)]) (rest := []) ⟨hx, hb, hml, hown, hts⟩ (k_M_isFeature_n l dC dI cI cZ cF s.heap.size k0 a (upd I0 26 (nI ln)) J0 f ft (by first | with_reducible assumption | assumption) (by first | with_reducible assumption | omega) (by first | with_reducible assumption | omega)) (csV_178 hts rfl rfl ⟨Nat.le_of_ble_eq_true rfl, Nat.le_of_ble_eq_true rfl⟩) (zPV2 (q0 := 0) (ci := 9) hPc hDc hK hXN rfl rfl) rfl rfl hl.1 rfl (lv_room (Nat.le_of_ble_eq_true rfl)) dX11_join_2 ⟨Nat.zero_le _, Nat.zero_le _⟩) hS hFc hFc rfl (fun t H locs ht hB hk1 hS => ?_)
  obtain ⟨hP1, hD1⟩ := hB
  rw [ht] at hP1
  replace hP := z0 hP hD hk1 hP1 hI1
  clear hk1 hPc hDc hFc hP1 hD1 ht hI1
  refine lv_if_eq (tgt := 16) hx hb dX11_join_5 rfl (fun c_1 => ?_) (fun c_1 => ?_)
  · have c_1 : ¬ (f < ft) := zp_0 c_1
    exfalso; omega
  · have c_1 : f < ft := zp_1 c_1
    refine lv_aload_n hx hb dX11_join_8 rfl (lv_at hl 0 rfl) ?_
    refine lv_iload_n hx hb dX11_join_9 rfl (lv_at hl 2 rfl) ?_
    obtain ⟨hPc, hDc, hFc, hI1⟩ := zi_sub (wc := [_]) hP hD hS hA [0] rfl rfl
    refine zcall (st1 := [.int (pI (g < ft))]) (va_runV (As := [.int (nI g)]) (rest := []) ⟨hx, hb, hml, hown, hts⟩ (k_M_isFeature_n l dC dI cI cZ cF H.size k0 a (upd I0 26 (nI ln)) J0 g ft (by first | with_reducible assumption | assumption) (by first | with_reducible assumption | omega) (by first | with_reducible assumption | omega)) (csV_178 hts rfl rfl ⟨Nat.le_of_ble_eq_true rfl, Nat.le_of_ble_eq_true rfl⟩) (zPV2 (q0 := 0) (ci := 9) hPc hDc hK hXN rfl rfl) rfl rfl hl.1 rfl (lv_room (Nat.le_of_ble_eq_true rfl)) dX11_join_10 ⟨Nat.zero_le _, Nat.zero_le _⟩) hS hFc hFc rfl (fun t H locs ht hB hk1 hS => ?_)
    obtain ⟨hP1, hD1⟩ := hB
    rw [ht] at hP1
    replace hP := z0 hP hD hk1 hP1 hI1
    clear hk1 hPc hDc hFc hP1 hD1 ht hI1
    refine lv_if_ne (tgt := 20) hx hb dX11_join_13 rfl (fun c_2 => ?_) (fun c_2 => ?_)
    · have c_2 : g < ft := zp_1 c_2
      refine lv_aload_n hx hb dX11_join_20 rfl (lv_at hl 0 rfl) ?_
      refine va_get (D := (dC, dI)) (ci := 9) (v := .ref (a 5)) (C := RX11) (T := TX11) (N := 55) hx hb hts inX11 hown hK hP 0 rfl rfl 5 (Nat.le_of_ble_eq_true rfl) (hts _ mw_1164) (fun _ h9 => h9) rfl dX11_join_21 ?_
      refine lv_iload_n hx hb dX11_join_24 rfl (lv_at hl 1 rfl) ?_
      have b9_3 : f < 201 := by omega
      refine z_iald hx hb hK hP 2 0 rfl rfl (e := f) rfl b9_3 (Nat.le_of_ble_eq_true rfl) dX11_join_25 ?_
      refine lv_iconst (v := 1) hx hb dX11_join_26 rfl ?_
      refine lv_icmp_ne (tgt := 40) hx hb dX11_join_27 rfl (fun c_4 => ?_) (fun c_4 => ?_)
      · have c_4 : ¬ (st f).toInt = 1 := zc_ne rfl rfl c_4
        exfalso; omega
      · have c_4 : (st f).toInt = 1 := zc_eq rfl rfl c_4
        refine lv_aload_n hx hb dX11_join_30 rfl (lv_at hl 0 rfl) ?_
        refine va_get (D := (dC, dI)) (ci := 9) (v := .ref (a 5)) (C := RX11) (T := TX11) (N := 55) hx hb hts inX11 hown hK hP 0 rfl rfl 5 (Nat.le_of_ble_eq_true rfl) (hts _ mw_1164) (fun _ h9 => h9) rfl dX11_join_31 ?_
        refine lv_iload_n hx hb dX11_join_34 rfl (lv_at hl 2 rfl) ?_
        have b9_5 : g < 201 := by omega
        refine z_iald hx hb hK hP 2 0 rfl rfl (e := g) rfl b9_5 (Nat.le_of_ble_eq_true rfl) dX11_join_35 ?_
        refine lv_iconst (v := 1) hx hb dX11_join_36 rfl ?_
        refine lv_icmp_eq (tgt := 44) hx hb dX11_join_37 rfl (fun c_6 => ?_) (fun c_6 => ?_)
        · have c_6 : (st g).toInt = 1 := zc_eq rfl rfl c_6
          refine lv_iconst (v := 0) hx hb dX11_join_44 rfl ?_
          refine lv_istore (lv' := [(4, .int 0), (0, .ref k0), (1, .int (nI f)), (2, .int (nI g)), (3, .int gp9)]) hx hb dX11_join_45 hl (Nat.le_of_ble_eq_true rfl) rfl (fun ls hl => ?_)
          refine lv_iload hx hb dX11_join_47 (lv_at hl 0 rfl) ?_
          refine lv_if_le (tgt := 57) hx hb dX11_join_49 rfl (fun c_7 => ?_) (fun c_7 => ?_)
          · refine lv_aload_n hx hb dX11_join_57 rfl (lv_at hl 1 rfl) ?_
            refine va_get (D := (dC, dI)) (ci := 9) (v := .ref (a 1)) (C := RX11) (T := TX11) (N := 55) hx hb hts inX11 hown hK hP 0 rfl rfl 1 (Nat.le_of_ble_eq_true rfl) (hts _ mw_1160) (fun _ h9 => h9) rfl dX11_join_58 ?_
            refine lv_iload_n hx hb dX11_join_61 rfl (lv_at hl 2 rfl) ?_
            refine z_iald hx hb hK hP 1 0 rfl rfl (e := f) rfl b9_3 (Nat.le_of_ble_eq_true rfl) dX11_join_62 ?_
            refine lv_bipush (v := 6) hx hb dX11_join_63 rfl ?_
            refine lv_icmp_ne (tgt := 79) hx hb dX11_join_65 rfl (fun c_8 => ?_) (fun c_8 => ?_)
            · have c_8 : ¬ (kd f).toInt = 6 := zc_ne rfl rfl c_8
              exfalso; omega
            · have c_8 : (kd f).toInt = 6 := zc_eq rfl rfl c_8
              refine lv_aload_n hx hb dX11_join_68 rfl (lv_at hl 1 rfl) ?_
              refine va_get (D := (dC, dI)) (ci := 9) (v := .ref (a 1)) (C := RX11) (T := TX11) (N := 55) hx hb hts inX11 hown hK hP 0 rfl rfl 1 (Nat.le_of_ble_eq_true rfl) (hts _ mw_1160) (fun _ h9 => h9) rfl dX11_join_69 ?_
              refine lv_iload_n hx hb dX11_join_72 rfl (lv_at hl 3 rfl) ?_
              refine z_iald hx hb hK hP 1 0 rfl rfl (e := g) rfl b9_5 (Nat.le_of_ble_eq_true rfl) dX11_join_73 ?_
              refine lv_bipush (v := 6) hx hb dX11_join_74 rfl ?_
              refine lv_icmp_eq (tgt := 83) hx hb dX11_join_76 rfl (fun c_9 => ?_) (fun c_9 => ?_)
              · have c_9 : (kd g).toInt = 6 := zc_eq rfl rfl c_9
                refine lv_iload_n hx hb dX11_join_83 rfl (lv_at hl 4 rfl) ?_
                refine lv_if_lt (tgt := 94) hx hb dX11_join_84 rfl (fun c_10 => ?_) (fun c_10 => ?_)
                · have c_10 : gp9.toInt < 0 := zc_lt rfl rfl c_10
                  exfalso; omega
                · have c_10 : 0 ≤ gp9.toInt := zc_nlt rfl rfl c_10
                  refine lv_iload_n hx hb dX11_join_87 rfl (lv_at hl 4 rfl) ?_
                  refine lv_sipush (v := 1000) hx hb dX11_join_88 rfl ?_
                  refine lv_icmp_le (tgt := 98) hx hb dX11_join_91 rfl (fun c_11 => ?_) (fun c_11 => ?_)
                  · have c_11 : gp9.toInt ≤ 1000 := zc_le rfl rfl c_11
                    refine lv_aload_n hx hb dX11_join_98 rfl (lv_at hl 1 rfl) ?_
                    refine va_get (D := (dC, dI)) (ci := 9) (v := .ref (a 6)) (C := RX11) (T := TX11) (N := 55) hx hb hts inX11 hown hK hP 0 rfl rfl 6 (Nat.le_of_ble_eq_true rfl) (hts _ mw_1165) (fun _ h9 => h9) rfl dX11_join_99 ?_
                    refine lv_iload_n hx hb dX11_join_102 rfl (lv_at hl 2 rfl) ?_
                    refine z_zald hx hb hK hP 10 1 rfl rfl (e := f) rfl b9_3 (Nat.le_of_ble_eq_true rfl) dX11_join_103 ?_
                    refine lv_if_ne (tgt := 116) hx hb dX11_join_104 rfl (fun c_12 => ?_) (fun c_12 => ?_)
                    · have c_12 : ¬ (tn f).toInt = 0 := zc_ne rfl rfl c_12
                      exfalso; omega
                    · have c_12 : (tn f).toInt = 0 := zc_eq rfl rfl c_12
                      refine lv_aload_n hx hb dX11_join_107 rfl (lv_at hl 1 rfl) ?_
                      refine va_get (D := (dC, dI)) (ci := 9) (v := .ref (a 6)) (C := RX11) (T := TX11) (N := 55) hx hb hts inX11 hown hK hP 0 rfl rfl 6 (Nat.le_of_ble_eq_true rfl) (hts _ mw_1165) (fun _ h9 => h9) rfl dX11_join_108 ?_
                      refine lv_iload_n hx hb dX11_join_111 rfl (lv_at hl 3 rfl) ?_
                      refine z_zald hx hb hK hP 10 1 rfl rfl (e := g) rfl b9_5 (Nat.le_of_ble_eq_true rfl) dX11_join_112 ?_
                      refine lv_if_eq (tgt := 120) hx hb dX11_join_113 rfl (fun c_13 => ?_) (fun c_13 => ?_)
                      · have c_13 : (tn g).toInt = 0 := zc_eq rfl rfl c_13
                        refine lv_iconst (v := 0) hx hb dX11_join_120 rfl ?_
                        refine lv_istore (lv' := [(4, .int 0), (0, .ref k0), (1, .int (nI f)), (2, .int (nI g)), (3, .int gp9)]) hx hb dX11_join_121 hl (Nat.le_of_ble_eq_true rfl) rfl (fun ls hl => ?_)
                        refine lv_iload hx hb dX11_join_123 (lv_at hl 0 rfl) ?_
                        refine lv_if_le (tgt := 135) hx hb dX11_join_125 rfl (fun c_14 => ?_) (fun c_14 => ?_)
                        · refine lv_aload_n hx hb dX11_join_135 rfl (lv_at hl 1 rfl) ?_
                          refine lv_iload_n hx hb dX11_join_136 rfl (lv_at hl 2 rfl) ?_
                          refine lv_iload_n hx hb dX11_join_137 rfl (lv_at hl 3 rfl) ?_
                          obtain ⟨hPc, hDc, hFc⟩ := zo_sub (wc := [_, _, _, _, _, _]) hP hD hS hA [0, 1, 11, 12, 13, 19] (by decide +kernel) rfl
                          refine zcall (st1 := []) (va_runV (As := [.int (nI f), .int (nI g)]) (rest := []) ⟨hx, hb, hml, hown, hts⟩ (k_M_distance_a l dC dI cI cZ cF H.size k0 a (upd I0 26 (nI ln)) J0 f n g m2 kd mn cx cy S0 (by first | with_reducible assumption | omega) (by first | with_reducible assumption | assumption) (by first | with_reducible assumption | omega) (by first | with_reducible assumption | assumption) (by first | with_reducible assumption | omega) (by first | with_reducible assumption | assumption) (by first | with_reducible assumption | omega) (by first | with_reducible assumption | assumption) (he_f) (he_g)) (csV_226 hts rfl rfl ⟨Nat.le_of_ble_eq_true rfl, Nat.le_of_ble_eq_true rfl⟩) (zPV2 (q0 := 0) (ci := 9) hPc hDc hK hXN rfl rfl) rfl rfl hl.1 rfl (lv_room (Nat.le_of_ble_eq_true rfl)) dX11_join_138 ⟨Nat.zero_le _, Nat.zero_le _⟩) hS hFc hFc rfl (fun t H locs ht hB hk1 hS => ?_)
                          obtain ⟨uq, dq, S2, hfr, hub, hP1, hD1⟩ := hB
                          rw [ht] at hP1
                          obtain ⟨hP, hD⟩ := zn (W2 := [(om k0 a (upd I0 26 (nI ln)) (vp_updL (vp_updL J0 48 (jI ((uq : Nat) : Int))) 49 (jI ((dq : Nat) : Int)))), _, _, _, _, _, _, _, _, _, _, _, _, _, _, _, _, _, _, (oa (a 32) cI 8 S2), _, _, _, _]) hP hD hk1 hFc hP1 hD1 [0, 1, 11, 12, 13, 19] zl_253 zl_253 [0, 1, 11, 12, 13, 19] (by decide +kernel) rfl rfl rfl rfl rfl
                          clear hk1 hPc hDc hFc hP1 hD1 ht
                          have hgb := gpB9 (g := gp9) (D := dq) hok.2.2.1 (by omega)
                          have hf9 := hfr (gp9.toInt * gp9.toInt) (by omega)
                          refine lv_aload_n hx hb dX11_join_141 rfl (lv_at hl 1 rfl) ?_
                          refine va_get (D := (dC, dI)) (ci := 9) (v := .long (jI ((uq : Nat) : Int))) (C := RX11) (T := TX11) (N := 55) hx hb hts inX11 hown hK hP 0 rfl rfl 48 (Nat.le_of_ble_eq_true rfl) (hts _ mw_1207) (fun _ h9 => h9) rfl dX11_join_142 ?_
                          refine lv_iload_n hx hb dX11_join_145 rfl (lv_at hl 4 rfl) ?_
                          refine lv_i2l (v := gp9.toInt64) hx hb dX11_join_146 (rfl) ?_
                          refine lv_iload_n hx hb dX11_join_147 rfl (lv_at hl 4 rfl) ?_
                          refine lv_i2l (v := gp9.toInt64) hx hb dX11_join_148 (rfl) ?_
                          refine lv_lmul hx hb dX11_join_149 ?_
                          refine lv_aload_n hx hb dX11_join_150 rfl (lv_at hl 1 rfl) ?_
                          refine va_get (D := (dC, dI)) (ci := 9) (v := .long (jI ((dq : Nat) : Int))) (C := RX11) (T := TX11) (N := 55) hx hb hts inX11 hown hK hP 0 rfl rfl 49 (Nat.le_of_ble_eq_true rfl) (hts _ mw_1208) (fun _ h9 => h9) rfl dX11_join_151 ?_
                          refine lv_lmul hx hb dX11_join_154 ?_
                          refine zz_l (v := jI (gp9.toInt * gp9.toInt * ((dq : Nat) : Int))) (gpL hok.2.2.1 (by omega)) ?_
                          refine W.lcmp hx hb dX11_join_155 ?_
                          refine lv_if_le (tgt := 165) hx hb dX11_join_156 rfl (fun c_15 => ?_) (fun c_15 => ?_)
                          · have c_15 : ((uq : Nat) : Int) ≤ (gp9.toInt * gp9.toInt * ((dq : Nat) : Int)) := zl_le (jI_toInt (by omega)) (jI_toInt (by omega)) c_15
                            refine lv_aload_n hx hb dX11_join_165 rfl (lv_at hl 1 rfl) ?_
                            refine lv_iload_n hx hb dX11_join_166 rfl (lv_at hl 2 rfl) ?_
                            refine lv_iconst (v := 1) hx hb dX11_join_167 rfl ?_
                            obtain ⟨hPc, hDc, hFc⟩ := zo_sub (wc := [_, _, _, _]) hP hD hS hA [0, 11, 12, 13] (by decide +kernel) rfl
                            refine zcall (st1 := []) (va_runV (As := [.int (nI f), .int 1]) (rest := []) ⟨hx, hb, hml, hown, hts⟩ (k_M_box_v l dC dI cI cZ cF H.size k0 a (upd I0 26 (nI ln)) (vp_updL (vp_updL J0 48 (jI ((uq : Nat) : Int))) 49 (jI ((dq : Nat) : Int))) f n mn cx cy (by first | with_reducible assumption | omega) (by first | with_reducible assumption | assumption) (by first | with_reducible assumption | omega) (by first | with_reducible assumption | assumption)) (csV_221 hts rfl rfl ⟨Nat.le_of_ble_eq_true rfl, Nat.le_of_ble_eq_true rfl⟩) (zPV2 (q0 := 0) (ci := 9) hPc hDc hK hXN rfl rfl) rfl rfl hl.1 rfl (lv_room (Nat.le_of_ble_eq_true rfl)) dX11_join_168 ⟨Nat.zero_le _, Nat.zero_le _⟩) hS hFc hFc rfl (fun t H locs ht hB hk1 hS => ?_)
                            obtain ⟨y1, y2, y3, y4, ea1, ea2, ea3, ea4, hP1, hD1⟩ := hB
                            rw [ht] at hP1
                            obtain ⟨hP, hD⟩ := zn (W2 := [(om k0 a (upd (upd (upd (upd (upd I0 26 (nI ln)) 44 y1) 45 y2) 46 y3) 47 y4) (vp_updL (vp_updL J0 48 (jI ((uq : Nat) : Int))) 49 (jI ((dq : Nat) : Int)))), _, _, _, _, _, _, _, _, _, _, _, _, _, _, _, _, _, _, _, _, _, _, _]) hP hD hk1 hFc hP1 hD1 [0, 11, 12, 13] zl_242 zl_242 [0, 11, 12, 13] (by decide +kernel) rfl rfl rfl rfl rfl
                            clear hk1 hPc hDc hFc hP1 hD1 ht
                            refine lv_aload_n hx hb dX11_join_171 rfl (lv_at hl 1 rfl) ?_
                            refine lv_iload_n hx hb dX11_join_172 rfl (lv_at hl 3 rfl) ?_
                            refine lv_iconst (v := 0) hx hb dX11_join_173 rfl ?_
                            obtain ⟨hPc, hDc, hFc⟩ := zo_sub (wc := [_, _, _, _]) hP hD hS hA [0, 11, 12, 13] (by decide +kernel) rfl
                            refine zcall (st1 := []) (va_runV (As := [.int (nI g), .int 0]) (rest := []) ⟨hx, hb, hml, hown, hts⟩ (k_M_box_w l dC dI cI cZ cF H.size k0 a (upd (upd (upd (upd (upd I0 26 (nI ln)) 44 y1) 45 y2) 46 y3) 47 y4) (vp_updL (vp_updL J0 48 (jI ((uq : Nat) : Int))) 49 (jI ((dq : Nat) : Int))) g m2 y1 y2 y3 y4 mn cx cy (by first | with_reducible assumption | omega) (by first | with_reducible assumption | assumption) (by first | with_reducible assumption | omega) (by first | with_reducible assumption | assumption)) (csV_221 hts rfl rfl ⟨Nat.le_of_ble_eq_true rfl, Nat.le_of_ble_eq_true rfl⟩) (zPV2 (q0 := 0) (ci := 9) hPc hDc hK hXN rfl rfl) rfl rfl hl.1 rfl (lv_room (Nat.le_of_ble_eq_true rfl)) dX11_join_174 ⟨Nat.zero_le _, Nat.zero_le _⟩) hS hFc hFc rfl (fun t H locs ht hB hk1 hS => ?_)
                            obtain ⟨x1, x2, x3, x4, eb1, eb2, eb3, eb4, hP1, hD1⟩ := hB
                            rw [ht] at hP1
                            obtain ⟨hP, hD⟩ := zn (W2 := [(om k0 a (upd (upd (upd (upd (upd I0 26 (nI ln)) 44 x1) 45 x2) 46 x3) 47 x4) (vp_updL (vp_updL J0 48 (jI ((uq : Nat) : Int))) 49 (jI ((dq : Nat) : Int)))), _, _, _, _, _, _, _, _, _, _, _, _, _, _, _, _, _, _, _, _, _, _, _]) hP hD hk1 hFc hP1 hD1 [0, 11, 12, 13] zl_242 zl_242 [0, 11, 12, 13] (by decide +kernel) rfl rfl rfl rfl rfl
                            clear hk1 hPc hDc hFc hP1 hD1 ht
                            have h0f := hp_f 0 (by omega)
                            unfold pl at h0f
                            have mA := mnP h0f.1 hp_f n (Nat.le_refl _)
                            have mB := mnP h0f.2 hp_f n (Nat.le_refl _)
                            have ej1 : x1 = jlo cx f n g m2 := jlo_e rfl ea1 mA.1 eb1
                            have ej2 : x2 = jlo cy f n g m2 := jlo_e rfl ea2 mB.2.1 eb2
                            have ej3 : x3 = jhi cx f n g m2 := jhi_e rfl ea3 mA.2.2.1 eb3
                            have ej4 : x4 = jhi cy f n g m2 := jhi_e rfl ea4 mB.2.2.2 eb4
                            clear eb1 eb2 eb3 eb4
                            have hjp : pl x1 ∧ pl x3 ∧ pl x2 ∧ pl x4 := (by rw [ej1, ej2, ej3, ej4]; exact jpl hp_f hn_f.1 hp_g)
                            have hfree9 : jFr ft st tn (upd kd 200 6) (upd mn 200 4) (bxX 200 (x1) (x3) 4 cx) (bxY 200 (x2) (x4) 4 cy) f g ft := (by rw [ej1, ej2, ej3, ej4]; exact hfree)
                            refine lv_aload_n hx hb dX11_join_177 rfl (lv_at hl 1 rfl) ?_
                            refine va_get (D := (dC, dI)) (ci := 9) (v := .int (I0 0)) (C := RX11) (T := TX11) (N := 55) hx hb hts inX11 hown hK hP 0 rfl rfl 0 (Nat.le_of_ble_eq_true rfl) (hts _ mw_1159) (fun _ h9 => h9) rfl dX11_join_178 ?_
                            refine zz_i (v := nI ft) (hft) ?_
                            refine lv_istore (lv' := [(5, .int (nI ft)), (4, .int 0), (0, .ref k0), (1, .int (nI f)), (2, .int (nI g)), (3, .int gp9)]) hx hb dX11_join_181 hl (Nat.le_of_ble_eq_true rfl) rfl (fun ls hl => ?_)
                            refine lv_aload_n hx hb dX11_join_183 rfl (lv_at hl 2 rfl) ?_
                            refine lv_sipush (v := 200) hx hb dX11_join_184 rfl ?_
                            obtain ⟨hPc, hDc, hFc⟩ := zo_sub (wc := [_, _, _, _, _]) hP hD hS hA [0, 1, 11, 12, 13] (by decide +kernel) rfl
                            refine zcall (st1 := []) (va_runV (As := [.int 200]) (rest := []) ⟨hx, hb, hml, hown, hts⟩ (k_M_layBox l dC dI cI cZ cF H.size k0 a (upd (upd (upd (upd (upd I0 26 (nI ln)) 44 x1) 45 x2) 46 x3) 47 x4) (vp_updL (vp_updL J0 48 (jI ((uq : Nat) : Int))) 49 (jI ((dq : Nat) : Int))) 200 kd mn cx cy (by first | with_reducible assumption | omega)) (csV_222 hts rfl rfl ⟨Nat.le_of_ble_eq_true rfl, Nat.le_of_ble_eq_true rfl⟩) (zPV2 (q0 := 0) (ci := 9) hPc hDc hK hXN rfl rfl) rfl rfl hl.1 rfl (lv_room (Nat.le_of_ble_eq_true rfl)) dX11_join_187 ⟨Nat.zero_le _, Nat.zero_le _⟩) hS hFc hFc rfl (fun t H locs ht hB hk1 hS => ?_)
                            obtain ⟨hP1, hD1⟩ := hB
                            rw [ht] at hP1
                            obtain ⟨hP, hD⟩ := zn (W2 := [_, (oa (a 1) cI 201 (upd kd 200 6)), _, _, _, _, _, _, _, _, _, (oa (a 11) cI 201 (upd mn 200 4)), (oa (a 12) cI 8040 (bxX 200 (x1) (x3) 4 cx)), (oa (a 13) cI 8040 (bxY 200 (x2) (x4) 4 cy)), _, _, _, _, _, _, _, _, _, _]) hP hD hk1 hFc hP1 hD1 [0, 1, 11, 12, 13] zl_254 zl_254 [0, 1, 11, 12, 13] (by decide +kernel) rfl rfl rfl rfl rfl
                            clear hk1 hPc hDc hFc hP1 hD1 ht
                            have hm_b : (upd mn 200 4) 200 = nI 4 := (up_at _ _ _).trans rfl
                            have hp_b : pls 4 (cF40 (bxX 200 (x1) (x3) 4 cx) 200) (cF40 (bxY 200 (x2) (x4) 4 cy) 200) := bx_pls hjp.1 hjp.2.1 hjp.2.2.1 hjp.2.2.2
                            have hwf2 : ∀ q, lvF ft st tn q → wfM (upd mn 200 4) (bxX 200 (x1) (x3) 4 cx) (bxY 200 (x2) (x4) 4 cy) q := fun q h1 => wfM_o (f := 200) (hwf q h1) (by have := h1.1; omega) (fun j hj => if_neg hj) (fun j hj => ⟨bxX_o (by omega), bxY_o (by omega)⟩)
                            refine lv_iconst (v := 1) hx hb dX11_join_190 rfl ?_
                            refine lv_istore (lv' := [(6, .int 1), (5, .int (nI ft)), (4, .int 0), (0, .ref k0), (1, .int (nI f)), (2, .int (nI g)), (3, .int gp9)]) hx hb dX11_join_191 hl (Nat.le_of_ble_eq_true rfl) rfl (fun ls hl => ?_)
                            refine lv_iconst (v := 0) hx hb dX11_join_193 rfl ?_
                            refine lv_istore (lv' := [(7, .int 0), (6, .int 1), (5, .int (nI ft)), (4, .int 0), (0, .ref k0), (1, .int (nI f)), (2, .int (nI g)), (3, .int gp9)]) hx hb dX11_join_194 hl (Nat.le_of_ble_eq_true rfl) rfl (fun ls hl => ?_)
                            have hl_196 : ∀ (n9 : Nat) (q : Nat) (S1 : Nat → Int32) (H : Heap) (locs : List Loc) (ls : Array Slot), ft - q < n9 → (q ≤ ft) → va_P (dC, dI) classes [(om k0 a (upd (upd (upd (upd (upd I0 26 (nI ln)) 44 x1) 45 x2) 46 x3) 47 x4) (vp_updL (vp_updL J0 48 (jI ((uq : Nat) : Int))) 49 (jI ((dq : Nat) : Int)))), (oa (a 1) cI 201 (upd kd 200 6)), (oa (a 5) cI 201 st), (oa (a 7) cI 201 gb), (oa (a 10) cI 201 it), (oa (a 8) cI 201 pa), (oa (a 9) cI 201 pb), (oa (a 2) cI 201 rk), (oa (a 3) cI 201 wd), (oa (a 4) cI 201 tw), (oa (a 6) cZ 201 tn), (oa (a 11) cI 201 (upd mn 200 4)), (oa (a 12) cI 8040 (bxX 200 (x1) (x3) 4 cx)), (oa (a 13) cI 8040 (bxY 200 (x2) (x4) 4 cy)), (oa (a 27) cI 516 sa), (oa (a 28) cI (4096 * cp) sh), (oa (a 16) cI 514 wh), (oa (a 17) cI 514 of9), (oa (a 18) cI 514 we), (oa (a 32) cI 8 S1), (oa (a 22) cI (64 * cl) la), (oa (a 23) cI (64 * cl) lb), (oa (a 24) cI (64 * cl) lc), (oa (a 25) cI (64 * cl) ld)] H → va_D A [(om k0 a (upd (upd (upd (upd (upd I0 26 (nI ln)) 44 x1) 45 x2) 46 x3) 47 x4) (vp_updL (vp_updL J0 48 (jI ((uq : Nat) : Int))) 49 (jI ((dq : Nat) : Int)))), (oa (a 1) cI 201 (upd kd 200 6)), (oa (a 5) cI 201 st), (oa (a 7) cI 201 gb), (oa (a 10) cI 201 it), (oa (a 8) cI 201 pa), (oa (a 9) cI 201 pb), (oa (a 2) cI 201 rk), (oa (a 3) cI 201 wd), (oa (a 4) cI 201 tw), (oa (a 6) cZ 201 tn), (oa (a 11) cI 201 (upd mn 200 4)), (oa (a 12) cI 8040 (bxX 200 (x1) (x3) 4 cx)), (oa (a 13) cI 8040 (bxY 200 (x2) (x4) 4 cy)), (oa (a 27) cI 516 sa), (oa (a 28) cI (4096 * cp) sh), (oa (a 16) cI 514 wh), (oa (a 17) cI 514 of9), (oa (a 18) cI 514 we), (oa (a 32) cI 8 S1), (oa (a 22) cI (64 * cl) la), (oa (a 23) cI (64 * cl) lb), (oa (a 24) cI (64 * cl) lc), (oa (a 25) cI (64 * cl) ld)] → va_S A s.heap H locs → lv_has ls 9 [(7, .int (nI q)), (6, .int (pI (jFr ft st tn (upd kd 200 6) (upd mn 200 4) (bxX 200 (x1) (x3) 4 cx) (bxY 200 (x2) (x4) 4 cy) f g q))), (5, .int (nI ft)), (4, .int 0), (0, .ref k0), (1, .int (nI f)), (2, .int (nI g)), (3, .int gp9)] → W p l e ({ frames := 5, cells := c2 - cp, slots := 8192 * (c2 - cp), locals := 129 } : Room) s m ([.ref k0, .int (nI f), .int (nI g), .int gp9] : List Value).toArray below meth c H locs 0 0 Q9 (F0 m 196 ls []) := by
                              intro n9
                              induction n9 with
                              | zero => intro q S1 H locs ls hm; exact absurd hm (Nat.not_lt_zero _)
                              | succ n9 ih_196 =>
                                intro q S1 H locs ls hm hq hP hD hS hl
                                refine lv_iload hx hb dX11_join_196 (lv_at hl 0 rfl) ?_
                                refine lv_iload hx hb dX11_join_198 (lv_at hl 2 rfl) ?_
                                have b9_17 : zlt (q) := show q < 2147483648 by omega
                                have b9_18 : zlt (ft) := show ft < 2147483648 by omega
                                refine lv_icmp_ge (tgt := 275) hx hb dX11_join_200 rfl (fun c_16 => ?_) (fun c_16 => ?_)
                                · have c_16 : ((ft : Nat) : Int) ≤ ((q : Nat) : Int) := zc_le (nI_toInt b9_18) (nI_toInt b9_17) c_16
                                  have hqe : q = ft := (by omega)
                                  rw [hqe] at hl
                                  refine lv_iload hx hb dX11_join_275 (lv_at hl 1 rfl) ?_
                                  refine lv_if_ne (tgt := 287) hx hb dX11_join_277 rfl (fun c_19 => ?_) (fun c_19 => ?_)
                                  · have c_19 : jFr ft st tn (upd kd 200 6) (upd mn 200 4) (bxX 200 (x1) (x3) 4 cx) (bxY 200 (x2) (x4) 4 cy) f g ft := zp_1 c_19
                                    refine lv_iload_n hx hb dX11_join_287 rfl (lv_at hl 5 rfl) ?_
                                    refine lv_iload_n hx hb dX11_join_288 rfl (lv_at hl 6 rfl) ?_
                                    have b9_21 : zlt (f) := show f < 2147483648 by omega
                                    have b9_22 : zlt (g) := show g < 2147483648 by omega
                                    refine lv_icmp_eq (tgt := 302) hx hb dX11_join_289 rfl (fun c_20 => ?_) (fun c_20 => ?_)
                                    · have c_20 : ((f : Nat) : Int) = ((g : Nat) : Int) := zc_eq (nI_toInt b9_21) (nI_toInt b9_22) c_20
                                      exfalso; omega
                                    · have c_20 : ¬ ((f : Nat) : Int) = ((g : Nat) : Int) := zc_ne (nI_toInt b9_21) (nI_toInt b9_22) c_20
                                      refine lv_aload_n hx hb dX11_join_292 rfl (lv_at hl 4 rfl) ?_
                                      refine va_get (D := (dC, dI)) (ci := 9) (v := .int (I0 0)) (C := RX11) (T := TX11) (N := 55) hx hb hts inX11 hown hK hP 0 rfl rfl 0 (Nat.le_of_ble_eq_true rfl) (hts _ mw_1159) (fun _ h9 => h9) rfl dX11_join_293 ?_
                                      refine zz_i (v := nI ft) (hft) ?_
                                      refine lv_sipush (v := 200) hx hb dX11_join_296 rfl ?_
                                      refine lv_icmp_ne (tgt := 309) hx hb dX11_join_299 rfl (fun c_23 => ?_) (fun c_23 => ?_)
                                      · have c_23 : ¬ ((ft : Nat) : Int) = 200 := zc_ne (nI_toInt b9_18) rfl c_23
                                        refine lv_aload_n hx hb dX11_join_309 rfl (lv_at hl 4 rfl) ?_
                                        obtain ⟨hPc, hDc, hFc⟩ := zo_sub (wc := [_, _, _, _, _, _, _, _, _, _, _, _, _, _, _, _]) hP hD hS hA [0, 1, 2, 3, 4, 5, 6, 7, 8, 9, 10, 11, 12, 13, 14, 15] (by decide +kernel) rfl
                                        refine zcall (st1 := []) (va_runV (As := []) (rest := []) ⟨hx, hb, hml, hown, hts⟩ (k_M_begins l dC dI cI cZ cF H.size k0 a (upd (upd (upd (upd (upd I0 26 (nI ln)) 44 x1) 45 x2) 46 x3) 47 x4) (vp_updL (vp_updL J0 48 (jI ((uq : Nat) : Int))) 49 (jI ((dq : Nat) : Int))) dn bs ft w0 cp c1 (upd kd 200 6) st gb it pa pb rk wd tw tn (upd mn 200 4) (bxX 200 (x1) (x3) 4 cx) (bxY 200 (x2) (x4) 4 cy) sa sh (hft) (by first | with_reducible assumption | omega) (hdn) (hbs) (by first | with_reducible assumption | omega) (by first | with_reducible assumption | omega) (hi5_1) (hsa_1) (fun v9 h1 h2 h3 => by rw [show (upd mn 200 4) v9 = mn v9 from if_neg (by first | with_reducible assumption | omega)]; exact hmn_1 v9 h1 h2 h3) (hc1_1) (hpw_1) (hw0_1) (by rw [psN_cg (fun g hg => nn200 (by first | with_reducible assumption | omega)) ft (Nat.le_refl _)]; exact hfit_1) (by rw [psN_cg (fun g hg => nn200 (by first | with_reducible assumption | omega)) ft (Nat.le_refl _)]; exact hmin_1) (hcE_1)) (csV_205 hts rfl rfl ⟨Nat.le_of_ble_eq_true rfl, Nat.le_of_ble_eq_true rfl⟩) (zPV2 (q0 := 0) (ci := 9) hPc hDc hK hXN rfl rfl) rfl rfl hl.1 rfl (lv_room (Nat.le_of_ble_eq_true rfl)) dX11_join_310 ⟨show (0 + (c1 - cp)) ≤ c2 - cp by omega, show (0 + (8192 * (c1 - cp))) ≤ 8192 * (c2 - cp) by omega⟩) hS hFc hFc rfl (fun t H locs ht hB hk1 hS => ?_)
                                        obtain ⟨b1, sh1, g1, g2, g3, g4, hP1, hD1⟩ := hB
                                        rw [ht] at hP1
                                        obtain ⟨hP, hD⟩ := zn (W2 := [_, _, _, _, _, _, _, _, (om k0 (va_up a 28 b1) (upd (upd (upd (upd (upd (upd I0 26 (nI ln)) 41 (nI (psN (nnF st tn (upd mn 200 4)) w0 ft))) 44 x1) 45 x2) 46 x3) 47 x4) (vp_updL (vp_updL J0 48 (jI ((uq : Nat) : Int))) 49 (jI ((dq : Nat) : Int)))), (oa (a 1) cI 201 (upd kd 200 6)), (oa (a 5) cI 201 st), (oa (a 7) cI 201 gb), (oa (a 10) cI 201 it), (oa (a 8) cI 201 pa), (oa (a 9) cI 201 pb), (oa (a 2) cI 201 rk), (oa (a 3) cI 201 wd), (oa (a 4) cI 201 tw), (oa (a 6) cZ 201 tn), (oa (a 11) cI 201 (upd mn 200 4)), (oa (a 12) cI 8040 (bxX 200 (x1) (x3) 4 cx)), (oa (a 13) cI 8040 (bxY 200 (x2) (x4) 4 cy)), (oa (a 27) cI 516 (upd sa ((dn - bs) + 1) (nI (psN (nnF st tn (upd mn 200 4)) w0 ft)))), (oa b1 cI (4096 * c1) sh1)]) hP hD hk1 hFc hP1 hD1 zl_80 zl_206 zl_207 zl_208 (by decide +kernel) rfl rfl rfl rfl rfl
                                        clear hk1 hPc hDc hFc hP1 hD1 ht
                                        have hnq : ∀ g, g < ft → (nnF st tn (upd mn 200 4)) g = (nnF st tn mn) g := fun g hg => nn200 (by omega)
                                        rw [psN_cg hnq ft (Nat.le_refl _)] at hP hD g4
                                        have g3 : ∀ g, g < ft → ∀ j, j < 10 + 2 * (nnF st tn mn) g → sh1 (psN (nnF st tn mn) w0 g + j) = (shD kd st gb it pa pb rk wd tw (nnF st tn mn) cx cy) g j := fun g9 hg j hj => by have e9 := hnq g9 hg; have h9 := g3 g9 hg j (by rw [e9]; exact hj); rw [psN_cg hnq g9 (by omega)] at h9; rw [h9]; exact sh200 (by omega) e9 (nn_le hmn_1 hg) hj
                                        refine lv_aload_n hx hb dX11_join_313 rfl (lv_at hl 4 rfl) ?_
                                        refine va_get (D := (dC, dI)) (ci := 9) (v := .int (I0 0)) (C := RX11) (T := TX11) (N := 55) hx hb hts inX11 hown hK hP 8 rfl rfl 0 (Nat.le_of_ble_eq_true rfl) (hts _ mw_1159) (fun _ h9 => h9) rfl dX11_join_314 ?_
                                        refine zz_i (v := nI ft) (hft) ?_
                                        refine lv_istore (lv' := [(7, .int (nI ft)), (6, .int (pI (jFr ft st tn (upd kd 200 6) (upd mn 200 4) (bxX 200 (x1) (x3) 4 cx) (bxY 200 (x2) (x4) 4 cy) f g ft))), (5, .int (nI ft)), (4, .int 0), (0, .ref k0), (1, .int (nI f)), (2, .int (nI g)), (3, .int gp9)]) hx hb dX11_join_317 hl (Nat.le_of_ble_eq_true rfl) rfl (fun ls hl => ?_)
                                        refine lv_aload_n hx hb dX11_join_319 rfl (lv_at hl 4 rfl) ?_
                                        refine lv_iload hx hb dX11_join_320 (lv_at hl 0 rfl) ?_
                                        refine lv_bipush (v := 6) hx hb dX11_join_322 rfl ?_
                                        refine lv_aload_n hx hb dX11_join_324 rfl (lv_at hl 4 rfl) ?_
                                        refine va_get (D := (dC, dI)) (ci := 9) (v := .ref (a 2)) (C := RX11) (T := TX11) (N := 55) hx hb hts inX11 hown hK hP 8 rfl rfl 2 (Nat.le_of_ble_eq_true rfl) (hts _ mw_1161) (fun _ h9 => h9) rfl dX11_join_325 ?_
                                        refine lv_iload_n hx hb dX11_join_328 rfl (lv_at hl 5 rfl) ?_
                                        refine z_iald hx hb hK hP 15 0 rfl rfl (e := f) rfl b9_3 (Nat.le_of_ble_eq_true rfl) dX11_join_329 ?_
                                        refine lv_aload_n hx hb dX11_join_330 rfl (lv_at hl 4 rfl) ?_
                                        refine va_get (D := (dC, dI)) (ci := 9) (v := .ref (a 3)) (C := RX11) (T := TX11) (N := 55) hx hb hts inX11 hown hK hP 8 rfl rfl 3 (Nat.le_of_ble_eq_true rfl) (hts _ mw_1162) (fun _ h9 => h9) rfl dX11_join_331 ?_
                                        refine lv_iload_n hx hb dX11_join_334 rfl (lv_at hl 5 rfl) ?_
                                        refine z_iald hx hb hK hP 16 0 rfl rfl (e := f) rfl b9_3 (Nat.le_of_ble_eq_true rfl) dX11_join_335 ?_
                                        refine lv_aload_n hx hb dX11_join_336 rfl (lv_at hl 4 rfl) ?_
                                        refine va_get (D := (dC, dI)) (ci := 9) (v := .ref (a 4)) (C := RX11) (T := TX11) (N := 55) hx hb hts inX11 hown hK hP 8 rfl rfl 4 (Nat.le_of_ble_eq_true rfl) (hts _ mw_1163) (fun _ h9 => h9) rfl dX11_join_337 ?_
                                        refine lv_iload_n hx hb dX11_join_340 rfl (lv_at hl 5 rfl) ?_
                                        refine z_iald hx hb hK hP 17 0 rfl rfl (e := f) rfl b9_3 (Nat.le_of_ble_eq_true rfl) dX11_join_341 ?_
                                        obtain ⟨hPc, hDc, hFc⟩ := zo_sub (wc := [_, _, _, _, _, _, _, _, _, _, _, _]) hP hD hS hA [8, 9, 15, 16, 17, 10, 18, 11, 13, 14, 12, 19] (by decide +kernel) rfl
                                        refine zcall (st1 := []) (va_runV (As := [.int (nI ft), .int 6, .int (rk f), .int (wd f), .int (tw f)]) (rest := []) ⟨hx, hb, hml, hown, hts⟩ (k_M_begin l dC dI cI cZ cF H.size k0 (va_up a 28 b1) (upd (upd (upd (upd (upd (upd I0 26 (nI ln)) 41 (nI (psN (nnF st tn mn) w0 ft))) 44 x1) 45 x2) 46 x3) 47 x4) (vp_updL (vp_updL J0 48 (jI ((uq : Nat) : Int))) 49 (jI ((dq : Nat) : Int))) ft 6 (rk f) (wd f) (tw f) (upd kd 200 6) rk wd tw st tn gb pa pb it (upd mn 200 4) (by first | with_reducible assumption | omega)) (csV_196 hts rfl rfl ⟨Nat.le_of_ble_eq_true rfl, Nat.le_of_ble_eq_true rfl⟩) (zPV2 (q0 := 0) (ci := 9) hPc hDc hK hXN rfl rfl) rfl rfl hl.1 rfl (lv_room (Nat.le_of_ble_eq_true rfl)) dX11_join_342 ⟨show (0 + (c1 - cp)) ≤ c2 - cp by omega, show (0 + (8192 * (c1 - cp))) ≤ 8192 * (c2 - cp) by omega⟩) hS hFc hFc rfl (fun t H locs ht hB hk1 hS => ?_)
                                        obtain ⟨hP1, hD1⟩ := hB
                                        rw [ht] at hP1
                                        obtain ⟨hP, hD⟩ := zn (W2 := [_, _, _, _, _, _, _, _, (om k0 (va_up a 28 b1) (upd (upd (upd (upd (upd (upd (upd I0 0 (nI (ft + 1))) 26 (nI ln)) 41 (nI (psN (nnF st tn mn) w0 ft))) 44 x1) 45 x2) 46 x3) 47 x4) (vp_updL (vp_updL J0 48 (jI ((uq : Nat) : Int))) 49 (jI ((dq : Nat) : Int)))), (oa (a 1) cI 201 (upd (upd kd 200 6) ft (6 : Int32))), (oa (a 5) cI 201 (upd st ft 0)), (oa (a 7) cI 201 (upd gb ft 0)), (oa (a 10) cI 201 (upd it ft (-1))), (oa (a 8) cI 201 (upd pa ft (-1))), (oa (a 9) cI 201 (upd pb ft (-1))), (oa (a 2) cI 201 (upd rk ft (rk f))), (oa (a 3) cI 201 (upd wd ft (wd f))), (oa (a 4) cI 201 (upd tw ft (tw f))), (oa (a 6) cZ 201 (upd tn ft 0)), (oa (a 11) cI 201 (upd (upd mn 200 4) ft 0)), _, _, _, _]) hP hD hk1 hFc hP1 hD1 zl_255 zl_256 zl_256 zl_255 (by decide +kernel) rfl rfl rfl rfl rfl
                                        clear hk1 hPc hDc hFc hP1 hD1 ht
                                        refine lv_aload_n hx hb dX11_join_345 rfl (lv_at hl 4 rfl) ?_
                                        refine lv_iload hx hb dX11_join_346 (lv_at hl 0 rfl) ?_
                                        obtain ⟨hPc, hDc, hFc⟩ := zo_sub (wc := [_, _, _, _, _]) hP hD hS hA [8, 9, 19, 20, 21] (by decide +kernel) rfl
                                        refine zcall (st1 := []) (va_runV (As := [.int (nI ft)]) (rest := []) ⟨hx, hb, hml, hown, hts⟩ (k_M_layBox l dC dI cI cZ cF H.size k0 (va_up a 28 b1) (upd (upd (upd (upd (upd (upd (upd I0 0 (nI (ft + 1))) 26 (nI ln)) 41 (nI (psN (nnF st tn mn) w0 ft))) 44 x1) 45 x2) 46 x3) 47 x4) (vp_updL (vp_updL J0 48 (jI ((uq : Nat) : Int))) 49 (jI ((dq : Nat) : Int))) ft (upd (upd kd 200 6) ft (6 : Int32)) (upd (upd mn 200 4) ft 0) (bxX 200 (x1) (x3) 4 cx) (bxY 200 (x2) (x4) 4 cy) (by first | with_reducible assumption | omega)) (csV_222 hts rfl rfl ⟨Nat.le_of_ble_eq_true rfl, Nat.le_of_ble_eq_true rfl⟩) (zPV2 (q0 := 0) (ci := 9) hPc hDc hK hXN rfl rfl) rfl rfl hl.1 rfl (lv_room (Nat.le_of_ble_eq_true rfl)) dX11_join_348 ⟨show (0 + (c1 - cp)) ≤ c2 - cp by omega, show (0 + (8192 * (c1 - cp))) ≤ 8192 * (c2 - cp) by omega⟩) hS hFc hFc rfl (fun t H locs ht hB hk1 hS => ?_)
                                        obtain ⟨hP1, hD1⟩ := hB
                                        rw [ht] at hP1
                                        obtain ⟨hP, hD⟩ := zn (W2 := [_, _, _, _, _, _, _, _, _, (oa (a 1) cI 201 (upd (upd (upd kd 200 6) ft (6 : Int32)) ft 6)), _, _, _, _, _, _, _, _, _, (oa (a 11) cI 201 (upd (upd (upd mn 200 4) ft 0) ft 4)), (oa (a 12) cI 8040 (bxX ft (x1) (x3) 4 (bxX 200 (x1) (x3) 4 cx))), (oa (a 13) cI 8040 (bxY ft (x2) (x4) 4 (bxY 200 (x2) (x4) 4 cy))), _, _]) hP hD hk1 hFc hP1 hD1 [8, 9, 19, 20, 21] zl_257 zl_257 [8, 9, 19, 20, 21] (by decide +kernel) rfl rfl rfl rfl rfl
                                        clear hk1 hPc hDc hFc hP1 hD1 ht
                                        refine lv_aload_n hx hb dX11_join_351 rfl (lv_at hl 4 rfl) ?_
                                        refine va_get (D := (dC, dI)) (ci := 9) (v := .ref (a 5)) (C := RX11) (T := TX11) (N := 55) hx hb hts inX11 hown hK hP 8 rfl rfl 5 (Nat.le_of_ble_eq_true rfl) (hts _ mw_1164) (fun _ h9 => h9) rfl dX11_join_352 ?_
                                        refine lv_iload hx hb dX11_join_355 (lv_at hl 0 rfl) ?_
                                        refine lv_iconst (v := 1) hx hb dX11_join_357 rfl ?_
                                        have b9_24 : ft < 201 := by omega
                                        refine z_iast hx hb hK hP hD hS 10 0 rfl rfl (e := ft) (x := 1) rfl b9_24 (Nat.le_of_ble_eq_true rfl) dX11_join_358 (fun H locs hP hD hS => ?_)
                                        obtain ⟨hP, hD⟩ := zre (W2 := [_, _, _, _, _, _, _, _, _, _, (oa (a 5) cI 201 (upd (upd st ft 0) ft 1)), _, _, _, _, _, _, _, _, _, _, _, _, _]) hP hD rfl
                                        refine lv_aload_n hx hb dX11_join_359 rfl (lv_at hl 4 rfl) ?_
                                        refine va_get (D := (dC, dI)) (ci := 9) (v := .ref (a 8)) (C := RX11) (T := TX11) (N := 55) hx hb hts inX11 hown hK hP 8 rfl rfl 8 (Nat.le_of_ble_eq_true rfl) (hts _ mw_1167) (fun _ h9 => h9) rfl dX11_join_360 ?_
                                        refine lv_iload hx hb dX11_join_363 (lv_at hl 0 rfl) ?_
                                        refine lv_iload_n hx hb dX11_join_365 rfl (lv_at hl 5 rfl) ?_
                                        refine z_iast hx hb hK hP hD hS 13 0 rfl rfl (e := ft) (x := nI f) rfl b9_24 (Nat.le_of_ble_eq_true rfl) dX11_join_366 (fun H locs hP hD hS => ?_)
                                        obtain ⟨hP, hD⟩ := zre (W2 := [_, _, _, _, _, _, _, _, _, _, _, _, _, (oa (a 8) cI 201 (upd (upd pa ft (-1)) ft (nI f))), _, _, _, _, _, _, _, _, _, _]) hP hD rfl
                                        refine lv_aload_n hx hb dX11_join_367 rfl (lv_at hl 4 rfl) ?_
                                        refine va_get (D := (dC, dI)) (ci := 9) (v := .ref (a 9)) (C := RX11) (T := TX11) (N := 55) hx hb hts inX11 hown hK hP 8 rfl rfl 9 (Nat.le_of_ble_eq_true rfl) (hts _ mw_1168) (fun _ h9 => h9) rfl dX11_join_368 ?_
                                        refine lv_iload hx hb dX11_join_371 (lv_at hl 0 rfl) ?_
                                        refine lv_iload_n hx hb dX11_join_373 rfl (lv_at hl 6 rfl) ?_
                                        refine z_iast hx hb hK hP hD hS 14 0 rfl rfl (e := ft) (x := nI g) rfl b9_24 (Nat.le_of_ble_eq_true rfl) dX11_join_374 (fun H locs hP hD hS => ?_)
                                        obtain ⟨hP, hD⟩ := zre (W2 := [_, _, _, _, _, _, _, _, _, _, _, _, _, _, (oa (a 9) cI 201 (upd (upd pb ft (-1)) ft (nI g))), _, _, _, _, _, _, _, _, _]) hP hD rfl
                                        rw [upd2 (m := st), upd2 (m := upd kd 200 6), upd2 (m := upd mn 200 4), upd2 (m := pa), upd2 (m := pb)] at hP hD
                                        refine lv_aload_n hx hb dX11_join_375 rfl (lv_at hl 4 rfl) ?_
                                        refine lv_iload_n hx hb dX11_join_376 rfl (lv_at hl 5 rfl) ?_
                                        refine lv_iload hx hb dX11_join_377 (lv_at hl 0 rfl) ?_
                                        obtain ⟨hPc, hDc, hFc⟩ := zo_sub (wc := [_, _, _, _]) hP hD hS hA [8, 10, 11, 12] (by decide +kernel) rfl
                                        refine zcall (st1 := []) (va_runV (As := [.int (nI f), .int (nI ft)]) (rest := []) ⟨hx, hb, hml, hown, hts⟩ (k_M_gone_n l dC dI cI cZ cF H.size k0 (va_up a 28 b1) (upd (upd (upd (upd (upd (upd (upd I0 0 (nI (ft + 1))) 26 (nI ln)) 41 (nI (psN (nnF st tn mn) w0 ft))) 44 x1) 45 x2) 46 x3) 47 x4) (vp_updL (vp_updL J0 48 (jI ((uq : Nat) : Int))) 49 (jI ((dq : Nat) : Int))) f dn (nI ft) (upd st ft 1) (upd gb ft 0) (upd it ft (-1)) (by first | with_reducible assumption | omega) (hdn)) (csV_213 hts rfl rfl ⟨Nat.le_of_ble_eq_true rfl, Nat.le_of_ble_eq_true rfl⟩) (zPV2 (q0 := 0) (ci := 9) hPc hDc hK hXN rfl rfl) rfl rfl hl.1 rfl (lv_room (Nat.le_of_ble_eq_true rfl)) dX11_join_379 ⟨show (0 + (c1 - cp)) ≤ c2 - cp by omega, show (0 + (8192 * (c1 - cp))) ≤ 8192 * (c2 - cp) by omega⟩) hS hFc hFc rfl (fun t H locs ht hB hk1 hS => ?_)
                                        obtain ⟨hP1, hD1⟩ := hB
                                        rw [ht] at hP1
                                        obtain ⟨hP, hD⟩ := zn (W2 := [_, _, _, _, _, _, _, _, _, _, (oa (a 5) cI 201 (upd (upd st ft 1) f 2)), (oa (a 7) cI 201 (upd (upd gb ft 0) f (nI (dn + 1)))), (oa (a 10) cI 201 (upd (upd it ft (-1)) f (nI ft))), _, _, _, _, _, _, _, _, _, _, _]) hP hD hk1 hFc hP1 hD1 [8, 10, 11, 12] zl_213 zl_213 [8, 10, 11, 12] (by decide +kernel) rfl rfl rfl rfl rfl
                                        clear hk1 hPc hDc hFc hP1 hD1 ht
                                        refine lv_aload_n hx hb dX11_join_382 rfl (lv_at hl 4 rfl) ?_
                                        refine lv_iload_n hx hb dX11_join_383 rfl (lv_at hl 6 rfl) ?_
                                        refine lv_iload hx hb dX11_join_384 (lv_at hl 0 rfl) ?_
                                        obtain ⟨hPc, hDc, hFc⟩ := zo_sub (wc := [_, _, _, _]) hP hD hS hA [8, 10, 11, 12] (by decide +kernel) rfl
                                        refine zcall (st1 := []) (va_runV (As := [.int (nI g), .int (nI ft)]) (rest := []) ⟨hx, hb, hml, hown, hts⟩ (k_M_gone_n l dC dI cI cZ cF H.size k0 (va_up a 28 b1) (upd (upd (upd (upd (upd (upd (upd I0 0 (nI (ft + 1))) 26 (nI ln)) 41 (nI (psN (nnF st tn mn) w0 ft))) 44 x1) 45 x2) 46 x3) 47 x4) (vp_updL (vp_updL J0 48 (jI ((uq : Nat) : Int))) 49 (jI ((dq : Nat) : Int))) g dn (nI ft) (upd (upd st ft 1) f 2) (upd (upd gb ft 0) f (nI (dn + 1))) (upd (upd it ft (-1)) f (nI ft)) (by first | with_reducible assumption | omega) (hdn)) (csV_213 hts rfl rfl ⟨Nat.le_of_ble_eq_true rfl, Nat.le_of_ble_eq_true rfl⟩) (zPV2 (q0 := 0) (ci := 9) hPc hDc hK hXN rfl rfl) rfl rfl hl.1 rfl (lv_room (Nat.le_of_ble_eq_true rfl)) dX11_join_386 ⟨show (0 + (c1 - cp)) ≤ c2 - cp by omega, show (0 + (8192 * (c1 - cp))) ≤ 8192 * (c2 - cp) by omega⟩) hS hFc hFc rfl (fun t H locs ht hB hk1 hS => ?_)
                                        obtain ⟨hP1, hD1⟩ := hB
                                        rw [ht] at hP1
                                        obtain ⟨hP, hD⟩ := zn (W2 := [_, _, _, _, _, _, _, _, _, _, (oa (a 5) cI 201 (upd (upd (upd st ft 1) f 2) g 2)), (oa (a 7) cI 201 (upd (upd (upd gb ft 0) f (nI (dn + 1))) g (nI (dn + 1)))), (oa (a 10) cI 201 (upd (upd (upd it ft (-1)) f (nI ft)) g (nI ft))), _, _, _, _, _, _, _, _, _, _, _]) hP hD hk1 hFc hP1 hD1 [8, 10, 11, 12] zl_213 zl_213 [8, 10, 11, 12] (by decide +kernel) rfl rfl rfl rfl rfl
                                        clear hk1 hPc hDc hFc hP1 hD1 ht
                                        refine lv_aload_n hx hb dX11_join_389 rfl (lv_at hl 4 rfl) ?_
                                        refine lv_aload_n hx hb dX11_join_390 rfl (lv_at hl 4 rfl) ?_
                                        refine va_get (D := (dC, dI)) (ci := 9) (v := .int (nI ln)) (C := RX11) (T := TX11) (N := 55) hx hb hts inX11 hown hK hP 8 rfl rfl 26 (Nat.le_of_ble_eq_true rfl) (hts _ mw_1185) (fun _ h9 => h9) rfl dX11_join_391 ?_
                                        obtain ⟨hPc, hDc, hFc⟩ := zo_sub (wc := [_, _, _, _, _]) hP hD hS hA [8, 4, 5, 6, 7] (by decide +kernel) rfl
                                        refine zcall (st1 := []) (va_runV (As := [.int (nI ln)]) (rest := []) ⟨hx, hb, hml, hown, hts⟩ (k_M_squeeze l dC dI cI cZ cF H.size k0 (va_up a 28 b1) (upd (upd (upd (upd (upd (upd (upd I0 0 (nI (ft + 1))) 26 (nI ln)) 41 (nI (psN (nnF st tn mn) w0 ft))) 44 x1) 45 x2) 46 x3) 47 x4) (vp_updL (vp_updL J0 48 (jI ((uq : Nat) : Int))) 49 (jI ((dq : Nat) : Int))) ln ln cl dn la lb lc ld (rfl) (by first | with_reducible assumption | omega) (by first | with_reducible assumption | omega) (by first | with_reducible assumption | omega) (by first | with_reducible assumption | omega) (hdn) (by first | with_reducible assumption | omega)) (csV_207 hts rfl rfl ⟨Nat.le_of_ble_eq_true rfl, Nat.le_of_ble_eq_true rfl⟩) (zPV2 (q0 := 0) (ci := 9) hPc hDc hK hXN rfl rfl) rfl rfl hl.1 rfl (lv_room (Nat.le_of_ble_eq_true rfl)) dX11_join_394 ⟨show (0 + (c1 - cp)) ≤ c2 - cp by omega, show (0 + (8192 * (c1 - cp))) ≤ 8192 * (c2 - cp) by omega⟩) hS hFc hFc rfl (fun t H locs ht hB hk1 hS => ?_)
                                        obtain ⟨t9, la1, lb1, lc1, ld1, hs1, hs2, hs3, hP1, hD1⟩ := hB
                                        rw [ht] at hP1
                                        obtain ⟨hP, hD⟩ := zn (W2 := [_, _, _, _, (oa (a 22) cI (64 * cl) la1), (oa (a 23) cI (64 * cl) lb1), (oa (a 24) cI (64 * cl) lc1), (oa (a 25) cI (64 * cl) ld1), (om k0 (va_up a 28 b1) (upd (upd (upd (upd (upd (upd (upd I0 0 (nI (ft + 1))) 26 (nI t9)) 41 (nI (psN (nnF st tn mn) w0 ft))) 44 x1) 45 x2) 46 x3) 47 x4) (vp_updL (vp_updL J0 48 (jI ((uq : Nat) : Int))) 49 (jI ((dq : Nat) : Int)))), _, _, _, _, _, _, _, _, _, _, _, _, _, _, _]) hP hD hk1 hFc hP1 hD1 [8, 4, 5, 6, 7] zl_258 zl_258 [8, 4, 5, 6, 7] (by decide +kernel) rfl rfl rfl rfl rfl
                                        clear hk1 hPc hDc hFc hP1 hD1 ht
                                        refine lv_aload_n hx hb dX11_join_397 rfl (lv_at hl 4 rfl) ?_
                                        refine lv_bipush (v := 6) hx hb dX11_join_398 rfl ?_
                                        refine lv_iload_n hx hb dX11_join_400 rfl (lv_at hl 5 rfl) ?_
                                        refine lv_iconst (v := 2) hx hb dX11_join_401 rfl ?_
                                        obtain ⟨hPc, hDc, hFc⟩ := zo_sub (wc := [_, _, _, _, _, _, _, _, _, _, _, _, _, _, _, _, _, _, _]) hP hD hS hA [8, 9, 10, 11, 12, 13, 14, 15, 16, 17, 18, 19, 20, 21, 22, 23, 0, 1, 2] (by decide +kernel) rfl
                                        refine zcall (st1 := [.int (nI (dn + 1))]) (va_runV (As := [.int 6, .int (nI f), .int 2]) (rest := []) ⟨hx, hb, hml, hown, hts⟩ (k_M_ends l dC dI cI cZ cF H.size k0 (va_up a 28 b1) (upd (upd (upd (upd (upd (upd (upd I0 0 (nI (ft + 1))) 26 (nI t9)) 41 (nI (psN (nnF st tn mn) w0 ft))) 44 x1) 45 x2) 46 x3) 47 x4) (vp_updL (vp_updL J0 48 (jI ((uq : Nat) : Int))) 49 (jI ((dq : Nat) : Int))) 6 (nI f) 2 dn bs (ft + 1) (psN (nnF st tn mn) w0 ft) c1 c2 (upd (upd kd 200 6) ft 6) (upd (upd (upd st ft 1) f 2) g 2) (upd (upd (upd gb ft 0) f (nI (dn + 1))) g (nI (dn + 1))) (upd (upd (upd it ft (-1)) f (nI ft)) g (nI ft)) (upd pa ft (nI f)) (upd pb ft (nI g)) (upd rk ft (rk f)) (upd wd ft (wd f)) (upd tw ft (tw f)) (upd tn ft 0) (upd (upd mn 200 4) ft 4) (bxX ft (x1) (x3) 4 (bxX 200 (x1) (x3) 4 cx)) (bxY ft (x2) (x4) 4 (bxY 200 (x2) (x4) 4 cy)) (upd sa ((dn - bs) + 1) (nI (psN (nnF st tn mn) w0 ft))) sh1 wh of9 we (rfl) (by first | with_reducible assumption | omega) (hdn) (hbs) (by first | with_reducible assumption | omega) (by first | with_reducible assumption | omega) (by first | with_reducible assumption | omega) (by rw [show dn + 1 - bs = dn - bs + 1 by omega]; exact up_at _ _ _) (by intro v9 h1 h2 h3; by_cases e9 : v9 = ft; (rw [e9, up_at]; exact ⟨rfl, by decide⟩); (have hv : v9 < ft := (by first | with_reducible assumption | omega); rw [show (upd (upd mn 200 4) ft 4) v9 = mn v9 from (if_neg e9).trans (if_neg (by first | with_reducible assumption | omega))]; rw [show (upd tn ft 0) v9 = tn v9 from if_neg e9] at h2; by_cases e8 : v9 = f ∨ v9 = g; (exact hmn_1 v9 hv h2 (by rcases e8 with e8 | e8 <;> rw [e8] <;> omega)); (exact hmn_1 v9 hv h2 (by rw [show (upd (upd (upd st ft 1) f 2) g 2) v9 = st v9 from (if_neg (fun h => e8 (Or.inr h))).trans ((if_neg (fun h => e8 (Or.inl h))).trans (if_neg e9))] at h3; exact h3)))) (by have := pw_le hpw_1; omega) (hpw_2) (by first | with_reducible assumption | omega) (hfit_2) (hmin_2) (hcE_2)) (csV_208 hts rfl rfl ⟨Nat.le_of_ble_eq_true rfl, Nat.le_of_ble_eq_true rfl⟩) (zPV2 (q0 := 0) (ci := 9) hPc hDc hK hXN rfl rfl) rfl rfl hl.1 rfl (lv_room (Nat.le_of_ble_eq_true rfl)) dX11_join_402 ⟨show ((0 + (c1 - cp)) + (c2 - c1)) ≤ c2 - cp by omega, show ((0 + (8192 * (c1 - cp))) + (8192 * (c2 - c1))) ≤ 8192 * (c2 - cp) by omega⟩) hS hFc hFc rfl (fun t H locs ht hB hk1 hS => ?_)
                                        obtain ⟨b2, sh2, g5, g6, g7, g8, hP1, hD1⟩ := hB
                                        rw [ht] at hP1
                                        obtain ⟨hP, hD⟩ := zn (W2 := [_, _, _, _, _, (om k0 (va_up a 28 b2) (upd (upd (upd (upd (upd (upd (upd (upd (upd (upd I0 0 (nI (ft + 1))) 14 0) 19 (nI (dn + 1))) 20 0) 26 (nI t9)) 41 (nI (psN (nnF (upd (upd (upd st ft 1) f 2) g 2) (upd tn ft 0) (upd (upd mn 200 4) ft 4)) (psN (nnF st tn mn) w0 ft) (ft + 1)))) 44 x1) 45 x2) 46 x3) 47 x4) (vp_updL (vp_updL J0 48 (jI ((uq : Nat) : Int))) 49 (jI ((dq : Nat) : Int)))), (oa (a 1) cI 201 (upd (upd kd 200 6) ft 6)), (oa (a 5) cI 201 (upd (upd (upd st ft 1) f 2) g 2)), (oa (a 7) cI 201 (upd (upd (upd gb ft 0) f (nI (dn + 1))) g (nI (dn + 1)))), (oa (a 10) cI 201 (upd (upd (upd it ft (-1)) f (nI ft)) g (nI ft))), (oa (a 8) cI 201 (upd pa ft (nI f))), (oa (a 9) cI 201 (upd pb ft (nI g))), (oa (a 2) cI 201 (upd rk ft (rk f))), (oa (a 3) cI 201 (upd wd ft (wd f))), (oa (a 4) cI 201 (upd tw ft (tw f))), (oa (a 6) cZ 201 (upd tn ft 0)), (oa (a 11) cI 201 (upd (upd mn 200 4) ft 4)), (oa (a 12) cI 8040 (bxX ft (x1) (x3) 4 (bxX 200 (x1) (x3) 4 cx))), (oa (a 13) cI 8040 (bxY ft (x2) (x4) 4 (bxY 200 (x2) (x4) 4 cy))), (oa (a 27) cI 516 (upd (upd sa ((dn - bs) + 1) (nI (psN (nnF st tn mn) w0 ft))) ((dn + 1 - bs) + 1) (nI (psN (nnF (upd (upd (upd st ft 1) f 2) g 2) (upd tn ft 0) (upd (upd mn 200 4) ft 4)) (psN (nnF st tn mn) w0 ft) (ft + 1))))), (oa b2 cI (4096 * c2) sh2), (oa (a 16) cI 514 (upd wh (dn + 1) (6 : Int32))), (oa (a 17) cI 514 (upd of9 (dn + 1) (nI f))), (oa (a 18) cI 514 (upd we (dn + 1) (2 : Int32)))]) hP hD hk1 hFc hP1 hD1 zl_210 zl_109 zl_211 zl_212 (by decide +kernel) rfl rfl rfl rfl rfl
                                        clear hk1 hPc hDc hFc hP1 hD1 ht
                                        refine lv_istore (lv' := [(8, .int (nI (dn + 1))), (7, .int (nI ft)), (6, .int (pI (jFr ft st tn (upd kd 200 6) (upd mn 200 4) (bxX 200 (x1) (x3) 4 cx) (bxY 200 (x2) (x4) 4 cy) f g ft))), (5, .int (nI ft)), (4, .int 0), (0, .ref k0), (1, .int (nI f)), (2, .int (nI g)), (3, .int gp9)]) hx hb dX11_join_405 hl (Nat.le_of_ble_eq_true rfl) rfl (fun ls hl => ?_)
                                        refine lv_iload hx hb dX11_join_407 (lv_at hl 1 rfl) ?_
                                        obtain ⟨hP9, hD9⟩ := zq_sub (wc := [_, _, _, _, _, _, _, _, _, _, _, _, _, _, _, _, _, _, _, _, _, _, _, _]) hP hD [5, 6, 7, 8, 9, 10, 11, 12, 13, 14, 15, 16, 17, 18, 19, 20, 21, 22, 23, 0, 1, 2, 3, 4] rfl rfl
                                        refine W.widen (k := c2 - cp) (n := 8192 * (c2 - cp)) (by omega) (by omega) ?_
                                        rw [hQ9]
                                        exact W.iret (v := nI ft) hx hb hr (fun t ht hW => ⟨⟨rfl, b2, sh2, t9, uq, dq, S1, x1, x2, x3, x4, la1, lb1, lc1, ld1, (ej1), (ej2), (ej3), (ej4), (by have h9 := psN_ge (nnF st tn mn) w0 ft; rw [g6 _ (by omega)]; exact g1), (fun j hj => by have h9 := psN_ge (nnF st tn mn) w0 ft; rw [g6 _ (by omega)]; exact g2 j hj), (fun g hg j hj => by have h9 := psN_mono (nnF st tn mn) w0 hg; rw [g6 _ (by omega)]; exact g3 g hg j hj), (g5), (g7), (hs1), (⟨hs2, lsZ_n hs3⟩), by rw [ht]; exact hP9, hD9⟩, hS.F ht⟩) hS.2.2 dX11_join_409
                                      · have c_23 : ((ft : Nat) : Int) = 200 := zc_eq (nI_toInt b9_18) rfl c_23
                                        exfalso; omega
                                  · have c_19 : ¬ (jFr ft st tn (upd kd 200 6) (upd mn 200 4) (bxX 200 (x1) (x3) 4 cx) (bxY 200 (x2) (x4) 4 cy) f g ft) := zp_0 c_19
                                    exfalso; exact absurd hfree9 (by first | with_reducible assumption | assumption)
                                · have c_16 : ((q : Nat) : Int) < ((ft : Nat) : Int) := zc_nle (nI_toInt b9_18) (nI_toInt b9_17) c_16
                                  refine lv_iload hx hb dX11_join_203 (lv_at hl 0 rfl) ?_
                                  refine lv_iload_n hx hb dX11_join_205 rfl (lv_at hl 5 rfl) ?_
                                  have b9_26 : zlt (f) := show f < 2147483648 by omega
                                  refine lv_icmp_eq (tgt := 269) hx hb dX11_join_206 rfl (fun c_25 => ?_) (fun c_25 => ?_)
                                  · have c_25 : ((q : Nat) : Int) = ((f : Nat) : Int) := zc_eq (nI_toInt b9_17) (nI_toInt b9_26) c_25
                                    refine lv_iinc (v := nI (q + 1)) (lv' := [(7, .int (nI (q + 1))), (6, .int (pI (jFr ft st tn (upd kd 200 6) (upd mn 200 4) (bxX 200 (x1) (x3) 4 cx) (bxY 200 (x2) (x4) 4 cy) f g q))), (5, .int (nI ft)), (4, .int 0), (0, .ref k0), (1, .int (nI f)), (2, .int (nI g)), (3, .int gp9)]) hx hb dX11_join_269 hl (k := 0) rfl (nI_add q 1) (Nat.le_of_ble_eq_true rfl) rfl (fun ls hl => ?_)
                                    refine lv_goto (tgt := 196) hx hb dX11_join_272 rfl ?_
                                    have hl9 := lv_sub hl [0, 1, 2, 3, 4, 5, 6, 7] rfl
                                    have e9_6 : pI (jFr ft st tn (upd kd 200 6) (upd mn 200 4) (bxX 200 (x1) (x3) 4 cx) (bxY 200 (x2) (x4) 4 cy) f g (q + 1)) = (pI (jFr ft st tn (upd kd 200 6) (upd mn 200 4) (bxX 200 (x1) (x3) 4 cx) (bxY 200 (x2) (x4) 4 cy) f g q) : Int32) := by first | exact zp_iff (jF_y (fun h1 h2 h3 => ⟨by assumption, by assumption⟩)) | exact zp_f (jF_n (by omega) (by omega) (by first | with_reducible assumption | assumption) (by first | exact Or.inl (by first | with_reducible assumption | assumption) | exact Or.inr (by first | with_reducible assumption | assumption))) | exact zp_iff (jF_y (fun h1 h2 h3 => by first | (exfalso; omega) | exact absurd h3 (by first | with_reducible assumption | assumption)))
                                    have hl9 : lv_has ls 9 [(7, .int (nI (q + 1))), (6, .int (pI (jFr ft st tn (upd kd 200 6) (upd mn 200 4) (bxX 200 (x1) (x3) 4 cx) (bxY 200 (x2) (x4) 4 cy) f g (q + 1)))), (5, .int (nI ft)), (4, .int 0), (0, .ref k0), (1, .int (nI f)), (2, .int (nI g)), (3, .int gp9)] := by rw [e9_6]; exact hl9
                                    exact ih_196 (q + 1) S1 H locs ls (by first | with_reducible assumption | omega) (by first | with_reducible assumption | omega) hP hD hS hl9
                                  · have c_25 : ¬ ((q : Nat) : Int) = ((f : Nat) : Int) := zc_ne (nI_toInt b9_17) (nI_toInt b9_26) c_25
                                    refine lv_iload hx hb dX11_join_209 (lv_at hl 0 rfl) ?_
                                    refine lv_iload_n hx hb dX11_join_211 rfl (lv_at hl 6 rfl) ?_
                                    have b9_28 : zlt (g) := show g < 2147483648 by omega
                                    refine lv_icmp_eq (tgt := 269) hx hb dX11_join_212 rfl (fun c_27 => ?_) (fun c_27 => ?_)
                                    · have c_27 : ((q : Nat) : Int) = ((g : Nat) : Int) := zc_eq (nI_toInt b9_17) (nI_toInt b9_28) c_27
                                      refine lv_iinc (v := nI (q + 1)) (lv' := [(7, .int (nI (q + 1))), (6, .int (pI (jFr ft st tn (upd kd 200 6) (upd mn 200 4) (bxX 200 (x1) (x3) 4 cx) (bxY 200 (x2) (x4) 4 cy) f g q))), (5, .int (nI ft)), (4, .int 0), (0, .ref k0), (1, .int (nI f)), (2, .int (nI g)), (3, .int gp9)]) hx hb dX11_join_269 hl (k := 0) rfl (nI_add q 1) (Nat.le_of_ble_eq_true rfl) rfl (fun ls hl => ?_)
                                      refine lv_goto (tgt := 196) hx hb dX11_join_272 rfl ?_
                                      have hl9 := lv_sub hl [0, 1, 2, 3, 4, 5, 6, 7] rfl
                                      have e9_6 : pI (jFr ft st tn (upd kd 200 6) (upd mn 200 4) (bxX 200 (x1) (x3) 4 cx) (bxY 200 (x2) (x4) 4 cy) f g (q + 1)) = (pI (jFr ft st tn (upd kd 200 6) (upd mn 200 4) (bxX 200 (x1) (x3) 4 cx) (bxY 200 (x2) (x4) 4 cy) f g q) : Int32) := by first | exact zp_iff (jF_y (fun h1 h2 h3 => ⟨by assumption, by assumption⟩)) | exact zp_f (jF_n (by omega) (by omega) (by first | with_reducible assumption | assumption) (by first | exact Or.inl (by first | with_reducible assumption | assumption) | exact Or.inr (by first | with_reducible assumption | assumption))) | exact zp_iff (jF_y (fun h1 h2 h3 => by first | (exfalso; omega) | exact absurd h3 (by first | with_reducible assumption | assumption)))
                                      have hl9 : lv_has ls 9 [(7, .int (nI (q + 1))), (6, .int (pI (jFr ft st tn (upd kd 200 6) (upd mn 200 4) (bxX 200 (x1) (x3) 4 cx) (bxY 200 (x2) (x4) 4 cy) f g (q + 1)))), (5, .int (nI ft)), (4, .int 0), (0, .ref k0), (1, .int (nI f)), (2, .int (nI g)), (3, .int gp9)] := by rw [e9_6]; exact hl9
                                      exact ih_196 (q + 1) S1 H locs ls (by first | with_reducible assumption | omega) (by first | with_reducible assumption | omega) hP hD hS hl9
                                    · have c_27 : ¬ ((q : Nat) : Int) = ((g : Nat) : Int) := zc_ne (nI_toInt b9_17) (nI_toInt b9_28) c_27
                                      refine lv_aload_n hx hb dX11_join_215 rfl (lv_at hl 4 rfl) ?_
                                      refine lv_iload hx hb dX11_join_216 (lv_at hl 0 rfl) ?_
                                      obtain ⟨hPc, hDc, hFc, hI1⟩ := zi_sub (wc := [_, _, _]) hP hD hS hA [0, 2, 10] rfl rfl
                                      refine zcall (st1 := [.int (pI (q < ft ∧ (st q).toInt = 1 ∧ (tn q).toInt = 0))]) (va_runV (As := [.int (nI q)]) (rest := []) ⟨hx, hb, hml, hown, hts⟩ (k_M_is_n l dC dI cI cZ cF H.size k0 a (upd (upd (upd (upd (upd I0 26 (nI ln)) 44 x1) 45 x2) 46 x3) 47 x4) (vp_updL (vp_updL J0 48 (jI ((uq : Nat) : Int))) 49 (jI ((dq : Nat) : Int))) q ft st tn (by first | with_reducible assumption | assumption) (by first | with_reducible assumption | omega) (by first | with_reducible assumption | omega)) (csV_179 hts rfl rfl ⟨Nat.le_of_ble_eq_true rfl, Nat.le_of_ble_eq_true rfl⟩) (zPV2 (q0 := 0) (ci := 9) hPc hDc hK hXN rfl rfl) rfl rfl hl.1 rfl (lv_room (Nat.le_of_ble_eq_true rfl)) dX11_join_218 ⟨Nat.zero_le _, Nat.zero_le _⟩) hS hFc hFc rfl (fun t H locs ht hB hk1 hS => ?_)
                                      obtain ⟨hP1, hD1⟩ := hB
                                      rw [ht] at hP1
                                      replace hP := z0 hP hD hk1 hP1 hI1
                                      clear hk1 hPc hDc hFc hP1 hD1 ht hI1
                                      refine lv_if_eq (tgt := 269) hx hb dX11_join_221 rfl (fun c_29 => ?_) (fun c_29 => ?_)
                                      · have c_29 : ¬ (q < ft ∧ (st q).toInt = 1 ∧ (tn q).toInt = 0) := zp_0 c_29
                                        refine lv_iinc (v := nI (q + 1)) (lv' := [(7, .int (nI (q + 1))), (6, .int (pI (jFr ft st tn (upd kd 200 6) (upd mn 200 4) (bxX 200 (x1) (x3) 4 cx) (bxY 200 (x2) (x4) 4 cy) f g q))), (5, .int (nI ft)), (4, .int 0), (0, .ref k0), (1, .int (nI f)), (2, .int (nI g)), (3, .int gp9)]) hx hb dX11_join_269 hl (k := 0) rfl (nI_add q 1) (Nat.le_of_ble_eq_true rfl) rfl (fun ls hl => ?_)
                                        refine lv_goto (tgt := 196) hx hb dX11_join_272 rfl ?_
                                        have hl9 := lv_sub hl [0, 1, 2, 3, 4, 5, 6, 7] rfl
                                        have e9_6 : pI (jFr ft st tn (upd kd 200 6) (upd mn 200 4) (bxX 200 (x1) (x3) 4 cx) (bxY 200 (x2) (x4) 4 cy) f g (q + 1)) = (pI (jFr ft st tn (upd kd 200 6) (upd mn 200 4) (bxX 200 (x1) (x3) 4 cx) (bxY 200 (x2) (x4) 4 cy) f g q) : Int32) := by first | exact zp_iff (jF_y (fun h1 h2 h3 => ⟨by assumption, by assumption⟩)) | exact zp_f (jF_n (by omega) (by omega) (by first | with_reducible assumption | assumption) (by first | exact Or.inl (by first | with_reducible assumption | assumption) | exact Or.inr (by first | with_reducible assumption | assumption))) | exact zp_iff (jF_y (fun h1 h2 h3 => by first | (exfalso; omega) | exact absurd h3 (by first | with_reducible assumption | assumption)))
                                        have hl9 : lv_has ls 9 [(7, .int (nI (q + 1))), (6, .int (pI (jFr ft st tn (upd kd 200 6) (upd mn 200 4) (bxX 200 (x1) (x3) 4 cx) (bxY 200 (x2) (x4) 4 cy) f g (q + 1)))), (5, .int (nI ft)), (4, .int 0), (0, .ref k0), (1, .int (nI f)), (2, .int (nI g)), (3, .int gp9)] := by rw [e9_6]; exact hl9
                                        exact ih_196 (q + 1) S1 H locs ls (by first | with_reducible assumption | omega) (by first | with_reducible assumption | omega) hP hD hS hl9
                                      · have c_29 : q < ft ∧ (st q).toInt = 1 ∧ (tn q).toInt = 0 := zp_1 c_29
                                        have hw_q := hwf2 q (by first | with_reducible assumption | assumption)
                                        have hn_q := hw_q.2.1
                                        refine lv_aload_n hx hb dX11_join_224 rfl (lv_at hl 4 rfl) ?_
                                        refine lv_sipush (v := 200) hx hb dX11_join_225 rfl ?_
                                        refine lv_iload hx hb dX11_join_228 (lv_at hl 0 rfl) ?_
                                        obtain ⟨hPc, hDc, hFc⟩ := zo_sub (wc := [_, _, _, _, _, _]) hP hD hS hA [0, 1, 11, 12, 13, 19] (by decide +kernel) rfl
                                        refine zcall (st1 := [.int (pI (∃ i, i < eO ((upd kd 200 6) 200).toInt 4 ∧ ∃ j, j < eO ((upd kd 200 6) q).toInt (nN ((upd mn 200 4) q)) ∧ eMt 4 (cF40 (bxX 200 (x1) (x3) 4 cx) 200) (cF40 (bxY 200 (x2) (x4) 4 cy) 200) i (nN ((upd mn 200 4) q)) (cF40 (bxX 200 (x1) (x3) 4 cx) q) (cF40 (bxY 200 (x2) (x4) 4 cy) q) j))]) (va_runV (As := [.int 200, .int (nI q)]) (rest := []) ⟨hx, hb, hml, hown, hts⟩ (k_M_isMet l dC dI cI cZ cF H.size k0 a (upd (upd (upd (upd (upd I0 26 (nI ln)) 44 x1) 45 x2) 46 x3) 47 x4) (vp_updL (vp_updL J0 48 (jI ((uq : Nat) : Int))) 49 (jI ((dq : Nat) : Int))) 200 4 q (nN ((upd mn 200 4) q)) (upd kd 200 6) (upd mn 200 4) (bxX 200 (x1) (x3) 4 cx) (bxY 200 (x2) (x4) 4 cy) S1 (by first | with_reducible assumption | omega) (hm_b) (by first | with_reducible assumption | omega) (hp_b) (by first | with_reducible assumption | omega) (hw_q.1) (hw_q.2.1) (hw_q.2.2)) (csV_180 hts rfl rfl ⟨Nat.le_of_ble_eq_true rfl, Nat.le_of_ble_eq_true rfl⟩) (zPV2 (q0 := 0) (ci := 9) hPc hDc hK hXN rfl rfl) rfl rfl hl.1 rfl (lv_room (Nat.le_of_ble_eq_true rfl)) dX11_join_230 ⟨Nat.zero_le _, Nat.zero_le _⟩) hS hFc hFc rfl (fun t H locs ht hB hk1 hS => ?_)
                                        obtain ⟨q_30, hP1, hD1⟩ := hB
                                        rw [ht] at hP1
                                        obtain ⟨hP, hD⟩ := zn (W2 := [_, _, _, _, _, _, _, _, _, _, _, _, _, _, _, _, _, _, _, (oa (a 32) cI 8 q_30), _, _, _, _]) hP hD hk1 hFc hP1 hD1 [0, 1, 11, 12, 13, 19] zl_253 zl_253 [0, 1, 11, 12, 13, 19] (by decide +kernel) rfl rfl rfl rfl rfl
                                        clear hk1 hPc hDc hFc hP1 hD1 ht
                                        refine zz_i (v := pI (mtF ((upd kd 200 6) 200).toInt 4 (cF40 (bxX 200 (x1) (x3) 4 cx) 200) (cF40 (bxY 200 (x2) (x4) 4 cy) 200) ((upd kd 200 6) q).toInt (nN ((upd mn 200 4) q)) (cF40 (bxX 200 (x1) (x3) 4 cx) q) (cF40 (bxY 200 (x2) (x4) 4 cy) q))) (rfl) ?_
                                        refine lv_if_ne (tgt := 266) hx hb dX11_join_233 rfl (fun c_31 => ?_) (fun c_31 => ?_)
                                        · have c_31 : mtF ((upd kd 200 6) 200).toInt 4 (cF40 (bxX 200 (x1) (x3) 4 cx) 200) (cF40 (bxY 200 (x2) (x4) 4 cy) 200) ((upd kd 200 6) q).toInt (nN ((upd mn 200 4) q)) (cF40 (bxX 200 (x1) (x3) 4 cx) q) (cF40 (bxY 200 (x2) (x4) 4 cy) q) := zp_1 c_31
                                          refine lv_iconst (v := 0) hx hb dX11_join_266 rfl ?_
                                          refine lv_istore (lv' := [(6, .int 0), (7, .int (nI q)), (5, .int (nI ft)), (4, .int 0), (0, .ref k0), (1, .int (nI f)), (2, .int (nI g)), (3, .int gp9)]) hx hb dX11_join_267 hl (Nat.le_of_ble_eq_true rfl) rfl (fun ls hl => ?_)
                                          refine lv_iinc (v := nI (q + 1)) (lv' := [(7, .int (nI (q + 1))), (6, .int 0), (5, .int (nI ft)), (4, .int 0), (0, .ref k0), (1, .int (nI f)), (2, .int (nI g)), (3, .int gp9)]) hx hb dX11_join_269 hl (k := 1) rfl (nI_add q 1) (Nat.le_of_ble_eq_true rfl) rfl (fun ls hl => ?_)
                                          refine lv_goto (tgt := 196) hx hb dX11_join_272 rfl ?_
                                          have hl9 := lv_sub hl [0, 1, 2, 3, 4, 5, 6, 7] rfl
                                          have e9_6 : pI (jFr ft st tn (upd kd 200 6) (upd mn 200 4) (bxX 200 (x1) (x3) 4 cx) (bxY 200 (x2) (x4) 4 cy) f g (q + 1)) = (0 : Int32) := by first | exact zp_iff (jF_y (fun h1 h2 h3 => ⟨by assumption, by assumption⟩)) | exact zp_f (jF_n (by omega) (by omega) (by first | with_reducible assumption | assumption) (by first | exact Or.inl (by first | with_reducible assumption | assumption) | exact Or.inr (by first | with_reducible assumption | assumption))) | exact zp_iff (jF_y (fun h1 h2 h3 => by first | (exfalso; omega) | exact absurd h3 (by first | with_reducible assumption | assumption)))
                                          have hl9 : lv_has ls 9 [(7, .int (nI (q + 1))), (6, .int (pI (jFr ft st tn (upd kd 200 6) (upd mn 200 4) (bxX 200 (x1) (x3) 4 cx) (bxY 200 (x2) (x4) 4 cy) f g (q + 1)))), (5, .int (nI ft)), (4, .int 0), (0, .ref k0), (1, .int (nI f)), (2, .int (nI g)), (3, .int gp9)] := by rw [e9_6]; exact hl9
                                          exact ih_196 (q + 1) q_30 H locs ls (by first | with_reducible assumption | omega) (by first | with_reducible assumption | omega) hP hD hS hl9
                                        · have c_31 : ¬ (mtF ((upd kd 200 6) 200).toInt 4 (cF40 (bxX 200 (x1) (x3) 4 cx) 200) (cF40 (bxY 200 (x2) (x4) 4 cy) 200) ((upd kd 200 6) q).toInt (nN ((upd mn 200 4) q)) (cF40 (bxX 200 (x1) (x3) 4 cx) q) (cF40 (bxY 200 (x2) (x4) 4 cy) q)) := zp_0 c_31
                                          refine lv_aload_n hx hb dX11_join_236 rfl (lv_at hl 4 rfl) ?_
                                          refine lv_sipush (v := 200) hx hb dX11_join_237 rfl ?_
                                          refine lv_aload_n hx hb dX11_join_240 rfl (lv_at hl 4 rfl) ?_
                                          refine va_get (D := (dC, dI)) (ci := 9) (v := .ref (a 12)) (C := RX11) (T := TX11) (N := 55) hx hb hts inX11 hown hK hP 0 rfl rfl 12 (Nat.le_of_ble_eq_true rfl) (hts _ mw_1171) (fun _ h9 => h9) rfl dX11_join_241 ?_
                                          refine lv_bipush (v := 40) hx hb dX11_join_244 rfl ?_
                                          refine lv_iload hx hb dX11_join_246 (lv_at hl 0 rfl) ?_
                                          refine lv_imul hx hb dX11_join_248 ?_
                                          refine zz_i (v := nI (40 * q)) (pk_mul 40 q) ?_
                                          have b9_32 : 40 * q < 8040 := by omega
                                          refine z_iald hx hb hK hP 12 0 rfl rfl (e := 40 * q) rfl b9_32 (Nat.le_of_ble_eq_true rfl) dX11_join_249 ?_
                                          refine lv_aload_n hx hb dX11_join_250 rfl (lv_at hl 4 rfl) ?_
                                          refine va_get (D := (dC, dI)) (ci := 9) (v := .ref (a 13)) (C := RX11) (T := TX11) (N := 55) hx hb hts inX11 hown hK hP 0 rfl rfl 13 (Nat.le_of_ble_eq_true rfl) (hts _ mw_1172) (fun _ h9 => h9) rfl dX11_join_251 ?_
                                          refine lv_bipush (v := 40) hx hb dX11_join_254 rfl ?_
                                          refine lv_iload hx hb dX11_join_256 (lv_at hl 0 rfl) ?_
                                          refine lv_imul hx hb dX11_join_258 ?_
                                          refine zz_i (v := nI (40 * q)) (pk_mul 40 q) ?_
                                          refine z_iald hx hb hK hP 13 0 rfl rfl (e := 40 * q) rfl b9_32 (Nat.le_of_ble_eq_true rfl) dX11_join_259 ?_
                                          obtain ⟨hPc, hDc, hFc⟩ := zo_sub (wc := [_, _, _, _, _, _]) hP hD hS hA [0, 1, 11, 12, 13, 19] (by decide +kernel) rfl
                                          refine zcall (st1 := [.int (pI (¬ (∃ i, i < eO ((upd kd 200 6) 200).toInt 4 ∧ eOn 4 (cF40 (bxX 200 (x1) (x3) 4 cx) 200) (cF40 (bxY 200 (x2) (x4) 4 cy) 200) i ((bxX 200 (x1) (x3) 4 cx) (40 * q)).toInt ((bxY 200 (x2) (x4) 4 cy) (40 * q)).toInt) ∧ par2 (eTg 4 (cF40 (bxX 200 (x1) (x3) 4 cx) 200) (cF40 (bxY 200 (x2) (x4) 4 cy) 200) ((bxX 200 (x1) (x3) 4 cx) (40 * q)).toInt ((bxY 200 (x2) (x4) 4 cy) (40 * q)).toInt) (eO ((upd kd 200 6) 200).toInt 4)))]) (va_runV (As := [.int 200, .int ((bxX 200 (x1) (x3) 4 cx) (40 * q)), .int ((bxY 200 (x2) (x4) 4 cy) (40 * q))]) (rest := []) ⟨hx, hb, hml, hown, hts⟩ (k_M_isInside l dC dI cI cZ cF H.size k0 a (upd (upd (upd (upd (upd I0 26 (nI ln)) 44 x1) 45 x2) 46 x3) 47 x4) (vp_updL (vp_updL J0 48 (jI ((uq : Nat) : Int))) 49 (jI ((dq : Nat) : Int))) 200 4 (upd kd 200 6) (upd mn 200 4) (bxX 200 (x1) (x3) 4 cx) (bxY 200 (x2) (x4) 4 cy) q_30 ((bxX 200 (x1) (x3) 4 cx) (40 * q)) ((bxY 200 (x2) (x4) 4 cy) (40 * q)) (by first | with_reducible assumption | omega) (hm_b) (by first | with_reducible assumption | omega) (hp_b) ((hw_q.2.2 0 (by first | with_reducible assumption | omega)).1) ((hw_q.2.2 0 (by first | with_reducible assumption | omega)).2)) (csV_183 hts rfl rfl ⟨Nat.le_of_ble_eq_true rfl, Nat.le_of_ble_eq_true rfl⟩) (zPV2 (q0 := 0) (ci := 9) hPc hDc hK hXN rfl rfl) rfl rfl hl.1 rfl (lv_room (Nat.le_of_ble_eq_true rfl)) dX11_join_260 ⟨Nat.zero_le _, Nat.zero_le _⟩) hS hFc hFc rfl (fun t H locs ht hB hk1 hS => ?_)
                                          obtain ⟨q_33, hP1, hD1⟩ := hB
                                          rw [ht] at hP1
                                          obtain ⟨hP, hD⟩ := zn (W2 := [_, _, _, _, _, _, _, _, _, _, _, _, _, _, _, _, _, _, _, (oa (a 32) cI 8 q_33), _, _, _, _]) hP hD hk1 hFc hP1 hD1 [0, 1, 11, 12, 13, 19] zl_253 zl_253 [0, 1, 11, 12, 13, 19] (by decide +kernel) rfl rfl rfl rfl rfl
                                          clear hk1 hPc hDc hFc hP1 hD1 ht
                                          refine zz_i (v := pI (inF ((upd kd 200 6) 200).toInt 4 (cF40 (bxX 200 (x1) (x3) 4 cx) 200) (cF40 (bxY 200 (x2) (x4) 4 cy) 200) ((bxX 200 (x1) (x3) 4 cx) (40 * q)).toInt ((bxY 200 (x2) (x4) 4 cy) (40 * q)).toInt)) (rfl) ?_
                                          refine lv_if_eq (tgt := 269) hx hb dX11_join_263 rfl (fun c_34 => ?_) (fun c_34 => ?_)
                                          · have c_34 : ¬ (inF ((upd kd 200 6) 200).toInt 4 (cF40 (bxX 200 (x1) (x3) 4 cx) 200) (cF40 (bxY 200 (x2) (x4) 4 cy) 200) ((bxX 200 (x1) (x3) 4 cx) (40 * q)).toInt ((bxY 200 (x2) (x4) 4 cy) (40 * q)).toInt) := zp_0 c_34
                                            refine lv_iinc (v := nI (q + 1)) (lv' := [(7, .int (nI (q + 1))), (6, .int (pI (jFr ft st tn (upd kd 200 6) (upd mn 200 4) (bxX 200 (x1) (x3) 4 cx) (bxY 200 (x2) (x4) 4 cy) f g q))), (5, .int (nI ft)), (4, .int 0), (0, .ref k0), (1, .int (nI f)), (2, .int (nI g)), (3, .int gp9)]) hx hb dX11_join_269 hl (k := 0) rfl (nI_add q 1) (Nat.le_of_ble_eq_true rfl) rfl (fun ls hl => ?_)
                                            refine lv_goto (tgt := 196) hx hb dX11_join_272 rfl ?_
                                            have hl9 := lv_sub hl [0, 1, 2, 3, 4, 5, 6, 7] rfl
                                            have e9_6 : pI (jFr ft st tn (upd kd 200 6) (upd mn 200 4) (bxX 200 (x1) (x3) 4 cx) (bxY 200 (x2) (x4) 4 cy) f g (q + 1)) = (pI (jFr ft st tn (upd kd 200 6) (upd mn 200 4) (bxX 200 (x1) (x3) 4 cx) (bxY 200 (x2) (x4) 4 cy) f g q) : Int32) := by first | exact zp_iff (jF_y (fun h1 h2 h3 => ⟨by assumption, by assumption⟩)) | exact zp_f (jF_n (by omega) (by omega) (by first | with_reducible assumption | assumption) (by first | exact Or.inl (by first | with_reducible assumption | assumption) | exact Or.inr (by first | with_reducible assumption | assumption))) | exact zp_iff (jF_y (fun h1 h2 h3 => by first | (exfalso; omega) | exact absurd h3 (by first | with_reducible assumption | assumption)))
                                            have hl9 : lv_has ls 9 [(7, .int (nI (q + 1))), (6, .int (pI (jFr ft st tn (upd kd 200 6) (upd mn 200 4) (bxX 200 (x1) (x3) 4 cx) (bxY 200 (x2) (x4) 4 cy) f g (q + 1)))), (5, .int (nI ft)), (4, .int 0), (0, .ref k0), (1, .int (nI f)), (2, .int (nI g)), (3, .int gp9)] := by rw [e9_6]; exact hl9
                                            exact ih_196 (q + 1) q_33 H locs ls (by first | with_reducible assumption | omega) (by first | with_reducible assumption | omega) hP hD hS hl9
                                          · have c_34 : inF ((upd kd 200 6) 200).toInt 4 (cF40 (bxX 200 (x1) (x3) 4 cx) 200) (cF40 (bxY 200 (x2) (x4) 4 cy) 200) ((bxX 200 (x1) (x3) 4 cx) (40 * q)).toInt ((bxY 200 (x2) (x4) 4 cy) (40 * q)).toInt := zp_1 c_34
                                            refine lv_iconst (v := 0) hx hb dX11_join_266 rfl ?_
                                            refine lv_istore (lv' := [(6, .int 0), (7, .int (nI q)), (5, .int (nI ft)), (4, .int 0), (0, .ref k0), (1, .int (nI f)), (2, .int (nI g)), (3, .int gp9)]) hx hb dX11_join_267 hl (Nat.le_of_ble_eq_true rfl) rfl (fun ls hl => ?_)
                                            refine lv_iinc (v := nI (q + 1)) (lv' := [(7, .int (nI (q + 1))), (6, .int 0), (5, .int (nI ft)), (4, .int 0), (0, .ref k0), (1, .int (nI f)), (2, .int (nI g)), (3, .int gp9)]) hx hb dX11_join_269 hl (k := 1) rfl (nI_add q 1) (Nat.le_of_ble_eq_true rfl) rfl (fun ls hl => ?_)
                                            refine lv_goto (tgt := 196) hx hb dX11_join_272 rfl ?_
                                            have hl9 := lv_sub hl [0, 1, 2, 3, 4, 5, 6, 7] rfl
                                            have e9_6 : pI (jFr ft st tn (upd kd 200 6) (upd mn 200 4) (bxX 200 (x1) (x3) 4 cx) (bxY 200 (x2) (x4) 4 cy) f g (q + 1)) = (0 : Int32) := by first | exact zp_iff (jF_y (fun h1 h2 h3 => ⟨by assumption, by assumption⟩)) | exact zp_f (jF_n (by omega) (by omega) (by first | with_reducible assumption | assumption) (by first | exact Or.inl (by first | with_reducible assumption | assumption) | exact Or.inr (by first | with_reducible assumption | assumption))) | exact zp_iff (jF_y (fun h1 h2 h3 => by first | (exfalso; omega) | exact absurd h3 (by first | with_reducible assumption | assumption)))
                                            have hl9 : lv_has ls 9 [(7, .int (nI (q + 1))), (6, .int (pI (jFr ft st tn (upd kd 200 6) (upd mn 200 4) (bxX 200 (x1) (x3) 4 cx) (bxY 200 (x2) (x4) 4 cy) f g (q + 1)))), (5, .int (nI ft)), (4, .int 0), (0, .ref k0), (1, .int (nI f)), (2, .int (nI g)), (3, .int gp9)] := by rw [e9_6]; exact hl9
                                            exact ih_196 (q + 1) q_33 H locs ls (by first | with_reducible assumption | omega) (by first | with_reducible assumption | omega) hP hD hS hl9
                            have e9_6 : pI (jFr ft st tn (upd kd 200 6) (upd mn 200 4) (bxX 200 (x1) (x3) 4 cx) (bxY 200 (x2) (x4) 4 cy) f g 0) = (1 : Int32) := by exact zp_t jF_0
                            have hl9 : lv_has ls 9 [(7, .int (nI 0)), (6, .int (pI (jFr ft st tn (upd kd 200 6) (upd mn 200 4) (bxX 200 (x1) (x3) 4 cx) (bxY 200 (x2) (x4) 4 cy) f g 0))), (5, .int (nI ft)), (4, .int 0), (0, .ref k0), (1, .int (nI f)), (2, .int (nI g)), (3, .int gp9)] := by rw [e9_6]; exact lv_sub hl [0, 1, 2, 3, 4, 5, 6, 7] rfl
                            exact hl_196 _ 0 S2 H locs ls (Nat.lt_succ_self _) (by first | with_reducible assumption | omega) hP hD hS hl9
                          · have c_15 : (gp9.toInt * gp9.toInt * ((dq : Nat) : Int)) < ((uq : Nat) : Int) := zl_nle (jI_toInt (by omega)) (jI_toInt (by omega)) c_15
                            exfalso; exact hnf (hf9.mp (by omega))
                        · exact absurd (by decide) c_14
                      · have c_13 : ¬ (tn g).toInt = 0 := zc_ne rfl rfl c_13
                        exfalso; omega
                  · have c_11 : 1000 < gp9.toInt := zc_nle rfl rfl c_11
                    exfalso; omega
              · have c_9 : ¬ (kd g).toInt = 6 := zc_ne rfl rfl c_9
                exfalso; omega
          · exact absurd (by decide) c_7
        · have c_6 : ¬ (st g).toInt = 1 := zc_ne rfl rfl c_6
          exfalso; omega
    · have c_2 : ¬ (g < ft) := zp_0 c_2
      exfalso; omega
end
section
set_option maxHeartbeats 4000000 in
set_option maxRecDepth 100000 in
theorem k_M_placeOf_u (l : Launch) (dC : Nat → ClassId) (dI : Nat → Nat → Nat) (cI cZ cF : ClassId) (sz : Nat) (k0 : Nat) (a : Nat → Nat) (I0 : Nat → Int32) (J0 : Nat → Int64) (px : Int32) (py : Int32) (pc9 : Nat) (jx : Nat → Int32) (jy : Nat → Int32) (gr : Nat → Int32) (hp400 : pc9 ≤ 401) : Met l yX11_placeOf (.code yX11_placeOf cX11_placeOf 4 (some .int) :: ws0) ({ frames := 0, cells := 0, slots := 0, locals := 0 } : Room) (va_Pc [.ref k0, .int px, .int py] (zPre (dC, dI) classes (zTy cI cZ cF) [(om k0 a (upd I0 54 (nI pc9)) J0), (oa (a 51) cI 402 jx), (oa (a 52) cI 402 jy), (oa (a 53) cI 402 gr)] sz zXN)) (zQe (fun v9 t => ∃ (pc1 : Nat), ∃ (b9 : Nat), ∃ (jx1 : Nat → Int32), ∃ (jy1 : Nat → Int32), ∃ (gr1 : Nat → Int32), v9 = (some (.int (nI b9))) ∧ (b9 < pc1 ∧ pc9 ≤ pc1 ∧ pc1 ≤ pc9 + 1) ∧ ((jx1 b9, jy1 b9) = (px, py)) ∧ (∀ j, j < pc9 → jx1 j = jx j ∧ jy1 j = jy j ∧ gr1 j = gr j) ∧ (pc1 = pc9 ∨ (pc1 = pc9 + 1 ∧ b9 = pc9 ∧ gr1 pc9 = nI pc9 ∧ ∀ j, j < pc9 → ¬ ((jx j).toInt = px.toInt ∧ (jy j).toInt = py.toInt))) ∧ va_P (dC, dI) classes [(om k0 a (upd I0 54 (nI pc1)) J0), (oa (a 51) cI 402 jx1), (oa (a 52) cI 402 jy1), (oa (a 53) cI 402 gr1)] t.heap ∧ va_D (va_A [(om k0 a (upd I0 54 (nI pc9)) J0), (oa (a 51) cI 402 jx), (oa (a 52) cI 402 jy), (oa (a 53) cI 402 gr)] sz) [(om k0 a (upd I0 54 (nI pc1)) J0), (oa (a 51) cI 402 jx1), (oa (a 52) cI 402 jy1), (oa (a 53) cI 402 gr1)]) (va_A [(om k0 a (upd I0 54 (nI pc9)) J0), (oa (a 51) cI 402 jx), (oa (a 52) cI 402 jy), (oa (a 53) cI 402 gr)] sz)) 0 0 (va_A [(om k0 a (upd I0 54 (nI pc9)) J0), (oa (a 51) cI 402 jx), (oa (a 52) cI 402 jy), (oa (a 53) cI 402 gr)] sz) := by
  refine Met.ofW (cc := cX11_placeOf) (maxL := 4) (ret := (some .int)) rfl rfl ?_
  intro p e s m args below meth c s₁ B hml hv
  obtain ⟨rfl, hsz, hP, hK, hD0, hXN⟩ := hv
  have hx := B.exec
  have hb := B.bytes
  have hr := B.returns
  have hts0 := atoms_spec (ws := .code yX11_placeOf cX11_placeOf 4 (some .int) :: ws0) B.pre
  have hts : ∀ w9 ∈ ws0, w9.before ([.ref k0, .int px, .int py] : List Value).toArray s = true := fun w9 h => hts0 w9 (List.mem_cons_of_mem _ h)
  have hown : s.vm.findClass "ScaleShopModel" = some m.cls := findClass_of_methodNamed B.named
  have hlocks := B.notSynchronized
  subst hsz
  have hD := hD0.self (sz := s.heap.size)
  clear hD0
  generalize hAe : va_A [(om k0 a (upd I0 54 (nI pc9)) J0), (oa (a 51) cI 402 jx), (oa (a 52) cI 402 jy), (oa (a 53) cI 402 gr)] s.heap.size = A at hD ⊢
  have hA : ∀ q : Nat, s.heap.size ≤ q → A q := fun q h => by rw [← hAe]; exact Or.inr h
  clear hAe
  have hS : va_S A s.heap s.heap [] := va_S.rf
  have hP : va_P (dC, dI) classes [(om k0 a (upd I0 54 (nI pc9)) J0), (oa (a 51) cI 402 jx), (oa (a 52) cI 402 jy), (oa (a 53) cI 402 gr)] s.heap := hP
  obtain ⟨Q9, hQ9⟩ : ∃ Q9 : State → Prop, Q9 = MQ below (zQe (fun v9 t => ∃ (pc1 : Nat), ∃ (b9 : Nat), ∃ (jx1 : Nat → Int32), ∃ (jy1 : Nat → Int32), ∃ (gr1 : Nat → Int32), v9 = (some (.int (nI b9))) ∧ (b9 < pc1 ∧ pc9 ≤ pc1 ∧ pc1 ≤ pc9 + 1) ∧ ((jx1 b9, jy1 b9) = (px, py)) ∧ (∀ j, j < pc9 → jx1 j = jx j ∧ jy1 j = jy j ∧ gr1 j = gr j) ∧ (pc1 = pc9 ∨ (pc1 = pc9 + 1 ∧ b9 = pc9 ∧ gr1 pc9 = nI pc9 ∧ ∀ j, j < pc9 → ¬ ((jx j).toInt = px.toInt ∧ (jy j).toInt = py.toInt))) ∧ va_P (dC, dI) classes [(om k0 a (upd I0 54 (nI pc1)) J0), (oa (a 51) cI 402 jx1), (oa (a 52) cI 402 jy1), (oa (a 53) cI 402 gr1)] t.heap ∧ va_D A [(om k0 a (upd I0 54 (nI pc1)) J0), (oa (a 51) cI 402 jx1), (oa (a 52) cI 402 jy1), (oa (a 53) cI 402 gr1)]) A) ([.ref k0, .int px, .int py] : List Value).toArray s 0 0 A := ⟨_, rfl⟩
  rw [← hQ9]
  have hl := lv_entry ([.ref k0, .int px, .int py]) (n := 4) (Nat.le_of_ble_eq_true rfl)
  rw [lg_entry_eq]
  generalize (lg_sl ([.ref k0, .int px, .int py]) ++ List.replicate (4 - (lg_sl ([.ref k0, .int px, .int py])).length) Slot.unset).toArray = ls at hl ⊢
  have hl : lv_has ls 4 [(0, .ref k0), (1, .int px), (2, .int py)] := hl
  refine lv_iconst (v := 0) hx hb dX11_placeOf_0 rfl ?_
  refine lv_istore_n (lv' := [(3, .int 0), (0, .ref k0), (1, .int px), (2, .int py)]) hx hb dX11_placeOf_1 rfl hl (Nat.le_of_ble_eq_true rfl) rfl (fun ls hl => ?_)
  have hl_2 : ∀ (n9 : Nat) (k : Nat) (H : Heap) (locs : List Loc) (ls : Array Slot), pc9 - k < n9 → (k ≤ pc9) → (∀ j, j < k → ¬ ((jx j).toInt = px.toInt ∧ (jy j).toInt = py.toInt)) → va_P (dC, dI) classes [(om k0 a (upd I0 54 (nI pc9)) J0), (oa (a 51) cI 402 jx), (oa (a 52) cI 402 jy), (oa (a 53) cI 402 gr)] H → va_D A [(om k0 a (upd I0 54 (nI pc9)) J0), (oa (a 51) cI 402 jx), (oa (a 52) cI 402 jy), (oa (a 53) cI 402 gr)] → va_S A s.heap H locs → lv_has ls 4 [(3, .int (nI k)), (0, .ref k0), (1, .int px), (2, .int py)] → W p l e ((headSpec (.code yX11_placeOf cX11_placeOf 4 (some .int) :: ws0) ({ frames := 0, cells := 0, slots := 0, locals := 0 } : Room)).room) s m ([.ref k0, .int px, .int py] : List Value).toArray below meth c H locs 0 0 Q9 (F0 m 2 ls []) := by
    intro n9
    induction n9 with
    | zero => intro k H locs ls hm; exact absurd hm (Nat.not_lt_zero _)
    | succ n9 ih_2 =>
      intro k H locs ls hm hk hno hP hD hS hl
      refine lv_iload_n hx hb dX11_placeOf_2 rfl (lv_at hl 0 rfl) ?_
      refine lv_aload_n hx hb dX11_placeOf_3 rfl (lv_at hl 1 rfl) ?_
      refine va_get (D := (dC, dI)) (ci := 9) (v := .int (nI pc9)) (C := RX11) (T := TX11) (N := 55) hx hb hts inX11 hown hK hP 0 rfl rfl 54 (Nat.le_of_ble_eq_true rfl) (hts _ mw_1213) (fun _ h9 => h9) rfl dX11_placeOf_4 ?_
      have b9_2 : zlt (k) := show k < 2147483648 by omega
      have b9_3 : zlt (pc9) := show pc9 < 2147483648 by omega
      refine lv_icmp_ge (tgt := 38) hx hb dX11_placeOf_7 rfl (fun c_1 => ?_) (fun c_1 => ?_)
      · have c_1 : ((pc9 : Nat) : Int) ≤ ((k : Nat) : Int) := zc_le (nI_toInt b9_3) (nI_toInt b9_2) c_1
        refine lv_aload_n hx hb dX11_placeOf_38 rfl (lv_at hl 1 rfl) ?_
        refine va_get (D := (dC, dI)) (ci := 9) (v := .ref (a 51)) (C := RX11) (T := TX11) (N := 55) hx hb hts inX11 hown hK hP 0 rfl rfl 51 (Nat.le_of_ble_eq_true rfl) (hts _ mw_1210) (fun _ h9 => h9) rfl dX11_placeOf_39 ?_
        refine lv_aload_n hx hb dX11_placeOf_42 rfl (lv_at hl 1 rfl) ?_
        refine va_get (D := (dC, dI)) (ci := 9) (v := .int (nI pc9)) (C := RX11) (T := TX11) (N := 55) hx hb hts inX11 hown hK hP 0 rfl rfl 54 (Nat.le_of_ble_eq_true rfl) (hts _ mw_1213) (fun _ h9 => h9) rfl dX11_placeOf_43 ?_
        refine lv_iload_n hx hb dX11_placeOf_46 rfl (lv_at hl 2 rfl) ?_
        have b9_4 : pc9 < 402 := by omega
        refine z_iast hx hb hK hP hD hS 1 0 rfl rfl (e := pc9) (x := px) rfl b9_4 (Nat.le_of_ble_eq_true rfl) dX11_placeOf_47 (fun H locs hP hD hS => ?_)
        obtain ⟨hP, hD⟩ := zre (W2 := [_, (oa (a 51) cI 402 (upd jx pc9 px)), _, _]) hP hD rfl
        refine lv_aload_n hx hb dX11_placeOf_48 rfl (lv_at hl 1 rfl) ?_
        refine va_get (D := (dC, dI)) (ci := 9) (v := .ref (a 52)) (C := RX11) (T := TX11) (N := 55) hx hb hts inX11 hown hK hP 0 rfl rfl 52 (Nat.le_of_ble_eq_true rfl) (hts _ mw_1211) (fun _ h9 => h9) rfl dX11_placeOf_49 ?_
        refine lv_aload_n hx hb dX11_placeOf_52 rfl (lv_at hl 1 rfl) ?_
        refine va_get (D := (dC, dI)) (ci := 9) (v := .int (nI pc9)) (C := RX11) (T := TX11) (N := 55) hx hb hts inX11 hown hK hP 0 rfl rfl 54 (Nat.le_of_ble_eq_true rfl) (hts _ mw_1213) (fun _ h9 => h9) rfl dX11_placeOf_53 ?_
        refine lv_iload_n hx hb dX11_placeOf_56 rfl (lv_at hl 3 rfl) ?_
        refine z_iast hx hb hK hP hD hS 2 0 rfl rfl (e := pc9) (x := py) rfl b9_4 (Nat.le_of_ble_eq_true rfl) dX11_placeOf_57 (fun H locs hP hD hS => ?_)
        obtain ⟨hP, hD⟩ := zre (W2 := [_, _, (oa (a 52) cI 402 (upd jy pc9 py)), _]) hP hD rfl
        refine lv_aload_n hx hb dX11_placeOf_58 rfl (lv_at hl 1 rfl) ?_
        refine va_get (D := (dC, dI)) (ci := 9) (v := .ref (a 53)) (C := RX11) (T := TX11) (N := 55) hx hb hts inX11 hown hK hP 0 rfl rfl 53 (Nat.le_of_ble_eq_true rfl) (hts _ mw_1212) (fun _ h9 => h9) rfl dX11_placeOf_59 ?_
        refine lv_aload_n hx hb dX11_placeOf_62 rfl (lv_at hl 1 rfl) ?_
        refine va_get (D := (dC, dI)) (ci := 9) (v := .int (nI pc9)) (C := RX11) (T := TX11) (N := 55) hx hb hts inX11 hown hK hP 0 rfl rfl 54 (Nat.le_of_ble_eq_true rfl) (hts _ mw_1213) (fun _ h9 => h9) rfl dX11_placeOf_63 ?_
        refine lv_aload_n hx hb dX11_placeOf_66 rfl (lv_at hl 1 rfl) ?_
        refine va_get (D := (dC, dI)) (ci := 9) (v := .int (nI pc9)) (C := RX11) (T := TX11) (N := 55) hx hb hts inX11 hown hK hP 0 rfl rfl 54 (Nat.le_of_ble_eq_true rfl) (hts _ mw_1213) (fun _ h9 => h9) rfl dX11_placeOf_67 ?_
        refine z_iast hx hb hK hP hD hS 3 0 rfl rfl (e := pc9) (x := nI pc9) rfl b9_4 (Nat.le_of_ble_eq_true rfl) dX11_placeOf_70 (fun H locs hP hD hS => ?_)
        obtain ⟨hP, hD⟩ := zre (W2 := [_, _, _, (oa (a 53) cI 402 (upd gr pc9 (nI pc9)))]) hP hD rfl
        refine lv_aload_n hx hb dX11_placeOf_71 rfl (lv_at hl 1 rfl) ?_
        refine lv_dup hx hb dX11_placeOf_72 rfl ?_
        refine va_get (D := (dC, dI)) (ci := 9) (v := .int (nI pc9)) (C := RX11) (T := TX11) (N := 55) hx hb hts inX11 hown hK hP 0 rfl rfl 54 (Nat.le_of_ble_eq_true rfl) (hts _ mw_1213) (fun _ h9 => h9) rfl dX11_placeOf_73 ?_
        refine lv_iconst (v := 1) hx hb dX11_placeOf_76 rfl ?_
        refine lv_iadd hx hb dX11_placeOf_77 ?_
        refine zz_i (v := nI (pc9 + 1)) (nI_add pc9 1) ?_
        refine va_put (D := (dC, dI)) (ci := 9) (v := .int (nI (pc9 + 1))) (ty := .int) (C := RX11) (T := TX11) (N := 55) hx hb hts inX11 tyX11 tyX11_ok nmX11 hown hK hP hD hS 0 rfl rfl 54 (by decide) (hts _ mw_1213) (fun _ h9 => h9) rfl (by decide +kernel) rfl rfl (Nat.le_of_ble_eq_true rfl) dX11_placeOf_78 (fun H locs hP hD hS => ?_)
        obtain ⟨hP, hD⟩ := zre (W2 := [(om k0 a (upd I0 54 (nI (pc9 + 1))) J0), _, _, _]) hP hD rfl
        refine lv_aload_n hx hb dX11_placeOf_81 rfl (lv_at hl 1 rfl) ?_
        refine va_get (D := (dC, dI)) (ci := 9) (v := .int (nI (pc9 + 1))) (C := RX11) (T := TX11) (N := 55) hx hb hts inX11 hown hK hP 0 rfl rfl 54 (Nat.le_of_ble_eq_true rfl) (hts _ mw_1213) (fun _ h9 => h9) rfl dX11_placeOf_82 ?_
        refine lv_iconst (v := 1) hx hb dX11_placeOf_85 rfl ?_
        refine lv_isub hx hb dX11_placeOf_86 ?_
        refine zz_i (v := nI ((pc9 + 1) - 1)) (pk_sub (a := pc9 + 1) (b := 1) (by omega)) ?_
        refine zz_i (v := nI pc9) (zn_eq (by omega)) ?_
        have hkp : k = pc9 := (by omega)
        rw [hkp] at hno
        obtain ⟨hP9, hD9⟩ := zu_sub (wc := [_, _, _, _]) hP hD [true, true, true, true] rfl rfl
        rw [hQ9]
        exact W.iret (v := nI pc9) hx hb hr (fun t ht hW => ⟨⟨_, rfl, (pc9 + 1), pc9, (upd jx pc9 px), (upd jy pc9 py), (upd gr pc9 (nI pc9)), rfl, (⟨by omega, by omega, by omega⟩), (by rw [up_at, up_at]), (fun j hj => ⟨if_neg (by omega), if_neg (by omega), if_neg (by omega)⟩), (Or.inr ⟨rfl, rfl, up_at _ _ _, fun j hj => hno j (by omega)⟩), by rw [ht]; exact hP9, hD9⟩, hS.F ht⟩) hS.2.2 dX11_placeOf_87
      · have c_1 : ((k : Nat) : Int) < ((pc9 : Nat) : Int) := zc_nle (nI_toInt b9_3) (nI_toInt b9_2) c_1
        refine lv_aload_n hx hb dX11_placeOf_10 rfl (lv_at hl 1 rfl) ?_
        refine va_get (D := (dC, dI)) (ci := 9) (v := .ref (a 51)) (C := RX11) (T := TX11) (N := 55) hx hb hts inX11 hown hK hP 0 rfl rfl 51 (Nat.le_of_ble_eq_true rfl) (hts _ mw_1210) (fun _ h9 => h9) rfl dX11_placeOf_11 ?_
        refine lv_iload_n hx hb dX11_placeOf_14 rfl (lv_at hl 0 rfl) ?_
        have b9_5 : k < 402 := by omega
        refine z_iald hx hb hK hP 1 0 rfl rfl (e := k) rfl b9_5 (Nat.le_of_ble_eq_true rfl) dX11_placeOf_15 ?_
        refine lv_iload_n hx hb dX11_placeOf_16 rfl (lv_at hl 2 rfl) ?_
        refine lv_icmp_ne (tgt := 32) hx hb dX11_placeOf_17 rfl (fun c_6 => ?_) (fun c_6 => ?_)
        · have c_6 : ¬ (jx k).toInt = px.toInt := zc_ne rfl rfl c_6
          refine lv_iinc (v := nI (k + 1)) (lv' := [(3, .int (nI (k + 1))), (0, .ref k0), (1, .int px), (2, .int py)]) hx hb dX11_placeOf_32 hl (k := 0) rfl (nI_add k 1) (Nat.le_of_ble_eq_true rfl) rfl (fun ls hl => ?_)
          refine lv_goto (tgt := 2) hx hb dX11_placeOf_35 rfl ?_
          exact ih_2 (k + 1) H locs ls (by first | with_reducible assumption | omega) (by first | with_reducible assumption | omega) (by intro j hj; rcases Nat.lt_or_ge j k with h | h; exact hno j h; rw [show j = k by omega]; omega) hP hD hS (lv_sub hl [0, 1, 2, 3] rfl)
        · have c_6 : (jx k).toInt = px.toInt := zc_eq rfl rfl c_6
          refine lv_aload_n hx hb dX11_placeOf_20 rfl (lv_at hl 1 rfl) ?_
          refine va_get (D := (dC, dI)) (ci := 9) (v := .ref (a 52)) (C := RX11) (T := TX11) (N := 55) hx hb hts inX11 hown hK hP 0 rfl rfl 52 (Nat.le_of_ble_eq_true rfl) (hts _ mw_1211) (fun _ h9 => h9) rfl dX11_placeOf_21 ?_
          refine lv_iload_n hx hb dX11_placeOf_24 rfl (lv_at hl 0 rfl) ?_
          have b9_7 : k < 402 := by omega
          refine z_iald hx hb hK hP 2 0 rfl rfl (e := k) rfl b9_7 (Nat.le_of_ble_eq_true rfl) dX11_placeOf_25 ?_
          refine lv_iload_n hx hb dX11_placeOf_26 rfl (lv_at hl 3 rfl) ?_
          refine lv_icmp_ne (tgt := 32) hx hb dX11_placeOf_27 rfl (fun c_8 => ?_) (fun c_8 => ?_)
          · have c_8 : ¬ (jy k).toInt = py.toInt := zc_ne rfl rfl c_8
            refine lv_iinc (v := nI (k + 1)) (lv' := [(3, .int (nI (k + 1))), (0, .ref k0), (1, .int px), (2, .int py)]) hx hb dX11_placeOf_32 hl (k := 0) rfl (nI_add k 1) (Nat.le_of_ble_eq_true rfl) rfl (fun ls hl => ?_)
            refine lv_goto (tgt := 2) hx hb dX11_placeOf_35 rfl ?_
            exact ih_2 (k + 1) H locs ls (by first | with_reducible assumption | omega) (by first | with_reducible assumption | omega) (by intro j hj; rcases Nat.lt_or_ge j k with h | h; exact hno j h; rw [show j = k by omega]; omega) hP hD hS (lv_sub hl [0, 1, 2, 3] rfl)
          · have c_8 : (jy k).toInt = py.toInt := zc_eq rfl rfl c_8
            refine lv_iload_n hx hb dX11_placeOf_30 rfl (lv_at hl 0 rfl) ?_
            obtain ⟨hP9, hD9⟩ := zu_sub (wc := [_, _, _, _]) hP hD [true, true, true, true] rfl rfl
            rw [hQ9]
            exact W.iret (v := nI k) hx hb hr (fun t ht hW => ⟨⟨_, rfl, pc9, k, jx, jy, gr, rfl, (⟨by omega, by omega, by omega⟩), (ptE (by omega) (by omega)), (fun j hj => ⟨rfl, rfl, rfl⟩), (Or.inl rfl), by rw [ht]; exact hP9, hD9⟩, hS.F ht⟩) hS.2.2 dX11_placeOf_31
  exact hl_2 _ 0 s.heap [] ls (Nat.lt_succ_self _) (by first | with_reducible assumption | omega) (by intro j hj; omega) hP hD hS (lv_sub hl [0, 1, 2, 3] rfl)
set_option maxHeartbeats 4000000 in
set_option maxRecDepth 100000 in
theorem k_M_choose_r (l : Launch) (dC : Nat → ClassId) (dI : Nat → Nat → Nat) (cI cZ cF : ClassId) (sz : Nat) (k0 : Nat) (a : Nat → Nat) (I0 : Nat → Int32) (J0 : Nat → Int64) (ft : Nat) (st : Nat → Int32) (tn : Nat → Int32) (kd : Nat → Int32) (rk : Nat → Int32) (mn : Nat → Int32) (cx : Nat → Int32) (cy : Nat → Int32) (S0 : Nat → Int32) (mk : Nat → Int32) (mt : Nat → Int32) (jx : Nat → Int32) (jy : Nat → Int32) (gr : Nat → Int32) (hft : I0 0 = nI ft) (h200 : ft ≤ 200) (hwf : ∀ q, lvF ft st tn q → wfM mn cx cy q) (hrk : ∀ q, lvF ft st tn q → 0 ≤ (rk q).toInt ∧ (rk q).toInt ≤ 9) (hz : cntP (chM (rdF ft st tn kd) (chW rk mn cx cy) (chB cx cy) (chL mn cx cy)) ft = 0) : zM l yX11_choose cX11_choose 7 (some .int) ({ frames := 3, cells := 0, slots := 0, locals := 70 } : Room) [.ref k0] (dC, dI) (zTy cI cZ cF) [(om k0 a I0 J0), (oa (a 5) cI 201 st), (oa (a 6) cZ 201 tn), (oa (a 1) cI 201 kd), (oa (a 2) cI 201 rk), (oa (a 11) cI 201 mn), (oa (a 12) cI 8040 cx), (oa (a 13) cI 8040 cy), (oa (a 32) cI 8 S0), (oa (a 50) cZ 201 mk), (oa (a 37) cZ 201 mt), (oa (a 51) cI 402 jx), (oa (a 52) cI 402 jy), (oa (a 53) cI 402 gr)] sz (some (.int (-1))) (fun A t => ∃ (pc9 : Nat), ∃ (S1 : Nat → Int32), ∃ (mk1 : Nat → Int32), ∃ (mt1 : Nat → Int32), ∃ (jx1 : Nat → Int32), ∃ (jy1 : Nat → Int32), ∃ (gr1 : Nat → Int32), zPD (dC, dI) classes A [(om k0 a (upd (upd (upd I0 14 8) 15 (I0 15)) 54 (nI pc9)) J0), (oa (a 5) cI 201 st), (oa (a 6) cZ 201 tn), (oa (a 1) cI 201 kd), (oa (a 2) cI 201 rk), (oa (a 11) cI 201 mn), (oa (a 12) cI 8040 cx), (oa (a 13) cI 8040 cy), (oa (a 32) cI 8 S1), (oa (a 50) cZ 201 mk1), (oa (a 37) cZ 201 mt1), (oa (a 51) cI 402 jx1), (oa (a 52) cI 402 jy1), (oa (a 53) cI 402 gr1)] t.heap) 0 0 := by
  refine zIn (own := "ScaleShopModel") (loc := [(0, .ref k0)]) rfl rfl rfl rfl (fun p e s m below meth c hx hb hr hts hown hlocks hml hnm9 A hA hS hP hD hK hXN Q9 hQ9 ls hl => ?_)
  refine lv_aload_n hx hb dX11_choose_0 rfl (lv_at hl 0 rfl) ?_
  refine lv_iconst (v := 0) hx hb dX11_choose_1 rfl ?_
  refine va_put (D := (dC, dI)) (ci := 9) (v := .int 0) (ty := .int) (C := RX11) (T := TX11) (N := 55) hx hb hts inX11 tyX11 tyX11_ok nmX11 hown hK hP hD hS 0 rfl rfl 54 (by decide) (hts _ mw_1213) (fun _ h9 => h9) rfl (by decide +kernel) rfl rfl (Nat.le_of_ble_eq_true rfl) dX11_choose_2 (fun H locs hP hD hS => ?_)
  obtain ⟨hP, hD⟩ := zre (W2 := [(om k0 a (upd I0 54 0) J0), _, _, _, _, _, _, _, _, _, _, _, _, _]) hP hD rfl
  refine lv_iconst (v := 0) hx hb dX11_choose_5 rfl ?_
  refine lv_istore_n (lv' := [(1, .int 0), (0, .ref k0)]) hx hb dX11_choose_6 rfl hl (Nat.le_of_ble_eq_true rfl) rfl (fun ls hl => ?_)
  have hl_7 : ∀ (n9 : Nat) (q : Nat) (mk0 : Nat → Int32) (mt0 : Nat → Int32) (H : Heap) (locs : List Loc) (ls : Array Slot), ft - q < n9 → (q ≤ ft) → (∀ j, j < q → mk0 j = pI (False ∧ (chM (rdF ft st tn kd) (chW rk mn cx cy) (chB cx cy) (chL mn cx cy)) j)) → (∀ j, j < q → mt0 j = pI (¬ (rdF ft st tn kd) j ∨ False)) → va_P (dC, dI) classes [(om k0 a (upd I0 54 0) J0), (oa (a 5) cI 201 st), (oa (a 6) cZ 201 tn), (oa (a 1) cI 201 kd), (oa (a 2) cI 201 rk), (oa (a 11) cI 201 mn), (oa (a 12) cI 8040 cx), (oa (a 13) cI 8040 cy), (oa (a 32) cI 8 S0), (oa (a 50) cZ 201 mk0), (oa (a 37) cZ 201 mt0), (oa (a 51) cI 402 jx), (oa (a 52) cI 402 jy), (oa (a 53) cI 402 gr)] H → va_D A [(om k0 a (upd I0 54 0) J0), (oa (a 5) cI 201 st), (oa (a 6) cZ 201 tn), (oa (a 1) cI 201 kd), (oa (a 2) cI 201 rk), (oa (a 11) cI 201 mn), (oa (a 12) cI 8040 cx), (oa (a 13) cI 8040 cy), (oa (a 32) cI 8 S0), (oa (a 50) cZ 201 mk0), (oa (a 37) cZ 201 mt0), (oa (a 51) cI 402 jx), (oa (a 52) cI 402 jy), (oa (a 53) cI 402 gr)] → va_S A s.heap H locs → lv_has ls 7 [(1, .int (nI q)), (0, .ref k0)] → W p l e ({ frames := 3, cells := 0, slots := 0, locals := 70 } : Room) s m ([.ref k0] : List Value).toArray below meth c H locs 0 0 Q9 (F0 m 7 ls []) := by
    intro n9
    induction n9 with
    | zero => intro q mk0 mt0 H locs ls hm; exact absurd hm (Nat.not_lt_zero _)
    | succ n9 ih_7 =>
      intro q mk0 mt0 H locs ls hm hq hm0 ht0 hP hD hS hl
      refine lv_iload_n hx hb dX11_choose_7 rfl (lv_at hl 0 rfl) ?_
      refine lv_aload_n hx hb dX11_choose_8 rfl (lv_at hl 1 rfl) ?_
      refine va_get (D := (dC, dI)) (ci := 9) (v := .int (I0 0)) (C := RX11) (T := TX11) (N := 55) hx hb hts inX11 hown hK hP 0 rfl rfl 0 (Nat.le_of_ble_eq_true rfl) (hts _ mw_1159) (fun _ h9 => h9) rfl dX11_choose_9 ?_
      refine zz_i (v := nI ft) (hft) ?_
      have b9_2 : zlt (q) := show q < 2147483648 by omega
      have b9_3 : zlt (ft) := show ft < 2147483648 by omega
      refine lv_icmp_ge (tgt := 47) hx hb dX11_choose_12 rfl (fun c_1 => ?_) (fun c_1 => ?_)
      · have c_1 : ((ft : Nat) : Int) ≤ ((q : Nat) : Int) := zc_le (nI_toInt b9_3) (nI_toInt b9_2) c_1
        refine lv_iconst (v := 0) hx hb dX11_choose_47 rfl ?_
        refine lv_istore_n (lv' := [(1, .int 0), (0, .ref k0)]) hx hb dX11_choose_48 rfl hl (Nat.le_of_ble_eq_true rfl) rfl (fun ls hl => ?_)
        have hl_49 : ∀ (n9 : Nat) (r9 : Nat) (pcn : Nat) (D : Nat → Prop) (mt1 : Nat → Int32) (mk1 : Nat → Int32) (jx1 : Nat → Int32) (jy1 : Nat → Int32) (gr1 : Nat → Int32) (S1 : Nat → Int32) (H : Heap) (locs : List Loc) (ls : Array Slot), ft - r9 < n9 → (r9 ≤ ft) → (chD (rdF ft st tn kd) (chW rk mn cx cy) D) → (r9 ≤ cntP D ft) → (∀ j, j < ft → mt1 j = pI (¬ (rdF ft st tn kd) j ∨ D j)) → (∀ j, j < ft → mk1 j = pI (D j ∧ (chM (rdF ft st tn kd) (chW rk mn cx cy) (chB cx cy) (chL mn cx cy)) j)) → (chI D (chB cx cy) (chL mn cx cy) (fun i => (jx1 i, jy1 i)) gr1 pcn) → (pcn ≤ 2 * r9) → va_P (dC, dI) classes [(om k0 a (upd I0 54 (nI pcn)) J0), (oa (a 5) cI 201 st), (oa (a 6) cZ 201 tn), (oa (a 1) cI 201 kd), (oa (a 2) cI 201 rk), (oa (a 11) cI 201 mn), (oa (a 12) cI 8040 cx), (oa (a 13) cI 8040 cy), (oa (a 32) cI 8 S1), (oa (a 50) cZ 201 mk1), (oa (a 37) cZ 201 mt1), (oa (a 51) cI 402 jx1), (oa (a 52) cI 402 jy1), (oa (a 53) cI 402 gr1)] H → va_D A [(om k0 a (upd I0 54 (nI pcn)) J0), (oa (a 5) cI 201 st), (oa (a 6) cZ 201 tn), (oa (a 1) cI 201 kd), (oa (a 2) cI 201 rk), (oa (a 11) cI 201 mn), (oa (a 12) cI 8040 cx), (oa (a 13) cI 8040 cy), (oa (a 32) cI 8 S1), (oa (a 50) cZ 201 mk1), (oa (a 37) cZ 201 mt1), (oa (a 51) cI 402 jx1), (oa (a 52) cI 402 jy1), (oa (a 53) cI 402 gr1)] → va_S A s.heap H locs → lv_has ls 7 [(1, .int (nI r9)), (0, .ref k0)] → W p l e ({ frames := 3, cells := 0, slots := 0, locals := 70 } : Room) s m ([.ref k0] : List Value).toArray below meth c H locs 0 0 Q9 (F0 m 49 ls []) := by
          intro n9
          induction n9 with
          | zero => intro r9 pcn D mt1 mk1 jx1 jy1 gr1 S1 H locs ls hm; exact absurd hm (Nat.not_lt_zero _)
          | succ n9 ih_49 =>
            intro r9 pcn D mt1 mk1 jx1 jy1 gr1 S1 H locs ls hm hr9 hDD hDc hmt hmk hcI hpn hP hD hS hl
            refine lv_iload_n hx hb dX11_choose_49 rfl (lv_at hl 0 rfl) ?_
            refine lv_aload_n hx hb dX11_choose_50 rfl (lv_at hl 1 rfl) ?_
            refine va_get (D := (dC, dI)) (ci := 9) (v := .int (I0 0)) (C := RX11) (T := TX11) (N := 55) hx hb hts inX11 hown hK hP 0 rfl rfl 0 (Nat.le_of_ble_eq_true rfl) (hts _ mw_1159) (fun _ h9 => h9) rfl dX11_choose_51 ?_
            refine zz_i (v := nI ft) (hft) ?_
            have b9_5 : zlt (r9) := show r9 < 2147483648 by omega
            refine lv_icmp_ge (tgt := 259) hx hb dX11_choose_54 rfl (fun c_4 => ?_) (fun c_4 => ?_)
            · have c_4 : ((ft : Nat) : Int) ≤ ((r9 : Nat) : Int) := zc_le (nI_toInt b9_3) (nI_toInt b9_5) c_4
              have hall : ∀ j, j < ft → (rdF ft st tn kd) j → D j := (by first | exact (fun j hj _ => cntP_all (by omega) j hj) | exact fun j hj hR => (bst_no hat (by omega) (by omega) j (by omega)).resolve_left (fun h => h hR))
              have hmkF : ∀ j, j < ft → mk1 j = pI ((chM (rdF ft st tn kd) (chW rk mn cx cy) (chB cx cy) (chL mn cx cy)) j) := fun j hj => (by rw [hmk j hj]; exact zp_iff ⟨fun h => h.2, fun h => ⟨hall j hj h.1, h⟩⟩)
              refine lv_aload_n hx hb dX11_choose_259 rfl (lv_at hl 1 rfl) ?_
              refine lv_bipush (v := 9) hx hb dX11_choose_260 rfl ?_
              obtain ⟨hPc, hDc, hFc⟩ := zo_sub (wc := [_, _]) hP hD hS hA [0, 9] rfl rfl
              refine zcall (st1 := [.int (-1)]) (va_runV (As := [.int 9]) (rest := []) ⟨hx, hb, hml, hown, hts⟩ (k_M_dropMarked_r l dC dI cI cZ cF H.size k0 a (upd I0 54 (nI pcn)) J0 9 ft mk1 (chM (rdF ft st tn kd) (chW rk mn cx cy) (chB cx cy) (chL mn cx cy)) (hft) (by first | with_reducible assumption | omega) (hmkF) (hz)) (csV_219 hts rfl rfl ⟨Nat.le_of_ble_eq_true rfl, Nat.le_of_ble_eq_true rfl⟩) (zPV2 (q0 := 0) (ci := 9) hPc hDc hK hXN rfl rfl) rfl rfl hl.1 rfl (lv_room (Nat.le_of_ble_eq_true rfl)) dX11_choose_262 ⟨Nat.le_of_ble_eq_true rfl, Nat.le_of_ble_eq_true rfl⟩) hS hFc hFc rfl (fun t H locs ht hB hk1 hS => ?_)
              obtain ⟨hP1, hD1⟩ := hB
              rw [ht] at hP1
              obtain ⟨hP, hD⟩ := zn (W2 := [(om k0 a (upd (upd (upd I0 14 8) 15 (I0 15)) 54 (nI pcn)) J0), _, _, _, _, _, _, _, _, _, _, _, _, _]) hP hD hk1 hFc hP1 hD1 [0, 9] zl_259 zl_259 [0, 9] (by decide +kernel) rfl rfl rfl rfl rfl
              clear hk1 hPc hDc hFc hP1 hD1 ht
              obtain ⟨hP9, hD9⟩ := zu_sub (wc := [_, _, _, _, _, _, _, _, _, _, _, _, _, _]) hP hD [true, true, true, true, true, true, true, true, true, true, true, true, true, true] rfl rfl
              rw [hQ9]
              exact W.iret (v := (-1)) hx hb hr (fun t ht hW => ⟨⟨rfl, pcn, S1, mk1, mt1, jx1, jy1, gr1, by rw [ht]; exact hP9, hD9⟩, hS.F ht⟩) hS.2.2 dX11_choose_265
            · have c_4 : ((r9 : Nat) : Int) < ((ft : Nat) : Int) := zc_nle (nI_toInt b9_3) (nI_toInt b9_5) c_4
              refine lv_iconst (v := (-1)) hx hb dX11_choose_57 rfl ?_
              refine lv_istore_n (lv' := [(2, .int (-1)), (1, .int (nI r9)), (0, .ref k0)]) hx hb dX11_choose_58 rfl hl (Nat.le_of_ble_eq_true rfl) rfl (fun ls hl => ?_)
              refine lv_iconst (v := 0) hx hb dX11_choose_59 rfl ?_
              refine lv_istore_n (lv' := [(3, .int 0), (2, .int (-1)), (1, .int (nI r9)), (0, .ref k0)]) hx hb dX11_choose_60 rfl hl (Nat.le_of_ble_eq_true rfl) rfl (fun ls hl => ?_)
              have hl_61 : ∀ (n9 : Nat) (q : Nat) (zb : Int32) (S2 : Nat → Int32) (H : Heap) (locs : List Loc) (ls : Array Slot), ft - q < n9 → (q ≤ ft) → (bstS (chW rk mn cx cy) (fun j => ¬ (rdF ft st tn kd) j ∨ D j) q zb) → va_P (dC, dI) classes [(om k0 a (upd I0 54 (nI pcn)) J0), (oa (a 5) cI 201 st), (oa (a 6) cZ 201 tn), (oa (a 1) cI 201 kd), (oa (a 2) cI 201 rk), (oa (a 11) cI 201 mn), (oa (a 12) cI 8040 cx), (oa (a 13) cI 8040 cy), (oa (a 32) cI 8 S2), (oa (a 50) cZ 201 mk1), (oa (a 37) cZ 201 mt1), (oa (a 51) cI 402 jx1), (oa (a 52) cI 402 jy1), (oa (a 53) cI 402 gr1)] H → va_D A [(om k0 a (upd I0 54 (nI pcn)) J0), (oa (a 5) cI 201 st), (oa (a 6) cZ 201 tn), (oa (a 1) cI 201 kd), (oa (a 2) cI 201 rk), (oa (a 11) cI 201 mn), (oa (a 12) cI 8040 cx), (oa (a 13) cI 8040 cy), (oa (a 32) cI 8 S2), (oa (a 50) cZ 201 mk1), (oa (a 37) cZ 201 mt1), (oa (a 51) cI 402 jx1), (oa (a 52) cI 402 jy1), (oa (a 53) cI 402 gr1)] → va_S A s.heap H locs → lv_has ls 7 [(3, .int (nI q)), (2, .int zb), (1, .int (nI r9)), (0, .ref k0)] → W p l e ({ frames := 3, cells := 0, slots := 0, locals := 70 } : Room) s m ([.ref k0] : List Value).toArray below meth c H locs 0 0 Q9 (F0 m 61 ls []) := by
                intro n9
                induction n9 with
                | zero => intro q zb S2 H locs ls hm; exact absurd hm (Nat.not_lt_zero _)
                | succ n9 ih_61 =>
                  intro q zb S2 H locs ls hm hq hat hP hD hS hl
                  refine lv_iload_n hx hb dX11_choose_61 rfl (lv_at hl 0 rfl) ?_
                  refine lv_aload_n hx hb dX11_choose_62 rfl (lv_at hl 3 rfl) ?_
                  refine va_get (D := (dC, dI)) (ci := 9) (v := .int (I0 0)) (C := RX11) (T := TX11) (N := 55) hx hb hts inX11 hown hK hP 0 rfl rfl 0 (Nat.le_of_ble_eq_true rfl) (hts _ mw_1159) (fun _ h9 => h9) rfl dX11_choose_63 ?_
                  refine zz_i (v := nI ft) (hft) ?_
                  have b9_7 : zlt (q) := show q < 2147483648 by omega
                  refine lv_icmp_ge (tgt := 105) hx hb dX11_choose_66 rfl (fun c_6 => ?_) (fun c_6 => ?_)
                  · have c_6 : ((ft : Nat) : Int) ≤ ((q : Nat) : Int) := zc_le (nI_toInt b9_3) (nI_toInt b9_7) c_6
                    refine lv_iload_n hx hb dX11_choose_105 rfl (lv_at hl 1 rfl) ?_
                    refine lv_iconst (v := (-1)) hx hb dX11_choose_106 rfl ?_
                    refine lv_icmp_ne (tgt := 113) hx hb dX11_choose_107 rfl (fun c_8 => ?_) (fun c_8 => ?_)
                    · have c_8 : ¬ zb.toInt = (-1) := zc_ne rfl rfl c_8
                      have hqf : q = ft := (by omega)
                      rw [hqf] at hat
                      obtain ⟨b9, hz9, hbk, hbF, hbm⟩ := bst_get hat (by omega)
                      have hRq_b9 : (rdF ft st tn kd) b9 := (Classical.byContradiction fun h => hbF (Or.inl h))
                      have hw_b9 := hwf b9 hRq_b9.1
                      have hn_b9 := hw_b9.2.1
                      have hk_b9 := hrk b9 hRq_b9.1
                      have hc_b9 := chW_b hk_b9 hw_b9
                      have hDb : ¬ D b9 := fun h => hbF (Or.inr h)
                      have hds := chD_s hDD (ft := ft) (fun q h => h.1.1) hRq_b9 hDb (fun j hj hR hn => hbm j hj (fun h => h.elim (fun h => h hR) hn))
                      refine lv_aload_n hx hb dX11_choose_113 rfl (lv_at hl 3 rfl) ?_
                      refine va_get (D := (dC, dI)) (ci := 9) (v := .ref (a 37)) (C := RX11) (T := TX11) (N := 55) hx hb hts inX11 hown hK hP 0 rfl rfl 37 (Nat.le_of_ble_eq_true rfl) (hts _ mw_1196) (fun _ h9 => h9) rfl dX11_choose_114 ?_
                      refine lv_iload_n hx hb dX11_choose_117 rfl (lv_at hl 1 rfl) ?_
                      refine zz_i (v := nI b9) (hz9) ?_
                      refine lv_iconst (v := 1) hx hb dX11_choose_118 rfl ?_
                      have b9_9 : b9 < 201 := by omega
                      refine z_zast hx hb hK hP hD hS 10 1 rfl rfl (e := b9) (x := 1) rfl b9_9 (Nat.le_of_ble_eq_true rfl) (by decide) dX11_choose_119 (fun H locs hP hD hS => ?_)
                      obtain ⟨hP, hD⟩ := zre (W2 := [_, _, _, _, _, _, _, _, _, _, (oa (a 37) cZ 201 (upd mt1 b9 1)), _, _, _]) hP hD rfl
                      refine lv_aload_n hx hb dX11_choose_120 rfl (lv_at hl 3 rfl) ?_
                      refine va_get (D := (dC, dI)) (ci := 9) (v := .ref (a 53)) (C := RX11) (T := TX11) (N := 55) hx hb hts inX11 hown hK hP 0 rfl rfl 53 (Nat.le_of_ble_eq_true rfl) (hts _ mw_1212) (fun _ h9 => h9) rfl dX11_choose_121 ?_
                      refine lv_aload_n hx hb dX11_choose_124 rfl (lv_at hl 3 rfl) ?_
                      refine lv_aload_n hx hb dX11_choose_125 rfl (lv_at hl 3 rfl) ?_
                      refine va_get (D := (dC, dI)) (ci := 9) (v := .ref (a 12)) (C := RX11) (T := TX11) (N := 55) hx hb hts inX11 hown hK hP 0 rfl rfl 12 (Nat.le_of_ble_eq_true rfl) (hts _ mw_1171) (fun _ h9 => h9) rfl dX11_choose_126 ?_
                      refine lv_bipush (v := 40) hx hb dX11_choose_129 rfl ?_
                      refine lv_iload_n hx hb dX11_choose_131 rfl (lv_at hl 1 rfl) ?_
                      refine zz_i (v := nI b9) (hz9) ?_
                      refine lv_imul hx hb dX11_choose_132 ?_
                      refine zz_i (v := nI (40 * b9)) (pk_mul 40 b9) ?_
                      have b9_10 : 40 * b9 < 8040 := by omega
                      refine z_iald hx hb hK hP 6 0 rfl rfl (e := 40 * b9) rfl b9_10 (Nat.le_of_ble_eq_true rfl) dX11_choose_133 ?_
                      refine lv_aload_n hx hb dX11_choose_134 rfl (lv_at hl 3 rfl) ?_
                      refine va_get (D := (dC, dI)) (ci := 9) (v := .ref (a 13)) (C := RX11) (T := TX11) (N := 55) hx hb hts inX11 hown hK hP 0 rfl rfl 13 (Nat.le_of_ble_eq_true rfl) (hts _ mw_1172) (fun _ h9 => h9) rfl dX11_choose_135 ?_
                      refine lv_bipush (v := 40) hx hb dX11_choose_138 rfl ?_
                      refine lv_iload_n hx hb dX11_choose_140 rfl (lv_at hl 1 rfl) ?_
                      refine zz_i (v := nI b9) (hz9) ?_
                      refine lv_imul hx hb dX11_choose_141 ?_
                      refine zz_i (v := nI (40 * b9)) (pk_mul 40 b9) ?_
                      refine z_iald hx hb hK hP 7 0 rfl rfl (e := 40 * b9) rfl b9_10 (Nat.le_of_ble_eq_true rfl) dX11_choose_142 ?_
                      obtain ⟨hPc, hDc, hFc⟩ := zo_sub (wc := [_, _, _, _]) hP hD hS hA [0, 11, 12, 13] (by decide +kernel) rfl
                      refine zcalle (va_runV (As := [.int (cx (40 * b9)), .int (cy (40 * b9))]) (rest := [.ref (a 53)]) ⟨hx, hb, hml, hown, hts⟩ (k_M_placeOf_u l dC dI cI cZ cF H.size k0 a (upd I0 54 (nI pcn)) J0 (cx (40 * b9)) (cy (40 * b9)) pcn jx1 jy1 gr1 (by first | with_reducible assumption | omega)) (csV_227 hts rfl rfl ⟨Nat.le_of_ble_eq_true rfl, Nat.le_of_ble_eq_true rfl⟩) (zPV2 (q0 := 0) (ci := 9) hPc hDc hK hXN rfl rfl) rfl rfl hl.1 rfl (lv_room (Nat.le_of_ble_eq_true rfl)) dX11_choose_143 ⟨Nat.le_of_ble_eq_true rfl, Nat.le_of_ble_eq_true rfl⟩) hS hFc hFc (fun v9 t H locs ht hB hk1 hS => ?_)
                      obtain ⟨pcA, iA, jxA, jyA, grA, rfl, hA1, hA2, hA3, hA4, hP1, hD1⟩ := hB
                      refine W.eq (g2 := F0 m 146 ls [.int (nI iA), .ref (a 53)]) rfl ?_
                      rw [ht] at hP1
                      obtain ⟨hP, hD⟩ := zn (W2 := [(om k0 a (upd I0 54 (nI pcA)) J0), _, _, _, _, _, _, _, _, _, _, (oa (a 51) cI 402 jxA), (oa (a 52) cI 402 jyA), (oa (a 53) cI 402 grA)]) hP hD hk1 hFc hP1 hD1 [0, 11, 12, 13] zl_260 zl_261 [0, 11, 12, 13] (by decide +kernel) rfl rfl rfl rfl rfl
                      clear hk1 hPc hDc hFc hP1 hD1 ht
                      have b9_11 : iA < 402 := by omega
                      refine z_iald hx hb hK hP 13 0 rfl rfl (e := iA) rfl b9_11 (Nat.le_of_ble_eq_true rfl) dX11_choose_146 ?_
                      refine lv_istore_n (lv' := [(3, .int (grA iA)), (2, .int zb), (1, .int (nI r9)), (0, .ref k0)]) hx hb dX11_choose_147 rfl hl (Nat.le_of_ble_eq_true rfl) rfl (fun ls hl => ?_)
                      refine lv_bipush (v := 40) hx hb dX11_choose_148 rfl ?_
                      refine lv_iload_n hx hb dX11_choose_150 rfl (lv_at hl 1 rfl) ?_
                      refine zz_i (v := nI b9) (hz9) ?_
                      refine lv_imul hx hb dX11_choose_151 ?_
                      refine zz_i (v := nI (40 * b9)) (pk_mul 40 b9) ?_
                      refine lv_aload_n hx hb dX11_choose_152 rfl (lv_at hl 3 rfl) ?_
                      refine va_get (D := (dC, dI)) (ci := 9) (v := .ref (a 11)) (C := RX11) (T := TX11) (N := 55) hx hb hts inX11 hown hK hP 0 rfl rfl 11 (Nat.le_of_ble_eq_true rfl) (hts _ mw_1170) (fun _ h9 => h9) rfl dX11_choose_153 ?_
                      refine lv_iload_n hx hb dX11_choose_156 rfl (lv_at hl 1 rfl) ?_
                      refine zz_i (v := nI b9) (hz9) ?_
                      refine z_iald hx hb hK hP 5 0 rfl rfl (e := b9) rfl b9_9 (Nat.le_of_ble_eq_true rfl) dX11_choose_157 ?_
                      refine zz_i (v := nI (nN (mn b9))) (hw_b9.1) ?_
                      refine lv_iadd hx hb dX11_choose_158 ?_
                      refine zz_i (v := nI (40 * b9 + (nN (mn b9)))) (nI_add (40 * b9) (nN (mn b9))) ?_
                      refine lv_iconst (v := 1) hx hb dX11_choose_159 rfl ?_
                      refine lv_isub hx hb dX11_choose_160 ?_
                      refine zz_i (v := nI ((40 * b9 + (nN (mn b9))) - 1)) (pk_sub (a := 40 * b9 + (nN (mn b9))) (b := 1) (by omega)) ?_
                      refine lv_istore (lv' := [(4, .int (nI ((40 * b9 + (nN (mn b9))) - 1))), (3, .int (grA iA)), (2, .int zb), (1, .int (nI r9)), (0, .ref k0)]) hx hb dX11_choose_161 hl (Nat.le_of_ble_eq_true rfl) rfl (fun ls hl => ?_)
                      refine lv_aload_n hx hb dX11_choose_163 rfl (lv_at hl 4 rfl) ?_
                      refine va_get (D := (dC, dI)) (ci := 9) (v := .ref (a 53)) (C := RX11) (T := TX11) (N := 55) hx hb hts inX11 hown hK hP 0 rfl rfl 53 (Nat.le_of_ble_eq_true rfl) (hts _ mw_1212) (fun _ h9 => h9) rfl dX11_choose_164 ?_
                      refine lv_aload_n hx hb dX11_choose_167 rfl (lv_at hl 4 rfl) ?_
                      refine lv_aload_n hx hb dX11_choose_168 rfl (lv_at hl 4 rfl) ?_
                      refine va_get (D := (dC, dI)) (ci := 9) (v := .ref (a 12)) (C := RX11) (T := TX11) (N := 55) hx hb hts inX11 hown hK hP 0 rfl rfl 12 (Nat.le_of_ble_eq_true rfl) (hts _ mw_1171) (fun _ h9 => h9) rfl dX11_choose_169 ?_
                      refine lv_iload hx hb dX11_choose_172 (lv_at hl 0 rfl) ?_
                      have b9_12 : (40 * b9 + (nN (mn b9))) - 1 < 8040 := by omega
                      refine z_iald hx hb hK hP 6 0 rfl rfl (e := (40 * b9 + (nN (mn b9))) - 1) rfl b9_12 (Nat.le_of_ble_eq_true rfl) dX11_choose_174 ?_
                      refine lv_aload_n hx hb dX11_choose_175 rfl (lv_at hl 4 rfl) ?_
                      refine va_get (D := (dC, dI)) (ci := 9) (v := .ref (a 13)) (C := RX11) (T := TX11) (N := 55) hx hb hts inX11 hown hK hP 0 rfl rfl 13 (Nat.le_of_ble_eq_true rfl) (hts _ mw_1172) (fun _ h9 => h9) rfl dX11_choose_176 ?_
                      refine lv_iload hx hb dX11_choose_179 (lv_at hl 0 rfl) ?_
                      refine z_iald hx hb hK hP 7 0 rfl rfl (e := (40 * b9 + (nN (mn b9))) - 1) rfl b9_12 (Nat.le_of_ble_eq_true rfl) dX11_choose_181 ?_
                      obtain ⟨hPc, hDc, hFc⟩ := zo_sub (wc := [_, _, _, _]) hP hD hS hA [0, 11, 12, 13] (by decide +kernel) rfl
                      refine zcalle (va_runV (As := [.int (cx ((40 * b9 + (nN (mn b9))) - 1)), .int (cy ((40 * b9 + (nN (mn b9))) - 1))]) (rest := [.ref (a 53)]) ⟨hx, hb, hml, hown, hts⟩ (k_M_placeOf_u l dC dI cI cZ cF H.size k0 a (upd I0 54 (nI pcA)) J0 (cx ((40 * b9 + (nN (mn b9))) - 1)) (cy ((40 * b9 + (nN (mn b9))) - 1)) pcA jxA jyA grA (by first | with_reducible assumption | omega)) (csV_227 hts rfl rfl ⟨Nat.le_of_ble_eq_true rfl, Nat.le_of_ble_eq_true rfl⟩) (zPV2 (q0 := 0) (ci := 9) hPc hDc hK hXN rfl rfl) rfl rfl hl.1 rfl (lv_room (Nat.le_of_ble_eq_true rfl)) dX11_choose_182 ⟨Nat.le_of_ble_eq_true rfl, Nat.le_of_ble_eq_true rfl⟩) hS hFc hFc (fun v9 t H locs ht hB hk1 hS => ?_)
                      obtain ⟨pcB, iB, jxB, jyB, grB, rfl, hB1, hB2, hB3, hB4, hP1, hD1⟩ := hB
                      refine W.eq (g2 := F0 m 185 ls [.int (nI iB), .ref (a 53)]) rfl ?_
                      rw [ht] at hP1
                      obtain ⟨hP, hD⟩ := zn (W2 := [(om k0 a (upd I0 54 (nI pcB)) J0), _, _, _, _, _, _, _, _, _, _, (oa (a 51) cI 402 jxB), (oa (a 52) cI 402 jyB), (oa (a 53) cI 402 grB)]) hP hD hk1 hFc hP1 hD1 [0, 11, 12, 13] zl_260 zl_261 [0, 11, 12, 13] (by decide +kernel) rfl rfl rfl rfl rfl
                      clear hk1 hPc hDc hFc hP1 hD1 ht
                      have b9_13 : iB < 402 := by omega
                      refine z_iald hx hb hK hP 13 0 rfl rfl (e := iB) rfl b9_13 (Nat.le_of_ble_eq_true rfl) dX11_choose_185 ?_
                      refine lv_istore (lv' := [(5, .int (grB iB)), (4, .int (nI ((40 * b9 + (nN (mn b9))) - 1))), (3, .int (grA iA)), (2, .int zb), (1, .int (nI r9)), (0, .ref k0)]) hx hb dX11_choose_186 hl (Nat.le_of_ble_eq_true rfl) rfl (fun ls hl => ?_)
                      have hcA := chI_ad hcI (by omega) hA2 hA3 hA4
                      have hcB := chI_ad hcA (by omega) hB2 hB3 hB4
                      have hgA : grB iA = grA iA := (hB3 iA hA1.1).2.2
                      have hiA : iA < pcB := (by omega)
                      have eA : (fun i => (jxB i, jyB i)) iA = (chB cx cy) b9 := (by show (jxB iA, jyB iA) = _; rw [(hB3 iA hA1.1).1, (hB3 iA hA1.1).2.1]; exact hA2)
                      have hmq := chQ hRq_b9 hds.2 hcB hiA hB1.1 eA hB2
                      rw [hgA] at hmq
                      refine lv_aload_n hx hb dX11_choose_188 rfl (lv_at hl 5 rfl) ?_
                      refine va_get (D := (dC, dI)) (ci := 9) (v := .ref (a 50)) (C := RX11) (T := TX11) (N := 55) hx hb hts inX11 hown hK hP 0 rfl rfl 50 (Nat.le_of_ble_eq_true rfl) (hts _ mw_1209) (fun _ h9 => h9) rfl dX11_choose_189 ?_
                      refine lv_iload_n hx hb dX11_choose_192 rfl (lv_at hl 3 rfl) ?_
                      refine zz_i (v := nI b9) (hz9) ?_
                      refine lv_iload_n hx hb dX11_choose_193 rfl (lv_at hl 2 rfl) ?_
                      refine lv_iload hx hb dX11_choose_194 (lv_at hl 0 rfl) ?_
                      have hj_14 : W p l e ({ frames := 3, cells := 0, slots := 0, locals := 70 } : Room) s m ([.ref k0] : List Value).toArray below meth c H locs 0 0 Q9 (F0 m 204 ls [.int (pI ((chM (rdF ft st tn kd) (chW rk mn cx cy) (chB cx cy) (chL mn cx cy)) b9)), .int (nI b9), .ref (a 50)]) := by
                        refine z_zast hx hb hK hP hD hS 9 1 rfl rfl (e := b9) (x := pI ((chM (rdF ft st tn kd) (chW rk mn cx cy) (chB cx cy) (chL mn cx cy)) b9)) rfl b9_9 (Nat.le_of_ble_eq_true rfl) (zp_and _) dX11_choose_204 (fun H locs hP hD hS => ?_)
                        obtain ⟨hP, hD⟩ := zre (W2 := [_, _, _, _, _, _, _, _, _, (oa (a 50) cZ 201 (upd mk1 b9 (pI ((chM (rdF ft st tn kd) (chW rk mn cx cy) (chB cx cy) (chL mn cx cy)) b9)))), _, _, _, _]) hP hD rfl
                        refine lv_iconst (v := 0) hx hb dX11_choose_205 rfl ?_
                        refine lv_istore (lv' := [(6, .int 0), (5, .int (grB iB)), (4, .int (nI ((40 * b9 + (nN (mn b9))) - 1))), (3, .int (grA iA)), (2, .int zb), (1, .int (nI r9)), (0, .ref k0)]) hx hb dX11_choose_206 hl (Nat.le_of_ble_eq_true rfl) rfl (fun ls hl => ?_)
                        have hl_208 : ∀ (n9 : Nat) (k : Nat) (gr2 : Nat → Int32) (H : Heap) (locs : List Loc) (ls : Array Slot), pcB - k < n9 → (k ≤ pcB) → (∀ j, j < k → gr2 j = if grB j = grB iB then grA iA else grB j) → (∀ j, k ≤ j → gr2 j = grB j) → va_P (dC, dI) classes [(om k0 a (upd I0 54 (nI pcB)) J0), (oa (a 5) cI 201 st), (oa (a 6) cZ 201 tn), (oa (a 1) cI 201 kd), (oa (a 2) cI 201 rk), (oa (a 11) cI 201 mn), (oa (a 12) cI 8040 cx), (oa (a 13) cI 8040 cy), (oa (a 32) cI 8 S2), (oa (a 50) cZ 201 (upd mk1 b9 (pI ((chM (rdF ft st tn kd) (chW rk mn cx cy) (chB cx cy) (chL mn cx cy)) b9)))), (oa (a 37) cZ 201 (upd mt1 b9 1)), (oa (a 51) cI 402 jxB), (oa (a 52) cI 402 jyB), (oa (a 53) cI 402 gr2)] H → va_D A [(om k0 a (upd I0 54 (nI pcB)) J0), (oa (a 5) cI 201 st), (oa (a 6) cZ 201 tn), (oa (a 1) cI 201 kd), (oa (a 2) cI 201 rk), (oa (a 11) cI 201 mn), (oa (a 12) cI 8040 cx), (oa (a 13) cI 8040 cy), (oa (a 32) cI 8 S2), (oa (a 50) cZ 201 (upd mk1 b9 (pI ((chM (rdF ft st tn kd) (chW rk mn cx cy) (chB cx cy) (chL mn cx cy)) b9)))), (oa (a 37) cZ 201 (upd mt1 b9 1)), (oa (a 51) cI 402 jxB), (oa (a 52) cI 402 jyB), (oa (a 53) cI 402 gr2)] → va_S A s.heap H locs → lv_has ls 7 [(6, .int (nI k)), (5, .int (grB iB)), (4, .int (nI ((40 * b9 + (nN (mn b9))) - 1))), (3, .int (grA iA)), (2, .int zb), (1, .int (nI r9)), (0, .ref k0)] → W p l e ({ frames := 3, cells := 0, slots := 0, locals := 70 } : Room) s m ([.ref k0] : List Value).toArray below meth c H locs 0 0 Q9 (F0 m 208 ls []) := by
                          intro n9
                          induction n9 with
                          | zero => intro k gr2 H locs ls hm; exact absurd hm (Nat.not_lt_zero _)
                          | succ n9 ih_208 =>
                            intro k gr2 H locs ls hm hk9 hg1 hg2 hP hD hS hl
                            refine lv_iload hx hb dX11_choose_208 (lv_at hl 0 rfl) ?_
                            refine lv_aload_n hx hb dX11_choose_210 rfl (lv_at hl 6 rfl) ?_
                            refine va_get (D := (dC, dI)) (ci := 9) (v := .int (nI pcB)) (C := RX11) (T := TX11) (N := 55) hx hb hts inX11 hown hK hP 0 rfl rfl 54 (Nat.le_of_ble_eq_true rfl) (hts _ mw_1213) (fun _ h9 => h9) rfl dX11_choose_211 ?_
                            have b9_16 : zlt (k) := show k < 2147483648 by omega
                            have b9_17 : zlt (pcB) := show pcB < 2147483648 by omega
                            refine lv_icmp_ge (tgt := 253) hx hb dX11_choose_214 rfl (fun c_15 => ?_) (fun c_15 => ?_)
                            · have c_15 : ((pcB : Nat) : Int) ≤ ((k : Nat) : Int) := zc_le (nI_toInt b9_17) (nI_toInt b9_16) c_15
                              refine lv_iinc (v := nI (r9 + 1)) (lv' := [(1, .int (nI (r9 + 1))), (6, .int (nI k)), (5, .int (grB iB)), (4, .int (nI ((40 * b9 + (nN (mn b9))) - 1))), (3, .int (grA iA)), (2, .int zb), (0, .ref k0)]) hx hb dX11_choose_253 hl (k := 5) rfl (nI_add r9 1) (Nat.le_of_ble_eq_true rfl) rfl (fun ls hl => ?_)
                              refine lv_goto (tgt := 49) hx hb dX11_choose_256 rfl ?_
                              exact ih_49 (r9 + 1) pcB (fun j => D j ∨ j = b9) (upd mt1 b9 1) (upd mk1 b9 (pI ((chM (rdF ft st tn kd) (chW rk mn cx cy) (chB cx cy) (chL mn cx cy)) b9))) jxB jyB gr2 S2 H locs ls (by first | with_reducible assumption | omega) (by first | with_reducible assumption | omega) (hds.1) (Nat.lt_of_le_of_lt hDc (cntP_lt (fun j h => Or.inl h) hbk (Or.inr rfl) hDb)) (chT_s hmt) (chK_s hmk) (chI_un hcB hiA hB1.1 eA hB2 (fun k9 h9 => by rw [hgA]; exact hg1 k9 (by first | with_reducible assumption | omega))) (by first | with_reducible assumption | omega) hP hD hS (lv_sub hl [0, 6] rfl)
                            · have c_15 : ((k : Nat) : Int) < ((pcB : Nat) : Int) := zc_nle (nI_toInt b9_17) (nI_toInt b9_16) c_15
                              refine lv_aload_n hx hb dX11_choose_217 rfl (lv_at hl 6 rfl) ?_
                              refine va_get (D := (dC, dI)) (ci := 9) (v := .ref (a 53)) (C := RX11) (T := TX11) (N := 55) hx hb hts inX11 hown hK hP 0 rfl rfl 53 (Nat.le_of_ble_eq_true rfl) (hts _ mw_1212) (fun _ h9 => h9) rfl dX11_choose_218 ?_
                              refine lv_iload hx hb dX11_choose_221 (lv_at hl 0 rfl) ?_
                              refine lv_aload_n hx hb dX11_choose_223 rfl (lv_at hl 6 rfl) ?_
                              refine va_get (D := (dC, dI)) (ci := 9) (v := .ref (a 53)) (C := RX11) (T := TX11) (N := 55) hx hb hts inX11 hown hK hP 0 rfl rfl 53 (Nat.le_of_ble_eq_true rfl) (hts _ mw_1212) (fun _ h9 => h9) rfl dX11_choose_224 ?_
                              refine lv_iload hx hb dX11_choose_227 (lv_at hl 0 rfl) ?_
                              have b9_18 : k < 402 := by omega
                              refine z_iald hx hb hK hP 13 0 rfl rfl (e := k) rfl b9_18 (Nat.le_of_ble_eq_true rfl) dX11_choose_229 ?_
                              refine lv_iload hx hb dX11_choose_230 (lv_at hl 1 rfl) ?_
                              refine lv_icmp_ne (tgt := 239) hx hb dX11_choose_232 rfl (fun c_19 => ?_) (fun c_19 => ?_)
                              · have c_19 : ¬ (gr2 k).toInt = (grB iB).toInt := zc_ne rfl rfl c_19
                                refine lv_aload_n hx hb dX11_choose_239 rfl (lv_at hl 6 rfl) ?_
                                refine va_get (D := (dC, dI)) (ci := 9) (v := .ref (a 53)) (C := RX11) (T := TX11) (N := 55) hx hb hts inX11 hown hK hP 0 rfl rfl 53 (Nat.le_of_ble_eq_true rfl) (hts _ mw_1212) (fun _ h9 => h9) rfl dX11_choose_240 ?_
                                refine lv_iload hx hb dX11_choose_243 (lv_at hl 0 rfl) ?_
                                refine z_iald hx hb hK hP 13 0 rfl rfl (e := k) rfl b9_18 (Nat.le_of_ble_eq_true rfl) dX11_choose_245 ?_
                                refine z_iast hx hb hK hP hD hS 13 0 rfl rfl (e := k) (x := gr2 k) rfl b9_18 (Nat.le_of_ble_eq_true rfl) dX11_choose_246 (fun H locs hP hD hS => ?_)
                                obtain ⟨hP, hD⟩ := zre (W2 := [_, _, _, _, _, _, _, _, _, _, _, _, _, (oa (a 53) cI 402 (upd gr2 k (gr2 k)))]) hP hD rfl
                                refine lv_iinc (v := nI (k + 1)) (lv' := [(6, .int (nI (k + 1))), (5, .int (grB iB)), (4, .int (nI ((40 * b9 + (nN (mn b9))) - 1))), (3, .int (grA iA)), (2, .int zb), (1, .int (nI r9)), (0, .ref k0)]) hx hb dX11_choose_247 hl (k := 0) rfl (nI_add k 1) (Nat.le_of_ble_eq_true rfl) rfl (fun ls hl => ?_)
                                refine lv_goto (tgt := 208) hx hb dX11_choose_250 rfl ?_
                                exact ih_208 (k + 1) (upd gr2 k (gr2 k)) H locs ls (by first | with_reducible assumption | omega) (by first | with_reducible assumption | omega) (chG_s hg1 (hg2 k (Nat.le_refl _)) (by first | exact Or.inl ⟨by omega, rfl⟩ | exact Or.inr ⟨by omega, rfl⟩)) (fun j hj => by rw [show upd gr2 k _ j = gr2 j from if_neg (by first | with_reducible assumption | omega)]; exact hg2 j (by first | with_reducible assumption | omega)) hP hD hS (lv_sub hl [0, 1, 2, 3, 4, 5, 6] rfl)
                              · have c_19 : (gr2 k).toInt = (grB iB).toInt := zc_eq rfl rfl c_19
                                refine lv_iload_n hx hb dX11_choose_235 rfl (lv_at hl 3 rfl) ?_
                                refine lv_goto (tgt := 246) hx hb dX11_choose_236 rfl ?_
                                refine z_iast hx hb hK hP hD hS 13 0 rfl rfl (e := k) (x := grA iA) rfl b9_18 (Nat.le_of_ble_eq_true rfl) dX11_choose_246 (fun H locs hP hD hS => ?_)
                                obtain ⟨hP, hD⟩ := zre (W2 := [_, _, _, _, _, _, _, _, _, _, _, _, _, (oa (a 53) cI 402 (upd gr2 k (grA iA)))]) hP hD rfl
                                refine lv_iinc (v := nI (k + 1)) (lv' := [(6, .int (nI (k + 1))), (5, .int (grB iB)), (4, .int (nI ((40 * b9 + (nN (mn b9))) - 1))), (3, .int (grA iA)), (2, .int zb), (1, .int (nI r9)), (0, .ref k0)]) hx hb dX11_choose_247 hl (k := 0) rfl (nI_add k 1) (Nat.le_of_ble_eq_true rfl) rfl (fun ls hl => ?_)
                                refine lv_goto (tgt := 208) hx hb dX11_choose_250 rfl ?_
                                exact ih_208 (k + 1) (upd gr2 k (grA iA)) H locs ls (by first | with_reducible assumption | omega) (by first | with_reducible assumption | omega) (chG_s hg1 (hg2 k (Nat.le_refl _)) (by first | exact Or.inl ⟨by omega, rfl⟩ | exact Or.inr ⟨by omega, rfl⟩)) (fun j hj => by rw [show upd gr2 k _ j = gr2 j from if_neg (by first | with_reducible assumption | omega)]; exact hg2 j (by first | with_reducible assumption | omega)) hP hD hS (lv_sub hl [0, 1, 2, 3, 4, 5, 6] rfl)
                        exact hl_208 _ 0 grB H locs ls (Nat.lt_succ_self _) (by first | with_reducible assumption | omega) (by intro j hj; omega) (fun j hj => rfl) hP hD hS (lv_sub hl [0, 1, 2, 3, 4, 5, 6] rfl)
                      refine lv_icmp_ne (tgt := 203) hx hb dX11_choose_196 rfl (fun c_20 => ?_) (fun c_20 => ?_)
                      · have c_20 : ¬ (grA iA).toInt = (grB iB).toInt := zc_ne rfl rfl c_20
                        refine lv_iconst (v := 0) hx hb dX11_choose_203 rfl ?_
                        refine zz_i (v := pI ((chM (rdF ft st tn kd) (chW rk mn cx cy) (chB cx cy) (chL mn cx cy)) b9)) (by first | exact (zp_t (hmq.mpr (by omega))).symm | exact (zp_f (fun h => absurd (hmq.mp h) (by omega))).symm) ?_
                        exact hj_14 
                      · have c_20 : (grA iA).toInt = (grB iB).toInt := zc_eq rfl rfl c_20
                        refine lv_iconst (v := 1) hx hb dX11_choose_199 rfl ?_
                        refine lv_goto (tgt := 204) hx hb dX11_choose_200 rfl ?_
                        refine zz_i (v := pI ((chM (rdF ft st tn kd) (chW rk mn cx cy) (chB cx cy) (chL mn cx cy)) b9)) (by first | exact (zp_t (hmq.mpr (by omega))).symm | exact (zp_f (fun h => absurd (hmq.mp h) (by omega))).symm) ?_
                        exact hj_14 
                    · have c_8 : zb.toInt = (-1) := zc_eq rfl rfl c_8
                      refine lv_goto (tgt := 259) hx hb dX11_choose_110 rfl ?_
                      have hall : ∀ j, j < ft → (rdF ft st tn kd) j → D j := (by first | exact (fun j hj _ => cntP_all (by omega) j hj) | exact fun j hj hR => (bst_no hat (by omega) (by omega) j (by omega)).resolve_left (fun h => h hR))
                      have hmkF : ∀ j, j < ft → mk1 j = pI ((chM (rdF ft st tn kd) (chW rk mn cx cy) (chB cx cy) (chL mn cx cy)) j) := fun j hj => (by rw [hmk j hj]; exact zp_iff ⟨fun h => h.2, fun h => ⟨hall j hj h.1, h⟩⟩)
                      refine lv_aload_n hx hb dX11_choose_259 rfl (lv_at hl 3 rfl) ?_
                      refine lv_bipush (v := 9) hx hb dX11_choose_260 rfl ?_
                      obtain ⟨hPc, hDc, hFc⟩ := zo_sub (wc := [_, _]) hP hD hS hA [0, 9] rfl rfl
                      refine zcall (st1 := [.int (-1)]) (va_runV (As := [.int 9]) (rest := []) ⟨hx, hb, hml, hown, hts⟩ (k_M_dropMarked_r l dC dI cI cZ cF H.size k0 a (upd I0 54 (nI pcn)) J0 9 ft mk1 (chM (rdF ft st tn kd) (chW rk mn cx cy) (chB cx cy) (chL mn cx cy)) (hft) (by first | with_reducible assumption | omega) (hmkF) (hz)) (csV_219 hts rfl rfl ⟨Nat.le_of_ble_eq_true rfl, Nat.le_of_ble_eq_true rfl⟩) (zPV2 (q0 := 0) (ci := 9) hPc hDc hK hXN rfl rfl) rfl rfl hl.1 rfl (lv_room (Nat.le_of_ble_eq_true rfl)) dX11_choose_262 ⟨Nat.le_of_ble_eq_true rfl, Nat.le_of_ble_eq_true rfl⟩) hS hFc hFc rfl (fun t H locs ht hB hk1 hS => ?_)
                      obtain ⟨hP1, hD1⟩ := hB
                      rw [ht] at hP1
                      obtain ⟨hP, hD⟩ := zn (W2 := [(om k0 a (upd (upd (upd I0 14 8) 15 (I0 15)) 54 (nI pcn)) J0), _, _, _, _, _, _, _, _, _, _, _, _, _]) hP hD hk1 hFc hP1 hD1 [0, 9] zl_259 zl_259 [0, 9] (by decide +kernel) rfl rfl rfl rfl rfl
                      clear hk1 hPc hDc hFc hP1 hD1 ht
                      obtain ⟨hP9, hD9⟩ := zu_sub (wc := [_, _, _, _, _, _, _, _, _, _, _, _, _, _]) hP hD [true, true, true, true, true, true, true, true, true, true, true, true, true, true] rfl rfl
                      rw [hQ9]
                      exact W.iret (v := (-1)) hx hb hr (fun t ht hW => ⟨⟨rfl, pcn, S2, mk1, mt1, jx1, jy1, gr1, by rw [ht]; exact hP9, hD9⟩, hS.F ht⟩) hS.2.2 dX11_choose_265
                  · have c_6 : ((q : Nat) : Int) < ((ft : Nat) : Int) := zc_nle (nI_toInt b9_3) (nI_toInt b9_7) c_6
                    refine lv_aload_n hx hb dX11_choose_69 rfl (lv_at hl 3 rfl) ?_
                    refine va_get (D := (dC, dI)) (ci := 9) (v := .ref (a 37)) (C := RX11) (T := TX11) (N := 55) hx hb hts inX11 hown hK hP 0 rfl rfl 37 (Nat.le_of_ble_eq_true rfl) (hts _ mw_1196) (fun _ h9 => h9) rfl dX11_choose_70 ?_
                    refine lv_iload_n hx hb dX11_choose_73 rfl (lv_at hl 0 rfl) ?_
                    have b9_21 : q < 201 := by omega
                    refine z_zald hx hb hK hP 10 1 rfl rfl (e := q) rfl b9_21 (Nat.le_of_ble_eq_true rfl) dX11_choose_74 ?_
                    refine zz_i (v := pI (¬ (rdF ft st tn kd) q ∨ D q)) (hmt q (by omega)) ?_
                    refine lv_if_ne (tgt := 99) hx hb dX11_choose_75 rfl (fun c_22 => ?_) (fun c_22 => ?_)
                    · have c_22 : ¬ (rdF ft st tn kd) q ∨ D q := zp_1 c_22
                      refine lv_iinc (v := nI (q + 1)) (lv' := [(3, .int (nI (q + 1))), (2, .int zb), (1, .int (nI r9)), (0, .ref k0)]) hx hb dX11_choose_99 hl (k := 0) rfl (nI_add q 1) (Nat.le_of_ble_eq_true rfl) rfl (fun ls hl => ?_)
                      refine lv_goto (tgt := 61) hx hb dX11_choose_102 rfl ?_
                      exact ih_61 (q + 1) zb S2 H locs ls (by first | with_reducible assumption | omega) (by first | with_reducible assumption | omega) (by first | exact bst_f hat (by first | with_reducible assumption | assumption) | exact bst_n hat (by first | with_reducible assumption | omega) (by first | with_reducible assumption | omega) (by first | with_reducible assumption | assumption) | exact bst_l hz9 hbk hbF hbm (by first | with_reducible assumption | assumption) (by first | with_reducible assumption | omega) | exact bst_g hz9 hbk hbF hbm (by first | with_reducible assumption | omega)) hP hD hS (lv_sub hl [0, 1, 2, 3] rfl)
                    · have c_22 : ¬ (¬ (rdF ft st tn kd) q ∨ D q) := zp_0 c_22
                      refine lv_iload_n hx hb dX11_choose_78 rfl (lv_at hl 1 rfl) ?_
                      refine lv_iconst (v := (-1)) hx hb dX11_choose_79 rfl ?_
                      refine lv_icmp_eq (tgt := 97) hx hb dX11_choose_80 rfl (fun c_23 => ?_) (fun c_23 => ?_)
                      · have c_23 : zb.toInt = (-1) := zc_eq rfl rfl c_23
                        refine lv_iload_n hx hb dX11_choose_97 rfl (lv_at hl 0 rfl) ?_
                        refine lv_istore_n (lv' := [(2, .int (nI q)), (3, .int (nI q)), (1, .int (nI r9)), (0, .ref k0)]) hx hb dX11_choose_98 rfl hl (Nat.le_of_ble_eq_true rfl) rfl (fun ls hl => ?_)
                        refine lv_iinc (v := nI (q + 1)) (lv' := [(3, .int (nI (q + 1))), (2, .int (nI q)), (1, .int (nI r9)), (0, .ref k0)]) hx hb dX11_choose_99 hl (k := 1) rfl (nI_add q 1) (Nat.le_of_ble_eq_true rfl) rfl (fun ls hl => ?_)
                        refine lv_goto (tgt := 61) hx hb dX11_choose_102 rfl ?_
                        exact ih_61 (q + 1) (nI q) S2 H locs ls (by first | with_reducible assumption | omega) (by first | with_reducible assumption | omega) (by first | exact bst_f hat (by first | with_reducible assumption | assumption) | exact bst_n hat (by first | with_reducible assumption | omega) (by first | with_reducible assumption | omega) (by first | with_reducible assumption | assumption) | exact bst_l hz9 hbk hbF hbm (by first | with_reducible assumption | assumption) (by first | with_reducible assumption | omega) | exact bst_g hz9 hbk hbF hbm (by first | with_reducible assumption | omega)) hP hD hS (lv_sub hl [0, 1, 2, 3] rfl)
                      · have c_23 : ¬ zb.toInt = (-1) := zc_ne rfl rfl c_23
                        have hRq_q : (rdF ft st tn kd) q := (Classical.byContradiction fun h => (show ¬ (¬ (rdF ft st tn kd) q ∨ D q) by assumption) (Or.inl h))
                        have hw_q := hwf q hRq_q.1
                        have hn_q := hw_q.2.1
                        have hk_q := hrk q hRq_q.1
                        have hc_q := chW_b hk_q hw_q
                        refine lv_aload_n hx hb dX11_choose_83 rfl (lv_at hl 3 rfl) ?_
                        refine lv_iload_n hx hb dX11_choose_84 rfl (lv_at hl 0 rfl) ?_
                        obtain ⟨hPc, hDc, hFc⟩ := zo_sub (wc := [_, _, _, _, _, _]) hP hD hS hA [0, 4, 5, 6, 7, 8] (by decide +kernel) rfl
                        refine zcall (st1 := [.long (jI (((rk q).toInt + 1) * ((ln2 (cF40 cx q) (cF40 cy q) ((nN (mn q)) - 1) : Nat) : Int)))]) (va_runV (As := [.int (nI q)]) (rest := []) ⟨hx, hb, hml, hown, hts⟩ (k_M_weight l dC dI cI cZ cF H.size k0 a (upd I0 54 (nI pcn)) J0 q (nN (mn q)) rk mn cx cy S2 (by first | with_reducible assumption | omega) (hw_q.1) (hw_q.2.1) (hw_q.2.2) (hk_q)) (csV_228 hts rfl rfl ⟨Nat.le_of_ble_eq_true rfl, Nat.le_of_ble_eq_true rfl⟩) (zPV2 (q0 := 0) (ci := 9) hPc hDc hK hXN rfl rfl) rfl rfl hl.1 rfl (lv_room (Nat.le_of_ble_eq_true rfl)) dX11_choose_85 ⟨Nat.le_of_ble_eq_true rfl, Nat.le_of_ble_eq_true rfl⟩) hS hFc hFc rfl (fun t H locs ht hB hk1 hS => ?_)
                        obtain ⟨S3, hP1, hD1⟩ := hB
                        rw [ht] at hP1
                        obtain ⟨hP, hD⟩ := zn (W2 := [_, _, _, _, _, _, _, _, (oa (a 32) cI 8 S3), _, _, _, _, _]) hP hD hk1 hFc hP1 hD1 [0, 4, 5, 6, 7, 8] zl_262 zl_262 [0, 4, 5, 6, 7, 8] (by decide +kernel) rfl rfl rfl rfl rfl
                        clear hk1 hPc hDc hFc hP1 hD1 ht
                        refine zz_l (v := jI ((chW rk mn cx cy q : Nat) : Int)) (chW_e hk_q) ?_
                        refine lv_aload_n hx hb dX11_choose_88 rfl (lv_at hl 3 rfl) ?_
                        obtain ⟨b9, hz9, hbk, hbF, hbm⟩ := bst_get hat (by omega)
                        have hRq_b9 : (rdF ft st tn kd) b9 := (Classical.byContradiction fun h => hbF (Or.inl h))
                        have hw_b9 := hwf b9 hRq_b9.1
                        have hn_b9 := hw_b9.2.1
                        have hk_b9 := hrk b9 hRq_b9.1
                        have hc_b9 := chW_b hk_b9 hw_b9
                        refine lv_iload_n hx hb dX11_choose_89 rfl (lv_at hl 1 rfl) ?_
                        refine zz_i (v := nI b9) (hz9) ?_
                        obtain ⟨hPc, hDc, hFc⟩ := zo_sub (wc := [_, _, _, _, _, _]) hP hD hS hA [0, 4, 5, 6, 7, 8] (by decide +kernel) rfl
                        refine zcall (st1 := [.long (jI (((rk b9).toInt + 1) * ((ln2 (cF40 cx b9) (cF40 cy b9) ((nN (mn b9)) - 1) : Nat) : Int))), .long (jI ((chW rk mn cx cy q : Nat) : Int))]) (va_runV (As := [.int (nI b9)]) (rest := [.long (jI ((chW rk mn cx cy q : Nat) : Int))]) ⟨hx, hb, hml, hown, hts⟩ (k_M_weight l dC dI cI cZ cF H.size k0 a (upd I0 54 (nI pcn)) J0 b9 (nN (mn b9)) rk mn cx cy S3 (by first | with_reducible assumption | omega) (hw_b9.1) (hw_b9.2.1) (hw_b9.2.2) (hk_b9)) (csV_228 hts rfl rfl ⟨Nat.le_of_ble_eq_true rfl, Nat.le_of_ble_eq_true rfl⟩) (zPV2 (q0 := 0) (ci := 9) hPc hDc hK hXN rfl rfl) rfl rfl hl.1 rfl (lv_room (Nat.le_of_ble_eq_true rfl)) dX11_choose_90 ⟨Nat.le_of_ble_eq_true rfl, Nat.le_of_ble_eq_true rfl⟩) hS hFc hFc rfl (fun t H locs ht hB hk1 hS => ?_)
                        obtain ⟨S4, hP1, hD1⟩ := hB
                        rw [ht] at hP1
                        obtain ⟨hP, hD⟩ := zn (W2 := [_, _, _, _, _, _, _, _, (oa (a 32) cI 8 S4), _, _, _, _, _]) hP hD hk1 hFc hP1 hD1 [0, 4, 5, 6, 7, 8] zl_262 zl_262 [0, 4, 5, 6, 7, 8] (by decide +kernel) rfl rfl rfl rfl rfl
                        clear hk1 hPc hDc hFc hP1 hD1 ht
                        refine zz_l (v := jI ((chW rk mn cx cy b9 : Nat) : Int)) (chW_e hk_b9) ?_
                        refine W.lcmp hx hb dX11_choose_93 ?_
                        refine lv_if_ge (tgt := 99) hx hb dX11_choose_94 rfl (fun c_24 => ?_) (fun c_24 => ?_)
                        · have c_24 : ((chW rk mn cx cy b9 : Nat) : Int) ≤ ((chW rk mn cx cy q : Nat) : Int) := zl_ge (jI_toInt (by omega)) (jI_toInt (by omega)) c_24
                          refine lv_iinc (v := nI (q + 1)) (lv' := [(3, .int (nI (q + 1))), (2, .int zb), (1, .int (nI r9)), (0, .ref k0)]) hx hb dX11_choose_99 hl (k := 0) rfl (nI_add q 1) (Nat.le_of_ble_eq_true rfl) rfl (fun ls hl => ?_)
                          refine lv_goto (tgt := 61) hx hb dX11_choose_102 rfl ?_
                          exact ih_61 (q + 1) zb S4 H locs ls (by first | with_reducible assumption | omega) (by first | with_reducible assumption | omega) (by first | exact bst_f hat (by first | with_reducible assumption | assumption) | exact bst_n hat (by first | with_reducible assumption | omega) (by first | with_reducible assumption | omega) (by first | with_reducible assumption | assumption) | exact bst_l hz9 hbk hbF hbm (by first | with_reducible assumption | assumption) (by first | with_reducible assumption | omega) | exact bst_g hz9 hbk hbF hbm (by first | with_reducible assumption | omega)) hP hD hS (lv_sub hl [0, 1, 2, 3] rfl)
                        · have c_24 : ((chW rk mn cx cy q : Nat) : Int) < ((chW rk mn cx cy b9 : Nat) : Int) := zl_nge (jI_toInt (by omega)) (jI_toInt (by omega)) c_24
                          refine lv_iload_n hx hb dX11_choose_97 rfl (lv_at hl 0 rfl) ?_
                          refine lv_istore_n (lv' := [(2, .int (nI q)), (3, .int (nI q)), (1, .int (nI r9)), (0, .ref k0)]) hx hb dX11_choose_98 rfl hl (Nat.le_of_ble_eq_true rfl) rfl (fun ls hl => ?_)
                          refine lv_iinc (v := nI (q + 1)) (lv' := [(3, .int (nI (q + 1))), (2, .int (nI q)), (1, .int (nI r9)), (0, .ref k0)]) hx hb dX11_choose_99 hl (k := 1) rfl (nI_add q 1) (Nat.le_of_ble_eq_true rfl) rfl (fun ls hl => ?_)
                          refine lv_goto (tgt := 61) hx hb dX11_choose_102 rfl ?_
                          exact ih_61 (q + 1) (nI q) S4 H locs ls (by first | with_reducible assumption | omega) (by first | with_reducible assumption | omega) (by first | exact bst_f hat (by first | with_reducible assumption | assumption) | exact bst_n hat (by first | with_reducible assumption | omega) (by first | with_reducible assumption | omega) (by first | with_reducible assumption | assumption) | exact bst_l hz9 hbk hbF hbm (by first | with_reducible assumption | assumption) (by first | with_reducible assumption | omega) | exact bst_g hz9 hbk hbF hbm (by first | with_reducible assumption | omega)) hP hD hS (lv_sub hl [0, 1, 2, 3] rfl)
              exact hl_61 _ 0 (-1) S1 H locs ls (Nat.lt_succ_self _) (by first | with_reducible assumption | omega) (bst_0 _ _) hP hD hS (lv_sub hl [0, 1, 2, 3] rfl)
        exact hl_49 _ 0 0 (fun _ => False) mt0 mk0 jx jy gr S0 H locs ls (Nat.lt_succ_self _) (by first | with_reducible assumption | omega) (chD_0 _ _) (Nat.zero_le _) (fun j hj => ht0 j (by first | with_reducible assumption | omega)) (fun j hj => hm0 j (by first | with_reducible assumption | omega)) (chI_0 _ _ _ _) (by first | with_reducible assumption | omega) hP hD hS (lv_sub hl [0, 1] rfl)
      · have c_1 : ((q : Nat) : Int) < ((ft : Nat) : Int) := zc_nle (nI_toInt b9_3) (nI_toInt b9_2) c_1
        refine lv_aload_n hx hb dX11_choose_15 rfl (lv_at hl 1 rfl) ?_
        refine va_get (D := (dC, dI)) (ci := 9) (v := .ref (a 50)) (C := RX11) (T := TX11) (N := 55) hx hb hts inX11 hown hK hP 0 rfl rfl 50 (Nat.le_of_ble_eq_true rfl) (hts _ mw_1209) (fun _ h9 => h9) rfl dX11_choose_16 ?_
        refine lv_iload_n hx hb dX11_choose_19 rfl (lv_at hl 0 rfl) ?_
        refine lv_iconst (v := 0) hx hb dX11_choose_20 rfl ?_
        have b9_25 : q < 201 := by omega
        refine z_zast hx hb hK hP hD hS 9 1 rfl rfl (e := q) (x := 0) rfl b9_25 (Nat.le_of_ble_eq_true rfl) (by decide) dX11_choose_21 (fun H locs hP hD hS => ?_)
        obtain ⟨hP, hD⟩ := zre (W2 := [_, _, _, _, _, _, _, _, _, (oa (a 50) cZ 201 (upd mk0 q 0)), _, _, _, _]) hP hD rfl
        refine lv_aload_n hx hb dX11_choose_22 rfl (lv_at hl 1 rfl) ?_
        refine va_get (D := (dC, dI)) (ci := 9) (v := .ref (a 37)) (C := RX11) (T := TX11) (N := 55) hx hb hts inX11 hown hK hP 0 rfl rfl 37 (Nat.le_of_ble_eq_true rfl) (hts _ mw_1196) (fun _ h9 => h9) rfl dX11_choose_23 ?_
        refine lv_iload_n hx hb dX11_choose_26 rfl (lv_at hl 0 rfl) ?_
        refine lv_aload_n hx hb dX11_choose_27 rfl (lv_at hl 1 rfl) ?_
        refine lv_iload_n hx hb dX11_choose_28 rfl (lv_at hl 0 rfl) ?_
        obtain ⟨hPc, hDc, hFc, hI1⟩ := zi_sub (wc := [_, _, _, _]) hP hD hS hA [0, 1, 2, 3] (by decide +kernel) rfl
        refine zcall (st1 := [.int (pI (lvF ft st tn q ∧ (kd q).toInt = 3)), .int (nI q), .ref (a 37)]) (va_runV (As := [.int (nI q)]) (rest := [.int (nI q), .ref (a 37)]) ⟨hx, hb, hml, hown, hts⟩ (k_M_isRoad l dC dI cI cZ cF H.size k0 a (upd I0 54 0) J0 q ft st tn kd (by first | with_reducible assumption | assumption) (by first | with_reducible assumption | omega) (by first | with_reducible assumption | omega)) (csV_229 hts rfl rfl ⟨Nat.le_of_ble_eq_true rfl, Nat.le_of_ble_eq_true rfl⟩) (zPV2 (q0 := 0) (ci := 9) hPc hDc hK hXN rfl rfl) rfl rfl hl.1 rfl (lv_room (Nat.le_of_ble_eq_true rfl)) dX11_choose_29 ⟨Nat.le_of_ble_eq_true rfl, Nat.le_of_ble_eq_true rfl⟩) hS hFc hFc rfl (fun t H locs ht hB hk1 hS => ?_)
        obtain ⟨hP1, hD1⟩ := hB
        rw [ht] at hP1
        replace hP := z0 hP hD hk1 hP1 hI1
        clear hk1 hPc hDc hFc hP1 hD1 ht hI1
        have hj_26 : W p l e ({ frames := 3, cells := 0, slots := 0, locals := 70 } : Room) s m ([.ref k0] : List Value).toArray below meth c H locs 0 0 Q9 (F0 m 40 ls [.int (pI (¬ (rdF ft st tn kd) q)), .int (nI q), .ref (a 37)]) := by
          refine z_zast hx hb hK hP hD hS 10 1 rfl rfl (e := q) (x := pI (¬ (rdF ft st tn kd) q)) rfl b9_25 (Nat.le_of_ble_eq_true rfl) (zp_and _) dX11_choose_40 (fun H locs hP hD hS => ?_)
          obtain ⟨hP, hD⟩ := zre (W2 := [_, _, _, _, _, _, _, _, _, _, (oa (a 37) cZ 201 (upd mt0 q (pI (¬ (rdF ft st tn kd) q)))), _, _, _]) hP hD rfl
          refine lv_iinc (v := nI (q + 1)) (lv' := [(1, .int (nI (q + 1))), (0, .ref k0)]) hx hb dX11_choose_41 hl (k := 0) rfl (nI_add q 1) (Nat.le_of_ble_eq_true rfl) rfl (fun ls hl => ?_)
          refine lv_goto (tgt := 7) hx hb dX11_choose_44 rfl ?_
          exact ih_7 (q + 1) (upd mk0 q 0) (upd mt0 q (pI (¬ (rdF ft st tn kd) q))) H locs ls (by first | with_reducible assumption | omega) (by first | with_reducible assumption | omega) (by intro j hj; rcases Nat.lt_or_ge j q with h | h; (rw [show upd mk0 q 0 j = mk0 j from if_neg (by first | with_reducible assumption | omega)]; exact hm0 j h); (rw [show j = q by omega, up_at]; exact (zp_f (fun h => h.1)).symm)) (by intro j hj; rcases Nat.lt_or_ge j q with h | h; (rw [show upd mt0 q _ j = mt0 j from if_neg (by first | with_reducible assumption | omega)]; exact ht0 j h); (rw [show j = q by omega, up_at]; exact zp_iff ⟨Or.inl, fun h => h.resolve_right id⟩)) hP hD hS (lv_sub hl [0, 1] rfl)
        refine lv_if_ne (tgt := 39) hx hb dX11_choose_32 rfl (fun c_27 => ?_) (fun c_27 => ?_)
        · have c_27 : lvF ft st tn q ∧ (kd q).toInt = 3 := zp_1 c_27
          refine lv_iconst (v := 0) hx hb dX11_choose_39 rfl ?_
          refine zz_i (v := pI (¬ (rdF ft st tn kd) q)) (by first | exact (zp_t (by first | with_reducible assumption | assumption)).symm | exact (zp_f (fun h => h (by first | with_reducible assumption | assumption))).symm) ?_
          exact hj_26 
        · have c_27 : ¬ (lvF ft st tn q ∧ (kd q).toInt = 3) := zp_0 c_27
          refine lv_iconst (v := 1) hx hb dX11_choose_35 rfl ?_
          refine lv_goto (tgt := 40) hx hb dX11_choose_36 rfl ?_
          refine zz_i (v := pI (¬ (rdF ft st tn kd) q)) (by first | exact (zp_t (by first | with_reducible assumption | assumption)).symm | exact (zp_f (fun h => h (by first | with_reducible assumption | assumption))).symm) ?_
          exact hj_26 
  exact hl_7 _ 0 mk mt H locs ls (Nat.lt_succ_self _) (by first | with_reducible assumption | omega) (by intro j hj; omega) (by intro j hj; omega) hP hD hS (lv_sub hl [0, 1] rfl)
set_option maxHeartbeats 4000000 in
set_option maxRecDepth 100000 in
theorem k_M_choose_y (l : Launch) (dC : Nat → ClassId) (dI : Nat → Nat → Nat) (cI cZ cF : ClassId) (sz : Nat) (k0 : Nat) (a : Nat → Nat) (I0 : Nat → Int32) (J0 : Nat → Int64) (ft : Nat) (dn : Nat) (bs : Nat) (w0 : Nat) (cp : Nat) (c1 : Nat) (c2 : Nat) (ln : Nat) (cl : Nat) (kd : Nat → Int32) (st : Nat → Int32) (gb : Nat → Int32) (it : Nat → Int32) (pa : Nat → Int32) (pb : Nat → Int32) (rk : Nat → Int32) (wd : Nat → Int32) (tw : Nat → Int32) (tn : Nat → Int32) (mn : Nat → Int32) (cx : Nat → Int32) (cy : Nat → Int32) (sa : Nat → Int32) (sh : Nat → Int32) (wh : Nat → Int32) (of9 : Nat → Int32) (we : Nat → Int32) (la : Nat → Int32) (lb : Nat → Int32) (lc : Nat → Int32) (ld : Nat → Int32) (S0 : Nat → Int32) (mk : Nat → Int32) (mt : Nat → Int32) (jx : Nat → Int32) (jy : Nat → Int32) (gr : Nat → Int32) (hft : I0 0 = nI ft) (h200 : ft ≤ 200) (hwf : ∀ q, lvF ft st tn q → wfM mn cx cy q) (hrk : ∀ q, lvF ft st tn q → 0 ≤ (rk q).toInt ∧ (rk q).toInt ≤ 9) (hz : 0 < cntP (chM (rdF ft st tn kd) (chW rk mn cx cy) (chB cx cy) (chL mn cx cy)) ft) (hdn : I0 19 = nI dn) (hbs : I0 21 = nI bs) (hbd : bs ≤ dn) (hd512 : dn ≤ 512) (hlc : ln ≤ 64 * cl) (hcl1 : 1 ≤ cl) (hclm : cl ≤ 1000000) (hi5_1 : (dn - bs) < 515) (hsa_1 : sa (dn - bs) = nI w0) (hmn_1 : ∀ v9, v9 < ft → (tn v9).toInt = 0 → ¬ (st v9).toInt = 0 → mn v9 = nI (nN (mn v9)) ∧ nN (mn v9) ≤ 40) (hc1_1 : 1 ≤ cp) (hpw_1 : pw cp c1) (hw0_1 : w0 ≤ 4096 * cp) (hfit_1 : psN (nnF st tn mn) w0 ft ≤ 4096 * c1) (hmin_1 : c1 = cp ∨ 2048 * c1 < psN (nnF st tn mn) w0 ft) (hcE_1 : c1 ≤ 512) (hpw_2 : pw c1 c2) (hfit_2 : psN (nnF (gnA (chM (rdF ft st tn kd) (chW rk mn cx cy) (chB cx cy) (chL mn cx cy)) ft 2 st) tn mn) (psN (nnF st tn mn) w0 ft) ft ≤ 4096 * c2) (hmin_2 : c2 = c1 ∨ 2048 * c2 < psN (nnF (gnA (chM (rdF ft st tn kd) (chW rk mn cx cy) (chB cx cy) (chL mn cx cy)) ft 2 st) tn mn) (psN (nnF st tn mn) w0 ft) ft) (hcE_2 : c2 ≤ 512) : zM l yX11_choose cX11_choose 7 (some .int) ({ frames := 4, cells := c2 - cp, slots := 8192 * (c2 - cp), locals := 93 } : Room) [.ref k0] (dC, dI) (zTy cI cZ cF) [(om k0 a (upd I0 26 (nI ln)) J0), (oa (a 1) cI 201 kd), (oa (a 5) cI 201 st), (oa (a 7) cI 201 gb), (oa (a 10) cI 201 it), (oa (a 8) cI 201 pa), (oa (a 9) cI 201 pb), (oa (a 2) cI 201 rk), (oa (a 3) cI 201 wd), (oa (a 4) cI 201 tw), (oa (a 6) cZ 201 tn), (oa (a 11) cI 201 mn), (oa (a 12) cI 8040 cx), (oa (a 13) cI 8040 cy), (oa (a 27) cI 516 sa), (oa (a 28) cI (4096 * cp) sh), (oa (a 16) cI 514 wh), (oa (a 17) cI 514 of9), (oa (a 18) cI 514 we), (oa (a 22) cI (64 * cl) la), (oa (a 23) cI (64 * cl) lb), (oa (a 24) cI (64 * cl) lc), (oa (a 25) cI (64 * cl) ld), (oa (a 32) cI 8 S0), (oa (a 50) cZ 201 mk), (oa (a 37) cZ 201 mt), (oa (a 51) cI 402 jx), (oa (a 52) cI 402 jy), (oa (a 53) cI 402 gr)] sz (some (.int (nI (cntP (chM (rdF ft st tn kd) (chW rk mn cx cy) (chB cx cy) (chL mn cx cy)) ft)))) (fun A t => ∃ (b2 : Nat), ∃ (sh2 : Nat → Int32), ∃ (t9 : Nat), ∃ (la1 : Nat → Int32), ∃ (lb1 : Nat → Int32), ∃ (lc1 : Nat → Int32), ∃ (ld1 : Nat → Int32), ∃ (pc9 : Nat), ∃ (S1 : Nat → Int32), ∃ (mk1 : Nat → Int32), ∃ (mt1 : Nat → Int32), ∃ (jx1 : Nat → Int32), ∃ (jy1 : Nat → Int32), ∃ (gr1 : Nat → Int32), (sh2 w0 = nI ft) ∧ (∀ j, j < w0 → sh2 j = sh j) ∧ (∀ g, g < ft → ∀ j, j < 10 + 2 * (nnF st tn mn) g → sh2 (psN (nnF st tn mn) w0 g + j) = (shD kd st gb it pa pb rk wd tw (nnF st tn mn) cx cy) g j) ∧ (sh2 (psN (nnF st tn mn) w0 ft) = nI ft) ∧ (∀ g, g < ft → ∀ j, j < 10 + 2 * (nnF (gnA (chM (rdF ft st tn kd) (chW rk mn cx cy) (chB cx cy) (chL mn cx cy)) ft 2 st) tn mn) g → sh2 (psN (nnF (gnA (chM (rdF ft st tn kd) (chW rk mn cx cy) (chB cx cy) (chL mn cx cy)) ft 2 st) tn mn) (psN (nnF st tn mn) w0 ft) g + j) = (shD kd (gnA (chM (rdF ft st tn kd) (chW rk mn cx cy) (chB cx cy) (chL mn cx cy)) ft 2 st) (gnA (chM (rdF ft st tn kd) (chW rk mn cx cy) (chB cx cy) (chL mn cx cy)) ft (nI (dn + 1)) gb) (gnA (chM (rdF ft st tn kd) (chW rk mn cx cy) (chB cx cy) (chL mn cx cy)) ft (-1 : Int32) it) pa pb rk wd tw (nnF (gnA (chM (rdF ft st tn kd) (chW rk mn cx cy) (chB cx cy) (chL mn cx cy)) ft 2 st) tn mn) cx cy) g j) ∧ (t9 ≤ ln) ∧ ((∀ j, j < t9 → ∃ i, i < ln ∧ lb1 j = lb i ∧ lc1 j = lc i) ∧ lsZ dn ln la lb lc ld t9 la1 lb1 lc1 ld1 (fun _ _ _ => False)) ∧ zPD (dC, dI) classes A [(om k0 (va_up a 28 b2) (upd (upd (upd (upd (upd (upd I0 14 0) 19 (nI (dn + 1))) 20 0) 26 (nI t9)) 41 (nI (psN (nnF (gnA (chM (rdF ft st tn kd) (chW rk mn cx cy) (chB cx cy) (chL mn cx cy)) ft 2 st) tn mn) (psN (nnF st tn mn) w0 ft) ft))) 54 (nI pc9)) J0), (oa (a 1) cI 201 kd), (oa (a 5) cI 201 (gnA (chM (rdF ft st tn kd) (chW rk mn cx cy) (chB cx cy) (chL mn cx cy)) ft 2 st)), (oa (a 7) cI 201 (gnA (chM (rdF ft st tn kd) (chW rk mn cx cy) (chB cx cy) (chL mn cx cy)) ft (nI (dn + 1)) gb)), (oa (a 10) cI 201 (gnA (chM (rdF ft st tn kd) (chW rk mn cx cy) (chB cx cy) (chL mn cx cy)) ft (-1 : Int32) it)), (oa (a 8) cI 201 pa), (oa (a 9) cI 201 pb), (oa (a 2) cI 201 rk), (oa (a 3) cI 201 wd), (oa (a 4) cI 201 tw), (oa (a 6) cZ 201 tn), (oa (a 11) cI 201 mn), (oa (a 12) cI 8040 cx), (oa (a 13) cI 8040 cy), (oa (a 27) cI 516 (upd (upd sa (dn - bs + 1) (nI (psN (nnF st tn mn) w0 ft))) (dn + 1 - bs + 1) (nI (psN (nnF (gnA (chM (rdF ft st tn kd) (chW rk mn cx cy) (chB cx cy) (chL mn cx cy)) ft 2 st) tn mn) (psN (nnF st tn mn) w0 ft) ft)))), (oa b2 cI (4096 * c2) sh2), (oa (a 16) cI 514 (upd wh (dn + 1) (9 : Int32))), (oa (a 17) cI 514 (upd of9 (dn + 1) (-1 : Int32))), (oa (a 18) cI 514 (upd we (dn + 1) (nI (cntP (chM (rdF ft st tn kd) (chW rk mn cx cy) (chB cx cy) (chL mn cx cy)) ft)))), (oa (a 22) cI (64 * cl) la1), (oa (a 23) cI (64 * cl) lb1), (oa (a 24) cI (64 * cl) lc1), (oa (a 25) cI (64 * cl) ld1), (oa (a 32) cI 8 S1), (oa (a 50) cZ 201 mk1), (oa (a 37) cZ 201 mt1), (oa (a 51) cI 402 jx1), (oa (a 52) cI 402 jy1), (oa (a 53) cI 402 gr1)] t.heap) (c2 - cp) (8192 * (c2 - cp)) := by
  refine zIn (own := "ScaleShopModel") (loc := [(0, .ref k0)]) rfl rfl rfl rfl (fun p e s m below meth c hx hb hr hts hown hlocks hml hnm9 A hA hS hP hD hK hXN Q9 hQ9 ls hl => ?_)
  have hq1 := pw_le hpw_1
  have hq2 := pw_le hpw_2
  refine lv_aload_n hx hb dX11_choose_0 rfl (lv_at hl 0 rfl) ?_
  refine lv_iconst (v := 0) hx hb dX11_choose_1 rfl ?_
  refine va_put (D := (dC, dI)) (ci := 9) (v := .int 0) (ty := .int) (C := RX11) (T := TX11) (N := 55) hx hb hts inX11 tyX11 tyX11_ok nmX11 hown hK hP hD hS 0 rfl rfl 54 (by decide) (hts _ mw_1213) (fun _ h9 => h9) rfl (by decide +kernel) rfl rfl (Nat.le_of_ble_eq_true rfl) dX11_choose_2 (fun H locs hP hD hS => ?_)
  obtain ⟨hP, hD⟩ := zre (W2 := [(om k0 a (upd (upd I0 26 (nI ln)) 54 0) J0), _, _, _, _, _, _, _, _, _, _, _, _, _, _, _, _, _, _, _, _, _, _, _, _, _, _, _, _]) hP hD rfl
  refine lv_iconst (v := 0) hx hb dX11_choose_5 rfl ?_
  refine lv_istore_n (lv' := [(1, .int 0), (0, .ref k0)]) hx hb dX11_choose_6 rfl hl (Nat.le_of_ble_eq_true rfl) rfl (fun ls hl => ?_)
  have hl_7 : ∀ (n9 : Nat) (q : Nat) (mk0 : Nat → Int32) (mt0 : Nat → Int32) (H : Heap) (locs : List Loc) (ls : Array Slot), ft - q < n9 → (q ≤ ft) → (∀ j, j < q → mk0 j = pI (False ∧ (chM (rdF ft st tn kd) (chW rk mn cx cy) (chB cx cy) (chL mn cx cy)) j)) → (∀ j, j < q → mt0 j = pI (¬ (rdF ft st tn kd) j ∨ False)) → va_P (dC, dI) classes [(om k0 a (upd (upd I0 26 (nI ln)) 54 0) J0), (oa (a 1) cI 201 kd), (oa (a 5) cI 201 st), (oa (a 7) cI 201 gb), (oa (a 10) cI 201 it), (oa (a 8) cI 201 pa), (oa (a 9) cI 201 pb), (oa (a 2) cI 201 rk), (oa (a 3) cI 201 wd), (oa (a 4) cI 201 tw), (oa (a 6) cZ 201 tn), (oa (a 11) cI 201 mn), (oa (a 12) cI 8040 cx), (oa (a 13) cI 8040 cy), (oa (a 27) cI 516 sa), (oa (a 28) cI (4096 * cp) sh), (oa (a 16) cI 514 wh), (oa (a 17) cI 514 of9), (oa (a 18) cI 514 we), (oa (a 22) cI (64 * cl) la), (oa (a 23) cI (64 * cl) lb), (oa (a 24) cI (64 * cl) lc), (oa (a 25) cI (64 * cl) ld), (oa (a 32) cI 8 S0), (oa (a 50) cZ 201 mk0), (oa (a 37) cZ 201 mt0), (oa (a 51) cI 402 jx), (oa (a 52) cI 402 jy), (oa (a 53) cI 402 gr)] H → va_D A [(om k0 a (upd (upd I0 26 (nI ln)) 54 0) J0), (oa (a 1) cI 201 kd), (oa (a 5) cI 201 st), (oa (a 7) cI 201 gb), (oa (a 10) cI 201 it), (oa (a 8) cI 201 pa), (oa (a 9) cI 201 pb), (oa (a 2) cI 201 rk), (oa (a 3) cI 201 wd), (oa (a 4) cI 201 tw), (oa (a 6) cZ 201 tn), (oa (a 11) cI 201 mn), (oa (a 12) cI 8040 cx), (oa (a 13) cI 8040 cy), (oa (a 27) cI 516 sa), (oa (a 28) cI (4096 * cp) sh), (oa (a 16) cI 514 wh), (oa (a 17) cI 514 of9), (oa (a 18) cI 514 we), (oa (a 22) cI (64 * cl) la), (oa (a 23) cI (64 * cl) lb), (oa (a 24) cI (64 * cl) lc), (oa (a 25) cI (64 * cl) ld), (oa (a 32) cI 8 S0), (oa (a 50) cZ 201 mk0), (oa (a 37) cZ 201 mt0), (oa (a 51) cI 402 jx), (oa (a 52) cI 402 jy), (oa (a 53) cI 402 gr)] → va_S A s.heap H locs → lv_has ls 7 [(1, .int (nI q)), (0, .ref k0)] → W p l e ({ frames := 4, cells := c2 - cp, slots := 8192 * (c2 - cp), locals := 93 } : Room) s m ([.ref k0] : List Value).toArray below meth c H locs 0 0 Q9 (F0 m 7 ls []) := by
    intro n9
    induction n9 with
    | zero => intro q mk0 mt0 H locs ls hm; exact absurd hm (Nat.not_lt_zero _)
    | succ n9 ih_7 =>
      intro q mk0 mt0 H locs ls hm hq hm0 ht0 hP hD hS hl
      refine lv_iload_n hx hb dX11_choose_7 rfl (lv_at hl 0 rfl) ?_
      refine lv_aload_n hx hb dX11_choose_8 rfl (lv_at hl 1 rfl) ?_
      refine va_get (D := (dC, dI)) (ci := 9) (v := .int (I0 0)) (C := RX11) (T := TX11) (N := 55) hx hb hts inX11 hown hK hP 0 rfl rfl 0 (Nat.le_of_ble_eq_true rfl) (hts _ mw_1159) (fun _ h9 => h9) rfl dX11_choose_9 ?_
      refine zz_i (v := nI ft) (hft) ?_
      have b9_2 : zlt (q) := show q < 2147483648 by omega
      have b9_3 : zlt (ft) := show ft < 2147483648 by omega
      refine lv_icmp_ge (tgt := 47) hx hb dX11_choose_12 rfl (fun c_1 => ?_) (fun c_1 => ?_)
      · have c_1 : ((ft : Nat) : Int) ≤ ((q : Nat) : Int) := zc_le (nI_toInt b9_3) (nI_toInt b9_2) c_1
        refine lv_iconst (v := 0) hx hb dX11_choose_47 rfl ?_
        refine lv_istore_n (lv' := [(1, .int 0), (0, .ref k0)]) hx hb dX11_choose_48 rfl hl (Nat.le_of_ble_eq_true rfl) rfl (fun ls hl => ?_)
        have hl_49 : ∀ (n9 : Nat) (r9 : Nat) (pcn : Nat) (D : Nat → Prop) (mt1 : Nat → Int32) (mk1 : Nat → Int32) (jx1 : Nat → Int32) (jy1 : Nat → Int32) (gr1 : Nat → Int32) (S1 : Nat → Int32) (H : Heap) (locs : List Loc) (ls : Array Slot), ft - r9 < n9 → (r9 ≤ ft) → (chD (rdF ft st tn kd) (chW rk mn cx cy) D) → (r9 ≤ cntP D ft) → (∀ j, j < ft → mt1 j = pI (¬ (rdF ft st tn kd) j ∨ D j)) → (∀ j, j < ft → mk1 j = pI (D j ∧ (chM (rdF ft st tn kd) (chW rk mn cx cy) (chB cx cy) (chL mn cx cy)) j)) → (chI D (chB cx cy) (chL mn cx cy) (fun i => (jx1 i, jy1 i)) gr1 pcn) → (pcn ≤ 2 * r9) → va_P (dC, dI) classes [(om k0 a (upd (upd I0 26 (nI ln)) 54 (nI pcn)) J0), (oa (a 1) cI 201 kd), (oa (a 5) cI 201 st), (oa (a 7) cI 201 gb), (oa (a 10) cI 201 it), (oa (a 8) cI 201 pa), (oa (a 9) cI 201 pb), (oa (a 2) cI 201 rk), (oa (a 3) cI 201 wd), (oa (a 4) cI 201 tw), (oa (a 6) cZ 201 tn), (oa (a 11) cI 201 mn), (oa (a 12) cI 8040 cx), (oa (a 13) cI 8040 cy), (oa (a 27) cI 516 sa), (oa (a 28) cI (4096 * cp) sh), (oa (a 16) cI 514 wh), (oa (a 17) cI 514 of9), (oa (a 18) cI 514 we), (oa (a 22) cI (64 * cl) la), (oa (a 23) cI (64 * cl) lb), (oa (a 24) cI (64 * cl) lc), (oa (a 25) cI (64 * cl) ld), (oa (a 32) cI 8 S1), (oa (a 50) cZ 201 mk1), (oa (a 37) cZ 201 mt1), (oa (a 51) cI 402 jx1), (oa (a 52) cI 402 jy1), (oa (a 53) cI 402 gr1)] H → va_D A [(om k0 a (upd (upd I0 26 (nI ln)) 54 (nI pcn)) J0), (oa (a 1) cI 201 kd), (oa (a 5) cI 201 st), (oa (a 7) cI 201 gb), (oa (a 10) cI 201 it), (oa (a 8) cI 201 pa), (oa (a 9) cI 201 pb), (oa (a 2) cI 201 rk), (oa (a 3) cI 201 wd), (oa (a 4) cI 201 tw), (oa (a 6) cZ 201 tn), (oa (a 11) cI 201 mn), (oa (a 12) cI 8040 cx), (oa (a 13) cI 8040 cy), (oa (a 27) cI 516 sa), (oa (a 28) cI (4096 * cp) sh), (oa (a 16) cI 514 wh), (oa (a 17) cI 514 of9), (oa (a 18) cI 514 we), (oa (a 22) cI (64 * cl) la), (oa (a 23) cI (64 * cl) lb), (oa (a 24) cI (64 * cl) lc), (oa (a 25) cI (64 * cl) ld), (oa (a 32) cI 8 S1), (oa (a 50) cZ 201 mk1), (oa (a 37) cZ 201 mt1), (oa (a 51) cI 402 jx1), (oa (a 52) cI 402 jy1), (oa (a 53) cI 402 gr1)] → va_S A s.heap H locs → lv_has ls 7 [(1, .int (nI r9)), (0, .ref k0)] → W p l e ({ frames := 4, cells := c2 - cp, slots := 8192 * (c2 - cp), locals := 93 } : Room) s m ([.ref k0] : List Value).toArray below meth c H locs 0 0 Q9 (F0 m 49 ls []) := by
          intro n9
          induction n9 with
          | zero => intro r9 pcn D mt1 mk1 jx1 jy1 gr1 S1 H locs ls hm; exact absurd hm (Nat.not_lt_zero _)
          | succ n9 ih_49 =>
            intro r9 pcn D mt1 mk1 jx1 jy1 gr1 S1 H locs ls hm hr9 hDD hDc hmt hmk hcI hpn hP hD hS hl
            refine lv_iload_n hx hb dX11_choose_49 rfl (lv_at hl 0 rfl) ?_
            refine lv_aload_n hx hb dX11_choose_50 rfl (lv_at hl 1 rfl) ?_
            refine va_get (D := (dC, dI)) (ci := 9) (v := .int (I0 0)) (C := RX11) (T := TX11) (N := 55) hx hb hts inX11 hown hK hP 0 rfl rfl 0 (Nat.le_of_ble_eq_true rfl) (hts _ mw_1159) (fun _ h9 => h9) rfl dX11_choose_51 ?_
            refine zz_i (v := nI ft) (hft) ?_
            have b9_5 : zlt (r9) := show r9 < 2147483648 by omega
            refine lv_icmp_ge (tgt := 259) hx hb dX11_choose_54 rfl (fun c_4 => ?_) (fun c_4 => ?_)
            · have c_4 : ((ft : Nat) : Int) ≤ ((r9 : Nat) : Int) := zc_le (nI_toInt b9_3) (nI_toInt b9_5) c_4
              have hall : ∀ j, j < ft → (rdF ft st tn kd) j → D j := (by first | exact (fun j hj _ => cntP_all (by omega) j hj) | exact fun j hj hR => (bst_no hat (by omega) (by omega) j (by omega)).resolve_left (fun h => h hR))
              have hmkF : ∀ j, j < ft → mk1 j = pI ((chM (rdF ft st tn kd) (chW rk mn cx cy) (chB cx cy) (chL mn cx cy)) j) := fun j hj => (by rw [hmk j hj]; exact zp_iff ⟨fun h => h.2, fun h => ⟨hall j hj h.1, h⟩⟩)
              refine lv_aload_n hx hb dX11_choose_259 rfl (lv_at hl 1 rfl) ?_
              refine lv_bipush (v := 9) hx hb dX11_choose_260 rfl ?_
              obtain ⟨hPc, hDc, hFc⟩ := zo_sub (wc := [_, _, _, _, _, _, _, _, _, _, _, _, _, _, _, _, _, _, _, _, _, _, _, _]) hP hD hS hA [0, 1, 2, 3, 4, 5, 6, 7, 8, 9, 10, 11, 12, 13, 14, 15, 16, 17, 18, 19, 20, 21, 22, 24] (by decide +kernel) rfl
              refine zcall (st1 := [.int (nI (cntP (chM (rdF ft st tn kd) (chW rk mn cx cy) (chB cx cy) (chL mn cx cy)) ft))]) (va_runV (As := [.int 9]) (rest := []) ⟨hx, hb, hml, hown, hts⟩ (k_M_dropMarked_y l dC dI cI cZ cF H.size k0 a (upd (upd I0 26 (nI ln)) 54 (nI pcn)) J0 9 ft dn bs w0 cp c1 c2 ln cl kd st gb it pa pb rk wd tw tn mn cx cy sa sh wh of9 we la lb lc ld mk1 (chM (rdF ft st tn kd) (chW rk mn cx cy) (chB cx cy) (chL mn cx cy)) (hft) (by first | with_reducible assumption | omega) (hmkF) (fun j hj h => h.1.1.2.1) (hz) (hdn) (hbs) (by first | with_reducible assumption | omega) (by first | with_reducible assumption | omega) (hlc) (hcl1) (hclm) (hi5_1) (hsa_1) (hmn_1) (hc1_1) (hpw_1) (hw0_1) (hfit_1) (hmin_1) (hcE_1) (hpw_2) (hfit_2) (hmin_2) (hcE_2)) (csV_219 hts rfl rfl ⟨Nat.le_of_ble_eq_true rfl, Nat.le_of_ble_eq_true rfl⟩) (zPV2 (q0 := 0) (ci := 9) hPc hDc hK hXN rfl rfl) rfl rfl hl.1 rfl (lv_room (Nat.le_of_ble_eq_true rfl)) dX11_choose_262 ⟨show (0 + (c2 - cp)) ≤ c2 - cp by omega, show (0 + (8192 * (c2 - cp))) ≤ 8192 * (c2 - cp) by omega⟩) hS hFc hFc rfl (fun t H locs ht hB hk1 hS => ?_)
              refine ex7 hB (fun b2 sh2 t9 la1 lb1 lc1 ld1 hB0 => ?_)
              clear hB
              obtain ⟨p0, p1, p2, p3, p4, p5, p6, hP1, hD1⟩ := hB0
              rw [ht] at hP1
              obtain ⟨hP, hD⟩ := zn (W2 := [_, _, _, _, _, (om k0 (va_up a 28 b2) (upd (upd (upd (upd (upd (upd I0 14 0) 19 (nI (dn + 1))) 20 0) 26 (nI t9)) 41 (nI (psN (nnF (gnA (chM (rdF ft st tn kd) (chW rk mn cx cy) (chB cx cy) (chL mn cx cy)) ft 2 st) tn mn) (psN (nnF st tn mn) w0 ft) ft))) 54 (nI pcn)) J0), (oa (a 1) cI 201 kd), (oa (a 5) cI 201 (gnA (chM (rdF ft st tn kd) (chW rk mn cx cy) (chB cx cy) (chL mn cx cy)) ft 2 st)), (oa (a 7) cI 201 (gnA (chM (rdF ft st tn kd) (chW rk mn cx cy) (chB cx cy) (chL mn cx cy)) ft (nI (dn + 1)) gb)), (oa (a 10) cI 201 (gnA (chM (rdF ft st tn kd) (chW rk mn cx cy) (chB cx cy) (chL mn cx cy)) ft (-1 : Int32) it)), (oa (a 8) cI 201 pa), (oa (a 9) cI 201 pb), (oa (a 2) cI 201 rk), (oa (a 3) cI 201 wd), (oa (a 4) cI 201 tw), (oa (a 6) cZ 201 tn), (oa (a 11) cI 201 mn), (oa (a 12) cI 8040 cx), (oa (a 13) cI 8040 cy), (oa (a 27) cI 516 (upd (upd sa (dn - bs + 1) (nI (psN (nnF st tn mn) w0 ft))) (dn + 1 - bs + 1) (nI (psN (nnF (gnA (chM (rdF ft st tn kd) (chW rk mn cx cy) (chB cx cy) (chL mn cx cy)) ft 2 st) tn mn) (psN (nnF st tn mn) w0 ft) ft)))), (oa b2 cI (4096 * c2) sh2), (oa (a 16) cI 514 (upd wh (dn + 1) (9 : Int32))), (oa (a 17) cI 514 (upd of9 (dn + 1) (-1 : Int32))), (oa (a 18) cI 514 (upd we (dn + 1) (nI (cntP (chM (rdF ft st tn kd) (chW rk mn cx cy) (chB cx cy) (chL mn cx cy)) ft)))), (oa (a 22) cI (64 * cl) la1), (oa (a 23) cI (64 * cl) lb1), (oa (a 24) cI (64 * cl) lc1), (oa (a 25) cI (64 * cl) ld1), (oa (a 50) cZ 201 mk1)]) hP hD hk1 hFc hP1 hD1 zl_263 zl_264 zl_265 zl_266 (by decide +kernel) rfl rfl rfl rfl rfl
              clear hk1 hPc hDc hFc hP1 hD1 ht
              obtain ⟨hP9, hD9⟩ := zq_sub (wc := [_, _, _, _, _, _, _, _, _, _, _, _, _, _, _, _, _, _, _, _, _, _, _, _, _, _, _, _, _]) hP hD [5, 6, 7, 8, 9, 10, 11, 12, 13, 14, 15, 16, 17, 18, 19, 20, 21, 22, 23, 24, 25, 26, 27, 0, 28, 1, 2, 3, 4] rfl rfl
              refine W.widen (k := c2 - cp) (n := 8192 * (c2 - cp)) (by omega) (by omega) ?_
              rw [hQ9]
              exact W.iret (v := nI (cntP (chM (rdF ft st tn kd) (chW rk mn cx cy) (chB cx cy) (chL mn cx cy)) ft)) hx hb hr (fun t ht hW => ⟨⟨rfl, b2, sh2, t9, la1, lb1, lc1, ld1, pcn, S1, mk1, mt1, jx1, jy1, gr1, (p0), (p1), (p2), (p3), (p4), (p5), (p6), by rw [ht]; exact hP9, hD9⟩, hS.F ht⟩) hS.2.2 dX11_choose_265
            · have c_4 : ((r9 : Nat) : Int) < ((ft : Nat) : Int) := zc_nle (nI_toInt b9_3) (nI_toInt b9_5) c_4
              refine lv_iconst (v := (-1)) hx hb dX11_choose_57 rfl ?_
              refine lv_istore_n (lv' := [(2, .int (-1)), (1, .int (nI r9)), (0, .ref k0)]) hx hb dX11_choose_58 rfl hl (Nat.le_of_ble_eq_true rfl) rfl (fun ls hl => ?_)
              refine lv_iconst (v := 0) hx hb dX11_choose_59 rfl ?_
              refine lv_istore_n (lv' := [(3, .int 0), (2, .int (-1)), (1, .int (nI r9)), (0, .ref k0)]) hx hb dX11_choose_60 rfl hl (Nat.le_of_ble_eq_true rfl) rfl (fun ls hl => ?_)
              have hl_61 : ∀ (n9 : Nat) (q : Nat) (zb : Int32) (S2 : Nat → Int32) (H : Heap) (locs : List Loc) (ls : Array Slot), ft - q < n9 → (q ≤ ft) → (bstS (chW rk mn cx cy) (fun j => ¬ (rdF ft st tn kd) j ∨ D j) q zb) → va_P (dC, dI) classes [(om k0 a (upd (upd I0 26 (nI ln)) 54 (nI pcn)) J0), (oa (a 1) cI 201 kd), (oa (a 5) cI 201 st), (oa (a 7) cI 201 gb), (oa (a 10) cI 201 it), (oa (a 8) cI 201 pa), (oa (a 9) cI 201 pb), (oa (a 2) cI 201 rk), (oa (a 3) cI 201 wd), (oa (a 4) cI 201 tw), (oa (a 6) cZ 201 tn), (oa (a 11) cI 201 mn), (oa (a 12) cI 8040 cx), (oa (a 13) cI 8040 cy), (oa (a 27) cI 516 sa), (oa (a 28) cI (4096 * cp) sh), (oa (a 16) cI 514 wh), (oa (a 17) cI 514 of9), (oa (a 18) cI 514 we), (oa (a 22) cI (64 * cl) la), (oa (a 23) cI (64 * cl) lb), (oa (a 24) cI (64 * cl) lc), (oa (a 25) cI (64 * cl) ld), (oa (a 32) cI 8 S2), (oa (a 50) cZ 201 mk1), (oa (a 37) cZ 201 mt1), (oa (a 51) cI 402 jx1), (oa (a 52) cI 402 jy1), (oa (a 53) cI 402 gr1)] H → va_D A [(om k0 a (upd (upd I0 26 (nI ln)) 54 (nI pcn)) J0), (oa (a 1) cI 201 kd), (oa (a 5) cI 201 st), (oa (a 7) cI 201 gb), (oa (a 10) cI 201 it), (oa (a 8) cI 201 pa), (oa (a 9) cI 201 pb), (oa (a 2) cI 201 rk), (oa (a 3) cI 201 wd), (oa (a 4) cI 201 tw), (oa (a 6) cZ 201 tn), (oa (a 11) cI 201 mn), (oa (a 12) cI 8040 cx), (oa (a 13) cI 8040 cy), (oa (a 27) cI 516 sa), (oa (a 28) cI (4096 * cp) sh), (oa (a 16) cI 514 wh), (oa (a 17) cI 514 of9), (oa (a 18) cI 514 we), (oa (a 22) cI (64 * cl) la), (oa (a 23) cI (64 * cl) lb), (oa (a 24) cI (64 * cl) lc), (oa (a 25) cI (64 * cl) ld), (oa (a 32) cI 8 S2), (oa (a 50) cZ 201 mk1), (oa (a 37) cZ 201 mt1), (oa (a 51) cI 402 jx1), (oa (a 52) cI 402 jy1), (oa (a 53) cI 402 gr1)] → va_S A s.heap H locs → lv_has ls 7 [(3, .int (nI q)), (2, .int zb), (1, .int (nI r9)), (0, .ref k0)] → W p l e ({ frames := 4, cells := c2 - cp, slots := 8192 * (c2 - cp), locals := 93 } : Room) s m ([.ref k0] : List Value).toArray below meth c H locs 0 0 Q9 (F0 m 61 ls []) := by
                intro n9
                induction n9 with
                | zero => intro q zb S2 H locs ls hm; exact absurd hm (Nat.not_lt_zero _)
                | succ n9 ih_61 =>
                  intro q zb S2 H locs ls hm hq hat hP hD hS hl
                  refine lv_iload_n hx hb dX11_choose_61 rfl (lv_at hl 0 rfl) ?_
                  refine lv_aload_n hx hb dX11_choose_62 rfl (lv_at hl 3 rfl) ?_
                  refine va_get (D := (dC, dI)) (ci := 9) (v := .int (I0 0)) (C := RX11) (T := TX11) (N := 55) hx hb hts inX11 hown hK hP 0 rfl rfl 0 (Nat.le_of_ble_eq_true rfl) (hts _ mw_1159) (fun _ h9 => h9) rfl dX11_choose_63 ?_
                  refine zz_i (v := nI ft) (hft) ?_
                  have b9_7 : zlt (q) := show q < 2147483648 by omega
                  refine lv_icmp_ge (tgt := 105) hx hb dX11_choose_66 rfl (fun c_6 => ?_) (fun c_6 => ?_)
                  · have c_6 : ((ft : Nat) : Int) ≤ ((q : Nat) : Int) := zc_le (nI_toInt b9_3) (nI_toInt b9_7) c_6
                    refine lv_iload_n hx hb dX11_choose_105 rfl (lv_at hl 1 rfl) ?_
                    refine lv_iconst (v := (-1)) hx hb dX11_choose_106 rfl ?_
                    refine lv_icmp_ne (tgt := 113) hx hb dX11_choose_107 rfl (fun c_8 => ?_) (fun c_8 => ?_)
                    · have c_8 : ¬ zb.toInt = (-1) := zc_ne rfl rfl c_8
                      have hqf : q = ft := (by omega)
                      rw [hqf] at hat
                      obtain ⟨b9, hz9, hbk, hbF, hbm⟩ := bst_get hat (by omega)
                      have hRq_b9 : (rdF ft st tn kd) b9 := (Classical.byContradiction fun h => hbF (Or.inl h))
                      have hw_b9 := hwf b9 hRq_b9.1
                      have hn_b9 := hw_b9.2.1
                      have hk_b9 := hrk b9 hRq_b9.1
                      have hc_b9 := chW_b hk_b9 hw_b9
                      have hDb : ¬ D b9 := fun h => hbF (Or.inr h)
                      have hds := chD_s hDD (ft := ft) (fun q h => h.1.1) hRq_b9 hDb (fun j hj hR hn => hbm j hj (fun h => h.elim (fun h => h hR) hn))
                      refine lv_aload_n hx hb dX11_choose_113 rfl (lv_at hl 3 rfl) ?_
                      refine va_get (D := (dC, dI)) (ci := 9) (v := .ref (a 37)) (C := RX11) (T := TX11) (N := 55) hx hb hts inX11 hown hK hP 0 rfl rfl 37 (Nat.le_of_ble_eq_true rfl) (hts _ mw_1196) (fun _ h9 => h9) rfl dX11_choose_114 ?_
                      refine lv_iload_n hx hb dX11_choose_117 rfl (lv_at hl 1 rfl) ?_
                      refine zz_i (v := nI b9) (hz9) ?_
                      refine lv_iconst (v := 1) hx hb dX11_choose_118 rfl ?_
                      have b9_9 : b9 < 201 := by omega
                      refine z_zast hx hb hK hP hD hS 25 1 rfl rfl (e := b9) (x := 1) rfl b9_9 (Nat.le_of_ble_eq_true rfl) (by decide) dX11_choose_119 (fun H locs hP hD hS => ?_)
                      obtain ⟨hP, hD⟩ := zre (W2 := [_, _, _, _, _, _, _, _, _, _, _, _, _, _, _, _, _, _, _, _, _, _, _, _, _, (oa (a 37) cZ 201 (upd mt1 b9 1)), _, _, _]) hP hD rfl
                      refine lv_aload_n hx hb dX11_choose_120 rfl (lv_at hl 3 rfl) ?_
                      refine va_get (D := (dC, dI)) (ci := 9) (v := .ref (a 53)) (C := RX11) (T := TX11) (N := 55) hx hb hts inX11 hown hK hP 0 rfl rfl 53 (Nat.le_of_ble_eq_true rfl) (hts _ mw_1212) (fun _ h9 => h9) rfl dX11_choose_121 ?_
                      refine lv_aload_n hx hb dX11_choose_124 rfl (lv_at hl 3 rfl) ?_
                      refine lv_aload_n hx hb dX11_choose_125 rfl (lv_at hl 3 rfl) ?_
                      refine va_get (D := (dC, dI)) (ci := 9) (v := .ref (a 12)) (C := RX11) (T := TX11) (N := 55) hx hb hts inX11 hown hK hP 0 rfl rfl 12 (Nat.le_of_ble_eq_true rfl) (hts _ mw_1171) (fun _ h9 => h9) rfl dX11_choose_126 ?_
                      refine lv_bipush (v := 40) hx hb dX11_choose_129 rfl ?_
                      refine lv_iload_n hx hb dX11_choose_131 rfl (lv_at hl 1 rfl) ?_
                      refine zz_i (v := nI b9) (hz9) ?_
                      refine lv_imul hx hb dX11_choose_132 ?_
                      refine zz_i (v := nI (40 * b9)) (pk_mul 40 b9) ?_
                      have b9_10 : 40 * b9 < 8040 := by omega
                      refine z_iald hx hb hK hP 12 0 rfl rfl (e := 40 * b9) rfl b9_10 (Nat.le_of_ble_eq_true rfl) dX11_choose_133 ?_
                      refine lv_aload_n hx hb dX11_choose_134 rfl (lv_at hl 3 rfl) ?_
                      refine va_get (D := (dC, dI)) (ci := 9) (v := .ref (a 13)) (C := RX11) (T := TX11) (N := 55) hx hb hts inX11 hown hK hP 0 rfl rfl 13 (Nat.le_of_ble_eq_true rfl) (hts _ mw_1172) (fun _ h9 => h9) rfl dX11_choose_135 ?_
                      refine lv_bipush (v := 40) hx hb dX11_choose_138 rfl ?_
                      refine lv_iload_n hx hb dX11_choose_140 rfl (lv_at hl 1 rfl) ?_
                      refine zz_i (v := nI b9) (hz9) ?_
                      refine lv_imul hx hb dX11_choose_141 ?_
                      refine zz_i (v := nI (40 * b9)) (pk_mul 40 b9) ?_
                      refine z_iald hx hb hK hP 13 0 rfl rfl (e := 40 * b9) rfl b9_10 (Nat.le_of_ble_eq_true rfl) dX11_choose_142 ?_
                      obtain ⟨hPc, hDc, hFc⟩ := zo_sub (wc := [_, _, _, _]) hP hD hS hA [0, 26, 27, 28] (by decide +kernel) rfl
                      refine zcalle (va_runV (As := [.int (cx (40 * b9)), .int (cy (40 * b9))]) (rest := [.ref (a 53)]) ⟨hx, hb, hml, hown, hts⟩ (k_M_placeOf_u l dC dI cI cZ cF H.size k0 a (upd (upd I0 26 (nI ln)) 54 (nI pcn)) J0 (cx (40 * b9)) (cy (40 * b9)) pcn jx1 jy1 gr1 (by first | with_reducible assumption | omega)) (csV_227 hts rfl rfl ⟨Nat.le_of_ble_eq_true rfl, Nat.le_of_ble_eq_true rfl⟩) (zPV2 (q0 := 0) (ci := 9) hPc hDc hK hXN rfl rfl) rfl rfl hl.1 rfl (lv_room (Nat.le_of_ble_eq_true rfl)) dX11_choose_143 ⟨Nat.zero_le _, Nat.zero_le _⟩) hS hFc hFc (fun v9 t H locs ht hB hk1 hS => ?_)
                      obtain ⟨pcA, iA, jxA, jyA, grA, rfl, hA1, hA2, hA3, hA4, hP1, hD1⟩ := hB
                      refine W.eq (g2 := F0 m 146 ls [.int (nI iA), .ref (a 53)]) rfl ?_
                      rw [ht] at hP1
                      obtain ⟨hP, hD⟩ := zn (W2 := [(om k0 a (upd (upd I0 26 (nI ln)) 54 (nI pcA)) J0), _, _, _, _, _, _, _, _, _, _, _, _, _, _, _, _, _, _, _, _, _, _, _, _, _, (oa (a 51) cI 402 jxA), (oa (a 52) cI 402 jyA), (oa (a 53) cI 402 grA)]) hP hD hk1 hFc hP1 hD1 [0, 26, 27, 28] zl_99 zl_267 [0, 26, 27, 28] (by decide +kernel) rfl rfl rfl rfl rfl
                      clear hk1 hPc hDc hFc hP1 hD1 ht
                      have b9_11 : iA < 402 := by omega
                      refine z_iald hx hb hK hP 28 0 rfl rfl (e := iA) rfl b9_11 (Nat.le_of_ble_eq_true rfl) dX11_choose_146 ?_
                      refine lv_istore_n (lv' := [(3, .int (grA iA)), (2, .int zb), (1, .int (nI r9)), (0, .ref k0)]) hx hb dX11_choose_147 rfl hl (Nat.le_of_ble_eq_true rfl) rfl (fun ls hl => ?_)
                      refine lv_bipush (v := 40) hx hb dX11_choose_148 rfl ?_
                      refine lv_iload_n hx hb dX11_choose_150 rfl (lv_at hl 1 rfl) ?_
                      refine zz_i (v := nI b9) (hz9) ?_
                      refine lv_imul hx hb dX11_choose_151 ?_
                      refine zz_i (v := nI (40 * b9)) (pk_mul 40 b9) ?_
                      refine lv_aload_n hx hb dX11_choose_152 rfl (lv_at hl 3 rfl) ?_
                      refine va_get (D := (dC, dI)) (ci := 9) (v := .ref (a 11)) (C := RX11) (T := TX11) (N := 55) hx hb hts inX11 hown hK hP 0 rfl rfl 11 (Nat.le_of_ble_eq_true rfl) (hts _ mw_1170) (fun _ h9 => h9) rfl dX11_choose_153 ?_
                      refine lv_iload_n hx hb dX11_choose_156 rfl (lv_at hl 1 rfl) ?_
                      refine zz_i (v := nI b9) (hz9) ?_
                      refine z_iald hx hb hK hP 11 0 rfl rfl (e := b9) rfl b9_9 (Nat.le_of_ble_eq_true rfl) dX11_choose_157 ?_
                      refine zz_i (v := nI (nN (mn b9))) (hw_b9.1) ?_
                      refine lv_iadd hx hb dX11_choose_158 ?_
                      refine zz_i (v := nI (40 * b9 + (nN (mn b9)))) (nI_add (40 * b9) (nN (mn b9))) ?_
                      refine lv_iconst (v := 1) hx hb dX11_choose_159 rfl ?_
                      refine lv_isub hx hb dX11_choose_160 ?_
                      refine zz_i (v := nI ((40 * b9 + (nN (mn b9))) - 1)) (pk_sub (a := 40 * b9 + (nN (mn b9))) (b := 1) (by omega)) ?_
                      refine lv_istore (lv' := [(4, .int (nI ((40 * b9 + (nN (mn b9))) - 1))), (3, .int (grA iA)), (2, .int zb), (1, .int (nI r9)), (0, .ref k0)]) hx hb dX11_choose_161 hl (Nat.le_of_ble_eq_true rfl) rfl (fun ls hl => ?_)
                      refine lv_aload_n hx hb dX11_choose_163 rfl (lv_at hl 4 rfl) ?_
                      refine va_get (D := (dC, dI)) (ci := 9) (v := .ref (a 53)) (C := RX11) (T := TX11) (N := 55) hx hb hts inX11 hown hK hP 0 rfl rfl 53 (Nat.le_of_ble_eq_true rfl) (hts _ mw_1212) (fun _ h9 => h9) rfl dX11_choose_164 ?_
                      refine lv_aload_n hx hb dX11_choose_167 rfl (lv_at hl 4 rfl) ?_
                      refine lv_aload_n hx hb dX11_choose_168 rfl (lv_at hl 4 rfl) ?_
                      refine va_get (D := (dC, dI)) (ci := 9) (v := .ref (a 12)) (C := RX11) (T := TX11) (N := 55) hx hb hts inX11 hown hK hP 0 rfl rfl 12 (Nat.le_of_ble_eq_true rfl) (hts _ mw_1171) (fun _ h9 => h9) rfl dX11_choose_169 ?_
                      refine lv_iload hx hb dX11_choose_172 (lv_at hl 0 rfl) ?_
                      have b9_12 : (40 * b9 + (nN (mn b9))) - 1 < 8040 := by omega
                      refine z_iald hx hb hK hP 12 0 rfl rfl (e := (40 * b9 + (nN (mn b9))) - 1) rfl b9_12 (Nat.le_of_ble_eq_true rfl) dX11_choose_174 ?_
                      refine lv_aload_n hx hb dX11_choose_175 rfl (lv_at hl 4 rfl) ?_
                      refine va_get (D := (dC, dI)) (ci := 9) (v := .ref (a 13)) (C := RX11) (T := TX11) (N := 55) hx hb hts inX11 hown hK hP 0 rfl rfl 13 (Nat.le_of_ble_eq_true rfl) (hts _ mw_1172) (fun _ h9 => h9) rfl dX11_choose_176 ?_
                      refine lv_iload hx hb dX11_choose_179 (lv_at hl 0 rfl) ?_
                      refine z_iald hx hb hK hP 13 0 rfl rfl (e := (40 * b9 + (nN (mn b9))) - 1) rfl b9_12 (Nat.le_of_ble_eq_true rfl) dX11_choose_181 ?_
                      obtain ⟨hPc, hDc, hFc⟩ := zo_sub (wc := [_, _, _, _]) hP hD hS hA [0, 26, 27, 28] (by decide +kernel) rfl
                      refine zcalle (va_runV (As := [.int (cx ((40 * b9 + (nN (mn b9))) - 1)), .int (cy ((40 * b9 + (nN (mn b9))) - 1))]) (rest := [.ref (a 53)]) ⟨hx, hb, hml, hown, hts⟩ (k_M_placeOf_u l dC dI cI cZ cF H.size k0 a (upd (upd I0 26 (nI ln)) 54 (nI pcA)) J0 (cx ((40 * b9 + (nN (mn b9))) - 1)) (cy ((40 * b9 + (nN (mn b9))) - 1)) pcA jxA jyA grA (by first | with_reducible assumption | omega)) (csV_227 hts rfl rfl ⟨Nat.le_of_ble_eq_true rfl, Nat.le_of_ble_eq_true rfl⟩) (zPV2 (q0 := 0) (ci := 9) hPc hDc hK hXN rfl rfl) rfl rfl hl.1 rfl (lv_room (Nat.le_of_ble_eq_true rfl)) dX11_choose_182 ⟨Nat.zero_le _, Nat.zero_le _⟩) hS hFc hFc (fun v9 t H locs ht hB hk1 hS => ?_)
                      obtain ⟨pcB, iB, jxB, jyB, grB, rfl, hB1, hB2, hB3, hB4, hP1, hD1⟩ := hB
                      refine W.eq (g2 := F0 m 185 ls [.int (nI iB), .ref (a 53)]) rfl ?_
                      rw [ht] at hP1
                      obtain ⟨hP, hD⟩ := zn (W2 := [(om k0 a (upd (upd I0 26 (nI ln)) 54 (nI pcB)) J0), _, _, _, _, _, _, _, _, _, _, _, _, _, _, _, _, _, _, _, _, _, _, _, _, _, (oa (a 51) cI 402 jxB), (oa (a 52) cI 402 jyB), (oa (a 53) cI 402 grB)]) hP hD hk1 hFc hP1 hD1 [0, 26, 27, 28] zl_99 zl_267 [0, 26, 27, 28] (by decide +kernel) rfl rfl rfl rfl rfl
                      clear hk1 hPc hDc hFc hP1 hD1 ht
                      have b9_13 : iB < 402 := by omega
                      refine z_iald hx hb hK hP 28 0 rfl rfl (e := iB) rfl b9_13 (Nat.le_of_ble_eq_true rfl) dX11_choose_185 ?_
                      refine lv_istore (lv' := [(5, .int (grB iB)), (4, .int (nI ((40 * b9 + (nN (mn b9))) - 1))), (3, .int (grA iA)), (2, .int zb), (1, .int (nI r9)), (0, .ref k0)]) hx hb dX11_choose_186 hl (Nat.le_of_ble_eq_true rfl) rfl (fun ls hl => ?_)
                      have hcA := chI_ad hcI (by omega) hA2 hA3 hA4
                      have hcB := chI_ad hcA (by omega) hB2 hB3 hB4
                      have hgA : grB iA = grA iA := (hB3 iA hA1.1).2.2
                      have hiA : iA < pcB := (by omega)
                      have eA : (fun i => (jxB i, jyB i)) iA = (chB cx cy) b9 := (by show (jxB iA, jyB iA) = _; rw [(hB3 iA hA1.1).1, (hB3 iA hA1.1).2.1]; exact hA2)
                      have hmq := chQ hRq_b9 hds.2 hcB hiA hB1.1 eA hB2
                      rw [hgA] at hmq
                      refine lv_aload_n hx hb dX11_choose_188 rfl (lv_at hl 5 rfl) ?_
                      refine va_get (D := (dC, dI)) (ci := 9) (v := .ref (a 50)) (C := RX11) (T := TX11) (N := 55) hx hb hts inX11 hown hK hP 0 rfl rfl 50 (Nat.le_of_ble_eq_true rfl) (hts _ mw_1209) (fun _ h9 => h9) rfl dX11_choose_189 ?_
                      refine lv_iload_n hx hb dX11_choose_192 rfl (lv_at hl 3 rfl) ?_
                      refine zz_i (v := nI b9) (hz9) ?_
                      refine lv_iload_n hx hb dX11_choose_193 rfl (lv_at hl 2 rfl) ?_
                      refine lv_iload hx hb dX11_choose_194 (lv_at hl 0 rfl) ?_
                      have hj_14 : W p l e ({ frames := 4, cells := c2 - cp, slots := 8192 * (c2 - cp), locals := 93 } : Room) s m ([.ref k0] : List Value).toArray below meth c H locs 0 0 Q9 (F0 m 204 ls [.int (pI ((chM (rdF ft st tn kd) (chW rk mn cx cy) (chB cx cy) (chL mn cx cy)) b9)), .int (nI b9), .ref (a 50)]) := by
                        refine z_zast hx hb hK hP hD hS 24 1 rfl rfl (e := b9) (x := pI ((chM (rdF ft st tn kd) (chW rk mn cx cy) (chB cx cy) (chL mn cx cy)) b9)) rfl b9_9 (Nat.le_of_ble_eq_true rfl) (zp_and _) dX11_choose_204 (fun H locs hP hD hS => ?_)
                        obtain ⟨hP, hD⟩ := zre (W2 := [_, _, _, _, _, _, _, _, _, _, _, _, _, _, _, _, _, _, _, _, _, _, _, _, (oa (a 50) cZ 201 (upd mk1 b9 (pI ((chM (rdF ft st tn kd) (chW rk mn cx cy) (chB cx cy) (chL mn cx cy)) b9)))), _, _, _, _]) hP hD rfl
                        refine lv_iconst (v := 0) hx hb dX11_choose_205 rfl ?_
                        refine lv_istore (lv' := [(6, .int 0), (5, .int (grB iB)), (4, .int (nI ((40 * b9 + (nN (mn b9))) - 1))), (3, .int (grA iA)), (2, .int zb), (1, .int (nI r9)), (0, .ref k0)]) hx hb dX11_choose_206 hl (Nat.le_of_ble_eq_true rfl) rfl (fun ls hl => ?_)
                        have hl_208 : ∀ (n9 : Nat) (k : Nat) (gr2 : Nat → Int32) (H : Heap) (locs : List Loc) (ls : Array Slot), pcB - k < n9 → (k ≤ pcB) → (∀ j, j < k → gr2 j = if grB j = grB iB then grA iA else grB j) → (∀ j, k ≤ j → gr2 j = grB j) → va_P (dC, dI) classes [(om k0 a (upd (upd I0 26 (nI ln)) 54 (nI pcB)) J0), (oa (a 1) cI 201 kd), (oa (a 5) cI 201 st), (oa (a 7) cI 201 gb), (oa (a 10) cI 201 it), (oa (a 8) cI 201 pa), (oa (a 9) cI 201 pb), (oa (a 2) cI 201 rk), (oa (a 3) cI 201 wd), (oa (a 4) cI 201 tw), (oa (a 6) cZ 201 tn), (oa (a 11) cI 201 mn), (oa (a 12) cI 8040 cx), (oa (a 13) cI 8040 cy), (oa (a 27) cI 516 sa), (oa (a 28) cI (4096 * cp) sh), (oa (a 16) cI 514 wh), (oa (a 17) cI 514 of9), (oa (a 18) cI 514 we), (oa (a 22) cI (64 * cl) la), (oa (a 23) cI (64 * cl) lb), (oa (a 24) cI (64 * cl) lc), (oa (a 25) cI (64 * cl) ld), (oa (a 32) cI 8 S2), (oa (a 50) cZ 201 (upd mk1 b9 (pI ((chM (rdF ft st tn kd) (chW rk mn cx cy) (chB cx cy) (chL mn cx cy)) b9)))), (oa (a 37) cZ 201 (upd mt1 b9 1)), (oa (a 51) cI 402 jxB), (oa (a 52) cI 402 jyB), (oa (a 53) cI 402 gr2)] H → va_D A [(om k0 a (upd (upd I0 26 (nI ln)) 54 (nI pcB)) J0), (oa (a 1) cI 201 kd), (oa (a 5) cI 201 st), (oa (a 7) cI 201 gb), (oa (a 10) cI 201 it), (oa (a 8) cI 201 pa), (oa (a 9) cI 201 pb), (oa (a 2) cI 201 rk), (oa (a 3) cI 201 wd), (oa (a 4) cI 201 tw), (oa (a 6) cZ 201 tn), (oa (a 11) cI 201 mn), (oa (a 12) cI 8040 cx), (oa (a 13) cI 8040 cy), (oa (a 27) cI 516 sa), (oa (a 28) cI (4096 * cp) sh), (oa (a 16) cI 514 wh), (oa (a 17) cI 514 of9), (oa (a 18) cI 514 we), (oa (a 22) cI (64 * cl) la), (oa (a 23) cI (64 * cl) lb), (oa (a 24) cI (64 * cl) lc), (oa (a 25) cI (64 * cl) ld), (oa (a 32) cI 8 S2), (oa (a 50) cZ 201 (upd mk1 b9 (pI ((chM (rdF ft st tn kd) (chW rk mn cx cy) (chB cx cy) (chL mn cx cy)) b9)))), (oa (a 37) cZ 201 (upd mt1 b9 1)), (oa (a 51) cI 402 jxB), (oa (a 52) cI 402 jyB), (oa (a 53) cI 402 gr2)] → va_S A s.heap H locs → lv_has ls 7 [(6, .int (nI k)), (5, .int (grB iB)), (4, .int (nI ((40 * b9 + (nN (mn b9))) - 1))), (3, .int (grA iA)), (2, .int zb), (1, .int (nI r9)), (0, .ref k0)] → W p l e ({ frames := 4, cells := c2 - cp, slots := 8192 * (c2 - cp), locals := 93 } : Room) s m ([.ref k0] : List Value).toArray below meth c H locs 0 0 Q9 (F0 m 208 ls []) := by
                          intro n9
                          induction n9 with
                          | zero => intro k gr2 H locs ls hm; exact absurd hm (Nat.not_lt_zero _)
                          | succ n9 ih_208 =>
                            intro k gr2 H locs ls hm hk9 hg1 hg2 hP hD hS hl
                            refine lv_iload hx hb dX11_choose_208 (lv_at hl 0 rfl) ?_
                            refine lv_aload_n hx hb dX11_choose_210 rfl (lv_at hl 6 rfl) ?_
                            refine va_get (D := (dC, dI)) (ci := 9) (v := .int (nI pcB)) (C := RX11) (T := TX11) (N := 55) hx hb hts inX11 hown hK hP 0 rfl rfl 54 (Nat.le_of_ble_eq_true rfl) (hts _ mw_1213) (fun _ h9 => h9) rfl dX11_choose_211 ?_
                            have b9_16 : zlt (k) := show k < 2147483648 by omega
                            have b9_17 : zlt (pcB) := show pcB < 2147483648 by omega
                            refine lv_icmp_ge (tgt := 253) hx hb dX11_choose_214 rfl (fun c_15 => ?_) (fun c_15 => ?_)
                            · have c_15 : ((pcB : Nat) : Int) ≤ ((k : Nat) : Int) := zc_le (nI_toInt b9_17) (nI_toInt b9_16) c_15
                              refine lv_iinc (v := nI (r9 + 1)) (lv' := [(1, .int (nI (r9 + 1))), (6, .int (nI k)), (5, .int (grB iB)), (4, .int (nI ((40 * b9 + (nN (mn b9))) - 1))), (3, .int (grA iA)), (2, .int zb), (0, .ref k0)]) hx hb dX11_choose_253 hl (k := 5) rfl (nI_add r9 1) (Nat.le_of_ble_eq_true rfl) rfl (fun ls hl => ?_)
                              refine lv_goto (tgt := 49) hx hb dX11_choose_256 rfl ?_
                              exact ih_49 (r9 + 1) pcB (fun j => D j ∨ j = b9) (upd mt1 b9 1) (upd mk1 b9 (pI ((chM (rdF ft st tn kd) (chW rk mn cx cy) (chB cx cy) (chL mn cx cy)) b9))) jxB jyB gr2 S2 H locs ls (by first | with_reducible assumption | omega) (by first | with_reducible assumption | omega) (hds.1) (Nat.lt_of_le_of_lt hDc (cntP_lt (fun j h => Or.inl h) hbk (Or.inr rfl) hDb)) (chT_s hmt) (chK_s hmk) (chI_un hcB hiA hB1.1 eA hB2 (fun k9 h9 => by rw [hgA]; exact hg1 k9 (by first | with_reducible assumption | omega))) (by first | with_reducible assumption | omega) hP hD hS (lv_sub hl [0, 6] rfl)
                            · have c_15 : ((k : Nat) : Int) < ((pcB : Nat) : Int) := zc_nle (nI_toInt b9_17) (nI_toInt b9_16) c_15
                              refine lv_aload_n hx hb dX11_choose_217 rfl (lv_at hl 6 rfl) ?_
                              refine va_get (D := (dC, dI)) (ci := 9) (v := .ref (a 53)) (C := RX11) (T := TX11) (N := 55) hx hb hts inX11 hown hK hP 0 rfl rfl 53 (Nat.le_of_ble_eq_true rfl) (hts _ mw_1212) (fun _ h9 => h9) rfl dX11_choose_218 ?_
                              refine lv_iload hx hb dX11_choose_221 (lv_at hl 0 rfl) ?_
                              refine lv_aload_n hx hb dX11_choose_223 rfl (lv_at hl 6 rfl) ?_
                              refine va_get (D := (dC, dI)) (ci := 9) (v := .ref (a 53)) (C := RX11) (T := TX11) (N := 55) hx hb hts inX11 hown hK hP 0 rfl rfl 53 (Nat.le_of_ble_eq_true rfl) (hts _ mw_1212) (fun _ h9 => h9) rfl dX11_choose_224 ?_
                              refine lv_iload hx hb dX11_choose_227 (lv_at hl 0 rfl) ?_
                              have b9_18 : k < 402 := by omega
                              refine z_iald hx hb hK hP 28 0 rfl rfl (e := k) rfl b9_18 (Nat.le_of_ble_eq_true rfl) dX11_choose_229 ?_
                              refine lv_iload hx hb dX11_choose_230 (lv_at hl 1 rfl) ?_
                              refine lv_icmp_ne (tgt := 239) hx hb dX11_choose_232 rfl (fun c_19 => ?_) (fun c_19 => ?_)
                              · have c_19 : ¬ (gr2 k).toInt = (grB iB).toInt := zc_ne rfl rfl c_19
                                refine lv_aload_n hx hb dX11_choose_239 rfl (lv_at hl 6 rfl) ?_
                                refine va_get (D := (dC, dI)) (ci := 9) (v := .ref (a 53)) (C := RX11) (T := TX11) (N := 55) hx hb hts inX11 hown hK hP 0 rfl rfl 53 (Nat.le_of_ble_eq_true rfl) (hts _ mw_1212) (fun _ h9 => h9) rfl dX11_choose_240 ?_
                                refine lv_iload hx hb dX11_choose_243 (lv_at hl 0 rfl) ?_
                                refine z_iald hx hb hK hP 28 0 rfl rfl (e := k) rfl b9_18 (Nat.le_of_ble_eq_true rfl) dX11_choose_245 ?_
                                refine z_iast hx hb hK hP hD hS 28 0 rfl rfl (e := k) (x := gr2 k) rfl b9_18 (Nat.le_of_ble_eq_true rfl) dX11_choose_246 (fun H locs hP hD hS => ?_)
                                obtain ⟨hP, hD⟩ := zre (W2 := [_, _, _, _, _, _, _, _, _, _, _, _, _, _, _, _, _, _, _, _, _, _, _, _, _, _, _, _, (oa (a 53) cI 402 (upd gr2 k (gr2 k)))]) hP hD rfl
                                refine lv_iinc (v := nI (k + 1)) (lv' := [(6, .int (nI (k + 1))), (5, .int (grB iB)), (4, .int (nI ((40 * b9 + (nN (mn b9))) - 1))), (3, .int (grA iA)), (2, .int zb), (1, .int (nI r9)), (0, .ref k0)]) hx hb dX11_choose_247 hl (k := 0) rfl (nI_add k 1) (Nat.le_of_ble_eq_true rfl) rfl (fun ls hl => ?_)
                                refine lv_goto (tgt := 208) hx hb dX11_choose_250 rfl ?_
                                exact ih_208 (k + 1) (upd gr2 k (gr2 k)) H locs ls (by first | with_reducible assumption | omega) (by first | with_reducible assumption | omega) (chG_s hg1 (hg2 k (Nat.le_refl _)) (by first | exact Or.inl ⟨by omega, rfl⟩ | exact Or.inr ⟨by omega, rfl⟩)) (fun j hj => by rw [show upd gr2 k _ j = gr2 j from if_neg (by first | with_reducible assumption | omega)]; exact hg2 j (by first | with_reducible assumption | omega)) hP hD hS (lv_sub hl [0, 1, 2, 3, 4, 5, 6] rfl)
                              · have c_19 : (gr2 k).toInt = (grB iB).toInt := zc_eq rfl rfl c_19
                                refine lv_iload_n hx hb dX11_choose_235 rfl (lv_at hl 3 rfl) ?_
                                refine lv_goto (tgt := 246) hx hb dX11_choose_236 rfl ?_
                                refine z_iast hx hb hK hP hD hS 28 0 rfl rfl (e := k) (x := grA iA) rfl b9_18 (Nat.le_of_ble_eq_true rfl) dX11_choose_246 (fun H locs hP hD hS => ?_)
                                obtain ⟨hP, hD⟩ := zre (W2 := [_, _, _, _, _, _, _, _, _, _, _, _, _, _, _, _, _, _, _, _, _, _, _, _, _, _, _, _, (oa (a 53) cI 402 (upd gr2 k (grA iA)))]) hP hD rfl
                                refine lv_iinc (v := nI (k + 1)) (lv' := [(6, .int (nI (k + 1))), (5, .int (grB iB)), (4, .int (nI ((40 * b9 + (nN (mn b9))) - 1))), (3, .int (grA iA)), (2, .int zb), (1, .int (nI r9)), (0, .ref k0)]) hx hb dX11_choose_247 hl (k := 0) rfl (nI_add k 1) (Nat.le_of_ble_eq_true rfl) rfl (fun ls hl => ?_)
                                refine lv_goto (tgt := 208) hx hb dX11_choose_250 rfl ?_
                                exact ih_208 (k + 1) (upd gr2 k (grA iA)) H locs ls (by first | with_reducible assumption | omega) (by first | with_reducible assumption | omega) (chG_s hg1 (hg2 k (Nat.le_refl _)) (by first | exact Or.inl ⟨by omega, rfl⟩ | exact Or.inr ⟨by omega, rfl⟩)) (fun j hj => by rw [show upd gr2 k _ j = gr2 j from if_neg (by first | with_reducible assumption | omega)]; exact hg2 j (by first | with_reducible assumption | omega)) hP hD hS (lv_sub hl [0, 1, 2, 3, 4, 5, 6] rfl)
                        exact hl_208 _ 0 grB H locs ls (Nat.lt_succ_self _) (by first | with_reducible assumption | omega) (by intro j hj; omega) (fun j hj => rfl) hP hD hS (lv_sub hl [0, 1, 2, 3, 4, 5, 6] rfl)
                      refine lv_icmp_ne (tgt := 203) hx hb dX11_choose_196 rfl (fun c_20 => ?_) (fun c_20 => ?_)
                      · have c_20 : ¬ (grA iA).toInt = (grB iB).toInt := zc_ne rfl rfl c_20
                        refine lv_iconst (v := 0) hx hb dX11_choose_203 rfl ?_
                        refine zz_i (v := pI ((chM (rdF ft st tn kd) (chW rk mn cx cy) (chB cx cy) (chL mn cx cy)) b9)) (by first | exact (zp_t (hmq.mpr (by omega))).symm | exact (zp_f (fun h => absurd (hmq.mp h) (by omega))).symm) ?_
                        exact hj_14 
                      · have c_20 : (grA iA).toInt = (grB iB).toInt := zc_eq rfl rfl c_20
                        refine lv_iconst (v := 1) hx hb dX11_choose_199 rfl ?_
                        refine lv_goto (tgt := 204) hx hb dX11_choose_200 rfl ?_
                        refine zz_i (v := pI ((chM (rdF ft st tn kd) (chW rk mn cx cy) (chB cx cy) (chL mn cx cy)) b9)) (by first | exact (zp_t (hmq.mpr (by omega))).symm | exact (zp_f (fun h => absurd (hmq.mp h) (by omega))).symm) ?_
                        exact hj_14 
                    · have c_8 : zb.toInt = (-1) := zc_eq rfl rfl c_8
                      refine lv_goto (tgt := 259) hx hb dX11_choose_110 rfl ?_
                      have hall : ∀ j, j < ft → (rdF ft st tn kd) j → D j := (by first | exact (fun j hj _ => cntP_all (by omega) j hj) | exact fun j hj hR => (bst_no hat (by omega) (by omega) j (by omega)).resolve_left (fun h => h hR))
                      have hmkF : ∀ j, j < ft → mk1 j = pI ((chM (rdF ft st tn kd) (chW rk mn cx cy) (chB cx cy) (chL mn cx cy)) j) := fun j hj => (by rw [hmk j hj]; exact zp_iff ⟨fun h => h.2, fun h => ⟨hall j hj h.1, h⟩⟩)
                      refine lv_aload_n hx hb dX11_choose_259 rfl (lv_at hl 3 rfl) ?_
                      refine lv_bipush (v := 9) hx hb dX11_choose_260 rfl ?_
                      obtain ⟨hPc, hDc, hFc⟩ := zo_sub (wc := [_, _, _, _, _, _, _, _, _, _, _, _, _, _, _, _, _, _, _, _, _, _, _, _]) hP hD hS hA [0, 1, 2, 3, 4, 5, 6, 7, 8, 9, 10, 11, 12, 13, 14, 15, 16, 17, 18, 19, 20, 21, 22, 24] (by decide +kernel) rfl
                      refine zcall (st1 := [.int (nI (cntP (chM (rdF ft st tn kd) (chW rk mn cx cy) (chB cx cy) (chL mn cx cy)) ft))]) (va_runV (As := [.int 9]) (rest := []) ⟨hx, hb, hml, hown, hts⟩ (k_M_dropMarked_y l dC dI cI cZ cF H.size k0 a (upd (upd I0 26 (nI ln)) 54 (nI pcn)) J0 9 ft dn bs w0 cp c1 c2 ln cl kd st gb it pa pb rk wd tw tn mn cx cy sa sh wh of9 we la lb lc ld mk1 (chM (rdF ft st tn kd) (chW rk mn cx cy) (chB cx cy) (chL mn cx cy)) (hft) (by first | with_reducible assumption | omega) (hmkF) (fun j hj h => h.1.1.2.1) (hz) (hdn) (hbs) (by first | with_reducible assumption | omega) (by first | with_reducible assumption | omega) (hlc) (hcl1) (hclm) (hi5_1) (hsa_1) (hmn_1) (hc1_1) (hpw_1) (hw0_1) (hfit_1) (hmin_1) (hcE_1) (hpw_2) (hfit_2) (hmin_2) (hcE_2)) (csV_219 hts rfl rfl ⟨Nat.le_of_ble_eq_true rfl, Nat.le_of_ble_eq_true rfl⟩) (zPV2 (q0 := 0) (ci := 9) hPc hDc hK hXN rfl rfl) rfl rfl hl.1 rfl (lv_room (Nat.le_of_ble_eq_true rfl)) dX11_choose_262 ⟨show (0 + (c2 - cp)) ≤ c2 - cp by omega, show (0 + (8192 * (c2 - cp))) ≤ 8192 * (c2 - cp) by omega⟩) hS hFc hFc rfl (fun t H locs ht hB hk1 hS => ?_)
                      refine ex7 hB (fun b2 sh2 t9 la1 lb1 lc1 ld1 hB0 => ?_)
                      clear hB
                      obtain ⟨p0, p1, p2, p3, p4, p5, p6, hP1, hD1⟩ := hB0
                      rw [ht] at hP1
                      obtain ⟨hP, hD⟩ := zn (W2 := [_, _, _, _, _, (om k0 (va_up a 28 b2) (upd (upd (upd (upd (upd (upd I0 14 0) 19 (nI (dn + 1))) 20 0) 26 (nI t9)) 41 (nI (psN (nnF (gnA (chM (rdF ft st tn kd) (chW rk mn cx cy) (chB cx cy) (chL mn cx cy)) ft 2 st) tn mn) (psN (nnF st tn mn) w0 ft) ft))) 54 (nI pcn)) J0), (oa (a 1) cI 201 kd), (oa (a 5) cI 201 (gnA (chM (rdF ft st tn kd) (chW rk mn cx cy) (chB cx cy) (chL mn cx cy)) ft 2 st)), (oa (a 7) cI 201 (gnA (chM (rdF ft st tn kd) (chW rk mn cx cy) (chB cx cy) (chL mn cx cy)) ft (nI (dn + 1)) gb)), (oa (a 10) cI 201 (gnA (chM (rdF ft st tn kd) (chW rk mn cx cy) (chB cx cy) (chL mn cx cy)) ft (-1 : Int32) it)), (oa (a 8) cI 201 pa), (oa (a 9) cI 201 pb), (oa (a 2) cI 201 rk), (oa (a 3) cI 201 wd), (oa (a 4) cI 201 tw), (oa (a 6) cZ 201 tn), (oa (a 11) cI 201 mn), (oa (a 12) cI 8040 cx), (oa (a 13) cI 8040 cy), (oa (a 27) cI 516 (upd (upd sa (dn - bs + 1) (nI (psN (nnF st tn mn) w0 ft))) (dn + 1 - bs + 1) (nI (psN (nnF (gnA (chM (rdF ft st tn kd) (chW rk mn cx cy) (chB cx cy) (chL mn cx cy)) ft 2 st) tn mn) (psN (nnF st tn mn) w0 ft) ft)))), (oa b2 cI (4096 * c2) sh2), (oa (a 16) cI 514 (upd wh (dn + 1) (9 : Int32))), (oa (a 17) cI 514 (upd of9 (dn + 1) (-1 : Int32))), (oa (a 18) cI 514 (upd we (dn + 1) (nI (cntP (chM (rdF ft st tn kd) (chW rk mn cx cy) (chB cx cy) (chL mn cx cy)) ft)))), (oa (a 22) cI (64 * cl) la1), (oa (a 23) cI (64 * cl) lb1), (oa (a 24) cI (64 * cl) lc1), (oa (a 25) cI (64 * cl) ld1), (oa (a 50) cZ 201 mk1)]) hP hD hk1 hFc hP1 hD1 zl_263 zl_264 zl_265 zl_266 (by decide +kernel) rfl rfl rfl rfl rfl
                      clear hk1 hPc hDc hFc hP1 hD1 ht
                      obtain ⟨hP9, hD9⟩ := zq_sub (wc := [_, _, _, _, _, _, _, _, _, _, _, _, _, _, _, _, _, _, _, _, _, _, _, _, _, _, _, _, _]) hP hD [5, 6, 7, 8, 9, 10, 11, 12, 13, 14, 15, 16, 17, 18, 19, 20, 21, 22, 23, 24, 25, 26, 27, 0, 28, 1, 2, 3, 4] rfl rfl
                      refine W.widen (k := c2 - cp) (n := 8192 * (c2 - cp)) (by omega) (by omega) ?_
                      rw [hQ9]
                      exact W.iret (v := nI (cntP (chM (rdF ft st tn kd) (chW rk mn cx cy) (chB cx cy) (chL mn cx cy)) ft)) hx hb hr (fun t ht hW => ⟨⟨rfl, b2, sh2, t9, la1, lb1, lc1, ld1, pcn, S2, mk1, mt1, jx1, jy1, gr1, (p0), (p1), (p2), (p3), (p4), (p5), (p6), by rw [ht]; exact hP9, hD9⟩, hS.F ht⟩) hS.2.2 dX11_choose_265
                  · have c_6 : ((q : Nat) : Int) < ((ft : Nat) : Int) := zc_nle (nI_toInt b9_3) (nI_toInt b9_7) c_6
                    refine lv_aload_n hx hb dX11_choose_69 rfl (lv_at hl 3 rfl) ?_
                    refine va_get (D := (dC, dI)) (ci := 9) (v := .ref (a 37)) (C := RX11) (T := TX11) (N := 55) hx hb hts inX11 hown hK hP 0 rfl rfl 37 (Nat.le_of_ble_eq_true rfl) (hts _ mw_1196) (fun _ h9 => h9) rfl dX11_choose_70 ?_
                    refine lv_iload_n hx hb dX11_choose_73 rfl (lv_at hl 0 rfl) ?_
                    have b9_21 : q < 201 := by omega
                    refine z_zald hx hb hK hP 25 1 rfl rfl (e := q) rfl b9_21 (Nat.le_of_ble_eq_true rfl) dX11_choose_74 ?_
                    refine zz_i (v := pI (¬ (rdF ft st tn kd) q ∨ D q)) (hmt q (by omega)) ?_
                    refine lv_if_ne (tgt := 99) hx hb dX11_choose_75 rfl (fun c_22 => ?_) (fun c_22 => ?_)
                    · have c_22 : ¬ (rdF ft st tn kd) q ∨ D q := zp_1 c_22
                      refine lv_iinc (v := nI (q + 1)) (lv' := [(3, .int (nI (q + 1))), (2, .int zb), (1, .int (nI r9)), (0, .ref k0)]) hx hb dX11_choose_99 hl (k := 0) rfl (nI_add q 1) (Nat.le_of_ble_eq_true rfl) rfl (fun ls hl => ?_)
                      refine lv_goto (tgt := 61) hx hb dX11_choose_102 rfl ?_
                      exact ih_61 (q + 1) zb S2 H locs ls (by first | with_reducible assumption | omega) (by first | with_reducible assumption | omega) (by first | exact bst_f hat (by first | with_reducible assumption | assumption) | exact bst_n hat (by first | with_reducible assumption | omega) (by first | with_reducible assumption | omega) (by first | with_reducible assumption | assumption) | exact bst_l hz9 hbk hbF hbm (by first | with_reducible assumption | assumption) (by first | with_reducible assumption | omega) | exact bst_g hz9 hbk hbF hbm (by first | with_reducible assumption | omega)) hP hD hS (lv_sub hl [0, 1, 2, 3] rfl)
                    · have c_22 : ¬ (¬ (rdF ft st tn kd) q ∨ D q) := zp_0 c_22
                      refine lv_iload_n hx hb dX11_choose_78 rfl (lv_at hl 1 rfl) ?_
                      refine lv_iconst (v := (-1)) hx hb dX11_choose_79 rfl ?_
                      refine lv_icmp_eq (tgt := 97) hx hb dX11_choose_80 rfl (fun c_23 => ?_) (fun c_23 => ?_)
                      · have c_23 : zb.toInt = (-1) := zc_eq rfl rfl c_23
                        refine lv_iload_n hx hb dX11_choose_97 rfl (lv_at hl 0 rfl) ?_
                        refine lv_istore_n (lv' := [(2, .int (nI q)), (3, .int (nI q)), (1, .int (nI r9)), (0, .ref k0)]) hx hb dX11_choose_98 rfl hl (Nat.le_of_ble_eq_true rfl) rfl (fun ls hl => ?_)
                        refine lv_iinc (v := nI (q + 1)) (lv' := [(3, .int (nI (q + 1))), (2, .int (nI q)), (1, .int (nI r9)), (0, .ref k0)]) hx hb dX11_choose_99 hl (k := 1) rfl (nI_add q 1) (Nat.le_of_ble_eq_true rfl) rfl (fun ls hl => ?_)
                        refine lv_goto (tgt := 61) hx hb dX11_choose_102 rfl ?_
                        exact ih_61 (q + 1) (nI q) S2 H locs ls (by first | with_reducible assumption | omega) (by first | with_reducible assumption | omega) (by first | exact bst_f hat (by first | with_reducible assumption | assumption) | exact bst_n hat (by first | with_reducible assumption | omega) (by first | with_reducible assumption | omega) (by first | with_reducible assumption | assumption) | exact bst_l hz9 hbk hbF hbm (by first | with_reducible assumption | assumption) (by first | with_reducible assumption | omega) | exact bst_g hz9 hbk hbF hbm (by first | with_reducible assumption | omega)) hP hD hS (lv_sub hl [0, 1, 2, 3] rfl)
                      · have c_23 : ¬ zb.toInt = (-1) := zc_ne rfl rfl c_23
                        have hRq_q : (rdF ft st tn kd) q := (Classical.byContradiction fun h => (show ¬ (¬ (rdF ft st tn kd) q ∨ D q) by assumption) (Or.inl h))
                        have hw_q := hwf q hRq_q.1
                        have hn_q := hw_q.2.1
                        have hk_q := hrk q hRq_q.1
                        have hc_q := chW_b hk_q hw_q
                        refine lv_aload_n hx hb dX11_choose_83 rfl (lv_at hl 3 rfl) ?_
                        refine lv_iload_n hx hb dX11_choose_84 rfl (lv_at hl 0 rfl) ?_
                        obtain ⟨hPc, hDc, hFc⟩ := zo_sub (wc := [_, _, _, _, _, _]) hP hD hS hA [0, 7, 11, 12, 13, 23] (by decide +kernel) rfl
                        refine zcall (st1 := [.long (jI (((rk q).toInt + 1) * ((ln2 (cF40 cx q) (cF40 cy q) ((nN (mn q)) - 1) : Nat) : Int)))]) (va_runV (As := [.int (nI q)]) (rest := []) ⟨hx, hb, hml, hown, hts⟩ (k_M_weight l dC dI cI cZ cF H.size k0 a (upd (upd I0 26 (nI ln)) 54 (nI pcn)) J0 q (nN (mn q)) rk mn cx cy S2 (by first | with_reducible assumption | omega) (hw_q.1) (hw_q.2.1) (hw_q.2.2) (hk_q)) (csV_228 hts rfl rfl ⟨Nat.le_of_ble_eq_true rfl, Nat.le_of_ble_eq_true rfl⟩) (zPV2 (q0 := 0) (ci := 9) hPc hDc hK hXN rfl rfl) rfl rfl hl.1 rfl (lv_room (Nat.le_of_ble_eq_true rfl)) dX11_choose_85 ⟨Nat.zero_le _, Nat.zero_le _⟩) hS hFc hFc rfl (fun t H locs ht hB hk1 hS => ?_)
                        obtain ⟨S3, hP1, hD1⟩ := hB
                        rw [ht] at hP1
                        obtain ⟨hP, hD⟩ := zn (W2 := [_, _, _, _, _, _, _, _, _, _, _, _, _, _, _, _, _, _, _, _, _, _, _, (oa (a 32) cI 8 S3), _, _, _, _, _]) hP hD hk1 hFc hP1 hD1 [0, 7, 11, 12, 13, 23] zl_268 zl_268 [0, 7, 11, 12, 13, 23] (by decide +kernel) rfl rfl rfl rfl rfl
                        clear hk1 hPc hDc hFc hP1 hD1 ht
                        refine zz_l (v := jI ((chW rk mn cx cy q : Nat) : Int)) (chW_e hk_q) ?_
                        refine lv_aload_n hx hb dX11_choose_88 rfl (lv_at hl 3 rfl) ?_
                        obtain ⟨b9, hz9, hbk, hbF, hbm⟩ := bst_get hat (by omega)
                        have hRq_b9 : (rdF ft st tn kd) b9 := (Classical.byContradiction fun h => hbF (Or.inl h))
                        have hw_b9 := hwf b9 hRq_b9.1
                        have hn_b9 := hw_b9.2.1
                        have hk_b9 := hrk b9 hRq_b9.1
                        have hc_b9 := chW_b hk_b9 hw_b9
                        refine lv_iload_n hx hb dX11_choose_89 rfl (lv_at hl 1 rfl) ?_
                        refine zz_i (v := nI b9) (hz9) ?_
                        obtain ⟨hPc, hDc, hFc⟩ := zo_sub (wc := [_, _, _, _, _, _]) hP hD hS hA [0, 7, 11, 12, 13, 23] (by decide +kernel) rfl
                        refine zcall (st1 := [.long (jI (((rk b9).toInt + 1) * ((ln2 (cF40 cx b9) (cF40 cy b9) ((nN (mn b9)) - 1) : Nat) : Int))), .long (jI ((chW rk mn cx cy q : Nat) : Int))]) (va_runV (As := [.int (nI b9)]) (rest := [.long (jI ((chW rk mn cx cy q : Nat) : Int))]) ⟨hx, hb, hml, hown, hts⟩ (k_M_weight l dC dI cI cZ cF H.size k0 a (upd (upd I0 26 (nI ln)) 54 (nI pcn)) J0 b9 (nN (mn b9)) rk mn cx cy S3 (by first | with_reducible assumption | omega) (hw_b9.1) (hw_b9.2.1) (hw_b9.2.2) (hk_b9)) (csV_228 hts rfl rfl ⟨Nat.le_of_ble_eq_true rfl, Nat.le_of_ble_eq_true rfl⟩) (zPV2 (q0 := 0) (ci := 9) hPc hDc hK hXN rfl rfl) rfl rfl hl.1 rfl (lv_room (Nat.le_of_ble_eq_true rfl)) dX11_choose_90 ⟨Nat.zero_le _, Nat.zero_le _⟩) hS hFc hFc rfl (fun t H locs ht hB hk1 hS => ?_)
                        obtain ⟨S4, hP1, hD1⟩ := hB
                        rw [ht] at hP1
                        obtain ⟨hP, hD⟩ := zn (W2 := [_, _, _, _, _, _, _, _, _, _, _, _, _, _, _, _, _, _, _, _, _, _, _, (oa (a 32) cI 8 S4), _, _, _, _, _]) hP hD hk1 hFc hP1 hD1 [0, 7, 11, 12, 13, 23] zl_268 zl_268 [0, 7, 11, 12, 13, 23] (by decide +kernel) rfl rfl rfl rfl rfl
                        clear hk1 hPc hDc hFc hP1 hD1 ht
                        refine zz_l (v := jI ((chW rk mn cx cy b9 : Nat) : Int)) (chW_e hk_b9) ?_
                        refine W.lcmp hx hb dX11_choose_93 ?_
                        refine lv_if_ge (tgt := 99) hx hb dX11_choose_94 rfl (fun c_24 => ?_) (fun c_24 => ?_)
                        · have c_24 : ((chW rk mn cx cy b9 : Nat) : Int) ≤ ((chW rk mn cx cy q : Nat) : Int) := zl_ge (jI_toInt (by omega)) (jI_toInt (by omega)) c_24
                          refine lv_iinc (v := nI (q + 1)) (lv' := [(3, .int (nI (q + 1))), (2, .int zb), (1, .int (nI r9)), (0, .ref k0)]) hx hb dX11_choose_99 hl (k := 0) rfl (nI_add q 1) (Nat.le_of_ble_eq_true rfl) rfl (fun ls hl => ?_)
                          refine lv_goto (tgt := 61) hx hb dX11_choose_102 rfl ?_
                          exact ih_61 (q + 1) zb S4 H locs ls (by first | with_reducible assumption | omega) (by first | with_reducible assumption | omega) (by first | exact bst_f hat (by first | with_reducible assumption | assumption) | exact bst_n hat (by first | with_reducible assumption | omega) (by first | with_reducible assumption | omega) (by first | with_reducible assumption | assumption) | exact bst_l hz9 hbk hbF hbm (by first | with_reducible assumption | assumption) (by first | with_reducible assumption | omega) | exact bst_g hz9 hbk hbF hbm (by first | with_reducible assumption | omega)) hP hD hS (lv_sub hl [0, 1, 2, 3] rfl)
                        · have c_24 : ((chW rk mn cx cy q : Nat) : Int) < ((chW rk mn cx cy b9 : Nat) : Int) := zl_nge (jI_toInt (by omega)) (jI_toInt (by omega)) c_24
                          refine lv_iload_n hx hb dX11_choose_97 rfl (lv_at hl 0 rfl) ?_
                          refine lv_istore_n (lv' := [(2, .int (nI q)), (3, .int (nI q)), (1, .int (nI r9)), (0, .ref k0)]) hx hb dX11_choose_98 rfl hl (Nat.le_of_ble_eq_true rfl) rfl (fun ls hl => ?_)
                          refine lv_iinc (v := nI (q + 1)) (lv' := [(3, .int (nI (q + 1))), (2, .int (nI q)), (1, .int (nI r9)), (0, .ref k0)]) hx hb dX11_choose_99 hl (k := 1) rfl (nI_add q 1) (Nat.le_of_ble_eq_true rfl) rfl (fun ls hl => ?_)
                          refine lv_goto (tgt := 61) hx hb dX11_choose_102 rfl ?_
                          exact ih_61 (q + 1) (nI q) S4 H locs ls (by first | with_reducible assumption | omega) (by first | with_reducible assumption | omega) (by first | exact bst_f hat (by first | with_reducible assumption | assumption) | exact bst_n hat (by first | with_reducible assumption | omega) (by first | with_reducible assumption | omega) (by first | with_reducible assumption | assumption) | exact bst_l hz9 hbk hbF hbm (by first | with_reducible assumption | assumption) (by first | with_reducible assumption | omega) | exact bst_g hz9 hbk hbF hbm (by first | with_reducible assumption | omega)) hP hD hS (lv_sub hl [0, 1, 2, 3] rfl)
              exact hl_61 _ 0 (-1) S1 H locs ls (Nat.lt_succ_self _) (by first | with_reducible assumption | omega) (bst_0 _ _) hP hD hS (lv_sub hl [0, 1, 2, 3] rfl)
        exact hl_49 _ 0 0 (fun _ => False) mt0 mk0 jx jy gr S0 H locs ls (Nat.lt_succ_self _) (by first | with_reducible assumption | omega) (chD_0 _ _) (Nat.zero_le _) (fun j hj => ht0 j (by first | with_reducible assumption | omega)) (fun j hj => hm0 j (by first | with_reducible assumption | omega)) (chI_0 _ _ _ _) (by first | with_reducible assumption | omega) hP hD hS (lv_sub hl [0, 1] rfl)
      · have c_1 : ((q : Nat) : Int) < ((ft : Nat) : Int) := zc_nle (nI_toInt b9_3) (nI_toInt b9_2) c_1
        refine lv_aload_n hx hb dX11_choose_15 rfl (lv_at hl 1 rfl) ?_
        refine va_get (D := (dC, dI)) (ci := 9) (v := .ref (a 50)) (C := RX11) (T := TX11) (N := 55) hx hb hts inX11 hown hK hP 0 rfl rfl 50 (Nat.le_of_ble_eq_true rfl) (hts _ mw_1209) (fun _ h9 => h9) rfl dX11_choose_16 ?_
        refine lv_iload_n hx hb dX11_choose_19 rfl (lv_at hl 0 rfl) ?_
        refine lv_iconst (v := 0) hx hb dX11_choose_20 rfl ?_
        have b9_25 : q < 201 := by omega
        refine z_zast hx hb hK hP hD hS 24 1 rfl rfl (e := q) (x := 0) rfl b9_25 (Nat.le_of_ble_eq_true rfl) (by decide) dX11_choose_21 (fun H locs hP hD hS => ?_)
        obtain ⟨hP, hD⟩ := zre (W2 := [_, _, _, _, _, _, _, _, _, _, _, _, _, _, _, _, _, _, _, _, _, _, _, _, (oa (a 50) cZ 201 (upd mk0 q 0)), _, _, _, _]) hP hD rfl
        refine lv_aload_n hx hb dX11_choose_22 rfl (lv_at hl 1 rfl) ?_
        refine va_get (D := (dC, dI)) (ci := 9) (v := .ref (a 37)) (C := RX11) (T := TX11) (N := 55) hx hb hts inX11 hown hK hP 0 rfl rfl 37 (Nat.le_of_ble_eq_true rfl) (hts _ mw_1196) (fun _ h9 => h9) rfl dX11_choose_23 ?_
        refine lv_iload_n hx hb dX11_choose_26 rfl (lv_at hl 0 rfl) ?_
        refine lv_aload_n hx hb dX11_choose_27 rfl (lv_at hl 1 rfl) ?_
        refine lv_iload_n hx hb dX11_choose_28 rfl (lv_at hl 0 rfl) ?_
        obtain ⟨hPc, hDc, hFc, hI1⟩ := zi_sub (wc := [_, _, _, _]) hP hD hS hA [0, 2, 10, 1] (by decide +kernel) rfl
        refine zcall (st1 := [.int (pI (lvF ft st tn q ∧ (kd q).toInt = 3)), .int (nI q), .ref (a 37)]) (va_runV (As := [.int (nI q)]) (rest := [.int (nI q), .ref (a 37)]) ⟨hx, hb, hml, hown, hts⟩ (k_M_isRoad l dC dI cI cZ cF H.size k0 a (upd (upd I0 26 (nI ln)) 54 0) J0 q ft st tn kd (by first | with_reducible assumption | assumption) (by first | with_reducible assumption | omega) (by first | with_reducible assumption | omega)) (csV_229 hts rfl rfl ⟨Nat.le_of_ble_eq_true rfl, Nat.le_of_ble_eq_true rfl⟩) (zPV2 (q0 := 0) (ci := 9) hPc hDc hK hXN rfl rfl) rfl rfl hl.1 rfl (lv_room (Nat.le_of_ble_eq_true rfl)) dX11_choose_29 ⟨Nat.zero_le _, Nat.zero_le _⟩) hS hFc hFc rfl (fun t H locs ht hB hk1 hS => ?_)
        obtain ⟨hP1, hD1⟩ := hB
        rw [ht] at hP1
        replace hP := z0 hP hD hk1 hP1 hI1
        clear hk1 hPc hDc hFc hP1 hD1 ht hI1
        have hj_26 : W p l e ({ frames := 4, cells := c2 - cp, slots := 8192 * (c2 - cp), locals := 93 } : Room) s m ([.ref k0] : List Value).toArray below meth c H locs 0 0 Q9 (F0 m 40 ls [.int (pI (¬ (rdF ft st tn kd) q)), .int (nI q), .ref (a 37)]) := by
          refine z_zast hx hb hK hP hD hS 25 1 rfl rfl (e := q) (x := pI (¬ (rdF ft st tn kd) q)) rfl b9_25 (Nat.le_of_ble_eq_true rfl) (zp_and _) dX11_choose_40 (fun H locs hP hD hS => ?_)
          obtain ⟨hP, hD⟩ := zre (W2 := [_, _, _, _, _, _, _, _, _, _, _, _, _, _, _, _, _, _, _, _, _, _, _, _, _, (oa (a 37) cZ 201 (upd mt0 q (pI (¬ (rdF ft st tn kd) q)))), _, _, _]) hP hD rfl
          refine lv_iinc (v := nI (q + 1)) (lv' := [(1, .int (nI (q + 1))), (0, .ref k0)]) hx hb dX11_choose_41 hl (k := 0) rfl (nI_add q 1) (Nat.le_of_ble_eq_true rfl) rfl (fun ls hl => ?_)
          refine lv_goto (tgt := 7) hx hb dX11_choose_44 rfl ?_
          exact ih_7 (q + 1) (upd mk0 q 0) (upd mt0 q (pI (¬ (rdF ft st tn kd) q))) H locs ls (by first | with_reducible assumption | omega) (by first | with_reducible assumption | omega) (by intro j hj; rcases Nat.lt_or_ge j q with h | h; (rw [show upd mk0 q 0 j = mk0 j from if_neg (by first | with_reducible assumption | omega)]; exact hm0 j h); (rw [show j = q by omega, up_at]; exact (zp_f (fun h => h.1)).symm)) (by intro j hj; rcases Nat.lt_or_ge j q with h | h; (rw [show upd mt0 q _ j = mt0 j from if_neg (by first | with_reducible assumption | omega)]; exact ht0 j h); (rw [show j = q by omega, up_at]; exact zp_iff ⟨Or.inl, fun h => h.resolve_right id⟩)) hP hD hS (lv_sub hl [0, 1] rfl)
        refine lv_if_ne (tgt := 39) hx hb dX11_choose_32 rfl (fun c_27 => ?_) (fun c_27 => ?_)
        · have c_27 : lvF ft st tn q ∧ (kd q).toInt = 3 := zp_1 c_27
          refine lv_iconst (v := 0) hx hb dX11_choose_39 rfl ?_
          refine zz_i (v := pI (¬ (rdF ft st tn kd) q)) (by first | exact (zp_t (by first | with_reducible assumption | assumption)).symm | exact (zp_f (fun h => h (by first | with_reducible assumption | assumption))).symm) ?_
          exact hj_26 
        · have c_27 : ¬ (lvF ft st tn q ∧ (kd q).toInt = 3) := zp_0 c_27
          refine lv_iconst (v := 1) hx hb dX11_choose_35 rfl ?_
          refine lv_goto (tgt := 40) hx hb dX11_choose_36 rfl ?_
          refine zz_i (v := pI (¬ (rdF ft st tn kd) q)) (by first | exact (zp_t (by first | with_reducible assumption | assumption)).symm | exact (zp_f (fun h => h (by first | with_reducible assumption | assumption))).symm) ?_
          exact hj_26 
  exact hl_7 _ 0 mk mt H locs ls (Nat.lt_succ_self _) (by first | with_reducible assumption | omega) (by intro j hj; omega) (by intro j hj; omega) hP hD hS (lv_sub hl [0, 1] rfl)
end
section
set_option maxHeartbeats 4000000 in
set_option maxRecDepth 100000 in
theorem k_M_isClash (l : Launch) (dC : Nat → ClassId) (dI : Nat → Nat → Nat) (cI cZ cF : ClassId) (sz : Nat) (k0 : Nat) (a : Nat → Nat) (I0 : Nat → Int32) (J0 : Nat → Int64) (f : Nat) (g : Nat) (ft : Nat) (gp9 : Int32) (st : Nat → Int32) (tn : Nat → Int32) (kd : Nat → Int32) (mn : Nat → Int32) (cx : Nat → Int32) (cy : Nat → Int32) (S0 : Nat → Int32) (wd : Nat → Int32) (hft : I0 0 = nI ft) (h200 : ft ≤ 200) (hwf : ∀ q, lvF ft st tn q → wfM mn cx cy q) (hef : ∀ q, lvF ft st tn q → 1 ≤ eO (kd q).toInt (nN (mn q))) (hwd : ∀ q, q < ft → 0 ≤ (wd q).toInt ∧ (wd q).toInt ≤ 100) (hgp : 0 ≤ gp9.toInt ∧ gp9.toInt ≤ 200) (hf_t : f < ft) (hg_t : g < ft) : zM l yX11_isClash cX11_isClash 6 (some .boolean) ({ frames := 5, cells := 0, slots := 0, locals := 129 } : Room) [.ref k0, .int (nI f), .int (nI g), .int gp9] (dC, dI) (zTy cI cZ cF) [(om k0 a I0 J0), (oa (a 5) cI 201 st), (oa (a 6) cZ 201 tn), (oa (a 1) cI 201 kd), (oa (a 11) cI 201 mn), (oa (a 12) cI 8040 cx), (oa (a 13) cI 8040 cy), (oa (a 32) cI 8 S0), (oa (a 3) cI 201 wd)] sz (some (.int (pI (clP ft st tn kd mn cx cy wd gp9 f g)))) (fun A t => ∃ (u9 : Int64), ∃ (d9 : Int64), ∃ (S1 : Nat → Int32), zPD (dC, dI) classes A [(om k0 a I0 (vp_updL (vp_updL J0 48 u9) 49 d9)), (oa (a 5) cI 201 st), (oa (a 6) cZ 201 tn), (oa (a 1) cI 201 kd), (oa (a 11) cI 201 mn), (oa (a 12) cI 8040 cx), (oa (a 13) cI 8040 cy), (oa (a 32) cI 8 S1), (oa (a 3) cI 201 wd)] t.heap) 0 0 := by
  refine zIn (own := "ScaleShopModel") (loc := [(0, .ref k0), (1, .int (nI f)), (2, .int (nI g)), (3, .int gp9)]) rfl rfl rfl rfl (fun p e s m below meth c hx hb hr hts hown hlocks hml hnm9 A hA hS hP hD hK hXN Q9 hQ9 ls hl => ?_)
  refine lv_aload_n hx hb dX11_isClash_0 rfl (lv_at hl 0 rfl) ?_
  refine lv_iload_n hx hb dX11_isClash_1 rfl (lv_at hl 1 rfl) ?_
  obtain ⟨hPc, hDc, hFc, hI1⟩ := zi_sub (wc := [_, _, _]) hP hD hS hA [0, 1, 2] rfl rfl
  refine zcall (st1 := [.int (pI (f < ft ∧ (st f).toInt = 1 ∧ (tn f).toInt = 0))]) (va_runV (As := [.int (nI f)]) (rest := []) ⟨hx, hb, hml, hown, hts⟩ (k_M_is_n l dC dI cI cZ cF s.heap.size k0 a I0 J0 f ft st tn (by first | with_reducible assumption | assumption) (by first | with_reducible assumption | omega) (by first | with_reducible assumption | omega)) (csV_179 hts rfl rfl ⟨Nat.le_of_ble_eq_true rfl, Nat.le_of_ble_eq_true rfl⟩) (zPV2 (q0 := 0) (ci := 9) hPc hDc hK hXN rfl rfl) rfl rfl hl.1 rfl (lv_room (Nat.le_of_ble_eq_true rfl)) dX11_isClash_2 ⟨Nat.le_of_ble_eq_true rfl, Nat.le_of_ble_eq_true rfl⟩) hS hFc hFc rfl (fun t H locs ht hB hk1 hS => ?_)
  obtain ⟨hP1, hD1⟩ := hB
  rw [ht] at hP1
  replace hP := z0 hP hD hk1 hP1 hI1
  clear hk1 hPc hDc hFc hP1 hD1 ht hI1
  refine lv_if_eq (tgt := 25) hx hb dX11_isClash_5 rfl (fun c_1 => ?_) (fun c_1 => ?_)
  · have c_1 : ¬ (f < ft ∧ (st f).toInt = 1 ∧ (tn f).toInt = 0) := zp_0 c_1
    refine lv_iconst (v := 0) hx hb dX11_isClash_25 rfl ?_
    obtain ⟨hP9, hD9⟩ := zu_sub (wc := [_, _, _, _, _, _, _, _, _]) hP hD [true, true, true, true, true, true, true, true, true] rfl rfl
    rw [hQ9]
    exact W.zret (ty := .boolean) (v := 0) hx hb hr (rfl) (fun t ht hW => ⟨⟨congrArg (fun z => Outcome.returned (some (Value.int z))) (show (0 : Int32) = pI (clP ft st tn kd mn cx cy wd gp9 f g) from (zp_f (by first | exact fun h => absurd h.1 (by first | with_reducible assumption | assumption) | exact fun h => absurd h.2.1 (by first | with_reducible assumption | assumption) | exact fun h => absurd (by first | with_reducible assumption | assumption) h.2.2.1)).symm), (J0 48), (J0 49), S0, by rw [ht]; exact hP9, hD9⟩, hS.F ht⟩) hS.2.2 dX11_isClash_26
  · have c_1 : f < ft ∧ (st f).toInt = 1 ∧ (tn f).toInt = 0 := zp_1 c_1
    have hw_ff := hwf f (by first | with_reducible assumption | assumption)
    have hm_ff := hw_ff.1
    have hn_ff := hw_ff.2.1
    have hp_ff := hw_ff.2.2
    have he_ff := hef f (by first | with_reducible assumption | assumption)
    refine lv_aload_n hx hb dX11_isClash_8 rfl (lv_at hl 0 rfl) ?_
    refine lv_iload_n hx hb dX11_isClash_9 rfl (lv_at hl 2 rfl) ?_
    obtain ⟨hPc, hDc, hFc, hI1⟩ := zi_sub (wc := [_, _, _]) hP hD hS hA [0, 1, 2] rfl rfl
    refine zcall (st1 := [.int (pI (g < ft ∧ (st g).toInt = 1 ∧ (tn g).toInt = 0))]) (va_runV (As := [.int (nI g)]) (rest := []) ⟨hx, hb, hml, hown, hts⟩ (k_M_is_n l dC dI cI cZ cF H.size k0 a I0 J0 g ft st tn (by first | with_reducible assumption | assumption) (by first | with_reducible assumption | omega) (by first | with_reducible assumption | omega)) (csV_179 hts rfl rfl ⟨Nat.le_of_ble_eq_true rfl, Nat.le_of_ble_eq_true rfl⟩) (zPV2 (q0 := 0) (ci := 9) hPc hDc hK hXN rfl rfl) rfl rfl hl.1 rfl (lv_room (Nat.le_of_ble_eq_true rfl)) dX11_isClash_10 ⟨Nat.le_of_ble_eq_true rfl, Nat.le_of_ble_eq_true rfl⟩) hS hFc hFc rfl (fun t H locs ht hB hk1 hS => ?_)
    obtain ⟨hP1, hD1⟩ := hB
    rw [ht] at hP1
    replace hP := z0 hP hD hk1 hP1 hI1
    clear hk1 hPc hDc hFc hP1 hD1 ht hI1
    refine lv_if_eq (tgt := 25) hx hb dX11_isClash_13 rfl (fun c_2 => ?_) (fun c_2 => ?_)
    · have c_2 : ¬ (g < ft ∧ (st g).toInt = 1 ∧ (tn g).toInt = 0) := zp_0 c_2
      refine lv_iconst (v := 0) hx hb dX11_isClash_25 rfl ?_
      obtain ⟨hP9, hD9⟩ := zu_sub (wc := [_, _, _, _, _, _, _, _, _]) hP hD [true, true, true, true, true, true, true, true, true] rfl rfl
      rw [hQ9]
      exact W.zret (ty := .boolean) (v := 0) hx hb hr (rfl) (fun t ht hW => ⟨⟨congrArg (fun z => Outcome.returned (some (Value.int z))) (show (0 : Int32) = pI (clP ft st tn kd mn cx cy wd gp9 f g) from (zp_f (by first | exact fun h => absurd h.1 (by first | with_reducible assumption | assumption) | exact fun h => absurd h.2.1 (by first | with_reducible assumption | assumption) | exact fun h => absurd (by first | with_reducible assumption | assumption) h.2.2.1)).symm), (J0 48), (J0 49), S0, by rw [ht]; exact hP9, hD9⟩, hS.F ht⟩) hS.2.2 dX11_isClash_26
    · have c_2 : g < ft ∧ (st g).toInt = 1 ∧ (tn g).toInt = 0 := zp_1 c_2
      have hw_gg := hwf g (by first | with_reducible assumption | assumption)
      have hm_gg := hw_gg.1
      have hn_gg := hw_gg.2.1
      have hp_gg := hw_gg.2.2
      have he_gg := hef g (by first | with_reducible assumption | assumption)
      refine lv_aload_n hx hb dX11_isClash_16 rfl (lv_at hl 0 rfl) ?_
      refine lv_iload_n hx hb dX11_isClash_17 rfl (lv_at hl 1 rfl) ?_
      refine lv_iload_n hx hb dX11_isClash_18 rfl (lv_at hl 2 rfl) ?_
      obtain ⟨hPc, hDc, hFc⟩ := zo_sub (wc := [_, _, _, _, _, _]) hP hD hS hA [0, 3, 4, 5, 6, 7] (by decide +kernel) rfl
      refine zcall (st1 := [.int (pI (∃ i, i < eO (kd f).toInt (nN (mn f)) ∧ ∃ j, j < eO (kd g).toInt (nN (mn g)) ∧ eMt (nN (mn f)) (cF40 cx f) (cF40 cy f) i (nN (mn g)) (cF40 cx g) (cF40 cy g) j))]) (va_runV (As := [.int (nI f), .int (nI g)]) (rest := []) ⟨hx, hb, hml, hown, hts⟩ (k_M_isMet l dC dI cI cZ cF H.size k0 a I0 J0 f (nN (mn f)) g (nN (mn g)) kd mn cx cy S0 (by first | with_reducible assumption | omega) (by first | with_reducible assumption | assumption) (by first | with_reducible assumption | omega) (by first | with_reducible assumption | assumption) (by first | with_reducible assumption | omega) (by first | with_reducible assumption | assumption) (by first | with_reducible assumption | omega) (by first | with_reducible assumption | assumption)) (csV_180 hts rfl rfl ⟨Nat.le_of_ble_eq_true rfl, Nat.le_of_ble_eq_true rfl⟩) (zPV2 (q0 := 0) (ci := 9) hPc hDc hK hXN rfl rfl) rfl rfl hl.1 rfl (lv_room (Nat.le_of_ble_eq_true rfl)) dX11_isClash_19 ⟨Nat.le_of_ble_eq_true rfl, Nat.le_of_ble_eq_true rfl⟩) hS hFc hFc rfl (fun t H locs ht hB hk1 hS => ?_)
      obtain ⟨q_3, hP1, hD1⟩ := hB
      rw [ht] at hP1
      obtain ⟨hP, hD⟩ := zn (W2 := [_, _, _, _, _, _, _, (oa (a 32) cI 8 q_3), _]) hP hD hk1 hFc hP1 hD1 [0, 3, 4, 5, 6, 7] zl_173 zl_173 [0, 3, 4, 5, 6, 7] (by decide +kernel) rfl rfl rfl rfl rfl
      clear hk1 hPc hDc hFc hP1 hD1 ht
      refine zz_i (v := pI (mtF (kd f).toInt (nN (mn f)) (cF40 cx f) (cF40 cy f) (kd g).toInt (nN (mn g)) (cF40 cx g) (cF40 cy g))) (rfl) ?_
      refine lv_if_eq (tgt := 27) hx hb dX11_isClash_22 rfl (fun c_4 => ?_) (fun c_4 => ?_)
      · have c_4 : ¬ (mtF (kd f).toInt (nN (mn f)) (cF40 cx f) (cF40 cy f) (kd g).toInt (nN (mn g)) (cF40 cx g) (cF40 cy g)) := zp_0 c_4
        refine lv_aload_n hx hb dX11_isClash_27 rfl (lv_at hl 0 rfl) ?_
        refine lv_iload_n hx hb dX11_isClash_28 rfl (lv_at hl 1 rfl) ?_
        refine lv_iload_n hx hb dX11_isClash_29 rfl (lv_at hl 2 rfl) ?_
        obtain ⟨hPc, hDc, hFc⟩ := zo_sub (wc := [_, _, _, _, _, _]) hP hD hS hA [0, 3, 4, 5, 6, 7] (by decide +kernel) rfl
        refine zcall (st1 := []) (va_runV (As := [.int (nI f), .int (nI g)]) (rest := []) ⟨hx, hb, hml, hown, hts⟩ (k_M_distance_n l dC dI cI cZ cF H.size k0 a I0 J0 f (nN (mn f)) g (nN (mn g)) kd mn cx cy q_3 (by first | with_reducible assumption | omega) (by first | with_reducible assumption | assumption) (by first | with_reducible assumption | omega) (by first | with_reducible assumption | assumption) (by first | with_reducible assumption | omega) (by first | with_reducible assumption | assumption) (by first | with_reducible assumption | omega) (by first | with_reducible assumption | assumption) (by first | with_reducible assumption | assumption) (he_ff) (he_gg)) (csV_226 hts rfl rfl ⟨Nat.le_of_ble_eq_true rfl, Nat.le_of_ble_eq_true rfl⟩) (zPV2 (q0 := 0) (ci := 9) hPc hDc hK hXN rfl rfl) rfl rfl hl.1 rfl (lv_room (Nat.le_of_ble_eq_true rfl)) dX11_isClash_30 ⟨Nat.le_of_ble_eq_true rfl, Nat.le_of_ble_eq_true rfl⟩) hS hFc hFc rfl (fun t H locs ht hB hk1 hS => ?_)
        obtain ⟨un, dd, S1, hmin, hub, hP1, hD1⟩ := hB
        rw [ht] at hP1
        obtain ⟨hP, hD⟩ := zn (W2 := [(om k0 a I0 (vp_updL (vp_updL J0 48 (jI ((un / Nat.gcd un dd : Nat) : Int))) 49 (jI ((dd / Nat.gcd un dd : Nat) : Int)))), _, _, _, _, _, _, (oa (a 32) cI 8 S1), _]) hP hD hk1 hFc hP1 hD1 [0, 3, 4, 5, 6, 7] zl_173 zl_173 [0, 3, 4, 5, 6, 7] (by decide +kernel) rfl rfl rfl rfl rfl
        clear hk1 hPc hDc hFc hP1 hD1 ht
        have hge := Nat.gcd_pos_of_pos_right un (show 0 < dd by omega)
        have hq1 : un / Nat.gcd un dd ≤ un := Nat.div_le_self _ _
        have hq2 : dd / Nat.gcd un dd ≤ dd := Nat.div_le_self _ _
        have hcm := rd_gt (c := ((wd f).toInt + (wd g).toInt + 2 * gp9.toInt) * ((wd f).toInt + (wd g).toInt + 2 * gp9.toInt)) (u := un) (d := dd) hub.2.1
        obtain ⟨uq, huq⟩ : ∃ uq, uq = un / Nat.gcd un dd := ⟨_, rfl⟩
        obtain ⟨dq, hdq⟩ : ∃ dq, dq = dd / Nat.gcd un dd := ⟨_, rfl⟩
        rw [← huq, ← hdq] at hP hD hcm
        rw [← huq] at hq1
        rw [← hdq] at hq2
        have hwf9 := hwd f (by omega)
        have hwg9 := hwd g (by omega)
        have hcb := clB (c := ((wd f).toInt + (wd g).toInt + 2 * gp9.toInt)) (D := dq) (by omega) (by omega)
        refine lv_aload_n hx hb dX11_isClash_33 rfl (lv_at hl 0 rfl) ?_
        refine va_get (D := (dC, dI)) (ci := 9) (v := .ref (a 3)) (C := RX11) (T := TX11) (N := 55) hx hb hts inX11 hown hK hP 0 rfl rfl 3 (Nat.le_of_ble_eq_true rfl) (hts _ mw_1162) (fun _ h9 => h9) rfl dX11_isClash_34 ?_
        refine lv_iload_n hx hb dX11_isClash_37 rfl (lv_at hl 1 rfl) ?_
        have b9_5 : f < 201 := by omega
        refine z_iald hx hb hK hP 8 0 rfl rfl (e := f) rfl b9_5 (Nat.le_of_ble_eq_true rfl) dX11_isClash_38 ?_
        refine lv_aload_n hx hb dX11_isClash_39 rfl (lv_at hl 0 rfl) ?_
        refine va_get (D := (dC, dI)) (ci := 9) (v := .ref (a 3)) (C := RX11) (T := TX11) (N := 55) hx hb hts inX11 hown hK hP 0 rfl rfl 3 (Nat.le_of_ble_eq_true rfl) (hts _ mw_1162) (fun _ h9 => h9) rfl dX11_isClash_40 ?_
        refine lv_iload_n hx hb dX11_isClash_43 rfl (lv_at hl 2 rfl) ?_
        have b9_6 : g < 201 := by omega
        refine z_iald hx hb hK hP 8 0 rfl rfl (e := g) rfl b9_6 (Nat.le_of_ble_eq_true rfl) dX11_isClash_44 ?_
        refine lv_iadd hx hb dX11_isClash_45 ?_
        refine lv_i2l (v := ((wd f) + (wd g)).toInt64) hx hb dX11_isClash_46 (rfl) ?_
        refine lv_ldc2 hx hb hown (hts _ mw_1575) dX11_isClash_47 ?_
        refine lv_iload_n hx hb dX11_isClash_50 rfl (lv_at hl 3 rfl) ?_
        refine lv_i2l (v := gp9.toInt64) hx hb dX11_isClash_51 (rfl) ?_
        refine lv_lmul hx hb dX11_isClash_52 ?_
        refine lv_ladd hx hb dX11_isClash_53 ?_
        refine zz_l (v := jI ((wd f).toInt + (wd g).toInt + 2 * gp9.toInt)) (clL hwf9 hwg9 hgp) ?_
        refine lv_lstore (lv' := [(4, .long (jI ((wd f).toInt + (wd g).toInt + 2 * gp9.toInt))), (0, .ref k0), (1, .int (nI f)), (2, .int (nI g)), (3, .int gp9)]) hx hb dX11_isClash_54 hl (Nat.le_of_ble_eq_true rfl) rfl (fun ls hl => ?_)
        refine lv_ldc2 hx hb hown (hts _ mw_1685) dX11_isClash_56 ?_
        refine lv_aload_n hx hb dX11_isClash_59 rfl (lv_at hl 1 rfl) ?_
        refine va_get (D := (dC, dI)) (ci := 9) (v := .long (jI ((uq : Nat) : Int))) (C := RX11) (T := TX11) (N := 55) hx hb hts inX11 hown hK hP 0 rfl rfl 48 (Nat.le_of_ble_eq_true rfl) (hts _ mw_1207) (fun _ h9 => h9) rfl dX11_isClash_60 ?_
        refine lv_lmul hx hb dX11_isClash_63 ?_
        refine zz_l (v := jI (4 * ((uq : Nat) : Int))) (by rw [show (4 : Int64) = jI 4 from rfl]; exact jI_mul (by omega) (by omega) (by omega)) ?_
        refine lv_lload hx hb dX11_isClash_64 (lv_at hl 0 rfl) ?_
        refine lv_lload hx hb dX11_isClash_66 (lv_at hl 0 rfl) ?_
        refine lv_lmul hx hb dX11_isClash_68 ?_
        refine zz_l (v := jI (((wd f).toInt + (wd g).toInt + 2 * gp9.toInt) * ((wd f).toInt + (wd g).toInt + 2 * gp9.toInt))) (jI_mul (by omega) (by omega) (by omega)) ?_
        refine lv_aload_n hx hb dX11_isClash_69 rfl (lv_at hl 1 rfl) ?_
        refine va_get (D := (dC, dI)) (ci := 9) (v := .long (jI ((dq : Nat) : Int))) (C := RX11) (T := TX11) (N := 55) hx hb hts inX11 hown hK hP 0 rfl rfl 49 (Nat.le_of_ble_eq_true rfl) (hts _ mw_1208) (fun _ h9 => h9) rfl dX11_isClash_70 ?_
        refine lv_lmul hx hb dX11_isClash_73 ?_
        refine zz_l (v := jI (((wd f).toInt + (wd g).toInt + 2 * gp9.toInt) * ((wd f).toInt + (wd g).toInt + 2 * gp9.toInt) * ((dq : Nat) : Int))) (jI_mul (by omega) (by omega) (by omega)) ?_
        refine W.lcmp hx hb dX11_isClash_74 ?_
        refine lv_if_ge (tgt := 82) hx hb dX11_isClash_75 rfl (fun c_7 => ?_) (fun c_7 => ?_)
        · have c_7 : (((wd f).toInt + (wd g).toInt + 2 * gp9.toInt) * ((wd f).toInt + (wd g).toInt + 2 * gp9.toInt) * ((dq : Nat) : Int)) ≤ (4 * ((uq : Nat) : Int)) := zl_ge (jI_toInt (by omega)) (jI_toInt (by omega)) c_7
          refine lv_iconst (v := 0) hx hb dX11_isClash_82 rfl ?_
          obtain ⟨hP9, hD9⟩ := zu_sub (wc := [_, _, _, _, _, _, _, _, _]) hP hD [true, true, true, true, true, true, true, true, true] rfl rfl
          rw [hQ9]
          exact W.zret (ty := .boolean) (v := 0) hx hb hr (rfl) (fun t ht hW => ⟨⟨congrArg (fun z => Outcome.returned (some (Value.int z))) (show (0 : Int32) = pI (clP ft st tn kd mn cx cy wd gp9 f g) from (zp_f (by first | exact ⟨by assumption, by assumption, by assumption, fun u9 d9 h9 hI9 => im_gt hmin hI9 (by omega) (by omega) (hcm.mp (by first | with_reducible assumption | assumption))⟩ | exact fun h => absurd (hcm.mpr (h.2.2.2 un dd hub.2.1 hmin)) (by omega))).symm), (jI ((uq : Nat) : Int)), (jI ((dq : Nat) : Int)), S1, by rw [ht]; exact hP9, hD9⟩, hS.F ht⟩) hS.2.2 dX11_isClash_83
        · have c_7 : (4 * ((uq : Nat) : Int)) < (((wd f).toInt + (wd g).toInt + 2 * gp9.toInt) * ((wd f).toInt + (wd g).toInt + 2 * gp9.toInt) * ((dq : Nat) : Int)) := zl_nge (jI_toInt (by omega)) (jI_toInt (by omega)) c_7
          refine lv_iconst (v := 1) hx hb dX11_isClash_78 rfl ?_
          refine lv_goto (tgt := 83) hx hb dX11_isClash_79 rfl ?_
          obtain ⟨hP9, hD9⟩ := zu_sub (wc := [_, _, _, _, _, _, _, _, _]) hP hD [true, true, true, true, true, true, true, true, true] rfl rfl
          rw [hQ9]
          exact W.zret (ty := .boolean) (v := 1) hx hb hr (rfl) (fun t ht hW => ⟨⟨congrArg (fun z => Outcome.returned (some (Value.int z))) (show (1 : Int32) = pI (clP ft st tn kd mn cx cy wd gp9 f g) from (zp_t (by first | exact ⟨by assumption, by assumption, by assumption, fun u9 d9 h9 hI9 => im_gt hmin hI9 (by omega) (by omega) (hcm.mp (by first | with_reducible assumption | assumption))⟩ | exact fun h => absurd (hcm.mpr (h.2.2.2 un dd hub.2.1 hmin)) (by omega))).symm), (jI ((uq : Nat) : Int)), (jI ((dq : Nat) : Int)), S1, by rw [ht]; exact hP9, hD9⟩, hS.F ht⟩) hS.2.2 dX11_isClash_83
      · have c_4 : mtF (kd f).toInt (nN (mn f)) (cF40 cx f) (cF40 cy f) (kd g).toInt (nN (mn g)) (cF40 cx g) (cF40 cy g) := zp_1 c_4
        refine lv_iconst (v := 0) hx hb dX11_isClash_25 rfl ?_
        obtain ⟨hP9, hD9⟩ := zu_sub (wc := [_, _, _, _, _, _, _, _, _]) hP hD [true, true, true, true, true, true, true, true, true] rfl rfl
        rw [hQ9]
        exact W.zret (ty := .boolean) (v := 0) hx hb hr (rfl) (fun t ht hW => ⟨⟨congrArg (fun z => Outcome.returned (some (Value.int z))) (show (0 : Int32) = pI (clP ft st tn kd mn cx cy wd gp9 f g) from (zp_f (by first | exact fun h => absurd h.1 (by first | with_reducible assumption | assumption) | exact fun h => absurd h.2.1 (by first | with_reducible assumption | assumption) | exact fun h => absurd (by first | with_reducible assumption | assumption) h.2.2.1)).symm), (J0 48), (J0 49), q_3, by rw [ht]; exact hP9, hD9⟩, hS.F ht⟩) hS.2.2 dX11_isClash_26
set_option maxHeartbeats 4000000 in
set_option maxRecDepth 100000 in
theorem k_M_clashes_r (l : Launch) (dC : Nat → ClassId) (dI : Nat → Nat → Nat) (cI cZ cF : ClassId) (sz : Nat) (k0 : Nat) (a : Nat → Nat) (I0 : Nat → Int32) (J0 : Nat → Int64) (gp9 : Int32) (hgp : ¬ (0 ≤ gp9.toInt ∧ gp9.toInt ≤ 200)) : zM l yX11_clashes cX11_clashes 5 (some .int) ({ frames := 0, cells := 0, slots := 0, locals := 0 } : Room) [.ref k0, .int gp9] (dC, dI) (zTy cI cZ cF) [(om k0 a I0 J0)] sz (some (.int (-1))) (fun A t => zPD (dC, dI) classes A [(om k0 a I0 J0)] t.heap) 0 0 := by
  refine zIn (own := "ScaleShopModel") (loc := [(0, .ref k0), (1, .int gp9)]) rfl rfl rfl rfl (fun p e s m below meth c hx hb hr hts hown hlocks hml hnm9 A hA hS hP hD hK hXN Q9 hQ9 ls hl => ?_)
  refine lv_iload_n hx hb dX11_clashes_0 rfl (lv_at hl 1 rfl) ?_
  refine lv_if_lt (tgt := 11) hx hb dX11_clashes_1 rfl (fun c_1 => ?_) (fun c_1 => ?_)
  · have c_1 : gp9.toInt < 0 := zc_lt rfl rfl c_1
    refine lv_iconst (v := (-1)) hx hb dX11_clashes_11 rfl ?_
    obtain ⟨hP9, hD9⟩ := zu_sub (wc := [_]) hP hD [true] rfl rfl
    rw [hQ9]
    exact W.iret (v := (-1)) hx hb hr (fun t ht hW => ⟨⟨rfl, by rw [ht]; exact hP9, hD9⟩, hS.F ht⟩) hS.2.2 dX11_clashes_12
  · have c_1 : 0 ≤ gp9.toInt := zc_nlt rfl rfl c_1
    refine lv_iload_n hx hb dX11_clashes_4 rfl (lv_at hl 1 rfl) ?_
    refine lv_sipush (v := 200) hx hb dX11_clashes_5 rfl ?_
    refine lv_icmp_le (tgt := 13) hx hb dX11_clashes_8 rfl (fun c_2 => ?_) (fun c_2 => ?_)
    · have c_2 : gp9.toInt ≤ 200 := zc_le rfl rfl c_2
      exfalso; omega
    · have c_2 : 200 < gp9.toInt := zc_nle rfl rfl c_2
      refine lv_iconst (v := (-1)) hx hb dX11_clashes_11 rfl ?_
      obtain ⟨hP9, hD9⟩ := zu_sub (wc := [_]) hP hD [true] rfl rfl
      rw [hQ9]
      exact W.iret (v := (-1)) hx hb hr (fun t ht hW => ⟨⟨rfl, by rw [ht]; exact hP9, hD9⟩, hS.F ht⟩) hS.2.2 dX11_clashes_12
set_option maxHeartbeats 4000000 in
set_option maxRecDepth 100000 in
theorem k_M_clashes_y (l : Launch) (dC : Nat → ClassId) (dI : Nat → Nat → Nat) (cI cZ cF : ClassId) (sz : Nat) (k0 : Nat) (a : Nat → Nat) (I0 : Nat → Int32) (J0 : Nat → Int64) (ft : Nat) (gp9 : Int32) (st : Nat → Int32) (tn : Nat → Int32) (kd : Nat → Int32) (mn : Nat → Int32) (cx : Nat → Int32) (cy : Nat → Int32) (S0 : Nat → Int32) (wd : Nat → Int32) (hft : I0 0 = nI ft) (h200 : ft ≤ 200) (hwf : ∀ q, lvF ft st tn q → wfM mn cx cy q) (hef : ∀ q, lvF ft st tn q → 1 ≤ eO (kd q).toInt (nN (mn q))) (hwd : ∀ q, q < ft → 0 ≤ (wd q).toInt ∧ (wd q).toInt ≤ 100) (hgp : 0 ≤ gp9.toInt ∧ gp9.toInt ≤ 200) : zM l yX11_clashes cX11_clashes 5 (some .int) ({ frames := 6, cells := 0, slots := 0, locals := 154 } : Room) [.ref k0, .int gp9] (dC, dI) (zTy cI cZ cF) [(om k0 a I0 J0), (oa (a 5) cI 201 st), (oa (a 6) cZ 201 tn), (oa (a 1) cI 201 kd), (oa (a 11) cI 201 mn), (oa (a 12) cI 8040 cx), (oa (a 13) cI 8040 cy), (oa (a 32) cI 8 S0), (oa (a 3) cI 201 wd)] sz (some (.int (nI (clT (clP ft st tn kd mn cx cy wd gp9) ft ft)))) (fun A t => ∃ (u9 : Int64), ∃ (d9 : Int64), ∃ (S1 : Nat → Int32), zPD (dC, dI) classes A [(om k0 a I0 (vp_updL (vp_updL J0 48 u9) 49 d9)), (oa (a 5) cI 201 st), (oa (a 6) cZ 201 tn), (oa (a 1) cI 201 kd), (oa (a 11) cI 201 mn), (oa (a 12) cI 8040 cx), (oa (a 13) cI 8040 cy), (oa (a 32) cI 8 S1), (oa (a 3) cI 201 wd)] t.heap) 0 0 := by
  refine zIn (own := "ScaleShopModel") (loc := [(0, .ref k0), (1, .int gp9)]) rfl rfl rfl rfl (fun p e s m below meth c hx hb hr hts hown hlocks hml hnm9 A hA hS hP hD hK hXN Q9 hQ9 ls hl => ?_)
  refine lv_iload_n hx hb dX11_clashes_0 rfl (lv_at hl 1 rfl) ?_
  refine lv_if_lt (tgt := 11) hx hb dX11_clashes_1 rfl (fun c_1 => ?_) (fun c_1 => ?_)
  · have c_1 : gp9.toInt < 0 := zc_lt rfl rfl c_1
    exfalso; omega
  · have c_1 : 0 ≤ gp9.toInt := zc_nlt rfl rfl c_1
    refine lv_iload_n hx hb dX11_clashes_4 rfl (lv_at hl 1 rfl) ?_
    refine lv_sipush (v := 200) hx hb dX11_clashes_5 rfl ?_
    refine lv_icmp_le (tgt := 13) hx hb dX11_clashes_8 rfl (fun c_2 => ?_) (fun c_2 => ?_)
    · have c_2 : gp9.toInt ≤ 200 := zc_le rfl rfl c_2
      refine lv_iconst (v := 0) hx hb dX11_clashes_13 rfl ?_
      refine lv_istore_n (lv' := [(2, .int 0), (0, .ref k0), (1, .int gp9)]) hx hb dX11_clashes_14 rfl hl (Nat.le_of_ble_eq_true rfl) rfl (fun ls hl => ?_)
      refine lv_iconst (v := 0) hx hb dX11_clashes_15 rfl ?_
      refine lv_istore_n (lv' := [(3, .int 0), (2, .int 0), (0, .ref k0), (1, .int gp9)]) hx hb dX11_clashes_16 rfl hl (Nat.le_of_ble_eq_true rfl) rfl (fun ls hl => ?_)
      have hl_17 : ∀ (n9 : Nat) (a9 : Nat) (u9 : Int64) (d9 : Int64) (S1 : Nat → Int32) (H : Heap) (locs : List Loc) (ls : Array Slot), ft - a9 < n9 → (a9 ≤ ft) → va_P (dC, dI) classes [(om k0 a I0 (vp_updL (vp_updL J0 48 u9) 49 d9)), (oa (a 5) cI 201 st), (oa (a 6) cZ 201 tn), (oa (a 1) cI 201 kd), (oa (a 11) cI 201 mn), (oa (a 12) cI 8040 cx), (oa (a 13) cI 8040 cy), (oa (a 32) cI 8 S1), (oa (a 3) cI 201 wd)] H → va_D A [(om k0 a I0 (vp_updL (vp_updL J0 48 u9) 49 d9)), (oa (a 5) cI 201 st), (oa (a 6) cZ 201 tn), (oa (a 1) cI 201 kd), (oa (a 11) cI 201 mn), (oa (a 12) cI 8040 cx), (oa (a 13) cI 8040 cy), (oa (a 32) cI 8 S1), (oa (a 3) cI 201 wd)] → va_S A s.heap H locs → lv_has ls 5 [(3, .int (nI a9)), (2, .int (nI (clT (clP ft st tn kd mn cx cy wd gp9) ft a9))), (0, .ref k0), (1, .int gp9)] → W p l e ({ frames := 6, cells := 0, slots := 0, locals := 154 } : Room) s m ([.ref k0, .int gp9] : List Value).toArray below meth c H locs 0 0 Q9 (F0 m 17 ls []) := by
        intro n9
        induction n9 with
        | zero => intro a9 u9 d9 S1 H locs ls hm; exact absurd hm (Nat.not_lt_zero _)
        | succ n9 ih_17 =>
          intro a9 u9 d9 S1 H locs ls hm ha9 hP hD hS hl
          have hct := clT_200 (clP ft st tn kd mn cx cy wd gp9) h200 ha9
          refine lv_iload_n hx hb dX11_clashes_17 rfl (lv_at hl 0 rfl) ?_
          refine lv_aload_n hx hb dX11_clashes_18 rfl (lv_at hl 2 rfl) ?_
          refine va_get (D := (dC, dI)) (ci := 9) (v := .int (I0 0)) (C := RX11) (T := TX11) (N := 55) hx hb hts inX11 hown hK hP 0 rfl rfl 0 (Nat.le_of_ble_eq_true rfl) (hts _ mw_1159) (fun _ h9 => h9) rfl dX11_clashes_19 ?_
          refine zz_i (v := nI ft) (hft) ?_
          have b9_4 : zlt (a9) := show a9 < 2147483648 by omega
          have b9_5 : zlt (ft) := show ft < 2147483648 by omega
          refine lv_icmp_ge (tgt := 70) hx hb dX11_clashes_22 rfl (fun c_3 => ?_) (fun c_3 => ?_)
          · have c_3 : ((ft : Nat) : Int) ≤ ((a9 : Nat) : Int) := zc_le (nI_toInt b9_5) (nI_toInt b9_4) c_3
            refine lv_iload_n hx hb dX11_clashes_70 rfl (lv_at hl 1 rfl) ?_
            obtain ⟨hP9, hD9⟩ := zu_sub (wc := [_, _, _, _, _, _, _, _, _]) hP hD [true, true, true, true, true, true, true, true, true] rfl rfl
            rw [hQ9]
            exact W.iret (v := nI (clT (clP ft st tn kd mn cx cy wd gp9) ft a9)) hx hb hr (fun t ht hW => ⟨⟨congrArg (fun z => Outcome.returned (some (Value.int z))) (show (nI (clT (clP ft st tn kd mn cx cy wd gp9) ft a9) : Int32) = nI (clT (clP ft st tn kd mn cx cy wd gp9) ft ft) from zn_eq (by rw [show a9 = ft by omega])), u9, d9, S1, by rw [ht]; exact hP9, hD9⟩, hS.F ht⟩) hS.2.2 dX11_clashes_71
          · have c_3 : ((a9 : Nat) : Int) < ((ft : Nat) : Int) := zc_nle (nI_toInt b9_5) (nI_toInt b9_4) c_3
            refine lv_iload_n hx hb dX11_clashes_25 rfl (lv_at hl 0 rfl) ?_
            refine lv_iconst (v := 1) hx hb dX11_clashes_26 rfl ?_
            refine lv_iadd hx hb dX11_clashes_27 ?_
            refine zz_i (v := nI (a9 + 1)) (nI_add a9 1) ?_
            refine lv_istore (lv' := [(4, .int (nI (a9 + 1))), (3, .int (nI a9)), (2, .int (nI (clT (clP ft st tn kd mn cx cy wd gp9) ft a9))), (0, .ref k0), (1, .int gp9)]) hx hb dX11_clashes_28 hl (Nat.le_of_ble_eq_true rfl) rfl (fun ls hl => ?_)
            have hl_30 : ∀ (n9 : Nat) (b9 : Nat) (u9 : Int64) (d9 : Int64) (S1 : Nat → Int32) (H : Heap) (locs : List Loc) (ls : Array Slot), ft - b9 < n9 → (a9 < b9 ∧ b9 ≤ ft) → va_P (dC, dI) classes [(om k0 a I0 (vp_updL (vp_updL J0 48 u9) 49 d9)), (oa (a 5) cI 201 st), (oa (a 6) cZ 201 tn), (oa (a 1) cI 201 kd), (oa (a 11) cI 201 mn), (oa (a 12) cI 8040 cx), (oa (a 13) cI 8040 cy), (oa (a 32) cI 8 S1), (oa (a 3) cI 201 wd)] H → va_D A [(om k0 a I0 (vp_updL (vp_updL J0 48 u9) 49 d9)), (oa (a 5) cI 201 st), (oa (a 6) cZ 201 tn), (oa (a 1) cI 201 kd), (oa (a 11) cI 201 mn), (oa (a 12) cI 8040 cx), (oa (a 13) cI 8040 cy), (oa (a 32) cI 8 S1), (oa (a 3) cI 201 wd)] → va_S A s.heap H locs → lv_has ls 5 [(4, .int (nI b9)), (3, .int (nI a9)), (2, .int (nI (clT (clP ft st tn kd mn cx cy wd gp9) ft a9 + cntP (fun b => a9 < b ∧ clP ft st tn kd mn cx cy wd gp9 a9 b) b9))), (0, .ref k0), (1, .int gp9)] → W p l e ({ frames := 6, cells := 0, slots := 0, locals := 154 } : Room) s m ([.ref k0, .int gp9] : List Value).toArray below meth c H locs 0 0 Q9 (F0 m 30 ls []) := by
              intro n9
              induction n9 with
              | zero => intro b9 u9 d9 S1 H locs ls hm; exact absurd hm (Nat.not_lt_zero _)
              | succ n9 ih_30 =>
                intro b9 u9 d9 S1 H locs ls hm hb9 hP hD hS hl
                have hcn := cntP_b (fun b => a9 < b ∧ clP ft st tn kd mn cx cy wd gp9 a9 b) b9
                refine lv_iload hx hb dX11_clashes_30 (lv_at hl 0 rfl) ?_
                refine lv_aload_n hx hb dX11_clashes_32 rfl (lv_at hl 3 rfl) ?_
                refine va_get (D := (dC, dI)) (ci := 9) (v := .int (I0 0)) (C := RX11) (T := TX11) (N := 55) hx hb hts inX11 hown hK hP 0 rfl rfl 0 (Nat.le_of_ble_eq_true rfl) (hts _ mw_1159) (fun _ h9 => h9) rfl dX11_clashes_33 ?_
                refine zz_i (v := nI ft) (hft) ?_
                have b9_7 : zlt (b9) := show b9 < 2147483648 by omega
                refine lv_icmp_ge (tgt := 64) hx hb dX11_clashes_36 rfl (fun c_6 => ?_) (fun c_6 => ?_)
                · have c_6 : ((ft : Nat) : Int) ≤ ((b9 : Nat) : Int) := zc_le (nI_toInt b9_5) (nI_toInt b9_7) c_6
                  refine lv_iinc (v := nI (a9 + 1)) (lv' := [(3, .int (nI (a9 + 1))), (4, .int (nI b9)), (2, .int (nI (clT (clP ft st tn kd mn cx cy wd gp9) ft a9 + cntP (fun b => a9 < b ∧ clP ft st tn kd mn cx cy wd gp9 a9 b) b9))), (0, .ref k0), (1, .int gp9)]) hx hb dX11_clashes_64 hl (k := 1) rfl (nI_add a9 1) (Nat.le_of_ble_eq_true rfl) rfl (fun ls hl => ?_)
                  refine lv_goto (tgt := 17) hx hb dX11_clashes_67 rfl ?_
                  have hl9 := lv_sub hl [0, 2, 3, 4] rfl
                  have e9_2 : nI (clT (clP ft st tn kd mn cx cy wd gp9) ft (a9 + 1)) = (nI (clT (clP ft st tn kd mn cx cy wd gp9) ft a9 + cntP (fun b => a9 < b ∧ clP ft st tn kd mn cx cy wd gp9 a9 b) b9) : Int32) := by exact zn_eq (by rw [show b9 = ft by omega]; rfl)
                  have hl9 : lv_has ls 5 [(3, .int (nI (a9 + 1))), (2, .int (nI (clT (clP ft st tn kd mn cx cy wd gp9) ft (a9 + 1)))), (0, .ref k0), (1, .int gp9)] := by rw [e9_2]; exact hl9
                  exact ih_17 (a9 + 1) u9 d9 S1 H locs ls (by first | with_reducible assumption | omega) (by first | with_reducible assumption | omega) hP hD hS hl9
                · have c_6 : ((b9 : Nat) : Int) < ((ft : Nat) : Int) := zc_nle (nI_toInt b9_5) (nI_toInt b9_7) c_6
                  refine lv_iload_n hx hb dX11_clashes_39 rfl (lv_at hl 2 rfl) ?_
                  refine lv_aload_n hx hb dX11_clashes_40 rfl (lv_at hl 3 rfl) ?_
                  refine lv_iload_n hx hb dX11_clashes_41 rfl (lv_at hl 1 rfl) ?_
                  refine lv_iload hx hb dX11_clashes_42 (lv_at hl 0 rfl) ?_
                  refine lv_iload_n hx hb dX11_clashes_44 rfl (lv_at hl 4 rfl) ?_
                  obtain ⟨hPc, hDc, hFc⟩ := zo_sub (wc := [_, _, _, _, _, _, _, _, _]) hP hD hS hA [0, 1, 2, 3, 4, 5, 6, 7, 8] (by decide +kernel) rfl
                  refine zcall (st1 := [.int (pI (clP ft st tn kd mn cx cy wd gp9 a9 b9)), .int (nI (clT (clP ft st tn kd mn cx cy wd gp9) ft a9 + cntP (fun b => a9 < b ∧ clP ft st tn kd mn cx cy wd gp9 a9 b) b9))]) (va_runV (As := [.int (nI a9), .int (nI b9), .int gp9]) (rest := [.int (nI (clT (clP ft st tn kd mn cx cy wd gp9) ft a9 + cntP (fun b => a9 < b ∧ clP ft st tn kd mn cx cy wd gp9 a9 b) b9))]) ⟨hx, hb, hml, hown, hts⟩ (k_M_isClash l dC dI cI cZ cF H.size k0 a I0 (vp_updL (vp_updL J0 48 u9) 49 d9) a9 b9 ft gp9 st tn kd mn cx cy S1 wd (by first | with_reducible assumption | assumption) (by first | with_reducible assumption | omega) (by first | with_reducible assumption | assumption) (by first | with_reducible assumption | assumption) (by first | with_reducible assumption | assumption) (by first | with_reducible assumption | assumption) (by first | with_reducible assumption | omega) (by first | with_reducible assumption | omega)) (csV_230 hts rfl rfl ⟨Nat.le_of_ble_eq_true rfl, Nat.le_of_ble_eq_true rfl⟩) (zPV2 (q0 := 0) (ci := 9) hPc hDc hK hXN rfl rfl) rfl rfl hl.1 rfl (lv_room (Nat.le_of_ble_eq_true rfl)) dX11_clashes_45 ⟨Nat.le_of_ble_eq_true rfl, Nat.le_of_ble_eq_true rfl⟩) hS hFc hFc rfl (fun t H locs ht hB hk1 hS => ?_)
                  obtain ⟨q_8, q_9, q_10, hP1, hD1⟩ := hB
                  rw [ht] at hP1
                  obtain ⟨hP, hD⟩ := zn (W2 := [(om k0 a I0 (vp_updL (vp_updL J0 48 q_8) 49 q_9)), _, _, _, _, _, _, (oa (a 32) cI 8 q_10), _]) hP hD hk1 hFc hP1 hD1 zl_269 [] zl_270 zl_269 (by decide +kernel) rfl rfl rfl rfl rfl
                  clear hk1 hPc hDc hFc hP1 hD1 ht
                  refine lv_if_eq (tgt := 55) hx hb dX11_clashes_48 rfl (fun c_11 => ?_) (fun c_11 => ?_)
                  · have c_11 : ¬ (clP ft st tn kd mn cx cy wd gp9 a9 b9) := zp_0 c_11
                    refine lv_iconst (v := 0) hx hb dX11_clashes_55 rfl ?_
                    refine lv_iadd hx hb dX11_clashes_56 ?_
                    refine zz_i (v := nI ((clT (clP ft st tn kd mn cx cy wd gp9) ft a9 + cntP (fun b => a9 < b ∧ clP ft st tn kd mn cx cy wd gp9 a9 b) b9) + 0)) (nI_add (clT (clP ft st tn kd mn cx cy wd gp9) ft a9 + cntP (fun b => a9 < b ∧ clP ft st tn kd mn cx cy wd gp9 a9 b) b9) 0) ?_
                    refine lv_istore_n (lv' := [(2, .int (nI ((clT (clP ft st tn kd mn cx cy wd gp9) ft a9 + cntP (fun b => a9 < b ∧ clP ft st tn kd mn cx cy wd gp9 a9 b) b9) + 0))), (4, .int (nI b9)), (3, .int (nI a9)), (0, .ref k0), (1, .int gp9)]) hx hb dX11_clashes_57 rfl hl (Nat.le_of_ble_eq_true rfl) rfl (fun ls hl => ?_)
                    refine lv_iinc (v := nI (b9 + 1)) (lv' := [(4, .int (nI (b9 + 1))), (2, .int (nI ((clT (clP ft st tn kd mn cx cy wd gp9) ft a9 + cntP (fun b => a9 < b ∧ clP ft st tn kd mn cx cy wd gp9 a9 b) b9) + 0))), (3, .int (nI a9)), (0, .ref k0), (1, .int gp9)]) hx hb dX11_clashes_58 hl (k := 1) rfl (nI_add b9 1) (Nat.le_of_ble_eq_true rfl) rfl (fun ls hl => ?_)
                    refine lv_goto (tgt := 30) hx hb dX11_clashes_61 rfl ?_
                    have hl9 := lv_sub hl [0, 2, 1, 3, 4] rfl
                    have e9_2 : nI (clT (clP ft st tn kd mn cx cy wd gp9) ft a9 + cntP (fun b => a9 < b ∧ clP ft st tn kd mn cx cy wd gp9 a9 b) (b9 + 1)) = (nI ((clT (clP ft st tn kd mn cx cy wd gp9) ft a9 + cntP (fun b => a9 < b ∧ clP ft st tn kd mn cx cy wd gp9 a9 b) b9) + 0) : Int32) := by first | exact zn_eq (by rw [cntP_y (P := fun b => a9 < b ∧ clP ft st tn kd mn cx cy wd gp9 a9 b) ⟨by omega, by assumption⟩]; first | done | omega) | exact zn_eq (by rw [cntP_n (P := fun b => a9 < b ∧ clP ft st tn kd mn cx cy wd gp9 a9 b) (fun h => absurd h.2 (by first | with_reducible assumption | assumption))]; first | done | omega)
                    have hl9 : lv_has ls 5 [(4, .int (nI (b9 + 1))), (3, .int (nI a9)), (2, .int (nI (clT (clP ft st tn kd mn cx cy wd gp9) ft a9 + cntP (fun b => a9 < b ∧ clP ft st tn kd mn cx cy wd gp9 a9 b) (b9 + 1)))), (0, .ref k0), (1, .int gp9)] := by rw [e9_2]; exact hl9
                    exact ih_30 (b9 + 1) q_8 q_9 q_10 H locs ls (by first | with_reducible assumption | omega) (by first | with_reducible assumption | omega) hP hD hS hl9
                  · have c_11 : clP ft st tn kd mn cx cy wd gp9 a9 b9 := zp_1 c_11
                    refine lv_iconst (v := 1) hx hb dX11_clashes_51 rfl ?_
                    refine lv_goto (tgt := 56) hx hb dX11_clashes_52 rfl ?_
                    refine lv_iadd hx hb dX11_clashes_56 ?_
                    refine zz_i (v := nI ((clT (clP ft st tn kd mn cx cy wd gp9) ft a9 + cntP (fun b => a9 < b ∧ clP ft st tn kd mn cx cy wd gp9 a9 b) b9) + 1)) (nI_add (clT (clP ft st tn kd mn cx cy wd gp9) ft a9 + cntP (fun b => a9 < b ∧ clP ft st tn kd mn cx cy wd gp9 a9 b) b9) 1) ?_
                    refine lv_istore_n (lv' := [(2, .int (nI ((clT (clP ft st tn kd mn cx cy wd gp9) ft a9 + cntP (fun b => a9 < b ∧ clP ft st tn kd mn cx cy wd gp9 a9 b) b9) + 1))), (4, .int (nI b9)), (3, .int (nI a9)), (0, .ref k0), (1, .int gp9)]) hx hb dX11_clashes_57 rfl hl (Nat.le_of_ble_eq_true rfl) rfl (fun ls hl => ?_)
                    refine lv_iinc (v := nI (b9 + 1)) (lv' := [(4, .int (nI (b9 + 1))), (2, .int (nI ((clT (clP ft st tn kd mn cx cy wd gp9) ft a9 + cntP (fun b => a9 < b ∧ clP ft st tn kd mn cx cy wd gp9 a9 b) b9) + 1))), (3, .int (nI a9)), (0, .ref k0), (1, .int gp9)]) hx hb dX11_clashes_58 hl (k := 1) rfl (nI_add b9 1) (Nat.le_of_ble_eq_true rfl) rfl (fun ls hl => ?_)
                    refine lv_goto (tgt := 30) hx hb dX11_clashes_61 rfl ?_
                    have hl9 := lv_sub hl [0, 2, 1, 3, 4] rfl
                    have e9_2 : nI (clT (clP ft st tn kd mn cx cy wd gp9) ft a9 + cntP (fun b => a9 < b ∧ clP ft st tn kd mn cx cy wd gp9 a9 b) (b9 + 1)) = (nI ((clT (clP ft st tn kd mn cx cy wd gp9) ft a9 + cntP (fun b => a9 < b ∧ clP ft st tn kd mn cx cy wd gp9 a9 b) b9) + 1) : Int32) := by first | exact zn_eq (by rw [cntP_y (P := fun b => a9 < b ∧ clP ft st tn kd mn cx cy wd gp9 a9 b) ⟨by omega, by assumption⟩]; first | done | omega) | exact zn_eq (by rw [cntP_n (P := fun b => a9 < b ∧ clP ft st tn kd mn cx cy wd gp9 a9 b) (fun h => absurd h.2 (by first | with_reducible assumption | assumption))]; first | done | omega)
                    have hl9 : lv_has ls 5 [(4, .int (nI (b9 + 1))), (3, .int (nI a9)), (2, .int (nI (clT (clP ft st tn kd mn cx cy wd gp9) ft a9 + cntP (fun b => a9 < b ∧ clP ft st tn kd mn cx cy wd gp9 a9 b) (b9 + 1)))), (0, .ref k0), (1, .int gp9)] := by rw [e9_2]; exact hl9
                    exact ih_30 (b9 + 1) q_8 q_9 q_10 H locs ls (by first | with_reducible assumption | omega) (by first | with_reducible assumption | omega) hP hD hS hl9
            have e9_2 : nI (clT (clP ft st tn kd mn cx cy wd gp9) ft a9 + cntP (fun b => a9 < b ∧ clP ft st tn kd mn cx cy wd gp9 a9 b) (a9 + 1)) = (nI (clT (clP ft st tn kd mn cx cy wd gp9) ft a9) : Int32) := by exact zn_eq (by rw [cl_0 (clP ft st tn kd mn cx cy wd gp9) a9 (a9 + 1) (Nat.le_refl _)]; rfl)
            have hl9 : lv_has ls 5 [(4, .int (nI (a9 + 1))), (3, .int (nI a9)), (2, .int (nI (clT (clP ft st tn kd mn cx cy wd gp9) ft a9 + cntP (fun b => a9 < b ∧ clP ft st tn kd mn cx cy wd gp9 a9 b) (a9 + 1)))), (0, .ref k0), (1, .int gp9)] := by rw [e9_2]; exact lv_sub hl [0, 1, 2, 3, 4] rfl
            exact hl_30 _ (a9 + 1) u9 d9 S1 H locs ls (Nat.lt_succ_self _) (by first | with_reducible assumption | omega) hP hD hS hl9
      have e9_2 : nI (clT (clP ft st tn kd mn cx cy wd gp9) ft 0) = (0 : Int32) := by rfl
      have hl9 : lv_has ls 5 [(3, .int (nI 0)), (2, .int (nI (clT (clP ft st tn kd mn cx cy wd gp9) ft 0))), (0, .ref k0), (1, .int gp9)] := by rw [e9_2]; exact lv_sub hl [0, 1, 2, 3] rfl
      exact hl_17 _ 0 (J0 48) (J0 49) S0 s.heap [] ls (Nat.lt_succ_self _) (by first | with_reducible assumption | omega) hP hD hS hl9
    · have c_2 : 200 < gp9.toInt := zc_nle rfl rfl c_2
      exfalso; omega
set_option maxHeartbeats 4000000 in
set_option maxRecDepth 100000 in
theorem k_M_clash_r (l : Launch) (dC : Nat → ClassId) (dI : Nat → Nat → Nat) (cI cZ cF : ClassId) (sz : Nat) (k0 : Nat) (a : Nat → Nat) (I0 : Nat → Int32) (J0 : Nat → Int64) (gp9 : Int32) (iv : Int32) (w : Int32) (hgp : ¬ (0 ≤ gp9.toInt ∧ gp9.toInt ≤ 200 ∧ 0 ≤ iv.toInt ∧ 0 ≤ w.toInt ∧ w.toInt ≤ 1)) : zM l yX11_clash cX11_clash 7 (some .int) ({ frames := 0, cells := 0, slots := 0, locals := 0 } : Room) [.ref k0, .int gp9, .int iv, .int w] (dC, dI) (zTy cI cZ cF) [(om k0 a I0 J0)] sz (some (.int (-1))) (fun A t => zPD (dC, dI) classes A [(om k0 a I0 J0)] t.heap) 0 0 := by
  refine zIn (own := "ScaleShopModel") (loc := [(0, .ref k0), (1, .int gp9), (2, .int iv), (3, .int w)]) rfl rfl rfl rfl (fun p e s m below meth c hx hb hr hts hown hlocks hml hnm9 A hA hS hP hD hK hXN Q9 hQ9 ls hl => ?_)
  refine lv_iload_n hx hb dX11_clash_0 rfl (lv_at hl 1 rfl) ?_
  refine lv_if_lt (tgt := 24) hx hb dX11_clash_1 rfl (fun c_1 => ?_) (fun c_1 => ?_)
  · have c_1 : gp9.toInt < 0 := zc_lt rfl rfl c_1
    refine lv_iconst (v := (-1)) hx hb dX11_clash_24 rfl ?_
    obtain ⟨hP9, hD9⟩ := zu_sub (wc := [_]) hP hD [true] rfl rfl
    rw [hQ9]
    exact W.iret (v := (-1)) hx hb hr (fun t ht hW => ⟨⟨rfl, by rw [ht]; exact hP9, hD9⟩, hS.F ht⟩) hS.2.2 dX11_clash_25
  · have c_1 : 0 ≤ gp9.toInt := zc_nlt rfl rfl c_1
    refine lv_iload_n hx hb dX11_clash_4 rfl (lv_at hl 1 rfl) ?_
    refine lv_sipush (v := 200) hx hb dX11_clash_5 rfl ?_
    refine lv_icmp_gt (tgt := 24) hx hb dX11_clash_8 rfl (fun c_2 => ?_) (fun c_2 => ?_)
    · have c_2 : 200 < gp9.toInt := zc_lt rfl rfl c_2
      refine lv_iconst (v := (-1)) hx hb dX11_clash_24 rfl ?_
      obtain ⟨hP9, hD9⟩ := zu_sub (wc := [_]) hP hD [true] rfl rfl
      rw [hQ9]
      exact W.iret (v := (-1)) hx hb hr (fun t ht hW => ⟨⟨rfl, by rw [ht]; exact hP9, hD9⟩, hS.F ht⟩) hS.2.2 dX11_clash_25
    · have c_2 : gp9.toInt ≤ 200 := zc_nlt rfl rfl c_2
      refine lv_iload_n hx hb dX11_clash_11 rfl (lv_at hl 2 rfl) ?_
      refine lv_if_lt (tgt := 24) hx hb dX11_clash_12 rfl (fun c_3 => ?_) (fun c_3 => ?_)
      · have c_3 : iv.toInt < 0 := zc_lt rfl rfl c_3
        refine lv_iconst (v := (-1)) hx hb dX11_clash_24 rfl ?_
        obtain ⟨hP9, hD9⟩ := zu_sub (wc := [_]) hP hD [true] rfl rfl
        rw [hQ9]
        exact W.iret (v := (-1)) hx hb hr (fun t ht hW => ⟨⟨rfl, by rw [ht]; exact hP9, hD9⟩, hS.F ht⟩) hS.2.2 dX11_clash_25
      · have c_3 : 0 ≤ iv.toInt := zc_nlt rfl rfl c_3
        refine lv_iload_n hx hb dX11_clash_15 rfl (lv_at hl 3 rfl) ?_
        refine lv_if_lt (tgt := 24) hx hb dX11_clash_16 rfl (fun c_4 => ?_) (fun c_4 => ?_)
        · have c_4 : w.toInt < 0 := zc_lt rfl rfl c_4
          refine lv_iconst (v := (-1)) hx hb dX11_clash_24 rfl ?_
          obtain ⟨hP9, hD9⟩ := zu_sub (wc := [_]) hP hD [true] rfl rfl
          rw [hQ9]
          exact W.iret (v := (-1)) hx hb hr (fun t ht hW => ⟨⟨rfl, by rw [ht]; exact hP9, hD9⟩, hS.F ht⟩) hS.2.2 dX11_clash_25
        · have c_4 : 0 ≤ w.toInt := zc_nlt rfl rfl c_4
          refine lv_iload_n hx hb dX11_clash_19 rfl (lv_at hl 3 rfl) ?_
          refine lv_iconst (v := 1) hx hb dX11_clash_20 rfl ?_
          refine lv_icmp_le (tgt := 26) hx hb dX11_clash_21 rfl (fun c_5 => ?_) (fun c_5 => ?_)
          · have c_5 : w.toInt ≤ 1 := zc_le rfl rfl c_5
            exfalso; omega
          · have c_5 : 1 < w.toInt := zc_nle rfl rfl c_5
            refine lv_iconst (v := (-1)) hx hb dX11_clash_24 rfl ?_
            obtain ⟨hP9, hD9⟩ := zu_sub (wc := [_]) hP hD [true] rfl rfl
            rw [hQ9]
            exact W.iret (v := (-1)) hx hb hr (fun t ht hW => ⟨⟨rfl, by rw [ht]; exact hP9, hD9⟩, hS.F ht⟩) hS.2.2 dX11_clash_25
set_option maxHeartbeats 4000000 in
set_option maxRecDepth 100000 in
theorem k_M_clash_y0 (l : Launch) (dC : Nat → ClassId) (dI : Nat → Nat → Nat) (cI cZ cF : ClassId) (sz : Nat) (k0 : Nat) (a : Nat → Nat) (I0 : Nat → Int32) (J0 : Nat → Int64) (ft : Nat) (i : Nat) (a7 : Nat) (b7 : Nat) (gp9 : Int32) (st : Nat → Int32) (tn : Nat → Int32) (kd : Nat → Int32) (mn : Nat → Int32) (cx : Nat → Int32) (cy : Nat → Int32) (S0 : Nat → Int32) (wd : Nat → Int32) (hft : I0 0 = nI ft) (h200 : ft ≤ 200) (hwf : ∀ q, lvF ft st tn q → wfM mn cx cy q) (hef : ∀ q, lvF ft st tn q → 1 ≤ eO (kd q).toInt (nN (mn q))) (hwd : ∀ q, q < ft → 0 ≤ (wd q).toInt ∧ (wd q).toInt ≤ 100) (hgp : 0 ≤ gp9.toInt ∧ gp9.toInt ≤ 200) (hi31 : i < 2147483648) (hit : clI (clP ft st tn kd mn cx cy wd gp9) ft a7 b7 i) : zM l yX11_clash cX11_clash 7 (some .int) ({ frames := 6, cells := 0, slots := 0, locals := 154 } : Room) [.ref k0, .int gp9, .int (nI i), .int 0] (dC, dI) (zTy cI cZ cF) [(om k0 a I0 J0), (oa (a 5) cI 201 st), (oa (a 6) cZ 201 tn), (oa (a 1) cI 201 kd), (oa (a 11) cI 201 mn), (oa (a 12) cI 8040 cx), (oa (a 13) cI 8040 cy), (oa (a 32) cI 8 S0), (oa (a 3) cI 201 wd)] sz (some (.int (nI a7))) (fun A t => ∃ (u9 : Int64), ∃ (d9 : Int64), ∃ (S1 : Nat → Int32), zPD (dC, dI) classes A [(om k0 a I0 (vp_updL (vp_updL J0 48 u9) 49 d9)), (oa (a 5) cI 201 st), (oa (a 6) cZ 201 tn), (oa (a 1) cI 201 kd), (oa (a 11) cI 201 mn), (oa (a 12) cI 8040 cx), (oa (a 13) cI 8040 cy), (oa (a 32) cI 8 S1), (oa (a 3) cI 201 wd)] t.heap) 0 0 := by
  refine zIn (own := "ScaleShopModel") (loc := [(0, .ref k0), (1, .int gp9), (2, .int (nI i)), (3, .int 0)]) rfl rfl rfl rfl (fun p e s m below meth c hx hb hr hts hown hlocks hml hnm9 A hA hS hP hD hK hXN Q9 hQ9 ls hl => ?_)
  refine lv_iload_n hx hb dX11_clash_0 rfl (lv_at hl 1 rfl) ?_
  refine lv_if_lt (tgt := 24) hx hb dX11_clash_1 rfl (fun c_1 => ?_) (fun c_1 => ?_)
  · have c_1 : gp9.toInt < 0 := zc_lt rfl rfl c_1
    exfalso; omega
  · have c_1 : 0 ≤ gp9.toInt := zc_nlt rfl rfl c_1
    refine lv_iload_n hx hb dX11_clash_4 rfl (lv_at hl 1 rfl) ?_
    refine lv_sipush (v := 200) hx hb dX11_clash_5 rfl ?_
    refine lv_icmp_gt (tgt := 24) hx hb dX11_clash_8 rfl (fun c_2 => ?_) (fun c_2 => ?_)
    · have c_2 : 200 < gp9.toInt := zc_lt rfl rfl c_2
      exfalso; omega
    · have c_2 : gp9.toInt ≤ 200 := zc_nlt rfl rfl c_2
      refine lv_iload_n hx hb dX11_clash_11 rfl (lv_at hl 2 rfl) ?_
      have b9_4 : zlt (i) := show i < 2147483648 by omega
      refine lv_if_lt (tgt := 24) hx hb dX11_clash_12 rfl (fun c_3 => ?_) (fun c_3 => ?_)
      · have c_3 : ((i : Nat) : Int) < 0 := zc_lt (nI_toInt b9_4) rfl c_3
        exfalso; omega
      · have c_3 : 0 ≤ ((i : Nat) : Int) := zc_nlt (nI_toInt b9_4) rfl c_3
        refine lv_iload_n hx hb dX11_clash_15 rfl (lv_at hl 3 rfl) ?_
        refine lv_if_lt (tgt := 24) hx hb dX11_clash_16 rfl (fun c_5 => ?_) (fun c_5 => ?_)
        · exact absurd c_5 (by decide)
        · refine lv_iload_n hx hb dX11_clash_19 rfl (lv_at hl 3 rfl) ?_
          refine lv_iconst (v := 1) hx hb dX11_clash_20 rfl ?_
          refine lv_icmp_le (tgt := 26) hx hb dX11_clash_21 rfl (fun c_6 => ?_) (fun c_6 => ?_)
          · refine lv_iconst (v := 0) hx hb dX11_clash_26 rfl ?_
            refine lv_istore (lv' := [(4, .int 0), (0, .ref k0), (1, .int gp9), (2, .int (nI i)), (3, .int 0)]) hx hb dX11_clash_27 hl (Nat.le_of_ble_eq_true rfl) rfl (fun ls hl => ?_)
            refine lv_iconst (v := 0) hx hb dX11_clash_29 rfl ?_
            refine lv_istore (lv' := [(5, .int 0), (4, .int 0), (0, .ref k0), (1, .int gp9), (2, .int (nI i)), (3, .int 0)]) hx hb dX11_clash_30 hl (Nat.le_of_ble_eq_true rfl) rfl (fun ls hl => ?_)
            have hl_32 : ∀ (n9 : Nat) (a9 : Nat) (u9 : Int64) (d9 : Int64) (S1 : Nat → Int32) (H : Heap) (locs : List Loc) (ls : Array Slot), ft - a9 < n9 → (a9 ≤ ft) → (∀ a8 b8, a8 < a9 → ¬ clI (clP ft st tn kd mn cx cy wd gp9) ft a8 b8 i) → va_P (dC, dI) classes [(om k0 a I0 (vp_updL (vp_updL J0 48 u9) 49 d9)), (oa (a 5) cI 201 st), (oa (a 6) cZ 201 tn), (oa (a 1) cI 201 kd), (oa (a 11) cI 201 mn), (oa (a 12) cI 8040 cx), (oa (a 13) cI 8040 cy), (oa (a 32) cI 8 S1), (oa (a 3) cI 201 wd)] H → va_D A [(om k0 a I0 (vp_updL (vp_updL J0 48 u9) 49 d9)), (oa (a 5) cI 201 st), (oa (a 6) cZ 201 tn), (oa (a 1) cI 201 kd), (oa (a 11) cI 201 mn), (oa (a 12) cI 8040 cx), (oa (a 13) cI 8040 cy), (oa (a 32) cI 8 S1), (oa (a 3) cI 201 wd)] → va_S A s.heap H locs → lv_has ls 7 [(5, .int (nI a9)), (4, .int (nI (clT (clP ft st tn kd mn cx cy wd gp9) ft a9))), (0, .ref k0), (1, .int gp9), (2, .int (nI i)), (3, .int 0)] → W p l e ({ frames := 6, cells := 0, slots := 0, locals := 154 } : Room) s m ([.ref k0, .int gp9, .int (nI i), .int 0] : List Value).toArray below meth c H locs 0 0 Q9 (F0 m 32 ls []) := by
              intro n9
              induction n9 with
              | zero => intro a9 u9 d9 S1 H locs ls hm; exact absurd hm (Nat.not_lt_zero _)
              | succ n9 ih_32 =>
                intro a9 u9 d9 S1 H locs ls hm ha9 hno hP hD hS hl
                have hct := clT_200 (clP ft st tn kd mn cx cy wd gp9) h200 ha9
                refine lv_iload hx hb dX11_clash_32 (lv_at hl 0 rfl) ?_
                refine lv_aload_n hx hb dX11_clash_34 rfl (lv_at hl 2 rfl) ?_
                refine va_get (D := (dC, dI)) (ci := 9) (v := .int (I0 0)) (C := RX11) (T := TX11) (N := 55) hx hb hts inX11 hown hK hP 0 rfl rfl 0 (Nat.le_of_ble_eq_true rfl) (hts _ mw_1159) (fun _ h9 => h9) rfl dX11_clash_35 ?_
                refine zz_i (v := nI ft) (hft) ?_
                have b9_8 : zlt (a9) := show a9 < 2147483648 by omega
                have b9_9 : zlt (ft) := show ft < 2147483648 by omega
                refine lv_icmp_ge (tgt := 104) hx hb dX11_clash_38 rfl (fun c_7 => ?_) (fun c_7 => ?_)
                · have c_7 : ((ft : Nat) : Int) ≤ ((a9 : Nat) : Int) := zc_le (nI_toInt b9_9) (nI_toInt b9_8) c_7
                  exfalso; exact hno a7 b7 (by have := hit.1; have := hit.2.1; omega) hit
                · have c_7 : ((a9 : Nat) : Int) < ((ft : Nat) : Int) := zc_nle (nI_toInt b9_9) (nI_toInt b9_8) c_7
                  refine lv_iload hx hb dX11_clash_41 (lv_at hl 0 rfl) ?_
                  refine lv_iconst (v := 1) hx hb dX11_clash_43 rfl ?_
                  refine lv_iadd hx hb dX11_clash_44 ?_
                  refine zz_i (v := nI (a9 + 1)) (nI_add a9 1) ?_
                  refine lv_istore (lv' := [(6, .int (nI (a9 + 1))), (5, .int (nI a9)), (4, .int (nI (clT (clP ft st tn kd mn cx cy wd gp9) ft a9))), (0, .ref k0), (1, .int gp9), (2, .int (nI i)), (3, .int 0)]) hx hb dX11_clash_45 hl (Nat.le_of_ble_eq_true rfl) rfl (fun ls hl => ?_)
                  have hl_47 : ∀ (n9 : Nat) (b9 : Nat) (u9 : Int64) (d9 : Int64) (S1 : Nat → Int32) (H : Heap) (locs : List Loc) (ls : Array Slot), ft - b9 < n9 → (a9 < b9 ∧ b9 ≤ ft) → (∀ b8, b8 < b9 → ¬ clI (clP ft st tn kd mn cx cy wd gp9) ft a9 b8 i) → va_P (dC, dI) classes [(om k0 a I0 (vp_updL (vp_updL J0 48 u9) 49 d9)), (oa (a 5) cI 201 st), (oa (a 6) cZ 201 tn), (oa (a 1) cI 201 kd), (oa (a 11) cI 201 mn), (oa (a 12) cI 8040 cx), (oa (a 13) cI 8040 cy), (oa (a 32) cI 8 S1), (oa (a 3) cI 201 wd)] H → va_D A [(om k0 a I0 (vp_updL (vp_updL J0 48 u9) 49 d9)), (oa (a 5) cI 201 st), (oa (a 6) cZ 201 tn), (oa (a 1) cI 201 kd), (oa (a 11) cI 201 mn), (oa (a 12) cI 8040 cx), (oa (a 13) cI 8040 cy), (oa (a 32) cI 8 S1), (oa (a 3) cI 201 wd)] → va_S A s.heap H locs → lv_has ls 7 [(6, .int (nI b9)), (5, .int (nI a9)), (4, .int (nI (clT (clP ft st tn kd mn cx cy wd gp9) ft a9 + cntP (fun b => a9 < b ∧ clP ft st tn kd mn cx cy wd gp9 a9 b) b9))), (0, .ref k0), (1, .int gp9), (2, .int (nI i)), (3, .int 0)] → W p l e ({ frames := 6, cells := 0, slots := 0, locals := 154 } : Room) s m ([.ref k0, .int gp9, .int (nI i), .int 0] : List Value).toArray below meth c H locs 0 0 Q9 (F0 m 47 ls []) := by
                    intro n9
                    induction n9 with
                    | zero => intro b9 u9 d9 S1 H locs ls hm; exact absurd hm (Nat.not_lt_zero _)
                    | succ n9 ih_47 =>
                      intro b9 u9 d9 S1 H locs ls hm hb9 hnb hP hD hS hl
                      have hcn := cntP_b (fun b => a9 < b ∧ clP ft st tn kd mn cx cy wd gp9 a9 b) b9
                      refine lv_iload hx hb dX11_clash_47 (lv_at hl 0 rfl) ?_
                      refine lv_aload_n hx hb dX11_clash_49 rfl (lv_at hl 3 rfl) ?_
                      refine va_get (D := (dC, dI)) (ci := 9) (v := .int (I0 0)) (C := RX11) (T := TX11) (N := 55) hx hb hts inX11 hown hK hP 0 rfl rfl 0 (Nat.le_of_ble_eq_true rfl) (hts _ mw_1159) (fun _ h9 => h9) rfl dX11_clash_50 ?_
                      refine zz_i (v := nI ft) (hft) ?_
                      have b9_11 : zlt (b9) := show b9 < 2147483648 by omega
                      refine lv_icmp_ge (tgt := 98) hx hb dX11_clash_53 rfl (fun c_10 => ?_) (fun c_10 => ?_)
                      · have c_10 : ((ft : Nat) : Int) ≤ ((b9 : Nat) : Int) := zc_le (nI_toInt b9_9) (nI_toInt b9_11) c_10
                        refine lv_iinc (v := nI (a9 + 1)) (lv' := [(5, .int (nI (a9 + 1))), (6, .int (nI b9)), (4, .int (nI (clT (clP ft st tn kd mn cx cy wd gp9) ft a9 + cntP (fun b => a9 < b ∧ clP ft st tn kd mn cx cy wd gp9 a9 b) b9))), (0, .ref k0), (1, .int gp9), (2, .int (nI i)), (3, .int 0)]) hx hb dX11_clash_98 hl (k := 1) rfl (nI_add a9 1) (Nat.le_of_ble_eq_true rfl) rfl (fun ls hl => ?_)
                        refine lv_goto (tgt := 32) hx hb dX11_clash_101 rfl ?_
                        have hl9 := lv_sub hl [0, 2, 3, 4, 5, 6] rfl
                        have e9_4 : nI (clT (clP ft st tn kd mn cx cy wd gp9) ft (a9 + 1)) = (nI (clT (clP ft st tn kd mn cx cy wd gp9) ft a9 + cntP (fun b => a9 < b ∧ clP ft st tn kd mn cx cy wd gp9 a9 b) b9) : Int32) := by exact zn_eq (by rw [show b9 = ft by omega]; rfl)
                        have hl9 : lv_has ls 7 [(5, .int (nI (a9 + 1))), (4, .int (nI (clT (clP ft st tn kd mn cx cy wd gp9) ft (a9 + 1)))), (0, .ref k0), (1, .int gp9), (2, .int (nI i)), (3, .int 0)] := by rw [e9_4]; exact hl9
                        exact ih_32 (a9 + 1) u9 d9 S1 H locs ls (by first | with_reducible assumption | omega) (by first | with_reducible assumption | omega) (fun a8 b8 h h2 => (by rcases Nat.lt_or_ge a8 a9 with q | q; exact hno a8 b8 q h2; rw [show a8 = a9 by omega] at h2; exact hnb b8 (by have := h2.2.1; omega) h2)) hP hD hS hl9
                      · have c_10 : ((b9 : Nat) : Int) < ((ft : Nat) : Int) := zc_nle (nI_toInt b9_9) (nI_toInt b9_11) c_10
                        refine lv_aload_n hx hb dX11_clash_56 rfl (lv_at hl 3 rfl) ?_
                        refine lv_iload hx hb dX11_clash_57 (lv_at hl 1 rfl) ?_
                        refine lv_iload hx hb dX11_clash_59 (lv_at hl 0 rfl) ?_
                        refine lv_iload_n hx hb dX11_clash_61 rfl (lv_at hl 4 rfl) ?_
                        obtain ⟨hPc, hDc, hFc⟩ := zo_sub (wc := [_, _, _, _, _, _, _, _, _]) hP hD hS hA [0, 1, 2, 3, 4, 5, 6, 7, 8] (by decide +kernel) rfl
                        refine zcall (st1 := [.int (pI (clP ft st tn kd mn cx cy wd gp9 a9 b9))]) (va_runV (As := [.int (nI a9), .int (nI b9), .int gp9]) (rest := []) ⟨hx, hb, hml, hown, hts⟩ (k_M_isClash l dC dI cI cZ cF H.size k0 a I0 (vp_updL (vp_updL J0 48 u9) 49 d9) a9 b9 ft gp9 st tn kd mn cx cy S1 wd (by first | with_reducible assumption | assumption) (by first | with_reducible assumption | omega) (by first | with_reducible assumption | assumption) (by first | with_reducible assumption | assumption) (by first | with_reducible assumption | assumption) (by first | with_reducible assumption | assumption) (by first | with_reducible assumption | omega) (by first | with_reducible assumption | omega)) (csV_230 hts rfl rfl ⟨Nat.le_of_ble_eq_true rfl, Nat.le_of_ble_eq_true rfl⟩) (zPV2 (q0 := 0) (ci := 9) hPc hDc hK hXN rfl rfl) rfl rfl hl.1 rfl (lv_room (Nat.le_of_ble_eq_true rfl)) dX11_clash_62 ⟨Nat.le_of_ble_eq_true rfl, Nat.le_of_ble_eq_true rfl⟩) hS hFc hFc rfl (fun t H locs ht hB hk1 hS => ?_)
                        obtain ⟨q_12, q_13, q_14, hP1, hD1⟩ := hB
                        rw [ht] at hP1
                        obtain ⟨hP, hD⟩ := zn (W2 := [(om k0 a I0 (vp_updL (vp_updL J0 48 q_12) 49 q_13)), _, _, _, _, _, _, (oa (a 32) cI 8 q_14), _]) hP hD hk1 hFc hP1 hD1 zl_269 [] zl_270 zl_269 (by decide +kernel) rfl rfl rfl rfl rfl
                        clear hk1 hPc hDc hFc hP1 hD1 ht
                        refine lv_if_ne (tgt := 71) hx hb dX11_clash_65 rfl (fun c_15 => ?_) (fun c_15 => ?_)
                        · have c_15 : clP ft st tn kd mn cx cy wd gp9 a9 b9 := zp_1 c_15
                          refine lv_iload hx hb dX11_clash_71 (lv_at hl 2 rfl) ?_
                          refine lv_iload_n hx hb dX11_clash_73 rfl (lv_at hl 5 rfl) ?_
                          have b9_17 : zlt ((clT (clP ft st tn kd mn cx cy wd gp9) ft a9 + cntP (fun b => a9 < b ∧ clP ft st tn kd mn cx cy wd gp9 a9 b) b9)) := show (clT (clP ft st tn kd mn cx cy wd gp9) ft a9 + cntP (fun b => a9 < b ∧ clP ft st tn kd mn cx cy wd gp9 a9 b) b9) < 2147483648 by omega
                          refine lv_icmp_ne (tgt := 89) hx hb dX11_clash_74 rfl (fun c_16 => ?_) (fun c_16 => ?_)
                          · have c_16 : ¬ ((clT (clP ft st tn kd mn cx cy wd gp9) ft a9 + cntP (fun b => a9 < b ∧ clP ft st tn kd mn cx cy wd gp9 a9 b) b9 : Nat) : Int) = ((i : Nat) : Int) := zc_ne (nI_toInt b9_17) (nI_toInt b9_4) c_16
                            refine lv_iinc (v := nI ((clT (clP ft st tn kd mn cx cy wd gp9) ft a9 + cntP (fun b => a9 < b ∧ clP ft st tn kd mn cx cy wd gp9 a9 b) b9) + 1)) (lv' := [(4, .int (nI ((clT (clP ft st tn kd mn cx cy wd gp9) ft a9 + cntP (fun b => a9 < b ∧ clP ft st tn kd mn cx cy wd gp9 a9 b) b9) + 1))), (6, .int (nI b9)), (5, .int (nI a9)), (0, .ref k0), (1, .int gp9), (2, .int (nI i)), (3, .int 0)]) hx hb dX11_clash_89 hl (k := 2) rfl (nI_add (clT (clP ft st tn kd mn cx cy wd gp9) ft a9 + cntP (fun b => a9 < b ∧ clP ft st tn kd mn cx cy wd gp9 a9 b) b9) 1) (Nat.le_of_ble_eq_true rfl) rfl (fun ls hl => ?_)
                            refine lv_iinc (v := nI (b9 + 1)) (lv' := [(6, .int (nI (b9 + 1))), (4, .int (nI ((clT (clP ft st tn kd mn cx cy wd gp9) ft a9 + cntP (fun b => a9 < b ∧ clP ft st tn kd mn cx cy wd gp9 a9 b) b9) + 1))), (5, .int (nI a9)), (0, .ref k0), (1, .int gp9), (2, .int (nI i)), (3, .int 0)]) hx hb dX11_clash_92 hl (k := 1) rfl (nI_add b9 1) (Nat.le_of_ble_eq_true rfl) rfl (fun ls hl => ?_)
                            refine lv_goto (tgt := 47) hx hb dX11_clash_95 rfl ?_
                            have hl9 := lv_sub hl [0, 2, 1, 3, 4, 5, 6] rfl
                            have e9_4 : nI (clT (clP ft st tn kd mn cx cy wd gp9) ft a9 + cntP (fun b => a9 < b ∧ clP ft st tn kd mn cx cy wd gp9 a9 b) (b9 + 1)) = (nI ((clT (clP ft st tn kd mn cx cy wd gp9) ft a9 + cntP (fun b => a9 < b ∧ clP ft st tn kd mn cx cy wd gp9 a9 b) b9) + 1) : Int32) := by first | exact zn_eq (by rw [cntP_y (P := fun b => a9 < b ∧ clP ft st tn kd mn cx cy wd gp9 a9 b) ⟨by omega, by assumption⟩]; first | done | omega) | exact zn_eq (by rw [cntP_n (P := fun b => a9 < b ∧ clP ft st tn kd mn cx cy wd gp9 a9 b) (fun h => absurd h.2 (by first | with_reducible assumption | assumption))]; first | done | omega)
                            have hl9 : lv_has ls 7 [(6, .int (nI (b9 + 1))), (5, .int (nI a9)), (4, .int (nI (clT (clP ft st tn kd mn cx cy wd gp9) ft a9 + cntP (fun b => a9 < b ∧ clP ft st tn kd mn cx cy wd gp9 a9 b) (b9 + 1)))), (0, .ref k0), (1, .int gp9), (2, .int (nI i)), (3, .int 0)] := by rw [e9_4]; exact hl9
                            exact ih_47 (b9 + 1) q_12 q_13 q_14 H locs ls (by first | with_reducible assumption | omega) (by first | with_reducible assumption | omega) (fun b8 h h2 => (by rcases Nat.lt_or_ge b8 b9 with q | q; exact hnb b8 q h2; rw [show b8 = b9 by omega] at h2; first | exact absurd h2.2.2.1 (by first | with_reducible assumption | assumption) | (have h7 := h2.2.2.2; omega))) hP hD hS hl9
                          · have c_16 : ((clT (clP ft st tn kd mn cx cy wd gp9) ft a9 + cntP (fun b => a9 < b ∧ clP ft st tn kd mn cx cy wd gp9 a9 b) b9 : Nat) : Int) = ((i : Nat) : Int) := zc_eq (nI_toInt b9_17) (nI_toInt b9_4) c_16
                            have hci : clI (clP ft st tn kd mn cx cy wd gp9) ft a9 b9 i := ⟨by omega, by omega, by assumption, by omega⟩
                            refine lv_iload_n hx hb dX11_clash_77 rfl (lv_at hl 6 rfl) ?_
                            refine lv_if_ne (tgt := 86) hx hb dX11_clash_78 rfl (fun c_18 => ?_) (fun c_18 => ?_)
                            · exact absurd (by decide) c_18
                            · refine lv_iload hx hb dX11_clash_81 (lv_at hl 1 rfl) ?_
                              refine lv_goto (tgt := 88) hx hb dX11_clash_83 rfl ?_
                              obtain ⟨hP9, hD9⟩ := zu_sub (wc := [_, _, _, _, _, _, _, _, _]) hP hD [true, true, true, true, true, true, true, true, true] rfl rfl
                              rw [hQ9]
                              exact W.iret (v := nI a9) hx hb hr (fun t ht hW => ⟨⟨congrArg (fun z => Outcome.returned (some (Value.int z))) (show (nI a9 : Int32) = nI a7 from zn_eq (clI_u hci hit).1), q_12, q_13, q_14, by rw [ht]; exact hP9, hD9⟩, hS.F ht⟩) hS.2.2 dX11_clash_88
                        · have c_15 : ¬ (clP ft st tn kd mn cx cy wd gp9 a9 b9) := zp_0 c_15
                          refine lv_goto (tgt := 92) hx hb dX11_clash_68 rfl ?_
                          refine lv_iinc (v := nI (b9 + 1)) (lv' := [(6, .int (nI (b9 + 1))), (5, .int (nI a9)), (4, .int (nI (clT (clP ft st tn kd mn cx cy wd gp9) ft a9 + cntP (fun b => a9 < b ∧ clP ft st tn kd mn cx cy wd gp9 a9 b) b9))), (0, .ref k0), (1, .int gp9), (2, .int (nI i)), (3, .int 0)]) hx hb dX11_clash_92 hl (k := 0) rfl (nI_add b9 1) (Nat.le_of_ble_eq_true rfl) rfl (fun ls hl => ?_)
                          refine lv_goto (tgt := 47) hx hb dX11_clash_95 rfl ?_
                          have hl9 := lv_sub hl [0, 1, 2, 3, 4, 5, 6] rfl
                          have e9_4 : nI (clT (clP ft st tn kd mn cx cy wd gp9) ft a9 + cntP (fun b => a9 < b ∧ clP ft st tn kd mn cx cy wd gp9 a9 b) (b9 + 1)) = (nI (clT (clP ft st tn kd mn cx cy wd gp9) ft a9 + cntP (fun b => a9 < b ∧ clP ft st tn kd mn cx cy wd gp9 a9 b) b9) : Int32) := by first | exact zn_eq (by rw [cntP_y (P := fun b => a9 < b ∧ clP ft st tn kd mn cx cy wd gp9 a9 b) ⟨by omega, by assumption⟩]; first | done | omega) | exact zn_eq (by rw [cntP_n (P := fun b => a9 < b ∧ clP ft st tn kd mn cx cy wd gp9 a9 b) (fun h => absurd h.2 (by first | with_reducible assumption | assumption))]; first | done | omega)
                          have hl9 : lv_has ls 7 [(6, .int (nI (b9 + 1))), (5, .int (nI a9)), (4, .int (nI (clT (clP ft st tn kd mn cx cy wd gp9) ft a9 + cntP (fun b => a9 < b ∧ clP ft st tn kd mn cx cy wd gp9 a9 b) (b9 + 1)))), (0, .ref k0), (1, .int gp9), (2, .int (nI i)), (3, .int 0)] := by rw [e9_4]; exact hl9
                          exact ih_47 (b9 + 1) q_12 q_13 q_14 H locs ls (by first | with_reducible assumption | omega) (by first | with_reducible assumption | omega) (fun b8 h h2 => (by rcases Nat.lt_or_ge b8 b9 with q | q; exact hnb b8 q h2; rw [show b8 = b9 by omega] at h2; first | exact absurd h2.2.2.1 (by first | with_reducible assumption | assumption) | (have h7 := h2.2.2.2; omega))) hP hD hS hl9
                  have e9_4 : nI (clT (clP ft st tn kd mn cx cy wd gp9) ft a9 + cntP (fun b => a9 < b ∧ clP ft st tn kd mn cx cy wd gp9 a9 b) (a9 + 1)) = (nI (clT (clP ft st tn kd mn cx cy wd gp9) ft a9) : Int32) := by exact zn_eq (by rw [cl_0 (clP ft st tn kd mn cx cy wd gp9) a9 (a9 + 1) (Nat.le_refl _)]; rfl)
                  have hl9 : lv_has ls 7 [(6, .int (nI (a9 + 1))), (5, .int (nI a9)), (4, .int (nI (clT (clP ft st tn kd mn cx cy wd gp9) ft a9 + cntP (fun b => a9 < b ∧ clP ft st tn kd mn cx cy wd gp9 a9 b) (a9 + 1)))), (0, .ref k0), (1, .int gp9), (2, .int (nI i)), (3, .int 0)] := by rw [e9_4]; exact lv_sub hl [0, 1, 2, 3, 4, 5, 6] rfl
                  exact hl_47 _ (a9 + 1) u9 d9 S1 H locs ls (Nat.lt_succ_self _) (by first | with_reducible assumption | omega) (fun b8 h h2 => (by have := h2.1; omega)) hP hD hS hl9
            have e9_4 : nI (clT (clP ft st tn kd mn cx cy wd gp9) ft 0) = (0 : Int32) := by rfl
            have hl9 : lv_has ls 7 [(5, .int (nI 0)), (4, .int (nI (clT (clP ft st tn kd mn cx cy wd gp9) ft 0))), (0, .ref k0), (1, .int gp9), (2, .int (nI i)), (3, .int 0)] := by rw [e9_4]; exact lv_sub hl [0, 1, 2, 3, 4, 5] rfl
            exact hl_32 _ 0 (J0 48) (J0 49) S0 s.heap [] ls (Nat.lt_succ_self _) (by first | with_reducible assumption | omega) (fun a8 b8 h => absurd h (Nat.not_lt_zero _)) hP hD hS hl9
          · exact absurd (by decide) c_6
set_option maxHeartbeats 4000000 in
set_option maxRecDepth 100000 in
theorem k_M_clash_y1 (l : Launch) (dC : Nat → ClassId) (dI : Nat → Nat → Nat) (cI cZ cF : ClassId) (sz : Nat) (k0 : Nat) (a : Nat → Nat) (I0 : Nat → Int32) (J0 : Nat → Int64) (ft : Nat) (i : Nat) (a7 : Nat) (b7 : Nat) (gp9 : Int32) (st : Nat → Int32) (tn : Nat → Int32) (kd : Nat → Int32) (mn : Nat → Int32) (cx : Nat → Int32) (cy : Nat → Int32) (S0 : Nat → Int32) (wd : Nat → Int32) (hft : I0 0 = nI ft) (h200 : ft ≤ 200) (hwf : ∀ q, lvF ft st tn q → wfM mn cx cy q) (hef : ∀ q, lvF ft st tn q → 1 ≤ eO (kd q).toInt (nN (mn q))) (hwd : ∀ q, q < ft → 0 ≤ (wd q).toInt ∧ (wd q).toInt ≤ 100) (hgp : 0 ≤ gp9.toInt ∧ gp9.toInt ≤ 200) (hi31 : i < 2147483648) (hit : clI (clP ft st tn kd mn cx cy wd gp9) ft a7 b7 i) : zM l yX11_clash cX11_clash 7 (some .int) ({ frames := 6, cells := 0, slots := 0, locals := 154 } : Room) [.ref k0, .int gp9, .int (nI i), .int 1] (dC, dI) (zTy cI cZ cF) [(om k0 a I0 J0), (oa (a 5) cI 201 st), (oa (a 6) cZ 201 tn), (oa (a 1) cI 201 kd), (oa (a 11) cI 201 mn), (oa (a 12) cI 8040 cx), (oa (a 13) cI 8040 cy), (oa (a 32) cI 8 S0), (oa (a 3) cI 201 wd)] sz (some (.int (nI b7))) (fun A t => ∃ (u9 : Int64), ∃ (d9 : Int64), ∃ (S1 : Nat → Int32), zPD (dC, dI) classes A [(om k0 a I0 (vp_updL (vp_updL J0 48 u9) 49 d9)), (oa (a 5) cI 201 st), (oa (a 6) cZ 201 tn), (oa (a 1) cI 201 kd), (oa (a 11) cI 201 mn), (oa (a 12) cI 8040 cx), (oa (a 13) cI 8040 cy), (oa (a 32) cI 8 S1), (oa (a 3) cI 201 wd)] t.heap) 0 0 := by
  refine zIn (own := "ScaleShopModel") (loc := [(0, .ref k0), (1, .int gp9), (2, .int (nI i)), (3, .int 1)]) rfl rfl rfl rfl (fun p e s m below meth c hx hb hr hts hown hlocks hml hnm9 A hA hS hP hD hK hXN Q9 hQ9 ls hl => ?_)
  refine lv_iload_n hx hb dX11_clash_0 rfl (lv_at hl 1 rfl) ?_
  refine lv_if_lt (tgt := 24) hx hb dX11_clash_1 rfl (fun c_1 => ?_) (fun c_1 => ?_)
  · have c_1 : gp9.toInt < 0 := zc_lt rfl rfl c_1
    exfalso; omega
  · have c_1 : 0 ≤ gp9.toInt := zc_nlt rfl rfl c_1
    refine lv_iload_n hx hb dX11_clash_4 rfl (lv_at hl 1 rfl) ?_
    refine lv_sipush (v := 200) hx hb dX11_clash_5 rfl ?_
    refine lv_icmp_gt (tgt := 24) hx hb dX11_clash_8 rfl (fun c_2 => ?_) (fun c_2 => ?_)
    · have c_2 : 200 < gp9.toInt := zc_lt rfl rfl c_2
      exfalso; omega
    · have c_2 : gp9.toInt ≤ 200 := zc_nlt rfl rfl c_2
      refine lv_iload_n hx hb dX11_clash_11 rfl (lv_at hl 2 rfl) ?_
      have b9_4 : zlt (i) := show i < 2147483648 by omega
      refine lv_if_lt (tgt := 24) hx hb dX11_clash_12 rfl (fun c_3 => ?_) (fun c_3 => ?_)
      · have c_3 : ((i : Nat) : Int) < 0 := zc_lt (nI_toInt b9_4) rfl c_3
        exfalso; omega
      · have c_3 : 0 ≤ ((i : Nat) : Int) := zc_nlt (nI_toInt b9_4) rfl c_3
        refine lv_iload_n hx hb dX11_clash_15 rfl (lv_at hl 3 rfl) ?_
        refine lv_if_lt (tgt := 24) hx hb dX11_clash_16 rfl (fun c_5 => ?_) (fun c_5 => ?_)
        · exact absurd c_5 (by decide)
        · refine lv_iload_n hx hb dX11_clash_19 rfl (lv_at hl 3 rfl) ?_
          refine lv_iconst (v := 1) hx hb dX11_clash_20 rfl ?_
          refine lv_icmp_le (tgt := 26) hx hb dX11_clash_21 rfl (fun c_6 => ?_) (fun c_6 => ?_)
          · refine lv_iconst (v := 0) hx hb dX11_clash_26 rfl ?_
            refine lv_istore (lv' := [(4, .int 0), (0, .ref k0), (1, .int gp9), (2, .int (nI i)), (3, .int 1)]) hx hb dX11_clash_27 hl (Nat.le_of_ble_eq_true rfl) rfl (fun ls hl => ?_)
            refine lv_iconst (v := 0) hx hb dX11_clash_29 rfl ?_
            refine lv_istore (lv' := [(5, .int 0), (4, .int 0), (0, .ref k0), (1, .int gp9), (2, .int (nI i)), (3, .int 1)]) hx hb dX11_clash_30 hl (Nat.le_of_ble_eq_true rfl) rfl (fun ls hl => ?_)
            have hl_32 : ∀ (n9 : Nat) (a9 : Nat) (u9 : Int64) (d9 : Int64) (S1 : Nat → Int32) (H : Heap) (locs : List Loc) (ls : Array Slot), ft - a9 < n9 → (a9 ≤ ft) → (∀ a8 b8, a8 < a9 → ¬ clI (clP ft st tn kd mn cx cy wd gp9) ft a8 b8 i) → va_P (dC, dI) classes [(om k0 a I0 (vp_updL (vp_updL J0 48 u9) 49 d9)), (oa (a 5) cI 201 st), (oa (a 6) cZ 201 tn), (oa (a 1) cI 201 kd), (oa (a 11) cI 201 mn), (oa (a 12) cI 8040 cx), (oa (a 13) cI 8040 cy), (oa (a 32) cI 8 S1), (oa (a 3) cI 201 wd)] H → va_D A [(om k0 a I0 (vp_updL (vp_updL J0 48 u9) 49 d9)), (oa (a 5) cI 201 st), (oa (a 6) cZ 201 tn), (oa (a 1) cI 201 kd), (oa (a 11) cI 201 mn), (oa (a 12) cI 8040 cx), (oa (a 13) cI 8040 cy), (oa (a 32) cI 8 S1), (oa (a 3) cI 201 wd)] → va_S A s.heap H locs → lv_has ls 7 [(5, .int (nI a9)), (4, .int (nI (clT (clP ft st tn kd mn cx cy wd gp9) ft a9))), (0, .ref k0), (1, .int gp9), (2, .int (nI i)), (3, .int 1)] → W p l e ({ frames := 6, cells := 0, slots := 0, locals := 154 } : Room) s m ([.ref k0, .int gp9, .int (nI i), .int 1] : List Value).toArray below meth c H locs 0 0 Q9 (F0 m 32 ls []) := by
              intro n9
              induction n9 with
              | zero => intro a9 u9 d9 S1 H locs ls hm; exact absurd hm (Nat.not_lt_zero _)
              | succ n9 ih_32 =>
                intro a9 u9 d9 S1 H locs ls hm ha9 hno hP hD hS hl
                have hct := clT_200 (clP ft st tn kd mn cx cy wd gp9) h200 ha9
                refine lv_iload hx hb dX11_clash_32 (lv_at hl 0 rfl) ?_
                refine lv_aload_n hx hb dX11_clash_34 rfl (lv_at hl 2 rfl) ?_
                refine va_get (D := (dC, dI)) (ci := 9) (v := .int (I0 0)) (C := RX11) (T := TX11) (N := 55) hx hb hts inX11 hown hK hP 0 rfl rfl 0 (Nat.le_of_ble_eq_true rfl) (hts _ mw_1159) (fun _ h9 => h9) rfl dX11_clash_35 ?_
                refine zz_i (v := nI ft) (hft) ?_
                have b9_8 : zlt (a9) := show a9 < 2147483648 by omega
                have b9_9 : zlt (ft) := show ft < 2147483648 by omega
                refine lv_icmp_ge (tgt := 104) hx hb dX11_clash_38 rfl (fun c_7 => ?_) (fun c_7 => ?_)
                · have c_7 : ((ft : Nat) : Int) ≤ ((a9 : Nat) : Int) := zc_le (nI_toInt b9_9) (nI_toInt b9_8) c_7
                  exfalso; exact hno a7 b7 (by have := hit.1; have := hit.2.1; omega) hit
                · have c_7 : ((a9 : Nat) : Int) < ((ft : Nat) : Int) := zc_nle (nI_toInt b9_9) (nI_toInt b9_8) c_7
                  refine lv_iload hx hb dX11_clash_41 (lv_at hl 0 rfl) ?_
                  refine lv_iconst (v := 1) hx hb dX11_clash_43 rfl ?_
                  refine lv_iadd hx hb dX11_clash_44 ?_
                  refine zz_i (v := nI (a9 + 1)) (nI_add a9 1) ?_
                  refine lv_istore (lv' := [(6, .int (nI (a9 + 1))), (5, .int (nI a9)), (4, .int (nI (clT (clP ft st tn kd mn cx cy wd gp9) ft a9))), (0, .ref k0), (1, .int gp9), (2, .int (nI i)), (3, .int 1)]) hx hb dX11_clash_45 hl (Nat.le_of_ble_eq_true rfl) rfl (fun ls hl => ?_)
                  have hl_47 : ∀ (n9 : Nat) (b9 : Nat) (u9 : Int64) (d9 : Int64) (S1 : Nat → Int32) (H : Heap) (locs : List Loc) (ls : Array Slot), ft - b9 < n9 → (a9 < b9 ∧ b9 ≤ ft) → (∀ b8, b8 < b9 → ¬ clI (clP ft st tn kd mn cx cy wd gp9) ft a9 b8 i) → va_P (dC, dI) classes [(om k0 a I0 (vp_updL (vp_updL J0 48 u9) 49 d9)), (oa (a 5) cI 201 st), (oa (a 6) cZ 201 tn), (oa (a 1) cI 201 kd), (oa (a 11) cI 201 mn), (oa (a 12) cI 8040 cx), (oa (a 13) cI 8040 cy), (oa (a 32) cI 8 S1), (oa (a 3) cI 201 wd)] H → va_D A [(om k0 a I0 (vp_updL (vp_updL J0 48 u9) 49 d9)), (oa (a 5) cI 201 st), (oa (a 6) cZ 201 tn), (oa (a 1) cI 201 kd), (oa (a 11) cI 201 mn), (oa (a 12) cI 8040 cx), (oa (a 13) cI 8040 cy), (oa (a 32) cI 8 S1), (oa (a 3) cI 201 wd)] → va_S A s.heap H locs → lv_has ls 7 [(6, .int (nI b9)), (5, .int (nI a9)), (4, .int (nI (clT (clP ft st tn kd mn cx cy wd gp9) ft a9 + cntP (fun b => a9 < b ∧ clP ft st tn kd mn cx cy wd gp9 a9 b) b9))), (0, .ref k0), (1, .int gp9), (2, .int (nI i)), (3, .int 1)] → W p l e ({ frames := 6, cells := 0, slots := 0, locals := 154 } : Room) s m ([.ref k0, .int gp9, .int (nI i), .int 1] : List Value).toArray below meth c H locs 0 0 Q9 (F0 m 47 ls []) := by
                    intro n9
                    induction n9 with
                    | zero => intro b9 u9 d9 S1 H locs ls hm; exact absurd hm (Nat.not_lt_zero _)
                    | succ n9 ih_47 =>
                      intro b9 u9 d9 S1 H locs ls hm hb9 hnb hP hD hS hl
                      have hcn := cntP_b (fun b => a9 < b ∧ clP ft st tn kd mn cx cy wd gp9 a9 b) b9
                      refine lv_iload hx hb dX11_clash_47 (lv_at hl 0 rfl) ?_
                      refine lv_aload_n hx hb dX11_clash_49 rfl (lv_at hl 3 rfl) ?_
                      refine va_get (D := (dC, dI)) (ci := 9) (v := .int (I0 0)) (C := RX11) (T := TX11) (N := 55) hx hb hts inX11 hown hK hP 0 rfl rfl 0 (Nat.le_of_ble_eq_true rfl) (hts _ mw_1159) (fun _ h9 => h9) rfl dX11_clash_50 ?_
                      refine zz_i (v := nI ft) (hft) ?_
                      have b9_11 : zlt (b9) := show b9 < 2147483648 by omega
                      refine lv_icmp_ge (tgt := 98) hx hb dX11_clash_53 rfl (fun c_10 => ?_) (fun c_10 => ?_)
                      · have c_10 : ((ft : Nat) : Int) ≤ ((b9 : Nat) : Int) := zc_le (nI_toInt b9_9) (nI_toInt b9_11) c_10
                        refine lv_iinc (v := nI (a9 + 1)) (lv' := [(5, .int (nI (a9 + 1))), (6, .int (nI b9)), (4, .int (nI (clT (clP ft st tn kd mn cx cy wd gp9) ft a9 + cntP (fun b => a9 < b ∧ clP ft st tn kd mn cx cy wd gp9 a9 b) b9))), (0, .ref k0), (1, .int gp9), (2, .int (nI i)), (3, .int 1)]) hx hb dX11_clash_98 hl (k := 1) rfl (nI_add a9 1) (Nat.le_of_ble_eq_true rfl) rfl (fun ls hl => ?_)
                        refine lv_goto (tgt := 32) hx hb dX11_clash_101 rfl ?_
                        have hl9 := lv_sub hl [0, 2, 3, 4, 5, 6] rfl
                        have e9_4 : nI (clT (clP ft st tn kd mn cx cy wd gp9) ft (a9 + 1)) = (nI (clT (clP ft st tn kd mn cx cy wd gp9) ft a9 + cntP (fun b => a9 < b ∧ clP ft st tn kd mn cx cy wd gp9 a9 b) b9) : Int32) := by exact zn_eq (by rw [show b9 = ft by omega]; rfl)
                        have hl9 : lv_has ls 7 [(5, .int (nI (a9 + 1))), (4, .int (nI (clT (clP ft st tn kd mn cx cy wd gp9) ft (a9 + 1)))), (0, .ref k0), (1, .int gp9), (2, .int (nI i)), (3, .int 1)] := by rw [e9_4]; exact hl9
                        exact ih_32 (a9 + 1) u9 d9 S1 H locs ls (by first | with_reducible assumption | omega) (by first | with_reducible assumption | omega) (fun a8 b8 h h2 => (by rcases Nat.lt_or_ge a8 a9 with q | q; exact hno a8 b8 q h2; rw [show a8 = a9 by omega] at h2; exact hnb b8 (by have := h2.2.1; omega) h2)) hP hD hS hl9
                      · have c_10 : ((b9 : Nat) : Int) < ((ft : Nat) : Int) := zc_nle (nI_toInt b9_9) (nI_toInt b9_11) c_10
                        refine lv_aload_n hx hb dX11_clash_56 rfl (lv_at hl 3 rfl) ?_
                        refine lv_iload hx hb dX11_clash_57 (lv_at hl 1 rfl) ?_
                        refine lv_iload hx hb dX11_clash_59 (lv_at hl 0 rfl) ?_
                        refine lv_iload_n hx hb dX11_clash_61 rfl (lv_at hl 4 rfl) ?_
                        obtain ⟨hPc, hDc, hFc⟩ := zo_sub (wc := [_, _, _, _, _, _, _, _, _]) hP hD hS hA [0, 1, 2, 3, 4, 5, 6, 7, 8] (by decide +kernel) rfl
                        refine zcall (st1 := [.int (pI (clP ft st tn kd mn cx cy wd gp9 a9 b9))]) (va_runV (As := [.int (nI a9), .int (nI b9), .int gp9]) (rest := []) ⟨hx, hb, hml, hown, hts⟩ (k_M_isClash l dC dI cI cZ cF H.size k0 a I0 (vp_updL (vp_updL J0 48 u9) 49 d9) a9 b9 ft gp9 st tn kd mn cx cy S1 wd (by first | with_reducible assumption | assumption) (by first | with_reducible assumption | omega) (by first | with_reducible assumption | assumption) (by first | with_reducible assumption | assumption) (by first | with_reducible assumption | assumption) (by first | with_reducible assumption | assumption) (by first | with_reducible assumption | omega) (by first | with_reducible assumption | omega)) (csV_230 hts rfl rfl ⟨Nat.le_of_ble_eq_true rfl, Nat.le_of_ble_eq_true rfl⟩) (zPV2 (q0 := 0) (ci := 9) hPc hDc hK hXN rfl rfl) rfl rfl hl.1 rfl (lv_room (Nat.le_of_ble_eq_true rfl)) dX11_clash_62 ⟨Nat.le_of_ble_eq_true rfl, Nat.le_of_ble_eq_true rfl⟩) hS hFc hFc rfl (fun t H locs ht hB hk1 hS => ?_)
                        obtain ⟨q_12, q_13, q_14, hP1, hD1⟩ := hB
                        rw [ht] at hP1
                        obtain ⟨hP, hD⟩ := zn (W2 := [(om k0 a I0 (vp_updL (vp_updL J0 48 q_12) 49 q_13)), _, _, _, _, _, _, (oa (a 32) cI 8 q_14), _]) hP hD hk1 hFc hP1 hD1 zl_269 [] zl_270 zl_269 (by decide +kernel) rfl rfl rfl rfl rfl
                        clear hk1 hPc hDc hFc hP1 hD1 ht
                        refine lv_if_ne (tgt := 71) hx hb dX11_clash_65 rfl (fun c_15 => ?_) (fun c_15 => ?_)
                        · have c_15 : clP ft st tn kd mn cx cy wd gp9 a9 b9 := zp_1 c_15
                          refine lv_iload hx hb dX11_clash_71 (lv_at hl 2 rfl) ?_
                          refine lv_iload_n hx hb dX11_clash_73 rfl (lv_at hl 5 rfl) ?_
                          have b9_17 : zlt ((clT (clP ft st tn kd mn cx cy wd gp9) ft a9 + cntP (fun b => a9 < b ∧ clP ft st tn kd mn cx cy wd gp9 a9 b) b9)) := show (clT (clP ft st tn kd mn cx cy wd gp9) ft a9 + cntP (fun b => a9 < b ∧ clP ft st tn kd mn cx cy wd gp9 a9 b) b9) < 2147483648 by omega
                          refine lv_icmp_ne (tgt := 89) hx hb dX11_clash_74 rfl (fun c_16 => ?_) (fun c_16 => ?_)
                          · have c_16 : ¬ ((clT (clP ft st tn kd mn cx cy wd gp9) ft a9 + cntP (fun b => a9 < b ∧ clP ft st tn kd mn cx cy wd gp9 a9 b) b9 : Nat) : Int) = ((i : Nat) : Int) := zc_ne (nI_toInt b9_17) (nI_toInt b9_4) c_16
                            refine lv_iinc (v := nI ((clT (clP ft st tn kd mn cx cy wd gp9) ft a9 + cntP (fun b => a9 < b ∧ clP ft st tn kd mn cx cy wd gp9 a9 b) b9) + 1)) (lv' := [(4, .int (nI ((clT (clP ft st tn kd mn cx cy wd gp9) ft a9 + cntP (fun b => a9 < b ∧ clP ft st tn kd mn cx cy wd gp9 a9 b) b9) + 1))), (6, .int (nI b9)), (5, .int (nI a9)), (0, .ref k0), (1, .int gp9), (2, .int (nI i)), (3, .int 1)]) hx hb dX11_clash_89 hl (k := 2) rfl (nI_add (clT (clP ft st tn kd mn cx cy wd gp9) ft a9 + cntP (fun b => a9 < b ∧ clP ft st tn kd mn cx cy wd gp9 a9 b) b9) 1) (Nat.le_of_ble_eq_true rfl) rfl (fun ls hl => ?_)
                            refine lv_iinc (v := nI (b9 + 1)) (lv' := [(6, .int (nI (b9 + 1))), (4, .int (nI ((clT (clP ft st tn kd mn cx cy wd gp9) ft a9 + cntP (fun b => a9 < b ∧ clP ft st tn kd mn cx cy wd gp9 a9 b) b9) + 1))), (5, .int (nI a9)), (0, .ref k0), (1, .int gp9), (2, .int (nI i)), (3, .int 1)]) hx hb dX11_clash_92 hl (k := 1) rfl (nI_add b9 1) (Nat.le_of_ble_eq_true rfl) rfl (fun ls hl => ?_)
                            refine lv_goto (tgt := 47) hx hb dX11_clash_95 rfl ?_
                            have hl9 := lv_sub hl [0, 2, 1, 3, 4, 5, 6] rfl
                            have e9_4 : nI (clT (clP ft st tn kd mn cx cy wd gp9) ft a9 + cntP (fun b => a9 < b ∧ clP ft st tn kd mn cx cy wd gp9 a9 b) (b9 + 1)) = (nI ((clT (clP ft st tn kd mn cx cy wd gp9) ft a9 + cntP (fun b => a9 < b ∧ clP ft st tn kd mn cx cy wd gp9 a9 b) b9) + 1) : Int32) := by first | exact zn_eq (by rw [cntP_y (P := fun b => a9 < b ∧ clP ft st tn kd mn cx cy wd gp9 a9 b) ⟨by omega, by assumption⟩]; first | done | omega) | exact zn_eq (by rw [cntP_n (P := fun b => a9 < b ∧ clP ft st tn kd mn cx cy wd gp9 a9 b) (fun h => absurd h.2 (by first | with_reducible assumption | assumption))]; first | done | omega)
                            have hl9 : lv_has ls 7 [(6, .int (nI (b9 + 1))), (5, .int (nI a9)), (4, .int (nI (clT (clP ft st tn kd mn cx cy wd gp9) ft a9 + cntP (fun b => a9 < b ∧ clP ft st tn kd mn cx cy wd gp9 a9 b) (b9 + 1)))), (0, .ref k0), (1, .int gp9), (2, .int (nI i)), (3, .int 1)] := by rw [e9_4]; exact hl9
                            exact ih_47 (b9 + 1) q_12 q_13 q_14 H locs ls (by first | with_reducible assumption | omega) (by first | with_reducible assumption | omega) (fun b8 h h2 => (by rcases Nat.lt_or_ge b8 b9 with q | q; exact hnb b8 q h2; rw [show b8 = b9 by omega] at h2; first | exact absurd h2.2.2.1 (by first | with_reducible assumption | assumption) | (have h7 := h2.2.2.2; omega))) hP hD hS hl9
                          · have c_16 : ((clT (clP ft st tn kd mn cx cy wd gp9) ft a9 + cntP (fun b => a9 < b ∧ clP ft st tn kd mn cx cy wd gp9 a9 b) b9 : Nat) : Int) = ((i : Nat) : Int) := zc_eq (nI_toInt b9_17) (nI_toInt b9_4) c_16
                            have hci : clI (clP ft st tn kd mn cx cy wd gp9) ft a9 b9 i := ⟨by omega, by omega, by assumption, by omega⟩
                            refine lv_iload_n hx hb dX11_clash_77 rfl (lv_at hl 6 rfl) ?_
                            refine lv_if_ne (tgt := 86) hx hb dX11_clash_78 rfl (fun c_18 => ?_) (fun c_18 => ?_)
                            · refine lv_iload hx hb dX11_clash_86 (lv_at hl 0 rfl) ?_
                              obtain ⟨hP9, hD9⟩ := zu_sub (wc := [_, _, _, _, _, _, _, _, _]) hP hD [true, true, true, true, true, true, true, true, true] rfl rfl
                              rw [hQ9]
                              exact W.iret (v := nI b9) hx hb hr (fun t ht hW => ⟨⟨congrArg (fun z => Outcome.returned (some (Value.int z))) (show (nI b9 : Int32) = nI b7 from zn_eq (clI_u hci hit).2), q_12, q_13, q_14, by rw [ht]; exact hP9, hD9⟩, hS.F ht⟩) hS.2.2 dX11_clash_88
                            · exact absurd c_18 (by decide)
                        · have c_15 : ¬ (clP ft st tn kd mn cx cy wd gp9 a9 b9) := zp_0 c_15
                          refine lv_goto (tgt := 92) hx hb dX11_clash_68 rfl ?_
                          refine lv_iinc (v := nI (b9 + 1)) (lv' := [(6, .int (nI (b9 + 1))), (5, .int (nI a9)), (4, .int (nI (clT (clP ft st tn kd mn cx cy wd gp9) ft a9 + cntP (fun b => a9 < b ∧ clP ft st tn kd mn cx cy wd gp9 a9 b) b9))), (0, .ref k0), (1, .int gp9), (2, .int (nI i)), (3, .int 1)]) hx hb dX11_clash_92 hl (k := 0) rfl (nI_add b9 1) (Nat.le_of_ble_eq_true rfl) rfl (fun ls hl => ?_)
                          refine lv_goto (tgt := 47) hx hb dX11_clash_95 rfl ?_
                          have hl9 := lv_sub hl [0, 1, 2, 3, 4, 5, 6] rfl
                          have e9_4 : nI (clT (clP ft st tn kd mn cx cy wd gp9) ft a9 + cntP (fun b => a9 < b ∧ clP ft st tn kd mn cx cy wd gp9 a9 b) (b9 + 1)) = (nI (clT (clP ft st tn kd mn cx cy wd gp9) ft a9 + cntP (fun b => a9 < b ∧ clP ft st tn kd mn cx cy wd gp9 a9 b) b9) : Int32) := by first | exact zn_eq (by rw [cntP_y (P := fun b => a9 < b ∧ clP ft st tn kd mn cx cy wd gp9 a9 b) ⟨by omega, by assumption⟩]; first | done | omega) | exact zn_eq (by rw [cntP_n (P := fun b => a9 < b ∧ clP ft st tn kd mn cx cy wd gp9 a9 b) (fun h => absurd h.2 (by first | with_reducible assumption | assumption))]; first | done | omega)
                          have hl9 : lv_has ls 7 [(6, .int (nI (b9 + 1))), (5, .int (nI a9)), (4, .int (nI (clT (clP ft st tn kd mn cx cy wd gp9) ft a9 + cntP (fun b => a9 < b ∧ clP ft st tn kd mn cx cy wd gp9 a9 b) (b9 + 1)))), (0, .ref k0), (1, .int gp9), (2, .int (nI i)), (3, .int 1)] := by rw [e9_4]; exact hl9
                          exact ih_47 (b9 + 1) q_12 q_13 q_14 H locs ls (by first | with_reducible assumption | omega) (by first | with_reducible assumption | omega) (fun b8 h h2 => (by rcases Nat.lt_or_ge b8 b9 with q | q; exact hnb b8 q h2; rw [show b8 = b9 by omega] at h2; first | exact absurd h2.2.2.1 (by first | with_reducible assumption | assumption) | (have h7 := h2.2.2.2; omega))) hP hD hS hl9
                  have e9_4 : nI (clT (clP ft st tn kd mn cx cy wd gp9) ft a9 + cntP (fun b => a9 < b ∧ clP ft st tn kd mn cx cy wd gp9 a9 b) (a9 + 1)) = (nI (clT (clP ft st tn kd mn cx cy wd gp9) ft a9) : Int32) := by exact zn_eq (by rw [cl_0 (clP ft st tn kd mn cx cy wd gp9) a9 (a9 + 1) (Nat.le_refl _)]; rfl)
                  have hl9 : lv_has ls 7 [(6, .int (nI (a9 + 1))), (5, .int (nI a9)), (4, .int (nI (clT (clP ft st tn kd mn cx cy wd gp9) ft a9 + cntP (fun b => a9 < b ∧ clP ft st tn kd mn cx cy wd gp9 a9 b) (a9 + 1)))), (0, .ref k0), (1, .int gp9), (2, .int (nI i)), (3, .int 1)] := by rw [e9_4]; exact lv_sub hl [0, 1, 2, 3, 4, 5, 6] rfl
                  exact hl_47 _ (a9 + 1) u9 d9 S1 H locs ls (Nat.lt_succ_self _) (by first | with_reducible assumption | omega) (fun b8 h h2 => (by have := h2.1; omega)) hP hD hS hl9
            have e9_4 : nI (clT (clP ft st tn kd mn cx cy wd gp9) ft 0) = (0 : Int32) := by rfl
            have hl9 : lv_has ls 7 [(5, .int (nI 0)), (4, .int (nI (clT (clP ft st tn kd mn cx cy wd gp9) ft 0))), (0, .ref k0), (1, .int gp9), (2, .int (nI i)), (3, .int 1)] := by rw [e9_4]; exact lv_sub hl [0, 1, 2, 3, 4, 5] rfl
            exact hl_32 _ 0 (J0 48) (J0 49) S0 s.heap [] ls (Nat.lt_succ_self _) (by first | with_reducible assumption | omega) (fun a8 b8 h => absurd h (Nat.not_lt_zero _)) hP hD hS hl9
          · exact absurd (by decide) c_6
set_option maxHeartbeats 4000000 in
set_option maxRecDepth 100000 in
theorem k_M_clash_n (l : Launch) (dC : Nat → ClassId) (dI : Nat → Nat → Nat) (cI cZ cF : ClassId) (sz : Nat) (k0 : Nat) (a : Nat → Nat) (I0 : Nat → Int32) (J0 : Nat → Int64) (ft : Nat) (i : Nat) (gp9 : Int32) (w : Int32) (st : Nat → Int32) (tn : Nat → Int32) (kd : Nat → Int32) (mn : Nat → Int32) (cx : Nat → Int32) (cy : Nat → Int32) (S0 : Nat → Int32) (wd : Nat → Int32) (hft : I0 0 = nI ft) (h200 : ft ≤ 200) (hwf : ∀ q, lvF ft st tn q → wfM mn cx cy q) (hef : ∀ q, lvF ft st tn q → 1 ≤ eO (kd q).toInt (nN (mn q))) (hwd : ∀ q, q < ft → 0 ≤ (wd q).toInt ∧ (wd q).toInt ≤ 100) (hgp : 0 ≤ gp9.toInt ∧ gp9.toInt ≤ 200) (hi31 : i < 2147483648) (hw9 : 0 ≤ w.toInt ∧ w.toInt ≤ 1) (hit : ∀ a7 b7, ¬ clI (clP ft st tn kd mn cx cy wd gp9) ft a7 b7 i) : zM l yX11_clash cX11_clash 7 (some .int) ({ frames := 6, cells := 0, slots := 0, locals := 154 } : Room) [.ref k0, .int gp9, .int (nI i), .int w] (dC, dI) (zTy cI cZ cF) [(om k0 a I0 J0), (oa (a 5) cI 201 st), (oa (a 6) cZ 201 tn), (oa (a 1) cI 201 kd), (oa (a 11) cI 201 mn), (oa (a 12) cI 8040 cx), (oa (a 13) cI 8040 cy), (oa (a 32) cI 8 S0), (oa (a 3) cI 201 wd)] sz (some (.int (-1))) (fun A t => ∃ (u9 : Int64), ∃ (d9 : Int64), ∃ (S1 : Nat → Int32), zPD (dC, dI) classes A [(om k0 a I0 (vp_updL (vp_updL J0 48 u9) 49 d9)), (oa (a 5) cI 201 st), (oa (a 6) cZ 201 tn), (oa (a 1) cI 201 kd), (oa (a 11) cI 201 mn), (oa (a 12) cI 8040 cx), (oa (a 13) cI 8040 cy), (oa (a 32) cI 8 S1), (oa (a 3) cI 201 wd)] t.heap) 0 0 := by
  refine zIn (own := "ScaleShopModel") (loc := [(0, .ref k0), (1, .int gp9), (2, .int (nI i)), (3, .int w)]) rfl rfl rfl rfl (fun p e s m below meth c hx hb hr hts hown hlocks hml hnm9 A hA hS hP hD hK hXN Q9 hQ9 ls hl => ?_)
  refine lv_iload_n hx hb dX11_clash_0 rfl (lv_at hl 1 rfl) ?_
  refine lv_if_lt (tgt := 24) hx hb dX11_clash_1 rfl (fun c_1 => ?_) (fun c_1 => ?_)
  · have c_1 : gp9.toInt < 0 := zc_lt rfl rfl c_1
    exfalso; omega
  · have c_1 : 0 ≤ gp9.toInt := zc_nlt rfl rfl c_1
    refine lv_iload_n hx hb dX11_clash_4 rfl (lv_at hl 1 rfl) ?_
    refine lv_sipush (v := 200) hx hb dX11_clash_5 rfl ?_
    refine lv_icmp_gt (tgt := 24) hx hb dX11_clash_8 rfl (fun c_2 => ?_) (fun c_2 => ?_)
    · have c_2 : 200 < gp9.toInt := zc_lt rfl rfl c_2
      exfalso; omega
    · have c_2 : gp9.toInt ≤ 200 := zc_nlt rfl rfl c_2
      refine lv_iload_n hx hb dX11_clash_11 rfl (lv_at hl 2 rfl) ?_
      have b9_4 : zlt (i) := show i < 2147483648 by omega
      refine lv_if_lt (tgt := 24) hx hb dX11_clash_12 rfl (fun c_3 => ?_) (fun c_3 => ?_)
      · have c_3 : ((i : Nat) : Int) < 0 := zc_lt (nI_toInt b9_4) rfl c_3
        exfalso; omega
      · have c_3 : 0 ≤ ((i : Nat) : Int) := zc_nlt (nI_toInt b9_4) rfl c_3
        refine lv_iload_n hx hb dX11_clash_15 rfl (lv_at hl 3 rfl) ?_
        refine lv_if_lt (tgt := 24) hx hb dX11_clash_16 rfl (fun c_5 => ?_) (fun c_5 => ?_)
        · have c_5 : w.toInt < 0 := zc_lt rfl rfl c_5
          exfalso; omega
        · have c_5 : 0 ≤ w.toInt := zc_nlt rfl rfl c_5
          refine lv_iload_n hx hb dX11_clash_19 rfl (lv_at hl 3 rfl) ?_
          refine lv_iconst (v := 1) hx hb dX11_clash_20 rfl ?_
          refine lv_icmp_le (tgt := 26) hx hb dX11_clash_21 rfl (fun c_6 => ?_) (fun c_6 => ?_)
          · have c_6 : w.toInt ≤ 1 := zc_le rfl rfl c_6
            refine lv_iconst (v := 0) hx hb dX11_clash_26 rfl ?_
            refine lv_istore (lv' := [(4, .int 0), (0, .ref k0), (1, .int gp9), (2, .int (nI i)), (3, .int w)]) hx hb dX11_clash_27 hl (Nat.le_of_ble_eq_true rfl) rfl (fun ls hl => ?_)
            refine lv_iconst (v := 0) hx hb dX11_clash_29 rfl ?_
            refine lv_istore (lv' := [(5, .int 0), (4, .int 0), (0, .ref k0), (1, .int gp9), (2, .int (nI i)), (3, .int w)]) hx hb dX11_clash_30 hl (Nat.le_of_ble_eq_true rfl) rfl (fun ls hl => ?_)
            have hl_32 : ∀ (n9 : Nat) (a9 : Nat) (u9 : Int64) (d9 : Int64) (S1 : Nat → Int32) (H : Heap) (locs : List Loc) (ls : Array Slot), ft - a9 < n9 → (a9 ≤ ft) → (∀ a8 b8, a8 < a9 → ¬ clI (clP ft st tn kd mn cx cy wd gp9) ft a8 b8 i) → va_P (dC, dI) classes [(om k0 a I0 (vp_updL (vp_updL J0 48 u9) 49 d9)), (oa (a 5) cI 201 st), (oa (a 6) cZ 201 tn), (oa (a 1) cI 201 kd), (oa (a 11) cI 201 mn), (oa (a 12) cI 8040 cx), (oa (a 13) cI 8040 cy), (oa (a 32) cI 8 S1), (oa (a 3) cI 201 wd)] H → va_D A [(om k0 a I0 (vp_updL (vp_updL J0 48 u9) 49 d9)), (oa (a 5) cI 201 st), (oa (a 6) cZ 201 tn), (oa (a 1) cI 201 kd), (oa (a 11) cI 201 mn), (oa (a 12) cI 8040 cx), (oa (a 13) cI 8040 cy), (oa (a 32) cI 8 S1), (oa (a 3) cI 201 wd)] → va_S A s.heap H locs → lv_has ls 7 [(5, .int (nI a9)), (4, .int (nI (clT (clP ft st tn kd mn cx cy wd gp9) ft a9))), (0, .ref k0), (1, .int gp9), (2, .int (nI i)), (3, .int w)] → W p l e ({ frames := 6, cells := 0, slots := 0, locals := 154 } : Room) s m ([.ref k0, .int gp9, .int (nI i), .int w] : List Value).toArray below meth c H locs 0 0 Q9 (F0 m 32 ls []) := by
              intro n9
              induction n9 with
              | zero => intro a9 u9 d9 S1 H locs ls hm; exact absurd hm (Nat.not_lt_zero _)
              | succ n9 ih_32 =>
                intro a9 u9 d9 S1 H locs ls hm ha9 hno hP hD hS hl
                have hct := clT_200 (clP ft st tn kd mn cx cy wd gp9) h200 ha9
                refine lv_iload hx hb dX11_clash_32 (lv_at hl 0 rfl) ?_
                refine lv_aload_n hx hb dX11_clash_34 rfl (lv_at hl 2 rfl) ?_
                refine va_get (D := (dC, dI)) (ci := 9) (v := .int (I0 0)) (C := RX11) (T := TX11) (N := 55) hx hb hts inX11 hown hK hP 0 rfl rfl 0 (Nat.le_of_ble_eq_true rfl) (hts _ mw_1159) (fun _ h9 => h9) rfl dX11_clash_35 ?_
                refine zz_i (v := nI ft) (hft) ?_
                have b9_8 : zlt (a9) := show a9 < 2147483648 by omega
                have b9_9 : zlt (ft) := show ft < 2147483648 by omega
                refine lv_icmp_ge (tgt := 104) hx hb dX11_clash_38 rfl (fun c_7 => ?_) (fun c_7 => ?_)
                · have c_7 : ((ft : Nat) : Int) ≤ ((a9 : Nat) : Int) := zc_le (nI_toInt b9_9) (nI_toInt b9_8) c_7
                  refine lv_iconst (v := (-1)) hx hb dX11_clash_104 rfl ?_
                  obtain ⟨hP9, hD9⟩ := zu_sub (wc := [_, _, _, _, _, _, _, _, _]) hP hD [true, true, true, true, true, true, true, true, true] rfl rfl
                  rw [hQ9]
                  exact W.iret (v := (-1)) hx hb hr (fun t ht hW => ⟨⟨rfl, u9, d9, S1, by rw [ht]; exact hP9, hD9⟩, hS.F ht⟩) hS.2.2 dX11_clash_105
                · have c_7 : ((a9 : Nat) : Int) < ((ft : Nat) : Int) := zc_nle (nI_toInt b9_9) (nI_toInt b9_8) c_7
                  refine lv_iload hx hb dX11_clash_41 (lv_at hl 0 rfl) ?_
                  refine lv_iconst (v := 1) hx hb dX11_clash_43 rfl ?_
                  refine lv_iadd hx hb dX11_clash_44 ?_
                  refine zz_i (v := nI (a9 + 1)) (nI_add a9 1) ?_
                  refine lv_istore (lv' := [(6, .int (nI (a9 + 1))), (5, .int (nI a9)), (4, .int (nI (clT (clP ft st tn kd mn cx cy wd gp9) ft a9))), (0, .ref k0), (1, .int gp9), (2, .int (nI i)), (3, .int w)]) hx hb dX11_clash_45 hl (Nat.le_of_ble_eq_true rfl) rfl (fun ls hl => ?_)
                  have hl_47 : ∀ (n9 : Nat) (b9 : Nat) (u9 : Int64) (d9 : Int64) (S1 : Nat → Int32) (H : Heap) (locs : List Loc) (ls : Array Slot), ft - b9 < n9 → (a9 < b9 ∧ b9 ≤ ft) → (∀ b8, b8 < b9 → ¬ clI (clP ft st tn kd mn cx cy wd gp9) ft a9 b8 i) → va_P (dC, dI) classes [(om k0 a I0 (vp_updL (vp_updL J0 48 u9) 49 d9)), (oa (a 5) cI 201 st), (oa (a 6) cZ 201 tn), (oa (a 1) cI 201 kd), (oa (a 11) cI 201 mn), (oa (a 12) cI 8040 cx), (oa (a 13) cI 8040 cy), (oa (a 32) cI 8 S1), (oa (a 3) cI 201 wd)] H → va_D A [(om k0 a I0 (vp_updL (vp_updL J0 48 u9) 49 d9)), (oa (a 5) cI 201 st), (oa (a 6) cZ 201 tn), (oa (a 1) cI 201 kd), (oa (a 11) cI 201 mn), (oa (a 12) cI 8040 cx), (oa (a 13) cI 8040 cy), (oa (a 32) cI 8 S1), (oa (a 3) cI 201 wd)] → va_S A s.heap H locs → lv_has ls 7 [(6, .int (nI b9)), (5, .int (nI a9)), (4, .int (nI (clT (clP ft st tn kd mn cx cy wd gp9) ft a9 + cntP (fun b => a9 < b ∧ clP ft st tn kd mn cx cy wd gp9 a9 b) b9))), (0, .ref k0), (1, .int gp9), (2, .int (nI i)), (3, .int w)] → W p l e ({ frames := 6, cells := 0, slots := 0, locals := 154 } : Room) s m ([.ref k0, .int gp9, .int (nI i), .int w] : List Value).toArray below meth c H locs 0 0 Q9 (F0 m 47 ls []) := by
                    intro n9
                    induction n9 with
                    | zero => intro b9 u9 d9 S1 H locs ls hm; exact absurd hm (Nat.not_lt_zero _)
                    | succ n9 ih_47 =>
                      intro b9 u9 d9 S1 H locs ls hm hb9 hnb hP hD hS hl
                      have hcn := cntP_b (fun b => a9 < b ∧ clP ft st tn kd mn cx cy wd gp9 a9 b) b9
                      refine lv_iload hx hb dX11_clash_47 (lv_at hl 0 rfl) ?_
                      refine lv_aload_n hx hb dX11_clash_49 rfl (lv_at hl 3 rfl) ?_
                      refine va_get (D := (dC, dI)) (ci := 9) (v := .int (I0 0)) (C := RX11) (T := TX11) (N := 55) hx hb hts inX11 hown hK hP 0 rfl rfl 0 (Nat.le_of_ble_eq_true rfl) (hts _ mw_1159) (fun _ h9 => h9) rfl dX11_clash_50 ?_
                      refine zz_i (v := nI ft) (hft) ?_
                      have b9_11 : zlt (b9) := show b9 < 2147483648 by omega
                      refine lv_icmp_ge (tgt := 98) hx hb dX11_clash_53 rfl (fun c_10 => ?_) (fun c_10 => ?_)
                      · have c_10 : ((ft : Nat) : Int) ≤ ((b9 : Nat) : Int) := zc_le (nI_toInt b9_9) (nI_toInt b9_11) c_10
                        refine lv_iinc (v := nI (a9 + 1)) (lv' := [(5, .int (nI (a9 + 1))), (6, .int (nI b9)), (4, .int (nI (clT (clP ft st tn kd mn cx cy wd gp9) ft a9 + cntP (fun b => a9 < b ∧ clP ft st tn kd mn cx cy wd gp9 a9 b) b9))), (0, .ref k0), (1, .int gp9), (2, .int (nI i)), (3, .int w)]) hx hb dX11_clash_98 hl (k := 1) rfl (nI_add a9 1) (Nat.le_of_ble_eq_true rfl) rfl (fun ls hl => ?_)
                        refine lv_goto (tgt := 32) hx hb dX11_clash_101 rfl ?_
                        have hl9 := lv_sub hl [0, 2, 3, 4, 5, 6] rfl
                        have e9_4 : nI (clT (clP ft st tn kd mn cx cy wd gp9) ft (a9 + 1)) = (nI (clT (clP ft st tn kd mn cx cy wd gp9) ft a9 + cntP (fun b => a9 < b ∧ clP ft st tn kd mn cx cy wd gp9 a9 b) b9) : Int32) := by exact zn_eq (by rw [show b9 = ft by omega]; rfl)
                        have hl9 : lv_has ls 7 [(5, .int (nI (a9 + 1))), (4, .int (nI (clT (clP ft st tn kd mn cx cy wd gp9) ft (a9 + 1)))), (0, .ref k0), (1, .int gp9), (2, .int (nI i)), (3, .int w)] := by rw [e9_4]; exact hl9
                        exact ih_32 (a9 + 1) u9 d9 S1 H locs ls (by first | with_reducible assumption | omega) (by first | with_reducible assumption | omega) (fun a8 b8 h h2 => (by rcases Nat.lt_or_ge a8 a9 with q | q; exact hno a8 b8 q h2; rw [show a8 = a9 by omega] at h2; exact hnb b8 (by have := h2.2.1; omega) h2)) hP hD hS hl9
                      · have c_10 : ((b9 : Nat) : Int) < ((ft : Nat) : Int) := zc_nle (nI_toInt b9_9) (nI_toInt b9_11) c_10
                        refine lv_aload_n hx hb dX11_clash_56 rfl (lv_at hl 3 rfl) ?_
                        refine lv_iload hx hb dX11_clash_57 (lv_at hl 1 rfl) ?_
                        refine lv_iload hx hb dX11_clash_59 (lv_at hl 0 rfl) ?_
                        refine lv_iload_n hx hb dX11_clash_61 rfl (lv_at hl 4 rfl) ?_
                        obtain ⟨hPc, hDc, hFc⟩ := zo_sub (wc := [_, _, _, _, _, _, _, _, _]) hP hD hS hA [0, 1, 2, 3, 4, 5, 6, 7, 8] (by decide +kernel) rfl
                        refine zcall (st1 := [.int (pI (clP ft st tn kd mn cx cy wd gp9 a9 b9))]) (va_runV (As := [.int (nI a9), .int (nI b9), .int gp9]) (rest := []) ⟨hx, hb, hml, hown, hts⟩ (k_M_isClash l dC dI cI cZ cF H.size k0 a I0 (vp_updL (vp_updL J0 48 u9) 49 d9) a9 b9 ft gp9 st tn kd mn cx cy S1 wd (by first | with_reducible assumption | assumption) (by first | with_reducible assumption | omega) (by first | with_reducible assumption | assumption) (by first | with_reducible assumption | assumption) (by first | with_reducible assumption | assumption) (by first | with_reducible assumption | assumption) (by first | with_reducible assumption | omega) (by first | with_reducible assumption | omega)) (csV_230 hts rfl rfl ⟨Nat.le_of_ble_eq_true rfl, Nat.le_of_ble_eq_true rfl⟩) (zPV2 (q0 := 0) (ci := 9) hPc hDc hK hXN rfl rfl) rfl rfl hl.1 rfl (lv_room (Nat.le_of_ble_eq_true rfl)) dX11_clash_62 ⟨Nat.le_of_ble_eq_true rfl, Nat.le_of_ble_eq_true rfl⟩) hS hFc hFc rfl (fun t H locs ht hB hk1 hS => ?_)
                        obtain ⟨q_12, q_13, q_14, hP1, hD1⟩ := hB
                        rw [ht] at hP1
                        obtain ⟨hP, hD⟩ := zn (W2 := [(om k0 a I0 (vp_updL (vp_updL J0 48 q_12) 49 q_13)), _, _, _, _, _, _, (oa (a 32) cI 8 q_14), _]) hP hD hk1 hFc hP1 hD1 zl_269 [] zl_270 zl_269 (by decide +kernel) rfl rfl rfl rfl rfl
                        clear hk1 hPc hDc hFc hP1 hD1 ht
                        refine lv_if_ne (tgt := 71) hx hb dX11_clash_65 rfl (fun c_15 => ?_) (fun c_15 => ?_)
                        · have c_15 : clP ft st tn kd mn cx cy wd gp9 a9 b9 := zp_1 c_15
                          refine lv_iload hx hb dX11_clash_71 (lv_at hl 2 rfl) ?_
                          refine lv_iload_n hx hb dX11_clash_73 rfl (lv_at hl 5 rfl) ?_
                          have b9_17 : zlt ((clT (clP ft st tn kd mn cx cy wd gp9) ft a9 + cntP (fun b => a9 < b ∧ clP ft st tn kd mn cx cy wd gp9 a9 b) b9)) := show (clT (clP ft st tn kd mn cx cy wd gp9) ft a9 + cntP (fun b => a9 < b ∧ clP ft st tn kd mn cx cy wd gp9 a9 b) b9) < 2147483648 by omega
                          refine lv_icmp_ne (tgt := 89) hx hb dX11_clash_74 rfl (fun c_16 => ?_) (fun c_16 => ?_)
                          · have c_16 : ¬ ((clT (clP ft st tn kd mn cx cy wd gp9) ft a9 + cntP (fun b => a9 < b ∧ clP ft st tn kd mn cx cy wd gp9 a9 b) b9 : Nat) : Int) = ((i : Nat) : Int) := zc_ne (nI_toInt b9_17) (nI_toInt b9_4) c_16
                            refine lv_iinc (v := nI ((clT (clP ft st tn kd mn cx cy wd gp9) ft a9 + cntP (fun b => a9 < b ∧ clP ft st tn kd mn cx cy wd gp9 a9 b) b9) + 1)) (lv' := [(4, .int (nI ((clT (clP ft st tn kd mn cx cy wd gp9) ft a9 + cntP (fun b => a9 < b ∧ clP ft st tn kd mn cx cy wd gp9 a9 b) b9) + 1))), (6, .int (nI b9)), (5, .int (nI a9)), (0, .ref k0), (1, .int gp9), (2, .int (nI i)), (3, .int w)]) hx hb dX11_clash_89 hl (k := 2) rfl (nI_add (clT (clP ft st tn kd mn cx cy wd gp9) ft a9 + cntP (fun b => a9 < b ∧ clP ft st tn kd mn cx cy wd gp9 a9 b) b9) 1) (Nat.le_of_ble_eq_true rfl) rfl (fun ls hl => ?_)
                            refine lv_iinc (v := nI (b9 + 1)) (lv' := [(6, .int (nI (b9 + 1))), (4, .int (nI ((clT (clP ft st tn kd mn cx cy wd gp9) ft a9 + cntP (fun b => a9 < b ∧ clP ft st tn kd mn cx cy wd gp9 a9 b) b9) + 1))), (5, .int (nI a9)), (0, .ref k0), (1, .int gp9), (2, .int (nI i)), (3, .int w)]) hx hb dX11_clash_92 hl (k := 1) rfl (nI_add b9 1) (Nat.le_of_ble_eq_true rfl) rfl (fun ls hl => ?_)
                            refine lv_goto (tgt := 47) hx hb dX11_clash_95 rfl ?_
                            have hl9 := lv_sub hl [0, 2, 1, 3, 4, 5, 6] rfl
                            have e9_4 : nI (clT (clP ft st tn kd mn cx cy wd gp9) ft a9 + cntP (fun b => a9 < b ∧ clP ft st tn kd mn cx cy wd gp9 a9 b) (b9 + 1)) = (nI ((clT (clP ft st tn kd mn cx cy wd gp9) ft a9 + cntP (fun b => a9 < b ∧ clP ft st tn kd mn cx cy wd gp9 a9 b) b9) + 1) : Int32) := by first | exact zn_eq (by rw [cntP_y (P := fun b => a9 < b ∧ clP ft st tn kd mn cx cy wd gp9 a9 b) ⟨by omega, by assumption⟩]; first | done | omega) | exact zn_eq (by rw [cntP_n (P := fun b => a9 < b ∧ clP ft st tn kd mn cx cy wd gp9 a9 b) (fun h => absurd h.2 (by first | with_reducible assumption | assumption))]; first | done | omega)
                            have hl9 : lv_has ls 7 [(6, .int (nI (b9 + 1))), (5, .int (nI a9)), (4, .int (nI (clT (clP ft st tn kd mn cx cy wd gp9) ft a9 + cntP (fun b => a9 < b ∧ clP ft st tn kd mn cx cy wd gp9 a9 b) (b9 + 1)))), (0, .ref k0), (1, .int gp9), (2, .int (nI i)), (3, .int w)] := by rw [e9_4]; exact hl9
                            exact ih_47 (b9 + 1) q_12 q_13 q_14 H locs ls (by first | with_reducible assumption | omega) (by first | with_reducible assumption | omega) (fun b8 h h2 => (by rcases Nat.lt_or_ge b8 b9 with q | q; exact hnb b8 q h2; rw [show b8 = b9 by omega] at h2; first | exact absurd h2.2.2.1 (by first | with_reducible assumption | assumption) | (have h7 := h2.2.2.2; omega))) hP hD hS hl9
                          · have c_16 : ((clT (clP ft st tn kd mn cx cy wd gp9) ft a9 + cntP (fun b => a9 < b ∧ clP ft st tn kd mn cx cy wd gp9 a9 b) b9 : Nat) : Int) = ((i : Nat) : Int) := zc_eq (nI_toInt b9_17) (nI_toInt b9_4) c_16
                            exfalso; exact hit a9 b9 ⟨by omega, by omega, by assumption, by omega⟩
                        · have c_15 : ¬ (clP ft st tn kd mn cx cy wd gp9 a9 b9) := zp_0 c_15
                          refine lv_goto (tgt := 92) hx hb dX11_clash_68 rfl ?_
                          refine lv_iinc (v := nI (b9 + 1)) (lv' := [(6, .int (nI (b9 + 1))), (5, .int (nI a9)), (4, .int (nI (clT (clP ft st tn kd mn cx cy wd gp9) ft a9 + cntP (fun b => a9 < b ∧ clP ft st tn kd mn cx cy wd gp9 a9 b) b9))), (0, .ref k0), (1, .int gp9), (2, .int (nI i)), (3, .int w)]) hx hb dX11_clash_92 hl (k := 0) rfl (nI_add b9 1) (Nat.le_of_ble_eq_true rfl) rfl (fun ls hl => ?_)
                          refine lv_goto (tgt := 47) hx hb dX11_clash_95 rfl ?_
                          have hl9 := lv_sub hl [0, 1, 2, 3, 4, 5, 6] rfl
                          have e9_4 : nI (clT (clP ft st tn kd mn cx cy wd gp9) ft a9 + cntP (fun b => a9 < b ∧ clP ft st tn kd mn cx cy wd gp9 a9 b) (b9 + 1)) = (nI (clT (clP ft st tn kd mn cx cy wd gp9) ft a9 + cntP (fun b => a9 < b ∧ clP ft st tn kd mn cx cy wd gp9 a9 b) b9) : Int32) := by first | exact zn_eq (by rw [cntP_y (P := fun b => a9 < b ∧ clP ft st tn kd mn cx cy wd gp9 a9 b) ⟨by omega, by assumption⟩]; first | done | omega) | exact zn_eq (by rw [cntP_n (P := fun b => a9 < b ∧ clP ft st tn kd mn cx cy wd gp9 a9 b) (fun h => absurd h.2 (by first | with_reducible assumption | assumption))]; first | done | omega)
                          have hl9 : lv_has ls 7 [(6, .int (nI (b9 + 1))), (5, .int (nI a9)), (4, .int (nI (clT (clP ft st tn kd mn cx cy wd gp9) ft a9 + cntP (fun b => a9 < b ∧ clP ft st tn kd mn cx cy wd gp9 a9 b) (b9 + 1)))), (0, .ref k0), (1, .int gp9), (2, .int (nI i)), (3, .int w)] := by rw [e9_4]; exact hl9
                          exact ih_47 (b9 + 1) q_12 q_13 q_14 H locs ls (by first | with_reducible assumption | omega) (by first | with_reducible assumption | omega) (fun b8 h h2 => (by rcases Nat.lt_or_ge b8 b9 with q | q; exact hnb b8 q h2; rw [show b8 = b9 by omega] at h2; first | exact absurd h2.2.2.1 (by first | with_reducible assumption | assumption) | (have h7 := h2.2.2.2; omega))) hP hD hS hl9
                  have e9_4 : nI (clT (clP ft st tn kd mn cx cy wd gp9) ft a9 + cntP (fun b => a9 < b ∧ clP ft st tn kd mn cx cy wd gp9 a9 b) (a9 + 1)) = (nI (clT (clP ft st tn kd mn cx cy wd gp9) ft a9) : Int32) := by exact zn_eq (by rw [cl_0 (clP ft st tn kd mn cx cy wd gp9) a9 (a9 + 1) (Nat.le_refl _)]; rfl)
                  have hl9 : lv_has ls 7 [(6, .int (nI (a9 + 1))), (5, .int (nI a9)), (4, .int (nI (clT (clP ft st tn kd mn cx cy wd gp9) ft a9 + cntP (fun b => a9 < b ∧ clP ft st tn kd mn cx cy wd gp9 a9 b) (a9 + 1)))), (0, .ref k0), (1, .int gp9), (2, .int (nI i)), (3, .int w)] := by rw [e9_4]; exact lv_sub hl [0, 1, 2, 3, 4, 5, 6] rfl
                  exact hl_47 _ (a9 + 1) u9 d9 S1 H locs ls (Nat.lt_succ_self _) (by first | with_reducible assumption | omega) (fun b8 h h2 => (by have := h2.1; omega)) hP hD hS hl9
            have e9_4 : nI (clT (clP ft st tn kd mn cx cy wd gp9) ft 0) = (0 : Int32) := by rfl
            have hl9 : lv_has ls 7 [(5, .int (nI 0)), (4, .int (nI (clT (clP ft st tn kd mn cx cy wd gp9) ft 0))), (0, .ref k0), (1, .int gp9), (2, .int (nI i)), (3, .int w)] := by rw [e9_4]; exact lv_sub hl [0, 1, 2, 3, 4, 5] rfl
            exact hl_32 _ 0 (J0 48) (J0 49) S0 s.heap [] ls (Nat.lt_succ_self _) (by first | with_reducible assumption | omega) (fun a8 b8 h => absurd h (Nat.not_lt_zero _)) hP hD hS hl9
          · have c_6 : 1 < w.toInt := zc_nle rfl rfl c_6
            exfalso; omega
end
