section
set_option maxHeartbeats 4000000 in
set_option maxRecDepth 100000 in
theorem k_M_shift_p_8 (l : Launch) (dC : Nat → ClassId) (dI : Nat → Nat → Nat) (cI cZ cF : ClassId) (sz : Nat) (k0 : Nat) (a : Nat → Nat) (I0 : Nat → Int32) (J0 : Nat → Int64) (f : Nat) (n : Nat) (ft : Nat) (kk : Nat) (rr : Nat) (dx : Int32) (dy : Int32) (kd : Nat → Int32) (st : Nat → Int32) (gb : Nat → Int32) (it : Nat → Int32) (pa : Nat → Int32) (pb : Nat → Int32) (rk : Nat → Int32) (wd : Nat → Int32) (tw : Nat → Int32) (tn : Nat → Int32) (mn : Nat → Int32) (cx : Nat → Int32) (cy : Nat → Int32) (sa : Nat → Int32) (sh : Nat → Int32) (wh : Nat → Int32) (of9 : Nat → Int32) (we : Nat → Int32) (S0 : Nat → Int32) (T0 : Nat → Int32) (P0 : Nat → Int32) (Q0 : Nat → Int32) (ox : Nat → Int32) (oy : Nat → Int32) (mt : Nat → Int32) (wi : Nat → Int32) (ins : Nat → Int32) (la : Nat → Int32) (lb : Nat → Int32) (lc : Nat → Int32) (ld : Nat → Int32) (cp : Nat) (cl : Nat) (hft : I0 0 = nI ft) (h200 : ft ≤ 200) (hf_f : f ≤ 200) (hm_f : mn f = nI n) (hn_f : 1 ≤ n ∧ n ≤ 40) (hp_f : pls n (cF40 cx f) (cF40 cy f)) (hft_f : f < ft) (hwf : ∀ q, lvF ft st tn q → wfM mn cx cy q) (hst1 : (st f).toInt = 1) (htn0 : (tn f).toInt = 0) (hkk : kk < n) (hrr : rr ≤ 20) (hdx : -200 ≤ dx.toInt ∧ dx.toInt ≤ 200) (hdy : -200 ≤ dy.toInt ∧ dy.toInt ≤ 200) (hkd1 : ¬ (kd f).toInt = 0 ∧ ¬ (kd f).toInt = 6) (hmv : ¬ mvd n (fun i => shV (kd f).toInt n kk dx rr (cF40 cx f) i) (fun i => shV (kd f).toInt n kk dy rr (cF40 cy f) i) (cF40 cx f) (cF40 cy f)) : zM l yX11_shift cX11_shift 13 (some .boolean) ({ frames := 5, cells := 0, slots := 0, locals := 130 } : Room) [.ref k0, .int (nI f), .int (nI kk), .int dx, .int dy, .int (nI rr)] (dC, dI) (zTy cI cZ cF) [(om k0 a I0 J0), (oa (a 1) cI 201 kd), (oa (a 5) cI 201 st), (oa (a 7) cI 201 gb), (oa (a 10) cI 201 it), (oa (a 8) cI 201 pa), (oa (a 9) cI 201 pb), (oa (a 2) cI 201 rk), (oa (a 3) cI 201 wd), (oa (a 4) cI 201 tw), (oa (a 6) cZ 201 tn), (oa (a 11) cI 201 mn), (oa (a 12) cI 8040 cx), (oa (a 13) cI 8040 cy), (oa (a 27) cI 516 sa), (oa (a 28) cI (4096 * cp) sh), (oa (a 16) cI 514 wh), (oa (a 17) cI 514 of9), (oa (a 18) cI 514 we), (oa (a 32) cI 8 S0), (oa (a 40) cI 6 T0), (oa (a 29) cI 42 P0), (oa (a 30) cI 42 Q0), (oa (a 33) cI 42 ox), (oa (a 34) cI 42 oy), (oa (a 37) cZ 201 mt), (oa (a 38) cZ 201 wi), (oa (a 39) cZ 8040 ins), (oa (a 22) cI (64 * cl) la), (oa (a 23) cI (64 * cl) lb), (oa (a 24) cI (64 * cl) lc), (oa (a 25) cI (64 * cl) ld)] sz (some (.int 0)) (fun A t => ∃ (S1 : Nat → Int32), ∃ (ox1 : Nat → Int32), ∃ (oy1 : Nat → Int32), ∃ (mt1 : Nat → Int32), ∃ (wi1 : Nat → Int32), ∃ (ins1 : Nat → Int32), zPD (dC, dI) classes A [(om k0 a (upd (upd (upd (upd I0 14 8) 15 (I0 15)) 35 (nI n)) 36 (kd f)) J0), (oa (a 1) cI 201 kd), (oa (a 5) cI 201 st), (oa (a 7) cI 201 gb), (oa (a 10) cI 201 it), (oa (a 8) cI 201 pa), (oa (a 9) cI 201 pb), (oa (a 2) cI 201 rk), (oa (a 3) cI 201 wd), (oa (a 4) cI 201 tw), (oa (a 6) cZ 201 tn), (oa (a 11) cI 201 mn), (oa (a 12) cI 8040 cx), (oa (a 13) cI 8040 cy), (oa (a 27) cI 516 sa), (oa (a 28) cI (4096 * cp) sh), (oa (a 16) cI 514 wh), (oa (a 17) cI 514 of9), (oa (a 18) cI 514 we), (oa (a 32) cI 8 S1), (oa (a 40) cI 6 T0), (oa (a 29) cI 42 P0), (oa (a 30) cI 42 Q0), (oa (a 33) cI 42 ox1), (oa (a 34) cI 42 oy1), (oa (a 37) cZ 201 mt1), (oa (a 38) cZ 201 wi1), (oa (a 39) cZ 8040 ins1), (oa (a 22) cI (64 * cl) la), (oa (a 23) cI (64 * cl) lb), (oa (a 24) cI (64 * cl) lc), (oa (a 25) cI (64 * cl) ld)] t.heap) 0 0 := by
  refine zIn (own := "ScaleShopModel") (loc := [(0, .ref k0), (1, .int (nI f)), (2, .int (nI kk)), (3, .int dx), (4, .int dy), (5, .int (nI rr))]) rfl rfl rfl rfl (fun p e s m below meth c hx hb hr hts hown hlocks hml hnm9 A hA hS hP hD hK hXN Q9 hQ9 ls hl => ?_)
  refine lv_aload_n hx hb dX11_shift_0 rfl (lv_at hl 0 rfl) ?_
  refine lv_iload_n hx hb dX11_shift_1 rfl (lv_at hl 1 rfl) ?_
  obtain ⟨hPc, hDc, hFc, hI1⟩ := zi_sub (wc := [_]) hP hD hS hA [0] rfl rfl
  refine zcall (st1 := [.int (pI (f < ft))]) (va_runV (As := [.int (nI f)]) (rest := []) ⟨hx, hb, hml, hown, hts⟩ (k_M_isFeature_n l dC dI cI cZ cF s.heap.size k0 a I0 J0 f ft (by first | with_reducible assumption | assumption) (by first | with_reducible assumption | omega) (by first | with_reducible assumption | omega)) (csV_178 hts rfl rfl ⟨Nat.le_of_ble_eq_true rfl, Nat.le_of_ble_eq_true rfl⟩) (zPV2 (q0 := 0) (ci := 9) hPc hDc hK hXN rfl rfl) rfl rfl hl.1 rfl (lv_room (Nat.le_of_ble_eq_true rfl)) dX11_shift_2 ⟨Nat.le_of_ble_eq_true rfl, Nat.le_of_ble_eq_true rfl⟩) hS hFc hFc rfl (fun t H locs ht hB hk1 hS => ?_)
  obtain ⟨hP1, hD1⟩ := hB
  rw [ht] at hP1
  replace hP := z0 hP hD hk1 hP1 hI1
  clear hk1 hPc hDc hFc hP1 hD1 ht hI1
  refine lv_if_eq (tgt := 35) hx hb dX11_shift_5 rfl (fun c_1 => ?_) (fun c_1 => ?_)
  · have c_1 : ¬ (f < ft) := zp_0 c_1
    refine lv_iconst (v := 0) hx hb dX11_shift_35 rfl ?_
    refine lv_istore (lv' := [(6, .int 0), (0, .ref k0), (1, .int (nI f)), (2, .int (nI kk)), (3, .int dx), (4, .int dy), (5, .int (nI rr))]) hx hb dX11_shift_36 hl (Nat.le_of_ble_eq_true rfl) rfl (fun ls hl => ?_)
    refine lv_aload_n hx hb dX11_shift_38 rfl (lv_at hl 1 rfl) ?_
    refine lv_iload_n hx hb dX11_shift_39 rfl (lv_at hl 2 rfl) ?_
    obtain ⟨hPc, hDc, hFc, hI1⟩ := zi_sub (wc := [_]) hP hD hS hA [0] rfl rfl
    refine zcall (st1 := [.int (pI (f < ft))]) (va_runV (As := [.int (nI f)]) (rest := []) ⟨hx, hb, hml, hown, hts⟩ (k_M_isFeature_n l dC dI cI cZ cF H.size k0 a I0 J0 f ft (by first | with_reducible assumption | assumption) (by first | with_reducible assumption | omega) (by first | with_reducible assumption | omega)) (csV_178 hts rfl rfl ⟨Nat.le_of_ble_eq_true rfl, Nat.le_of_ble_eq_true rfl⟩) (zPV2 (q0 := 0) (ci := 9) hPc hDc hK hXN rfl rfl) rfl rfl hl.1 rfl (lv_room (Nat.le_of_ble_eq_true rfl)) dX11_shift_40 ⟨Nat.le_of_ble_eq_true rfl, Nat.le_of_ble_eq_true rfl⟩) hS hFc hFc rfl (fun t H locs ht hB hk1 hS => ?_)
    obtain ⟨hP1, hD1⟩ := hB
    rw [ht] at hP1
    replace hP := z0 hP hD hk1 hP1 hI1
    clear hk1 hPc hDc hFc hP1 hD1 ht hI1
    refine lv_if_eq (tgt := 51) hx hb dX11_shift_43 rfl (fun c_2 => ?_) (fun c_2 => ?_)
    · have c_2 : ¬ (f < ft) := zp_0 c_2
      exfalso; omega
    · have c_2 : f < ft := zp_1 c_2
      refine lv_iload hx hb dX11_shift_46 (lv_at hl 0 rfl) ?_
      refine lv_if_eq (tgt := 55) hx hb dX11_shift_48 rfl (fun c_3 => ?_) (fun c_3 => ?_)
      · refine lv_aload_n hx hb dX11_shift_55 rfl (lv_at hl 1 rfl) ?_
        refine va_get (D := (dC, dI)) (ci := 9) (v := .ref (a 5)) (C := RX11) (T := TX11) (N := 55) hx hb hts inX11 hown hK hP 0 rfl rfl 5 (Nat.le_of_ble_eq_true rfl) (hts _ mw_1164) (fun _ h9 => h9) rfl dX11_shift_56 ?_
        refine lv_iload_n hx hb dX11_shift_59 rfl (lv_at hl 2 rfl) ?_
        have b9_4 : f < 201 := by omega
        refine z_iald hx hb hK hP 2 0 rfl rfl (e := f) rfl b9_4 (Nat.le_of_ble_eq_true rfl) dX11_shift_60 ?_
        refine lv_iconst (v := 1) hx hb dX11_shift_61 rfl ?_
        refine lv_icmp_eq (tgt := 69) hx hb dX11_shift_62 rfl (fun c_5 => ?_) (fun c_5 => ?_)
        · have c_5 : (st f).toInt = 1 := zc_eq rfl rfl c_5
          refine lv_iconst (v := 0) hx hb dX11_shift_69 rfl ?_
          refine lv_istore (lv' := [(7, .int 0), (6, .int 0), (0, .ref k0), (1, .int (nI f)), (2, .int (nI kk)), (3, .int dx), (4, .int dy), (5, .int (nI rr))]) hx hb dX11_shift_70 hl (Nat.le_of_ble_eq_true rfl) rfl (fun ls hl => ?_)
          refine lv_iload_n hx hb dX11_shift_72 rfl (lv_at hl 5 rfl) ?_
          refine lv_sipush (v := (-200)) hx hb dX11_shift_73 rfl ?_
          refine lv_icmp_lt (tgt := 114) hx hb dX11_shift_76 rfl (fun c_6 => ?_) (fun c_6 => ?_)
          · have c_6 : dx.toInt < (-200) := zc_lt rfl rfl c_6
            exfalso; omega
          · have c_6 : (-200) ≤ dx.toInt := zc_nlt rfl rfl c_6
            refine lv_iload_n hx hb dX11_shift_79 rfl (lv_at hl 5 rfl) ?_
            refine lv_sipush (v := 200) hx hb dX11_shift_80 rfl ?_
            refine lv_icmp_gt (tgt := 114) hx hb dX11_shift_83 rfl (fun c_7 => ?_) (fun c_7 => ?_)
            · have c_7 : 200 < dx.toInt := zc_lt rfl rfl c_7
              exfalso; omega
            · have c_7 : dx.toInt ≤ 200 := zc_nlt rfl rfl c_7
              refine lv_iload hx hb dX11_shift_86 (lv_at hl 6 rfl) ?_
              refine lv_sipush (v := (-200)) hx hb dX11_shift_88 rfl ?_
              refine lv_icmp_lt (tgt := 114) hx hb dX11_shift_91 rfl (fun c_8 => ?_) (fun c_8 => ?_)
              · have c_8 : dy.toInt < (-200) := zc_lt rfl rfl c_8
                exfalso; omega
              · have c_8 : (-200) ≤ dy.toInt := zc_nlt rfl rfl c_8
                refine lv_iload hx hb dX11_shift_94 (lv_at hl 6 rfl) ?_
                refine lv_sipush (v := 200) hx hb dX11_shift_96 rfl ?_
                refine lv_icmp_gt (tgt := 114) hx hb dX11_shift_99 rfl (fun c_9 => ?_) (fun c_9 => ?_)
                · have c_9 : 200 < dy.toInt := zc_lt rfl rfl c_9
                  exfalso; omega
                · have c_9 : dy.toInt ≤ 200 := zc_nlt rfl rfl c_9
                  refine lv_iload hx hb dX11_shift_102 (lv_at hl 7 rfl) ?_
                  have b9_11 : zlt (rr) := show rr < 2147483648 by omega
                  refine lv_if_lt (tgt := 114) hx hb dX11_shift_104 rfl (fun c_10 => ?_) (fun c_10 => ?_)
                  · have c_10 : ((rr : Nat) : Int) < 0 := zc_lt (nI_toInt b9_11) rfl c_10
                    exfalso; omega
                  · have c_10 : 0 ≤ ((rr : Nat) : Int) := zc_nlt (nI_toInt b9_11) rfl c_10
                    refine lv_iload hx hb dX11_shift_107 (lv_at hl 7 rfl) ?_
                    refine lv_bipush (v := 20) hx hb dX11_shift_109 rfl ?_
                    refine lv_icmp_le (tgt := 118) hx hb dX11_shift_111 rfl (fun c_12 => ?_) (fun c_12 => ?_)
                    · have c_12 : ((rr : Nat) : Int) ≤ 20 := zc_le (nI_toInt b9_11) rfl c_12
                      refine lv_iconst (v := 0) hx hb dX11_shift_118 rfl ?_
                      refine lv_istore (lv' := [(8, .int 0), (7, .int 0), (6, .int 0), (0, .ref k0), (1, .int (nI f)), (2, .int (nI kk)), (3, .int dx), (4, .int dy), (5, .int (nI rr))]) hx hb dX11_shift_119 hl (Nat.le_of_ble_eq_true rfl) rfl (fun ls hl => ?_)
                      refine lv_iload hx hb dX11_shift_121 (lv_at hl 1 rfl) ?_
                      refine lv_if_le (tgt := 131) hx hb dX11_shift_123 rfl (fun c_13 => ?_) (fun c_13 => ?_)
                      · refine lv_iload hx hb dX11_shift_131 (lv_at hl 0 rfl) ?_
                        refine lv_if_eq (tgt := 140) hx hb dX11_shift_133 rfl (fun c_14 => ?_) (fun c_14 => ?_)
                        · refine lv_aload_n hx hb dX11_shift_140 rfl (lv_at hl 3 rfl) ?_
                          refine va_get (D := (dC, dI)) (ci := 9) (v := .ref (a 6)) (C := RX11) (T := TX11) (N := 55) hx hb hts inX11 hown hK hP 0 rfl rfl 6 (Nat.le_of_ble_eq_true rfl) (hts _ mw_1165) (fun _ h9 => h9) rfl dX11_shift_141 ?_
                          refine lv_iload_n hx hb dX11_shift_144 rfl (lv_at hl 4 rfl) ?_
                          refine z_zald hx hb hK hP 10 1 rfl rfl (e := f) rfl b9_4 (Nat.le_of_ble_eq_true rfl) dX11_shift_145 ?_
                          refine lv_if_eq (tgt := 153) hx hb dX11_shift_146 rfl (fun c_15 => ?_) (fun c_15 => ?_)
                          · have c_15 : (tn f).toInt = 0 := zc_eq rfl rfl c_15
                            refine lv_iconst (v := 0) hx hb dX11_shift_153 rfl ?_
                            refine lv_istore (lv' := [(7, .int 0), (8, .int 0), (6, .int 0), (0, .ref k0), (1, .int (nI f)), (2, .int (nI kk)), (3, .int dx), (4, .int dy), (5, .int (nI rr))]) hx hb dX11_shift_154 hl (Nat.le_of_ble_eq_true rfl) rfl (fun ls hl => ?_)
                            refine lv_iload hx hb dX11_shift_156 (lv_at hl 0 rfl) ?_
                            refine lv_if_le (tgt := 168) hx hb dX11_shift_158 rfl (fun c_16 => ?_) (fun c_16 => ?_)
                            · refine lv_aload_n hx hb dX11_shift_168 rfl (lv_at hl 3 rfl) ?_
                              refine lv_iload_n hx hb dX11_shift_169 rfl (lv_at hl 4 rfl) ?_
                              obtain ⟨hPc, hDc, hFc⟩ := zo_sub (wc := [_, _, _, _, _, _, _, _, _, _, _, _, _]) hP hD hS hA [0, 2, 10, 1, 11, 12, 13, 19, 23, 24, 25, 26, 27] (by decide +kernel) rfl
                              refine zcall (st1 := []) (va_runV (As := [.int (nI f)]) (rest := []) ⟨hx, hb, hml, hown, hts⟩ (k_M_remember l dC dI cI cZ cF H.size k0 a I0 J0 f n ft st tn kd mn cx cy S0 ox oy mt wi ins (by first | with_reducible assumption | assumption) (by first | with_reducible assumption | omega) (by first | with_reducible assumption | omega) (by first | with_reducible assumption | assumption) (by first | with_reducible assumption | omega) (by first | with_reducible assumption | assumption) (fun q h1 _ => hwf q h1)) (csV_190 hts rfl rfl ⟨Nat.le_of_ble_eq_true rfl, Nat.le_of_ble_eq_true rfl⟩) (zPV2 (q0 := 0) (ci := 9) hPc hDc hK hXN rfl rfl) rfl rfl hl.1 rfl (lv_room (Nat.le_of_ble_eq_true rfl)) dX11_shift_170 ⟨Nat.le_of_ble_eq_true rfl, Nat.le_of_ble_eq_true rfl⟩) hS hFc hFc rfl (fun t H locs ht hB hk1 hS => ?_)
                              refine ex6 hB (fun S1 ox1 oy1 mt1 wi1 ins1 hB0 => ?_)
                              clear hB
                              obtain ⟨hox, hmt, hwi, hin, hP1, hD1⟩ := hB0
                              rw [ht] at hP1
                              obtain ⟨hP, hD⟩ := zn (W2 := [(om k0 a (upd (upd I0 35 (nI n)) 36 (kd f)) J0), _, _, _, _, _, _, _, _, _, _, _, _, _, _, _, _, _, _, (oa (a 32) cI 8 S1), _, _, _, (oa (a 33) cI 42 ox1), (oa (a 34) cI 42 oy1), (oa (a 37) cZ 201 mt1), (oa (a 38) cZ 201 wi1), (oa (a 39) cZ 8040 ins1), _, _, _, _]) hP hD hk1 hFc hP1 hD1 zl_194 zl_195 zl_195 zl_194 (by decide +kernel) rfl rfl rfl rfl rfl
                              clear hk1 hPc hDc hFc hP1 hD1 ht
                              refine lv_aload_n hx hb dX11_shift_173 rfl (lv_at hl 3 rfl) ?_
                              refine va_get (D := (dC, dI)) (ci := 9) (v := .ref (a 1)) (C := RX11) (T := TX11) (N := 55) hx hb hts inX11 hown hK hP 0 rfl rfl 1 (Nat.le_of_ble_eq_true rfl) (hts _ mw_1160) (fun _ h9 => h9) rfl dX11_shift_174 ?_
                              refine lv_iload_n hx hb dX11_shift_177 rfl (lv_at hl 4 rfl) ?_
                              refine z_iald hx hb hK hP 1 0 rfl rfl (e := f) rfl b9_4 (Nat.le_of_ble_eq_true rfl) dX11_shift_178 ?_
                              refine lv_if_eq (tgt := 193) hx hb dX11_shift_179 rfl (fun c_17 => ?_) (fun c_17 => ?_)
                              · have c_17 : (kd f).toInt = 0 := zc_eq rfl rfl c_17
                                exfalso; omega
                              · have c_17 : ¬ (kd f).toInt = 0 := zc_ne rfl rfl c_17
                                refine lv_aload_n hx hb dX11_shift_182 rfl (lv_at hl 3 rfl) ?_
                                refine va_get (D := (dC, dI)) (ci := 9) (v := .ref (a 1)) (C := RX11) (T := TX11) (N := 55) hx hb hts inX11 hown hK hP 0 rfl rfl 1 (Nat.le_of_ble_eq_true rfl) (hts _ mw_1160) (fun _ h9 => h9) rfl dX11_shift_183 ?_
                                refine lv_iload_n hx hb dX11_shift_186 rfl (lv_at hl 4 rfl) ?_
                                refine z_iald hx hb hK hP 1 0 rfl rfl (e := f) rfl b9_4 (Nat.le_of_ble_eq_true rfl) dX11_shift_187 ?_
                                refine lv_bipush (v := 6) hx hb dX11_shift_188 rfl ?_
                                refine lv_icmp_ne (tgt := 197) hx hb dX11_shift_190 rfl (fun c_18 => ?_) (fun c_18 => ?_)
                                · have c_18 : ¬ (kd f).toInt = 6 := zc_ne rfl rfl c_18
                                  refine lv_iconst (v := 0) hx hb dX11_shift_197 rfl ?_
                                  refine lv_istore (lv' := [(9, .int 0), (7, .int 0), (8, .int 0), (6, .int 0), (0, .ref k0), (1, .int (nI f)), (2, .int (nI kk)), (3, .int dx), (4, .int dy), (5, .int (nI rr))]) hx hb dX11_shift_198 hl (Nat.le_of_ble_eq_true rfl) rfl (fun ls hl => ?_)
                                  refine lv_iconst (v := 0) hx hb dX11_shift_200 rfl ?_
                                  refine lv_istore (lv' := [(10, .int 0), (9, .int 0), (7, .int 0), (8, .int 0), (6, .int 0), (0, .ref k0), (1, .int (nI f)), (2, .int (nI kk)), (3, .int dx), (4, .int dy), (5, .int (nI rr))]) hx hb dX11_shift_201 hl (Nat.le_of_ble_eq_true rfl) rfl (fun ls hl => ?_)
                                  have hl_203 : ∀ (n9 : Nat) (k : Nat) (cx1 : Nat → Int32) (cy1 : Nat → Int32) (H : Heap) (locs : List Loc) (ls : Array Slot), n - k < n9 → (k ≤ n) → (cx1 = fgX f k (fun i => shV (kd f).toInt n kk dx rr (cF40 cx f) i) cx) → (cy1 = fgX f k (fun i => shV (kd f).toInt n kk dy rr (cF40 cy f) i) cy) → va_P (dC, dI) classes [(om k0 a (upd (upd I0 35 (nI n)) 36 (kd f)) J0), (oa (a 1) cI 201 kd), (oa (a 5) cI 201 st), (oa (a 7) cI 201 gb), (oa (a 10) cI 201 it), (oa (a 8) cI 201 pa), (oa (a 9) cI 201 pb), (oa (a 2) cI 201 rk), (oa (a 3) cI 201 wd), (oa (a 4) cI 201 tw), (oa (a 6) cZ 201 tn), (oa (a 11) cI 201 mn), (oa (a 12) cI 8040 cx1), (oa (a 13) cI 8040 cy1), (oa (a 27) cI 516 sa), (oa (a 28) cI (4096 * cp) sh), (oa (a 16) cI 514 wh), (oa (a 17) cI 514 of9), (oa (a 18) cI 514 we), (oa (a 32) cI 8 S1), (oa (a 40) cI 6 T0), (oa (a 29) cI 42 P0), (oa (a 30) cI 42 Q0), (oa (a 33) cI 42 ox1), (oa (a 34) cI 42 oy1), (oa (a 37) cZ 201 mt1), (oa (a 38) cZ 201 wi1), (oa (a 39) cZ 8040 ins1), (oa (a 22) cI (64 * cl) la), (oa (a 23) cI (64 * cl) lb), (oa (a 24) cI (64 * cl) lc), (oa (a 25) cI (64 * cl) ld)] H → va_D A [(om k0 a (upd (upd I0 35 (nI n)) 36 (kd f)) J0), (oa (a 1) cI 201 kd), (oa (a 5) cI 201 st), (oa (a 7) cI 201 gb), (oa (a 10) cI 201 it), (oa (a 8) cI 201 pa), (oa (a 9) cI 201 pb), (oa (a 2) cI 201 rk), (oa (a 3) cI 201 wd), (oa (a 4) cI 201 tw), (oa (a 6) cZ 201 tn), (oa (a 11) cI 201 mn), (oa (a 12) cI 8040 cx1), (oa (a 13) cI 8040 cy1), (oa (a 27) cI 516 sa), (oa (a 28) cI (4096 * cp) sh), (oa (a 16) cI 514 wh), (oa (a 17) cI 514 of9), (oa (a 18) cI 514 we), (oa (a 32) cI 8 S1), (oa (a 40) cI 6 T0), (oa (a 29) cI 42 P0), (oa (a 30) cI 42 Q0), (oa (a 33) cI 42 ox1), (oa (a 34) cI 42 oy1), (oa (a 37) cZ 201 mt1), (oa (a 38) cZ 201 wi1), (oa (a 39) cZ 8040 ins1), (oa (a 22) cI (64 * cl) la), (oa (a 23) cI (64 * cl) lb), (oa (a 24) cI (64 * cl) lc), (oa (a 25) cI (64 * cl) ld)] → va_S A s.heap H locs → lv_has ls 13 [(10, .int (nI k)), (9, .int 0), (7, .int 0), (8, .int 0), (6, .int 0), (0, .ref k0), (1, .int (nI f)), (2, .int (nI kk)), (3, .int dx), (4, .int dy), (5, .int (nI rr))] → W p l e ({ frames := 5, cells := 0, slots := 0, locals := 130 } : Room) s m ([.ref k0, .int (nI f), .int (nI kk), .int dx, .int dy, .int (nI rr)] : List Value).toArray below meth c H locs 0 0 Q9 (F0 m 203 ls []) := by
                                    intro n9
                                    induction n9 with
                                    | zero => intro k cx1 cy1 H locs ls hm; exact absurd hm (Nat.not_lt_zero _)
                                    | succ n9 ih_203 =>
                                      intro k cx1 cy1 H locs ls hm hk hcx hcy hP hD hS hl
                                      refine lv_iload hx hb dX11_shift_203 (lv_at hl 0 rfl) ?_
                                      refine lv_aload_n hx hb dX11_shift_205 rfl (lv_at hl 5 rfl) ?_
                                      refine va_get (D := (dC, dI)) (ci := 9) (v := .int (nI n)) (C := RX11) (T := TX11) (N := 55) hx hb hts inX11 hown hK hP 0 rfl rfl 35 (Nat.le_of_ble_eq_true rfl) (hts _ mw_1194) (fun _ h9 => h9) rfl dX11_shift_206 ?_
                                      have b9_20 : zlt (k) := show k < 2147483648 by omega
                                      have b9_21 : zlt (n) := show n < 2147483648 by omega
                                      refine lv_icmp_ge (tgt := 367) hx hb dX11_shift_209 rfl (fun c_19 => ?_) (fun c_19 => ?_)
                                      · have c_19 : ((n : Nat) : Int) ≤ ((k : Nat) : Int) := zc_le (nI_toInt b9_21) (nI_toInt b9_20) c_19
                                        have hkn : k = n := (by omega)
                                        rw [hkn] at hcx hcy
                                        refine lv_aload_n hx hb dX11_shift_367 rfl (lv_at hl 5 rfl) ?_
                                        refine lv_iload_n hx hb dX11_shift_368 rfl (lv_at hl 6 rfl) ?_
                                        obtain ⟨hPc, hDc, hFc, hI1⟩ := zi_sub (wc := [_, _, _, _, _]) hP hD hS hA [0, 12, 13, 23, 24] (by decide +kernel) rfl
                                        refine zcall (st1 := [.int (pI (∃ k, k < n ∧ ¬ ((cx1 (40 * f + k)).toInt = (ox1 k).toInt ∧ (cy1 (40 * f + k)).toInt = (oy1 k).toInt)))]) (va_runV (As := [.int (nI f)]) (rest := []) ⟨hx, hb, hml, hown, hts⟩ (k_M_moves l dC dI cI cZ cF H.size k0 a (upd (upd I0 35 (nI n)) 36 (kd f)) J0 f n cx1 cy1 ox1 oy1 (by first | with_reducible assumption | omega) (rfl) (by first | with_reducible assumption | omega)) (csV_211 hts rfl rfl ⟨Nat.le_of_ble_eq_true rfl, Nat.le_of_ble_eq_true rfl⟩) (zPV2 (q0 := 0) (ci := 9) hPc hDc hK hXN rfl rfl) rfl rfl hl.1 rfl (lv_room (Nat.le_of_ble_eq_true rfl)) dX11_shift_369 ⟨Nat.le_of_ble_eq_true rfl, Nat.le_of_ble_eq_true rfl⟩) hS hFc hFc rfl (fun t H locs ht hB hk1 hS => ?_)
                                        obtain ⟨hP1, hD1⟩ := hB
                                        rw [ht] at hP1
                                        replace hP := z0 hP hD hk1 hP1 hI1
                                        clear hk1 hPc hDc hFc hP1 hD1 ht hI1
                                        refine zz_i (v := pI (mvd n (fun i => shV (kd f).toInt n kk dx rr (cF40 cx f) i) (fun i => shV (kd f).toInt n kk dy rr (cF40 cy f) i) (cF40 cx f) (cF40 cy f))) (zp_iff (mv_iff hcx hcy hox)) ?_
                                        refine lv_if_ne (tgt := 382) hx hb dX11_shift_372 rfl (fun c_22 => ?_) (fun c_22 => ?_)
                                        · have c_22 : mvd n (fun i => shV (kd f).toInt n kk dx rr (cF40 cx f) i) (fun i => shV (kd f).toInt n kk dy rr (cF40 cy f) i) (cF40 cx f) (cF40 cy f) := zp_1 c_22
                                          exfalso; exact absurd (by first | with_reducible assumption | assumption) hmv
                                        · have c_22 : ¬ (mvd n (fun i => shV (kd f).toInt n kk dx rr (cF40 cx f) i) (fun i => shV (kd f).toInt n kk dy rr (cF40 cy f) i) (cF40 cx f) (cF40 cy f)) := zp_0 c_22
                                          refine lv_aload_n hx hb dX11_shift_375 rfl (lv_at hl 5 rfl) ?_
                                          refine lv_bipush (v := 8) hx hb dX11_shift_376 rfl ?_
                                          obtain ⟨hPc, hDc, hFc⟩ := zo_sub (wc := [_]) hP hD hS hA [0] rfl rfl
                                          refine zcall (st1 := [.int 0]) (va_runV (As := [.int 8]) (rest := []) ⟨hx, hb, hml, hown, hts⟩ (k_M_no l dC dI cI cZ cF H.size k0 a (upd (upd I0 35 (nI n)) 36 (kd f)) J0 8 (by decide)) (csV_198 hts rfl rfl ⟨Nat.le_of_ble_eq_true rfl, Nat.le_of_ble_eq_true rfl⟩) (zPV2 (q0 := 0) (ci := 9) hPc hDc hK hXN rfl rfl) rfl rfl hl.1 rfl (lv_room (Nat.le_of_ble_eq_true rfl)) dX11_shift_378 ⟨Nat.le_of_ble_eq_true rfl, Nat.le_of_ble_eq_true rfl⟩) hS hFc hFc rfl (fun t H locs ht hB hk1 hS => ?_)
                                          obtain ⟨hP1, hD1⟩ := hB
                                          rw [ht] at hP1
                                          obtain ⟨hP, hD⟩ := zn (W2 := [(om k0 a (upd (upd (upd (upd I0 14 8) 15 (I0 15)) 35 (nI n)) 36 (kd f)) J0), _, _, _, _, _, _, _, _, _, _, _, _, _, _, _, _, _, _, _, _, _, _, _, _, _, _, _, _, _, _, _]) hP hD hk1 hFc hP1 hD1 [0] zl_183 zl_183 [0] (by decide +kernel) rfl rfl rfl rfl rfl
                                          clear hk1 hPc hDc hFc hP1 hD1 ht
                                          have hsx : fgX f n (fun i => shV (kd f).toInt n kk dx rr (cF40 cx f) i) cx = cx := fgX_same (fun k9 h9 => Classical.byContradiction fun h8 => hmv ⟨k9, h9, fun h7 => h8 h7.1⟩)
                                          have hsy : fgX f n (fun i => shV (kd f).toInt n kk dy rr (cF40 cy f) i) cy = cy := fgX_same (fun k9 h9 => Classical.byContradiction fun h8 => hmv ⟨k9, h9, fun h7 => h8 h7.2⟩)
                                          obtain ⟨hP9, hD9⟩ := zu_sub (wc := [(om k0 a (upd (upd (upd (upd I0 14 8) 15 (I0 15)) 35 (nI n)) 36 (kd f)) J0), (oa (a 1) cI 201 kd), (oa (a 5) cI 201 st), (oa (a 7) cI 201 gb), (oa (a 10) cI 201 it), (oa (a 8) cI 201 pa), (oa (a 9) cI 201 pb), (oa (a 2) cI 201 rk), (oa (a 3) cI 201 wd), (oa (a 4) cI 201 tw), (oa (a 6) cZ 201 tn), (oa (a 11) cI 201 mn), (oa (a 12) cI 8040 cx1), (oa (a 13) cI 8040 cy1), (oa (a 27) cI 516 sa), (oa (a 28) cI (4096 * cp) sh), (oa (a 16) cI 514 wh), (oa (a 17) cI 514 of9), (oa (a 18) cI 514 we), (oa (a 32) cI 8 S1), (oa (a 40) cI 6 T0), (oa (a 29) cI 42 P0), (oa (a 30) cI 42 Q0), (oa (a 33) cI 42 ox1), (oa (a 34) cI 42 oy1), (oa (a 37) cZ 201 mt1), (oa (a 38) cZ 201 wi1), (oa (a 39) cZ 8040 ins1), (oa (a 22) cI (64 * cl) la), (oa (a 23) cI (64 * cl) lb), (oa (a 24) cI (64 * cl) lc), (oa (a 25) cI (64 * cl) ld)]) hP hD (true :: true :: true :: true :: true :: true :: true :: true :: true :: true :: true :: true :: true :: true :: true :: true :: true :: true :: true :: true :: true :: true :: true :: true :: true :: true :: true :: true :: true :: true :: true :: true :: []) rfl rfl
                                          have hE9 : ([(om k0 a (upd (upd (upd (upd I0 14 8) 15 (I0 15)) 35 (nI n)) 36 (kd f)) J0), (oa (a 1) cI 201 kd), (oa (a 5) cI 201 st), (oa (a 7) cI 201 gb), (oa (a 10) cI 201 it), (oa (a 8) cI 201 pa), (oa (a 9) cI 201 pb), (oa (a 2) cI 201 rk), (oa (a 3) cI 201 wd), (oa (a 4) cI 201 tw), (oa (a 6) cZ 201 tn), (oa (a 11) cI 201 mn), (oa (a 12) cI 8040 cx1), (oa (a 13) cI 8040 cy1), (oa (a 27) cI 516 sa), (oa (a 28) cI (4096 * cp) sh), (oa (a 16) cI 514 wh), (oa (a 17) cI 514 of9), (oa (a 18) cI 514 we), (oa (a 32) cI 8 S1), (oa (a 40) cI 6 T0), (oa (a 29) cI 42 P0), (oa (a 30) cI 42 Q0), (oa (a 33) cI 42 ox1), (oa (a 34) cI 42 oy1), (oa (a 37) cZ 201 mt1), (oa (a 38) cZ 201 wi1), (oa (a 39) cZ 8040 ins1), (oa (a 22) cI (64 * cl) la), (oa (a 23) cI (64 * cl) lb), (oa (a 24) cI (64 * cl) lc), (oa (a 25) cI (64 * cl) ld)] : va_W) = [(om k0 a (upd (upd (upd (upd I0 14 8) 15 (I0 15)) 35 (nI n)) 36 (kd f)) J0), (oa (a 1) cI 201 kd), (oa (a 5) cI 201 st), (oa (a 7) cI 201 gb), (oa (a 10) cI 201 it), (oa (a 8) cI 201 pa), (oa (a 9) cI 201 pb), (oa (a 2) cI 201 rk), (oa (a 3) cI 201 wd), (oa (a 4) cI 201 tw), (oa (a 6) cZ 201 tn), (oa (a 11) cI 201 mn), (oa (a 12) cI 8040 cx), (oa (a 13) cI 8040 cy), (oa (a 27) cI 516 sa), (oa (a 28) cI (4096 * cp) sh), (oa (a 16) cI 514 wh), (oa (a 17) cI 514 of9), (oa (a 18) cI 514 we), (oa (a 32) cI 8 S1), (oa (a 40) cI 6 T0), (oa (a 29) cI 42 P0), (oa (a 30) cI 42 Q0), (oa (a 33) cI 42 ox1), (oa (a 34) cI 42 oy1), (oa (a 37) cZ 201 mt1), (oa (a 38) cZ 201 wi1), (oa (a 39) cZ 8040 ins1), (oa (a 22) cI (64 * cl) la), (oa (a 23) cI (64 * cl) lb), (oa (a 24) cI (64 * cl) lc), (oa (a 25) cI (64 * cl) ld)] := by rw [hcx, hcy, hsx, hsy]
                                          rw [hE9] at hP9 hD9
                                          rw [hQ9]
                                          exact W.zret (ty := .boolean) (v := 0) hx hb hr (rfl) (fun t ht hW => ⟨⟨rfl, S1, ox1, oy1, mt1, wi1, ins1, by rw [ht]; exact hP9, hD9⟩, hS.F ht⟩) hS.2.2 dX11_shift_381
                                      · have c_19 : ((k : Nat) : Int) < ((n : Nat) : Int) := zc_nle (nI_toInt b9_21) (nI_toInt b9_20) c_19
                                        have hk9 : k < n := (by omega)
                                        have hwb := wyR_b (kf := (kd f).toInt) hkk hk9
                                        refine lv_aload_n hx hb dX11_shift_212 rfl (lv_at hl 5 rfl) ?_
                                        refine lv_iload_n hx hb dX11_shift_213 rfl (lv_at hl 6 rfl) ?_
                                        refine lv_iload_n hx hb dX11_shift_214 rfl (lv_at hl 7 rfl) ?_
                                        refine lv_iload hx hb dX11_shift_215 (lv_at hl 0 rfl) ?_
                                        obtain ⟨hPc, hDc, hFc, hI1⟩ := zi_sub (wc := [_, _]) hP hD hS hA [0, 1] rfl rfl
                                        refine zcall (st1 := [.int (nI (wyR (kd f).toInt n kk k))]) (va_runV (As := [.int (nI f), .int (nI kk), .int (nI k)]) (rest := []) ⟨hx, hb, hml, hown, hts⟩ (k_M_wayOf l dC dI cI cZ cF H.size k0 a (upd (upd I0 35 (nI n)) 36 (kd f)) J0 f n kk k kd (by first | with_reducible assumption | omega) (by first | with_reducible assumption | omega) (hkk) (by first | with_reducible assumption | omega)) (csV_216 hts rfl rfl ⟨Nat.le_of_ble_eq_true rfl, Nat.le_of_ble_eq_true rfl⟩) (zPV2 (q0 := 0) (ci := 9) hPc hDc hK hXN rfl rfl) rfl rfl hl.1 rfl (lv_room (Nat.le_of_ble_eq_true rfl)) dX11_shift_217 ⟨Nat.le_of_ble_eq_true rfl, Nat.le_of_ble_eq_true rfl⟩) hS hFc hFc rfl (fun t H locs ht hB hk1 hS => ?_)
                                        obtain ⟨hP1, hD1⟩ := hB
                                        rw [ht] at hP1
                                        replace hP := z0 hP hD hk1 hP1 hI1
                                        clear hk1 hPc hDc hFc hP1 hD1 ht hI1
                                        refine lv_istore (lv' := [(11, .int (nI (wyR (kd f).toInt n kk k))), (10, .int (nI k)), (9, .int 0), (7, .int 0), (8, .int 0), (6, .int 0), (0, .ref k0), (1, .int (nI f)), (2, .int (nI kk)), (3, .int dx), (4, .int dy), (5, .int (nI rr))]) hx hb dX11_shift_220 hl (Nat.le_of_ble_eq_true rfl) rfl (fun ls hl => ?_)
                                        refine lv_iload hx hb dX11_shift_222 (lv_at hl 2 rfl) ?_
                                        refine lv_if_ne (tgt := 262) hx hb dX11_shift_224 rfl (fun c_23 => ?_) (fun c_23 => ?_)
                                        · exact absurd (by decide) c_23
                                        · refine lv_iload hx hb dX11_shift_227 (lv_at hl 0 rfl) ?_
                                          refine lv_iload hx hb dX11_shift_229 (lv_at hl 11 rfl) ?_
                                          have b9_25 : zlt ((wyR (kd f).toInt n kk k)) := show (wyR (kd f).toInt n kk k) < 2147483648 by omega
                                          refine lv_icmp_gt (tgt := 258) hx hb dX11_shift_231 rfl (fun c_24 => ?_) (fun c_24 => ?_)
                                          · have c_24 : ((rr : Nat) : Int) < ((wyR (kd f).toInt n kk k : Nat) : Int) := zc_lt (nI_toInt b9_11) (nI_toInt b9_25) c_24
                                            refine lv_iconst (v := 1) hx hb dX11_shift_258 rfl ?_
                                            refine lv_goto (tgt := 263) hx hb dX11_shift_259 rfl ?_
                                            refine lv_istore (lv' := [(12, .int 1), (11, .int (nI (wyR (kd f).toInt n kk k))), (10, .int (nI k)), (9, .int 0), (7, .int 0), (8, .int 0), (6, .int 0), (0, .ref k0), (1, .int (nI f)), (2, .int (nI kk)), (3, .int dx), (4, .int dy), (5, .int (nI rr))]) hx hb dX11_shift_263 hl (Nat.le_of_ble_eq_true rfl) rfl (fun ls hl => ?_)
                                            refine lv_iload hx hb dX11_shift_265 (lv_at hl 0 rfl) ?_
                                            refine lv_if_eq (tgt := 273) hx hb dX11_shift_267 rfl (fun c_26 => ?_) (fun c_26 => ?_)
                                            · exact absurd c_26 (by decide)
                                            · refine lv_goto (tgt := 361) hx hb dX11_shift_270 rfl ?_
                                              refine lv_iinc (v := nI (k + 1)) (lv' := [(10, .int (nI (k + 1))), (12, .int 1), (11, .int (nI (wyR (kd f).toInt n kk k))), (9, .int 0), (7, .int 0), (8, .int 0), (6, .int 0), (0, .ref k0), (1, .int (nI f)), (2, .int (nI kk)), (3, .int dx), (4, .int dy), (5, .int (nI rr))]) hx hb dX11_shift_361 hl (k := 2) rfl (nI_add k 1) (Nat.le_of_ble_eq_true rfl) rfl (fun ls hl => ?_)
                                              refine lv_goto (tgt := 203) hx hb dX11_shift_364 rfl ?_
                                              exact ih_203 (k + 1) cx1 cy1 H locs ls (by first | with_reducible assumption | omega) (by first | with_reducible assumption | omega) (by first | exact fgX_u hcx (shV_f (by first | with_reducible assumption | assumption)) | exact fgX_k hcx (shV_t (X := cF40 cx f) (by first | exact Or.inl (by first | with_reducible assumption | omega) | exact Or.inr ⟨by assumption, by omega⟩))) (by first | exact fgX_u hcy (shV_f (by first | with_reducible assumption | assumption)) | exact fgX_k hcy (shV_t (X := cF40 cy f) (by first | exact Or.inl (by first | with_reducible assumption | omega) | exact Or.inr ⟨by assumption, by omega⟩))) hP hD hS (lv_sub hl [0, 3, 4, 5, 6, 7, 8, 9, 10, 11, 12] rfl)
                                          · have c_24 : ((wyR (kd f).toInt n kk k : Nat) : Int) ≤ ((rr : Nat) : Int) := zc_nlt (nI_toInt b9_11) (nI_toInt b9_25) c_24
                                            refine lv_aload_n hx hb dX11_shift_234 rfl (lv_at hl 6 rfl) ?_
                                            refine lv_iload_n hx hb dX11_shift_235 rfl (lv_at hl 7 rfl) ?_
                                            obtain ⟨hPc, hDc, hFc, hI1⟩ := zi_sub (wc := [_, _]) hP hD hS hA [0, 1] rfl rfl
                                            refine zcall (st1 := [.int (pI (5 ≤ (kd f).toInt))]) (va_runV (As := [.int (nI f)]) (rest := []) ⟨hx, hb, hml, hown, hts⟩ (k_M_isRing l dC dI cI cZ cF H.size k0 a (upd (upd I0 35 (nI n)) 36 (kd f)) J0 f kd (by first | with_reducible assumption | omega)) (csV_165 hts rfl rfl ⟨Nat.le_of_ble_eq_true rfl, Nat.le_of_ble_eq_true rfl⟩) (zPV2 (q0 := 0) (ci := 9) hPc hDc hK hXN rfl rfl) rfl rfl hl.1 rfl (lv_room (Nat.le_of_ble_eq_true rfl)) dX11_shift_236 ⟨Nat.le_of_ble_eq_true rfl, Nat.le_of_ble_eq_true rfl⟩) hS hFc hFc rfl (fun t H locs ht hB hk1 hS => ?_)
                                            obtain ⟨hP1, hD1⟩ := hB
                                            rw [ht] at hP1
                                            replace hP := z0 hP hD hk1 hP1 hI1
                                            clear hk1 hPc hDc hFc hP1 hD1 ht hI1
                                            refine lv_if_ne (tgt := 262) hx hb dX11_shift_239 rfl (fun c_27 => ?_) (fun c_27 => ?_)
                                            · have c_27 : 5 ≤ (kd f).toInt := zp_1 c_27
                                              refine lv_iconst (v := 0) hx hb dX11_shift_262 rfl ?_
                                              refine lv_istore (lv' := [(12, .int 0), (11, .int (nI (wyR (kd f).toInt n kk k))), (10, .int (nI k)), (9, .int 0), (7, .int 0), (8, .int 0), (6, .int 0), (0, .ref k0), (1, .int (nI f)), (2, .int (nI kk)), (3, .int dx), (4, .int dy), (5, .int (nI rr))]) hx hb dX11_shift_263 hl (Nat.le_of_ble_eq_true rfl) rfl (fun ls hl => ?_)
                                              refine lv_iload hx hb dX11_shift_265 (lv_at hl 0 rfl) ?_
                                              refine lv_if_eq (tgt := 273) hx hb dX11_shift_267 rfl (fun c_28 => ?_) (fun c_28 => ?_)
                                              · have hst9 : ¬ (rr < wyR (kd f).toInt n kk k ∨ (¬ 5 ≤ (kd f).toInt ∧ (k = 0 ∨ k = n - 1))) := (by first | exact fun h => h.elim (fun h => by omega) (fun h => absurd (by first | with_reducible assumption | assumption) h.1) | exact fun h => h.elim (fun h => by omega) (fun h => by omega))
                                                have hwy : wyR (kd f).toInt n kk k ≤ rr := (by have := hst9; omega)
                                                refine lv_aload_n hx hb dX11_shift_273 rfl (lv_at hl 7 rfl) ?_
                                                refine va_get (D := (dC, dI)) (ci := 9) (v := .ref (a 12)) (C := RX11) (T := TX11) (N := 55) hx hb hts inX11 hown hK hP 0 rfl rfl 12 (Nat.le_of_ble_eq_true rfl) (hts _ mw_1171) (fun _ h9 => h9) rfl dX11_shift_274 ?_
                                                refine lv_bipush (v := 40) hx hb dX11_shift_277 rfl ?_
                                                refine lv_iload_n hx hb dX11_shift_279 rfl (lv_at hl 8 rfl) ?_
                                                refine lv_imul hx hb dX11_shift_280 ?_
                                                refine zz_i (v := nI (40 * f)) (pk_mul 40 f) ?_
                                                refine lv_iload hx hb dX11_shift_281 (lv_at hl 2 rfl) ?_
                                                refine lv_iadd hx hb dX11_shift_283 ?_
                                                refine zz_i (v := nI (40 * f + k)) (nI_add (40 * f) k) ?_
                                                refine lv_aload_n hx hb dX11_shift_284 rfl (lv_at hl 7 rfl) ?_
                                                refine va_get (D := (dC, dI)) (ci := 9) (v := .ref (a 33)) (C := RX11) (T := TX11) (N := 55) hx hb hts inX11 hown hK hP 0 rfl rfl 33 (Nat.le_of_ble_eq_true rfl) (hts _ mw_1192) (fun _ h9 => h9) rfl dX11_shift_285 ?_
                                                refine lv_iload hx hb dX11_shift_288 (lv_at hl 2 rfl) ?_
                                                have b9_29 : k < 42 := by omega
                                                refine z_iald hx hb hK hP 23 0 rfl rfl (e := k) rfl b9_29 (Nat.le_of_ble_eq_true rfl) dX11_shift_290 ?_
                                                refine zz_i (v := cF40 cx f k) ((hox _ hk9).1) ?_
                                                refine lv_iload hx hb dX11_shift_291 (lv_at hl 3 rfl) ?_
                                                refine lv_if_eq (tgt := 300) hx hb dX11_shift_293 rfl (fun c_30 => ?_) (fun c_30 => ?_)
                                                · refine lv_iload_n hx hb dX11_shift_300 rfl (lv_at hl 10 rfl) ?_
                                                  refine lv_iload hx hb dX11_shift_301 (lv_at hl 12 rfl) ?_
                                                  refine lv_iconst (v := 1) hx hb dX11_shift_303 rfl ?_
                                                  refine lv_iadd hx hb dX11_shift_304 ?_
                                                  refine zz_i (v := nI (rr + 1)) (nI_add rr 1) ?_
                                                  refine lv_iload hx hb dX11_shift_305 (lv_at hl 1 rfl) ?_
                                                  refine lv_isub hx hb dX11_shift_307 ?_
                                                  refine zz_i (v := nI ((rr + 1) - (wyR (kd f).toInt n kk k))) (pk_sub (a := rr + 1) (b := wyR (kd f).toInt n kk k) (by omega)) ?_
                                                  refine lv_imul hx hb dX11_shift_308 ?_
                                                  refine lv_iload hx hb dX11_shift_309 (lv_at hl 12 rfl) ?_
                                                  refine lv_iconst (v := 1) hx hb dX11_shift_311 rfl ?_
                                                  refine lv_iadd hx hb dX11_shift_312 ?_
                                                  refine zz_i (v := nI (rr + 1)) (nI_add rr 1) ?_
                                                  refine lv_idiv hx hb dX11_shift_313 (nI_ne0 (by omega) (by omega)) ?_
                                                  refine lv_iadd hx hb dX11_shift_314 ?_
                                                  have b9_31 : 40 * f + k < 8040 := by omega
                                                  refine z_iast hx hb hK hP hD hS 12 0 rfl rfl (e := 40 * f + k) (x := (cF40 cx f k) + ((dx * (nI ((rr + 1) - (wyR (kd f).toInt n kk k)))) / (nI (rr + 1)))) rfl b9_31 (Nat.le_of_ble_eq_true rfl) dX11_shift_315 (fun H locs hP hD hS => ?_)
                                                  obtain ⟨hP, hD⟩ := zre (W2 := [_, _, _, _, _, _, _, _, _, _, _, _, (oa (a 12) cI 8040 (upd cx1 (40 * f + k) ((cF40 cx f k) + ((dx * (nI ((rr + 1) - (wyR (kd f).toInt n kk k)))) / (nI (rr + 1)))))), _, _, _, _, _, _, _, _, _, _, _, _, _, _, _, _, _, _, _]) hP hD rfl
                                                  refine lv_aload_n hx hb dX11_shift_316 rfl (lv_at hl 7 rfl) ?_
                                                  refine va_get (D := (dC, dI)) (ci := 9) (v := .ref (a 13)) (C := RX11) (T := TX11) (N := 55) hx hb hts inX11 hown hK hP 0 rfl rfl 13 (Nat.le_of_ble_eq_true rfl) (hts _ mw_1172) (fun _ h9 => h9) rfl dX11_shift_317 ?_
                                                  refine lv_bipush (v := 40) hx hb dX11_shift_320 rfl ?_
                                                  refine lv_iload_n hx hb dX11_shift_322 rfl (lv_at hl 8 rfl) ?_
                                                  refine lv_imul hx hb dX11_shift_323 ?_
                                                  refine zz_i (v := nI (40 * f)) (pk_mul 40 f) ?_
                                                  refine lv_iload hx hb dX11_shift_324 (lv_at hl 2 rfl) ?_
                                                  refine lv_iadd hx hb dX11_shift_326 ?_
                                                  refine zz_i (v := nI (40 * f + k)) (nI_add (40 * f) k) ?_
                                                  refine lv_aload_n hx hb dX11_shift_327 rfl (lv_at hl 7 rfl) ?_
                                                  refine va_get (D := (dC, dI)) (ci := 9) (v := .ref (a 34)) (C := RX11) (T := TX11) (N := 55) hx hb hts inX11 hown hK hP 0 rfl rfl 34 (Nat.le_of_ble_eq_true rfl) (hts _ mw_1193) (fun _ h9 => h9) rfl dX11_shift_328 ?_
                                                  refine lv_iload hx hb dX11_shift_331 (lv_at hl 2 rfl) ?_
                                                  refine z_iald hx hb hK hP 24 0 rfl rfl (e := k) rfl b9_29 (Nat.le_of_ble_eq_true rfl) dX11_shift_333 ?_
                                                  refine zz_i (v := cF40 cy f k) ((hox _ hk9).2) ?_
                                                  refine lv_iload hx hb dX11_shift_334 (lv_at hl 3 rfl) ?_
                                                  refine lv_if_eq (tgt := 344) hx hb dX11_shift_336 rfl (fun c_32 => ?_) (fun c_32 => ?_)
                                                  · refine lv_iload hx hb dX11_shift_344 (lv_at hl 11 rfl) ?_
                                                    refine lv_iload hx hb dX11_shift_346 (lv_at hl 12 rfl) ?_
                                                    refine lv_iconst (v := 1) hx hb dX11_shift_348 rfl ?_
                                                    refine lv_iadd hx hb dX11_shift_349 ?_
                                                    refine zz_i (v := nI (rr + 1)) (nI_add rr 1) ?_
                                                    refine lv_iload hx hb dX11_shift_350 (lv_at hl 1 rfl) ?_
                                                    refine lv_isub hx hb dX11_shift_352 ?_
                                                    refine zz_i (v := nI ((rr + 1) - (wyR (kd f).toInt n kk k))) (pk_sub (a := rr + 1) (b := wyR (kd f).toInt n kk k) (by omega)) ?_
                                                    refine lv_imul hx hb dX11_shift_353 ?_
                                                    refine lv_iload hx hb dX11_shift_354 (lv_at hl 12 rfl) ?_
                                                    refine lv_iconst (v := 1) hx hb dX11_shift_356 rfl ?_
                                                    refine lv_iadd hx hb dX11_shift_357 ?_
                                                    refine zz_i (v := nI (rr + 1)) (nI_add rr 1) ?_
                                                    refine lv_idiv hx hb dX11_shift_358 (nI_ne0 (by omega) (by omega)) ?_
                                                    refine lv_iadd hx hb dX11_shift_359 ?_
                                                    refine z_iast hx hb hK hP hD hS 13 0 rfl rfl (e := 40 * f + k) (x := (cF40 cy f k) + ((dy * (nI ((rr + 1) - (wyR (kd f).toInt n kk k)))) / (nI (rr + 1)))) rfl b9_31 (Nat.le_of_ble_eq_true rfl) dX11_shift_360 (fun H locs hP hD hS => ?_)
                                                    obtain ⟨hP, hD⟩ := zre (W2 := [_, _, _, _, _, _, _, _, _, _, _, _, _, (oa (a 13) cI 8040 (upd cy1 (40 * f + k) ((cF40 cy f k) + ((dy * (nI ((rr + 1) - (wyR (kd f).toInt n kk k)))) / (nI (rr + 1)))))), _, _, _, _, _, _, _, _, _, _, _, _, _, _, _, _, _, _]) hP hD rfl
                                                    refine lv_iinc (v := nI (k + 1)) (lv' := [(10, .int (nI (k + 1))), (12, .int 0), (11, .int (nI (wyR (kd f).toInt n kk k))), (9, .int 0), (7, .int 0), (8, .int 0), (6, .int 0), (0, .ref k0), (1, .int (nI f)), (2, .int (nI kk)), (3, .int dx), (4, .int dy), (5, .int (nI rr))]) hx hb dX11_shift_361 hl (k := 2) rfl (nI_add k 1) (Nat.le_of_ble_eq_true rfl) rfl (fun ls hl => ?_)
                                                    refine lv_goto (tgt := 203) hx hb dX11_shift_364 rfl ?_
                                                    exact ih_203 (k + 1) (upd cx1 (40 * f + k) ((cF40 cx f k) + ((dx * (nI ((rr + 1) - (wyR (kd f).toInt n kk k)))) / (nI (rr + 1))))) (upd cy1 (40 * f + k) ((cF40 cy f k) + ((dy * (nI ((rr + 1) - (wyR (kd f).toInt n kk k)))) / (nI (rr + 1))))) H locs ls (by first | with_reducible assumption | omega) (by first | with_reducible assumption | omega) (by first | exact fgX_u hcx (shV_f (by first | with_reducible assumption | assumption)) | exact fgX_k hcx (shV_t (X := cF40 cx f) (by first | exact Or.inl (by first | with_reducible assumption | omega) | exact Or.inr ⟨by assumption, by omega⟩))) (by first | exact fgX_u hcy (shV_f (by first | with_reducible assumption | assumption)) | exact fgX_k hcy (shV_t (X := cF40 cy f) (by first | exact Or.inl (by first | with_reducible assumption | omega) | exact Or.inr ⟨by assumption, by omega⟩))) hP hD hS (lv_sub hl [0, 3, 4, 5, 6, 7, 8, 9, 10, 11, 12] rfl)
                                                  · exact absurd (by decide) c_32
                                                · exact absurd (by decide) c_30
                                              · exact absurd (by decide) c_28
                                            · have c_27 : ¬ (5 ≤ (kd f).toInt) := zp_0 c_27
                                              refine lv_iload hx hb dX11_shift_242 (lv_at hl 1 rfl) ?_
                                              refine lv_if_eq (tgt := 258) hx hb dX11_shift_244 rfl (fun c_33 => ?_) (fun c_33 => ?_)
                                              · have c_33 : ((k : Nat) : Int) = 0 := zc_eq (nI_toInt b9_20) rfl c_33
                                                refine lv_iconst (v := 1) hx hb dX11_shift_258 rfl ?_
                                                refine lv_goto (tgt := 263) hx hb dX11_shift_259 rfl ?_
                                                refine lv_istore (lv' := [(12, .int 1), (11, .int (nI (wyR (kd f).toInt n kk k))), (10, .int (nI k)), (9, .int 0), (7, .int 0), (8, .int 0), (6, .int 0), (0, .ref k0), (1, .int (nI f)), (2, .int (nI kk)), (3, .int dx), (4, .int dy), (5, .int (nI rr))]) hx hb dX11_shift_263 hl (Nat.le_of_ble_eq_true rfl) rfl (fun ls hl => ?_)
                                                refine lv_iload hx hb dX11_shift_265 (lv_at hl 0 rfl) ?_
                                                refine lv_if_eq (tgt := 273) hx hb dX11_shift_267 rfl (fun c_34 => ?_) (fun c_34 => ?_)
                                                · exact absurd c_34 (by decide)
                                                · refine lv_goto (tgt := 361) hx hb dX11_shift_270 rfl ?_
                                                  refine lv_iinc (v := nI (k + 1)) (lv' := [(10, .int (nI (k + 1))), (12, .int 1), (11, .int (nI (wyR (kd f).toInt n kk k))), (9, .int 0), (7, .int 0), (8, .int 0), (6, .int 0), (0, .ref k0), (1, .int (nI f)), (2, .int (nI kk)), (3, .int dx), (4, .int dy), (5, .int (nI rr))]) hx hb dX11_shift_361 hl (k := 2) rfl (nI_add k 1) (Nat.le_of_ble_eq_true rfl) rfl (fun ls hl => ?_)
                                                  refine lv_goto (tgt := 203) hx hb dX11_shift_364 rfl ?_
                                                  exact ih_203 (k + 1) cx1 cy1 H locs ls (by first | with_reducible assumption | omega) (by first | with_reducible assumption | omega) (by first | exact fgX_u hcx (shV_f (by first | with_reducible assumption | assumption)) | exact fgX_k hcx (shV_t (X := cF40 cx f) (by first | exact Or.inl (by first | with_reducible assumption | omega) | exact Or.inr ⟨by assumption, by omega⟩))) (by first | exact fgX_u hcy (shV_f (by first | with_reducible assumption | assumption)) | exact fgX_k hcy (shV_t (X := cF40 cy f) (by first | exact Or.inl (by first | with_reducible assumption | omega) | exact Or.inr ⟨by assumption, by omega⟩))) hP hD hS (lv_sub hl [0, 3, 4, 5, 6, 7, 8, 9, 10, 11, 12] rfl)
                                              · have c_33 : ¬ ((k : Nat) : Int) = 0 := zc_ne (nI_toInt b9_20) rfl c_33
                                                refine lv_iload hx hb dX11_shift_247 (lv_at hl 1 rfl) ?_
                                                refine lv_aload_n hx hb dX11_shift_249 rfl (lv_at hl 6 rfl) ?_
                                                refine va_get (D := (dC, dI)) (ci := 9) (v := .int (nI n)) (C := RX11) (T := TX11) (N := 55) hx hb hts inX11 hown hK hP 0 rfl rfl 35 (Nat.le_of_ble_eq_true rfl) (hts _ mw_1194) (fun _ h9 => h9) rfl dX11_shift_250 ?_
                                                refine lv_iconst (v := 1) hx hb dX11_shift_253 rfl ?_
                                                refine lv_isub hx hb dX11_shift_254 ?_
                                                refine zz_i (v := nI (n - 1)) (pk_sub (a := n) (b := 1) (by omega)) ?_
                                                have b9_36 : zlt ((n - 1)) := show (n - 1) < 2147483648 by omega
                                                refine lv_icmp_ne (tgt := 262) hx hb dX11_shift_255 rfl (fun c_35 => ?_) (fun c_35 => ?_)
                                                · have c_35 : ¬ ((k : Nat) : Int) = ((n - 1 : Nat) : Int) := zc_ne (nI_toInt b9_20) (nI_toInt b9_36) c_35
                                                  refine lv_iconst (v := 0) hx hb dX11_shift_262 rfl ?_
                                                  refine lv_istore (lv' := [(12, .int 0), (11, .int (nI (wyR (kd f).toInt n kk k))), (10, .int (nI k)), (9, .int 0), (7, .int 0), (8, .int 0), (6, .int 0), (0, .ref k0), (1, .int (nI f)), (2, .int (nI kk)), (3, .int dx), (4, .int dy), (5, .int (nI rr))]) hx hb dX11_shift_263 hl (Nat.le_of_ble_eq_true rfl) rfl (fun ls hl => ?_)
                                                  refine lv_iload hx hb dX11_shift_265 (lv_at hl 0 rfl) ?_
                                                  refine lv_if_eq (tgt := 273) hx hb dX11_shift_267 rfl (fun c_37 => ?_) (fun c_37 => ?_)
                                                  · have hst9 : ¬ (rr < wyR (kd f).toInt n kk k ∨ (¬ 5 ≤ (kd f).toInt ∧ (k = 0 ∨ k = n - 1))) := (by first | exact fun h => h.elim (fun h => by omega) (fun h => absurd (by first | with_reducible assumption | assumption) h.1) | exact fun h => h.elim (fun h => by omega) (fun h => by omega))
                                                    have hwy : wyR (kd f).toInt n kk k ≤ rr := (by have := hst9; omega)
                                                    refine lv_aload_n hx hb dX11_shift_273 rfl (lv_at hl 7 rfl) ?_
                                                    refine va_get (D := (dC, dI)) (ci := 9) (v := .ref (a 12)) (C := RX11) (T := TX11) (N := 55) hx hb hts inX11 hown hK hP 0 rfl rfl 12 (Nat.le_of_ble_eq_true rfl) (hts _ mw_1171) (fun _ h9 => h9) rfl dX11_shift_274 ?_
                                                    refine lv_bipush (v := 40) hx hb dX11_shift_277 rfl ?_
                                                    refine lv_iload_n hx hb dX11_shift_279 rfl (lv_at hl 8 rfl) ?_
                                                    refine lv_imul hx hb dX11_shift_280 ?_
                                                    refine zz_i (v := nI (40 * f)) (pk_mul 40 f) ?_
                                                    refine lv_iload hx hb dX11_shift_281 (lv_at hl 2 rfl) ?_
                                                    refine lv_iadd hx hb dX11_shift_283 ?_
                                                    refine zz_i (v := nI (40 * f + k)) (nI_add (40 * f) k) ?_
                                                    refine lv_aload_n hx hb dX11_shift_284 rfl (lv_at hl 7 rfl) ?_
                                                    refine va_get (D := (dC, dI)) (ci := 9) (v := .ref (a 33)) (C := RX11) (T := TX11) (N := 55) hx hb hts inX11 hown hK hP 0 rfl rfl 33 (Nat.le_of_ble_eq_true rfl) (hts _ mw_1192) (fun _ h9 => h9) rfl dX11_shift_285 ?_
                                                    refine lv_iload hx hb dX11_shift_288 (lv_at hl 2 rfl) ?_
                                                    have b9_38 : k < 42 := by omega
                                                    refine z_iald hx hb hK hP 23 0 rfl rfl (e := k) rfl b9_38 (Nat.le_of_ble_eq_true rfl) dX11_shift_290 ?_
                                                    refine zz_i (v := cF40 cx f k) ((hox _ hk9).1) ?_
                                                    refine lv_iload hx hb dX11_shift_291 (lv_at hl 3 rfl) ?_
                                                    refine lv_if_eq (tgt := 300) hx hb dX11_shift_293 rfl (fun c_39 => ?_) (fun c_39 => ?_)
                                                    · refine lv_iload_n hx hb dX11_shift_300 rfl (lv_at hl 10 rfl) ?_
                                                      refine lv_iload hx hb dX11_shift_301 (lv_at hl 12 rfl) ?_
                                                      refine lv_iconst (v := 1) hx hb dX11_shift_303 rfl ?_
                                                      refine lv_iadd hx hb dX11_shift_304 ?_
                                                      refine zz_i (v := nI (rr + 1)) (nI_add rr 1) ?_
                                                      refine lv_iload hx hb dX11_shift_305 (lv_at hl 1 rfl) ?_
                                                      refine lv_isub hx hb dX11_shift_307 ?_
                                                      refine zz_i (v := nI ((rr + 1) - (wyR (kd f).toInt n kk k))) (pk_sub (a := rr + 1) (b := wyR (kd f).toInt n kk k) (by omega)) ?_
                                                      refine lv_imul hx hb dX11_shift_308 ?_
                                                      refine lv_iload hx hb dX11_shift_309 (lv_at hl 12 rfl) ?_
                                                      refine lv_iconst (v := 1) hx hb dX11_shift_311 rfl ?_
                                                      refine lv_iadd hx hb dX11_shift_312 ?_
                                                      refine zz_i (v := nI (rr + 1)) (nI_add rr 1) ?_
                                                      refine lv_idiv hx hb dX11_shift_313 (nI_ne0 (by omega) (by omega)) ?_
                                                      refine lv_iadd hx hb dX11_shift_314 ?_
                                                      have b9_40 : 40 * f + k < 8040 := by omega
                                                      refine z_iast hx hb hK hP hD hS 12 0 rfl rfl (e := 40 * f + k) (x := (cF40 cx f k) + ((dx * (nI ((rr + 1) - (wyR (kd f).toInt n kk k)))) / (nI (rr + 1)))) rfl b9_40 (Nat.le_of_ble_eq_true rfl) dX11_shift_315 (fun H locs hP hD hS => ?_)
                                                      obtain ⟨hP, hD⟩ := zre (W2 := [_, _, _, _, _, _, _, _, _, _, _, _, (oa (a 12) cI 8040 (upd cx1 (40 * f + k) ((cF40 cx f k) + ((dx * (nI ((rr + 1) - (wyR (kd f).toInt n kk k)))) / (nI (rr + 1)))))), _, _, _, _, _, _, _, _, _, _, _, _, _, _, _, _, _, _, _]) hP hD rfl
                                                      refine lv_aload_n hx hb dX11_shift_316 rfl (lv_at hl 7 rfl) ?_
                                                      refine va_get (D := (dC, dI)) (ci := 9) (v := .ref (a 13)) (C := RX11) (T := TX11) (N := 55) hx hb hts inX11 hown hK hP 0 rfl rfl 13 (Nat.le_of_ble_eq_true rfl) (hts _ mw_1172) (fun _ h9 => h9) rfl dX11_shift_317 ?_
                                                      refine lv_bipush (v := 40) hx hb dX11_shift_320 rfl ?_
                                                      refine lv_iload_n hx hb dX11_shift_322 rfl (lv_at hl 8 rfl) ?_
                                                      refine lv_imul hx hb dX11_shift_323 ?_
                                                      refine zz_i (v := nI (40 * f)) (pk_mul 40 f) ?_
                                                      refine lv_iload hx hb dX11_shift_324 (lv_at hl 2 rfl) ?_
                                                      refine lv_iadd hx hb dX11_shift_326 ?_
                                                      refine zz_i (v := nI (40 * f + k)) (nI_add (40 * f) k) ?_
                                                      refine lv_aload_n hx hb dX11_shift_327 rfl (lv_at hl 7 rfl) ?_
                                                      refine va_get (D := (dC, dI)) (ci := 9) (v := .ref (a 34)) (C := RX11) (T := TX11) (N := 55) hx hb hts inX11 hown hK hP 0 rfl rfl 34 (Nat.le_of_ble_eq_true rfl) (hts _ mw_1193) (fun _ h9 => h9) rfl dX11_shift_328 ?_
                                                      refine lv_iload hx hb dX11_shift_331 (lv_at hl 2 rfl) ?_
                                                      refine z_iald hx hb hK hP 24 0 rfl rfl (e := k) rfl b9_38 (Nat.le_of_ble_eq_true rfl) dX11_shift_333 ?_
                                                      refine zz_i (v := cF40 cy f k) ((hox _ hk9).2) ?_
                                                      refine lv_iload hx hb dX11_shift_334 (lv_at hl 3 rfl) ?_
                                                      refine lv_if_eq (tgt := 344) hx hb dX11_shift_336 rfl (fun c_41 => ?_) (fun c_41 => ?_)
                                                      · refine lv_iload hx hb dX11_shift_344 (lv_at hl 11 rfl) ?_
                                                        refine lv_iload hx hb dX11_shift_346 (lv_at hl 12 rfl) ?_
                                                        refine lv_iconst (v := 1) hx hb dX11_shift_348 rfl ?_
                                                        refine lv_iadd hx hb dX11_shift_349 ?_
                                                        refine zz_i (v := nI (rr + 1)) (nI_add rr 1) ?_
                                                        refine lv_iload hx hb dX11_shift_350 (lv_at hl 1 rfl) ?_
                                                        refine lv_isub hx hb dX11_shift_352 ?_
                                                        refine zz_i (v := nI ((rr + 1) - (wyR (kd f).toInt n kk k))) (pk_sub (a := rr + 1) (b := wyR (kd f).toInt n kk k) (by omega)) ?_
                                                        refine lv_imul hx hb dX11_shift_353 ?_
                                                        refine lv_iload hx hb dX11_shift_354 (lv_at hl 12 rfl) ?_
                                                        refine lv_iconst (v := 1) hx hb dX11_shift_356 rfl ?_
                                                        refine lv_iadd hx hb dX11_shift_357 ?_
                                                        refine zz_i (v := nI (rr + 1)) (nI_add rr 1) ?_
                                                        refine lv_idiv hx hb dX11_shift_358 (nI_ne0 (by omega) (by omega)) ?_
                                                        refine lv_iadd hx hb dX11_shift_359 ?_
                                                        refine z_iast hx hb hK hP hD hS 13 0 rfl rfl (e := 40 * f + k) (x := (cF40 cy f k) + ((dy * (nI ((rr + 1) - (wyR (kd f).toInt n kk k)))) / (nI (rr + 1)))) rfl b9_40 (Nat.le_of_ble_eq_true rfl) dX11_shift_360 (fun H locs hP hD hS => ?_)
                                                        obtain ⟨hP, hD⟩ := zre (W2 := [_, _, _, _, _, _, _, _, _, _, _, _, _, (oa (a 13) cI 8040 (upd cy1 (40 * f + k) ((cF40 cy f k) + ((dy * (nI ((rr + 1) - (wyR (kd f).toInt n kk k)))) / (nI (rr + 1)))))), _, _, _, _, _, _, _, _, _, _, _, _, _, _, _, _, _, _]) hP hD rfl
                                                        refine lv_iinc (v := nI (k + 1)) (lv' := [(10, .int (nI (k + 1))), (12, .int 0), (11, .int (nI (wyR (kd f).toInt n kk k))), (9, .int 0), (7, .int 0), (8, .int 0), (6, .int 0), (0, .ref k0), (1, .int (nI f)), (2, .int (nI kk)), (3, .int dx), (4, .int dy), (5, .int (nI rr))]) hx hb dX11_shift_361 hl (k := 2) rfl (nI_add k 1) (Nat.le_of_ble_eq_true rfl) rfl (fun ls hl => ?_)
                                                        refine lv_goto (tgt := 203) hx hb dX11_shift_364 rfl ?_
                                                        exact ih_203 (k + 1) (upd cx1 (40 * f + k) ((cF40 cx f k) + ((dx * (nI ((rr + 1) - (wyR (kd f).toInt n kk k)))) / (nI (rr + 1))))) (upd cy1 (40 * f + k) ((cF40 cy f k) + ((dy * (nI ((rr + 1) - (wyR (kd f).toInt n kk k)))) / (nI (rr + 1))))) H locs ls (by first | with_reducible assumption | omega) (by first | with_reducible assumption | omega) (by first | exact fgX_u hcx (shV_f (by first | with_reducible assumption | assumption)) | exact fgX_k hcx (shV_t (X := cF40 cx f) (by first | exact Or.inl (by first | with_reducible assumption | omega) | exact Or.inr ⟨by assumption, by omega⟩))) (by first | exact fgX_u hcy (shV_f (by first | with_reducible assumption | assumption)) | exact fgX_k hcy (shV_t (X := cF40 cy f) (by first | exact Or.inl (by first | with_reducible assumption | omega) | exact Or.inr ⟨by assumption, by omega⟩))) hP hD hS (lv_sub hl [0, 3, 4, 5, 6, 7, 8, 9, 10, 11, 12] rfl)
                                                      · exact absurd (by decide) c_41
                                                    · exact absurd (by decide) c_39
                                                  · exact absurd (by decide) c_37
                                                · have c_35 : ((k : Nat) : Int) = ((n - 1 : Nat) : Int) := zc_eq (nI_toInt b9_20) (nI_toInt b9_36) c_35
                                                  refine lv_iconst (v := 1) hx hb dX11_shift_258 rfl ?_
                                                  refine lv_goto (tgt := 263) hx hb dX11_shift_259 rfl ?_
                                                  refine lv_istore (lv' := [(12, .int 1), (11, .int (nI (wyR (kd f).toInt n kk k))), (10, .int (nI k)), (9, .int 0), (7, .int 0), (8, .int 0), (6, .int 0), (0, .ref k0), (1, .int (nI f)), (2, .int (nI kk)), (3, .int dx), (4, .int dy), (5, .int (nI rr))]) hx hb dX11_shift_263 hl (Nat.le_of_ble_eq_true rfl) rfl (fun ls hl => ?_)
                                                  refine lv_iload hx hb dX11_shift_265 (lv_at hl 0 rfl) ?_
                                                  refine lv_if_eq (tgt := 273) hx hb dX11_shift_267 rfl (fun c_42 => ?_) (fun c_42 => ?_)
                                                  · exact absurd c_42 (by decide)
                                                  · refine lv_goto (tgt := 361) hx hb dX11_shift_270 rfl ?_
                                                    refine lv_iinc (v := nI (k + 1)) (lv' := [(10, .int (nI (k + 1))), (12, .int 1), (11, .int (nI (wyR (kd f).toInt n kk k))), (9, .int 0), (7, .int 0), (8, .int 0), (6, .int 0), (0, .ref k0), (1, .int (nI f)), (2, .int (nI kk)), (3, .int dx), (4, .int dy), (5, .int (nI rr))]) hx hb dX11_shift_361 hl (k := 2) rfl (nI_add k 1) (Nat.le_of_ble_eq_true rfl) rfl (fun ls hl => ?_)
                                                    refine lv_goto (tgt := 203) hx hb dX11_shift_364 rfl ?_
                                                    exact ih_203 (k + 1) cx1 cy1 H locs ls (by first | with_reducible assumption | omega) (by first | with_reducible assumption | omega) (by first | exact fgX_u hcx (shV_f (by first | with_reducible assumption | assumption)) | exact fgX_k hcx (shV_t (X := cF40 cx f) (by first | exact Or.inl (by first | with_reducible assumption | omega) | exact Or.inr ⟨by assumption, by omega⟩))) (by first | exact fgX_u hcy (shV_f (by first | with_reducible assumption | assumption)) | exact fgX_k hcy (shV_t (X := cF40 cy f) (by first | exact Or.inl (by first | with_reducible assumption | omega) | exact Or.inr ⟨by assumption, by omega⟩))) hP hD hS (lv_sub hl [0, 3, 4, 5, 6, 7, 8, 9, 10, 11, 12] rfl)
                                  exact hl_203 _ 0 cx cy H locs ls (Nat.lt_succ_self _) (by first | with_reducible assumption | omega) (fgX_0 _ _ _) (fgX_0 _ _ _) hP hD hS (lv_sub hl [0, 1, 2, 3, 4, 5, 6, 7, 8, 9, 10] rfl)
                                · have c_18 : (kd f).toInt = 6 := zc_eq rfl rfl c_18
                                  exfalso; omega
                            · exact absurd (by decide) c_16
                          · have c_15 : ¬ (tn f).toInt = 0 := zc_ne rfl rfl c_15
                            exfalso; omega
                        · exact absurd (by decide) c_14
                      · exact absurd (by decide) c_13
                    · have c_12 : 20 < ((rr : Nat) : Int) := zc_nle (nI_toInt b9_11) rfl c_12
                      exfalso; omega
        · have c_5 : ¬ (st f).toInt = 1 := zc_ne rfl rfl c_5
          exfalso; omega
      · exact absurd (by decide) c_3
  · have c_1 : f < ft := zp_1 c_1
    refine lv_aload_n hx hb dX11_shift_8 rfl (lv_at hl 0 rfl) ?_
    refine va_get (D := (dC, dI)) (ci := 9) (v := .ref (a 6)) (C := RX11) (T := TX11) (N := 55) hx hb hts inX11 hown hK hP 0 rfl rfl 6 (Nat.le_of_ble_eq_true rfl) (hts _ mw_1165) (fun _ h9 => h9) rfl dX11_shift_9 ?_
    refine lv_iload_n hx hb dX11_shift_12 rfl (lv_at hl 1 rfl) ?_
    have b9_43 : f < 201 := by omega
    refine z_zald hx hb hK hP 10 1 rfl rfl (e := f) rfl b9_43 (Nat.le_of_ble_eq_true rfl) dX11_shift_13 ?_
    refine lv_if_ne (tgt := 35) hx hb dX11_shift_14 rfl (fun c_44 => ?_) (fun c_44 => ?_)
    · have c_44 : ¬ (tn f).toInt = 0 := zc_ne rfl rfl c_44
      refine lv_iconst (v := 0) hx hb dX11_shift_35 rfl ?_
      refine lv_istore (lv' := [(6, .int 0), (0, .ref k0), (1, .int (nI f)), (2, .int (nI kk)), (3, .int dx), (4, .int dy), (5, .int (nI rr))]) hx hb dX11_shift_36 hl (Nat.le_of_ble_eq_true rfl) rfl (fun ls hl => ?_)
      refine lv_aload_n hx hb dX11_shift_38 rfl (lv_at hl 1 rfl) ?_
      refine lv_iload_n hx hb dX11_shift_39 rfl (lv_at hl 2 rfl) ?_
      obtain ⟨hPc, hDc, hFc, hI1⟩ := zi_sub (wc := [_]) hP hD hS hA [0] rfl rfl
      refine zcall (st1 := [.int (pI (f < ft))]) (va_runV (As := [.int (nI f)]) (rest := []) ⟨hx, hb, hml, hown, hts⟩ (k_M_isFeature_n l dC dI cI cZ cF H.size k0 a I0 J0 f ft (by first | with_reducible assumption | assumption) (by first | with_reducible assumption | omega) (by first | with_reducible assumption | omega)) (csV_178 hts rfl rfl ⟨Nat.le_of_ble_eq_true rfl, Nat.le_of_ble_eq_true rfl⟩) (zPV2 (q0 := 0) (ci := 9) hPc hDc hK hXN rfl rfl) rfl rfl hl.1 rfl (lv_room (Nat.le_of_ble_eq_true rfl)) dX11_shift_40 ⟨Nat.le_of_ble_eq_true rfl, Nat.le_of_ble_eq_true rfl⟩) hS hFc hFc rfl (fun t H locs ht hB hk1 hS => ?_)
      obtain ⟨hP1, hD1⟩ := hB
      rw [ht] at hP1
      replace hP := z0 hP hD hk1 hP1 hI1
      clear hk1 hPc hDc hFc hP1 hD1 ht hI1
      refine lv_if_eq (tgt := 51) hx hb dX11_shift_43 rfl (fun c_45 => ?_) (fun c_45 => ?_)
      · have c_45 : ¬ (f < ft) := zp_0 c_45
        exfalso; omega
      · have c_45 : f < ft := zp_1 c_45
        refine lv_iload hx hb dX11_shift_46 (lv_at hl 0 rfl) ?_
        refine lv_if_eq (tgt := 55) hx hb dX11_shift_48 rfl (fun c_46 => ?_) (fun c_46 => ?_)
        · refine lv_aload_n hx hb dX11_shift_55 rfl (lv_at hl 1 rfl) ?_
          refine va_get (D := (dC, dI)) (ci := 9) (v := .ref (a 5)) (C := RX11) (T := TX11) (N := 55) hx hb hts inX11 hown hK hP 0 rfl rfl 5 (Nat.le_of_ble_eq_true rfl) (hts _ mw_1164) (fun _ h9 => h9) rfl dX11_shift_56 ?_
          refine lv_iload_n hx hb dX11_shift_59 rfl (lv_at hl 2 rfl) ?_
          refine z_iald hx hb hK hP 2 0 rfl rfl (e := f) rfl b9_43 (Nat.le_of_ble_eq_true rfl) dX11_shift_60 ?_
          refine lv_iconst (v := 1) hx hb dX11_shift_61 rfl ?_
          refine lv_icmp_eq (tgt := 69) hx hb dX11_shift_62 rfl (fun c_47 => ?_) (fun c_47 => ?_)
          · have c_47 : (st f).toInt = 1 := zc_eq rfl rfl c_47
            refine lv_iconst (v := 0) hx hb dX11_shift_69 rfl ?_
            refine lv_istore (lv' := [(7, .int 0), (6, .int 0), (0, .ref k0), (1, .int (nI f)), (2, .int (nI kk)), (3, .int dx), (4, .int dy), (5, .int (nI rr))]) hx hb dX11_shift_70 hl (Nat.le_of_ble_eq_true rfl) rfl (fun ls hl => ?_)
            refine lv_iload_n hx hb dX11_shift_72 rfl (lv_at hl 5 rfl) ?_
            refine lv_sipush (v := (-200)) hx hb dX11_shift_73 rfl ?_
            refine lv_icmp_lt (tgt := 114) hx hb dX11_shift_76 rfl (fun c_48 => ?_) (fun c_48 => ?_)
            · have c_48 : dx.toInt < (-200) := zc_lt rfl rfl c_48
              exfalso; omega
            · have c_48 : (-200) ≤ dx.toInt := zc_nlt rfl rfl c_48
              refine lv_iload_n hx hb dX11_shift_79 rfl (lv_at hl 5 rfl) ?_
              refine lv_sipush (v := 200) hx hb dX11_shift_80 rfl ?_
              refine lv_icmp_gt (tgt := 114) hx hb dX11_shift_83 rfl (fun c_49 => ?_) (fun c_49 => ?_)
              · have c_49 : 200 < dx.toInt := zc_lt rfl rfl c_49
                exfalso; omega
              · have c_49 : dx.toInt ≤ 200 := zc_nlt rfl rfl c_49
                refine lv_iload hx hb dX11_shift_86 (lv_at hl 6 rfl) ?_
                refine lv_sipush (v := (-200)) hx hb dX11_shift_88 rfl ?_
                refine lv_icmp_lt (tgt := 114) hx hb dX11_shift_91 rfl (fun c_50 => ?_) (fun c_50 => ?_)
                · have c_50 : dy.toInt < (-200) := zc_lt rfl rfl c_50
                  exfalso; omega
                · have c_50 : (-200) ≤ dy.toInt := zc_nlt rfl rfl c_50
                  refine lv_iload hx hb dX11_shift_94 (lv_at hl 6 rfl) ?_
                  refine lv_sipush (v := 200) hx hb dX11_shift_96 rfl ?_
                  refine lv_icmp_gt (tgt := 114) hx hb dX11_shift_99 rfl (fun c_51 => ?_) (fun c_51 => ?_)
                  · have c_51 : 200 < dy.toInt := zc_lt rfl rfl c_51
                    exfalso; omega
                  · have c_51 : dy.toInt ≤ 200 := zc_nlt rfl rfl c_51
                    refine lv_iload hx hb dX11_shift_102 (lv_at hl 7 rfl) ?_
                    have b9_53 : zlt (rr) := show rr < 2147483648 by omega
                    refine lv_if_lt (tgt := 114) hx hb dX11_shift_104 rfl (fun c_52 => ?_) (fun c_52 => ?_)
                    · have c_52 : ((rr : Nat) : Int) < 0 := zc_lt (nI_toInt b9_53) rfl c_52
                      exfalso; omega
                    · have c_52 : 0 ≤ ((rr : Nat) : Int) := zc_nlt (nI_toInt b9_53) rfl c_52
                      refine lv_iload hx hb dX11_shift_107 (lv_at hl 7 rfl) ?_
                      refine lv_bipush (v := 20) hx hb dX11_shift_109 rfl ?_
                      refine lv_icmp_le (tgt := 118) hx hb dX11_shift_111 rfl (fun c_54 => ?_) (fun c_54 => ?_)
                      · have c_54 : ((rr : Nat) : Int) ≤ 20 := zc_le (nI_toInt b9_53) rfl c_54
                        refine lv_iconst (v := 0) hx hb dX11_shift_118 rfl ?_
                        refine lv_istore (lv' := [(8, .int 0), (7, .int 0), (6, .int 0), (0, .ref k0), (1, .int (nI f)), (2, .int (nI kk)), (3, .int dx), (4, .int dy), (5, .int (nI rr))]) hx hb dX11_shift_119 hl (Nat.le_of_ble_eq_true rfl) rfl (fun ls hl => ?_)
                        refine lv_iload hx hb dX11_shift_121 (lv_at hl 1 rfl) ?_
                        refine lv_if_le (tgt := 131) hx hb dX11_shift_123 rfl (fun c_55 => ?_) (fun c_55 => ?_)
                        · refine lv_iload hx hb dX11_shift_131 (lv_at hl 0 rfl) ?_
                          refine lv_if_eq (tgt := 140) hx hb dX11_shift_133 rfl (fun c_56 => ?_) (fun c_56 => ?_)
                          · refine lv_aload_n hx hb dX11_shift_140 rfl (lv_at hl 3 rfl) ?_
                            refine va_get (D := (dC, dI)) (ci := 9) (v := .ref (a 6)) (C := RX11) (T := TX11) (N := 55) hx hb hts inX11 hown hK hP 0 rfl rfl 6 (Nat.le_of_ble_eq_true rfl) (hts _ mw_1165) (fun _ h9 => h9) rfl dX11_shift_141 ?_
                            refine lv_iload_n hx hb dX11_shift_144 rfl (lv_at hl 4 rfl) ?_
                            refine z_zald hx hb hK hP 10 1 rfl rfl (e := f) rfl b9_43 (Nat.le_of_ble_eq_true rfl) dX11_shift_145 ?_
                            refine lv_if_eq (tgt := 153) hx hb dX11_shift_146 rfl (fun c_57 => ?_) (fun c_57 => ?_)
                            · have c_57 : (tn f).toInt = 0 := zc_eq rfl rfl c_57
                              refine lv_iconst (v := 0) hx hb dX11_shift_153 rfl ?_
                              refine lv_istore (lv' := [(7, .int 0), (8, .int 0), (6, .int 0), (0, .ref k0), (1, .int (nI f)), (2, .int (nI kk)), (3, .int dx), (4, .int dy), (5, .int (nI rr))]) hx hb dX11_shift_154 hl (Nat.le_of_ble_eq_true rfl) rfl (fun ls hl => ?_)
                              refine lv_iload hx hb dX11_shift_156 (lv_at hl 0 rfl) ?_
                              refine lv_if_le (tgt := 168) hx hb dX11_shift_158 rfl (fun c_58 => ?_) (fun c_58 => ?_)
                              · refine lv_aload_n hx hb dX11_shift_168 rfl (lv_at hl 3 rfl) ?_
                                refine lv_iload_n hx hb dX11_shift_169 rfl (lv_at hl 4 rfl) ?_
                                obtain ⟨hPc, hDc, hFc⟩ := zo_sub (wc := [_, _, _, _, _, _, _, _, _, _, _, _, _]) hP hD hS hA [0, 2, 10, 1, 11, 12, 13, 19, 23, 24, 25, 26, 27] (by decide +kernel) rfl
                                refine zcall (st1 := []) (va_runV (As := [.int (nI f)]) (rest := []) ⟨hx, hb, hml, hown, hts⟩ (k_M_remember l dC dI cI cZ cF H.size k0 a I0 J0 f n ft st tn kd mn cx cy S0 ox oy mt wi ins (by first | with_reducible assumption | assumption) (by first | with_reducible assumption | omega) (by first | with_reducible assumption | omega) (by first | with_reducible assumption | assumption) (by first | with_reducible assumption | omega) (by first | with_reducible assumption | assumption) (fun q h1 _ => hwf q h1)) (csV_190 hts rfl rfl ⟨Nat.le_of_ble_eq_true rfl, Nat.le_of_ble_eq_true rfl⟩) (zPV2 (q0 := 0) (ci := 9) hPc hDc hK hXN rfl rfl) rfl rfl hl.1 rfl (lv_room (Nat.le_of_ble_eq_true rfl)) dX11_shift_170 ⟨Nat.le_of_ble_eq_true rfl, Nat.le_of_ble_eq_true rfl⟩) hS hFc hFc rfl (fun t H locs ht hB hk1 hS => ?_)
                                refine ex6 hB (fun S1 ox1 oy1 mt1 wi1 ins1 hB0 => ?_)
                                clear hB
                                obtain ⟨hox, hmt, hwi, hin, hP1, hD1⟩ := hB0
                                rw [ht] at hP1
                                obtain ⟨hP, hD⟩ := zn (W2 := [(om k0 a (upd (upd I0 35 (nI n)) 36 (kd f)) J0), _, _, _, _, _, _, _, _, _, _, _, _, _, _, _, _, _, _, (oa (a 32) cI 8 S1), _, _, _, (oa (a 33) cI 42 ox1), (oa (a 34) cI 42 oy1), (oa (a 37) cZ 201 mt1), (oa (a 38) cZ 201 wi1), (oa (a 39) cZ 8040 ins1), _, _, _, _]) hP hD hk1 hFc hP1 hD1 zl_194 zl_195 zl_195 zl_194 (by decide +kernel) rfl rfl rfl rfl rfl
                                clear hk1 hPc hDc hFc hP1 hD1 ht
                                refine lv_aload_n hx hb dX11_shift_173 rfl (lv_at hl 3 rfl) ?_
                                refine va_get (D := (dC, dI)) (ci := 9) (v := .ref (a 1)) (C := RX11) (T := TX11) (N := 55) hx hb hts inX11 hown hK hP 0 rfl rfl 1 (Nat.le_of_ble_eq_true rfl) (hts _ mw_1160) (fun _ h9 => h9) rfl dX11_shift_174 ?_
                                refine lv_iload_n hx hb dX11_shift_177 rfl (lv_at hl 4 rfl) ?_
                                refine z_iald hx hb hK hP 1 0 rfl rfl (e := f) rfl b9_43 (Nat.le_of_ble_eq_true rfl) dX11_shift_178 ?_
                                refine lv_if_eq (tgt := 193) hx hb dX11_shift_179 rfl (fun c_59 => ?_) (fun c_59 => ?_)
                                · have c_59 : (kd f).toInt = 0 := zc_eq rfl rfl c_59
                                  exfalso; omega
                                · have c_59 : ¬ (kd f).toInt = 0 := zc_ne rfl rfl c_59
                                  refine lv_aload_n hx hb dX11_shift_182 rfl (lv_at hl 3 rfl) ?_
                                  refine va_get (D := (dC, dI)) (ci := 9) (v := .ref (a 1)) (C := RX11) (T := TX11) (N := 55) hx hb hts inX11 hown hK hP 0 rfl rfl 1 (Nat.le_of_ble_eq_true rfl) (hts _ mw_1160) (fun _ h9 => h9) rfl dX11_shift_183 ?_
                                  refine lv_iload_n hx hb dX11_shift_186 rfl (lv_at hl 4 rfl) ?_
                                  refine z_iald hx hb hK hP 1 0 rfl rfl (e := f) rfl b9_43 (Nat.le_of_ble_eq_true rfl) dX11_shift_187 ?_
                                  refine lv_bipush (v := 6) hx hb dX11_shift_188 rfl ?_
                                  refine lv_icmp_ne (tgt := 197) hx hb dX11_shift_190 rfl (fun c_60 => ?_) (fun c_60 => ?_)
                                  · have c_60 : ¬ (kd f).toInt = 6 := zc_ne rfl rfl c_60
                                    refine lv_iconst (v := 0) hx hb dX11_shift_197 rfl ?_
                                    refine lv_istore (lv' := [(9, .int 0), (7, .int 0), (8, .int 0), (6, .int 0), (0, .ref k0), (1, .int (nI f)), (2, .int (nI kk)), (3, .int dx), (4, .int dy), (5, .int (nI rr))]) hx hb dX11_shift_198 hl (Nat.le_of_ble_eq_true rfl) rfl (fun ls hl => ?_)
                                    refine lv_iconst (v := 0) hx hb dX11_shift_200 rfl ?_
                                    refine lv_istore (lv' := [(10, .int 0), (9, .int 0), (7, .int 0), (8, .int 0), (6, .int 0), (0, .ref k0), (1, .int (nI f)), (2, .int (nI kk)), (3, .int dx), (4, .int dy), (5, .int (nI rr))]) hx hb dX11_shift_201 hl (Nat.le_of_ble_eq_true rfl) rfl (fun ls hl => ?_)
                                    have hl_203 : ∀ (n9 : Nat) (k : Nat) (cx1 : Nat → Int32) (cy1 : Nat → Int32) (H : Heap) (locs : List Loc) (ls : Array Slot), n - k < n9 → (k ≤ n) → (cx1 = fgX f k (fun i => shV (kd f).toInt n kk dx rr (cF40 cx f) i) cx) → (cy1 = fgX f k (fun i => shV (kd f).toInt n kk dy rr (cF40 cy f) i) cy) → va_P (dC, dI) classes [(om k0 a (upd (upd I0 35 (nI n)) 36 (kd f)) J0), (oa (a 1) cI 201 kd), (oa (a 5) cI 201 st), (oa (a 7) cI 201 gb), (oa (a 10) cI 201 it), (oa (a 8) cI 201 pa), (oa (a 9) cI 201 pb), (oa (a 2) cI 201 rk), (oa (a 3) cI 201 wd), (oa (a 4) cI 201 tw), (oa (a 6) cZ 201 tn), (oa (a 11) cI 201 mn), (oa (a 12) cI 8040 cx1), (oa (a 13) cI 8040 cy1), (oa (a 27) cI 516 sa), (oa (a 28) cI (4096 * cp) sh), (oa (a 16) cI 514 wh), (oa (a 17) cI 514 of9), (oa (a 18) cI 514 we), (oa (a 32) cI 8 S1), (oa (a 40) cI 6 T0), (oa (a 29) cI 42 P0), (oa (a 30) cI 42 Q0), (oa (a 33) cI 42 ox1), (oa (a 34) cI 42 oy1), (oa (a 37) cZ 201 mt1), (oa (a 38) cZ 201 wi1), (oa (a 39) cZ 8040 ins1), (oa (a 22) cI (64 * cl) la), (oa (a 23) cI (64 * cl) lb), (oa (a 24) cI (64 * cl) lc), (oa (a 25) cI (64 * cl) ld)] H → va_D A [(om k0 a (upd (upd I0 35 (nI n)) 36 (kd f)) J0), (oa (a 1) cI 201 kd), (oa (a 5) cI 201 st), (oa (a 7) cI 201 gb), (oa (a 10) cI 201 it), (oa (a 8) cI 201 pa), (oa (a 9) cI 201 pb), (oa (a 2) cI 201 rk), (oa (a 3) cI 201 wd), (oa (a 4) cI 201 tw), (oa (a 6) cZ 201 tn), (oa (a 11) cI 201 mn), (oa (a 12) cI 8040 cx1), (oa (a 13) cI 8040 cy1), (oa (a 27) cI 516 sa), (oa (a 28) cI (4096 * cp) sh), (oa (a 16) cI 514 wh), (oa (a 17) cI 514 of9), (oa (a 18) cI 514 we), (oa (a 32) cI 8 S1), (oa (a 40) cI 6 T0), (oa (a 29) cI 42 P0), (oa (a 30) cI 42 Q0), (oa (a 33) cI 42 ox1), (oa (a 34) cI 42 oy1), (oa (a 37) cZ 201 mt1), (oa (a 38) cZ 201 wi1), (oa (a 39) cZ 8040 ins1), (oa (a 22) cI (64 * cl) la), (oa (a 23) cI (64 * cl) lb), (oa (a 24) cI (64 * cl) lc), (oa (a 25) cI (64 * cl) ld)] → va_S A s.heap H locs → lv_has ls 13 [(10, .int (nI k)), (9, .int 0), (7, .int 0), (8, .int 0), (6, .int 0), (0, .ref k0), (1, .int (nI f)), (2, .int (nI kk)), (3, .int dx), (4, .int dy), (5, .int (nI rr))] → W p l e ({ frames := 5, cells := 0, slots := 0, locals := 130 } : Room) s m ([.ref k0, .int (nI f), .int (nI kk), .int dx, .int dy, .int (nI rr)] : List Value).toArray below meth c H locs 0 0 Q9 (F0 m 203 ls []) := by
                                      intro n9
                                      induction n9 with
                                      | zero => intro k cx1 cy1 H locs ls hm; exact absurd hm (Nat.not_lt_zero _)
                                      | succ n9 ih_203 =>
                                        intro k cx1 cy1 H locs ls hm hk hcx hcy hP hD hS hl
                                        refine lv_iload hx hb dX11_shift_203 (lv_at hl 0 rfl) ?_
                                        refine lv_aload_n hx hb dX11_shift_205 rfl (lv_at hl 5 rfl) ?_
                                        refine va_get (D := (dC, dI)) (ci := 9) (v := .int (nI n)) (C := RX11) (T := TX11) (N := 55) hx hb hts inX11 hown hK hP 0 rfl rfl 35 (Nat.le_of_ble_eq_true rfl) (hts _ mw_1194) (fun _ h9 => h9) rfl dX11_shift_206 ?_
                                        have b9_62 : zlt (k) := show k < 2147483648 by omega
                                        have b9_63 : zlt (n) := show n < 2147483648 by omega
                                        refine lv_icmp_ge (tgt := 367) hx hb dX11_shift_209 rfl (fun c_61 => ?_) (fun c_61 => ?_)
                                        · have c_61 : ((n : Nat) : Int) ≤ ((k : Nat) : Int) := zc_le (nI_toInt b9_63) (nI_toInt b9_62) c_61
                                          have hkn : k = n := (by omega)
                                          rw [hkn] at hcx hcy
                                          refine lv_aload_n hx hb dX11_shift_367 rfl (lv_at hl 5 rfl) ?_
                                          refine lv_iload_n hx hb dX11_shift_368 rfl (lv_at hl 6 rfl) ?_
                                          obtain ⟨hPc, hDc, hFc, hI1⟩ := zi_sub (wc := [_, _, _, _, _]) hP hD hS hA [0, 12, 13, 23, 24] (by decide +kernel) rfl
                                          refine zcall (st1 := [.int (pI (∃ k, k < n ∧ ¬ ((cx1 (40 * f + k)).toInt = (ox1 k).toInt ∧ (cy1 (40 * f + k)).toInt = (oy1 k).toInt)))]) (va_runV (As := [.int (nI f)]) (rest := []) ⟨hx, hb, hml, hown, hts⟩ (k_M_moves l dC dI cI cZ cF H.size k0 a (upd (upd I0 35 (nI n)) 36 (kd f)) J0 f n cx1 cy1 ox1 oy1 (by first | with_reducible assumption | omega) (rfl) (by first | with_reducible assumption | omega)) (csV_211 hts rfl rfl ⟨Nat.le_of_ble_eq_true rfl, Nat.le_of_ble_eq_true rfl⟩) (zPV2 (q0 := 0) (ci := 9) hPc hDc hK hXN rfl rfl) rfl rfl hl.1 rfl (lv_room (Nat.le_of_ble_eq_true rfl)) dX11_shift_369 ⟨Nat.le_of_ble_eq_true rfl, Nat.le_of_ble_eq_true rfl⟩) hS hFc hFc rfl (fun t H locs ht hB hk1 hS => ?_)
                                          obtain ⟨hP1, hD1⟩ := hB
                                          rw [ht] at hP1
                                          replace hP := z0 hP hD hk1 hP1 hI1
                                          clear hk1 hPc hDc hFc hP1 hD1 ht hI1
                                          refine zz_i (v := pI (mvd n (fun i => shV (kd f).toInt n kk dx rr (cF40 cx f) i) (fun i => shV (kd f).toInt n kk dy rr (cF40 cy f) i) (cF40 cx f) (cF40 cy f))) (zp_iff (mv_iff hcx hcy hox)) ?_
                                          refine lv_if_ne (tgt := 382) hx hb dX11_shift_372 rfl (fun c_64 => ?_) (fun c_64 => ?_)
                                          · have c_64 : mvd n (fun i => shV (kd f).toInt n kk dx rr (cF40 cx f) i) (fun i => shV (kd f).toInt n kk dy rr (cF40 cy f) i) (cF40 cx f) (cF40 cy f) := zp_1 c_64
                                            exfalso; exact absurd (by first | with_reducible assumption | assumption) hmv
                                          · have c_64 : ¬ (mvd n (fun i => shV (kd f).toInt n kk dx rr (cF40 cx f) i) (fun i => shV (kd f).toInt n kk dy rr (cF40 cy f) i) (cF40 cx f) (cF40 cy f)) := zp_0 c_64
                                            refine lv_aload_n hx hb dX11_shift_375 rfl (lv_at hl 5 rfl) ?_
                                            refine lv_bipush (v := 8) hx hb dX11_shift_376 rfl ?_
                                            obtain ⟨hPc, hDc, hFc⟩ := zo_sub (wc := [_]) hP hD hS hA [0] rfl rfl
                                            refine zcall (st1 := [.int 0]) (va_runV (As := [.int 8]) (rest := []) ⟨hx, hb, hml, hown, hts⟩ (k_M_no l dC dI cI cZ cF H.size k0 a (upd (upd I0 35 (nI n)) 36 (kd f)) J0 8 (by decide)) (csV_198 hts rfl rfl ⟨Nat.le_of_ble_eq_true rfl, Nat.le_of_ble_eq_true rfl⟩) (zPV2 (q0 := 0) (ci := 9) hPc hDc hK hXN rfl rfl) rfl rfl hl.1 rfl (lv_room (Nat.le_of_ble_eq_true rfl)) dX11_shift_378 ⟨Nat.le_of_ble_eq_true rfl, Nat.le_of_ble_eq_true rfl⟩) hS hFc hFc rfl (fun t H locs ht hB hk1 hS => ?_)
                                            obtain ⟨hP1, hD1⟩ := hB
                                            rw [ht] at hP1
                                            obtain ⟨hP, hD⟩ := zn (W2 := [(om k0 a (upd (upd (upd (upd I0 14 8) 15 (I0 15)) 35 (nI n)) 36 (kd f)) J0), _, _, _, _, _, _, _, _, _, _, _, _, _, _, _, _, _, _, _, _, _, _, _, _, _, _, _, _, _, _, _]) hP hD hk1 hFc hP1 hD1 [0] zl_183 zl_183 [0] (by decide +kernel) rfl rfl rfl rfl rfl
                                            clear hk1 hPc hDc hFc hP1 hD1 ht
                                            have hsx : fgX f n (fun i => shV (kd f).toInt n kk dx rr (cF40 cx f) i) cx = cx := fgX_same (fun k9 h9 => Classical.byContradiction fun h8 => hmv ⟨k9, h9, fun h7 => h8 h7.1⟩)
                                            have hsy : fgX f n (fun i => shV (kd f).toInt n kk dy rr (cF40 cy f) i) cy = cy := fgX_same (fun k9 h9 => Classical.byContradiction fun h8 => hmv ⟨k9, h9, fun h7 => h8 h7.2⟩)
                                            obtain ⟨hP9, hD9⟩ := zu_sub (wc := [(om k0 a (upd (upd (upd (upd I0 14 8) 15 (I0 15)) 35 (nI n)) 36 (kd f)) J0), (oa (a 1) cI 201 kd), (oa (a 5) cI 201 st), (oa (a 7) cI 201 gb), (oa (a 10) cI 201 it), (oa (a 8) cI 201 pa), (oa (a 9) cI 201 pb), (oa (a 2) cI 201 rk), (oa (a 3) cI 201 wd), (oa (a 4) cI 201 tw), (oa (a 6) cZ 201 tn), (oa (a 11) cI 201 mn), (oa (a 12) cI 8040 cx1), (oa (a 13) cI 8040 cy1), (oa (a 27) cI 516 sa), (oa (a 28) cI (4096 * cp) sh), (oa (a 16) cI 514 wh), (oa (a 17) cI 514 of9), (oa (a 18) cI 514 we), (oa (a 32) cI 8 S1), (oa (a 40) cI 6 T0), (oa (a 29) cI 42 P0), (oa (a 30) cI 42 Q0), (oa (a 33) cI 42 ox1), (oa (a 34) cI 42 oy1), (oa (a 37) cZ 201 mt1), (oa (a 38) cZ 201 wi1), (oa (a 39) cZ 8040 ins1), (oa (a 22) cI (64 * cl) la), (oa (a 23) cI (64 * cl) lb), (oa (a 24) cI (64 * cl) lc), (oa (a 25) cI (64 * cl) ld)]) hP hD (true :: true :: true :: true :: true :: true :: true :: true :: true :: true :: true :: true :: true :: true :: true :: true :: true :: true :: true :: true :: true :: true :: true :: true :: true :: true :: true :: true :: true :: true :: true :: true :: []) rfl rfl
                                            have hE9 : ([(om k0 a (upd (upd (upd (upd I0 14 8) 15 (I0 15)) 35 (nI n)) 36 (kd f)) J0), (oa (a 1) cI 201 kd), (oa (a 5) cI 201 st), (oa (a 7) cI 201 gb), (oa (a 10) cI 201 it), (oa (a 8) cI 201 pa), (oa (a 9) cI 201 pb), (oa (a 2) cI 201 rk), (oa (a 3) cI 201 wd), (oa (a 4) cI 201 tw), (oa (a 6) cZ 201 tn), (oa (a 11) cI 201 mn), (oa (a 12) cI 8040 cx1), (oa (a 13) cI 8040 cy1), (oa (a 27) cI 516 sa), (oa (a 28) cI (4096 * cp) sh), (oa (a 16) cI 514 wh), (oa (a 17) cI 514 of9), (oa (a 18) cI 514 we), (oa (a 32) cI 8 S1), (oa (a 40) cI 6 T0), (oa (a 29) cI 42 P0), (oa (a 30) cI 42 Q0), (oa (a 33) cI 42 ox1), (oa (a 34) cI 42 oy1), (oa (a 37) cZ 201 mt1), (oa (a 38) cZ 201 wi1), (oa (a 39) cZ 8040 ins1), (oa (a 22) cI (64 * cl) la), (oa (a 23) cI (64 * cl) lb), (oa (a 24) cI (64 * cl) lc), (oa (a 25) cI (64 * cl) ld)] : va_W) = [(om k0 a (upd (upd (upd (upd I0 14 8) 15 (I0 15)) 35 (nI n)) 36 (kd f)) J0), (oa (a 1) cI 201 kd), (oa (a 5) cI 201 st), (oa (a 7) cI 201 gb), (oa (a 10) cI 201 it), (oa (a 8) cI 201 pa), (oa (a 9) cI 201 pb), (oa (a 2) cI 201 rk), (oa (a 3) cI 201 wd), (oa (a 4) cI 201 tw), (oa (a 6) cZ 201 tn), (oa (a 11) cI 201 mn), (oa (a 12) cI 8040 cx), (oa (a 13) cI 8040 cy), (oa (a 27) cI 516 sa), (oa (a 28) cI (4096 * cp) sh), (oa (a 16) cI 514 wh), (oa (a 17) cI 514 of9), (oa (a 18) cI 514 we), (oa (a 32) cI 8 S1), (oa (a 40) cI 6 T0), (oa (a 29) cI 42 P0), (oa (a 30) cI 42 Q0), (oa (a 33) cI 42 ox1), (oa (a 34) cI 42 oy1), (oa (a 37) cZ 201 mt1), (oa (a 38) cZ 201 wi1), (oa (a 39) cZ 8040 ins1), (oa (a 22) cI (64 * cl) la), (oa (a 23) cI (64 * cl) lb), (oa (a 24) cI (64 * cl) lc), (oa (a 25) cI (64 * cl) ld)] := by rw [hcx, hcy, hsx, hsy]
                                            rw [hE9] at hP9 hD9
                                            rw [hQ9]
                                            exact W.zret (ty := .boolean) (v := 0) hx hb hr (rfl) (fun t ht hW => ⟨⟨rfl, S1, ox1, oy1, mt1, wi1, ins1, by rw [ht]; exact hP9, hD9⟩, hS.F ht⟩) hS.2.2 dX11_shift_381
                                        · have c_61 : ((k : Nat) : Int) < ((n : Nat) : Int) := zc_nle (nI_toInt b9_63) (nI_toInt b9_62) c_61
                                          have hk9 : k < n := (by omega)
                                          have hwb := wyR_b (kf := (kd f).toInt) hkk hk9
                                          refine lv_aload_n hx hb dX11_shift_212 rfl (lv_at hl 5 rfl) ?_
                                          refine lv_iload_n hx hb dX11_shift_213 rfl (lv_at hl 6 rfl) ?_
                                          refine lv_iload_n hx hb dX11_shift_214 rfl (lv_at hl 7 rfl) ?_
                                          refine lv_iload hx hb dX11_shift_215 (lv_at hl 0 rfl) ?_
                                          obtain ⟨hPc, hDc, hFc, hI1⟩ := zi_sub (wc := [_, _]) hP hD hS hA [0, 1] rfl rfl
                                          refine zcall (st1 := [.int (nI (wyR (kd f).toInt n kk k))]) (va_runV (As := [.int (nI f), .int (nI kk), .int (nI k)]) (rest := []) ⟨hx, hb, hml, hown, hts⟩ (k_M_wayOf l dC dI cI cZ cF H.size k0 a (upd (upd I0 35 (nI n)) 36 (kd f)) J0 f n kk k kd (by first | with_reducible assumption | omega) (by first | with_reducible assumption | omega) (hkk) (by first | with_reducible assumption | omega)) (csV_216 hts rfl rfl ⟨Nat.le_of_ble_eq_true rfl, Nat.le_of_ble_eq_true rfl⟩) (zPV2 (q0 := 0) (ci := 9) hPc hDc hK hXN rfl rfl) rfl rfl hl.1 rfl (lv_room (Nat.le_of_ble_eq_true rfl)) dX11_shift_217 ⟨Nat.le_of_ble_eq_true rfl, Nat.le_of_ble_eq_true rfl⟩) hS hFc hFc rfl (fun t H locs ht hB hk1 hS => ?_)
                                          obtain ⟨hP1, hD1⟩ := hB
                                          rw [ht] at hP1
                                          replace hP := z0 hP hD hk1 hP1 hI1
                                          clear hk1 hPc hDc hFc hP1 hD1 ht hI1
                                          refine lv_istore (lv' := [(11, .int (nI (wyR (kd f).toInt n kk k))), (10, .int (nI k)), (9, .int 0), (7, .int 0), (8, .int 0), (6, .int 0), (0, .ref k0), (1, .int (nI f)), (2, .int (nI kk)), (3, .int dx), (4, .int dy), (5, .int (nI rr))]) hx hb dX11_shift_220 hl (Nat.le_of_ble_eq_true rfl) rfl (fun ls hl => ?_)
                                          refine lv_iload hx hb dX11_shift_222 (lv_at hl 2 rfl) ?_
                                          refine lv_if_ne (tgt := 262) hx hb dX11_shift_224 rfl (fun c_65 => ?_) (fun c_65 => ?_)
                                          · exact absurd (by decide) c_65
                                          · refine lv_iload hx hb dX11_shift_227 (lv_at hl 0 rfl) ?_
                                            refine lv_iload hx hb dX11_shift_229 (lv_at hl 11 rfl) ?_
                                            have b9_67 : zlt ((wyR (kd f).toInt n kk k)) := show (wyR (kd f).toInt n kk k) < 2147483648 by omega
                                            refine lv_icmp_gt (tgt := 258) hx hb dX11_shift_231 rfl (fun c_66 => ?_) (fun c_66 => ?_)
                                            · have c_66 : ((rr : Nat) : Int) < ((wyR (kd f).toInt n kk k : Nat) : Int) := zc_lt (nI_toInt b9_53) (nI_toInt b9_67) c_66
                                              refine lv_iconst (v := 1) hx hb dX11_shift_258 rfl ?_
                                              refine lv_goto (tgt := 263) hx hb dX11_shift_259 rfl ?_
                                              refine lv_istore (lv' := [(12, .int 1), (11, .int (nI (wyR (kd f).toInt n kk k))), (10, .int (nI k)), (9, .int 0), (7, .int 0), (8, .int 0), (6, .int 0), (0, .ref k0), (1, .int (nI f)), (2, .int (nI kk)), (3, .int dx), (4, .int dy), (5, .int (nI rr))]) hx hb dX11_shift_263 hl (Nat.le_of_ble_eq_true rfl) rfl (fun ls hl => ?_)
                                              refine lv_iload hx hb dX11_shift_265 (lv_at hl 0 rfl) ?_
                                              refine lv_if_eq (tgt := 273) hx hb dX11_shift_267 rfl (fun c_68 => ?_) (fun c_68 => ?_)
                                              · exact absurd c_68 (by decide)
                                              · refine lv_goto (tgt := 361) hx hb dX11_shift_270 rfl ?_
                                                refine lv_iinc (v := nI (k + 1)) (lv' := [(10, .int (nI (k + 1))), (12, .int 1), (11, .int (nI (wyR (kd f).toInt n kk k))), (9, .int 0), (7, .int 0), (8, .int 0), (6, .int 0), (0, .ref k0), (1, .int (nI f)), (2, .int (nI kk)), (3, .int dx), (4, .int dy), (5, .int (nI rr))]) hx hb dX11_shift_361 hl (k := 2) rfl (nI_add k 1) (Nat.le_of_ble_eq_true rfl) rfl (fun ls hl => ?_)
                                                refine lv_goto (tgt := 203) hx hb dX11_shift_364 rfl ?_
                                                exact ih_203 (k + 1) cx1 cy1 H locs ls (by first | with_reducible assumption | omega) (by first | with_reducible assumption | omega) (by first | exact fgX_u hcx (shV_f (by first | with_reducible assumption | assumption)) | exact fgX_k hcx (shV_t (X := cF40 cx f) (by first | exact Or.inl (by first | with_reducible assumption | omega) | exact Or.inr ⟨by assumption, by omega⟩))) (by first | exact fgX_u hcy (shV_f (by first | with_reducible assumption | assumption)) | exact fgX_k hcy (shV_t (X := cF40 cy f) (by first | exact Or.inl (by first | with_reducible assumption | omega) | exact Or.inr ⟨by assumption, by omega⟩))) hP hD hS (lv_sub hl [0, 3, 4, 5, 6, 7, 8, 9, 10, 11, 12] rfl)
                                            · have c_66 : ((wyR (kd f).toInt n kk k : Nat) : Int) ≤ ((rr : Nat) : Int) := zc_nlt (nI_toInt b9_53) (nI_toInt b9_67) c_66
                                              refine lv_aload_n hx hb dX11_shift_234 rfl (lv_at hl 6 rfl) ?_
                                              refine lv_iload_n hx hb dX11_shift_235 rfl (lv_at hl 7 rfl) ?_
                                              obtain ⟨hPc, hDc, hFc, hI1⟩ := zi_sub (wc := [_, _]) hP hD hS hA [0, 1] rfl rfl
                                              refine zcall (st1 := [.int (pI (5 ≤ (kd f).toInt))]) (va_runV (As := [.int (nI f)]) (rest := []) ⟨hx, hb, hml, hown, hts⟩ (k_M_isRing l dC dI cI cZ cF H.size k0 a (upd (upd I0 35 (nI n)) 36 (kd f)) J0 f kd (by first | with_reducible assumption | omega)) (csV_165 hts rfl rfl ⟨Nat.le_of_ble_eq_true rfl, Nat.le_of_ble_eq_true rfl⟩) (zPV2 (q0 := 0) (ci := 9) hPc hDc hK hXN rfl rfl) rfl rfl hl.1 rfl (lv_room (Nat.le_of_ble_eq_true rfl)) dX11_shift_236 ⟨Nat.le_of_ble_eq_true rfl, Nat.le_of_ble_eq_true rfl⟩) hS hFc hFc rfl (fun t H locs ht hB hk1 hS => ?_)
                                              obtain ⟨hP1, hD1⟩ := hB
                                              rw [ht] at hP1
                                              replace hP := z0 hP hD hk1 hP1 hI1
                                              clear hk1 hPc hDc hFc hP1 hD1 ht hI1
                                              refine lv_if_ne (tgt := 262) hx hb dX11_shift_239 rfl (fun c_69 => ?_) (fun c_69 => ?_)
                                              · have c_69 : 5 ≤ (kd f).toInt := zp_1 c_69
                                                refine lv_iconst (v := 0) hx hb dX11_shift_262 rfl ?_
                                                refine lv_istore (lv' := [(12, .int 0), (11, .int (nI (wyR (kd f).toInt n kk k))), (10, .int (nI k)), (9, .int 0), (7, .int 0), (8, .int 0), (6, .int 0), (0, .ref k0), (1, .int (nI f)), (2, .int (nI kk)), (3, .int dx), (4, .int dy), (5, .int (nI rr))]) hx hb dX11_shift_263 hl (Nat.le_of_ble_eq_true rfl) rfl (fun ls hl => ?_)
                                                refine lv_iload hx hb dX11_shift_265 (lv_at hl 0 rfl) ?_
                                                refine lv_if_eq (tgt := 273) hx hb dX11_shift_267 rfl (fun c_70 => ?_) (fun c_70 => ?_)
                                                · have hst9 : ¬ (rr < wyR (kd f).toInt n kk k ∨ (¬ 5 ≤ (kd f).toInt ∧ (k = 0 ∨ k = n - 1))) := (by first | exact fun h => h.elim (fun h => by omega) (fun h => absurd (by first | with_reducible assumption | assumption) h.1) | exact fun h => h.elim (fun h => by omega) (fun h => by omega))
                                                  have hwy : wyR (kd f).toInt n kk k ≤ rr := (by have := hst9; omega)
                                                  refine lv_aload_n hx hb dX11_shift_273 rfl (lv_at hl 7 rfl) ?_
                                                  refine va_get (D := (dC, dI)) (ci := 9) (v := .ref (a 12)) (C := RX11) (T := TX11) (N := 55) hx hb hts inX11 hown hK hP 0 rfl rfl 12 (Nat.le_of_ble_eq_true rfl) (hts _ mw_1171) (fun _ h9 => h9) rfl dX11_shift_274 ?_
                                                  refine lv_bipush (v := 40) hx hb dX11_shift_277 rfl ?_
                                                  refine lv_iload_n hx hb dX11_shift_279 rfl (lv_at hl 8 rfl) ?_
                                                  refine lv_imul hx hb dX11_shift_280 ?_
                                                  refine zz_i (v := nI (40 * f)) (pk_mul 40 f) ?_
                                                  refine lv_iload hx hb dX11_shift_281 (lv_at hl 2 rfl) ?_
                                                  refine lv_iadd hx hb dX11_shift_283 ?_
                                                  refine zz_i (v := nI (40 * f + k)) (nI_add (40 * f) k) ?_
                                                  refine lv_aload_n hx hb dX11_shift_284 rfl (lv_at hl 7 rfl) ?_
                                                  refine va_get (D := (dC, dI)) (ci := 9) (v := .ref (a 33)) (C := RX11) (T := TX11) (N := 55) hx hb hts inX11 hown hK hP 0 rfl rfl 33 (Nat.le_of_ble_eq_true rfl) (hts _ mw_1192) (fun _ h9 => h9) rfl dX11_shift_285 ?_
                                                  refine lv_iload hx hb dX11_shift_288 (lv_at hl 2 rfl) ?_
                                                  have b9_71 : k < 42 := by omega
                                                  refine z_iald hx hb hK hP 23 0 rfl rfl (e := k) rfl b9_71 (Nat.le_of_ble_eq_true rfl) dX11_shift_290 ?_
                                                  refine zz_i (v := cF40 cx f k) ((hox _ hk9).1) ?_
                                                  refine lv_iload hx hb dX11_shift_291 (lv_at hl 3 rfl) ?_
                                                  refine lv_if_eq (tgt := 300) hx hb dX11_shift_293 rfl (fun c_72 => ?_) (fun c_72 => ?_)
                                                  · refine lv_iload_n hx hb dX11_shift_300 rfl (lv_at hl 10 rfl) ?_
                                                    refine lv_iload hx hb dX11_shift_301 (lv_at hl 12 rfl) ?_
                                                    refine lv_iconst (v := 1) hx hb dX11_shift_303 rfl ?_
                                                    refine lv_iadd hx hb dX11_shift_304 ?_
                                                    refine zz_i (v := nI (rr + 1)) (nI_add rr 1) ?_
                                                    refine lv_iload hx hb dX11_shift_305 (lv_at hl 1 rfl) ?_
                                                    refine lv_isub hx hb dX11_shift_307 ?_
                                                    refine zz_i (v := nI ((rr + 1) - (wyR (kd f).toInt n kk k))) (pk_sub (a := rr + 1) (b := wyR (kd f).toInt n kk k) (by omega)) ?_
                                                    refine lv_imul hx hb dX11_shift_308 ?_
                                                    refine lv_iload hx hb dX11_shift_309 (lv_at hl 12 rfl) ?_
                                                    refine lv_iconst (v := 1) hx hb dX11_shift_311 rfl ?_
                                                    refine lv_iadd hx hb dX11_shift_312 ?_
                                                    refine zz_i (v := nI (rr + 1)) (nI_add rr 1) ?_
                                                    refine lv_idiv hx hb dX11_shift_313 (nI_ne0 (by omega) (by omega)) ?_
                                                    refine lv_iadd hx hb dX11_shift_314 ?_
                                                    have b9_73 : 40 * f + k < 8040 := by omega
                                                    refine z_iast hx hb hK hP hD hS 12 0 rfl rfl (e := 40 * f + k) (x := (cF40 cx f k) + ((dx * (nI ((rr + 1) - (wyR (kd f).toInt n kk k)))) / (nI (rr + 1)))) rfl b9_73 (Nat.le_of_ble_eq_true rfl) dX11_shift_315 (fun H locs hP hD hS => ?_)
                                                    obtain ⟨hP, hD⟩ := zre (W2 := [_, _, _, _, _, _, _, _, _, _, _, _, (oa (a 12) cI 8040 (upd cx1 (40 * f + k) ((cF40 cx f k) + ((dx * (nI ((rr + 1) - (wyR (kd f).toInt n kk k)))) / (nI (rr + 1)))))), _, _, _, _, _, _, _, _, _, _, _, _, _, _, _, _, _, _, _]) hP hD rfl
                                                    refine lv_aload_n hx hb dX11_shift_316 rfl (lv_at hl 7 rfl) ?_
                                                    refine va_get (D := (dC, dI)) (ci := 9) (v := .ref (a 13)) (C := RX11) (T := TX11) (N := 55) hx hb hts inX11 hown hK hP 0 rfl rfl 13 (Nat.le_of_ble_eq_true rfl) (hts _ mw_1172) (fun _ h9 => h9) rfl dX11_shift_317 ?_
                                                    refine lv_bipush (v := 40) hx hb dX11_shift_320 rfl ?_
                                                    refine lv_iload_n hx hb dX11_shift_322 rfl (lv_at hl 8 rfl) ?_
                                                    refine lv_imul hx hb dX11_shift_323 ?_
                                                    refine zz_i (v := nI (40 * f)) (pk_mul 40 f) ?_
                                                    refine lv_iload hx hb dX11_shift_324 (lv_at hl 2 rfl) ?_
                                                    refine lv_iadd hx hb dX11_shift_326 ?_
                                                    refine zz_i (v := nI (40 * f + k)) (nI_add (40 * f) k) ?_
                                                    refine lv_aload_n hx hb dX11_shift_327 rfl (lv_at hl 7 rfl) ?_
                                                    refine va_get (D := (dC, dI)) (ci := 9) (v := .ref (a 34)) (C := RX11) (T := TX11) (N := 55) hx hb hts inX11 hown hK hP 0 rfl rfl 34 (Nat.le_of_ble_eq_true rfl) (hts _ mw_1193) (fun _ h9 => h9) rfl dX11_shift_328 ?_
                                                    refine lv_iload hx hb dX11_shift_331 (lv_at hl 2 rfl) ?_
                                                    refine z_iald hx hb hK hP 24 0 rfl rfl (e := k) rfl b9_71 (Nat.le_of_ble_eq_true rfl) dX11_shift_333 ?_
                                                    refine zz_i (v := cF40 cy f k) ((hox _ hk9).2) ?_
                                                    refine lv_iload hx hb dX11_shift_334 (lv_at hl 3 rfl) ?_
                                                    refine lv_if_eq (tgt := 344) hx hb dX11_shift_336 rfl (fun c_74 => ?_) (fun c_74 => ?_)
                                                    · refine lv_iload hx hb dX11_shift_344 (lv_at hl 11 rfl) ?_
                                                      refine lv_iload hx hb dX11_shift_346 (lv_at hl 12 rfl) ?_
                                                      refine lv_iconst (v := 1) hx hb dX11_shift_348 rfl ?_
                                                      refine lv_iadd hx hb dX11_shift_349 ?_
                                                      refine zz_i (v := nI (rr + 1)) (nI_add rr 1) ?_
                                                      refine lv_iload hx hb dX11_shift_350 (lv_at hl 1 rfl) ?_
                                                      refine lv_isub hx hb dX11_shift_352 ?_
                                                      refine zz_i (v := nI ((rr + 1) - (wyR (kd f).toInt n kk k))) (pk_sub (a := rr + 1) (b := wyR (kd f).toInt n kk k) (by omega)) ?_
                                                      refine lv_imul hx hb dX11_shift_353 ?_
                                                      refine lv_iload hx hb dX11_shift_354 (lv_at hl 12 rfl) ?_
                                                      refine lv_iconst (v := 1) hx hb dX11_shift_356 rfl ?_
                                                      refine lv_iadd hx hb dX11_shift_357 ?_
                                                      refine zz_i (v := nI (rr + 1)) (nI_add rr 1) ?_
                                                      refine lv_idiv hx hb dX11_shift_358 (nI_ne0 (by omega) (by omega)) ?_
                                                      refine lv_iadd hx hb dX11_shift_359 ?_
                                                      refine z_iast hx hb hK hP hD hS 13 0 rfl rfl (e := 40 * f + k) (x := (cF40 cy f k) + ((dy * (nI ((rr + 1) - (wyR (kd f).toInt n kk k)))) / (nI (rr + 1)))) rfl b9_73 (Nat.le_of_ble_eq_true rfl) dX11_shift_360 (fun H locs hP hD hS => ?_)
                                                      obtain ⟨hP, hD⟩ := zre (W2 := [_, _, _, _, _, _, _, _, _, _, _, _, _, (oa (a 13) cI 8040 (upd cy1 (40 * f + k) ((cF40 cy f k) + ((dy * (nI ((rr + 1) - (wyR (kd f).toInt n kk k)))) / (nI (rr + 1)))))), _, _, _, _, _, _, _, _, _, _, _, _, _, _, _, _, _, _]) hP hD rfl
                                                      refine lv_iinc (v := nI (k + 1)) (lv' := [(10, .int (nI (k + 1))), (12, .int 0), (11, .int (nI (wyR (kd f).toInt n kk k))), (9, .int 0), (7, .int 0), (8, .int 0), (6, .int 0), (0, .ref k0), (1, .int (nI f)), (2, .int (nI kk)), (3, .int dx), (4, .int dy), (5, .int (nI rr))]) hx hb dX11_shift_361 hl (k := 2) rfl (nI_add k 1) (Nat.le_of_ble_eq_true rfl) rfl (fun ls hl => ?_)
                                                      refine lv_goto (tgt := 203) hx hb dX11_shift_364 rfl ?_
                                                      exact ih_203 (k + 1) (upd cx1 (40 * f + k) ((cF40 cx f k) + ((dx * (nI ((rr + 1) - (wyR (kd f).toInt n kk k)))) / (nI (rr + 1))))) (upd cy1 (40 * f + k) ((cF40 cy f k) + ((dy * (nI ((rr + 1) - (wyR (kd f).toInt n kk k)))) / (nI (rr + 1))))) H locs ls (by first | with_reducible assumption | omega) (by first | with_reducible assumption | omega) (by first | exact fgX_u hcx (shV_f (by first | with_reducible assumption | assumption)) | exact fgX_k hcx (shV_t (X := cF40 cx f) (by first | exact Or.inl (by first | with_reducible assumption | omega) | exact Or.inr ⟨by assumption, by omega⟩))) (by first | exact fgX_u hcy (shV_f (by first | with_reducible assumption | assumption)) | exact fgX_k hcy (shV_t (X := cF40 cy f) (by first | exact Or.inl (by first | with_reducible assumption | omega) | exact Or.inr ⟨by assumption, by omega⟩))) hP hD hS (lv_sub hl [0, 3, 4, 5, 6, 7, 8, 9, 10, 11, 12] rfl)
                                                    · exact absurd (by decide) c_74
                                                  · exact absurd (by decide) c_72
                                                · exact absurd (by decide) c_70
                                              · have c_69 : ¬ (5 ≤ (kd f).toInt) := zp_0 c_69
                                                refine lv_iload hx hb dX11_shift_242 (lv_at hl 1 rfl) ?_
                                                refine lv_if_eq (tgt := 258) hx hb dX11_shift_244 rfl (fun c_75 => ?_) (fun c_75 => ?_)
                                                · have c_75 : ((k : Nat) : Int) = 0 := zc_eq (nI_toInt b9_62) rfl c_75
                                                  refine lv_iconst (v := 1) hx hb dX11_shift_258 rfl ?_
                                                  refine lv_goto (tgt := 263) hx hb dX11_shift_259 rfl ?_
                                                  refine lv_istore (lv' := [(12, .int 1), (11, .int (nI (wyR (kd f).toInt n kk k))), (10, .int (nI k)), (9, .int 0), (7, .int 0), (8, .int 0), (6, .int 0), (0, .ref k0), (1, .int (nI f)), (2, .int (nI kk)), (3, .int dx), (4, .int dy), (5, .int (nI rr))]) hx hb dX11_shift_263 hl (Nat.le_of_ble_eq_true rfl) rfl (fun ls hl => ?_)
                                                  refine lv_iload hx hb dX11_shift_265 (lv_at hl 0 rfl) ?_
                                                  refine lv_if_eq (tgt := 273) hx hb dX11_shift_267 rfl (fun c_76 => ?_) (fun c_76 => ?_)
                                                  · exact absurd c_76 (by decide)
                                                  · refine lv_goto (tgt := 361) hx hb dX11_shift_270 rfl ?_
                                                    refine lv_iinc (v := nI (k + 1)) (lv' := [(10, .int (nI (k + 1))), (12, .int 1), (11, .int (nI (wyR (kd f).toInt n kk k))), (9, .int 0), (7, .int 0), (8, .int 0), (6, .int 0), (0, .ref k0), (1, .int (nI f)), (2, .int (nI kk)), (3, .int dx), (4, .int dy), (5, .int (nI rr))]) hx hb dX11_shift_361 hl (k := 2) rfl (nI_add k 1) (Nat.le_of_ble_eq_true rfl) rfl (fun ls hl => ?_)
                                                    refine lv_goto (tgt := 203) hx hb dX11_shift_364 rfl ?_
                                                    exact ih_203 (k + 1) cx1 cy1 H locs ls (by first | with_reducible assumption | omega) (by first | with_reducible assumption | omega) (by first | exact fgX_u hcx (shV_f (by first | with_reducible assumption | assumption)) | exact fgX_k hcx (shV_t (X := cF40 cx f) (by first | exact Or.inl (by first | with_reducible assumption | omega) | exact Or.inr ⟨by assumption, by omega⟩))) (by first | exact fgX_u hcy (shV_f (by first | with_reducible assumption | assumption)) | exact fgX_k hcy (shV_t (X := cF40 cy f) (by first | exact Or.inl (by first | with_reducible assumption | omega) | exact Or.inr ⟨by assumption, by omega⟩))) hP hD hS (lv_sub hl [0, 3, 4, 5, 6, 7, 8, 9, 10, 11, 12] rfl)
                                                · have c_75 : ¬ ((k : Nat) : Int) = 0 := zc_ne (nI_toInt b9_62) rfl c_75
                                                  refine lv_iload hx hb dX11_shift_247 (lv_at hl 1 rfl) ?_
                                                  refine lv_aload_n hx hb dX11_shift_249 rfl (lv_at hl 6 rfl) ?_
                                                  refine va_get (D := (dC, dI)) (ci := 9) (v := .int (nI n)) (C := RX11) (T := TX11) (N := 55) hx hb hts inX11 hown hK hP 0 rfl rfl 35 (Nat.le_of_ble_eq_true rfl) (hts _ mw_1194) (fun _ h9 => h9) rfl dX11_shift_250 ?_
                                                  refine lv_iconst (v := 1) hx hb dX11_shift_253 rfl ?_
                                                  refine lv_isub hx hb dX11_shift_254 ?_
                                                  refine zz_i (v := nI (n - 1)) (pk_sub (a := n) (b := 1) (by omega)) ?_
                                                  have b9_78 : zlt ((n - 1)) := show (n - 1) < 2147483648 by omega
                                                  refine lv_icmp_ne (tgt := 262) hx hb dX11_shift_255 rfl (fun c_77 => ?_) (fun c_77 => ?_)
                                                  · have c_77 : ¬ ((k : Nat) : Int) = ((n - 1 : Nat) : Int) := zc_ne (nI_toInt b9_62) (nI_toInt b9_78) c_77
                                                    refine lv_iconst (v := 0) hx hb dX11_shift_262 rfl ?_
                                                    refine lv_istore (lv' := [(12, .int 0), (11, .int (nI (wyR (kd f).toInt n kk k))), (10, .int (nI k)), (9, .int 0), (7, .int 0), (8, .int 0), (6, .int 0), (0, .ref k0), (1, .int (nI f)), (2, .int (nI kk)), (3, .int dx), (4, .int dy), (5, .int (nI rr))]) hx hb dX11_shift_263 hl (Nat.le_of_ble_eq_true rfl) rfl (fun ls hl => ?_)
                                                    refine lv_iload hx hb dX11_shift_265 (lv_at hl 0 rfl) ?_
                                                    refine lv_if_eq (tgt := 273) hx hb dX11_shift_267 rfl (fun c_79 => ?_) (fun c_79 => ?_)
                                                    · have hst9 : ¬ (rr < wyR (kd f).toInt n kk k ∨ (¬ 5 ≤ (kd f).toInt ∧ (k = 0 ∨ k = n - 1))) := (by first | exact fun h => h.elim (fun h => by omega) (fun h => absurd (by first | with_reducible assumption | assumption) h.1) | exact fun h => h.elim (fun h => by omega) (fun h => by omega))
                                                      have hwy : wyR (kd f).toInt n kk k ≤ rr := (by have := hst9; omega)
                                                      refine lv_aload_n hx hb dX11_shift_273 rfl (lv_at hl 7 rfl) ?_
                                                      refine va_get (D := (dC, dI)) (ci := 9) (v := .ref (a 12)) (C := RX11) (T := TX11) (N := 55) hx hb hts inX11 hown hK hP 0 rfl rfl 12 (Nat.le_of_ble_eq_true rfl) (hts _ mw_1171) (fun _ h9 => h9) rfl dX11_shift_274 ?_
                                                      refine lv_bipush (v := 40) hx hb dX11_shift_277 rfl ?_
                                                      refine lv_iload_n hx hb dX11_shift_279 rfl (lv_at hl 8 rfl) ?_
                                                      refine lv_imul hx hb dX11_shift_280 ?_
                                                      refine zz_i (v := nI (40 * f)) (pk_mul 40 f) ?_
                                                      refine lv_iload hx hb dX11_shift_281 (lv_at hl 2 rfl) ?_
                                                      refine lv_iadd hx hb dX11_shift_283 ?_
                                                      refine zz_i (v := nI (40 * f + k)) (nI_add (40 * f) k) ?_
                                                      refine lv_aload_n hx hb dX11_shift_284 rfl (lv_at hl 7 rfl) ?_
                                                      refine va_get (D := (dC, dI)) (ci := 9) (v := .ref (a 33)) (C := RX11) (T := TX11) (N := 55) hx hb hts inX11 hown hK hP 0 rfl rfl 33 (Nat.le_of_ble_eq_true rfl) (hts _ mw_1192) (fun _ h9 => h9) rfl dX11_shift_285 ?_
                                                      refine lv_iload hx hb dX11_shift_288 (lv_at hl 2 rfl) ?_
                                                      have b9_80 : k < 42 := by omega
                                                      refine z_iald hx hb hK hP 23 0 rfl rfl (e := k) rfl b9_80 (Nat.le_of_ble_eq_true rfl) dX11_shift_290 ?_
                                                      refine zz_i (v := cF40 cx f k) ((hox _ hk9).1) ?_
                                                      refine lv_iload hx hb dX11_shift_291 (lv_at hl 3 rfl) ?_
                                                      refine lv_if_eq (tgt := 300) hx hb dX11_shift_293 rfl (fun c_81 => ?_) (fun c_81 => ?_)
                                                      · refine lv_iload_n hx hb dX11_shift_300 rfl (lv_at hl 10 rfl) ?_
                                                        refine lv_iload hx hb dX11_shift_301 (lv_at hl 12 rfl) ?_
                                                        refine lv_iconst (v := 1) hx hb dX11_shift_303 rfl ?_
                                                        refine lv_iadd hx hb dX11_shift_304 ?_
                                                        refine zz_i (v := nI (rr + 1)) (nI_add rr 1) ?_
                                                        refine lv_iload hx hb dX11_shift_305 (lv_at hl 1 rfl) ?_
                                                        refine lv_isub hx hb dX11_shift_307 ?_
                                                        refine zz_i (v := nI ((rr + 1) - (wyR (kd f).toInt n kk k))) (pk_sub (a := rr + 1) (b := wyR (kd f).toInt n kk k) (by omega)) ?_
                                                        refine lv_imul hx hb dX11_shift_308 ?_
                                                        refine lv_iload hx hb dX11_shift_309 (lv_at hl 12 rfl) ?_
                                                        refine lv_iconst (v := 1) hx hb dX11_shift_311 rfl ?_
                                                        refine lv_iadd hx hb dX11_shift_312 ?_
                                                        refine zz_i (v := nI (rr + 1)) (nI_add rr 1) ?_
                                                        refine lv_idiv hx hb dX11_shift_313 (nI_ne0 (by omega) (by omega)) ?_
                                                        refine lv_iadd hx hb dX11_shift_314 ?_
                                                        have b9_82 : 40 * f + k < 8040 := by omega
                                                        refine z_iast hx hb hK hP hD hS 12 0 rfl rfl (e := 40 * f + k) (x := (cF40 cx f k) + ((dx * (nI ((rr + 1) - (wyR (kd f).toInt n kk k)))) / (nI (rr + 1)))) rfl b9_82 (Nat.le_of_ble_eq_true rfl) dX11_shift_315 (fun H locs hP hD hS => ?_)
                                                        obtain ⟨hP, hD⟩ := zre (W2 := [_, _, _, _, _, _, _, _, _, _, _, _, (oa (a 12) cI 8040 (upd cx1 (40 * f + k) ((cF40 cx f k) + ((dx * (nI ((rr + 1) - (wyR (kd f).toInt n kk k)))) / (nI (rr + 1)))))), _, _, _, _, _, _, _, _, _, _, _, _, _, _, _, _, _, _, _]) hP hD rfl
                                                        refine lv_aload_n hx hb dX11_shift_316 rfl (lv_at hl 7 rfl) ?_
                                                        refine va_get (D := (dC, dI)) (ci := 9) (v := .ref (a 13)) (C := RX11) (T := TX11) (N := 55) hx hb hts inX11 hown hK hP 0 rfl rfl 13 (Nat.le_of_ble_eq_true rfl) (hts _ mw_1172) (fun _ h9 => h9) rfl dX11_shift_317 ?_
                                                        refine lv_bipush (v := 40) hx hb dX11_shift_320 rfl ?_
                                                        refine lv_iload_n hx hb dX11_shift_322 rfl (lv_at hl 8 rfl) ?_
                                                        refine lv_imul hx hb dX11_shift_323 ?_
                                                        refine zz_i (v := nI (40 * f)) (pk_mul 40 f) ?_
                                                        refine lv_iload hx hb dX11_shift_324 (lv_at hl 2 rfl) ?_
                                                        refine lv_iadd hx hb dX11_shift_326 ?_
                                                        refine zz_i (v := nI (40 * f + k)) (nI_add (40 * f) k) ?_
                                                        refine lv_aload_n hx hb dX11_shift_327 rfl (lv_at hl 7 rfl) ?_
                                                        refine va_get (D := (dC, dI)) (ci := 9) (v := .ref (a 34)) (C := RX11) (T := TX11) (N := 55) hx hb hts inX11 hown hK hP 0 rfl rfl 34 (Nat.le_of_ble_eq_true rfl) (hts _ mw_1193) (fun _ h9 => h9) rfl dX11_shift_328 ?_
                                                        refine lv_iload hx hb dX11_shift_331 (lv_at hl 2 rfl) ?_
                                                        refine z_iald hx hb hK hP 24 0 rfl rfl (e := k) rfl b9_80 (Nat.le_of_ble_eq_true rfl) dX11_shift_333 ?_
                                                        refine zz_i (v := cF40 cy f k) ((hox _ hk9).2) ?_
                                                        refine lv_iload hx hb dX11_shift_334 (lv_at hl 3 rfl) ?_
                                                        refine lv_if_eq (tgt := 344) hx hb dX11_shift_336 rfl (fun c_83 => ?_) (fun c_83 => ?_)
                                                        · refine lv_iload hx hb dX11_shift_344 (lv_at hl 11 rfl) ?_
                                                          refine lv_iload hx hb dX11_shift_346 (lv_at hl 12 rfl) ?_
                                                          refine lv_iconst (v := 1) hx hb dX11_shift_348 rfl ?_
                                                          refine lv_iadd hx hb dX11_shift_349 ?_
                                                          refine zz_i (v := nI (rr + 1)) (nI_add rr 1) ?_
                                                          refine lv_iload hx hb dX11_shift_350 (lv_at hl 1 rfl) ?_
                                                          refine lv_isub hx hb dX11_shift_352 ?_
                                                          refine zz_i (v := nI ((rr + 1) - (wyR (kd f).toInt n kk k))) (pk_sub (a := rr + 1) (b := wyR (kd f).toInt n kk k) (by omega)) ?_
                                                          refine lv_imul hx hb dX11_shift_353 ?_
                                                          refine lv_iload hx hb dX11_shift_354 (lv_at hl 12 rfl) ?_
                                                          refine lv_iconst (v := 1) hx hb dX11_shift_356 rfl ?_
                                                          refine lv_iadd hx hb dX11_shift_357 ?_
                                                          refine zz_i (v := nI (rr + 1)) (nI_add rr 1) ?_
                                                          refine lv_idiv hx hb dX11_shift_358 (nI_ne0 (by omega) (by omega)) ?_
                                                          refine lv_iadd hx hb dX11_shift_359 ?_
                                                          refine z_iast hx hb hK hP hD hS 13 0 rfl rfl (e := 40 * f + k) (x := (cF40 cy f k) + ((dy * (nI ((rr + 1) - (wyR (kd f).toInt n kk k)))) / (nI (rr + 1)))) rfl b9_82 (Nat.le_of_ble_eq_true rfl) dX11_shift_360 (fun H locs hP hD hS => ?_)
                                                          obtain ⟨hP, hD⟩ := zre (W2 := [_, _, _, _, _, _, _, _, _, _, _, _, _, (oa (a 13) cI 8040 (upd cy1 (40 * f + k) ((cF40 cy f k) + ((dy * (nI ((rr + 1) - (wyR (kd f).toInt n kk k)))) / (nI (rr + 1)))))), _, _, _, _, _, _, _, _, _, _, _, _, _, _, _, _, _, _]) hP hD rfl
                                                          refine lv_iinc (v := nI (k + 1)) (lv' := [(10, .int (nI (k + 1))), (12, .int 0), (11, .int (nI (wyR (kd f).toInt n kk k))), (9, .int 0), (7, .int 0), (8, .int 0), (6, .int 0), (0, .ref k0), (1, .int (nI f)), (2, .int (nI kk)), (3, .int dx), (4, .int dy), (5, .int (nI rr))]) hx hb dX11_shift_361 hl (k := 2) rfl (nI_add k 1) (Nat.le_of_ble_eq_true rfl) rfl (fun ls hl => ?_)
                                                          refine lv_goto (tgt := 203) hx hb dX11_shift_364 rfl ?_
                                                          exact ih_203 (k + 1) (upd cx1 (40 * f + k) ((cF40 cx f k) + ((dx * (nI ((rr + 1) - (wyR (kd f).toInt n kk k)))) / (nI (rr + 1))))) (upd cy1 (40 * f + k) ((cF40 cy f k) + ((dy * (nI ((rr + 1) - (wyR (kd f).toInt n kk k)))) / (nI (rr + 1))))) H locs ls (by first | with_reducible assumption | omega) (by first | with_reducible assumption | omega) (by first | exact fgX_u hcx (shV_f (by first | with_reducible assumption | assumption)) | exact fgX_k hcx (shV_t (X := cF40 cx f) (by first | exact Or.inl (by first | with_reducible assumption | omega) | exact Or.inr ⟨by assumption, by omega⟩))) (by first | exact fgX_u hcy (shV_f (by first | with_reducible assumption | assumption)) | exact fgX_k hcy (shV_t (X := cF40 cy f) (by first | exact Or.inl (by first | with_reducible assumption | omega) | exact Or.inr ⟨by assumption, by omega⟩))) hP hD hS (lv_sub hl [0, 3, 4, 5, 6, 7, 8, 9, 10, 11, 12] rfl)
                                                        · exact absurd (by decide) c_83
                                                      · exact absurd (by decide) c_81
                                                    · exact absurd (by decide) c_79
                                                  · have c_77 : ((k : Nat) : Int) = ((n - 1 : Nat) : Int) := zc_eq (nI_toInt b9_62) (nI_toInt b9_78) c_77
                                                    refine lv_iconst (v := 1) hx hb dX11_shift_258 rfl ?_
                                                    refine lv_goto (tgt := 263) hx hb dX11_shift_259 rfl ?_
                                                    refine lv_istore (lv' := [(12, .int 1), (11, .int (nI (wyR (kd f).toInt n kk k))), (10, .int (nI k)), (9, .int 0), (7, .int 0), (8, .int 0), (6, .int 0), (0, .ref k0), (1, .int (nI f)), (2, .int (nI kk)), (3, .int dx), (4, .int dy), (5, .int (nI rr))]) hx hb dX11_shift_263 hl (Nat.le_of_ble_eq_true rfl) rfl (fun ls hl => ?_)
                                                    refine lv_iload hx hb dX11_shift_265 (lv_at hl 0 rfl) ?_
                                                    refine lv_if_eq (tgt := 273) hx hb dX11_shift_267 rfl (fun c_84 => ?_) (fun c_84 => ?_)
                                                    · exact absurd c_84 (by decide)
                                                    · refine lv_goto (tgt := 361) hx hb dX11_shift_270 rfl ?_
                                                      refine lv_iinc (v := nI (k + 1)) (lv' := [(10, .int (nI (k + 1))), (12, .int 1), (11, .int (nI (wyR (kd f).toInt n kk k))), (9, .int 0), (7, .int 0), (8, .int 0), (6, .int 0), (0, .ref k0), (1, .int (nI f)), (2, .int (nI kk)), (3, .int dx), (4, .int dy), (5, .int (nI rr))]) hx hb dX11_shift_361 hl (k := 2) rfl (nI_add k 1) (Nat.le_of_ble_eq_true rfl) rfl (fun ls hl => ?_)
                                                      refine lv_goto (tgt := 203) hx hb dX11_shift_364 rfl ?_
                                                      exact ih_203 (k + 1) cx1 cy1 H locs ls (by first | with_reducible assumption | omega) (by first | with_reducible assumption | omega) (by first | exact fgX_u hcx (shV_f (by first | with_reducible assumption | assumption)) | exact fgX_k hcx (shV_t (X := cF40 cx f) (by first | exact Or.inl (by first | with_reducible assumption | omega) | exact Or.inr ⟨by assumption, by omega⟩))) (by first | exact fgX_u hcy (shV_f (by first | with_reducible assumption | assumption)) | exact fgX_k hcy (shV_t (X := cF40 cy f) (by first | exact Or.inl (by first | with_reducible assumption | omega) | exact Or.inr ⟨by assumption, by omega⟩))) hP hD hS (lv_sub hl [0, 3, 4, 5, 6, 7, 8, 9, 10, 11, 12] rfl)
                                    exact hl_203 _ 0 cx cy H locs ls (Nat.lt_succ_self _) (by first | with_reducible assumption | omega) (fgX_0 _ _ _) (fgX_0 _ _ _) hP hD hS (lv_sub hl [0, 1, 2, 3, 4, 5, 6, 7, 8, 9, 10] rfl)
                                  · have c_60 : (kd f).toInt = 6 := zc_eq rfl rfl c_60
                                    exfalso; omega
                              · exact absurd (by decide) c_58
                            · have c_57 : ¬ (tn f).toInt = 0 := zc_ne rfl rfl c_57
                              exfalso; omega
                          · exact absurd (by decide) c_56
                        · exact absurd (by decide) c_55
                      · have c_54 : 20 < ((rr : Nat) : Int) := zc_nle (nI_toInt b9_53) rfl c_54
                        exfalso; omega
          · have c_47 : ¬ (st f).toInt = 1 := zc_ne rfl rfl c_47
            exfalso; omega
        · exact absurd (by decide) c_46
    · have c_44 : (tn f).toInt = 0 := zc_eq rfl rfl c_44
      refine lv_iload_n hx hb dX11_shift_17 rfl (lv_at hl 2 rfl) ?_
      have b9_86 : zlt (kk) := show kk < 2147483648 by omega
      refine lv_if_lt (tgt := 31) hx hb dX11_shift_18 rfl (fun c_85 => ?_) (fun c_85 => ?_)
      · have c_85 : ((kk : Nat) : Int) < 0 := zc_lt (nI_toInt b9_86) rfl c_85
        exfalso; omega
      · have c_85 : 0 ≤ ((kk : Nat) : Int) := zc_nlt (nI_toInt b9_86) rfl c_85
        refine lv_iload_n hx hb dX11_shift_21 rfl (lv_at hl 2 rfl) ?_
        refine lv_aload_n hx hb dX11_shift_22 rfl (lv_at hl 0 rfl) ?_
        refine va_get (D := (dC, dI)) (ci := 9) (v := .ref (a 11)) (C := RX11) (T := TX11) (N := 55) hx hb hts inX11 hown hK hP 0 rfl rfl 11 (Nat.le_of_ble_eq_true rfl) (hts _ mw_1170) (fun _ h9 => h9) rfl dX11_shift_23 ?_
        refine lv_iload_n hx hb dX11_shift_26 rfl (lv_at hl 1 rfl) ?_
        refine z_iald hx hb hK hP 11 0 rfl rfl (e := f) rfl b9_43 (Nat.le_of_ble_eq_true rfl) dX11_shift_27 ?_
        refine zz_i (v := nI n) (hm_f) ?_
        have b9_88 : zlt (n) := show n < 2147483648 by omega
        refine lv_icmp_lt (tgt := 35) hx hb dX11_shift_28 rfl (fun c_87 => ?_) (fun c_87 => ?_)
        · have c_87 : ((kk : Nat) : Int) < ((n : Nat) : Int) := zc_lt (nI_toInt b9_86) (nI_toInt b9_88) c_87
          refine lv_iconst (v := 0) hx hb dX11_shift_35 rfl ?_
          refine lv_istore (lv' := [(6, .int 0), (0, .ref k0), (1, .int (nI f)), (2, .int (nI kk)), (3, .int dx), (4, .int dy), (5, .int (nI rr))]) hx hb dX11_shift_36 hl (Nat.le_of_ble_eq_true rfl) rfl (fun ls hl => ?_)
          refine lv_aload_n hx hb dX11_shift_38 rfl (lv_at hl 1 rfl) ?_
          refine lv_iload_n hx hb dX11_shift_39 rfl (lv_at hl 2 rfl) ?_
          obtain ⟨hPc, hDc, hFc, hI1⟩ := zi_sub (wc := [_]) hP hD hS hA [0] rfl rfl
          refine zcall (st1 := [.int (pI (f < ft))]) (va_runV (As := [.int (nI f)]) (rest := []) ⟨hx, hb, hml, hown, hts⟩ (k_M_isFeature_n l dC dI cI cZ cF H.size k0 a I0 J0 f ft (by first | with_reducible assumption | assumption) (by first | with_reducible assumption | omega) (by first | with_reducible assumption | omega)) (csV_178 hts rfl rfl ⟨Nat.le_of_ble_eq_true rfl, Nat.le_of_ble_eq_true rfl⟩) (zPV2 (q0 := 0) (ci := 9) hPc hDc hK hXN rfl rfl) rfl rfl hl.1 rfl (lv_room (Nat.le_of_ble_eq_true rfl)) dX11_shift_40 ⟨Nat.le_of_ble_eq_true rfl, Nat.le_of_ble_eq_true rfl⟩) hS hFc hFc rfl (fun t H locs ht hB hk1 hS => ?_)
          obtain ⟨hP1, hD1⟩ := hB
          rw [ht] at hP1
          replace hP := z0 hP hD hk1 hP1 hI1
          clear hk1 hPc hDc hFc hP1 hD1 ht hI1
          refine lv_if_eq (tgt := 51) hx hb dX11_shift_43 rfl (fun c_89 => ?_) (fun c_89 => ?_)
          · have c_89 : ¬ (f < ft) := zp_0 c_89
            exfalso; omega
          · have c_89 : f < ft := zp_1 c_89
            refine lv_iload hx hb dX11_shift_46 (lv_at hl 0 rfl) ?_
            refine lv_if_eq (tgt := 55) hx hb dX11_shift_48 rfl (fun c_90 => ?_) (fun c_90 => ?_)
            · refine lv_aload_n hx hb dX11_shift_55 rfl (lv_at hl 1 rfl) ?_
              refine va_get (D := (dC, dI)) (ci := 9) (v := .ref (a 5)) (C := RX11) (T := TX11) (N := 55) hx hb hts inX11 hown hK hP 0 rfl rfl 5 (Nat.le_of_ble_eq_true rfl) (hts _ mw_1164) (fun _ h9 => h9) rfl dX11_shift_56 ?_
              refine lv_iload_n hx hb dX11_shift_59 rfl (lv_at hl 2 rfl) ?_
              refine z_iald hx hb hK hP 2 0 rfl rfl (e := f) rfl b9_43 (Nat.le_of_ble_eq_true rfl) dX11_shift_60 ?_
              refine lv_iconst (v := 1) hx hb dX11_shift_61 rfl ?_
              refine lv_icmp_eq (tgt := 69) hx hb dX11_shift_62 rfl (fun c_91 => ?_) (fun c_91 => ?_)
              · have c_91 : (st f).toInt = 1 := zc_eq rfl rfl c_91
                refine lv_iconst (v := 0) hx hb dX11_shift_69 rfl ?_
                refine lv_istore (lv' := [(7, .int 0), (6, .int 0), (0, .ref k0), (1, .int (nI f)), (2, .int (nI kk)), (3, .int dx), (4, .int dy), (5, .int (nI rr))]) hx hb dX11_shift_70 hl (Nat.le_of_ble_eq_true rfl) rfl (fun ls hl => ?_)
                refine lv_iload_n hx hb dX11_shift_72 rfl (lv_at hl 5 rfl) ?_
                refine lv_sipush (v := (-200)) hx hb dX11_shift_73 rfl ?_
                refine lv_icmp_lt (tgt := 114) hx hb dX11_shift_76 rfl (fun c_92 => ?_) (fun c_92 => ?_)
                · have c_92 : dx.toInt < (-200) := zc_lt rfl rfl c_92
                  exfalso; omega
                · have c_92 : (-200) ≤ dx.toInt := zc_nlt rfl rfl c_92
                  refine lv_iload_n hx hb dX11_shift_79 rfl (lv_at hl 5 rfl) ?_
                  refine lv_sipush (v := 200) hx hb dX11_shift_80 rfl ?_
                  refine lv_icmp_gt (tgt := 114) hx hb dX11_shift_83 rfl (fun c_93 => ?_) (fun c_93 => ?_)
                  · have c_93 : 200 < dx.toInt := zc_lt rfl rfl c_93
                    exfalso; omega
                  · have c_93 : dx.toInt ≤ 200 := zc_nlt rfl rfl c_93
                    refine lv_iload hx hb dX11_shift_86 (lv_at hl 6 rfl) ?_
                    refine lv_sipush (v := (-200)) hx hb dX11_shift_88 rfl ?_
                    refine lv_icmp_lt (tgt := 114) hx hb dX11_shift_91 rfl (fun c_94 => ?_) (fun c_94 => ?_)
                    · have c_94 : dy.toInt < (-200) := zc_lt rfl rfl c_94
                      exfalso; omega
                    · have c_94 : (-200) ≤ dy.toInt := zc_nlt rfl rfl c_94
                      refine lv_iload hx hb dX11_shift_94 (lv_at hl 6 rfl) ?_
                      refine lv_sipush (v := 200) hx hb dX11_shift_96 rfl ?_
                      refine lv_icmp_gt (tgt := 114) hx hb dX11_shift_99 rfl (fun c_95 => ?_) (fun c_95 => ?_)
                      · have c_95 : 200 < dy.toInt := zc_lt rfl rfl c_95
                        exfalso; omega
                      · have c_95 : dy.toInt ≤ 200 := zc_nlt rfl rfl c_95
                        refine lv_iload hx hb dX11_shift_102 (lv_at hl 7 rfl) ?_
                        have b9_97 : zlt (rr) := show rr < 2147483648 by omega
                        refine lv_if_lt (tgt := 114) hx hb dX11_shift_104 rfl (fun c_96 => ?_) (fun c_96 => ?_)
                        · have c_96 : ((rr : Nat) : Int) < 0 := zc_lt (nI_toInt b9_97) rfl c_96
                          exfalso; omega
                        · have c_96 : 0 ≤ ((rr : Nat) : Int) := zc_nlt (nI_toInt b9_97) rfl c_96
                          refine lv_iload hx hb dX11_shift_107 (lv_at hl 7 rfl) ?_
                          refine lv_bipush (v := 20) hx hb dX11_shift_109 rfl ?_
                          refine lv_icmp_le (tgt := 118) hx hb dX11_shift_111 rfl (fun c_98 => ?_) (fun c_98 => ?_)
                          · have c_98 : ((rr : Nat) : Int) ≤ 20 := zc_le (nI_toInt b9_97) rfl c_98
                            refine lv_iconst (v := 0) hx hb dX11_shift_118 rfl ?_
                            refine lv_istore (lv' := [(8, .int 0), (7, .int 0), (6, .int 0), (0, .ref k0), (1, .int (nI f)), (2, .int (nI kk)), (3, .int dx), (4, .int dy), (5, .int (nI rr))]) hx hb dX11_shift_119 hl (Nat.le_of_ble_eq_true rfl) rfl (fun ls hl => ?_)
                            refine lv_iload hx hb dX11_shift_121 (lv_at hl 1 rfl) ?_
                            refine lv_if_le (tgt := 131) hx hb dX11_shift_123 rfl (fun c_99 => ?_) (fun c_99 => ?_)
                            · refine lv_iload hx hb dX11_shift_131 (lv_at hl 0 rfl) ?_
                              refine lv_if_eq (tgt := 140) hx hb dX11_shift_133 rfl (fun c_100 => ?_) (fun c_100 => ?_)
                              · refine lv_aload_n hx hb dX11_shift_140 rfl (lv_at hl 3 rfl) ?_
                                refine va_get (D := (dC, dI)) (ci := 9) (v := .ref (a 6)) (C := RX11) (T := TX11) (N := 55) hx hb hts inX11 hown hK hP 0 rfl rfl 6 (Nat.le_of_ble_eq_true rfl) (hts _ mw_1165) (fun _ h9 => h9) rfl dX11_shift_141 ?_
                                refine lv_iload_n hx hb dX11_shift_144 rfl (lv_at hl 4 rfl) ?_
                                refine z_zald hx hb hK hP 10 1 rfl rfl (e := f) rfl b9_43 (Nat.le_of_ble_eq_true rfl) dX11_shift_145 ?_
                                refine lv_if_eq (tgt := 153) hx hb dX11_shift_146 rfl (fun c_101 => ?_) (fun c_101 => ?_)
                                · have c_101 : (tn f).toInt = 0 := zc_eq rfl rfl c_101
                                  refine lv_iconst (v := 0) hx hb dX11_shift_153 rfl ?_
                                  refine lv_istore (lv' := [(7, .int 0), (8, .int 0), (6, .int 0), (0, .ref k0), (1, .int (nI f)), (2, .int (nI kk)), (3, .int dx), (4, .int dy), (5, .int (nI rr))]) hx hb dX11_shift_154 hl (Nat.le_of_ble_eq_true rfl) rfl (fun ls hl => ?_)
                                  refine lv_iload hx hb dX11_shift_156 (lv_at hl 0 rfl) ?_
                                  refine lv_if_le (tgt := 168) hx hb dX11_shift_158 rfl (fun c_102 => ?_) (fun c_102 => ?_)
                                  · refine lv_aload_n hx hb dX11_shift_168 rfl (lv_at hl 3 rfl) ?_
                                    refine lv_iload_n hx hb dX11_shift_169 rfl (lv_at hl 4 rfl) ?_
                                    obtain ⟨hPc, hDc, hFc⟩ := zo_sub (wc := [_, _, _, _, _, _, _, _, _, _, _, _, _]) hP hD hS hA [0, 2, 10, 1, 11, 12, 13, 19, 23, 24, 25, 26, 27] (by decide +kernel) rfl
                                    refine zcall (st1 := []) (va_runV (As := [.int (nI f)]) (rest := []) ⟨hx, hb, hml, hown, hts⟩ (k_M_remember l dC dI cI cZ cF H.size k0 a I0 J0 f n ft st tn kd mn cx cy S0 ox oy mt wi ins (by first | with_reducible assumption | assumption) (by first | with_reducible assumption | omega) (by first | with_reducible assumption | omega) (by first | with_reducible assumption | assumption) (by first | with_reducible assumption | omega) (by first | with_reducible assumption | assumption) (fun q h1 _ => hwf q h1)) (csV_190 hts rfl rfl ⟨Nat.le_of_ble_eq_true rfl, Nat.le_of_ble_eq_true rfl⟩) (zPV2 (q0 := 0) (ci := 9) hPc hDc hK hXN rfl rfl) rfl rfl hl.1 rfl (lv_room (Nat.le_of_ble_eq_true rfl)) dX11_shift_170 ⟨Nat.le_of_ble_eq_true rfl, Nat.le_of_ble_eq_true rfl⟩) hS hFc hFc rfl (fun t H locs ht hB hk1 hS => ?_)
                                    refine ex6 hB (fun S1 ox1 oy1 mt1 wi1 ins1 hB0 => ?_)
                                    clear hB
                                    obtain ⟨hox, hmt, hwi, hin, hP1, hD1⟩ := hB0
                                    rw [ht] at hP1
                                    obtain ⟨hP, hD⟩ := zn (W2 := [(om k0 a (upd (upd I0 35 (nI n)) 36 (kd f)) J0), _, _, _, _, _, _, _, _, _, _, _, _, _, _, _, _, _, _, (oa (a 32) cI 8 S1), _, _, _, (oa (a 33) cI 42 ox1), (oa (a 34) cI 42 oy1), (oa (a 37) cZ 201 mt1), (oa (a 38) cZ 201 wi1), (oa (a 39) cZ 8040 ins1), _, _, _, _]) hP hD hk1 hFc hP1 hD1 zl_194 zl_195 zl_195 zl_194 (by decide +kernel) rfl rfl rfl rfl rfl
                                    clear hk1 hPc hDc hFc hP1 hD1 ht
                                    refine lv_aload_n hx hb dX11_shift_173 rfl (lv_at hl 3 rfl) ?_
                                    refine va_get (D := (dC, dI)) (ci := 9) (v := .ref (a 1)) (C := RX11) (T := TX11) (N := 55) hx hb hts inX11 hown hK hP 0 rfl rfl 1 (Nat.le_of_ble_eq_true rfl) (hts _ mw_1160) (fun _ h9 => h9) rfl dX11_shift_174 ?_
                                    refine lv_iload_n hx hb dX11_shift_177 rfl (lv_at hl 4 rfl) ?_
                                    refine z_iald hx hb hK hP 1 0 rfl rfl (e := f) rfl b9_43 (Nat.le_of_ble_eq_true rfl) dX11_shift_178 ?_
                                    refine lv_if_eq (tgt := 193) hx hb dX11_shift_179 rfl (fun c_103 => ?_) (fun c_103 => ?_)
                                    · have c_103 : (kd f).toInt = 0 := zc_eq rfl rfl c_103
                                      exfalso; omega
                                    · have c_103 : ¬ (kd f).toInt = 0 := zc_ne rfl rfl c_103
                                      refine lv_aload_n hx hb dX11_shift_182 rfl (lv_at hl 3 rfl) ?_
                                      refine va_get (D := (dC, dI)) (ci := 9) (v := .ref (a 1)) (C := RX11) (T := TX11) (N := 55) hx hb hts inX11 hown hK hP 0 rfl rfl 1 (Nat.le_of_ble_eq_true rfl) (hts _ mw_1160) (fun _ h9 => h9) rfl dX11_shift_183 ?_
                                      refine lv_iload_n hx hb dX11_shift_186 rfl (lv_at hl 4 rfl) ?_
                                      refine z_iald hx hb hK hP 1 0 rfl rfl (e := f) rfl b9_43 (Nat.le_of_ble_eq_true rfl) dX11_shift_187 ?_
                                      refine lv_bipush (v := 6) hx hb dX11_shift_188 rfl ?_
                                      refine lv_icmp_ne (tgt := 197) hx hb dX11_shift_190 rfl (fun c_104 => ?_) (fun c_104 => ?_)
                                      · have c_104 : ¬ (kd f).toInt = 6 := zc_ne rfl rfl c_104
                                        refine lv_iconst (v := 0) hx hb dX11_shift_197 rfl ?_
                                        refine lv_istore (lv' := [(9, .int 0), (7, .int 0), (8, .int 0), (6, .int 0), (0, .ref k0), (1, .int (nI f)), (2, .int (nI kk)), (3, .int dx), (4, .int dy), (5, .int (nI rr))]) hx hb dX11_shift_198 hl (Nat.le_of_ble_eq_true rfl) rfl (fun ls hl => ?_)
                                        refine lv_iconst (v := 0) hx hb dX11_shift_200 rfl ?_
                                        refine lv_istore (lv' := [(10, .int 0), (9, .int 0), (7, .int 0), (8, .int 0), (6, .int 0), (0, .ref k0), (1, .int (nI f)), (2, .int (nI kk)), (3, .int dx), (4, .int dy), (5, .int (nI rr))]) hx hb dX11_shift_201 hl (Nat.le_of_ble_eq_true rfl) rfl (fun ls hl => ?_)
                                        have hl_203 : ∀ (n9 : Nat) (k : Nat) (cx1 : Nat → Int32) (cy1 : Nat → Int32) (H : Heap) (locs : List Loc) (ls : Array Slot), n - k < n9 → (k ≤ n) → (cx1 = fgX f k (fun i => shV (kd f).toInt n kk dx rr (cF40 cx f) i) cx) → (cy1 = fgX f k (fun i => shV (kd f).toInt n kk dy rr (cF40 cy f) i) cy) → va_P (dC, dI) classes [(om k0 a (upd (upd I0 35 (nI n)) 36 (kd f)) J0), (oa (a 1) cI 201 kd), (oa (a 5) cI 201 st), (oa (a 7) cI 201 gb), (oa (a 10) cI 201 it), (oa (a 8) cI 201 pa), (oa (a 9) cI 201 pb), (oa (a 2) cI 201 rk), (oa (a 3) cI 201 wd), (oa (a 4) cI 201 tw), (oa (a 6) cZ 201 tn), (oa (a 11) cI 201 mn), (oa (a 12) cI 8040 cx1), (oa (a 13) cI 8040 cy1), (oa (a 27) cI 516 sa), (oa (a 28) cI (4096 * cp) sh), (oa (a 16) cI 514 wh), (oa (a 17) cI 514 of9), (oa (a 18) cI 514 we), (oa (a 32) cI 8 S1), (oa (a 40) cI 6 T0), (oa (a 29) cI 42 P0), (oa (a 30) cI 42 Q0), (oa (a 33) cI 42 ox1), (oa (a 34) cI 42 oy1), (oa (a 37) cZ 201 mt1), (oa (a 38) cZ 201 wi1), (oa (a 39) cZ 8040 ins1), (oa (a 22) cI (64 * cl) la), (oa (a 23) cI (64 * cl) lb), (oa (a 24) cI (64 * cl) lc), (oa (a 25) cI (64 * cl) ld)] H → va_D A [(om k0 a (upd (upd I0 35 (nI n)) 36 (kd f)) J0), (oa (a 1) cI 201 kd), (oa (a 5) cI 201 st), (oa (a 7) cI 201 gb), (oa (a 10) cI 201 it), (oa (a 8) cI 201 pa), (oa (a 9) cI 201 pb), (oa (a 2) cI 201 rk), (oa (a 3) cI 201 wd), (oa (a 4) cI 201 tw), (oa (a 6) cZ 201 tn), (oa (a 11) cI 201 mn), (oa (a 12) cI 8040 cx1), (oa (a 13) cI 8040 cy1), (oa (a 27) cI 516 sa), (oa (a 28) cI (4096 * cp) sh), (oa (a 16) cI 514 wh), (oa (a 17) cI 514 of9), (oa (a 18) cI 514 we), (oa (a 32) cI 8 S1), (oa (a 40) cI 6 T0), (oa (a 29) cI 42 P0), (oa (a 30) cI 42 Q0), (oa (a 33) cI 42 ox1), (oa (a 34) cI 42 oy1), (oa (a 37) cZ 201 mt1), (oa (a 38) cZ 201 wi1), (oa (a 39) cZ 8040 ins1), (oa (a 22) cI (64 * cl) la), (oa (a 23) cI (64 * cl) lb), (oa (a 24) cI (64 * cl) lc), (oa (a 25) cI (64 * cl) ld)] → va_S A s.heap H locs → lv_has ls 13 [(10, .int (nI k)), (9, .int 0), (7, .int 0), (8, .int 0), (6, .int 0), (0, .ref k0), (1, .int (nI f)), (2, .int (nI kk)), (3, .int dx), (4, .int dy), (5, .int (nI rr))] → W p l e ({ frames := 5, cells := 0, slots := 0, locals := 130 } : Room) s m ([.ref k0, .int (nI f), .int (nI kk), .int dx, .int dy, .int (nI rr)] : List Value).toArray below meth c H locs 0 0 Q9 (F0 m 203 ls []) := by
                                          intro n9
                                          induction n9 with
                                          | zero => intro k cx1 cy1 H locs ls hm; exact absurd hm (Nat.not_lt_zero _)
                                          | succ n9 ih_203 =>
                                            intro k cx1 cy1 H locs ls hm hk hcx hcy hP hD hS hl
                                            refine lv_iload hx hb dX11_shift_203 (lv_at hl 0 rfl) ?_
                                            refine lv_aload_n hx hb dX11_shift_205 rfl (lv_at hl 5 rfl) ?_
                                            refine va_get (D := (dC, dI)) (ci := 9) (v := .int (nI n)) (C := RX11) (T := TX11) (N := 55) hx hb hts inX11 hown hK hP 0 rfl rfl 35 (Nat.le_of_ble_eq_true rfl) (hts _ mw_1194) (fun _ h9 => h9) rfl dX11_shift_206 ?_
                                            have b9_106 : zlt (k) := show k < 2147483648 by omega
                                            refine lv_icmp_ge (tgt := 367) hx hb dX11_shift_209 rfl (fun c_105 => ?_) (fun c_105 => ?_)
                                            · have c_105 : ((n : Nat) : Int) ≤ ((k : Nat) : Int) := zc_le (nI_toInt b9_88) (nI_toInt b9_106) c_105
                                              have hkn : k = n := (by omega)
                                              rw [hkn] at hcx hcy
                                              refine lv_aload_n hx hb dX11_shift_367 rfl (lv_at hl 5 rfl) ?_
                                              refine lv_iload_n hx hb dX11_shift_368 rfl (lv_at hl 6 rfl) ?_
                                              obtain ⟨hPc, hDc, hFc, hI1⟩ := zi_sub (wc := [_, _, _, _, _]) hP hD hS hA [0, 12, 13, 23, 24] (by decide +kernel) rfl
                                              refine zcall (st1 := [.int (pI (∃ k, k < n ∧ ¬ ((cx1 (40 * f + k)).toInt = (ox1 k).toInt ∧ (cy1 (40 * f + k)).toInt = (oy1 k).toInt)))]) (va_runV (As := [.int (nI f)]) (rest := []) ⟨hx, hb, hml, hown, hts⟩ (k_M_moves l dC dI cI cZ cF H.size k0 a (upd (upd I0 35 (nI n)) 36 (kd f)) J0 f n cx1 cy1 ox1 oy1 (by first | with_reducible assumption | omega) (rfl) (by first | with_reducible assumption | omega)) (csV_211 hts rfl rfl ⟨Nat.le_of_ble_eq_true rfl, Nat.le_of_ble_eq_true rfl⟩) (zPV2 (q0 := 0) (ci := 9) hPc hDc hK hXN rfl rfl) rfl rfl hl.1 rfl (lv_room (Nat.le_of_ble_eq_true rfl)) dX11_shift_369 ⟨Nat.le_of_ble_eq_true rfl, Nat.le_of_ble_eq_true rfl⟩) hS hFc hFc rfl (fun t H locs ht hB hk1 hS => ?_)
                                              obtain ⟨hP1, hD1⟩ := hB
                                              rw [ht] at hP1
                                              replace hP := z0 hP hD hk1 hP1 hI1
                                              clear hk1 hPc hDc hFc hP1 hD1 ht hI1
                                              refine zz_i (v := pI (mvd n (fun i => shV (kd f).toInt n kk dx rr (cF40 cx f) i) (fun i => shV (kd f).toInt n kk dy rr (cF40 cy f) i) (cF40 cx f) (cF40 cy f))) (zp_iff (mv_iff hcx hcy hox)) ?_
                                              refine lv_if_ne (tgt := 382) hx hb dX11_shift_372 rfl (fun c_107 => ?_) (fun c_107 => ?_)
                                              · have c_107 : mvd n (fun i => shV (kd f).toInt n kk dx rr (cF40 cx f) i) (fun i => shV (kd f).toInt n kk dy rr (cF40 cy f) i) (cF40 cx f) (cF40 cy f) := zp_1 c_107
                                                exfalso; exact absurd (by first | with_reducible assumption | assumption) hmv
                                              · have c_107 : ¬ (mvd n (fun i => shV (kd f).toInt n kk dx rr (cF40 cx f) i) (fun i => shV (kd f).toInt n kk dy rr (cF40 cy f) i) (cF40 cx f) (cF40 cy f)) := zp_0 c_107
                                                refine lv_aload_n hx hb dX11_shift_375 rfl (lv_at hl 5 rfl) ?_
                                                refine lv_bipush (v := 8) hx hb dX11_shift_376 rfl ?_
                                                obtain ⟨hPc, hDc, hFc⟩ := zo_sub (wc := [_]) hP hD hS hA [0] rfl rfl
                                                refine zcall (st1 := [.int 0]) (va_runV (As := [.int 8]) (rest := []) ⟨hx, hb, hml, hown, hts⟩ (k_M_no l dC dI cI cZ cF H.size k0 a (upd (upd I0 35 (nI n)) 36 (kd f)) J0 8 (by decide)) (csV_198 hts rfl rfl ⟨Nat.le_of_ble_eq_true rfl, Nat.le_of_ble_eq_true rfl⟩) (zPV2 (q0 := 0) (ci := 9) hPc hDc hK hXN rfl rfl) rfl rfl hl.1 rfl (lv_room (Nat.le_of_ble_eq_true rfl)) dX11_shift_378 ⟨Nat.le_of_ble_eq_true rfl, Nat.le_of_ble_eq_true rfl⟩) hS hFc hFc rfl (fun t H locs ht hB hk1 hS => ?_)
                                                obtain ⟨hP1, hD1⟩ := hB
                                                rw [ht] at hP1
                                                obtain ⟨hP, hD⟩ := zn (W2 := [(om k0 a (upd (upd (upd (upd I0 14 8) 15 (I0 15)) 35 (nI n)) 36 (kd f)) J0), _, _, _, _, _, _, _, _, _, _, _, _, _, _, _, _, _, _, _, _, _, _, _, _, _, _, _, _, _, _, _]) hP hD hk1 hFc hP1 hD1 [0] zl_183 zl_183 [0] (by decide +kernel) rfl rfl rfl rfl rfl
                                                clear hk1 hPc hDc hFc hP1 hD1 ht
                                                have hsx : fgX f n (fun i => shV (kd f).toInt n kk dx rr (cF40 cx f) i) cx = cx := fgX_same (fun k9 h9 => Classical.byContradiction fun h8 => hmv ⟨k9, h9, fun h7 => h8 h7.1⟩)
                                                have hsy : fgX f n (fun i => shV (kd f).toInt n kk dy rr (cF40 cy f) i) cy = cy := fgX_same (fun k9 h9 => Classical.byContradiction fun h8 => hmv ⟨k9, h9, fun h7 => h8 h7.2⟩)
                                                obtain ⟨hP9, hD9⟩ := zu_sub (wc := [(om k0 a (upd (upd (upd (upd I0 14 8) 15 (I0 15)) 35 (nI n)) 36 (kd f)) J0), (oa (a 1) cI 201 kd), (oa (a 5) cI 201 st), (oa (a 7) cI 201 gb), (oa (a 10) cI 201 it), (oa (a 8) cI 201 pa), (oa (a 9) cI 201 pb), (oa (a 2) cI 201 rk), (oa (a 3) cI 201 wd), (oa (a 4) cI 201 tw), (oa (a 6) cZ 201 tn), (oa (a 11) cI 201 mn), (oa (a 12) cI 8040 cx1), (oa (a 13) cI 8040 cy1), (oa (a 27) cI 516 sa), (oa (a 28) cI (4096 * cp) sh), (oa (a 16) cI 514 wh), (oa (a 17) cI 514 of9), (oa (a 18) cI 514 we), (oa (a 32) cI 8 S1), (oa (a 40) cI 6 T0), (oa (a 29) cI 42 P0), (oa (a 30) cI 42 Q0), (oa (a 33) cI 42 ox1), (oa (a 34) cI 42 oy1), (oa (a 37) cZ 201 mt1), (oa (a 38) cZ 201 wi1), (oa (a 39) cZ 8040 ins1), (oa (a 22) cI (64 * cl) la), (oa (a 23) cI (64 * cl) lb), (oa (a 24) cI (64 * cl) lc), (oa (a 25) cI (64 * cl) ld)]) hP hD (true :: true :: true :: true :: true :: true :: true :: true :: true :: true :: true :: true :: true :: true :: true :: true :: true :: true :: true :: true :: true :: true :: true :: true :: true :: true :: true :: true :: true :: true :: true :: true :: []) rfl rfl
                                                have hE9 : ([(om k0 a (upd (upd (upd (upd I0 14 8) 15 (I0 15)) 35 (nI n)) 36 (kd f)) J0), (oa (a 1) cI 201 kd), (oa (a 5) cI 201 st), (oa (a 7) cI 201 gb), (oa (a 10) cI 201 it), (oa (a 8) cI 201 pa), (oa (a 9) cI 201 pb), (oa (a 2) cI 201 rk), (oa (a 3) cI 201 wd), (oa (a 4) cI 201 tw), (oa (a 6) cZ 201 tn), (oa (a 11) cI 201 mn), (oa (a 12) cI 8040 cx1), (oa (a 13) cI 8040 cy1), (oa (a 27) cI 516 sa), (oa (a 28) cI (4096 * cp) sh), (oa (a 16) cI 514 wh), (oa (a 17) cI 514 of9), (oa (a 18) cI 514 we), (oa (a 32) cI 8 S1), (oa (a 40) cI 6 T0), (oa (a 29) cI 42 P0), (oa (a 30) cI 42 Q0), (oa (a 33) cI 42 ox1), (oa (a 34) cI 42 oy1), (oa (a 37) cZ 201 mt1), (oa (a 38) cZ 201 wi1), (oa (a 39) cZ 8040 ins1), (oa (a 22) cI (64 * cl) la), (oa (a 23) cI (64 * cl) lb), (oa (a 24) cI (64 * cl) lc), (oa (a 25) cI (64 * cl) ld)] : va_W) = [(om k0 a (upd (upd (upd (upd I0 14 8) 15 (I0 15)) 35 (nI n)) 36 (kd f)) J0), (oa (a 1) cI 201 kd), (oa (a 5) cI 201 st), (oa (a 7) cI 201 gb), (oa (a 10) cI 201 it), (oa (a 8) cI 201 pa), (oa (a 9) cI 201 pb), (oa (a 2) cI 201 rk), (oa (a 3) cI 201 wd), (oa (a 4) cI 201 tw), (oa (a 6) cZ 201 tn), (oa (a 11) cI 201 mn), (oa (a 12) cI 8040 cx), (oa (a 13) cI 8040 cy), (oa (a 27) cI 516 sa), (oa (a 28) cI (4096 * cp) sh), (oa (a 16) cI 514 wh), (oa (a 17) cI 514 of9), (oa (a 18) cI 514 we), (oa (a 32) cI 8 S1), (oa (a 40) cI 6 T0), (oa (a 29) cI 42 P0), (oa (a 30) cI 42 Q0), (oa (a 33) cI 42 ox1), (oa (a 34) cI 42 oy1), (oa (a 37) cZ 201 mt1), (oa (a 38) cZ 201 wi1), (oa (a 39) cZ 8040 ins1), (oa (a 22) cI (64 * cl) la), (oa (a 23) cI (64 * cl) lb), (oa (a 24) cI (64 * cl) lc), (oa (a 25) cI (64 * cl) ld)] := by rw [hcx, hcy, hsx, hsy]
                                                rw [hE9] at hP9 hD9
                                                rw [hQ9]
                                                exact W.zret (ty := .boolean) (v := 0) hx hb hr (rfl) (fun t ht hW => ⟨⟨rfl, S1, ox1, oy1, mt1, wi1, ins1, by rw [ht]; exact hP9, hD9⟩, hS.F ht⟩) hS.2.2 dX11_shift_381
                                            · have c_105 : ((k : Nat) : Int) < ((n : Nat) : Int) := zc_nle (nI_toInt b9_88) (nI_toInt b9_106) c_105
                                              have hk9 : k < n := (by omega)
                                              have hwb := wyR_b (kf := (kd f).toInt) hkk hk9
                                              refine lv_aload_n hx hb dX11_shift_212 rfl (lv_at hl 5 rfl) ?_
                                              refine lv_iload_n hx hb dX11_shift_213 rfl (lv_at hl 6 rfl) ?_
                                              refine lv_iload_n hx hb dX11_shift_214 rfl (lv_at hl 7 rfl) ?_
                                              refine lv_iload hx hb dX11_shift_215 (lv_at hl 0 rfl) ?_
                                              obtain ⟨hPc, hDc, hFc, hI1⟩ := zi_sub (wc := [_, _]) hP hD hS hA [0, 1] rfl rfl
                                              refine zcall (st1 := [.int (nI (wyR (kd f).toInt n kk k))]) (va_runV (As := [.int (nI f), .int (nI kk), .int (nI k)]) (rest := []) ⟨hx, hb, hml, hown, hts⟩ (k_M_wayOf l dC dI cI cZ cF H.size k0 a (upd (upd I0 35 (nI n)) 36 (kd f)) J0 f n kk k kd (by first | with_reducible assumption | omega) (by first | with_reducible assumption | omega) (hkk) (by first | with_reducible assumption | omega)) (csV_216 hts rfl rfl ⟨Nat.le_of_ble_eq_true rfl, Nat.le_of_ble_eq_true rfl⟩) (zPV2 (q0 := 0) (ci := 9) hPc hDc hK hXN rfl rfl) rfl rfl hl.1 rfl (lv_room (Nat.le_of_ble_eq_true rfl)) dX11_shift_217 ⟨Nat.le_of_ble_eq_true rfl, Nat.le_of_ble_eq_true rfl⟩) hS hFc hFc rfl (fun t H locs ht hB hk1 hS => ?_)
                                              obtain ⟨hP1, hD1⟩ := hB
                                              rw [ht] at hP1
                                              replace hP := z0 hP hD hk1 hP1 hI1
                                              clear hk1 hPc hDc hFc hP1 hD1 ht hI1
                                              refine lv_istore (lv' := [(11, .int (nI (wyR (kd f).toInt n kk k))), (10, .int (nI k)), (9, .int 0), (7, .int 0), (8, .int 0), (6, .int 0), (0, .ref k0), (1, .int (nI f)), (2, .int (nI kk)), (3, .int dx), (4, .int dy), (5, .int (nI rr))]) hx hb dX11_shift_220 hl (Nat.le_of_ble_eq_true rfl) rfl (fun ls hl => ?_)
                                              refine lv_iload hx hb dX11_shift_222 (lv_at hl 2 rfl) ?_
                                              refine lv_if_ne (tgt := 262) hx hb dX11_shift_224 rfl (fun c_108 => ?_) (fun c_108 => ?_)
                                              · exact absurd (by decide) c_108
                                              · refine lv_iload hx hb dX11_shift_227 (lv_at hl 0 rfl) ?_
                                                refine lv_iload hx hb dX11_shift_229 (lv_at hl 11 rfl) ?_
                                                have b9_110 : zlt ((wyR (kd f).toInt n kk k)) := show (wyR (kd f).toInt n kk k) < 2147483648 by omega
                                                refine lv_icmp_gt (tgt := 258) hx hb dX11_shift_231 rfl (fun c_109 => ?_) (fun c_109 => ?_)
                                                · have c_109 : ((rr : Nat) : Int) < ((wyR (kd f).toInt n kk k : Nat) : Int) := zc_lt (nI_toInt b9_97) (nI_toInt b9_110) c_109
                                                  refine lv_iconst (v := 1) hx hb dX11_shift_258 rfl ?_
                                                  refine lv_goto (tgt := 263) hx hb dX11_shift_259 rfl ?_
                                                  refine lv_istore (lv' := [(12, .int 1), (11, .int (nI (wyR (kd f).toInt n kk k))), (10, .int (nI k)), (9, .int 0), (7, .int 0), (8, .int 0), (6, .int 0), (0, .ref k0), (1, .int (nI f)), (2, .int (nI kk)), (3, .int dx), (4, .int dy), (5, .int (nI rr))]) hx hb dX11_shift_263 hl (Nat.le_of_ble_eq_true rfl) rfl (fun ls hl => ?_)
                                                  refine lv_iload hx hb dX11_shift_265 (lv_at hl 0 rfl) ?_
                                                  refine lv_if_eq (tgt := 273) hx hb dX11_shift_267 rfl (fun c_111 => ?_) (fun c_111 => ?_)
                                                  · exact absurd c_111 (by decide)
                                                  · refine lv_goto (tgt := 361) hx hb dX11_shift_270 rfl ?_
                                                    refine lv_iinc (v := nI (k + 1)) (lv' := [(10, .int (nI (k + 1))), (12, .int 1), (11, .int (nI (wyR (kd f).toInt n kk k))), (9, .int 0), (7, .int 0), (8, .int 0), (6, .int 0), (0, .ref k0), (1, .int (nI f)), (2, .int (nI kk)), (3, .int dx), (4, .int dy), (5, .int (nI rr))]) hx hb dX11_shift_361 hl (k := 2) rfl (nI_add k 1) (Nat.le_of_ble_eq_true rfl) rfl (fun ls hl => ?_)
                                                    refine lv_goto (tgt := 203) hx hb dX11_shift_364 rfl ?_
                                                    exact ih_203 (k + 1) cx1 cy1 H locs ls (by first | with_reducible assumption | omega) (by first | with_reducible assumption | omega) (by first | exact fgX_u hcx (shV_f (by first | with_reducible assumption | assumption)) | exact fgX_k hcx (shV_t (X := cF40 cx f) (by first | exact Or.inl (by first | with_reducible assumption | omega) | exact Or.inr ⟨by assumption, by omega⟩))) (by first | exact fgX_u hcy (shV_f (by first | with_reducible assumption | assumption)) | exact fgX_k hcy (shV_t (X := cF40 cy f) (by first | exact Or.inl (by first | with_reducible assumption | omega) | exact Or.inr ⟨by assumption, by omega⟩))) hP hD hS (lv_sub hl [0, 3, 4, 5, 6, 7, 8, 9, 10, 11, 12] rfl)
                                                · have c_109 : ((wyR (kd f).toInt n kk k : Nat) : Int) ≤ ((rr : Nat) : Int) := zc_nlt (nI_toInt b9_97) (nI_toInt b9_110) c_109
                                                  refine lv_aload_n hx hb dX11_shift_234 rfl (lv_at hl 6 rfl) ?_
                                                  refine lv_iload_n hx hb dX11_shift_235 rfl (lv_at hl 7 rfl) ?_
                                                  obtain ⟨hPc, hDc, hFc, hI1⟩ := zi_sub (wc := [_, _]) hP hD hS hA [0, 1] rfl rfl
                                                  refine zcall (st1 := [.int (pI (5 ≤ (kd f).toInt))]) (va_runV (As := [.int (nI f)]) (rest := []) ⟨hx, hb, hml, hown, hts⟩ (k_M_isRing l dC dI cI cZ cF H.size k0 a (upd (upd I0 35 (nI n)) 36 (kd f)) J0 f kd (by first | with_reducible assumption | omega)) (csV_165 hts rfl rfl ⟨Nat.le_of_ble_eq_true rfl, Nat.le_of_ble_eq_true rfl⟩) (zPV2 (q0 := 0) (ci := 9) hPc hDc hK hXN rfl rfl) rfl rfl hl.1 rfl (lv_room (Nat.le_of_ble_eq_true rfl)) dX11_shift_236 ⟨Nat.le_of_ble_eq_true rfl, Nat.le_of_ble_eq_true rfl⟩) hS hFc hFc rfl (fun t H locs ht hB hk1 hS => ?_)
                                                  obtain ⟨hP1, hD1⟩ := hB
                                                  rw [ht] at hP1
                                                  replace hP := z0 hP hD hk1 hP1 hI1
                                                  clear hk1 hPc hDc hFc hP1 hD1 ht hI1
                                                  refine lv_if_ne (tgt := 262) hx hb dX11_shift_239 rfl (fun c_112 => ?_) (fun c_112 => ?_)
                                                  · have c_112 : 5 ≤ (kd f).toInt := zp_1 c_112
                                                    refine lv_iconst (v := 0) hx hb dX11_shift_262 rfl ?_
                                                    refine lv_istore (lv' := [(12, .int 0), (11, .int (nI (wyR (kd f).toInt n kk k))), (10, .int (nI k)), (9, .int 0), (7, .int 0), (8, .int 0), (6, .int 0), (0, .ref k0), (1, .int (nI f)), (2, .int (nI kk)), (3, .int dx), (4, .int dy), (5, .int (nI rr))]) hx hb dX11_shift_263 hl (Nat.le_of_ble_eq_true rfl) rfl (fun ls hl => ?_)
                                                    refine lv_iload hx hb dX11_shift_265 (lv_at hl 0 rfl) ?_
                                                    refine lv_if_eq (tgt := 273) hx hb dX11_shift_267 rfl (fun c_113 => ?_) (fun c_113 => ?_)
                                                    · have hst9 : ¬ (rr < wyR (kd f).toInt n kk k ∨ (¬ 5 ≤ (kd f).toInt ∧ (k = 0 ∨ k = n - 1))) := (by first | exact fun h => h.elim (fun h => by omega) (fun h => absurd (by first | with_reducible assumption | assumption) h.1) | exact fun h => h.elim (fun h => by omega) (fun h => by omega))
                                                      have hwy : wyR (kd f).toInt n kk k ≤ rr := (by have := hst9; omega)
                                                      refine lv_aload_n hx hb dX11_shift_273 rfl (lv_at hl 7 rfl) ?_
                                                      refine va_get (D := (dC, dI)) (ci := 9) (v := .ref (a 12)) (C := RX11) (T := TX11) (N := 55) hx hb hts inX11 hown hK hP 0 rfl rfl 12 (Nat.le_of_ble_eq_true rfl) (hts _ mw_1171) (fun _ h9 => h9) rfl dX11_shift_274 ?_
                                                      refine lv_bipush (v := 40) hx hb dX11_shift_277 rfl ?_
                                                      refine lv_iload_n hx hb dX11_shift_279 rfl (lv_at hl 8 rfl) ?_
                                                      refine lv_imul hx hb dX11_shift_280 ?_
                                                      refine zz_i (v := nI (40 * f)) (pk_mul 40 f) ?_
                                                      refine lv_iload hx hb dX11_shift_281 (lv_at hl 2 rfl) ?_
                                                      refine lv_iadd hx hb dX11_shift_283 ?_
                                                      refine zz_i (v := nI (40 * f + k)) (nI_add (40 * f) k) ?_
                                                      refine lv_aload_n hx hb dX11_shift_284 rfl (lv_at hl 7 rfl) ?_
                                                      refine va_get (D := (dC, dI)) (ci := 9) (v := .ref (a 33)) (C := RX11) (T := TX11) (N := 55) hx hb hts inX11 hown hK hP 0 rfl rfl 33 (Nat.le_of_ble_eq_true rfl) (hts _ mw_1192) (fun _ h9 => h9) rfl dX11_shift_285 ?_
                                                      refine lv_iload hx hb dX11_shift_288 (lv_at hl 2 rfl) ?_
                                                      have b9_114 : k < 42 := by omega
                                                      refine z_iald hx hb hK hP 23 0 rfl rfl (e := k) rfl b9_114 (Nat.le_of_ble_eq_true rfl) dX11_shift_290 ?_
                                                      refine zz_i (v := cF40 cx f k) ((hox _ hk9).1) ?_
                                                      refine lv_iload hx hb dX11_shift_291 (lv_at hl 3 rfl) ?_
                                                      refine lv_if_eq (tgt := 300) hx hb dX11_shift_293 rfl (fun c_115 => ?_) (fun c_115 => ?_)
                                                      · refine lv_iload_n hx hb dX11_shift_300 rfl (lv_at hl 10 rfl) ?_
                                                        refine lv_iload hx hb dX11_shift_301 (lv_at hl 12 rfl) ?_
                                                        refine lv_iconst (v := 1) hx hb dX11_shift_303 rfl ?_
                                                        refine lv_iadd hx hb dX11_shift_304 ?_
                                                        refine zz_i (v := nI (rr + 1)) (nI_add rr 1) ?_
                                                        refine lv_iload hx hb dX11_shift_305 (lv_at hl 1 rfl) ?_
                                                        refine lv_isub hx hb dX11_shift_307 ?_
                                                        refine zz_i (v := nI ((rr + 1) - (wyR (kd f).toInt n kk k))) (pk_sub (a := rr + 1) (b := wyR (kd f).toInt n kk k) (by omega)) ?_
                                                        refine lv_imul hx hb dX11_shift_308 ?_
                                                        refine lv_iload hx hb dX11_shift_309 (lv_at hl 12 rfl) ?_
                                                        refine lv_iconst (v := 1) hx hb dX11_shift_311 rfl ?_
                                                        refine lv_iadd hx hb dX11_shift_312 ?_
                                                        refine zz_i (v := nI (rr + 1)) (nI_add rr 1) ?_
                                                        refine lv_idiv hx hb dX11_shift_313 (nI_ne0 (by omega) (by omega)) ?_
                                                        refine lv_iadd hx hb dX11_shift_314 ?_
                                                        have b9_116 : 40 * f + k < 8040 := by omega
                                                        refine z_iast hx hb hK hP hD hS 12 0 rfl rfl (e := 40 * f + k) (x := (cF40 cx f k) + ((dx * (nI ((rr + 1) - (wyR (kd f).toInt n kk k)))) / (nI (rr + 1)))) rfl b9_116 (Nat.le_of_ble_eq_true rfl) dX11_shift_315 (fun H locs hP hD hS => ?_)
                                                        obtain ⟨hP, hD⟩ := zre (W2 := [_, _, _, _, _, _, _, _, _, _, _, _, (oa (a 12) cI 8040 (upd cx1 (40 * f + k) ((cF40 cx f k) + ((dx * (nI ((rr + 1) - (wyR (kd f).toInt n kk k)))) / (nI (rr + 1)))))), _, _, _, _, _, _, _, _, _, _, _, _, _, _, _, _, _, _, _]) hP hD rfl
                                                        refine lv_aload_n hx hb dX11_shift_316 rfl (lv_at hl 7 rfl) ?_
                                                        refine va_get (D := (dC, dI)) (ci := 9) (v := .ref (a 13)) (C := RX11) (T := TX11) (N := 55) hx hb hts inX11 hown hK hP 0 rfl rfl 13 (Nat.le_of_ble_eq_true rfl) (hts _ mw_1172) (fun _ h9 => h9) rfl dX11_shift_317 ?_
                                                        refine lv_bipush (v := 40) hx hb dX11_shift_320 rfl ?_
                                                        refine lv_iload_n hx hb dX11_shift_322 rfl (lv_at hl 8 rfl) ?_
                                                        refine lv_imul hx hb dX11_shift_323 ?_
                                                        refine zz_i (v := nI (40 * f)) (pk_mul 40 f) ?_
                                                        refine lv_iload hx hb dX11_shift_324 (lv_at hl 2 rfl) ?_
                                                        refine lv_iadd hx hb dX11_shift_326 ?_
                                                        refine zz_i (v := nI (40 * f + k)) (nI_add (40 * f) k) ?_
                                                        refine lv_aload_n hx hb dX11_shift_327 rfl (lv_at hl 7 rfl) ?_
                                                        refine va_get (D := (dC, dI)) (ci := 9) (v := .ref (a 34)) (C := RX11) (T := TX11) (N := 55) hx hb hts inX11 hown hK hP 0 rfl rfl 34 (Nat.le_of_ble_eq_true rfl) (hts _ mw_1193) (fun _ h9 => h9) rfl dX11_shift_328 ?_
                                                        refine lv_iload hx hb dX11_shift_331 (lv_at hl 2 rfl) ?_
                                                        refine z_iald hx hb hK hP 24 0 rfl rfl (e := k) rfl b9_114 (Nat.le_of_ble_eq_true rfl) dX11_shift_333 ?_
                                                        refine zz_i (v := cF40 cy f k) ((hox _ hk9).2) ?_
                                                        refine lv_iload hx hb dX11_shift_334 (lv_at hl 3 rfl) ?_
                                                        refine lv_if_eq (tgt := 344) hx hb dX11_shift_336 rfl (fun c_117 => ?_) (fun c_117 => ?_)
                                                        · refine lv_iload hx hb dX11_shift_344 (lv_at hl 11 rfl) ?_
                                                          refine lv_iload hx hb dX11_shift_346 (lv_at hl 12 rfl) ?_
                                                          refine lv_iconst (v := 1) hx hb dX11_shift_348 rfl ?_
                                                          refine lv_iadd hx hb dX11_shift_349 ?_
                                                          refine zz_i (v := nI (rr + 1)) (nI_add rr 1) ?_
                                                          refine lv_iload hx hb dX11_shift_350 (lv_at hl 1 rfl) ?_
                                                          refine lv_isub hx hb dX11_shift_352 ?_
                                                          refine zz_i (v := nI ((rr + 1) - (wyR (kd f).toInt n kk k))) (pk_sub (a := rr + 1) (b := wyR (kd f).toInt n kk k) (by omega)) ?_
                                                          refine lv_imul hx hb dX11_shift_353 ?_
                                                          refine lv_iload hx hb dX11_shift_354 (lv_at hl 12 rfl) ?_
                                                          refine lv_iconst (v := 1) hx hb dX11_shift_356 rfl ?_
                                                          refine lv_iadd hx hb dX11_shift_357 ?_
                                                          refine zz_i (v := nI (rr + 1)) (nI_add rr 1) ?_
                                                          refine lv_idiv hx hb dX11_shift_358 (nI_ne0 (by omega) (by omega)) ?_
                                                          refine lv_iadd hx hb dX11_shift_359 ?_
                                                          refine z_iast hx hb hK hP hD hS 13 0 rfl rfl (e := 40 * f + k) (x := (cF40 cy f k) + ((dy * (nI ((rr + 1) - (wyR (kd f).toInt n kk k)))) / (nI (rr + 1)))) rfl b9_116 (Nat.le_of_ble_eq_true rfl) dX11_shift_360 (fun H locs hP hD hS => ?_)
                                                          obtain ⟨hP, hD⟩ := zre (W2 := [_, _, _, _, _, _, _, _, _, _, _, _, _, (oa (a 13) cI 8040 (upd cy1 (40 * f + k) ((cF40 cy f k) + ((dy * (nI ((rr + 1) - (wyR (kd f).toInt n kk k)))) / (nI (rr + 1)))))), _, _, _, _, _, _, _, _, _, _, _, _, _, _, _, _, _, _]) hP hD rfl
                                                          refine lv_iinc (v := nI (k + 1)) (lv' := [(10, .int (nI (k + 1))), (12, .int 0), (11, .int (nI (wyR (kd f).toInt n kk k))), (9, .int 0), (7, .int 0), (8, .int 0), (6, .int 0), (0, .ref k0), (1, .int (nI f)), (2, .int (nI kk)), (3, .int dx), (4, .int dy), (5, .int (nI rr))]) hx hb dX11_shift_361 hl (k := 2) rfl (nI_add k 1) (Nat.le_of_ble_eq_true rfl) rfl (fun ls hl => ?_)
                                                          refine lv_goto (tgt := 203) hx hb dX11_shift_364 rfl ?_
                                                          exact ih_203 (k + 1) (upd cx1 (40 * f + k) ((cF40 cx f k) + ((dx * (nI ((rr + 1) - (wyR (kd f).toInt n kk k)))) / (nI (rr + 1))))) (upd cy1 (40 * f + k) ((cF40 cy f k) + ((dy * (nI ((rr + 1) - (wyR (kd f).toInt n kk k)))) / (nI (rr + 1))))) H locs ls (by first | with_reducible assumption | omega) (by first | with_reducible assumption | omega) (by first | exact fgX_u hcx (shV_f (by first | with_reducible assumption | assumption)) | exact fgX_k hcx (shV_t (X := cF40 cx f) (by first | exact Or.inl (by first | with_reducible assumption | omega) | exact Or.inr ⟨by assumption, by omega⟩))) (by first | exact fgX_u hcy (shV_f (by first | with_reducible assumption | assumption)) | exact fgX_k hcy (shV_t (X := cF40 cy f) (by first | exact Or.inl (by first | with_reducible assumption | omega) | exact Or.inr ⟨by assumption, by omega⟩))) hP hD hS (lv_sub hl [0, 3, 4, 5, 6, 7, 8, 9, 10, 11, 12] rfl)
                                                        · exact absurd (by decide) c_117
                                                      · exact absurd (by decide) c_115
                                                    · exact absurd (by decide) c_113
                                                  · have c_112 : ¬ (5 ≤ (kd f).toInt) := zp_0 c_112
                                                    refine lv_iload hx hb dX11_shift_242 (lv_at hl 1 rfl) ?_
                                                    refine lv_if_eq (tgt := 258) hx hb dX11_shift_244 rfl (fun c_118 => ?_) (fun c_118 => ?_)
                                                    · have c_118 : ((k : Nat) : Int) = 0 := zc_eq (nI_toInt b9_106) rfl c_118
                                                      refine lv_iconst (v := 1) hx hb dX11_shift_258 rfl ?_
                                                      refine lv_goto (tgt := 263) hx hb dX11_shift_259 rfl ?_
                                                      refine lv_istore (lv' := [(12, .int 1), (11, .int (nI (wyR (kd f).toInt n kk k))), (10, .int (nI k)), (9, .int 0), (7, .int 0), (8, .int 0), (6, .int 0), (0, .ref k0), (1, .int (nI f)), (2, .int (nI kk)), (3, .int dx), (4, .int dy), (5, .int (nI rr))]) hx hb dX11_shift_263 hl (Nat.le_of_ble_eq_true rfl) rfl (fun ls hl => ?_)
                                                      refine lv_iload hx hb dX11_shift_265 (lv_at hl 0 rfl) ?_
                                                      refine lv_if_eq (tgt := 273) hx hb dX11_shift_267 rfl (fun c_119 => ?_) (fun c_119 => ?_)
                                                      · exact absurd c_119 (by decide)
                                                      · refine lv_goto (tgt := 361) hx hb dX11_shift_270 rfl ?_
                                                        refine lv_iinc (v := nI (k + 1)) (lv' := [(10, .int (nI (k + 1))), (12, .int 1), (11, .int (nI (wyR (kd f).toInt n kk k))), (9, .int 0), (7, .int 0), (8, .int 0), (6, .int 0), (0, .ref k0), (1, .int (nI f)), (2, .int (nI kk)), (3, .int dx), (4, .int dy), (5, .int (nI rr))]) hx hb dX11_shift_361 hl (k := 2) rfl (nI_add k 1) (Nat.le_of_ble_eq_true rfl) rfl (fun ls hl => ?_)
                                                        refine lv_goto (tgt := 203) hx hb dX11_shift_364 rfl ?_
                                                        exact ih_203 (k + 1) cx1 cy1 H locs ls (by first | with_reducible assumption | omega) (by first | with_reducible assumption | omega) (by first | exact fgX_u hcx (shV_f (by first | with_reducible assumption | assumption)) | exact fgX_k hcx (shV_t (X := cF40 cx f) (by first | exact Or.inl (by first | with_reducible assumption | omega) | exact Or.inr ⟨by assumption, by omega⟩))) (by first | exact fgX_u hcy (shV_f (by first | with_reducible assumption | assumption)) | exact fgX_k hcy (shV_t (X := cF40 cy f) (by first | exact Or.inl (by first | with_reducible assumption | omega) | exact Or.inr ⟨by assumption, by omega⟩))) hP hD hS (lv_sub hl [0, 3, 4, 5, 6, 7, 8, 9, 10, 11, 12] rfl)
                                                    · have c_118 : ¬ ((k : Nat) : Int) = 0 := zc_ne (nI_toInt b9_106) rfl c_118
                                                      refine lv_iload hx hb dX11_shift_247 (lv_at hl 1 rfl) ?_
                                                      refine lv_aload_n hx hb dX11_shift_249 rfl (lv_at hl 6 rfl) ?_
                                                      refine va_get (D := (dC, dI)) (ci := 9) (v := .int (nI n)) (C := RX11) (T := TX11) (N := 55) hx hb hts inX11 hown hK hP 0 rfl rfl 35 (Nat.le_of_ble_eq_true rfl) (hts _ mw_1194) (fun _ h9 => h9) rfl dX11_shift_250 ?_
                                                      refine lv_iconst (v := 1) hx hb dX11_shift_253 rfl ?_
                                                      refine lv_isub hx hb dX11_shift_254 ?_
                                                      refine zz_i (v := nI (n - 1)) (pk_sub (a := n) (b := 1) (by omega)) ?_
                                                      have b9_121 : zlt ((n - 1)) := show (n - 1) < 2147483648 by omega
                                                      refine lv_icmp_ne (tgt := 262) hx hb dX11_shift_255 rfl (fun c_120 => ?_) (fun c_120 => ?_)
                                                      · have c_120 : ¬ ((k : Nat) : Int) = ((n - 1 : Nat) : Int) := zc_ne (nI_toInt b9_106) (nI_toInt b9_121) c_120
                                                        refine lv_iconst (v := 0) hx hb dX11_shift_262 rfl ?_
                                                        refine lv_istore (lv' := [(12, .int 0), (11, .int (nI (wyR (kd f).toInt n kk k))), (10, .int (nI k)), (9, .int 0), (7, .int 0), (8, .int 0), (6, .int 0), (0, .ref k0), (1, .int (nI f)), (2, .int (nI kk)), (3, .int dx), (4, .int dy), (5, .int (nI rr))]) hx hb dX11_shift_263 hl (Nat.le_of_ble_eq_true rfl) rfl (fun ls hl => ?_)
                                                        refine lv_iload hx hb dX11_shift_265 (lv_at hl 0 rfl) ?_
                                                        refine lv_if_eq (tgt := 273) hx hb dX11_shift_267 rfl (fun c_122 => ?_) (fun c_122 => ?_)
                                                        · have hst9 : ¬ (rr < wyR (kd f).toInt n kk k ∨ (¬ 5 ≤ (kd f).toInt ∧ (k = 0 ∨ k = n - 1))) := (by first | exact fun h => h.elim (fun h => by omega) (fun h => absurd (by first | with_reducible assumption | assumption) h.1) | exact fun h => h.elim (fun h => by omega) (fun h => by omega))
                                                          have hwy : wyR (kd f).toInt n kk k ≤ rr := (by have := hst9; omega)
                                                          refine lv_aload_n hx hb dX11_shift_273 rfl (lv_at hl 7 rfl) ?_
                                                          refine va_get (D := (dC, dI)) (ci := 9) (v := .ref (a 12)) (C := RX11) (T := TX11) (N := 55) hx hb hts inX11 hown hK hP 0 rfl rfl 12 (Nat.le_of_ble_eq_true rfl) (hts _ mw_1171) (fun _ h9 => h9) rfl dX11_shift_274 ?_
                                                          refine lv_bipush (v := 40) hx hb dX11_shift_277 rfl ?_
                                                          refine lv_iload_n hx hb dX11_shift_279 rfl (lv_at hl 8 rfl) ?_
                                                          refine lv_imul hx hb dX11_shift_280 ?_
                                                          refine zz_i (v := nI (40 * f)) (pk_mul 40 f) ?_
                                                          refine lv_iload hx hb dX11_shift_281 (lv_at hl 2 rfl) ?_
                                                          refine lv_iadd hx hb dX11_shift_283 ?_
                                                          refine zz_i (v := nI (40 * f + k)) (nI_add (40 * f) k) ?_
                                                          refine lv_aload_n hx hb dX11_shift_284 rfl (lv_at hl 7 rfl) ?_
                                                          refine va_get (D := (dC, dI)) (ci := 9) (v := .ref (a 33)) (C := RX11) (T := TX11) (N := 55) hx hb hts inX11 hown hK hP 0 rfl rfl 33 (Nat.le_of_ble_eq_true rfl) (hts _ mw_1192) (fun _ h9 => h9) rfl dX11_shift_285 ?_
                                                          refine lv_iload hx hb dX11_shift_288 (lv_at hl 2 rfl) ?_
                                                          have b9_123 : k < 42 := by omega
                                                          refine z_iald hx hb hK hP 23 0 rfl rfl (e := k) rfl b9_123 (Nat.le_of_ble_eq_true rfl) dX11_shift_290 ?_
                                                          refine zz_i (v := cF40 cx f k) ((hox _ hk9).1) ?_
                                                          refine lv_iload hx hb dX11_shift_291 (lv_at hl 3 rfl) ?_
                                                          refine lv_if_eq (tgt := 300) hx hb dX11_shift_293 rfl (fun c_124 => ?_) (fun c_124 => ?_)
                                                          · refine lv_iload_n hx hb dX11_shift_300 rfl (lv_at hl 10 rfl) ?_
                                                            refine lv_iload hx hb dX11_shift_301 (lv_at hl 12 rfl) ?_
                                                            refine lv_iconst (v := 1) hx hb dX11_shift_303 rfl ?_
                                                            refine lv_iadd hx hb dX11_shift_304 ?_
                                                            refine zz_i (v := nI (rr + 1)) (nI_add rr 1) ?_
                                                            refine lv_iload hx hb dX11_shift_305 (lv_at hl 1 rfl) ?_
                                                            refine lv_isub hx hb dX11_shift_307 ?_
                                                            refine zz_i (v := nI ((rr + 1) - (wyR (kd f).toInt n kk k))) (pk_sub (a := rr + 1) (b := wyR (kd f).toInt n kk k) (by omega)) ?_
                                                            refine lv_imul hx hb dX11_shift_308 ?_
                                                            refine lv_iload hx hb dX11_shift_309 (lv_at hl 12 rfl) ?_
                                                            refine lv_iconst (v := 1) hx hb dX11_shift_311 rfl ?_
                                                            refine lv_iadd hx hb dX11_shift_312 ?_
                                                            refine zz_i (v := nI (rr + 1)) (nI_add rr 1) ?_
                                                            refine lv_idiv hx hb dX11_shift_313 (nI_ne0 (by omega) (by omega)) ?_
                                                            refine lv_iadd hx hb dX11_shift_314 ?_
                                                            have b9_125 : 40 * f + k < 8040 := by omega
                                                            refine z_iast hx hb hK hP hD hS 12 0 rfl rfl (e := 40 * f + k) (x := (cF40 cx f k) + ((dx * (nI ((rr + 1) - (wyR (kd f).toInt n kk k)))) / (nI (rr + 1)))) rfl b9_125 (Nat.le_of_ble_eq_true rfl) dX11_shift_315 (fun H locs hP hD hS => ?_)
                                                            obtain ⟨hP, hD⟩ := zre (W2 := [_, _, _, _, _, _, _, _, _, _, _, _, (oa (a 12) cI 8040 (upd cx1 (40 * f + k) ((cF40 cx f k) + ((dx * (nI ((rr + 1) - (wyR (kd f).toInt n kk k)))) / (nI (rr + 1)))))), _, _, _, _, _, _, _, _, _, _, _, _, _, _, _, _, _, _, _]) hP hD rfl
                                                            refine lv_aload_n hx hb dX11_shift_316 rfl (lv_at hl 7 rfl) ?_
                                                            refine va_get (D := (dC, dI)) (ci := 9) (v := .ref (a 13)) (C := RX11) (T := TX11) (N := 55) hx hb hts inX11 hown hK hP 0 rfl rfl 13 (Nat.le_of_ble_eq_true rfl) (hts _ mw_1172) (fun _ h9 => h9) rfl dX11_shift_317 ?_
                                                            refine lv_bipush (v := 40) hx hb dX11_shift_320 rfl ?_
                                                            refine lv_iload_n hx hb dX11_shift_322 rfl (lv_at hl 8 rfl) ?_
                                                            refine lv_imul hx hb dX11_shift_323 ?_
                                                            refine zz_i (v := nI (40 * f)) (pk_mul 40 f) ?_
                                                            refine lv_iload hx hb dX11_shift_324 (lv_at hl 2 rfl) ?_
                                                            refine lv_iadd hx hb dX11_shift_326 ?_
                                                            refine zz_i (v := nI (40 * f + k)) (nI_add (40 * f) k) ?_
                                                            refine lv_aload_n hx hb dX11_shift_327 rfl (lv_at hl 7 rfl) ?_
                                                            refine va_get (D := (dC, dI)) (ci := 9) (v := .ref (a 34)) (C := RX11) (T := TX11) (N := 55) hx hb hts inX11 hown hK hP 0 rfl rfl 34 (Nat.le_of_ble_eq_true rfl) (hts _ mw_1193) (fun _ h9 => h9) rfl dX11_shift_328 ?_
                                                            refine lv_iload hx hb dX11_shift_331 (lv_at hl 2 rfl) ?_
                                                            refine z_iald hx hb hK hP 24 0 rfl rfl (e := k) rfl b9_123 (Nat.le_of_ble_eq_true rfl) dX11_shift_333 ?_
                                                            refine zz_i (v := cF40 cy f k) ((hox _ hk9).2) ?_
                                                            refine lv_iload hx hb dX11_shift_334 (lv_at hl 3 rfl) ?_
                                                            refine lv_if_eq (tgt := 344) hx hb dX11_shift_336 rfl (fun c_126 => ?_) (fun c_126 => ?_)
                                                            · refine lv_iload hx hb dX11_shift_344 (lv_at hl 11 rfl) ?_
                                                              refine lv_iload hx hb dX11_shift_346 (lv_at hl 12 rfl) ?_
                                                              refine lv_iconst (v := 1) hx hb dX11_shift_348 rfl ?_
                                                              refine lv_iadd hx hb dX11_shift_349 ?_
                                                              refine zz_i (v := nI (rr + 1)) (nI_add rr 1) ?_
                                                              refine lv_iload hx hb dX11_shift_350 (lv_at hl 1 rfl) ?_
                                                              refine lv_isub hx hb dX11_shift_352 ?_
                                                              refine zz_i (v := nI ((rr + 1) - (wyR (kd f).toInt n kk k))) (pk_sub (a := rr + 1) (b := wyR (kd f).toInt n kk k) (by omega)) ?_
                                                              refine lv_imul hx hb dX11_shift_353 ?_
                                                              refine lv_iload hx hb dX11_shift_354 (lv_at hl 12 rfl) ?_
                                                              refine lv_iconst (v := 1) hx hb dX11_shift_356 rfl ?_
                                                              refine lv_iadd hx hb dX11_shift_357 ?_
                                                              refine zz_i (v := nI (rr + 1)) (nI_add rr 1) ?_
                                                              refine lv_idiv hx hb dX11_shift_358 (nI_ne0 (by omega) (by omega)) ?_
                                                              refine lv_iadd hx hb dX11_shift_359 ?_
                                                              refine z_iast hx hb hK hP hD hS 13 0 rfl rfl (e := 40 * f + k) (x := (cF40 cy f k) + ((dy * (nI ((rr + 1) - (wyR (kd f).toInt n kk k)))) / (nI (rr + 1)))) rfl b9_125 (Nat.le_of_ble_eq_true rfl) dX11_shift_360 (fun H locs hP hD hS => ?_)
                                                              obtain ⟨hP, hD⟩ := zre (W2 := [_, _, _, _, _, _, _, _, _, _, _, _, _, (oa (a 13) cI 8040 (upd cy1 (40 * f + k) ((cF40 cy f k) + ((dy * (nI ((rr + 1) - (wyR (kd f).toInt n kk k)))) / (nI (rr + 1)))))), _, _, _, _, _, _, _, _, _, _, _, _, _, _, _, _, _, _]) hP hD rfl
                                                              refine lv_iinc (v := nI (k + 1)) (lv' := [(10, .int (nI (k + 1))), (12, .int 0), (11, .int (nI (wyR (kd f).toInt n kk k))), (9, .int 0), (7, .int 0), (8, .int 0), (6, .int 0), (0, .ref k0), (1, .int (nI f)), (2, .int (nI kk)), (3, .int dx), (4, .int dy), (5, .int (nI rr))]) hx hb dX11_shift_361 hl (k := 2) rfl (nI_add k 1) (Nat.le_of_ble_eq_true rfl) rfl (fun ls hl => ?_)
                                                              refine lv_goto (tgt := 203) hx hb dX11_shift_364 rfl ?_
                                                              exact ih_203 (k + 1) (upd cx1 (40 * f + k) ((cF40 cx f k) + ((dx * (nI ((rr + 1) - (wyR (kd f).toInt n kk k)))) / (nI (rr + 1))))) (upd cy1 (40 * f + k) ((cF40 cy f k) + ((dy * (nI ((rr + 1) - (wyR (kd f).toInt n kk k)))) / (nI (rr + 1))))) H locs ls (by first | with_reducible assumption | omega) (by first | with_reducible assumption | omega) (by first | exact fgX_u hcx (shV_f (by first | with_reducible assumption | assumption)) | exact fgX_k hcx (shV_t (X := cF40 cx f) (by first | exact Or.inl (by first | with_reducible assumption | omega) | exact Or.inr ⟨by assumption, by omega⟩))) (by first | exact fgX_u hcy (shV_f (by first | with_reducible assumption | assumption)) | exact fgX_k hcy (shV_t (X := cF40 cy f) (by first | exact Or.inl (by first | with_reducible assumption | omega) | exact Or.inr ⟨by assumption, by omega⟩))) hP hD hS (lv_sub hl [0, 3, 4, 5, 6, 7, 8, 9, 10, 11, 12] rfl)
                                                            · exact absurd (by decide) c_126
                                                          · exact absurd (by decide) c_124
                                                        · exact absurd (by decide) c_122
                                                      · have c_120 : ((k : Nat) : Int) = ((n - 1 : Nat) : Int) := zc_eq (nI_toInt b9_106) (nI_toInt b9_121) c_120
                                                        refine lv_iconst (v := 1) hx hb dX11_shift_258 rfl ?_
                                                        refine lv_goto (tgt := 263) hx hb dX11_shift_259 rfl ?_
                                                        refine lv_istore (lv' := [(12, .int 1), (11, .int (nI (wyR (kd f).toInt n kk k))), (10, .int (nI k)), (9, .int 0), (7, .int 0), (8, .int 0), (6, .int 0), (0, .ref k0), (1, .int (nI f)), (2, .int (nI kk)), (3, .int dx), (4, .int dy), (5, .int (nI rr))]) hx hb dX11_shift_263 hl (Nat.le_of_ble_eq_true rfl) rfl (fun ls hl => ?_)
                                                        refine lv_iload hx hb dX11_shift_265 (lv_at hl 0 rfl) ?_
                                                        refine lv_if_eq (tgt := 273) hx hb dX11_shift_267 rfl (fun c_127 => ?_) (fun c_127 => ?_)
                                                        · exact absurd c_127 (by decide)
                                                        · refine lv_goto (tgt := 361) hx hb dX11_shift_270 rfl ?_
                                                          refine lv_iinc (v := nI (k + 1)) (lv' := [(10, .int (nI (k + 1))), (12, .int 1), (11, .int (nI (wyR (kd f).toInt n kk k))), (9, .int 0), (7, .int 0), (8, .int 0), (6, .int 0), (0, .ref k0), (1, .int (nI f)), (2, .int (nI kk)), (3, .int dx), (4, .int dy), (5, .int (nI rr))]) hx hb dX11_shift_361 hl (k := 2) rfl (nI_add k 1) (Nat.le_of_ble_eq_true rfl) rfl (fun ls hl => ?_)
                                                          refine lv_goto (tgt := 203) hx hb dX11_shift_364 rfl ?_
                                                          exact ih_203 (k + 1) cx1 cy1 H locs ls (by first | with_reducible assumption | omega) (by first | with_reducible assumption | omega) (by first | exact fgX_u hcx (shV_f (by first | with_reducible assumption | assumption)) | exact fgX_k hcx (shV_t (X := cF40 cx f) (by first | exact Or.inl (by first | with_reducible assumption | omega) | exact Or.inr ⟨by assumption, by omega⟩))) (by first | exact fgX_u hcy (shV_f (by first | with_reducible assumption | assumption)) | exact fgX_k hcy (shV_t (X := cF40 cy f) (by first | exact Or.inl (by first | with_reducible assumption | omega) | exact Or.inr ⟨by assumption, by omega⟩))) hP hD hS (lv_sub hl [0, 3, 4, 5, 6, 7, 8, 9, 10, 11, 12] rfl)
                                        exact hl_203 _ 0 cx cy H locs ls (Nat.lt_succ_self _) (by first | with_reducible assumption | omega) (fgX_0 _ _ _) (fgX_0 _ _ _) hP hD hS (lv_sub hl [0, 1, 2, 3, 4, 5, 6, 7, 8, 9, 10] rfl)
                                      · have c_104 : (kd f).toInt = 6 := zc_eq rfl rfl c_104
                                        exfalso; omega
                                  · exact absurd (by decide) c_102
                                · have c_101 : ¬ (tn f).toInt = 0 := zc_ne rfl rfl c_101
                                  exfalso; omega
                              · exact absurd (by decide) c_100
                            · exact absurd (by decide) c_99
                          · have c_98 : 20 < ((rr : Nat) : Int) := zc_nle (nI_toInt b9_97) rfl c_98
                            exfalso; omega
              · have c_91 : ¬ (st f).toInt = 1 := zc_ne rfl rfl c_91
                exfalso; omega
            · exact absurd (by decide) c_90
        · have c_87 : ((n : Nat) : Int) ≤ ((kk : Nat) : Int) := zc_nlt (nI_toInt b9_86) (nI_toInt b9_88) c_87
          exfalso; omega
set_option maxHeartbeats 4000000 in
set_option maxRecDepth 100000 in
theorem k_M_shift_p_n (l : Launch) (dC : Nat → ClassId) (dI : Nat → Nat → Nat) (cI cZ cF : ClassId) (sz : Nat) (k0 : Nat) (a : Nat → Nat) (I0 : Nat → Int32) (J0 : Nat → Int64) (f : Nat) (n : Nat) (ft : Nat) (kk : Nat) (rr : Nat) (dx : Int32) (dy : Int32) (kd : Nat → Int32) (st : Nat → Int32) (gb : Nat → Int32) (it : Nat → Int32) (pa : Nat → Int32) (pb : Nat → Int32) (rk : Nat → Int32) (wd : Nat → Int32) (tw : Nat → Int32) (tn : Nat → Int32) (mn : Nat → Int32) (cx : Nat → Int32) (cy : Nat → Int32) (sa : Nat → Int32) (sh : Nat → Int32) (wh : Nat → Int32) (of9 : Nat → Int32) (we : Nat → Int32) (S0 : Nat → Int32) (T0 : Nat → Int32) (P0 : Nat → Int32) (Q0 : Nat → Int32) (ox : Nat → Int32) (oy : Nat → Int32) (mt : Nat → Int32) (wi : Nat → Int32) (ins : Nat → Int32) (la : Nat → Int32) (lb : Nat → Int32) (lc : Nat → Int32) (ld : Nat → Int32) (cp : Nat) (cl : Nat) (hft : I0 0 = nI ft) (h200 : ft ≤ 200) (hf_f : f ≤ 200) (hm_f : mn f = nI n) (hn_f : 1 ≤ n ∧ n ≤ 40) (hp_f : pls n (cF40 cx f) (cF40 cy f)) (hft_f : f < ft) (hwf : ∀ q, lvF ft st tn q → wfM mn cx cy q) (hst1 : (st f).toInt = 1) (htn0 : (tn f).toInt = 0) (hkk : kk < n) (hrr : rr ≤ 20) (hdx : -200 ≤ dx.toInt ∧ dx.toInt ≤ 200) (hdy : -200 ≤ dy.toInt ∧ dy.toInt ≤ 200) (hkd1 : ¬ (kd f).toInt = 0 ∧ ¬ (kd f).toInt = 6) (hmv : mvd n (fun i => shV (kd f).toInt n kk dx rr (cF40 cx f) i) (fun i => shV (kd f).toInt n kk dy rr (cF40 cy f) i) (cF40 cx f) (cF40 cy f)) (hlaw : ¬ lwM ft st tn kd mn cx cy f n (fun i => shV (kd f).toInt n kk dx rr (cF40 cx f) i) (fun i => shV (kd f).toInt n kk dy rr (cF40 cy f) i)) : zM l yX11_shift cX11_shift 13 (some .boolean) ({ frames := 8, cells := 0, slots := 0, locals := 210 } : Room) [.ref k0, .int (nI f), .int (nI kk), .int dx, .int dy, .int (nI rr)] (dC, dI) (zTy cI cZ cF) [(om k0 a I0 J0), (oa (a 1) cI 201 kd), (oa (a 5) cI 201 st), (oa (a 7) cI 201 gb), (oa (a 10) cI 201 it), (oa (a 8) cI 201 pa), (oa (a 9) cI 201 pb), (oa (a 2) cI 201 rk), (oa (a 3) cI 201 wd), (oa (a 4) cI 201 tw), (oa (a 6) cZ 201 tn), (oa (a 11) cI 201 mn), (oa (a 12) cI 8040 cx), (oa (a 13) cI 8040 cy), (oa (a 27) cI 516 sa), (oa (a 28) cI (4096 * cp) sh), (oa (a 16) cI 514 wh), (oa (a 17) cI 514 of9), (oa (a 18) cI 514 we), (oa (a 32) cI 8 S0), (oa (a 40) cI 6 T0), (oa (a 29) cI 42 P0), (oa (a 30) cI 42 Q0), (oa (a 33) cI 42 ox), (oa (a 34) cI 42 oy), (oa (a 37) cZ 201 mt), (oa (a 38) cZ 201 wi), (oa (a 39) cZ 8040 ins), (oa (a 22) cI (64 * cl) la), (oa (a 23) cI (64 * cl) lb), (oa (a 24) cI (64 * cl) lc), (oa (a 25) cI (64 * cl) ld)] sz (some (.int 0)) (fun A t => ∃ (z9 : Int32), ∃ (S1 : Nat → Int32), ∃ (T1 : Nat → Int32), ∃ (P1 : Nat → Int32), ∃ (Q1 : Nat → Int32), ∃ (ox1 : Nat → Int32), ∃ (oy1 : Nat → Int32), ∃ (mt1 : Nat → Int32), ∃ (wi1 : Nat → Int32), ∃ (ins1 : Nat → Int32), zPD (dC, dI) classes A [(om k0 a (upd (upd (upd (upd (upd I0 14 7) 15 (I0 15 + 1)) 31 z9) 35 (nI n)) 36 (kd f)) J0), (oa (a 1) cI 201 kd), (oa (a 5) cI 201 st), (oa (a 7) cI 201 gb), (oa (a 10) cI 201 it), (oa (a 8) cI 201 pa), (oa (a 9) cI 201 pb), (oa (a 2) cI 201 rk), (oa (a 3) cI 201 wd), (oa (a 4) cI 201 tw), (oa (a 6) cZ 201 tn), (oa (a 11) cI 201 mn), (oa (a 12) cI 8040 cx), (oa (a 13) cI 8040 cy), (oa (a 27) cI 516 sa), (oa (a 28) cI (4096 * cp) sh), (oa (a 16) cI 514 wh), (oa (a 17) cI 514 of9), (oa (a 18) cI 514 we), (oa (a 32) cI 8 S1), (oa (a 40) cI 6 T1), (oa (a 29) cI 42 P1), (oa (a 30) cI 42 Q1), (oa (a 33) cI 42 ox1), (oa (a 34) cI 42 oy1), (oa (a 37) cZ 201 mt1), (oa (a 38) cZ 201 wi1), (oa (a 39) cZ 8040 ins1), (oa (a 22) cI (64 * cl) la), (oa (a 23) cI (64 * cl) lb), (oa (a 24) cI (64 * cl) lc), (oa (a 25) cI (64 * cl) ld)] t.heap) 0 0 := by
  refine zIn (own := "ScaleShopModel") (loc := [(0, .ref k0), (1, .int (nI f)), (2, .int (nI kk)), (3, .int dx), (4, .int dy), (5, .int (nI rr))]) rfl rfl rfl rfl (fun p e s m below meth c hx hb hr hts hown hlocks hml hnm9 A hA hS hP hD hK hXN Q9 hQ9 ls hl => ?_)
  have hum : upd mn f (nI n) = mn := upd_self hm_f
  have huk : upd kd f (kd f) = kd := upd_self rfl
  refine lv_aload_n hx hb dX11_shift_0 rfl (lv_at hl 0 rfl) ?_
  refine lv_iload_n hx hb dX11_shift_1 rfl (lv_at hl 1 rfl) ?_
  obtain ⟨hPc, hDc, hFc, hI1⟩ := zi_sub (wc := [_]) hP hD hS hA [0] rfl rfl
  refine zcall (st1 := [.int (pI (f < ft))]) (va_runV (As := [.int (nI f)]) (rest := []) ⟨hx, hb, hml, hown, hts⟩ (k_M_isFeature_n l dC dI cI cZ cF s.heap.size k0 a I0 J0 f ft (by first | with_reducible assumption | assumption) (by first | with_reducible assumption | omega) (by first | with_reducible assumption | omega)) (csV_178 hts rfl rfl ⟨Nat.le_of_ble_eq_true rfl, Nat.le_of_ble_eq_true rfl⟩) (zPV2 (q0 := 0) (ci := 9) hPc hDc hK hXN rfl rfl) rfl rfl hl.1 rfl (lv_room (Nat.le_of_ble_eq_true rfl)) dX11_shift_2 ⟨Nat.le_of_ble_eq_true rfl, Nat.le_of_ble_eq_true rfl⟩) hS hFc hFc rfl (fun t H locs ht hB hk1 hS => ?_)
  obtain ⟨hP1, hD1⟩ := hB
  rw [ht] at hP1
  replace hP := z0 hP hD hk1 hP1 hI1
  clear hk1 hPc hDc hFc hP1 hD1 ht hI1
  refine lv_if_eq (tgt := 35) hx hb dX11_shift_5 rfl (fun c_1 => ?_) (fun c_1 => ?_)
  · have c_1 : ¬ (f < ft) := zp_0 c_1
    refine lv_iconst (v := 0) hx hb dX11_shift_35 rfl ?_
    refine lv_istore (lv' := [(6, .int 0), (0, .ref k0), (1, .int (nI f)), (2, .int (nI kk)), (3, .int dx), (4, .int dy), (5, .int (nI rr))]) hx hb dX11_shift_36 hl (Nat.le_of_ble_eq_true rfl) rfl (fun ls hl => ?_)
    refine lv_aload_n hx hb dX11_shift_38 rfl (lv_at hl 1 rfl) ?_
    refine lv_iload_n hx hb dX11_shift_39 rfl (lv_at hl 2 rfl) ?_
    obtain ⟨hPc, hDc, hFc, hI1⟩ := zi_sub (wc := [_]) hP hD hS hA [0] rfl rfl
    refine zcall (st1 := [.int (pI (f < ft))]) (va_runV (As := [.int (nI f)]) (rest := []) ⟨hx, hb, hml, hown, hts⟩ (k_M_isFeature_n l dC dI cI cZ cF H.size k0 a I0 J0 f ft (by first | with_reducible assumption | assumption) (by first | with_reducible assumption | omega) (by first | with_reducible assumption | omega)) (csV_178 hts rfl rfl ⟨Nat.le_of_ble_eq_true rfl, Nat.le_of_ble_eq_true rfl⟩) (zPV2 (q0 := 0) (ci := 9) hPc hDc hK hXN rfl rfl) rfl rfl hl.1 rfl (lv_room (Nat.le_of_ble_eq_true rfl)) dX11_shift_40 ⟨Nat.le_of_ble_eq_true rfl, Nat.le_of_ble_eq_true rfl⟩) hS hFc hFc rfl (fun t H locs ht hB hk1 hS => ?_)
    obtain ⟨hP1, hD1⟩ := hB
    rw [ht] at hP1
    replace hP := z0 hP hD hk1 hP1 hI1
    clear hk1 hPc hDc hFc hP1 hD1 ht hI1
    refine lv_if_eq (tgt := 51) hx hb dX11_shift_43 rfl (fun c_2 => ?_) (fun c_2 => ?_)
    · have c_2 : ¬ (f < ft) := zp_0 c_2
      exfalso; omega
    · have c_2 : f < ft := zp_1 c_2
      refine lv_iload hx hb dX11_shift_46 (lv_at hl 0 rfl) ?_
      refine lv_if_eq (tgt := 55) hx hb dX11_shift_48 rfl (fun c_3 => ?_) (fun c_3 => ?_)
      · refine lv_aload_n hx hb dX11_shift_55 rfl (lv_at hl 1 rfl) ?_
        refine va_get (D := (dC, dI)) (ci := 9) (v := .ref (a 5)) (C := RX11) (T := TX11) (N := 55) hx hb hts inX11 hown hK hP 0 rfl rfl 5 (Nat.le_of_ble_eq_true rfl) (hts _ mw_1164) (fun _ h9 => h9) rfl dX11_shift_56 ?_
        refine lv_iload_n hx hb dX11_shift_59 rfl (lv_at hl 2 rfl) ?_
        have b9_4 : f < 201 := by omega
        refine z_iald hx hb hK hP 2 0 rfl rfl (e := f) rfl b9_4 (Nat.le_of_ble_eq_true rfl) dX11_shift_60 ?_
        refine lv_iconst (v := 1) hx hb dX11_shift_61 rfl ?_
        refine lv_icmp_eq (tgt := 69) hx hb dX11_shift_62 rfl (fun c_5 => ?_) (fun c_5 => ?_)
        · have c_5 : (st f).toInt = 1 := zc_eq rfl rfl c_5
          refine lv_iconst (v := 0) hx hb dX11_shift_69 rfl ?_
          refine lv_istore (lv' := [(7, .int 0), (6, .int 0), (0, .ref k0), (1, .int (nI f)), (2, .int (nI kk)), (3, .int dx), (4, .int dy), (5, .int (nI rr))]) hx hb dX11_shift_70 hl (Nat.le_of_ble_eq_true rfl) rfl (fun ls hl => ?_)
          refine lv_iload_n hx hb dX11_shift_72 rfl (lv_at hl 5 rfl) ?_
          refine lv_sipush (v := (-200)) hx hb dX11_shift_73 rfl ?_
          refine lv_icmp_lt (tgt := 114) hx hb dX11_shift_76 rfl (fun c_6 => ?_) (fun c_6 => ?_)
          · have c_6 : dx.toInt < (-200) := zc_lt rfl rfl c_6
            exfalso; omega
          · have c_6 : (-200) ≤ dx.toInt := zc_nlt rfl rfl c_6
            refine lv_iload_n hx hb dX11_shift_79 rfl (lv_at hl 5 rfl) ?_
            refine lv_sipush (v := 200) hx hb dX11_shift_80 rfl ?_
            refine lv_icmp_gt (tgt := 114) hx hb dX11_shift_83 rfl (fun c_7 => ?_) (fun c_7 => ?_)
            · have c_7 : 200 < dx.toInt := zc_lt rfl rfl c_7
              exfalso; omega
            · have c_7 : dx.toInt ≤ 200 := zc_nlt rfl rfl c_7
              refine lv_iload hx hb dX11_shift_86 (lv_at hl 6 rfl) ?_
              refine lv_sipush (v := (-200)) hx hb dX11_shift_88 rfl ?_
              refine lv_icmp_lt (tgt := 114) hx hb dX11_shift_91 rfl (fun c_8 => ?_) (fun c_8 => ?_)
              · have c_8 : dy.toInt < (-200) := zc_lt rfl rfl c_8
                exfalso; omega
              · have c_8 : (-200) ≤ dy.toInt := zc_nlt rfl rfl c_8
                refine lv_iload hx hb dX11_shift_94 (lv_at hl 6 rfl) ?_
                refine lv_sipush (v := 200) hx hb dX11_shift_96 rfl ?_
                refine lv_icmp_gt (tgt := 114) hx hb dX11_shift_99 rfl (fun c_9 => ?_) (fun c_9 => ?_)
                · have c_9 : 200 < dy.toInt := zc_lt rfl rfl c_9
                  exfalso; omega
                · have c_9 : dy.toInt ≤ 200 := zc_nlt rfl rfl c_9
                  refine lv_iload hx hb dX11_shift_102 (lv_at hl 7 rfl) ?_
                  have b9_11 : zlt (rr) := show rr < 2147483648 by omega
                  refine lv_if_lt (tgt := 114) hx hb dX11_shift_104 rfl (fun c_10 => ?_) (fun c_10 => ?_)
                  · have c_10 : ((rr : Nat) : Int) < 0 := zc_lt (nI_toInt b9_11) rfl c_10
                    exfalso; omega
                  · have c_10 : 0 ≤ ((rr : Nat) : Int) := zc_nlt (nI_toInt b9_11) rfl c_10
                    refine lv_iload hx hb dX11_shift_107 (lv_at hl 7 rfl) ?_
                    refine lv_bipush (v := 20) hx hb dX11_shift_109 rfl ?_
                    refine lv_icmp_le (tgt := 118) hx hb dX11_shift_111 rfl (fun c_12 => ?_) (fun c_12 => ?_)
                    · have c_12 : ((rr : Nat) : Int) ≤ 20 := zc_le (nI_toInt b9_11) rfl c_12
                      refine lv_iconst (v := 0) hx hb dX11_shift_118 rfl ?_
                      refine lv_istore (lv' := [(8, .int 0), (7, .int 0), (6, .int 0), (0, .ref k0), (1, .int (nI f)), (2, .int (nI kk)), (3, .int dx), (4, .int dy), (5, .int (nI rr))]) hx hb dX11_shift_119 hl (Nat.le_of_ble_eq_true rfl) rfl (fun ls hl => ?_)
                      refine lv_iload hx hb dX11_shift_121 (lv_at hl 1 rfl) ?_
                      refine lv_if_le (tgt := 131) hx hb dX11_shift_123 rfl (fun c_13 => ?_) (fun c_13 => ?_)
                      · refine lv_iload hx hb dX11_shift_131 (lv_at hl 0 rfl) ?_
                        refine lv_if_eq (tgt := 140) hx hb dX11_shift_133 rfl (fun c_14 => ?_) (fun c_14 => ?_)
                        · refine lv_aload_n hx hb dX11_shift_140 rfl (lv_at hl 3 rfl) ?_
                          refine va_get (D := (dC, dI)) (ci := 9) (v := .ref (a 6)) (C := RX11) (T := TX11) (N := 55) hx hb hts inX11 hown hK hP 0 rfl rfl 6 (Nat.le_of_ble_eq_true rfl) (hts _ mw_1165) (fun _ h9 => h9) rfl dX11_shift_141 ?_
                          refine lv_iload_n hx hb dX11_shift_144 rfl (lv_at hl 4 rfl) ?_
                          refine z_zald hx hb hK hP 10 1 rfl rfl (e := f) rfl b9_4 (Nat.le_of_ble_eq_true rfl) dX11_shift_145 ?_
                          refine lv_if_eq (tgt := 153) hx hb dX11_shift_146 rfl (fun c_15 => ?_) (fun c_15 => ?_)
                          · have c_15 : (tn f).toInt = 0 := zc_eq rfl rfl c_15
                            refine lv_iconst (v := 0) hx hb dX11_shift_153 rfl ?_
                            refine lv_istore (lv' := [(7, .int 0), (8, .int 0), (6, .int 0), (0, .ref k0), (1, .int (nI f)), (2, .int (nI kk)), (3, .int dx), (4, .int dy), (5, .int (nI rr))]) hx hb dX11_shift_154 hl (Nat.le_of_ble_eq_true rfl) rfl (fun ls hl => ?_)
                            refine lv_iload hx hb dX11_shift_156 (lv_at hl 0 rfl) ?_
                            refine lv_if_le (tgt := 168) hx hb dX11_shift_158 rfl (fun c_16 => ?_) (fun c_16 => ?_)
                            · refine lv_aload_n hx hb dX11_shift_168 rfl (lv_at hl 3 rfl) ?_
                              refine lv_iload_n hx hb dX11_shift_169 rfl (lv_at hl 4 rfl) ?_
                              obtain ⟨hPc, hDc, hFc⟩ := zo_sub (wc := [_, _, _, _, _, _, _, _, _, _, _, _, _]) hP hD hS hA [0, 2, 10, 1, 11, 12, 13, 19, 23, 24, 25, 26, 27] (by decide +kernel) rfl
                              refine zcall (st1 := []) (va_runV (As := [.int (nI f)]) (rest := []) ⟨hx, hb, hml, hown, hts⟩ (k_M_remember l dC dI cI cZ cF H.size k0 a I0 J0 f n ft st tn kd mn cx cy S0 ox oy mt wi ins (by first | with_reducible assumption | assumption) (by first | with_reducible assumption | omega) (by first | with_reducible assumption | omega) (by first | with_reducible assumption | assumption) (by first | with_reducible assumption | omega) (by first | with_reducible assumption | assumption) (fun q h1 _ => hwf q h1)) (csV_190 hts rfl rfl ⟨Nat.le_of_ble_eq_true rfl, Nat.le_of_ble_eq_true rfl⟩) (zPV2 (q0 := 0) (ci := 9) hPc hDc hK hXN rfl rfl) rfl rfl hl.1 rfl (lv_room (Nat.le_of_ble_eq_true rfl)) dX11_shift_170 ⟨Nat.le_of_ble_eq_true rfl, Nat.le_of_ble_eq_true rfl⟩) hS hFc hFc rfl (fun t H locs ht hB hk1 hS => ?_)
                              refine ex6 hB (fun S1 ox1 oy1 mt1 wi1 ins1 hB0 => ?_)
                              clear hB
                              obtain ⟨hox, hmt, hwi, hin, hP1, hD1⟩ := hB0
                              rw [ht] at hP1
                              obtain ⟨hP, hD⟩ := zn (W2 := [(om k0 a (upd (upd I0 35 (nI n)) 36 (kd f)) J0), _, _, _, _, _, _, _, _, _, _, _, _, _, _, _, _, _, _, (oa (a 32) cI 8 S1), _, _, _, (oa (a 33) cI 42 ox1), (oa (a 34) cI 42 oy1), (oa (a 37) cZ 201 mt1), (oa (a 38) cZ 201 wi1), (oa (a 39) cZ 8040 ins1), _, _, _, _]) hP hD hk1 hFc hP1 hD1 zl_194 zl_195 zl_195 zl_194 (by decide +kernel) rfl rfl rfl rfl rfl
                              clear hk1 hPc hDc hFc hP1 hD1 ht
                              refine lv_aload_n hx hb dX11_shift_173 rfl (lv_at hl 3 rfl) ?_
                              refine va_get (D := (dC, dI)) (ci := 9) (v := .ref (a 1)) (C := RX11) (T := TX11) (N := 55) hx hb hts inX11 hown hK hP 0 rfl rfl 1 (Nat.le_of_ble_eq_true rfl) (hts _ mw_1160) (fun _ h9 => h9) rfl dX11_shift_174 ?_
                              refine lv_iload_n hx hb dX11_shift_177 rfl (lv_at hl 4 rfl) ?_
                              refine z_iald hx hb hK hP 1 0 rfl rfl (e := f) rfl b9_4 (Nat.le_of_ble_eq_true rfl) dX11_shift_178 ?_
                              refine lv_if_eq (tgt := 193) hx hb dX11_shift_179 rfl (fun c_17 => ?_) (fun c_17 => ?_)
                              · have c_17 : (kd f).toInt = 0 := zc_eq rfl rfl c_17
                                exfalso; omega
                              · have c_17 : ¬ (kd f).toInt = 0 := zc_ne rfl rfl c_17
                                refine lv_aload_n hx hb dX11_shift_182 rfl (lv_at hl 3 rfl) ?_
                                refine va_get (D := (dC, dI)) (ci := 9) (v := .ref (a 1)) (C := RX11) (T := TX11) (N := 55) hx hb hts inX11 hown hK hP 0 rfl rfl 1 (Nat.le_of_ble_eq_true rfl) (hts _ mw_1160) (fun _ h9 => h9) rfl dX11_shift_183 ?_
                                refine lv_iload_n hx hb dX11_shift_186 rfl (lv_at hl 4 rfl) ?_
                                refine z_iald hx hb hK hP 1 0 rfl rfl (e := f) rfl b9_4 (Nat.le_of_ble_eq_true rfl) dX11_shift_187 ?_
                                refine lv_bipush (v := 6) hx hb dX11_shift_188 rfl ?_
                                refine lv_icmp_ne (tgt := 197) hx hb dX11_shift_190 rfl (fun c_18 => ?_) (fun c_18 => ?_)
                                · have c_18 : ¬ (kd f).toInt = 6 := zc_ne rfl rfl c_18
                                  refine lv_iconst (v := 0) hx hb dX11_shift_197 rfl ?_
                                  refine lv_istore (lv' := [(9, .int 0), (7, .int 0), (8, .int 0), (6, .int 0), (0, .ref k0), (1, .int (nI f)), (2, .int (nI kk)), (3, .int dx), (4, .int dy), (5, .int (nI rr))]) hx hb dX11_shift_198 hl (Nat.le_of_ble_eq_true rfl) rfl (fun ls hl => ?_)
                                  refine lv_iconst (v := 0) hx hb dX11_shift_200 rfl ?_
                                  refine lv_istore (lv' := [(10, .int 0), (9, .int 0), (7, .int 0), (8, .int 0), (6, .int 0), (0, .ref k0), (1, .int (nI f)), (2, .int (nI kk)), (3, .int dx), (4, .int dy), (5, .int (nI rr))]) hx hb dX11_shift_201 hl (Nat.le_of_ble_eq_true rfl) rfl (fun ls hl => ?_)
                                  have hl_203 : ∀ (n9 : Nat) (k : Nat) (cx1 : Nat → Int32) (cy1 : Nat → Int32) (H : Heap) (locs : List Loc) (ls : Array Slot), n - k < n9 → (k ≤ n) → (cx1 = fgX f k (fun i => shV (kd f).toInt n kk dx rr (cF40 cx f) i) cx) → (cy1 = fgX f k (fun i => shV (kd f).toInt n kk dy rr (cF40 cy f) i) cy) → va_P (dC, dI) classes [(om k0 a (upd (upd I0 35 (nI n)) 36 (kd f)) J0), (oa (a 1) cI 201 kd), (oa (a 5) cI 201 st), (oa (a 7) cI 201 gb), (oa (a 10) cI 201 it), (oa (a 8) cI 201 pa), (oa (a 9) cI 201 pb), (oa (a 2) cI 201 rk), (oa (a 3) cI 201 wd), (oa (a 4) cI 201 tw), (oa (a 6) cZ 201 tn), (oa (a 11) cI 201 mn), (oa (a 12) cI 8040 cx1), (oa (a 13) cI 8040 cy1), (oa (a 27) cI 516 sa), (oa (a 28) cI (4096 * cp) sh), (oa (a 16) cI 514 wh), (oa (a 17) cI 514 of9), (oa (a 18) cI 514 we), (oa (a 32) cI 8 S1), (oa (a 40) cI 6 T0), (oa (a 29) cI 42 P0), (oa (a 30) cI 42 Q0), (oa (a 33) cI 42 ox1), (oa (a 34) cI 42 oy1), (oa (a 37) cZ 201 mt1), (oa (a 38) cZ 201 wi1), (oa (a 39) cZ 8040 ins1), (oa (a 22) cI (64 * cl) la), (oa (a 23) cI (64 * cl) lb), (oa (a 24) cI (64 * cl) lc), (oa (a 25) cI (64 * cl) ld)] H → va_D A [(om k0 a (upd (upd I0 35 (nI n)) 36 (kd f)) J0), (oa (a 1) cI 201 kd), (oa (a 5) cI 201 st), (oa (a 7) cI 201 gb), (oa (a 10) cI 201 it), (oa (a 8) cI 201 pa), (oa (a 9) cI 201 pb), (oa (a 2) cI 201 rk), (oa (a 3) cI 201 wd), (oa (a 4) cI 201 tw), (oa (a 6) cZ 201 tn), (oa (a 11) cI 201 mn), (oa (a 12) cI 8040 cx1), (oa (a 13) cI 8040 cy1), (oa (a 27) cI 516 sa), (oa (a 28) cI (4096 * cp) sh), (oa (a 16) cI 514 wh), (oa (a 17) cI 514 of9), (oa (a 18) cI 514 we), (oa (a 32) cI 8 S1), (oa (a 40) cI 6 T0), (oa (a 29) cI 42 P0), (oa (a 30) cI 42 Q0), (oa (a 33) cI 42 ox1), (oa (a 34) cI 42 oy1), (oa (a 37) cZ 201 mt1), (oa (a 38) cZ 201 wi1), (oa (a 39) cZ 8040 ins1), (oa (a 22) cI (64 * cl) la), (oa (a 23) cI (64 * cl) lb), (oa (a 24) cI (64 * cl) lc), (oa (a 25) cI (64 * cl) ld)] → va_S A s.heap H locs → lv_has ls 13 [(10, .int (nI k)), (9, .int 0), (7, .int 0), (8, .int 0), (6, .int 0), (0, .ref k0), (1, .int (nI f)), (2, .int (nI kk)), (3, .int dx), (4, .int dy), (5, .int (nI rr))] → W p l e ({ frames := 8, cells := 0, slots := 0, locals := 210 } : Room) s m ([.ref k0, .int (nI f), .int (nI kk), .int dx, .int dy, .int (nI rr)] : List Value).toArray below meth c H locs 0 0 Q9 (F0 m 203 ls []) := by
                                    intro n9
                                    induction n9 with
                                    | zero => intro k cx1 cy1 H locs ls hm; exact absurd hm (Nat.not_lt_zero _)
                                    | succ n9 ih_203 =>
                                      intro k cx1 cy1 H locs ls hm hk hcx hcy hP hD hS hl
                                      refine lv_iload hx hb dX11_shift_203 (lv_at hl 0 rfl) ?_
                                      refine lv_aload_n hx hb dX11_shift_205 rfl (lv_at hl 5 rfl) ?_
                                      refine va_get (D := (dC, dI)) (ci := 9) (v := .int (nI n)) (C := RX11) (T := TX11) (N := 55) hx hb hts inX11 hown hK hP 0 rfl rfl 35 (Nat.le_of_ble_eq_true rfl) (hts _ mw_1194) (fun _ h9 => h9) rfl dX11_shift_206 ?_
                                      have b9_20 : zlt (k) := show k < 2147483648 by omega
                                      have b9_21 : zlt (n) := show n < 2147483648 by omega
                                      refine lv_icmp_ge (tgt := 367) hx hb dX11_shift_209 rfl (fun c_19 => ?_) (fun c_19 => ?_)
                                      · have c_19 : ((n : Nat) : Int) ≤ ((k : Nat) : Int) := zc_le (nI_toInt b9_21) (nI_toInt b9_20) c_19
                                        have hkn : k = n := (by omega)
                                        rw [hkn] at hcx hcy
                                        refine lv_aload_n hx hb dX11_shift_367 rfl (lv_at hl 5 rfl) ?_
                                        refine lv_iload_n hx hb dX11_shift_368 rfl (lv_at hl 6 rfl) ?_
                                        obtain ⟨hPc, hDc, hFc, hI1⟩ := zi_sub (wc := [_, _, _, _, _]) hP hD hS hA [0, 12, 13, 23, 24] (by decide +kernel) rfl
                                        refine zcall (st1 := [.int (pI (∃ k, k < n ∧ ¬ ((cx1 (40 * f + k)).toInt = (ox1 k).toInt ∧ (cy1 (40 * f + k)).toInt = (oy1 k).toInt)))]) (va_runV (As := [.int (nI f)]) (rest := []) ⟨hx, hb, hml, hown, hts⟩ (k_M_moves l dC dI cI cZ cF H.size k0 a (upd (upd I0 35 (nI n)) 36 (kd f)) J0 f n cx1 cy1 ox1 oy1 (by first | with_reducible assumption | omega) (rfl) (by first | with_reducible assumption | omega)) (csV_211 hts rfl rfl ⟨Nat.le_of_ble_eq_true rfl, Nat.le_of_ble_eq_true rfl⟩) (zPV2 (q0 := 0) (ci := 9) hPc hDc hK hXN rfl rfl) rfl rfl hl.1 rfl (lv_room (Nat.le_of_ble_eq_true rfl)) dX11_shift_369 ⟨Nat.le_of_ble_eq_true rfl, Nat.le_of_ble_eq_true rfl⟩) hS hFc hFc rfl (fun t H locs ht hB hk1 hS => ?_)
                                        obtain ⟨hP1, hD1⟩ := hB
                                        rw [ht] at hP1
                                        replace hP := z0 hP hD hk1 hP1 hI1
                                        clear hk1 hPc hDc hFc hP1 hD1 ht hI1
                                        refine zz_i (v := pI (mvd n (fun i => shV (kd f).toInt n kk dx rr (cF40 cx f) i) (fun i => shV (kd f).toInt n kk dy rr (cF40 cy f) i) (cF40 cx f) (cF40 cy f))) (zp_iff (mv_iff hcx hcy hox)) ?_
                                        refine lv_if_ne (tgt := 382) hx hb dX11_shift_372 rfl (fun c_22 => ?_) (fun c_22 => ?_)
                                        · have c_22 : mvd n (fun i => shV (kd f).toInt n kk dx rr (cF40 cx f) i) (fun i => shV (kd f).toInt n kk dy rr (cF40 cy f) i) (cF40 cx f) (cF40 cy f) := zp_1 c_22
                                          refine lv_aload_n hx hb dX11_shift_382 rfl (lv_at hl 5 rfl) ?_
                                          refine lv_iload_n hx hb dX11_shift_383 rfl (lv_at hl 6 rfl) ?_
                                          refine lv_iconst (v := 3) hx hb dX11_shift_384 rfl ?_
                                          refine zz_i (v := nI 3) (rfl) ?_
                                          have hbx : fgX f n ox1 cx1 = cx := (by rw [hcx]; exact fgX_back (fun k9 h9 => (hox k9 h9).1))
                                          have hby : fgX f n oy1 cy1 = cy := (by rw [hcy]; exact fgX_back (fun k9 h9 => (hox k9 h9).2))
                                          have hlq := lwM_eq (ft := ft) (st := st) (tn := tn) (kd := kd) (mn := mn) hn_f.1 hcx hcy hox
                                          have hpo : pls n ox1 oy1 := fun j hj => by rw [(hox j hj).1, (hox j hj).2]; exact hp_f j hj
                                          have hwf2 : ∀ q, lvF ft st tn q → q ≠ f → wfM mn cx1 cy1 q := fun q h1 h2 => wfM_o (hwf q h1) h2 (fun _ _ => rfl) (fun j hj => by rw [hcx, hcy]; exact ⟨fgX_o (by omega), fgX_o (by omega)⟩)
                                          obtain ⟨hPc, hDc, hFc⟩ := zo_sub (wc := [_, _, _, _, _, _, _, _, _, _, _, _, _, _, _, _, _, _, _, _, _, _, _, _, _, _, _, _, _, _, _, _]) hP hD hS hA [0, 1, 2, 3, 4, 5, 6, 7, 8, 9, 10, 11, 12, 13, 14, 15, 16, 17, 18, 19, 20, 21, 22, 23, 24, 25, 26, 27, 28, 29, 30, 31] (by decide +kernel) rfl
                                          refine zcall (st1 := [.int 0]) (va_runV (As := [.int (nI f), .int (nI 3)]) (rest := []) ⟨hx, hb, hml, hown, hts⟩ (k_M_changes_mn l dC dI cI cZ cF H.size k0 a (upd (upd I0 35 (nI n)) 36 (kd f)) J0 f n ft n (kd f) 3 kd st gb it pa pb rk wd tw tn mn cx1 cy1 sa sh wh of9 we S1 T0 P0 Q0 ox1 oy1 mt1 wi1 ins1 la lb lc ld (bMt kd mn cx cy f n) (bWi kd mn cx cy f) (bIn kd cx cy f n) cp cl (hft) (by first | with_reducible assumption | omega) (by first | with_reducible assumption | omega) (hm_f) (by first | with_reducible assumption | omega) (hwf2) (by first | with_reducible assumption | omega) (by first | with_reducible assumption | omega) (hpo) (hmt) (fun q h1 h2 h5 => by rw [hwi q h1 h2]; exact zp_iff ⟨fun h => h.2, fun h => ⟨h5, h⟩⟩) (fun q h1 h2 i hi h5 => hin q h1 h2 h5 i hi) (by first | with_reducible assumption | omega) (rfl) (hft_f) (by rw [hlq]; exact hlaw)) (csV_212 hts rfl rfl ⟨Nat.le_of_ble_eq_true rfl, Nat.le_of_ble_eq_true rfl⟩) (zPV2 (q0 := 0) (ci := 9) hPc hDc hK hXN rfl rfl) rfl rfl hl.1 rfl (lv_room (Nat.le_of_ble_eq_true rfl)) dX11_shift_385 ⟨Nat.le_of_ble_eq_true rfl, Nat.le_of_ble_eq_true rfl⟩) hS hFc hFc rfl (fun t H locs ht hB hk1 hS => ?_)
                                          obtain ⟨z8, S2, T2, P2, Q2, hP1, hD1⟩ := hB
                                          rw [ht] at hP1
                                          obtain ⟨hP, hD⟩ := zn (W2 := [(om k0 a (upd (upd (upd (upd (upd I0 14 7) 15 (I0 15 + 1)) 31 z8) 35 (nI n)) 36 (kd f)) J0), (oa (a 1) cI 201 (upd kd f (kd f))), _, _, _, _, _, _, _, _, _, (oa (a 11) cI 201 (upd mn f (nI n))), (oa (a 12) cI 8040 (fgX f n ox1 cx1)), (oa (a 13) cI 8040 (fgX f n oy1 cy1)), _, _, _, _, _, (oa (a 32) cI 8 S2), (oa (a 40) cI 6 T2), (oa (a 29) cI 42 P2), (oa (a 30) cI 42 Q2), _, _, _, _, _, _, _, _, _]) hP hD hk1 hFc hP1 hD1 zl_196 [] zl_197 zl_196 (by decide +kernel) rfl rfl rfl rfl rfl
                                          clear hk1 hPc hDc hFc hP1 hD1 ht
                                          obtain ⟨hP9, hD9⟩ := zu_sub (wc := [(om k0 a (upd (upd (upd (upd (upd I0 14 7) 15 (I0 15 + 1)) 31 z8) 35 (nI n)) 36 (kd f)) J0), (oa (a 1) cI 201 (upd kd f (kd f))), (oa (a 5) cI 201 st), (oa (a 7) cI 201 gb), (oa (a 10) cI 201 it), (oa (a 8) cI 201 pa), (oa (a 9) cI 201 pb), (oa (a 2) cI 201 rk), (oa (a 3) cI 201 wd), (oa (a 4) cI 201 tw), (oa (a 6) cZ 201 tn), (oa (a 11) cI 201 (upd mn f (nI n))), (oa (a 12) cI 8040 (fgX f n ox1 cx1)), (oa (a 13) cI 8040 (fgX f n oy1 cy1)), (oa (a 27) cI 516 sa), (oa (a 28) cI (4096 * cp) sh), (oa (a 16) cI 514 wh), (oa (a 17) cI 514 of9), (oa (a 18) cI 514 we), (oa (a 32) cI 8 S2), (oa (a 40) cI 6 T2), (oa (a 29) cI 42 P2), (oa (a 30) cI 42 Q2), (oa (a 33) cI 42 ox1), (oa (a 34) cI 42 oy1), (oa (a 37) cZ 201 mt1), (oa (a 38) cZ 201 wi1), (oa (a 39) cZ 8040 ins1), (oa (a 22) cI (64 * cl) la), (oa (a 23) cI (64 * cl) lb), (oa (a 24) cI (64 * cl) lc), (oa (a 25) cI (64 * cl) ld)]) hP hD (true :: true :: true :: true :: true :: true :: true :: true :: true :: true :: true :: true :: true :: true :: true :: true :: true :: true :: true :: true :: true :: true :: true :: true :: true :: true :: true :: true :: true :: true :: true :: true :: []) rfl rfl
                                          have hE9 : ([(om k0 a (upd (upd (upd (upd (upd I0 14 7) 15 (I0 15 + 1)) 31 z8) 35 (nI n)) 36 (kd f)) J0), (oa (a 1) cI 201 (upd kd f (kd f))), (oa (a 5) cI 201 st), (oa (a 7) cI 201 gb), (oa (a 10) cI 201 it), (oa (a 8) cI 201 pa), (oa (a 9) cI 201 pb), (oa (a 2) cI 201 rk), (oa (a 3) cI 201 wd), (oa (a 4) cI 201 tw), (oa (a 6) cZ 201 tn), (oa (a 11) cI 201 (upd mn f (nI n))), (oa (a 12) cI 8040 (fgX f n ox1 cx1)), (oa (a 13) cI 8040 (fgX f n oy1 cy1)), (oa (a 27) cI 516 sa), (oa (a 28) cI (4096 * cp) sh), (oa (a 16) cI 514 wh), (oa (a 17) cI 514 of9), (oa (a 18) cI 514 we), (oa (a 32) cI 8 S2), (oa (a 40) cI 6 T2), (oa (a 29) cI 42 P2), (oa (a 30) cI 42 Q2), (oa (a 33) cI 42 ox1), (oa (a 34) cI 42 oy1), (oa (a 37) cZ 201 mt1), (oa (a 38) cZ 201 wi1), (oa (a 39) cZ 8040 ins1), (oa (a 22) cI (64 * cl) la), (oa (a 23) cI (64 * cl) lb), (oa (a 24) cI (64 * cl) lc), (oa (a 25) cI (64 * cl) ld)] : va_W) = [(om k0 a (upd (upd (upd (upd (upd I0 14 7) 15 (I0 15 + 1)) 31 z8) 35 (nI n)) 36 (kd f)) J0), (oa (a 1) cI 201 kd), (oa (a 5) cI 201 st), (oa (a 7) cI 201 gb), (oa (a 10) cI 201 it), (oa (a 8) cI 201 pa), (oa (a 9) cI 201 pb), (oa (a 2) cI 201 rk), (oa (a 3) cI 201 wd), (oa (a 4) cI 201 tw), (oa (a 6) cZ 201 tn), (oa (a 11) cI 201 mn), (oa (a 12) cI 8040 cx), (oa (a 13) cI 8040 cy), (oa (a 27) cI 516 sa), (oa (a 28) cI (4096 * cp) sh), (oa (a 16) cI 514 wh), (oa (a 17) cI 514 of9), (oa (a 18) cI 514 we), (oa (a 32) cI 8 S2), (oa (a 40) cI 6 T2), (oa (a 29) cI 42 P2), (oa (a 30) cI 42 Q2), (oa (a 33) cI 42 ox1), (oa (a 34) cI 42 oy1), (oa (a 37) cZ 201 mt1), (oa (a 38) cZ 201 wi1), (oa (a 39) cZ 8040 ins1), (oa (a 22) cI (64 * cl) la), (oa (a 23) cI (64 * cl) lb), (oa (a 24) cI (64 * cl) lc), (oa (a 25) cI (64 * cl) ld)] := by rw [hum, huk, hbx, hby]
                                          rw [hE9] at hP9 hD9
                                          rw [hQ9]
                                          exact W.zret (ty := .boolean) (v := 0) hx hb hr (rfl) (fun t ht hW => ⟨⟨rfl, z8, S2, T2, P2, Q2, ox1, oy1, mt1, wi1, ins1, by rw [ht]; exact hP9, hD9⟩, hS.F ht⟩) hS.2.2 dX11_shift_388
                                        · have c_22 : ¬ (mvd n (fun i => shV (kd f).toInt n kk dx rr (cF40 cx f) i) (fun i => shV (kd f).toInt n kk dy rr (cF40 cy f) i) (cF40 cx f) (cF40 cy f)) := zp_0 c_22
                                          exfalso; exact absurd hmv (by first | with_reducible assumption | assumption)
                                      · have c_19 : ((k : Nat) : Int) < ((n : Nat) : Int) := zc_nle (nI_toInt b9_21) (nI_toInt b9_20) c_19
                                        have hk9 : k < n := (by omega)
                                        have hwb := wyR_b (kf := (kd f).toInt) hkk hk9
                                        refine lv_aload_n hx hb dX11_shift_212 rfl (lv_at hl 5 rfl) ?_
                                        refine lv_iload_n hx hb dX11_shift_213 rfl (lv_at hl 6 rfl) ?_
                                        refine lv_iload_n hx hb dX11_shift_214 rfl (lv_at hl 7 rfl) ?_
                                        refine lv_iload hx hb dX11_shift_215 (lv_at hl 0 rfl) ?_
                                        obtain ⟨hPc, hDc, hFc, hI1⟩ := zi_sub (wc := [_, _]) hP hD hS hA [0, 1] rfl rfl
                                        refine zcall (st1 := [.int (nI (wyR (kd f).toInt n kk k))]) (va_runV (As := [.int (nI f), .int (nI kk), .int (nI k)]) (rest := []) ⟨hx, hb, hml, hown, hts⟩ (k_M_wayOf l dC dI cI cZ cF H.size k0 a (upd (upd I0 35 (nI n)) 36 (kd f)) J0 f n kk k kd (by first | with_reducible assumption | omega) (by first | with_reducible assumption | omega) (hkk) (by first | with_reducible assumption | omega)) (csV_216 hts rfl rfl ⟨Nat.le_of_ble_eq_true rfl, Nat.le_of_ble_eq_true rfl⟩) (zPV2 (q0 := 0) (ci := 9) hPc hDc hK hXN rfl rfl) rfl rfl hl.1 rfl (lv_room (Nat.le_of_ble_eq_true rfl)) dX11_shift_217 ⟨Nat.le_of_ble_eq_true rfl, Nat.le_of_ble_eq_true rfl⟩) hS hFc hFc rfl (fun t H locs ht hB hk1 hS => ?_)
                                        obtain ⟨hP1, hD1⟩ := hB
                                        rw [ht] at hP1
                                        replace hP := z0 hP hD hk1 hP1 hI1
                                        clear hk1 hPc hDc hFc hP1 hD1 ht hI1
                                        refine lv_istore (lv' := [(11, .int (nI (wyR (kd f).toInt n kk k))), (10, .int (nI k)), (9, .int 0), (7, .int 0), (8, .int 0), (6, .int 0), (0, .ref k0), (1, .int (nI f)), (2, .int (nI kk)), (3, .int dx), (4, .int dy), (5, .int (nI rr))]) hx hb dX11_shift_220 hl (Nat.le_of_ble_eq_true rfl) rfl (fun ls hl => ?_)
                                        refine lv_iload hx hb dX11_shift_222 (lv_at hl 2 rfl) ?_
                                        refine lv_if_ne (tgt := 262) hx hb dX11_shift_224 rfl (fun c_23 => ?_) (fun c_23 => ?_)
                                        · exact absurd (by decide) c_23
                                        · refine lv_iload hx hb dX11_shift_227 (lv_at hl 0 rfl) ?_
                                          refine lv_iload hx hb dX11_shift_229 (lv_at hl 11 rfl) ?_
                                          have b9_25 : zlt ((wyR (kd f).toInt n kk k)) := show (wyR (kd f).toInt n kk k) < 2147483648 by omega
                                          refine lv_icmp_gt (tgt := 258) hx hb dX11_shift_231 rfl (fun c_24 => ?_) (fun c_24 => ?_)
                                          · have c_24 : ((rr : Nat) : Int) < ((wyR (kd f).toInt n kk k : Nat) : Int) := zc_lt (nI_toInt b9_11) (nI_toInt b9_25) c_24
                                            refine lv_iconst (v := 1) hx hb dX11_shift_258 rfl ?_
                                            refine lv_goto (tgt := 263) hx hb dX11_shift_259 rfl ?_
                                            refine lv_istore (lv' := [(12, .int 1), (11, .int (nI (wyR (kd f).toInt n kk k))), (10, .int (nI k)), (9, .int 0), (7, .int 0), (8, .int 0), (6, .int 0), (0, .ref k0), (1, .int (nI f)), (2, .int (nI kk)), (3, .int dx), (4, .int dy), (5, .int (nI rr))]) hx hb dX11_shift_263 hl (Nat.le_of_ble_eq_true rfl) rfl (fun ls hl => ?_)
                                            refine lv_iload hx hb dX11_shift_265 (lv_at hl 0 rfl) ?_
                                            refine lv_if_eq (tgt := 273) hx hb dX11_shift_267 rfl (fun c_26 => ?_) (fun c_26 => ?_)
                                            · exact absurd c_26 (by decide)
                                            · refine lv_goto (tgt := 361) hx hb dX11_shift_270 rfl ?_
                                              refine lv_iinc (v := nI (k + 1)) (lv' := [(10, .int (nI (k + 1))), (12, .int 1), (11, .int (nI (wyR (kd f).toInt n kk k))), (9, .int 0), (7, .int 0), (8, .int 0), (6, .int 0), (0, .ref k0), (1, .int (nI f)), (2, .int (nI kk)), (3, .int dx), (4, .int dy), (5, .int (nI rr))]) hx hb dX11_shift_361 hl (k := 2) rfl (nI_add k 1) (Nat.le_of_ble_eq_true rfl) rfl (fun ls hl => ?_)
                                              refine lv_goto (tgt := 203) hx hb dX11_shift_364 rfl ?_
                                              exact ih_203 (k + 1) cx1 cy1 H locs ls (by first | with_reducible assumption | omega) (by first | with_reducible assumption | omega) (by first | exact fgX_u hcx (shV_f (by first | with_reducible assumption | assumption)) | exact fgX_k hcx (shV_t (X := cF40 cx f) (by first | exact Or.inl (by first | with_reducible assumption | omega) | exact Or.inr ⟨by assumption, by omega⟩))) (by first | exact fgX_u hcy (shV_f (by first | with_reducible assumption | assumption)) | exact fgX_k hcy (shV_t (X := cF40 cy f) (by first | exact Or.inl (by first | with_reducible assumption | omega) | exact Or.inr ⟨by assumption, by omega⟩))) hP hD hS (lv_sub hl [0, 3, 4, 5, 6, 7, 8, 9, 10, 11, 12] rfl)
                                          · have c_24 : ((wyR (kd f).toInt n kk k : Nat) : Int) ≤ ((rr : Nat) : Int) := zc_nlt (nI_toInt b9_11) (nI_toInt b9_25) c_24
                                            refine lv_aload_n hx hb dX11_shift_234 rfl (lv_at hl 6 rfl) ?_
                                            refine lv_iload_n hx hb dX11_shift_235 rfl (lv_at hl 7 rfl) ?_
                                            obtain ⟨hPc, hDc, hFc, hI1⟩ := zi_sub (wc := [_, _]) hP hD hS hA [0, 1] rfl rfl
                                            refine zcall (st1 := [.int (pI (5 ≤ (kd f).toInt))]) (va_runV (As := [.int (nI f)]) (rest := []) ⟨hx, hb, hml, hown, hts⟩ (k_M_isRing l dC dI cI cZ cF H.size k0 a (upd (upd I0 35 (nI n)) 36 (kd f)) J0 f kd (by first | with_reducible assumption | omega)) (csV_165 hts rfl rfl ⟨Nat.le_of_ble_eq_true rfl, Nat.le_of_ble_eq_true rfl⟩) (zPV2 (q0 := 0) (ci := 9) hPc hDc hK hXN rfl rfl) rfl rfl hl.1 rfl (lv_room (Nat.le_of_ble_eq_true rfl)) dX11_shift_236 ⟨Nat.le_of_ble_eq_true rfl, Nat.le_of_ble_eq_true rfl⟩) hS hFc hFc rfl (fun t H locs ht hB hk1 hS => ?_)
                                            obtain ⟨hP1, hD1⟩ := hB
                                            rw [ht] at hP1
                                            replace hP := z0 hP hD hk1 hP1 hI1
                                            clear hk1 hPc hDc hFc hP1 hD1 ht hI1
                                            refine lv_if_ne (tgt := 262) hx hb dX11_shift_239 rfl (fun c_27 => ?_) (fun c_27 => ?_)
                                            · have c_27 : 5 ≤ (kd f).toInt := zp_1 c_27
                                              refine lv_iconst (v := 0) hx hb dX11_shift_262 rfl ?_
                                              refine lv_istore (lv' := [(12, .int 0), (11, .int (nI (wyR (kd f).toInt n kk k))), (10, .int (nI k)), (9, .int 0), (7, .int 0), (8, .int 0), (6, .int 0), (0, .ref k0), (1, .int (nI f)), (2, .int (nI kk)), (3, .int dx), (4, .int dy), (5, .int (nI rr))]) hx hb dX11_shift_263 hl (Nat.le_of_ble_eq_true rfl) rfl (fun ls hl => ?_)
                                              refine lv_iload hx hb dX11_shift_265 (lv_at hl 0 rfl) ?_
                                              refine lv_if_eq (tgt := 273) hx hb dX11_shift_267 rfl (fun c_28 => ?_) (fun c_28 => ?_)
                                              · have hst9 : ¬ (rr < wyR (kd f).toInt n kk k ∨ (¬ 5 ≤ (kd f).toInt ∧ (k = 0 ∨ k = n - 1))) := (by first | exact fun h => h.elim (fun h => by omega) (fun h => absurd (by first | with_reducible assumption | assumption) h.1) | exact fun h => h.elim (fun h => by omega) (fun h => by omega))
                                                have hwy : wyR (kd f).toInt n kk k ≤ rr := (by have := hst9; omega)
                                                refine lv_aload_n hx hb dX11_shift_273 rfl (lv_at hl 7 rfl) ?_
                                                refine va_get (D := (dC, dI)) (ci := 9) (v := .ref (a 12)) (C := RX11) (T := TX11) (N := 55) hx hb hts inX11 hown hK hP 0 rfl rfl 12 (Nat.le_of_ble_eq_true rfl) (hts _ mw_1171) (fun _ h9 => h9) rfl dX11_shift_274 ?_
                                                refine lv_bipush (v := 40) hx hb dX11_shift_277 rfl ?_
                                                refine lv_iload_n hx hb dX11_shift_279 rfl (lv_at hl 8 rfl) ?_
                                                refine lv_imul hx hb dX11_shift_280 ?_
                                                refine zz_i (v := nI (40 * f)) (pk_mul 40 f) ?_
                                                refine lv_iload hx hb dX11_shift_281 (lv_at hl 2 rfl) ?_
                                                refine lv_iadd hx hb dX11_shift_283 ?_
                                                refine zz_i (v := nI (40 * f + k)) (nI_add (40 * f) k) ?_
                                                refine lv_aload_n hx hb dX11_shift_284 rfl (lv_at hl 7 rfl) ?_
                                                refine va_get (D := (dC, dI)) (ci := 9) (v := .ref (a 33)) (C := RX11) (T := TX11) (N := 55) hx hb hts inX11 hown hK hP 0 rfl rfl 33 (Nat.le_of_ble_eq_true rfl) (hts _ mw_1192) (fun _ h9 => h9) rfl dX11_shift_285 ?_
                                                refine lv_iload hx hb dX11_shift_288 (lv_at hl 2 rfl) ?_
                                                have b9_29 : k < 42 := by omega
                                                refine z_iald hx hb hK hP 23 0 rfl rfl (e := k) rfl b9_29 (Nat.le_of_ble_eq_true rfl) dX11_shift_290 ?_
                                                refine zz_i (v := cF40 cx f k) ((hox _ hk9).1) ?_
                                                refine lv_iload hx hb dX11_shift_291 (lv_at hl 3 rfl) ?_
                                                refine lv_if_eq (tgt := 300) hx hb dX11_shift_293 rfl (fun c_30 => ?_) (fun c_30 => ?_)
                                                · refine lv_iload_n hx hb dX11_shift_300 rfl (lv_at hl 10 rfl) ?_
                                                  refine lv_iload hx hb dX11_shift_301 (lv_at hl 12 rfl) ?_
                                                  refine lv_iconst (v := 1) hx hb dX11_shift_303 rfl ?_
                                                  refine lv_iadd hx hb dX11_shift_304 ?_
                                                  refine zz_i (v := nI (rr + 1)) (nI_add rr 1) ?_
                                                  refine lv_iload hx hb dX11_shift_305 (lv_at hl 1 rfl) ?_
                                                  refine lv_isub hx hb dX11_shift_307 ?_
                                                  refine zz_i (v := nI ((rr + 1) - (wyR (kd f).toInt n kk k))) (pk_sub (a := rr + 1) (b := wyR (kd f).toInt n kk k) (by omega)) ?_
                                                  refine lv_imul hx hb dX11_shift_308 ?_
                                                  refine lv_iload hx hb dX11_shift_309 (lv_at hl 12 rfl) ?_
                                                  refine lv_iconst (v := 1) hx hb dX11_shift_311 rfl ?_
                                                  refine lv_iadd hx hb dX11_shift_312 ?_
                                                  refine zz_i (v := nI (rr + 1)) (nI_add rr 1) ?_
                                                  refine lv_idiv hx hb dX11_shift_313 (nI_ne0 (by omega) (by omega)) ?_
                                                  refine lv_iadd hx hb dX11_shift_314 ?_
                                                  have b9_31 : 40 * f + k < 8040 := by omega
                                                  refine z_iast hx hb hK hP hD hS 12 0 rfl rfl (e := 40 * f + k) (x := (cF40 cx f k) + ((dx * (nI ((rr + 1) - (wyR (kd f).toInt n kk k)))) / (nI (rr + 1)))) rfl b9_31 (Nat.le_of_ble_eq_true rfl) dX11_shift_315 (fun H locs hP hD hS => ?_)
                                                  obtain ⟨hP, hD⟩ := zre (W2 := [_, _, _, _, _, _, _, _, _, _, _, _, (oa (a 12) cI 8040 (upd cx1 (40 * f + k) ((cF40 cx f k) + ((dx * (nI ((rr + 1) - (wyR (kd f).toInt n kk k)))) / (nI (rr + 1)))))), _, _, _, _, _, _, _, _, _, _, _, _, _, _, _, _, _, _, _]) hP hD rfl
                                                  refine lv_aload_n hx hb dX11_shift_316 rfl (lv_at hl 7 rfl) ?_
                                                  refine va_get (D := (dC, dI)) (ci := 9) (v := .ref (a 13)) (C := RX11) (T := TX11) (N := 55) hx hb hts inX11 hown hK hP 0 rfl rfl 13 (Nat.le_of_ble_eq_true rfl) (hts _ mw_1172) (fun _ h9 => h9) rfl dX11_shift_317 ?_
                                                  refine lv_bipush (v := 40) hx hb dX11_shift_320 rfl ?_
                                                  refine lv_iload_n hx hb dX11_shift_322 rfl (lv_at hl 8 rfl) ?_
                                                  refine lv_imul hx hb dX11_shift_323 ?_
                                                  refine zz_i (v := nI (40 * f)) (pk_mul 40 f) ?_
                                                  refine lv_iload hx hb dX11_shift_324 (lv_at hl 2 rfl) ?_
                                                  refine lv_iadd hx hb dX11_shift_326 ?_
                                                  refine zz_i (v := nI (40 * f + k)) (nI_add (40 * f) k) ?_
                                                  refine lv_aload_n hx hb dX11_shift_327 rfl (lv_at hl 7 rfl) ?_
                                                  refine va_get (D := (dC, dI)) (ci := 9) (v := .ref (a 34)) (C := RX11) (T := TX11) (N := 55) hx hb hts inX11 hown hK hP 0 rfl rfl 34 (Nat.le_of_ble_eq_true rfl) (hts _ mw_1193) (fun _ h9 => h9) rfl dX11_shift_328 ?_
                                                  refine lv_iload hx hb dX11_shift_331 (lv_at hl 2 rfl) ?_
                                                  refine z_iald hx hb hK hP 24 0 rfl rfl (e := k) rfl b9_29 (Nat.le_of_ble_eq_true rfl) dX11_shift_333 ?_
                                                  refine zz_i (v := cF40 cy f k) ((hox _ hk9).2) ?_
                                                  refine lv_iload hx hb dX11_shift_334 (lv_at hl 3 rfl) ?_
                                                  refine lv_if_eq (tgt := 344) hx hb dX11_shift_336 rfl (fun c_32 => ?_) (fun c_32 => ?_)
                                                  · refine lv_iload hx hb dX11_shift_344 (lv_at hl 11 rfl) ?_
                                                    refine lv_iload hx hb dX11_shift_346 (lv_at hl 12 rfl) ?_
                                                    refine lv_iconst (v := 1) hx hb dX11_shift_348 rfl ?_
                                                    refine lv_iadd hx hb dX11_shift_349 ?_
                                                    refine zz_i (v := nI (rr + 1)) (nI_add rr 1) ?_
                                                    refine lv_iload hx hb dX11_shift_350 (lv_at hl 1 rfl) ?_
                                                    refine lv_isub hx hb dX11_shift_352 ?_
                                                    refine zz_i (v := nI ((rr + 1) - (wyR (kd f).toInt n kk k))) (pk_sub (a := rr + 1) (b := wyR (kd f).toInt n kk k) (by omega)) ?_
                                                    refine lv_imul hx hb dX11_shift_353 ?_
                                                    refine lv_iload hx hb dX11_shift_354 (lv_at hl 12 rfl) ?_
                                                    refine lv_iconst (v := 1) hx hb dX11_shift_356 rfl ?_
                                                    refine lv_iadd hx hb dX11_shift_357 ?_
                                                    refine zz_i (v := nI (rr + 1)) (nI_add rr 1) ?_
                                                    refine lv_idiv hx hb dX11_shift_358 (nI_ne0 (by omega) (by omega)) ?_
                                                    refine lv_iadd hx hb dX11_shift_359 ?_
                                                    refine z_iast hx hb hK hP hD hS 13 0 rfl rfl (e := 40 * f + k) (x := (cF40 cy f k) + ((dy * (nI ((rr + 1) - (wyR (kd f).toInt n kk k)))) / (nI (rr + 1)))) rfl b9_31 (Nat.le_of_ble_eq_true rfl) dX11_shift_360 (fun H locs hP hD hS => ?_)
                                                    obtain ⟨hP, hD⟩ := zre (W2 := [_, _, _, _, _, _, _, _, _, _, _, _, _, (oa (a 13) cI 8040 (upd cy1 (40 * f + k) ((cF40 cy f k) + ((dy * (nI ((rr + 1) - (wyR (kd f).toInt n kk k)))) / (nI (rr + 1)))))), _, _, _, _, _, _, _, _, _, _, _, _, _, _, _, _, _, _]) hP hD rfl
                                                    refine lv_iinc (v := nI (k + 1)) (lv' := [(10, .int (nI (k + 1))), (12, .int 0), (11, .int (nI (wyR (kd f).toInt n kk k))), (9, .int 0), (7, .int 0), (8, .int 0), (6, .int 0), (0, .ref k0), (1, .int (nI f)), (2, .int (nI kk)), (3, .int dx), (4, .int dy), (5, .int (nI rr))]) hx hb dX11_shift_361 hl (k := 2) rfl (nI_add k 1) (Nat.le_of_ble_eq_true rfl) rfl (fun ls hl => ?_)
                                                    refine lv_goto (tgt := 203) hx hb dX11_shift_364 rfl ?_
                                                    exact ih_203 (k + 1) (upd cx1 (40 * f + k) ((cF40 cx f k) + ((dx * (nI ((rr + 1) - (wyR (kd f).toInt n kk k)))) / (nI (rr + 1))))) (upd cy1 (40 * f + k) ((cF40 cy f k) + ((dy * (nI ((rr + 1) - (wyR (kd f).toInt n kk k)))) / (nI (rr + 1))))) H locs ls (by first | with_reducible assumption | omega) (by first | with_reducible assumption | omega) (by first | exact fgX_u hcx (shV_f (by first | with_reducible assumption | assumption)) | exact fgX_k hcx (shV_t (X := cF40 cx f) (by first | exact Or.inl (by first | with_reducible assumption | omega) | exact Or.inr ⟨by assumption, by omega⟩))) (by first | exact fgX_u hcy (shV_f (by first | with_reducible assumption | assumption)) | exact fgX_k hcy (shV_t (X := cF40 cy f) (by first | exact Or.inl (by first | with_reducible assumption | omega) | exact Or.inr ⟨by assumption, by omega⟩))) hP hD hS (lv_sub hl [0, 3, 4, 5, 6, 7, 8, 9, 10, 11, 12] rfl)
                                                  · exact absurd (by decide) c_32
                                                · exact absurd (by decide) c_30
                                              · exact absurd (by decide) c_28
                                            · have c_27 : ¬ (5 ≤ (kd f).toInt) := zp_0 c_27
                                              refine lv_iload hx hb dX11_shift_242 (lv_at hl 1 rfl) ?_
                                              refine lv_if_eq (tgt := 258) hx hb dX11_shift_244 rfl (fun c_33 => ?_) (fun c_33 => ?_)
                                              · have c_33 : ((k : Nat) : Int) = 0 := zc_eq (nI_toInt b9_20) rfl c_33
                                                refine lv_iconst (v := 1) hx hb dX11_shift_258 rfl ?_
                                                refine lv_goto (tgt := 263) hx hb dX11_shift_259 rfl ?_
                                                refine lv_istore (lv' := [(12, .int 1), (11, .int (nI (wyR (kd f).toInt n kk k))), (10, .int (nI k)), (9, .int 0), (7, .int 0), (8, .int 0), (6, .int 0), (0, .ref k0), (1, .int (nI f)), (2, .int (nI kk)), (3, .int dx), (4, .int dy), (5, .int (nI rr))]) hx hb dX11_shift_263 hl (Nat.le_of_ble_eq_true rfl) rfl (fun ls hl => ?_)
                                                refine lv_iload hx hb dX11_shift_265 (lv_at hl 0 rfl) ?_
                                                refine lv_if_eq (tgt := 273) hx hb dX11_shift_267 rfl (fun c_34 => ?_) (fun c_34 => ?_)
                                                · exact absurd c_34 (by decide)
                                                · refine lv_goto (tgt := 361) hx hb dX11_shift_270 rfl ?_
                                                  refine lv_iinc (v := nI (k + 1)) (lv' := [(10, .int (nI (k + 1))), (12, .int 1), (11, .int (nI (wyR (kd f).toInt n kk k))), (9, .int 0), (7, .int 0), (8, .int 0), (6, .int 0), (0, .ref k0), (1, .int (nI f)), (2, .int (nI kk)), (3, .int dx), (4, .int dy), (5, .int (nI rr))]) hx hb dX11_shift_361 hl (k := 2) rfl (nI_add k 1) (Nat.le_of_ble_eq_true rfl) rfl (fun ls hl => ?_)
                                                  refine lv_goto (tgt := 203) hx hb dX11_shift_364 rfl ?_
                                                  exact ih_203 (k + 1) cx1 cy1 H locs ls (by first | with_reducible assumption | omega) (by first | with_reducible assumption | omega) (by first | exact fgX_u hcx (shV_f (by first | with_reducible assumption | assumption)) | exact fgX_k hcx (shV_t (X := cF40 cx f) (by first | exact Or.inl (by first | with_reducible assumption | omega) | exact Or.inr ⟨by assumption, by omega⟩))) (by first | exact fgX_u hcy (shV_f (by first | with_reducible assumption | assumption)) | exact fgX_k hcy (shV_t (X := cF40 cy f) (by first | exact Or.inl (by first | with_reducible assumption | omega) | exact Or.inr ⟨by assumption, by omega⟩))) hP hD hS (lv_sub hl [0, 3, 4, 5, 6, 7, 8, 9, 10, 11, 12] rfl)
                                              · have c_33 : ¬ ((k : Nat) : Int) = 0 := zc_ne (nI_toInt b9_20) rfl c_33
                                                refine lv_iload hx hb dX11_shift_247 (lv_at hl 1 rfl) ?_
                                                refine lv_aload_n hx hb dX11_shift_249 rfl (lv_at hl 6 rfl) ?_
                                                refine va_get (D := (dC, dI)) (ci := 9) (v := .int (nI n)) (C := RX11) (T := TX11) (N := 55) hx hb hts inX11 hown hK hP 0 rfl rfl 35 (Nat.le_of_ble_eq_true rfl) (hts _ mw_1194) (fun _ h9 => h9) rfl dX11_shift_250 ?_
                                                refine lv_iconst (v := 1) hx hb dX11_shift_253 rfl ?_
                                                refine lv_isub hx hb dX11_shift_254 ?_
                                                refine zz_i (v := nI (n - 1)) (pk_sub (a := n) (b := 1) (by omega)) ?_
                                                have b9_36 : zlt ((n - 1)) := show (n - 1) < 2147483648 by omega
                                                refine lv_icmp_ne (tgt := 262) hx hb dX11_shift_255 rfl (fun c_35 => ?_) (fun c_35 => ?_)
                                                · have c_35 : ¬ ((k : Nat) : Int) = ((n - 1 : Nat) : Int) := zc_ne (nI_toInt b9_20) (nI_toInt b9_36) c_35
                                                  refine lv_iconst (v := 0) hx hb dX11_shift_262 rfl ?_
                                                  refine lv_istore (lv' := [(12, .int 0), (11, .int (nI (wyR (kd f).toInt n kk k))), (10, .int (nI k)), (9, .int 0), (7, .int 0), (8, .int 0), (6, .int 0), (0, .ref k0), (1, .int (nI f)), (2, .int (nI kk)), (3, .int dx), (4, .int dy), (5, .int (nI rr))]) hx hb dX11_shift_263 hl (Nat.le_of_ble_eq_true rfl) rfl (fun ls hl => ?_)
                                                  refine lv_iload hx hb dX11_shift_265 (lv_at hl 0 rfl) ?_
                                                  refine lv_if_eq (tgt := 273) hx hb dX11_shift_267 rfl (fun c_37 => ?_) (fun c_37 => ?_)
                                                  · have hst9 : ¬ (rr < wyR (kd f).toInt n kk k ∨ (¬ 5 ≤ (kd f).toInt ∧ (k = 0 ∨ k = n - 1))) := (by first | exact fun h => h.elim (fun h => by omega) (fun h => absurd (by first | with_reducible assumption | assumption) h.1) | exact fun h => h.elim (fun h => by omega) (fun h => by omega))
                                                    have hwy : wyR (kd f).toInt n kk k ≤ rr := (by have := hst9; omega)
                                                    refine lv_aload_n hx hb dX11_shift_273 rfl (lv_at hl 7 rfl) ?_
                                                    refine va_get (D := (dC, dI)) (ci := 9) (v := .ref (a 12)) (C := RX11) (T := TX11) (N := 55) hx hb hts inX11 hown hK hP 0 rfl rfl 12 (Nat.le_of_ble_eq_true rfl) (hts _ mw_1171) (fun _ h9 => h9) rfl dX11_shift_274 ?_
                                                    refine lv_bipush (v := 40) hx hb dX11_shift_277 rfl ?_
                                                    refine lv_iload_n hx hb dX11_shift_279 rfl (lv_at hl 8 rfl) ?_
                                                    refine lv_imul hx hb dX11_shift_280 ?_
                                                    refine zz_i (v := nI (40 * f)) (pk_mul 40 f) ?_
                                                    refine lv_iload hx hb dX11_shift_281 (lv_at hl 2 rfl) ?_
                                                    refine lv_iadd hx hb dX11_shift_283 ?_
                                                    refine zz_i (v := nI (40 * f + k)) (nI_add (40 * f) k) ?_
                                                    refine lv_aload_n hx hb dX11_shift_284 rfl (lv_at hl 7 rfl) ?_
                                                    refine va_get (D := (dC, dI)) (ci := 9) (v := .ref (a 33)) (C := RX11) (T := TX11) (N := 55) hx hb hts inX11 hown hK hP 0 rfl rfl 33 (Nat.le_of_ble_eq_true rfl) (hts _ mw_1192) (fun _ h9 => h9) rfl dX11_shift_285 ?_
                                                    refine lv_iload hx hb dX11_shift_288 (lv_at hl 2 rfl) ?_
                                                    have b9_38 : k < 42 := by omega
                                                    refine z_iald hx hb hK hP 23 0 rfl rfl (e := k) rfl b9_38 (Nat.le_of_ble_eq_true rfl) dX11_shift_290 ?_
                                                    refine zz_i (v := cF40 cx f k) ((hox _ hk9).1) ?_
                                                    refine lv_iload hx hb dX11_shift_291 (lv_at hl 3 rfl) ?_
                                                    refine lv_if_eq (tgt := 300) hx hb dX11_shift_293 rfl (fun c_39 => ?_) (fun c_39 => ?_)
                                                    · refine lv_iload_n hx hb dX11_shift_300 rfl (lv_at hl 10 rfl) ?_
                                                      refine lv_iload hx hb dX11_shift_301 (lv_at hl 12 rfl) ?_
                                                      refine lv_iconst (v := 1) hx hb dX11_shift_303 rfl ?_
                                                      refine lv_iadd hx hb dX11_shift_304 ?_
                                                      refine zz_i (v := nI (rr + 1)) (nI_add rr 1) ?_
                                                      refine lv_iload hx hb dX11_shift_305 (lv_at hl 1 rfl) ?_
                                                      refine lv_isub hx hb dX11_shift_307 ?_
                                                      refine zz_i (v := nI ((rr + 1) - (wyR (kd f).toInt n kk k))) (pk_sub (a := rr + 1) (b := wyR (kd f).toInt n kk k) (by omega)) ?_
                                                      refine lv_imul hx hb dX11_shift_308 ?_
                                                      refine lv_iload hx hb dX11_shift_309 (lv_at hl 12 rfl) ?_
                                                      refine lv_iconst (v := 1) hx hb dX11_shift_311 rfl ?_
                                                      refine lv_iadd hx hb dX11_shift_312 ?_
                                                      refine zz_i (v := nI (rr + 1)) (nI_add rr 1) ?_
                                                      refine lv_idiv hx hb dX11_shift_313 (nI_ne0 (by omega) (by omega)) ?_
                                                      refine lv_iadd hx hb dX11_shift_314 ?_
                                                      have b9_40 : 40 * f + k < 8040 := by omega
                                                      refine z_iast hx hb hK hP hD hS 12 0 rfl rfl (e := 40 * f + k) (x := (cF40 cx f k) + ((dx * (nI ((rr + 1) - (wyR (kd f).toInt n kk k)))) / (nI (rr + 1)))) rfl b9_40 (Nat.le_of_ble_eq_true rfl) dX11_shift_315 (fun H locs hP hD hS => ?_)
                                                      obtain ⟨hP, hD⟩ := zre (W2 := [_, _, _, _, _, _, _, _, _, _, _, _, (oa (a 12) cI 8040 (upd cx1 (40 * f + k) ((cF40 cx f k) + ((dx * (nI ((rr + 1) - (wyR (kd f).toInt n kk k)))) / (nI (rr + 1)))))), _, _, _, _, _, _, _, _, _, _, _, _, _, _, _, _, _, _, _]) hP hD rfl
                                                      refine lv_aload_n hx hb dX11_shift_316 rfl (lv_at hl 7 rfl) ?_
                                                      refine va_get (D := (dC, dI)) (ci := 9) (v := .ref (a 13)) (C := RX11) (T := TX11) (N := 55) hx hb hts inX11 hown hK hP 0 rfl rfl 13 (Nat.le_of_ble_eq_true rfl) (hts _ mw_1172) (fun _ h9 => h9) rfl dX11_shift_317 ?_
                                                      refine lv_bipush (v := 40) hx hb dX11_shift_320 rfl ?_
                                                      refine lv_iload_n hx hb dX11_shift_322 rfl (lv_at hl 8 rfl) ?_
                                                      refine lv_imul hx hb dX11_shift_323 ?_
                                                      refine zz_i (v := nI (40 * f)) (pk_mul 40 f) ?_
                                                      refine lv_iload hx hb dX11_shift_324 (lv_at hl 2 rfl) ?_
                                                      refine lv_iadd hx hb dX11_shift_326 ?_
                                                      refine zz_i (v := nI (40 * f + k)) (nI_add (40 * f) k) ?_
                                                      refine lv_aload_n hx hb dX11_shift_327 rfl (lv_at hl 7 rfl) ?_
                                                      refine va_get (D := (dC, dI)) (ci := 9) (v := .ref (a 34)) (C := RX11) (T := TX11) (N := 55) hx hb hts inX11 hown hK hP 0 rfl rfl 34 (Nat.le_of_ble_eq_true rfl) (hts _ mw_1193) (fun _ h9 => h9) rfl dX11_shift_328 ?_
                                                      refine lv_iload hx hb dX11_shift_331 (lv_at hl 2 rfl) ?_
                                                      refine z_iald hx hb hK hP 24 0 rfl rfl (e := k) rfl b9_38 (Nat.le_of_ble_eq_true rfl) dX11_shift_333 ?_
                                                      refine zz_i (v := cF40 cy f k) ((hox _ hk9).2) ?_
                                                      refine lv_iload hx hb dX11_shift_334 (lv_at hl 3 rfl) ?_
                                                      refine lv_if_eq (tgt := 344) hx hb dX11_shift_336 rfl (fun c_41 => ?_) (fun c_41 => ?_)
                                                      · refine lv_iload hx hb dX11_shift_344 (lv_at hl 11 rfl) ?_
                                                        refine lv_iload hx hb dX11_shift_346 (lv_at hl 12 rfl) ?_
                                                        refine lv_iconst (v := 1) hx hb dX11_shift_348 rfl ?_
                                                        refine lv_iadd hx hb dX11_shift_349 ?_
                                                        refine zz_i (v := nI (rr + 1)) (nI_add rr 1) ?_
                                                        refine lv_iload hx hb dX11_shift_350 (lv_at hl 1 rfl) ?_
                                                        refine lv_isub hx hb dX11_shift_352 ?_
                                                        refine zz_i (v := nI ((rr + 1) - (wyR (kd f).toInt n kk k))) (pk_sub (a := rr + 1) (b := wyR (kd f).toInt n kk k) (by omega)) ?_
                                                        refine lv_imul hx hb dX11_shift_353 ?_
                                                        refine lv_iload hx hb dX11_shift_354 (lv_at hl 12 rfl) ?_
                                                        refine lv_iconst (v := 1) hx hb dX11_shift_356 rfl ?_
                                                        refine lv_iadd hx hb dX11_shift_357 ?_
                                                        refine zz_i (v := nI (rr + 1)) (nI_add rr 1) ?_
                                                        refine lv_idiv hx hb dX11_shift_358 (nI_ne0 (by omega) (by omega)) ?_
                                                        refine lv_iadd hx hb dX11_shift_359 ?_
                                                        refine z_iast hx hb hK hP hD hS 13 0 rfl rfl (e := 40 * f + k) (x := (cF40 cy f k) + ((dy * (nI ((rr + 1) - (wyR (kd f).toInt n kk k)))) / (nI (rr + 1)))) rfl b9_40 (Nat.le_of_ble_eq_true rfl) dX11_shift_360 (fun H locs hP hD hS => ?_)
                                                        obtain ⟨hP, hD⟩ := zre (W2 := [_, _, _, _, _, _, _, _, _, _, _, _, _, (oa (a 13) cI 8040 (upd cy1 (40 * f + k) ((cF40 cy f k) + ((dy * (nI ((rr + 1) - (wyR (kd f).toInt n kk k)))) / (nI (rr + 1)))))), _, _, _, _, _, _, _, _, _, _, _, _, _, _, _, _, _, _]) hP hD rfl
                                                        refine lv_iinc (v := nI (k + 1)) (lv' := [(10, .int (nI (k + 1))), (12, .int 0), (11, .int (nI (wyR (kd f).toInt n kk k))), (9, .int 0), (7, .int 0), (8, .int 0), (6, .int 0), (0, .ref k0), (1, .int (nI f)), (2, .int (nI kk)), (3, .int dx), (4, .int dy), (5, .int (nI rr))]) hx hb dX11_shift_361 hl (k := 2) rfl (nI_add k 1) (Nat.le_of_ble_eq_true rfl) rfl (fun ls hl => ?_)
                                                        refine lv_goto (tgt := 203) hx hb dX11_shift_364 rfl ?_
                                                        exact ih_203 (k + 1) (upd cx1 (40 * f + k) ((cF40 cx f k) + ((dx * (nI ((rr + 1) - (wyR (kd f).toInt n kk k)))) / (nI (rr + 1))))) (upd cy1 (40 * f + k) ((cF40 cy f k) + ((dy * (nI ((rr + 1) - (wyR (kd f).toInt n kk k)))) / (nI (rr + 1))))) H locs ls (by first | with_reducible assumption | omega) (by first | with_reducible assumption | omega) (by first | exact fgX_u hcx (shV_f (by first | with_reducible assumption | assumption)) | exact fgX_k hcx (shV_t (X := cF40 cx f) (by first | exact Or.inl (by first | with_reducible assumption | omega) | exact Or.inr ⟨by assumption, by omega⟩))) (by first | exact fgX_u hcy (shV_f (by first | with_reducible assumption | assumption)) | exact fgX_k hcy (shV_t (X := cF40 cy f) (by first | exact Or.inl (by first | with_reducible assumption | omega) | exact Or.inr ⟨by assumption, by omega⟩))) hP hD hS (lv_sub hl [0, 3, 4, 5, 6, 7, 8, 9, 10, 11, 12] rfl)
                                                      · exact absurd (by decide) c_41
                                                    · exact absurd (by decide) c_39
                                                  · exact absurd (by decide) c_37
                                                · have c_35 : ((k : Nat) : Int) = ((n - 1 : Nat) : Int) := zc_eq (nI_toInt b9_20) (nI_toInt b9_36) c_35
                                                  refine lv_iconst (v := 1) hx hb dX11_shift_258 rfl ?_
                                                  refine lv_goto (tgt := 263) hx hb dX11_shift_259 rfl ?_
                                                  refine lv_istore (lv' := [(12, .int 1), (11, .int (nI (wyR (kd f).toInt n kk k))), (10, .int (nI k)), (9, .int 0), (7, .int 0), (8, .int 0), (6, .int 0), (0, .ref k0), (1, .int (nI f)), (2, .int (nI kk)), (3, .int dx), (4, .int dy), (5, .int (nI rr))]) hx hb dX11_shift_263 hl (Nat.le_of_ble_eq_true rfl) rfl (fun ls hl => ?_)
                                                  refine lv_iload hx hb dX11_shift_265 (lv_at hl 0 rfl) ?_
                                                  refine lv_if_eq (tgt := 273) hx hb dX11_shift_267 rfl (fun c_42 => ?_) (fun c_42 => ?_)
                                                  · exact absurd c_42 (by decide)
                                                  · refine lv_goto (tgt := 361) hx hb dX11_shift_270 rfl ?_
                                                    refine lv_iinc (v := nI (k + 1)) (lv' := [(10, .int (nI (k + 1))), (12, .int 1), (11, .int (nI (wyR (kd f).toInt n kk k))), (9, .int 0), (7, .int 0), (8, .int 0), (6, .int 0), (0, .ref k0), (1, .int (nI f)), (2, .int (nI kk)), (3, .int dx), (4, .int dy), (5, .int (nI rr))]) hx hb dX11_shift_361 hl (k := 2) rfl (nI_add k 1) (Nat.le_of_ble_eq_true rfl) rfl (fun ls hl => ?_)
                                                    refine lv_goto (tgt := 203) hx hb dX11_shift_364 rfl ?_
                                                    exact ih_203 (k + 1) cx1 cy1 H locs ls (by first | with_reducible assumption | omega) (by first | with_reducible assumption | omega) (by first | exact fgX_u hcx (shV_f (by first | with_reducible assumption | assumption)) | exact fgX_k hcx (shV_t (X := cF40 cx f) (by first | exact Or.inl (by first | with_reducible assumption | omega) | exact Or.inr ⟨by assumption, by omega⟩))) (by first | exact fgX_u hcy (shV_f (by first | with_reducible assumption | assumption)) | exact fgX_k hcy (shV_t (X := cF40 cy f) (by first | exact Or.inl (by first | with_reducible assumption | omega) | exact Or.inr ⟨by assumption, by omega⟩))) hP hD hS (lv_sub hl [0, 3, 4, 5, 6, 7, 8, 9, 10, 11, 12] rfl)
                                  exact hl_203 _ 0 cx cy H locs ls (Nat.lt_succ_self _) (by first | with_reducible assumption | omega) (fgX_0 _ _ _) (fgX_0 _ _ _) hP hD hS (lv_sub hl [0, 1, 2, 3, 4, 5, 6, 7, 8, 9, 10] rfl)
                                · have c_18 : (kd f).toInt = 6 := zc_eq rfl rfl c_18
                                  exfalso; omega
                            · exact absurd (by decide) c_16
                          · have c_15 : ¬ (tn f).toInt = 0 := zc_ne rfl rfl c_15
                            exfalso; omega
                        · exact absurd (by decide) c_14
                      · exact absurd (by decide) c_13
                    · have c_12 : 20 < ((rr : Nat) : Int) := zc_nle (nI_toInt b9_11) rfl c_12
                      exfalso; omega
        · have c_5 : ¬ (st f).toInt = 1 := zc_ne rfl rfl c_5
          exfalso; omega
      · exact absurd (by decide) c_3
  · have c_1 : f < ft := zp_1 c_1
    refine lv_aload_n hx hb dX11_shift_8 rfl (lv_at hl 0 rfl) ?_
    refine va_get (D := (dC, dI)) (ci := 9) (v := .ref (a 6)) (C := RX11) (T := TX11) (N := 55) hx hb hts inX11 hown hK hP 0 rfl rfl 6 (Nat.le_of_ble_eq_true rfl) (hts _ mw_1165) (fun _ h9 => h9) rfl dX11_shift_9 ?_
    refine lv_iload_n hx hb dX11_shift_12 rfl (lv_at hl 1 rfl) ?_
    have b9_43 : f < 201 := by omega
    refine z_zald hx hb hK hP 10 1 rfl rfl (e := f) rfl b9_43 (Nat.le_of_ble_eq_true rfl) dX11_shift_13 ?_
    refine lv_if_ne (tgt := 35) hx hb dX11_shift_14 rfl (fun c_44 => ?_) (fun c_44 => ?_)
    · have c_44 : ¬ (tn f).toInt = 0 := zc_ne rfl rfl c_44
      refine lv_iconst (v := 0) hx hb dX11_shift_35 rfl ?_
      refine lv_istore (lv' := [(6, .int 0), (0, .ref k0), (1, .int (nI f)), (2, .int (nI kk)), (3, .int dx), (4, .int dy), (5, .int (nI rr))]) hx hb dX11_shift_36 hl (Nat.le_of_ble_eq_true rfl) rfl (fun ls hl => ?_)
      refine lv_aload_n hx hb dX11_shift_38 rfl (lv_at hl 1 rfl) ?_
      refine lv_iload_n hx hb dX11_shift_39 rfl (lv_at hl 2 rfl) ?_
      obtain ⟨hPc, hDc, hFc, hI1⟩ := zi_sub (wc := [_]) hP hD hS hA [0] rfl rfl
      refine zcall (st1 := [.int (pI (f < ft))]) (va_runV (As := [.int (nI f)]) (rest := []) ⟨hx, hb, hml, hown, hts⟩ (k_M_isFeature_n l dC dI cI cZ cF H.size k0 a I0 J0 f ft (by first | with_reducible assumption | assumption) (by first | with_reducible assumption | omega) (by first | with_reducible assumption | omega)) (csV_178 hts rfl rfl ⟨Nat.le_of_ble_eq_true rfl, Nat.le_of_ble_eq_true rfl⟩) (zPV2 (q0 := 0) (ci := 9) hPc hDc hK hXN rfl rfl) rfl rfl hl.1 rfl (lv_room (Nat.le_of_ble_eq_true rfl)) dX11_shift_40 ⟨Nat.le_of_ble_eq_true rfl, Nat.le_of_ble_eq_true rfl⟩) hS hFc hFc rfl (fun t H locs ht hB hk1 hS => ?_)
      obtain ⟨hP1, hD1⟩ := hB
      rw [ht] at hP1
      replace hP := z0 hP hD hk1 hP1 hI1
      clear hk1 hPc hDc hFc hP1 hD1 ht hI1
      refine lv_if_eq (tgt := 51) hx hb dX11_shift_43 rfl (fun c_45 => ?_) (fun c_45 => ?_)
      · have c_45 : ¬ (f < ft) := zp_0 c_45
        exfalso; omega
      · have c_45 : f < ft := zp_1 c_45
        refine lv_iload hx hb dX11_shift_46 (lv_at hl 0 rfl) ?_
        refine lv_if_eq (tgt := 55) hx hb dX11_shift_48 rfl (fun c_46 => ?_) (fun c_46 => ?_)
        · refine lv_aload_n hx hb dX11_shift_55 rfl (lv_at hl 1 rfl) ?_
          refine va_get (D := (dC, dI)) (ci := 9) (v := .ref (a 5)) (C := RX11) (T := TX11) (N := 55) hx hb hts inX11 hown hK hP 0 rfl rfl 5 (Nat.le_of_ble_eq_true rfl) (hts _ mw_1164) (fun _ h9 => h9) rfl dX11_shift_56 ?_
          refine lv_iload_n hx hb dX11_shift_59 rfl (lv_at hl 2 rfl) ?_
          refine z_iald hx hb hK hP 2 0 rfl rfl (e := f) rfl b9_43 (Nat.le_of_ble_eq_true rfl) dX11_shift_60 ?_
          refine lv_iconst (v := 1) hx hb dX11_shift_61 rfl ?_
          refine lv_icmp_eq (tgt := 69) hx hb dX11_shift_62 rfl (fun c_47 => ?_) (fun c_47 => ?_)
          · have c_47 : (st f).toInt = 1 := zc_eq rfl rfl c_47
            refine lv_iconst (v := 0) hx hb dX11_shift_69 rfl ?_
            refine lv_istore (lv' := [(7, .int 0), (6, .int 0), (0, .ref k0), (1, .int (nI f)), (2, .int (nI kk)), (3, .int dx), (4, .int dy), (5, .int (nI rr))]) hx hb dX11_shift_70 hl (Nat.le_of_ble_eq_true rfl) rfl (fun ls hl => ?_)
            refine lv_iload_n hx hb dX11_shift_72 rfl (lv_at hl 5 rfl) ?_
            refine lv_sipush (v := (-200)) hx hb dX11_shift_73 rfl ?_
            refine lv_icmp_lt (tgt := 114) hx hb dX11_shift_76 rfl (fun c_48 => ?_) (fun c_48 => ?_)
            · have c_48 : dx.toInt < (-200) := zc_lt rfl rfl c_48
              exfalso; omega
            · have c_48 : (-200) ≤ dx.toInt := zc_nlt rfl rfl c_48
              refine lv_iload_n hx hb dX11_shift_79 rfl (lv_at hl 5 rfl) ?_
              refine lv_sipush (v := 200) hx hb dX11_shift_80 rfl ?_
              refine lv_icmp_gt (tgt := 114) hx hb dX11_shift_83 rfl (fun c_49 => ?_) (fun c_49 => ?_)
              · have c_49 : 200 < dx.toInt := zc_lt rfl rfl c_49
                exfalso; omega
              · have c_49 : dx.toInt ≤ 200 := zc_nlt rfl rfl c_49
                refine lv_iload hx hb dX11_shift_86 (lv_at hl 6 rfl) ?_
                refine lv_sipush (v := (-200)) hx hb dX11_shift_88 rfl ?_
                refine lv_icmp_lt (tgt := 114) hx hb dX11_shift_91 rfl (fun c_50 => ?_) (fun c_50 => ?_)
                · have c_50 : dy.toInt < (-200) := zc_lt rfl rfl c_50
                  exfalso; omega
                · have c_50 : (-200) ≤ dy.toInt := zc_nlt rfl rfl c_50
                  refine lv_iload hx hb dX11_shift_94 (lv_at hl 6 rfl) ?_
                  refine lv_sipush (v := 200) hx hb dX11_shift_96 rfl ?_
                  refine lv_icmp_gt (tgt := 114) hx hb dX11_shift_99 rfl (fun c_51 => ?_) (fun c_51 => ?_)
                  · have c_51 : 200 < dy.toInt := zc_lt rfl rfl c_51
                    exfalso; omega
                  · have c_51 : dy.toInt ≤ 200 := zc_nlt rfl rfl c_51
                    refine lv_iload hx hb dX11_shift_102 (lv_at hl 7 rfl) ?_
                    have b9_53 : zlt (rr) := show rr < 2147483648 by omega
                    refine lv_if_lt (tgt := 114) hx hb dX11_shift_104 rfl (fun c_52 => ?_) (fun c_52 => ?_)
                    · have c_52 : ((rr : Nat) : Int) < 0 := zc_lt (nI_toInt b9_53) rfl c_52
                      exfalso; omega
                    · have c_52 : 0 ≤ ((rr : Nat) : Int) := zc_nlt (nI_toInt b9_53) rfl c_52
                      refine lv_iload hx hb dX11_shift_107 (lv_at hl 7 rfl) ?_
                      refine lv_bipush (v := 20) hx hb dX11_shift_109 rfl ?_
                      refine lv_icmp_le (tgt := 118) hx hb dX11_shift_111 rfl (fun c_54 => ?_) (fun c_54 => ?_)
                      · have c_54 : ((rr : Nat) : Int) ≤ 20 := zc_le (nI_toInt b9_53) rfl c_54
                        refine lv_iconst (v := 0) hx hb dX11_shift_118 rfl ?_
                        refine lv_istore (lv' := [(8, .int 0), (7, .int 0), (6, .int 0), (0, .ref k0), (1, .int (nI f)), (2, .int (nI kk)), (3, .int dx), (4, .int dy), (5, .int (nI rr))]) hx hb dX11_shift_119 hl (Nat.le_of_ble_eq_true rfl) rfl (fun ls hl => ?_)
                        refine lv_iload hx hb dX11_shift_121 (lv_at hl 1 rfl) ?_
                        refine lv_if_le (tgt := 131) hx hb dX11_shift_123 rfl (fun c_55 => ?_) (fun c_55 => ?_)
                        · refine lv_iload hx hb dX11_shift_131 (lv_at hl 0 rfl) ?_
                          refine lv_if_eq (tgt := 140) hx hb dX11_shift_133 rfl (fun c_56 => ?_) (fun c_56 => ?_)
                          · refine lv_aload_n hx hb dX11_shift_140 rfl (lv_at hl 3 rfl) ?_
                            refine va_get (D := (dC, dI)) (ci := 9) (v := .ref (a 6)) (C := RX11) (T := TX11) (N := 55) hx hb hts inX11 hown hK hP 0 rfl rfl 6 (Nat.le_of_ble_eq_true rfl) (hts _ mw_1165) (fun _ h9 => h9) rfl dX11_shift_141 ?_
                            refine lv_iload_n hx hb dX11_shift_144 rfl (lv_at hl 4 rfl) ?_
                            refine z_zald hx hb hK hP 10 1 rfl rfl (e := f) rfl b9_43 (Nat.le_of_ble_eq_true rfl) dX11_shift_145 ?_
                            refine lv_if_eq (tgt := 153) hx hb dX11_shift_146 rfl (fun c_57 => ?_) (fun c_57 => ?_)
                            · have c_57 : (tn f).toInt = 0 := zc_eq rfl rfl c_57
                              refine lv_iconst (v := 0) hx hb dX11_shift_153 rfl ?_
                              refine lv_istore (lv' := [(7, .int 0), (8, .int 0), (6, .int 0), (0, .ref k0), (1, .int (nI f)), (2, .int (nI kk)), (3, .int dx), (4, .int dy), (5, .int (nI rr))]) hx hb dX11_shift_154 hl (Nat.le_of_ble_eq_true rfl) rfl (fun ls hl => ?_)
                              refine lv_iload hx hb dX11_shift_156 (lv_at hl 0 rfl) ?_
                              refine lv_if_le (tgt := 168) hx hb dX11_shift_158 rfl (fun c_58 => ?_) (fun c_58 => ?_)
                              · refine lv_aload_n hx hb dX11_shift_168 rfl (lv_at hl 3 rfl) ?_
                                refine lv_iload_n hx hb dX11_shift_169 rfl (lv_at hl 4 rfl) ?_
                                obtain ⟨hPc, hDc, hFc⟩ := zo_sub (wc := [_, _, _, _, _, _, _, _, _, _, _, _, _]) hP hD hS hA [0, 2, 10, 1, 11, 12, 13, 19, 23, 24, 25, 26, 27] (by decide +kernel) rfl
                                refine zcall (st1 := []) (va_runV (As := [.int (nI f)]) (rest := []) ⟨hx, hb, hml, hown, hts⟩ (k_M_remember l dC dI cI cZ cF H.size k0 a I0 J0 f n ft st tn kd mn cx cy S0 ox oy mt wi ins (by first | with_reducible assumption | assumption) (by first | with_reducible assumption | omega) (by first | with_reducible assumption | omega) (by first | with_reducible assumption | assumption) (by first | with_reducible assumption | omega) (by first | with_reducible assumption | assumption) (fun q h1 _ => hwf q h1)) (csV_190 hts rfl rfl ⟨Nat.le_of_ble_eq_true rfl, Nat.le_of_ble_eq_true rfl⟩) (zPV2 (q0 := 0) (ci := 9) hPc hDc hK hXN rfl rfl) rfl rfl hl.1 rfl (lv_room (Nat.le_of_ble_eq_true rfl)) dX11_shift_170 ⟨Nat.le_of_ble_eq_true rfl, Nat.le_of_ble_eq_true rfl⟩) hS hFc hFc rfl (fun t H locs ht hB hk1 hS => ?_)
                                refine ex6 hB (fun S1 ox1 oy1 mt1 wi1 ins1 hB0 => ?_)
                                clear hB
                                obtain ⟨hox, hmt, hwi, hin, hP1, hD1⟩ := hB0
                                rw [ht] at hP1
                                obtain ⟨hP, hD⟩ := zn (W2 := [(om k0 a (upd (upd I0 35 (nI n)) 36 (kd f)) J0), _, _, _, _, _, _, _, _, _, _, _, _, _, _, _, _, _, _, (oa (a 32) cI 8 S1), _, _, _, (oa (a 33) cI 42 ox1), (oa (a 34) cI 42 oy1), (oa (a 37) cZ 201 mt1), (oa (a 38) cZ 201 wi1), (oa (a 39) cZ 8040 ins1), _, _, _, _]) hP hD hk1 hFc hP1 hD1 zl_194 zl_195 zl_195 zl_194 (by decide +kernel) rfl rfl rfl rfl rfl
                                clear hk1 hPc hDc hFc hP1 hD1 ht
                                refine lv_aload_n hx hb dX11_shift_173 rfl (lv_at hl 3 rfl) ?_
                                refine va_get (D := (dC, dI)) (ci := 9) (v := .ref (a 1)) (C := RX11) (T := TX11) (N := 55) hx hb hts inX11 hown hK hP 0 rfl rfl 1 (Nat.le_of_ble_eq_true rfl) (hts _ mw_1160) (fun _ h9 => h9) rfl dX11_shift_174 ?_
                                refine lv_iload_n hx hb dX11_shift_177 rfl (lv_at hl 4 rfl) ?_
                                refine z_iald hx hb hK hP 1 0 rfl rfl (e := f) rfl b9_43 (Nat.le_of_ble_eq_true rfl) dX11_shift_178 ?_
                                refine lv_if_eq (tgt := 193) hx hb dX11_shift_179 rfl (fun c_59 => ?_) (fun c_59 => ?_)
                                · have c_59 : (kd f).toInt = 0 := zc_eq rfl rfl c_59
                                  exfalso; omega
                                · have c_59 : ¬ (kd f).toInt = 0 := zc_ne rfl rfl c_59
                                  refine lv_aload_n hx hb dX11_shift_182 rfl (lv_at hl 3 rfl) ?_
                                  refine va_get (D := (dC, dI)) (ci := 9) (v := .ref (a 1)) (C := RX11) (T := TX11) (N := 55) hx hb hts inX11 hown hK hP 0 rfl rfl 1 (Nat.le_of_ble_eq_true rfl) (hts _ mw_1160) (fun _ h9 => h9) rfl dX11_shift_183 ?_
                                  refine lv_iload_n hx hb dX11_shift_186 rfl (lv_at hl 4 rfl) ?_
                                  refine z_iald hx hb hK hP 1 0 rfl rfl (e := f) rfl b9_43 (Nat.le_of_ble_eq_true rfl) dX11_shift_187 ?_
                                  refine lv_bipush (v := 6) hx hb dX11_shift_188 rfl ?_
                                  refine lv_icmp_ne (tgt := 197) hx hb dX11_shift_190 rfl (fun c_60 => ?_) (fun c_60 => ?_)
                                  · have c_60 : ¬ (kd f).toInt = 6 := zc_ne rfl rfl c_60
                                    refine lv_iconst (v := 0) hx hb dX11_shift_197 rfl ?_
                                    refine lv_istore (lv' := [(9, .int 0), (7, .int 0), (8, .int 0), (6, .int 0), (0, .ref k0), (1, .int (nI f)), (2, .int (nI kk)), (3, .int dx), (4, .int dy), (5, .int (nI rr))]) hx hb dX11_shift_198 hl (Nat.le_of_ble_eq_true rfl) rfl (fun ls hl => ?_)
                                    refine lv_iconst (v := 0) hx hb dX11_shift_200 rfl ?_
                                    refine lv_istore (lv' := [(10, .int 0), (9, .int 0), (7, .int 0), (8, .int 0), (6, .int 0), (0, .ref k0), (1, .int (nI f)), (2, .int (nI kk)), (3, .int dx), (4, .int dy), (5, .int (nI rr))]) hx hb dX11_shift_201 hl (Nat.le_of_ble_eq_true rfl) rfl (fun ls hl => ?_)
                                    have hl_203 : ∀ (n9 : Nat) (k : Nat) (cx1 : Nat → Int32) (cy1 : Nat → Int32) (H : Heap) (locs : List Loc) (ls : Array Slot), n - k < n9 → (k ≤ n) → (cx1 = fgX f k (fun i => shV (kd f).toInt n kk dx rr (cF40 cx f) i) cx) → (cy1 = fgX f k (fun i => shV (kd f).toInt n kk dy rr (cF40 cy f) i) cy) → va_P (dC, dI) classes [(om k0 a (upd (upd I0 35 (nI n)) 36 (kd f)) J0), (oa (a 1) cI 201 kd), (oa (a 5) cI 201 st), (oa (a 7) cI 201 gb), (oa (a 10) cI 201 it), (oa (a 8) cI 201 pa), (oa (a 9) cI 201 pb), (oa (a 2) cI 201 rk), (oa (a 3) cI 201 wd), (oa (a 4) cI 201 tw), (oa (a 6) cZ 201 tn), (oa (a 11) cI 201 mn), (oa (a 12) cI 8040 cx1), (oa (a 13) cI 8040 cy1), (oa (a 27) cI 516 sa), (oa (a 28) cI (4096 * cp) sh), (oa (a 16) cI 514 wh), (oa (a 17) cI 514 of9), (oa (a 18) cI 514 we), (oa (a 32) cI 8 S1), (oa (a 40) cI 6 T0), (oa (a 29) cI 42 P0), (oa (a 30) cI 42 Q0), (oa (a 33) cI 42 ox1), (oa (a 34) cI 42 oy1), (oa (a 37) cZ 201 mt1), (oa (a 38) cZ 201 wi1), (oa (a 39) cZ 8040 ins1), (oa (a 22) cI (64 * cl) la), (oa (a 23) cI (64 * cl) lb), (oa (a 24) cI (64 * cl) lc), (oa (a 25) cI (64 * cl) ld)] H → va_D A [(om k0 a (upd (upd I0 35 (nI n)) 36 (kd f)) J0), (oa (a 1) cI 201 kd), (oa (a 5) cI 201 st), (oa (a 7) cI 201 gb), (oa (a 10) cI 201 it), (oa (a 8) cI 201 pa), (oa (a 9) cI 201 pb), (oa (a 2) cI 201 rk), (oa (a 3) cI 201 wd), (oa (a 4) cI 201 tw), (oa (a 6) cZ 201 tn), (oa (a 11) cI 201 mn), (oa (a 12) cI 8040 cx1), (oa (a 13) cI 8040 cy1), (oa (a 27) cI 516 sa), (oa (a 28) cI (4096 * cp) sh), (oa (a 16) cI 514 wh), (oa (a 17) cI 514 of9), (oa (a 18) cI 514 we), (oa (a 32) cI 8 S1), (oa (a 40) cI 6 T0), (oa (a 29) cI 42 P0), (oa (a 30) cI 42 Q0), (oa (a 33) cI 42 ox1), (oa (a 34) cI 42 oy1), (oa (a 37) cZ 201 mt1), (oa (a 38) cZ 201 wi1), (oa (a 39) cZ 8040 ins1), (oa (a 22) cI (64 * cl) la), (oa (a 23) cI (64 * cl) lb), (oa (a 24) cI (64 * cl) lc), (oa (a 25) cI (64 * cl) ld)] → va_S A s.heap H locs → lv_has ls 13 [(10, .int (nI k)), (9, .int 0), (7, .int 0), (8, .int 0), (6, .int 0), (0, .ref k0), (1, .int (nI f)), (2, .int (nI kk)), (3, .int dx), (4, .int dy), (5, .int (nI rr))] → W p l e ({ frames := 8, cells := 0, slots := 0, locals := 210 } : Room) s m ([.ref k0, .int (nI f), .int (nI kk), .int dx, .int dy, .int (nI rr)] : List Value).toArray below meth c H locs 0 0 Q9 (F0 m 203 ls []) := by
                                      intro n9
                                      induction n9 with
                                      | zero => intro k cx1 cy1 H locs ls hm; exact absurd hm (Nat.not_lt_zero _)
                                      | succ n9 ih_203 =>
                                        intro k cx1 cy1 H locs ls hm hk hcx hcy hP hD hS hl
                                        refine lv_iload hx hb dX11_shift_203 (lv_at hl 0 rfl) ?_
                                        refine lv_aload_n hx hb dX11_shift_205 rfl (lv_at hl 5 rfl) ?_
                                        refine va_get (D := (dC, dI)) (ci := 9) (v := .int (nI n)) (C := RX11) (T := TX11) (N := 55) hx hb hts inX11 hown hK hP 0 rfl rfl 35 (Nat.le_of_ble_eq_true rfl) (hts _ mw_1194) (fun _ h9 => h9) rfl dX11_shift_206 ?_
                                        have b9_62 : zlt (k) := show k < 2147483648 by omega
                                        have b9_63 : zlt (n) := show n < 2147483648 by omega
                                        refine lv_icmp_ge (tgt := 367) hx hb dX11_shift_209 rfl (fun c_61 => ?_) (fun c_61 => ?_)
                                        · have c_61 : ((n : Nat) : Int) ≤ ((k : Nat) : Int) := zc_le (nI_toInt b9_63) (nI_toInt b9_62) c_61
                                          have hkn : k = n := (by omega)
                                          rw [hkn] at hcx hcy
                                          refine lv_aload_n hx hb dX11_shift_367 rfl (lv_at hl 5 rfl) ?_
                                          refine lv_iload_n hx hb dX11_shift_368 rfl (lv_at hl 6 rfl) ?_
                                          obtain ⟨hPc, hDc, hFc, hI1⟩ := zi_sub (wc := [_, _, _, _, _]) hP hD hS hA [0, 12, 13, 23, 24] (by decide +kernel) rfl
                                          refine zcall (st1 := [.int (pI (∃ k, k < n ∧ ¬ ((cx1 (40 * f + k)).toInt = (ox1 k).toInt ∧ (cy1 (40 * f + k)).toInt = (oy1 k).toInt)))]) (va_runV (As := [.int (nI f)]) (rest := []) ⟨hx, hb, hml, hown, hts⟩ (k_M_moves l dC dI cI cZ cF H.size k0 a (upd (upd I0 35 (nI n)) 36 (kd f)) J0 f n cx1 cy1 ox1 oy1 (by first | with_reducible assumption | omega) (rfl) (by first | with_reducible assumption | omega)) (csV_211 hts rfl rfl ⟨Nat.le_of_ble_eq_true rfl, Nat.le_of_ble_eq_true rfl⟩) (zPV2 (q0 := 0) (ci := 9) hPc hDc hK hXN rfl rfl) rfl rfl hl.1 rfl (lv_room (Nat.le_of_ble_eq_true rfl)) dX11_shift_369 ⟨Nat.le_of_ble_eq_true rfl, Nat.le_of_ble_eq_true rfl⟩) hS hFc hFc rfl (fun t H locs ht hB hk1 hS => ?_)
                                          obtain ⟨hP1, hD1⟩ := hB
                                          rw [ht] at hP1
                                          replace hP := z0 hP hD hk1 hP1 hI1
                                          clear hk1 hPc hDc hFc hP1 hD1 ht hI1
                                          refine zz_i (v := pI (mvd n (fun i => shV (kd f).toInt n kk dx rr (cF40 cx f) i) (fun i => shV (kd f).toInt n kk dy rr (cF40 cy f) i) (cF40 cx f) (cF40 cy f))) (zp_iff (mv_iff hcx hcy hox)) ?_
                                          refine lv_if_ne (tgt := 382) hx hb dX11_shift_372 rfl (fun c_64 => ?_) (fun c_64 => ?_)
                                          · have c_64 : mvd n (fun i => shV (kd f).toInt n kk dx rr (cF40 cx f) i) (fun i => shV (kd f).toInt n kk dy rr (cF40 cy f) i) (cF40 cx f) (cF40 cy f) := zp_1 c_64
                                            refine lv_aload_n hx hb dX11_shift_382 rfl (lv_at hl 5 rfl) ?_
                                            refine lv_iload_n hx hb dX11_shift_383 rfl (lv_at hl 6 rfl) ?_
                                            refine lv_iconst (v := 3) hx hb dX11_shift_384 rfl ?_
                                            refine zz_i (v := nI 3) (rfl) ?_
                                            have hbx : fgX f n ox1 cx1 = cx := (by rw [hcx]; exact fgX_back (fun k9 h9 => (hox k9 h9).1))
                                            have hby : fgX f n oy1 cy1 = cy := (by rw [hcy]; exact fgX_back (fun k9 h9 => (hox k9 h9).2))
                                            have hlq := lwM_eq (ft := ft) (st := st) (tn := tn) (kd := kd) (mn := mn) hn_f.1 hcx hcy hox
                                            have hpo : pls n ox1 oy1 := fun j hj => by rw [(hox j hj).1, (hox j hj).2]; exact hp_f j hj
                                            have hwf2 : ∀ q, lvF ft st tn q → q ≠ f → wfM mn cx1 cy1 q := fun q h1 h2 => wfM_o (hwf q h1) h2 (fun _ _ => rfl) (fun j hj => by rw [hcx, hcy]; exact ⟨fgX_o (by omega), fgX_o (by omega)⟩)
                                            obtain ⟨hPc, hDc, hFc⟩ := zo_sub (wc := [_, _, _, _, _, _, _, _, _, _, _, _, _, _, _, _, _, _, _, _, _, _, _, _, _, _, _, _, _, _, _, _]) hP hD hS hA [0, 1, 2, 3, 4, 5, 6, 7, 8, 9, 10, 11, 12, 13, 14, 15, 16, 17, 18, 19, 20, 21, 22, 23, 24, 25, 26, 27, 28, 29, 30, 31] (by decide +kernel) rfl
                                            refine zcall (st1 := [.int 0]) (va_runV (As := [.int (nI f), .int (nI 3)]) (rest := []) ⟨hx, hb, hml, hown, hts⟩ (k_M_changes_mn l dC dI cI cZ cF H.size k0 a (upd (upd I0 35 (nI n)) 36 (kd f)) J0 f n ft n (kd f) 3 kd st gb it pa pb rk wd tw tn mn cx1 cy1 sa sh wh of9 we S1 T0 P0 Q0 ox1 oy1 mt1 wi1 ins1 la lb lc ld (bMt kd mn cx cy f n) (bWi kd mn cx cy f) (bIn kd cx cy f n) cp cl (hft) (by first | with_reducible assumption | omega) (by first | with_reducible assumption | omega) (hm_f) (by first | with_reducible assumption | omega) (hwf2) (by first | with_reducible assumption | omega) (by first | with_reducible assumption | omega) (hpo) (hmt) (fun q h1 h2 h5 => by rw [hwi q h1 h2]; exact zp_iff ⟨fun h => h.2, fun h => ⟨h5, h⟩⟩) (fun q h1 h2 i hi h5 => hin q h1 h2 h5 i hi) (by first | with_reducible assumption | omega) (rfl) (hft_f) (by rw [hlq]; exact hlaw)) (csV_212 hts rfl rfl ⟨Nat.le_of_ble_eq_true rfl, Nat.le_of_ble_eq_true rfl⟩) (zPV2 (q0 := 0) (ci := 9) hPc hDc hK hXN rfl rfl) rfl rfl hl.1 rfl (lv_room (Nat.le_of_ble_eq_true rfl)) dX11_shift_385 ⟨Nat.le_of_ble_eq_true rfl, Nat.le_of_ble_eq_true rfl⟩) hS hFc hFc rfl (fun t H locs ht hB hk1 hS => ?_)
                                            obtain ⟨z8, S2, T2, P2, Q2, hP1, hD1⟩ := hB
                                            rw [ht] at hP1
                                            obtain ⟨hP, hD⟩ := zn (W2 := [(om k0 a (upd (upd (upd (upd (upd I0 14 7) 15 (I0 15 + 1)) 31 z8) 35 (nI n)) 36 (kd f)) J0), (oa (a 1) cI 201 (upd kd f (kd f))), _, _, _, _, _, _, _, _, _, (oa (a 11) cI 201 (upd mn f (nI n))), (oa (a 12) cI 8040 (fgX f n ox1 cx1)), (oa (a 13) cI 8040 (fgX f n oy1 cy1)), _, _, _, _, _, (oa (a 32) cI 8 S2), (oa (a 40) cI 6 T2), (oa (a 29) cI 42 P2), (oa (a 30) cI 42 Q2), _, _, _, _, _, _, _, _, _]) hP hD hk1 hFc hP1 hD1 zl_196 [] zl_197 zl_196 (by decide +kernel) rfl rfl rfl rfl rfl
                                            clear hk1 hPc hDc hFc hP1 hD1 ht
                                            obtain ⟨hP9, hD9⟩ := zu_sub (wc := [(om k0 a (upd (upd (upd (upd (upd I0 14 7) 15 (I0 15 + 1)) 31 z8) 35 (nI n)) 36 (kd f)) J0), (oa (a 1) cI 201 (upd kd f (kd f))), (oa (a 5) cI 201 st), (oa (a 7) cI 201 gb), (oa (a 10) cI 201 it), (oa (a 8) cI 201 pa), (oa (a 9) cI 201 pb), (oa (a 2) cI 201 rk), (oa (a 3) cI 201 wd), (oa (a 4) cI 201 tw), (oa (a 6) cZ 201 tn), (oa (a 11) cI 201 (upd mn f (nI n))), (oa (a 12) cI 8040 (fgX f n ox1 cx1)), (oa (a 13) cI 8040 (fgX f n oy1 cy1)), (oa (a 27) cI 516 sa), (oa (a 28) cI (4096 * cp) sh), (oa (a 16) cI 514 wh), (oa (a 17) cI 514 of9), (oa (a 18) cI 514 we), (oa (a 32) cI 8 S2), (oa (a 40) cI 6 T2), (oa (a 29) cI 42 P2), (oa (a 30) cI 42 Q2), (oa (a 33) cI 42 ox1), (oa (a 34) cI 42 oy1), (oa (a 37) cZ 201 mt1), (oa (a 38) cZ 201 wi1), (oa (a 39) cZ 8040 ins1), (oa (a 22) cI (64 * cl) la), (oa (a 23) cI (64 * cl) lb), (oa (a 24) cI (64 * cl) lc), (oa (a 25) cI (64 * cl) ld)]) hP hD (true :: true :: true :: true :: true :: true :: true :: true :: true :: true :: true :: true :: true :: true :: true :: true :: true :: true :: true :: true :: true :: true :: true :: true :: true :: true :: true :: true :: true :: true :: true :: true :: []) rfl rfl
                                            have hE9 : ([(om k0 a (upd (upd (upd (upd (upd I0 14 7) 15 (I0 15 + 1)) 31 z8) 35 (nI n)) 36 (kd f)) J0), (oa (a 1) cI 201 (upd kd f (kd f))), (oa (a 5) cI 201 st), (oa (a 7) cI 201 gb), (oa (a 10) cI 201 it), (oa (a 8) cI 201 pa), (oa (a 9) cI 201 pb), (oa (a 2) cI 201 rk), (oa (a 3) cI 201 wd), (oa (a 4) cI 201 tw), (oa (a 6) cZ 201 tn), (oa (a 11) cI 201 (upd mn f (nI n))), (oa (a 12) cI 8040 (fgX f n ox1 cx1)), (oa (a 13) cI 8040 (fgX f n oy1 cy1)), (oa (a 27) cI 516 sa), (oa (a 28) cI (4096 * cp) sh), (oa (a 16) cI 514 wh), (oa (a 17) cI 514 of9), (oa (a 18) cI 514 we), (oa (a 32) cI 8 S2), (oa (a 40) cI 6 T2), (oa (a 29) cI 42 P2), (oa (a 30) cI 42 Q2), (oa (a 33) cI 42 ox1), (oa (a 34) cI 42 oy1), (oa (a 37) cZ 201 mt1), (oa (a 38) cZ 201 wi1), (oa (a 39) cZ 8040 ins1), (oa (a 22) cI (64 * cl) la), (oa (a 23) cI (64 * cl) lb), (oa (a 24) cI (64 * cl) lc), (oa (a 25) cI (64 * cl) ld)] : va_W) = [(om k0 a (upd (upd (upd (upd (upd I0 14 7) 15 (I0 15 + 1)) 31 z8) 35 (nI n)) 36 (kd f)) J0), (oa (a 1) cI 201 kd), (oa (a 5) cI 201 st), (oa (a 7) cI 201 gb), (oa (a 10) cI 201 it), (oa (a 8) cI 201 pa), (oa (a 9) cI 201 pb), (oa (a 2) cI 201 rk), (oa (a 3) cI 201 wd), (oa (a 4) cI 201 tw), (oa (a 6) cZ 201 tn), (oa (a 11) cI 201 mn), (oa (a 12) cI 8040 cx), (oa (a 13) cI 8040 cy), (oa (a 27) cI 516 sa), (oa (a 28) cI (4096 * cp) sh), (oa (a 16) cI 514 wh), (oa (a 17) cI 514 of9), (oa (a 18) cI 514 we), (oa (a 32) cI 8 S2), (oa (a 40) cI 6 T2), (oa (a 29) cI 42 P2), (oa (a 30) cI 42 Q2), (oa (a 33) cI 42 ox1), (oa (a 34) cI 42 oy1), (oa (a 37) cZ 201 mt1), (oa (a 38) cZ 201 wi1), (oa (a 39) cZ 8040 ins1), (oa (a 22) cI (64 * cl) la), (oa (a 23) cI (64 * cl) lb), (oa (a 24) cI (64 * cl) lc), (oa (a 25) cI (64 * cl) ld)] := by rw [hum, huk, hbx, hby]
                                            rw [hE9] at hP9 hD9
                                            rw [hQ9]
                                            exact W.zret (ty := .boolean) (v := 0) hx hb hr (rfl) (fun t ht hW => ⟨⟨rfl, z8, S2, T2, P2, Q2, ox1, oy1, mt1, wi1, ins1, by rw [ht]; exact hP9, hD9⟩, hS.F ht⟩) hS.2.2 dX11_shift_388
                                          · have c_64 : ¬ (mvd n (fun i => shV (kd f).toInt n kk dx rr (cF40 cx f) i) (fun i => shV (kd f).toInt n kk dy rr (cF40 cy f) i) (cF40 cx f) (cF40 cy f)) := zp_0 c_64
                                            exfalso; exact absurd hmv (by first | with_reducible assumption | assumption)
                                        · have c_61 : ((k : Nat) : Int) < ((n : Nat) : Int) := zc_nle (nI_toInt b9_63) (nI_toInt b9_62) c_61
                                          have hk9 : k < n := (by omega)
                                          have hwb := wyR_b (kf := (kd f).toInt) hkk hk9
                                          refine lv_aload_n hx hb dX11_shift_212 rfl (lv_at hl 5 rfl) ?_
                                          refine lv_iload_n hx hb dX11_shift_213 rfl (lv_at hl 6 rfl) ?_
                                          refine lv_iload_n hx hb dX11_shift_214 rfl (lv_at hl 7 rfl) ?_
                                          refine lv_iload hx hb dX11_shift_215 (lv_at hl 0 rfl) ?_
                                          obtain ⟨hPc, hDc, hFc, hI1⟩ := zi_sub (wc := [_, _]) hP hD hS hA [0, 1] rfl rfl
                                          refine zcall (st1 := [.int (nI (wyR (kd f).toInt n kk k))]) (va_runV (As := [.int (nI f), .int (nI kk), .int (nI k)]) (rest := []) ⟨hx, hb, hml, hown, hts⟩ (k_M_wayOf l dC dI cI cZ cF H.size k0 a (upd (upd I0 35 (nI n)) 36 (kd f)) J0 f n kk k kd (by first | with_reducible assumption | omega) (by first | with_reducible assumption | omega) (hkk) (by first | with_reducible assumption | omega)) (csV_216 hts rfl rfl ⟨Nat.le_of_ble_eq_true rfl, Nat.le_of_ble_eq_true rfl⟩) (zPV2 (q0 := 0) (ci := 9) hPc hDc hK hXN rfl rfl) rfl rfl hl.1 rfl (lv_room (Nat.le_of_ble_eq_true rfl)) dX11_shift_217 ⟨Nat.le_of_ble_eq_true rfl, Nat.le_of_ble_eq_true rfl⟩) hS hFc hFc rfl (fun t H locs ht hB hk1 hS => ?_)
                                          obtain ⟨hP1, hD1⟩ := hB
                                          rw [ht] at hP1
                                          replace hP := z0 hP hD hk1 hP1 hI1
                                          clear hk1 hPc hDc hFc hP1 hD1 ht hI1
                                          refine lv_istore (lv' := [(11, .int (nI (wyR (kd f).toInt n kk k))), (10, .int (nI k)), (9, .int 0), (7, .int 0), (8, .int 0), (6, .int 0), (0, .ref k0), (1, .int (nI f)), (2, .int (nI kk)), (3, .int dx), (4, .int dy), (5, .int (nI rr))]) hx hb dX11_shift_220 hl (Nat.le_of_ble_eq_true rfl) rfl (fun ls hl => ?_)
                                          refine lv_iload hx hb dX11_shift_222 (lv_at hl 2 rfl) ?_
                                          refine lv_if_ne (tgt := 262) hx hb dX11_shift_224 rfl (fun c_65 => ?_) (fun c_65 => ?_)
                                          · exact absurd (by decide) c_65
                                          · refine lv_iload hx hb dX11_shift_227 (lv_at hl 0 rfl) ?_
                                            refine lv_iload hx hb dX11_shift_229 (lv_at hl 11 rfl) ?_
                                            have b9_67 : zlt ((wyR (kd f).toInt n kk k)) := show (wyR (kd f).toInt n kk k) < 2147483648 by omega
                                            refine lv_icmp_gt (tgt := 258) hx hb dX11_shift_231 rfl (fun c_66 => ?_) (fun c_66 => ?_)
                                            · have c_66 : ((rr : Nat) : Int) < ((wyR (kd f).toInt n kk k : Nat) : Int) := zc_lt (nI_toInt b9_53) (nI_toInt b9_67) c_66
                                              refine lv_iconst (v := 1) hx hb dX11_shift_258 rfl ?_
                                              refine lv_goto (tgt := 263) hx hb dX11_shift_259 rfl ?_
                                              refine lv_istore (lv' := [(12, .int 1), (11, .int (nI (wyR (kd f).toInt n kk k))), (10, .int (nI k)), (9, .int 0), (7, .int 0), (8, .int 0), (6, .int 0), (0, .ref k0), (1, .int (nI f)), (2, .int (nI kk)), (3, .int dx), (4, .int dy), (5, .int (nI rr))]) hx hb dX11_shift_263 hl (Nat.le_of_ble_eq_true rfl) rfl (fun ls hl => ?_)
                                              refine lv_iload hx hb dX11_shift_265 (lv_at hl 0 rfl) ?_
                                              refine lv_if_eq (tgt := 273) hx hb dX11_shift_267 rfl (fun c_68 => ?_) (fun c_68 => ?_)
                                              · exact absurd c_68 (by decide)
                                              · refine lv_goto (tgt := 361) hx hb dX11_shift_270 rfl ?_
                                                refine lv_iinc (v := nI (k + 1)) (lv' := [(10, .int (nI (k + 1))), (12, .int 1), (11, .int (nI (wyR (kd f).toInt n kk k))), (9, .int 0), (7, .int 0), (8, .int 0), (6, .int 0), (0, .ref k0), (1, .int (nI f)), (2, .int (nI kk)), (3, .int dx), (4, .int dy), (5, .int (nI rr))]) hx hb dX11_shift_361 hl (k := 2) rfl (nI_add k 1) (Nat.le_of_ble_eq_true rfl) rfl (fun ls hl => ?_)
                                                refine lv_goto (tgt := 203) hx hb dX11_shift_364 rfl ?_
                                                exact ih_203 (k + 1) cx1 cy1 H locs ls (by first | with_reducible assumption | omega) (by first | with_reducible assumption | omega) (by first | exact fgX_u hcx (shV_f (by first | with_reducible assumption | assumption)) | exact fgX_k hcx (shV_t (X := cF40 cx f) (by first | exact Or.inl (by first | with_reducible assumption | omega) | exact Or.inr ⟨by assumption, by omega⟩))) (by first | exact fgX_u hcy (shV_f (by first | with_reducible assumption | assumption)) | exact fgX_k hcy (shV_t (X := cF40 cy f) (by first | exact Or.inl (by first | with_reducible assumption | omega) | exact Or.inr ⟨by assumption, by omega⟩))) hP hD hS (lv_sub hl [0, 3, 4, 5, 6, 7, 8, 9, 10, 11, 12] rfl)
                                            · have c_66 : ((wyR (kd f).toInt n kk k : Nat) : Int) ≤ ((rr : Nat) : Int) := zc_nlt (nI_toInt b9_53) (nI_toInt b9_67) c_66
                                              refine lv_aload_n hx hb dX11_shift_234 rfl (lv_at hl 6 rfl) ?_
                                              refine lv_iload_n hx hb dX11_shift_235 rfl (lv_at hl 7 rfl) ?_
                                              obtain ⟨hPc, hDc, hFc, hI1⟩ := zi_sub (wc := [_, _]) hP hD hS hA [0, 1] rfl rfl
                                              refine zcall (st1 := [.int (pI (5 ≤ (kd f).toInt))]) (va_runV (As := [.int (nI f)]) (rest := []) ⟨hx, hb, hml, hown, hts⟩ (k_M_isRing l dC dI cI cZ cF H.size k0 a (upd (upd I0 35 (nI n)) 36 (kd f)) J0 f kd (by first | with_reducible assumption | omega)) (csV_165 hts rfl rfl ⟨Nat.le_of_ble_eq_true rfl, Nat.le_of_ble_eq_true rfl⟩) (zPV2 (q0 := 0) (ci := 9) hPc hDc hK hXN rfl rfl) rfl rfl hl.1 rfl (lv_room (Nat.le_of_ble_eq_true rfl)) dX11_shift_236 ⟨Nat.le_of_ble_eq_true rfl, Nat.le_of_ble_eq_true rfl⟩) hS hFc hFc rfl (fun t H locs ht hB hk1 hS => ?_)
                                              obtain ⟨hP1, hD1⟩ := hB
                                              rw [ht] at hP1
                                              replace hP := z0 hP hD hk1 hP1 hI1
                                              clear hk1 hPc hDc hFc hP1 hD1 ht hI1
                                              refine lv_if_ne (tgt := 262) hx hb dX11_shift_239 rfl (fun c_69 => ?_) (fun c_69 => ?_)
                                              · have c_69 : 5 ≤ (kd f).toInt := zp_1 c_69
                                                refine lv_iconst (v := 0) hx hb dX11_shift_262 rfl ?_
                                                refine lv_istore (lv' := [(12, .int 0), (11, .int (nI (wyR (kd f).toInt n kk k))), (10, .int (nI k)), (9, .int 0), (7, .int 0), (8, .int 0), (6, .int 0), (0, .ref k0), (1, .int (nI f)), (2, .int (nI kk)), (3, .int dx), (4, .int dy), (5, .int (nI rr))]) hx hb dX11_shift_263 hl (Nat.le_of_ble_eq_true rfl) rfl (fun ls hl => ?_)
                                                refine lv_iload hx hb dX11_shift_265 (lv_at hl 0 rfl) ?_
                                                refine lv_if_eq (tgt := 273) hx hb dX11_shift_267 rfl (fun c_70 => ?_) (fun c_70 => ?_)
                                                · have hst9 : ¬ (rr < wyR (kd f).toInt n kk k ∨ (¬ 5 ≤ (kd f).toInt ∧ (k = 0 ∨ k = n - 1))) := (by first | exact fun h => h.elim (fun h => by omega) (fun h => absurd (by first | with_reducible assumption | assumption) h.1) | exact fun h => h.elim (fun h => by omega) (fun h => by omega))
                                                  have hwy : wyR (kd f).toInt n kk k ≤ rr := (by have := hst9; omega)
                                                  refine lv_aload_n hx hb dX11_shift_273 rfl (lv_at hl 7 rfl) ?_
                                                  refine va_get (D := (dC, dI)) (ci := 9) (v := .ref (a 12)) (C := RX11) (T := TX11) (N := 55) hx hb hts inX11 hown hK hP 0 rfl rfl 12 (Nat.le_of_ble_eq_true rfl) (hts _ mw_1171) (fun _ h9 => h9) rfl dX11_shift_274 ?_
                                                  refine lv_bipush (v := 40) hx hb dX11_shift_277 rfl ?_
                                                  refine lv_iload_n hx hb dX11_shift_279 rfl (lv_at hl 8 rfl) ?_
                                                  refine lv_imul hx hb dX11_shift_280 ?_
                                                  refine zz_i (v := nI (40 * f)) (pk_mul 40 f) ?_
                                                  refine lv_iload hx hb dX11_shift_281 (lv_at hl 2 rfl) ?_
                                                  refine lv_iadd hx hb dX11_shift_283 ?_
                                                  refine zz_i (v := nI (40 * f + k)) (nI_add (40 * f) k) ?_
                                                  refine lv_aload_n hx hb dX11_shift_284 rfl (lv_at hl 7 rfl) ?_
                                                  refine va_get (D := (dC, dI)) (ci := 9) (v := .ref (a 33)) (C := RX11) (T := TX11) (N := 55) hx hb hts inX11 hown hK hP 0 rfl rfl 33 (Nat.le_of_ble_eq_true rfl) (hts _ mw_1192) (fun _ h9 => h9) rfl dX11_shift_285 ?_
                                                  refine lv_iload hx hb dX11_shift_288 (lv_at hl 2 rfl) ?_
                                                  have b9_71 : k < 42 := by omega
                                                  refine z_iald hx hb hK hP 23 0 rfl rfl (e := k) rfl b9_71 (Nat.le_of_ble_eq_true rfl) dX11_shift_290 ?_
                                                  refine zz_i (v := cF40 cx f k) ((hox _ hk9).1) ?_
                                                  refine lv_iload hx hb dX11_shift_291 (lv_at hl 3 rfl) ?_
                                                  refine lv_if_eq (tgt := 300) hx hb dX11_shift_293 rfl (fun c_72 => ?_) (fun c_72 => ?_)
                                                  · refine lv_iload_n hx hb dX11_shift_300 rfl (lv_at hl 10 rfl) ?_
                                                    refine lv_iload hx hb dX11_shift_301 (lv_at hl 12 rfl) ?_
                                                    refine lv_iconst (v := 1) hx hb dX11_shift_303 rfl ?_
                                                    refine lv_iadd hx hb dX11_shift_304 ?_
                                                    refine zz_i (v := nI (rr + 1)) (nI_add rr 1) ?_
                                                    refine lv_iload hx hb dX11_shift_305 (lv_at hl 1 rfl) ?_
                                                    refine lv_isub hx hb dX11_shift_307 ?_
                                                    refine zz_i (v := nI ((rr + 1) - (wyR (kd f).toInt n kk k))) (pk_sub (a := rr + 1) (b := wyR (kd f).toInt n kk k) (by omega)) ?_
                                                    refine lv_imul hx hb dX11_shift_308 ?_
                                                    refine lv_iload hx hb dX11_shift_309 (lv_at hl 12 rfl) ?_
                                                    refine lv_iconst (v := 1) hx hb dX11_shift_311 rfl ?_
                                                    refine lv_iadd hx hb dX11_shift_312 ?_
                                                    refine zz_i (v := nI (rr + 1)) (nI_add rr 1) ?_
                                                    refine lv_idiv hx hb dX11_shift_313 (nI_ne0 (by omega) (by omega)) ?_
                                                    refine lv_iadd hx hb dX11_shift_314 ?_
                                                    have b9_73 : 40 * f + k < 8040 := by omega
                                                    refine z_iast hx hb hK hP hD hS 12 0 rfl rfl (e := 40 * f + k) (x := (cF40 cx f k) + ((dx * (nI ((rr + 1) - (wyR (kd f).toInt n kk k)))) / (nI (rr + 1)))) rfl b9_73 (Nat.le_of_ble_eq_true rfl) dX11_shift_315 (fun H locs hP hD hS => ?_)
                                                    obtain ⟨hP, hD⟩ := zre (W2 := [_, _, _, _, _, _, _, _, _, _, _, _, (oa (a 12) cI 8040 (upd cx1 (40 * f + k) ((cF40 cx f k) + ((dx * (nI ((rr + 1) - (wyR (kd f).toInt n kk k)))) / (nI (rr + 1)))))), _, _, _, _, _, _, _, _, _, _, _, _, _, _, _, _, _, _, _]) hP hD rfl
                                                    refine lv_aload_n hx hb dX11_shift_316 rfl (lv_at hl 7 rfl) ?_
                                                    refine va_get (D := (dC, dI)) (ci := 9) (v := .ref (a 13)) (C := RX11) (T := TX11) (N := 55) hx hb hts inX11 hown hK hP 0 rfl rfl 13 (Nat.le_of_ble_eq_true rfl) (hts _ mw_1172) (fun _ h9 => h9) rfl dX11_shift_317 ?_
                                                    refine lv_bipush (v := 40) hx hb dX11_shift_320 rfl ?_
                                                    refine lv_iload_n hx hb dX11_shift_322 rfl (lv_at hl 8 rfl) ?_
                                                    refine lv_imul hx hb dX11_shift_323 ?_
                                                    refine zz_i (v := nI (40 * f)) (pk_mul 40 f) ?_
                                                    refine lv_iload hx hb dX11_shift_324 (lv_at hl 2 rfl) ?_
                                                    refine lv_iadd hx hb dX11_shift_326 ?_
                                                    refine zz_i (v := nI (40 * f + k)) (nI_add (40 * f) k) ?_
                                                    refine lv_aload_n hx hb dX11_shift_327 rfl (lv_at hl 7 rfl) ?_
                                                    refine va_get (D := (dC, dI)) (ci := 9) (v := .ref (a 34)) (C := RX11) (T := TX11) (N := 55) hx hb hts inX11 hown hK hP 0 rfl rfl 34 (Nat.le_of_ble_eq_true rfl) (hts _ mw_1193) (fun _ h9 => h9) rfl dX11_shift_328 ?_
                                                    refine lv_iload hx hb dX11_shift_331 (lv_at hl 2 rfl) ?_
                                                    refine z_iald hx hb hK hP 24 0 rfl rfl (e := k) rfl b9_71 (Nat.le_of_ble_eq_true rfl) dX11_shift_333 ?_
                                                    refine zz_i (v := cF40 cy f k) ((hox _ hk9).2) ?_
                                                    refine lv_iload hx hb dX11_shift_334 (lv_at hl 3 rfl) ?_
                                                    refine lv_if_eq (tgt := 344) hx hb dX11_shift_336 rfl (fun c_74 => ?_) (fun c_74 => ?_)
                                                    · refine lv_iload hx hb dX11_shift_344 (lv_at hl 11 rfl) ?_
                                                      refine lv_iload hx hb dX11_shift_346 (lv_at hl 12 rfl) ?_
                                                      refine lv_iconst (v := 1) hx hb dX11_shift_348 rfl ?_
                                                      refine lv_iadd hx hb dX11_shift_349 ?_
                                                      refine zz_i (v := nI (rr + 1)) (nI_add rr 1) ?_
                                                      refine lv_iload hx hb dX11_shift_350 (lv_at hl 1 rfl) ?_
                                                      refine lv_isub hx hb dX11_shift_352 ?_
                                                      refine zz_i (v := nI ((rr + 1) - (wyR (kd f).toInt n kk k))) (pk_sub (a := rr + 1) (b := wyR (kd f).toInt n kk k) (by omega)) ?_
                                                      refine lv_imul hx hb dX11_shift_353 ?_
                                                      refine lv_iload hx hb dX11_shift_354 (lv_at hl 12 rfl) ?_
                                                      refine lv_iconst (v := 1) hx hb dX11_shift_356 rfl ?_
                                                      refine lv_iadd hx hb dX11_shift_357 ?_
                                                      refine zz_i (v := nI (rr + 1)) (nI_add rr 1) ?_
                                                      refine lv_idiv hx hb dX11_shift_358 (nI_ne0 (by omega) (by omega)) ?_
                                                      refine lv_iadd hx hb dX11_shift_359 ?_
                                                      refine z_iast hx hb hK hP hD hS 13 0 rfl rfl (e := 40 * f + k) (x := (cF40 cy f k) + ((dy * (nI ((rr + 1) - (wyR (kd f).toInt n kk k)))) / (nI (rr + 1)))) rfl b9_73 (Nat.le_of_ble_eq_true rfl) dX11_shift_360 (fun H locs hP hD hS => ?_)
                                                      obtain ⟨hP, hD⟩ := zre (W2 := [_, _, _, _, _, _, _, _, _, _, _, _, _, (oa (a 13) cI 8040 (upd cy1 (40 * f + k) ((cF40 cy f k) + ((dy * (nI ((rr + 1) - (wyR (kd f).toInt n kk k)))) / (nI (rr + 1)))))), _, _, _, _, _, _, _, _, _, _, _, _, _, _, _, _, _, _]) hP hD rfl
                                                      refine lv_iinc (v := nI (k + 1)) (lv' := [(10, .int (nI (k + 1))), (12, .int 0), (11, .int (nI (wyR (kd f).toInt n kk k))), (9, .int 0), (7, .int 0), (8, .int 0), (6, .int 0), (0, .ref k0), (1, .int (nI f)), (2, .int (nI kk)), (3, .int dx), (4, .int dy), (5, .int (nI rr))]) hx hb dX11_shift_361 hl (k := 2) rfl (nI_add k 1) (Nat.le_of_ble_eq_true rfl) rfl (fun ls hl => ?_)
                                                      refine lv_goto (tgt := 203) hx hb dX11_shift_364 rfl ?_
                                                      exact ih_203 (k + 1) (upd cx1 (40 * f + k) ((cF40 cx f k) + ((dx * (nI ((rr + 1) - (wyR (kd f).toInt n kk k)))) / (nI (rr + 1))))) (upd cy1 (40 * f + k) ((cF40 cy f k) + ((dy * (nI ((rr + 1) - (wyR (kd f).toInt n kk k)))) / (nI (rr + 1))))) H locs ls (by first | with_reducible assumption | omega) (by first | with_reducible assumption | omega) (by first | exact fgX_u hcx (shV_f (by first | with_reducible assumption | assumption)) | exact fgX_k hcx (shV_t (X := cF40 cx f) (by first | exact Or.inl (by first | with_reducible assumption | omega) | exact Or.inr ⟨by assumption, by omega⟩))) (by first | exact fgX_u hcy (shV_f (by first | with_reducible assumption | assumption)) | exact fgX_k hcy (shV_t (X := cF40 cy f) (by first | exact Or.inl (by first | with_reducible assumption | omega) | exact Or.inr ⟨by assumption, by omega⟩))) hP hD hS (lv_sub hl [0, 3, 4, 5, 6, 7, 8, 9, 10, 11, 12] rfl)
                                                    · exact absurd (by decide) c_74
                                                  · exact absurd (by decide) c_72
                                                · exact absurd (by decide) c_70
                                              · have c_69 : ¬ (5 ≤ (kd f).toInt) := zp_0 c_69
                                                refine lv_iload hx hb dX11_shift_242 (lv_at hl 1 rfl) ?_
                                                refine lv_if_eq (tgt := 258) hx hb dX11_shift_244 rfl (fun c_75 => ?_) (fun c_75 => ?_)
                                                · have c_75 : ((k : Nat) : Int) = 0 := zc_eq (nI_toInt b9_62) rfl c_75
                                                  refine lv_iconst (v := 1) hx hb dX11_shift_258 rfl ?_
                                                  refine lv_goto (tgt := 263) hx hb dX11_shift_259 rfl ?_
                                                  refine lv_istore (lv' := [(12, .int 1), (11, .int (nI (wyR (kd f).toInt n kk k))), (10, .int (nI k)), (9, .int 0), (7, .int 0), (8, .int 0), (6, .int 0), (0, .ref k0), (1, .int (nI f)), (2, .int (nI kk)), (3, .int dx), (4, .int dy), (5, .int (nI rr))]) hx hb dX11_shift_263 hl (Nat.le_of_ble_eq_true rfl) rfl (fun ls hl => ?_)
                                                  refine lv_iload hx hb dX11_shift_265 (lv_at hl 0 rfl) ?_
                                                  refine lv_if_eq (tgt := 273) hx hb dX11_shift_267 rfl (fun c_76 => ?_) (fun c_76 => ?_)
                                                  · exact absurd c_76 (by decide)
                                                  · refine lv_goto (tgt := 361) hx hb dX11_shift_270 rfl ?_
                                                    refine lv_iinc (v := nI (k + 1)) (lv' := [(10, .int (nI (k + 1))), (12, .int 1), (11, .int (nI (wyR (kd f).toInt n kk k))), (9, .int 0), (7, .int 0), (8, .int 0), (6, .int 0), (0, .ref k0), (1, .int (nI f)), (2, .int (nI kk)), (3, .int dx), (4, .int dy), (5, .int (nI rr))]) hx hb dX11_shift_361 hl (k := 2) rfl (nI_add k 1) (Nat.le_of_ble_eq_true rfl) rfl (fun ls hl => ?_)
                                                    refine lv_goto (tgt := 203) hx hb dX11_shift_364 rfl ?_
                                                    exact ih_203 (k + 1) cx1 cy1 H locs ls (by first | with_reducible assumption | omega) (by first | with_reducible assumption | omega) (by first | exact fgX_u hcx (shV_f (by first | with_reducible assumption | assumption)) | exact fgX_k hcx (shV_t (X := cF40 cx f) (by first | exact Or.inl (by first | with_reducible assumption | omega) | exact Or.inr ⟨by assumption, by omega⟩))) (by first | exact fgX_u hcy (shV_f (by first | with_reducible assumption | assumption)) | exact fgX_k hcy (shV_t (X := cF40 cy f) (by first | exact Or.inl (by first | with_reducible assumption | omega) | exact Or.inr ⟨by assumption, by omega⟩))) hP hD hS (lv_sub hl [0, 3, 4, 5, 6, 7, 8, 9, 10, 11, 12] rfl)
                                                · have c_75 : ¬ ((k : Nat) : Int) = 0 := zc_ne (nI_toInt b9_62) rfl c_75
                                                  refine lv_iload hx hb dX11_shift_247 (lv_at hl 1 rfl) ?_
                                                  refine lv_aload_n hx hb dX11_shift_249 rfl (lv_at hl 6 rfl) ?_
                                                  refine va_get (D := (dC, dI)) (ci := 9) (v := .int (nI n)) (C := RX11) (T := TX11) (N := 55) hx hb hts inX11 hown hK hP 0 rfl rfl 35 (Nat.le_of_ble_eq_true rfl) (hts _ mw_1194) (fun _ h9 => h9) rfl dX11_shift_250 ?_
                                                  refine lv_iconst (v := 1) hx hb dX11_shift_253 rfl ?_
                                                  refine lv_isub hx hb dX11_shift_254 ?_
                                                  refine zz_i (v := nI (n - 1)) (pk_sub (a := n) (b := 1) (by omega)) ?_
                                                  have b9_78 : zlt ((n - 1)) := show (n - 1) < 2147483648 by omega
                                                  refine lv_icmp_ne (tgt := 262) hx hb dX11_shift_255 rfl (fun c_77 => ?_) (fun c_77 => ?_)
                                                  · have c_77 : ¬ ((k : Nat) : Int) = ((n - 1 : Nat) : Int) := zc_ne (nI_toInt b9_62) (nI_toInt b9_78) c_77
                                                    refine lv_iconst (v := 0) hx hb dX11_shift_262 rfl ?_
                                                    refine lv_istore (lv' := [(12, .int 0), (11, .int (nI (wyR (kd f).toInt n kk k))), (10, .int (nI k)), (9, .int 0), (7, .int 0), (8, .int 0), (6, .int 0), (0, .ref k0), (1, .int (nI f)), (2, .int (nI kk)), (3, .int dx), (4, .int dy), (5, .int (nI rr))]) hx hb dX11_shift_263 hl (Nat.le_of_ble_eq_true rfl) rfl (fun ls hl => ?_)
                                                    refine lv_iload hx hb dX11_shift_265 (lv_at hl 0 rfl) ?_
                                                    refine lv_if_eq (tgt := 273) hx hb dX11_shift_267 rfl (fun c_79 => ?_) (fun c_79 => ?_)
                                                    · have hst9 : ¬ (rr < wyR (kd f).toInt n kk k ∨ (¬ 5 ≤ (kd f).toInt ∧ (k = 0 ∨ k = n - 1))) := (by first | exact fun h => h.elim (fun h => by omega) (fun h => absurd (by first | with_reducible assumption | assumption) h.1) | exact fun h => h.elim (fun h => by omega) (fun h => by omega))
                                                      have hwy : wyR (kd f).toInt n kk k ≤ rr := (by have := hst9; omega)
                                                      refine lv_aload_n hx hb dX11_shift_273 rfl (lv_at hl 7 rfl) ?_
                                                      refine va_get (D := (dC, dI)) (ci := 9) (v := .ref (a 12)) (C := RX11) (T := TX11) (N := 55) hx hb hts inX11 hown hK hP 0 rfl rfl 12 (Nat.le_of_ble_eq_true rfl) (hts _ mw_1171) (fun _ h9 => h9) rfl dX11_shift_274 ?_
                                                      refine lv_bipush (v := 40) hx hb dX11_shift_277 rfl ?_
                                                      refine lv_iload_n hx hb dX11_shift_279 rfl (lv_at hl 8 rfl) ?_
                                                      refine lv_imul hx hb dX11_shift_280 ?_
                                                      refine zz_i (v := nI (40 * f)) (pk_mul 40 f) ?_
                                                      refine lv_iload hx hb dX11_shift_281 (lv_at hl 2 rfl) ?_
                                                      refine lv_iadd hx hb dX11_shift_283 ?_
                                                      refine zz_i (v := nI (40 * f + k)) (nI_add (40 * f) k) ?_
                                                      refine lv_aload_n hx hb dX11_shift_284 rfl (lv_at hl 7 rfl) ?_
                                                      refine va_get (D := (dC, dI)) (ci := 9) (v := .ref (a 33)) (C := RX11) (T := TX11) (N := 55) hx hb hts inX11 hown hK hP 0 rfl rfl 33 (Nat.le_of_ble_eq_true rfl) (hts _ mw_1192) (fun _ h9 => h9) rfl dX11_shift_285 ?_
                                                      refine lv_iload hx hb dX11_shift_288 (lv_at hl 2 rfl) ?_
                                                      have b9_80 : k < 42 := by omega
                                                      refine z_iald hx hb hK hP 23 0 rfl rfl (e := k) rfl b9_80 (Nat.le_of_ble_eq_true rfl) dX11_shift_290 ?_
                                                      refine zz_i (v := cF40 cx f k) ((hox _ hk9).1) ?_
                                                      refine lv_iload hx hb dX11_shift_291 (lv_at hl 3 rfl) ?_
                                                      refine lv_if_eq (tgt := 300) hx hb dX11_shift_293 rfl (fun c_81 => ?_) (fun c_81 => ?_)
                                                      · refine lv_iload_n hx hb dX11_shift_300 rfl (lv_at hl 10 rfl) ?_
                                                        refine lv_iload hx hb dX11_shift_301 (lv_at hl 12 rfl) ?_
                                                        refine lv_iconst (v := 1) hx hb dX11_shift_303 rfl ?_
                                                        refine lv_iadd hx hb dX11_shift_304 ?_
                                                        refine zz_i (v := nI (rr + 1)) (nI_add rr 1) ?_
                                                        refine lv_iload hx hb dX11_shift_305 (lv_at hl 1 rfl) ?_
                                                        refine lv_isub hx hb dX11_shift_307 ?_
                                                        refine zz_i (v := nI ((rr + 1) - (wyR (kd f).toInt n kk k))) (pk_sub (a := rr + 1) (b := wyR (kd f).toInt n kk k) (by omega)) ?_
                                                        refine lv_imul hx hb dX11_shift_308 ?_
                                                        refine lv_iload hx hb dX11_shift_309 (lv_at hl 12 rfl) ?_
                                                        refine lv_iconst (v := 1) hx hb dX11_shift_311 rfl ?_
                                                        refine lv_iadd hx hb dX11_shift_312 ?_
                                                        refine zz_i (v := nI (rr + 1)) (nI_add rr 1) ?_
                                                        refine lv_idiv hx hb dX11_shift_313 (nI_ne0 (by omega) (by omega)) ?_
                                                        refine lv_iadd hx hb dX11_shift_314 ?_
                                                        have b9_82 : 40 * f + k < 8040 := by omega
                                                        refine z_iast hx hb hK hP hD hS 12 0 rfl rfl (e := 40 * f + k) (x := (cF40 cx f k) + ((dx * (nI ((rr + 1) - (wyR (kd f).toInt n kk k)))) / (nI (rr + 1)))) rfl b9_82 (Nat.le_of_ble_eq_true rfl) dX11_shift_315 (fun H locs hP hD hS => ?_)
                                                        obtain ⟨hP, hD⟩ := zre (W2 := [_, _, _, _, _, _, _, _, _, _, _, _, (oa (a 12) cI 8040 (upd cx1 (40 * f + k) ((cF40 cx f k) + ((dx * (nI ((rr + 1) - (wyR (kd f).toInt n kk k)))) / (nI (rr + 1)))))), _, _, _, _, _, _, _, _, _, _, _, _, _, _, _, _, _, _, _]) hP hD rfl
                                                        refine lv_aload_n hx hb dX11_shift_316 rfl (lv_at hl 7 rfl) ?_
                                                        refine va_get (D := (dC, dI)) (ci := 9) (v := .ref (a 13)) (C := RX11) (T := TX11) (N := 55) hx hb hts inX11 hown hK hP 0 rfl rfl 13 (Nat.le_of_ble_eq_true rfl) (hts _ mw_1172) (fun _ h9 => h9) rfl dX11_shift_317 ?_
                                                        refine lv_bipush (v := 40) hx hb dX11_shift_320 rfl ?_
                                                        refine lv_iload_n hx hb dX11_shift_322 rfl (lv_at hl 8 rfl) ?_
                                                        refine lv_imul hx hb dX11_shift_323 ?_
                                                        refine zz_i (v := nI (40 * f)) (pk_mul 40 f) ?_
                                                        refine lv_iload hx hb dX11_shift_324 (lv_at hl 2 rfl) ?_
                                                        refine lv_iadd hx hb dX11_shift_326 ?_
                                                        refine zz_i (v := nI (40 * f + k)) (nI_add (40 * f) k) ?_
                                                        refine lv_aload_n hx hb dX11_shift_327 rfl (lv_at hl 7 rfl) ?_
                                                        refine va_get (D := (dC, dI)) (ci := 9) (v := .ref (a 34)) (C := RX11) (T := TX11) (N := 55) hx hb hts inX11 hown hK hP 0 rfl rfl 34 (Nat.le_of_ble_eq_true rfl) (hts _ mw_1193) (fun _ h9 => h9) rfl dX11_shift_328 ?_
                                                        refine lv_iload hx hb dX11_shift_331 (lv_at hl 2 rfl) ?_
                                                        refine z_iald hx hb hK hP 24 0 rfl rfl (e := k) rfl b9_80 (Nat.le_of_ble_eq_true rfl) dX11_shift_333 ?_
                                                        refine zz_i (v := cF40 cy f k) ((hox _ hk9).2) ?_
                                                        refine lv_iload hx hb dX11_shift_334 (lv_at hl 3 rfl) ?_
                                                        refine lv_if_eq (tgt := 344) hx hb dX11_shift_336 rfl (fun c_83 => ?_) (fun c_83 => ?_)
                                                        · refine lv_iload hx hb dX11_shift_344 (lv_at hl 11 rfl) ?_
                                                          refine lv_iload hx hb dX11_shift_346 (lv_at hl 12 rfl) ?_
                                                          refine lv_iconst (v := 1) hx hb dX11_shift_348 rfl ?_
                                                          refine lv_iadd hx hb dX11_shift_349 ?_
                                                          refine zz_i (v := nI (rr + 1)) (nI_add rr 1) ?_
                                                          refine lv_iload hx hb dX11_shift_350 (lv_at hl 1 rfl) ?_
                                                          refine lv_isub hx hb dX11_shift_352 ?_
                                                          refine zz_i (v := nI ((rr + 1) - (wyR (kd f).toInt n kk k))) (pk_sub (a := rr + 1) (b := wyR (kd f).toInt n kk k) (by omega)) ?_
                                                          refine lv_imul hx hb dX11_shift_353 ?_
                                                          refine lv_iload hx hb dX11_shift_354 (lv_at hl 12 rfl) ?_
                                                          refine lv_iconst (v := 1) hx hb dX11_shift_356 rfl ?_
                                                          refine lv_iadd hx hb dX11_shift_357 ?_
                                                          refine zz_i (v := nI (rr + 1)) (nI_add rr 1) ?_
                                                          refine lv_idiv hx hb dX11_shift_358 (nI_ne0 (by omega) (by omega)) ?_
                                                          refine lv_iadd hx hb dX11_shift_359 ?_
                                                          refine z_iast hx hb hK hP hD hS 13 0 rfl rfl (e := 40 * f + k) (x := (cF40 cy f k) + ((dy * (nI ((rr + 1) - (wyR (kd f).toInt n kk k)))) / (nI (rr + 1)))) rfl b9_82 (Nat.le_of_ble_eq_true rfl) dX11_shift_360 (fun H locs hP hD hS => ?_)
                                                          obtain ⟨hP, hD⟩ := zre (W2 := [_, _, _, _, _, _, _, _, _, _, _, _, _, (oa (a 13) cI 8040 (upd cy1 (40 * f + k) ((cF40 cy f k) + ((dy * (nI ((rr + 1) - (wyR (kd f).toInt n kk k)))) / (nI (rr + 1)))))), _, _, _, _, _, _, _, _, _, _, _, _, _, _, _, _, _, _]) hP hD rfl
                                                          refine lv_iinc (v := nI (k + 1)) (lv' := [(10, .int (nI (k + 1))), (12, .int 0), (11, .int (nI (wyR (kd f).toInt n kk k))), (9, .int 0), (7, .int 0), (8, .int 0), (6, .int 0), (0, .ref k0), (1, .int (nI f)), (2, .int (nI kk)), (3, .int dx), (4, .int dy), (5, .int (nI rr))]) hx hb dX11_shift_361 hl (k := 2) rfl (nI_add k 1) (Nat.le_of_ble_eq_true rfl) rfl (fun ls hl => ?_)
                                                          refine lv_goto (tgt := 203) hx hb dX11_shift_364 rfl ?_
                                                          exact ih_203 (k + 1) (upd cx1 (40 * f + k) ((cF40 cx f k) + ((dx * (nI ((rr + 1) - (wyR (kd f).toInt n kk k)))) / (nI (rr + 1))))) (upd cy1 (40 * f + k) ((cF40 cy f k) + ((dy * (nI ((rr + 1) - (wyR (kd f).toInt n kk k)))) / (nI (rr + 1))))) H locs ls (by first | with_reducible assumption | omega) (by first | with_reducible assumption | omega) (by first | exact fgX_u hcx (shV_f (by first | with_reducible assumption | assumption)) | exact fgX_k hcx (shV_t (X := cF40 cx f) (by first | exact Or.inl (by first | with_reducible assumption | omega) | exact Or.inr ⟨by assumption, by omega⟩))) (by first | exact fgX_u hcy (shV_f (by first | with_reducible assumption | assumption)) | exact fgX_k hcy (shV_t (X := cF40 cy f) (by first | exact Or.inl (by first | with_reducible assumption | omega) | exact Or.inr ⟨by assumption, by omega⟩))) hP hD hS (lv_sub hl [0, 3, 4, 5, 6, 7, 8, 9, 10, 11, 12] rfl)
                                                        · exact absurd (by decide) c_83
                                                      · exact absurd (by decide) c_81
                                                    · exact absurd (by decide) c_79
                                                  · have c_77 : ((k : Nat) : Int) = ((n - 1 : Nat) : Int) := zc_eq (nI_toInt b9_62) (nI_toInt b9_78) c_77
                                                    refine lv_iconst (v := 1) hx hb dX11_shift_258 rfl ?_
                                                    refine lv_goto (tgt := 263) hx hb dX11_shift_259 rfl ?_
                                                    refine lv_istore (lv' := [(12, .int 1), (11, .int (nI (wyR (kd f).toInt n kk k))), (10, .int (nI k)), (9, .int 0), (7, .int 0), (8, .int 0), (6, .int 0), (0, .ref k0), (1, .int (nI f)), (2, .int (nI kk)), (3, .int dx), (4, .int dy), (5, .int (nI rr))]) hx hb dX11_shift_263 hl (Nat.le_of_ble_eq_true rfl) rfl (fun ls hl => ?_)
                                                    refine lv_iload hx hb dX11_shift_265 (lv_at hl 0 rfl) ?_
                                                    refine lv_if_eq (tgt := 273) hx hb dX11_shift_267 rfl (fun c_84 => ?_) (fun c_84 => ?_)
                                                    · exact absurd c_84 (by decide)
                                                    · refine lv_goto (tgt := 361) hx hb dX11_shift_270 rfl ?_
                                                      refine lv_iinc (v := nI (k + 1)) (lv' := [(10, .int (nI (k + 1))), (12, .int 1), (11, .int (nI (wyR (kd f).toInt n kk k))), (9, .int 0), (7, .int 0), (8, .int 0), (6, .int 0), (0, .ref k0), (1, .int (nI f)), (2, .int (nI kk)), (3, .int dx), (4, .int dy), (5, .int (nI rr))]) hx hb dX11_shift_361 hl (k := 2) rfl (nI_add k 1) (Nat.le_of_ble_eq_true rfl) rfl (fun ls hl => ?_)
                                                      refine lv_goto (tgt := 203) hx hb dX11_shift_364 rfl ?_
                                                      exact ih_203 (k + 1) cx1 cy1 H locs ls (by first | with_reducible assumption | omega) (by first | with_reducible assumption | omega) (by first | exact fgX_u hcx (shV_f (by first | with_reducible assumption | assumption)) | exact fgX_k hcx (shV_t (X := cF40 cx f) (by first | exact Or.inl (by first | with_reducible assumption | omega) | exact Or.inr ⟨by assumption, by omega⟩))) (by first | exact fgX_u hcy (shV_f (by first | with_reducible assumption | assumption)) | exact fgX_k hcy (shV_t (X := cF40 cy f) (by first | exact Or.inl (by first | with_reducible assumption | omega) | exact Or.inr ⟨by assumption, by omega⟩))) hP hD hS (lv_sub hl [0, 3, 4, 5, 6, 7, 8, 9, 10, 11, 12] rfl)
                                    exact hl_203 _ 0 cx cy H locs ls (Nat.lt_succ_self _) (by first | with_reducible assumption | omega) (fgX_0 _ _ _) (fgX_0 _ _ _) hP hD hS (lv_sub hl [0, 1, 2, 3, 4, 5, 6, 7, 8, 9, 10] rfl)
                                  · have c_60 : (kd f).toInt = 6 := zc_eq rfl rfl c_60
                                    exfalso; omega
                              · exact absurd (by decide) c_58
                            · have c_57 : ¬ (tn f).toInt = 0 := zc_ne rfl rfl c_57
                              exfalso; omega
                          · exact absurd (by decide) c_56
                        · exact absurd (by decide) c_55
                      · have c_54 : 20 < ((rr : Nat) : Int) := zc_nle (nI_toInt b9_53) rfl c_54
                        exfalso; omega
          · have c_47 : ¬ (st f).toInt = 1 := zc_ne rfl rfl c_47
            exfalso; omega
        · exact absurd (by decide) c_46
    · have c_44 : (tn f).toInt = 0 := zc_eq rfl rfl c_44
      refine lv_iload_n hx hb dX11_shift_17 rfl (lv_at hl 2 rfl) ?_
      have b9_86 : zlt (kk) := show kk < 2147483648 by omega
      refine lv_if_lt (tgt := 31) hx hb dX11_shift_18 rfl (fun c_85 => ?_) (fun c_85 => ?_)
      · have c_85 : ((kk : Nat) : Int) < 0 := zc_lt (nI_toInt b9_86) rfl c_85
        exfalso; omega
      · have c_85 : 0 ≤ ((kk : Nat) : Int) := zc_nlt (nI_toInt b9_86) rfl c_85
        refine lv_iload_n hx hb dX11_shift_21 rfl (lv_at hl 2 rfl) ?_
        refine lv_aload_n hx hb dX11_shift_22 rfl (lv_at hl 0 rfl) ?_
        refine va_get (D := (dC, dI)) (ci := 9) (v := .ref (a 11)) (C := RX11) (T := TX11) (N := 55) hx hb hts inX11 hown hK hP 0 rfl rfl 11 (Nat.le_of_ble_eq_true rfl) (hts _ mw_1170) (fun _ h9 => h9) rfl dX11_shift_23 ?_
        refine lv_iload_n hx hb dX11_shift_26 rfl (lv_at hl 1 rfl) ?_
        refine z_iald hx hb hK hP 11 0 rfl rfl (e := f) rfl b9_43 (Nat.le_of_ble_eq_true rfl) dX11_shift_27 ?_
        refine zz_i (v := nI n) (hm_f) ?_
        have b9_88 : zlt (n) := show n < 2147483648 by omega
        refine lv_icmp_lt (tgt := 35) hx hb dX11_shift_28 rfl (fun c_87 => ?_) (fun c_87 => ?_)
        · have c_87 : ((kk : Nat) : Int) < ((n : Nat) : Int) := zc_lt (nI_toInt b9_86) (nI_toInt b9_88) c_87
          refine lv_iconst (v := 0) hx hb dX11_shift_35 rfl ?_
          refine lv_istore (lv' := [(6, .int 0), (0, .ref k0), (1, .int (nI f)), (2, .int (nI kk)), (3, .int dx), (4, .int dy), (5, .int (nI rr))]) hx hb dX11_shift_36 hl (Nat.le_of_ble_eq_true rfl) rfl (fun ls hl => ?_)
          refine lv_aload_n hx hb dX11_shift_38 rfl (lv_at hl 1 rfl) ?_
          refine lv_iload_n hx hb dX11_shift_39 rfl (lv_at hl 2 rfl) ?_
          obtain ⟨hPc, hDc, hFc, hI1⟩ := zi_sub (wc := [_]) hP hD hS hA [0] rfl rfl
          refine zcall (st1 := [.int (pI (f < ft))]) (va_runV (As := [.int (nI f)]) (rest := []) ⟨hx, hb, hml, hown, hts⟩ (k_M_isFeature_n l dC dI cI cZ cF H.size k0 a I0 J0 f ft (by first | with_reducible assumption | assumption) (by first | with_reducible assumption | omega) (by first | with_reducible assumption | omega)) (csV_178 hts rfl rfl ⟨Nat.le_of_ble_eq_true rfl, Nat.le_of_ble_eq_true rfl⟩) (zPV2 (q0 := 0) (ci := 9) hPc hDc hK hXN rfl rfl) rfl rfl hl.1 rfl (lv_room (Nat.le_of_ble_eq_true rfl)) dX11_shift_40 ⟨Nat.le_of_ble_eq_true rfl, Nat.le_of_ble_eq_true rfl⟩) hS hFc hFc rfl (fun t H locs ht hB hk1 hS => ?_)
          obtain ⟨hP1, hD1⟩ := hB
          rw [ht] at hP1
          replace hP := z0 hP hD hk1 hP1 hI1
          clear hk1 hPc hDc hFc hP1 hD1 ht hI1
          refine lv_if_eq (tgt := 51) hx hb dX11_shift_43 rfl (fun c_89 => ?_) (fun c_89 => ?_)
          · have c_89 : ¬ (f < ft) := zp_0 c_89
            exfalso; omega
          · have c_89 : f < ft := zp_1 c_89
            refine lv_iload hx hb dX11_shift_46 (lv_at hl 0 rfl) ?_
            refine lv_if_eq (tgt := 55) hx hb dX11_shift_48 rfl (fun c_90 => ?_) (fun c_90 => ?_)
            · refine lv_aload_n hx hb dX11_shift_55 rfl (lv_at hl 1 rfl) ?_
              refine va_get (D := (dC, dI)) (ci := 9) (v := .ref (a 5)) (C := RX11) (T := TX11) (N := 55) hx hb hts inX11 hown hK hP 0 rfl rfl 5 (Nat.le_of_ble_eq_true rfl) (hts _ mw_1164) (fun _ h9 => h9) rfl dX11_shift_56 ?_
              refine lv_iload_n hx hb dX11_shift_59 rfl (lv_at hl 2 rfl) ?_
              refine z_iald hx hb hK hP 2 0 rfl rfl (e := f) rfl b9_43 (Nat.le_of_ble_eq_true rfl) dX11_shift_60 ?_
              refine lv_iconst (v := 1) hx hb dX11_shift_61 rfl ?_
              refine lv_icmp_eq (tgt := 69) hx hb dX11_shift_62 rfl (fun c_91 => ?_) (fun c_91 => ?_)
              · have c_91 : (st f).toInt = 1 := zc_eq rfl rfl c_91
                refine lv_iconst (v := 0) hx hb dX11_shift_69 rfl ?_
                refine lv_istore (lv' := [(7, .int 0), (6, .int 0), (0, .ref k0), (1, .int (nI f)), (2, .int (nI kk)), (3, .int dx), (4, .int dy), (5, .int (nI rr))]) hx hb dX11_shift_70 hl (Nat.le_of_ble_eq_true rfl) rfl (fun ls hl => ?_)
                refine lv_iload_n hx hb dX11_shift_72 rfl (lv_at hl 5 rfl) ?_
                refine lv_sipush (v := (-200)) hx hb dX11_shift_73 rfl ?_
                refine lv_icmp_lt (tgt := 114) hx hb dX11_shift_76 rfl (fun c_92 => ?_) (fun c_92 => ?_)
                · have c_92 : dx.toInt < (-200) := zc_lt rfl rfl c_92
                  exfalso; omega
                · have c_92 : (-200) ≤ dx.toInt := zc_nlt rfl rfl c_92
                  refine lv_iload_n hx hb dX11_shift_79 rfl (lv_at hl 5 rfl) ?_
                  refine lv_sipush (v := 200) hx hb dX11_shift_80 rfl ?_
                  refine lv_icmp_gt (tgt := 114) hx hb dX11_shift_83 rfl (fun c_93 => ?_) (fun c_93 => ?_)
                  · have c_93 : 200 < dx.toInt := zc_lt rfl rfl c_93
                    exfalso; omega
                  · have c_93 : dx.toInt ≤ 200 := zc_nlt rfl rfl c_93
                    refine lv_iload hx hb dX11_shift_86 (lv_at hl 6 rfl) ?_
                    refine lv_sipush (v := (-200)) hx hb dX11_shift_88 rfl ?_
                    refine lv_icmp_lt (tgt := 114) hx hb dX11_shift_91 rfl (fun c_94 => ?_) (fun c_94 => ?_)
                    · have c_94 : dy.toInt < (-200) := zc_lt rfl rfl c_94
                      exfalso; omega
                    · have c_94 : (-200) ≤ dy.toInt := zc_nlt rfl rfl c_94
                      refine lv_iload hx hb dX11_shift_94 (lv_at hl 6 rfl) ?_
                      refine lv_sipush (v := 200) hx hb dX11_shift_96 rfl ?_
                      refine lv_icmp_gt (tgt := 114) hx hb dX11_shift_99 rfl (fun c_95 => ?_) (fun c_95 => ?_)
                      · have c_95 : 200 < dy.toInt := zc_lt rfl rfl c_95
                        exfalso; omega
                      · have c_95 : dy.toInt ≤ 200 := zc_nlt rfl rfl c_95
                        refine lv_iload hx hb dX11_shift_102 (lv_at hl 7 rfl) ?_
                        have b9_97 : zlt (rr) := show rr < 2147483648 by omega
                        refine lv_if_lt (tgt := 114) hx hb dX11_shift_104 rfl (fun c_96 => ?_) (fun c_96 => ?_)
                        · have c_96 : ((rr : Nat) : Int) < 0 := zc_lt (nI_toInt b9_97) rfl c_96
                          exfalso; omega
                        · have c_96 : 0 ≤ ((rr : Nat) : Int) := zc_nlt (nI_toInt b9_97) rfl c_96
                          refine lv_iload hx hb dX11_shift_107 (lv_at hl 7 rfl) ?_
                          refine lv_bipush (v := 20) hx hb dX11_shift_109 rfl ?_
                          refine lv_icmp_le (tgt := 118) hx hb dX11_shift_111 rfl (fun c_98 => ?_) (fun c_98 => ?_)
                          · have c_98 : ((rr : Nat) : Int) ≤ 20 := zc_le (nI_toInt b9_97) rfl c_98
                            refine lv_iconst (v := 0) hx hb dX11_shift_118 rfl ?_
                            refine lv_istore (lv' := [(8, .int 0), (7, .int 0), (6, .int 0), (0, .ref k0), (1, .int (nI f)), (2, .int (nI kk)), (3, .int dx), (4, .int dy), (5, .int (nI rr))]) hx hb dX11_shift_119 hl (Nat.le_of_ble_eq_true rfl) rfl (fun ls hl => ?_)
                            refine lv_iload hx hb dX11_shift_121 (lv_at hl 1 rfl) ?_
                            refine lv_if_le (tgt := 131) hx hb dX11_shift_123 rfl (fun c_99 => ?_) (fun c_99 => ?_)
                            · refine lv_iload hx hb dX11_shift_131 (lv_at hl 0 rfl) ?_
                              refine lv_if_eq (tgt := 140) hx hb dX11_shift_133 rfl (fun c_100 => ?_) (fun c_100 => ?_)
                              · refine lv_aload_n hx hb dX11_shift_140 rfl (lv_at hl 3 rfl) ?_
                                refine va_get (D := (dC, dI)) (ci := 9) (v := .ref (a 6)) (C := RX11) (T := TX11) (N := 55) hx hb hts inX11 hown hK hP 0 rfl rfl 6 (Nat.le_of_ble_eq_true rfl) (hts _ mw_1165) (fun _ h9 => h9) rfl dX11_shift_141 ?_
                                refine lv_iload_n hx hb dX11_shift_144 rfl (lv_at hl 4 rfl) ?_
                                refine z_zald hx hb hK hP 10 1 rfl rfl (e := f) rfl b9_43 (Nat.le_of_ble_eq_true rfl) dX11_shift_145 ?_
                                refine lv_if_eq (tgt := 153) hx hb dX11_shift_146 rfl (fun c_101 => ?_) (fun c_101 => ?_)
                                · have c_101 : (tn f).toInt = 0 := zc_eq rfl rfl c_101
                                  refine lv_iconst (v := 0) hx hb dX11_shift_153 rfl ?_
                                  refine lv_istore (lv' := [(7, .int 0), (8, .int 0), (6, .int 0), (0, .ref k0), (1, .int (nI f)), (2, .int (nI kk)), (3, .int dx), (4, .int dy), (5, .int (nI rr))]) hx hb dX11_shift_154 hl (Nat.le_of_ble_eq_true rfl) rfl (fun ls hl => ?_)
                                  refine lv_iload hx hb dX11_shift_156 (lv_at hl 0 rfl) ?_
                                  refine lv_if_le (tgt := 168) hx hb dX11_shift_158 rfl (fun c_102 => ?_) (fun c_102 => ?_)
                                  · refine lv_aload_n hx hb dX11_shift_168 rfl (lv_at hl 3 rfl) ?_
                                    refine lv_iload_n hx hb dX11_shift_169 rfl (lv_at hl 4 rfl) ?_
                                    obtain ⟨hPc, hDc, hFc⟩ := zo_sub (wc := [_, _, _, _, _, _, _, _, _, _, _, _, _]) hP hD hS hA [0, 2, 10, 1, 11, 12, 13, 19, 23, 24, 25, 26, 27] (by decide +kernel) rfl
                                    refine zcall (st1 := []) (va_runV (As := [.int (nI f)]) (rest := []) ⟨hx, hb, hml, hown, hts⟩ (k_M_remember l dC dI cI cZ cF H.size k0 a I0 J0 f n ft st tn kd mn cx cy S0 ox oy mt wi ins (by first | with_reducible assumption | assumption) (by first | with_reducible assumption | omega) (by first | with_reducible assumption | omega) (by first | with_reducible assumption | assumption) (by first | with_reducible assumption | omega) (by first | with_reducible assumption | assumption) (fun q h1 _ => hwf q h1)) (csV_190 hts rfl rfl ⟨Nat.le_of_ble_eq_true rfl, Nat.le_of_ble_eq_true rfl⟩) (zPV2 (q0 := 0) (ci := 9) hPc hDc hK hXN rfl rfl) rfl rfl hl.1 rfl (lv_room (Nat.le_of_ble_eq_true rfl)) dX11_shift_170 ⟨Nat.le_of_ble_eq_true rfl, Nat.le_of_ble_eq_true rfl⟩) hS hFc hFc rfl (fun t H locs ht hB hk1 hS => ?_)
                                    refine ex6 hB (fun S1 ox1 oy1 mt1 wi1 ins1 hB0 => ?_)
                                    clear hB
                                    obtain ⟨hox, hmt, hwi, hin, hP1, hD1⟩ := hB0
                                    rw [ht] at hP1
                                    obtain ⟨hP, hD⟩ := zn (W2 := [(om k0 a (upd (upd I0 35 (nI n)) 36 (kd f)) J0), _, _, _, _, _, _, _, _, _, _, _, _, _, _, _, _, _, _, (oa (a 32) cI 8 S1), _, _, _, (oa (a 33) cI 42 ox1), (oa (a 34) cI 42 oy1), (oa (a 37) cZ 201 mt1), (oa (a 38) cZ 201 wi1), (oa (a 39) cZ 8040 ins1), _, _, _, _]) hP hD hk1 hFc hP1 hD1 zl_194 zl_195 zl_195 zl_194 (by decide +kernel) rfl rfl rfl rfl rfl
                                    clear hk1 hPc hDc hFc hP1 hD1 ht
                                    refine lv_aload_n hx hb dX11_shift_173 rfl (lv_at hl 3 rfl) ?_
                                    refine va_get (D := (dC, dI)) (ci := 9) (v := .ref (a 1)) (C := RX11) (T := TX11) (N := 55) hx hb hts inX11 hown hK hP 0 rfl rfl 1 (Nat.le_of_ble_eq_true rfl) (hts _ mw_1160) (fun _ h9 => h9) rfl dX11_shift_174 ?_
                                    refine lv_iload_n hx hb dX11_shift_177 rfl (lv_at hl 4 rfl) ?_
                                    refine z_iald hx hb hK hP 1 0 rfl rfl (e := f) rfl b9_43 (Nat.le_of_ble_eq_true rfl) dX11_shift_178 ?_
                                    refine lv_if_eq (tgt := 193) hx hb dX11_shift_179 rfl (fun c_103 => ?_) (fun c_103 => ?_)
                                    · have c_103 : (kd f).toInt = 0 := zc_eq rfl rfl c_103
                                      exfalso; omega
                                    · have c_103 : ¬ (kd f).toInt = 0 := zc_ne rfl rfl c_103
                                      refine lv_aload_n hx hb dX11_shift_182 rfl (lv_at hl 3 rfl) ?_
                                      refine va_get (D := (dC, dI)) (ci := 9) (v := .ref (a 1)) (C := RX11) (T := TX11) (N := 55) hx hb hts inX11 hown hK hP 0 rfl rfl 1 (Nat.le_of_ble_eq_true rfl) (hts _ mw_1160) (fun _ h9 => h9) rfl dX11_shift_183 ?_
                                      refine lv_iload_n hx hb dX11_shift_186 rfl (lv_at hl 4 rfl) ?_
                                      refine z_iald hx hb hK hP 1 0 rfl rfl (e := f) rfl b9_43 (Nat.le_of_ble_eq_true rfl) dX11_shift_187 ?_
                                      refine lv_bipush (v := 6) hx hb dX11_shift_188 rfl ?_
                                      refine lv_icmp_ne (tgt := 197) hx hb dX11_shift_190 rfl (fun c_104 => ?_) (fun c_104 => ?_)
                                      · have c_104 : ¬ (kd f).toInt = 6 := zc_ne rfl rfl c_104
                                        refine lv_iconst (v := 0) hx hb dX11_shift_197 rfl ?_
                                        refine lv_istore (lv' := [(9, .int 0), (7, .int 0), (8, .int 0), (6, .int 0), (0, .ref k0), (1, .int (nI f)), (2, .int (nI kk)), (3, .int dx), (4, .int dy), (5, .int (nI rr))]) hx hb dX11_shift_198 hl (Nat.le_of_ble_eq_true rfl) rfl (fun ls hl => ?_)
                                        refine lv_iconst (v := 0) hx hb dX11_shift_200 rfl ?_
                                        refine lv_istore (lv' := [(10, .int 0), (9, .int 0), (7, .int 0), (8, .int 0), (6, .int 0), (0, .ref k0), (1, .int (nI f)), (2, .int (nI kk)), (3, .int dx), (4, .int dy), (5, .int (nI rr))]) hx hb dX11_shift_201 hl (Nat.le_of_ble_eq_true rfl) rfl (fun ls hl => ?_)
                                        have hl_203 : ∀ (n9 : Nat) (k : Nat) (cx1 : Nat → Int32) (cy1 : Nat → Int32) (H : Heap) (locs : List Loc) (ls : Array Slot), n - k < n9 → (k ≤ n) → (cx1 = fgX f k (fun i => shV (kd f).toInt n kk dx rr (cF40 cx f) i) cx) → (cy1 = fgX f k (fun i => shV (kd f).toInt n kk dy rr (cF40 cy f) i) cy) → va_P (dC, dI) classes [(om k0 a (upd (upd I0 35 (nI n)) 36 (kd f)) J0), (oa (a 1) cI 201 kd), (oa (a 5) cI 201 st), (oa (a 7) cI 201 gb), (oa (a 10) cI 201 it), (oa (a 8) cI 201 pa), (oa (a 9) cI 201 pb), (oa (a 2) cI 201 rk), (oa (a 3) cI 201 wd), (oa (a 4) cI 201 tw), (oa (a 6) cZ 201 tn), (oa (a 11) cI 201 mn), (oa (a 12) cI 8040 cx1), (oa (a 13) cI 8040 cy1), (oa (a 27) cI 516 sa), (oa (a 28) cI (4096 * cp) sh), (oa (a 16) cI 514 wh), (oa (a 17) cI 514 of9), (oa (a 18) cI 514 we), (oa (a 32) cI 8 S1), (oa (a 40) cI 6 T0), (oa (a 29) cI 42 P0), (oa (a 30) cI 42 Q0), (oa (a 33) cI 42 ox1), (oa (a 34) cI 42 oy1), (oa (a 37) cZ 201 mt1), (oa (a 38) cZ 201 wi1), (oa (a 39) cZ 8040 ins1), (oa (a 22) cI (64 * cl) la), (oa (a 23) cI (64 * cl) lb), (oa (a 24) cI (64 * cl) lc), (oa (a 25) cI (64 * cl) ld)] H → va_D A [(om k0 a (upd (upd I0 35 (nI n)) 36 (kd f)) J0), (oa (a 1) cI 201 kd), (oa (a 5) cI 201 st), (oa (a 7) cI 201 gb), (oa (a 10) cI 201 it), (oa (a 8) cI 201 pa), (oa (a 9) cI 201 pb), (oa (a 2) cI 201 rk), (oa (a 3) cI 201 wd), (oa (a 4) cI 201 tw), (oa (a 6) cZ 201 tn), (oa (a 11) cI 201 mn), (oa (a 12) cI 8040 cx1), (oa (a 13) cI 8040 cy1), (oa (a 27) cI 516 sa), (oa (a 28) cI (4096 * cp) sh), (oa (a 16) cI 514 wh), (oa (a 17) cI 514 of9), (oa (a 18) cI 514 we), (oa (a 32) cI 8 S1), (oa (a 40) cI 6 T0), (oa (a 29) cI 42 P0), (oa (a 30) cI 42 Q0), (oa (a 33) cI 42 ox1), (oa (a 34) cI 42 oy1), (oa (a 37) cZ 201 mt1), (oa (a 38) cZ 201 wi1), (oa (a 39) cZ 8040 ins1), (oa (a 22) cI (64 * cl) la), (oa (a 23) cI (64 * cl) lb), (oa (a 24) cI (64 * cl) lc), (oa (a 25) cI (64 * cl) ld)] → va_S A s.heap H locs → lv_has ls 13 [(10, .int (nI k)), (9, .int 0), (7, .int 0), (8, .int 0), (6, .int 0), (0, .ref k0), (1, .int (nI f)), (2, .int (nI kk)), (3, .int dx), (4, .int dy), (5, .int (nI rr))] → W p l e ({ frames := 8, cells := 0, slots := 0, locals := 210 } : Room) s m ([.ref k0, .int (nI f), .int (nI kk), .int dx, .int dy, .int (nI rr)] : List Value).toArray below meth c H locs 0 0 Q9 (F0 m 203 ls []) := by
                                          intro n9
                                          induction n9 with
                                          | zero => intro k cx1 cy1 H locs ls hm; exact absurd hm (Nat.not_lt_zero _)
                                          | succ n9 ih_203 =>
                                            intro k cx1 cy1 H locs ls hm hk hcx hcy hP hD hS hl
                                            refine lv_iload hx hb dX11_shift_203 (lv_at hl 0 rfl) ?_
                                            refine lv_aload_n hx hb dX11_shift_205 rfl (lv_at hl 5 rfl) ?_
                                            refine va_get (D := (dC, dI)) (ci := 9) (v := .int (nI n)) (C := RX11) (T := TX11) (N := 55) hx hb hts inX11 hown hK hP 0 rfl rfl 35 (Nat.le_of_ble_eq_true rfl) (hts _ mw_1194) (fun _ h9 => h9) rfl dX11_shift_206 ?_
                                            have b9_106 : zlt (k) := show k < 2147483648 by omega
                                            refine lv_icmp_ge (tgt := 367) hx hb dX11_shift_209 rfl (fun c_105 => ?_) (fun c_105 => ?_)
                                            · have c_105 : ((n : Nat) : Int) ≤ ((k : Nat) : Int) := zc_le (nI_toInt b9_88) (nI_toInt b9_106) c_105
                                              have hkn : k = n := (by omega)
                                              rw [hkn] at hcx hcy
                                              refine lv_aload_n hx hb dX11_shift_367 rfl (lv_at hl 5 rfl) ?_
                                              refine lv_iload_n hx hb dX11_shift_368 rfl (lv_at hl 6 rfl) ?_
                                              obtain ⟨hPc, hDc, hFc, hI1⟩ := zi_sub (wc := [_, _, _, _, _]) hP hD hS hA [0, 12, 13, 23, 24] (by decide +kernel) rfl
                                              refine zcall (st1 := [.int (pI (∃ k, k < n ∧ ¬ ((cx1 (40 * f + k)).toInt = (ox1 k).toInt ∧ (cy1 (40 * f + k)).toInt = (oy1 k).toInt)))]) (va_runV (As := [.int (nI f)]) (rest := []) ⟨hx, hb, hml, hown, hts⟩ (k_M_moves l dC dI cI cZ cF H.size k0 a (upd (upd I0 35 (nI n)) 36 (kd f)) J0 f n cx1 cy1 ox1 oy1 (by first | with_reducible assumption | omega) (rfl) (by first | with_reducible assumption | omega)) (csV_211 hts rfl rfl ⟨Nat.le_of_ble_eq_true rfl, Nat.le_of_ble_eq_true rfl⟩) (zPV2 (q0 := 0) (ci := 9) hPc hDc hK hXN rfl rfl) rfl rfl hl.1 rfl (lv_room (Nat.le_of_ble_eq_true rfl)) dX11_shift_369 ⟨Nat.le_of_ble_eq_true rfl, Nat.le_of_ble_eq_true rfl⟩) hS hFc hFc rfl (fun t H locs ht hB hk1 hS => ?_)
                                              obtain ⟨hP1, hD1⟩ := hB
                                              rw [ht] at hP1
                                              replace hP := z0 hP hD hk1 hP1 hI1
                                              clear hk1 hPc hDc hFc hP1 hD1 ht hI1
                                              refine zz_i (v := pI (mvd n (fun i => shV (kd f).toInt n kk dx rr (cF40 cx f) i) (fun i => shV (kd f).toInt n kk dy rr (cF40 cy f) i) (cF40 cx f) (cF40 cy f))) (zp_iff (mv_iff hcx hcy hox)) ?_
                                              refine lv_if_ne (tgt := 382) hx hb dX11_shift_372 rfl (fun c_107 => ?_) (fun c_107 => ?_)
                                              · have c_107 : mvd n (fun i => shV (kd f).toInt n kk dx rr (cF40 cx f) i) (fun i => shV (kd f).toInt n kk dy rr (cF40 cy f) i) (cF40 cx f) (cF40 cy f) := zp_1 c_107
                                                refine lv_aload_n hx hb dX11_shift_382 rfl (lv_at hl 5 rfl) ?_
                                                refine lv_iload_n hx hb dX11_shift_383 rfl (lv_at hl 6 rfl) ?_
                                                refine lv_iconst (v := 3) hx hb dX11_shift_384 rfl ?_
                                                refine zz_i (v := nI 3) (rfl) ?_
                                                have hbx : fgX f n ox1 cx1 = cx := (by rw [hcx]; exact fgX_back (fun k9 h9 => (hox k9 h9).1))
                                                have hby : fgX f n oy1 cy1 = cy := (by rw [hcy]; exact fgX_back (fun k9 h9 => (hox k9 h9).2))
                                                have hlq := lwM_eq (ft := ft) (st := st) (tn := tn) (kd := kd) (mn := mn) hn_f.1 hcx hcy hox
                                                have hpo : pls n ox1 oy1 := fun j hj => by rw [(hox j hj).1, (hox j hj).2]; exact hp_f j hj
                                                have hwf2 : ∀ q, lvF ft st tn q → q ≠ f → wfM mn cx1 cy1 q := fun q h1 h2 => wfM_o (hwf q h1) h2 (fun _ _ => rfl) (fun j hj => by rw [hcx, hcy]; exact ⟨fgX_o (by omega), fgX_o (by omega)⟩)
                                                obtain ⟨hPc, hDc, hFc⟩ := zo_sub (wc := [_, _, _, _, _, _, _, _, _, _, _, _, _, _, _, _, _, _, _, _, _, _, _, _, _, _, _, _, _, _, _, _]) hP hD hS hA [0, 1, 2, 3, 4, 5, 6, 7, 8, 9, 10, 11, 12, 13, 14, 15, 16, 17, 18, 19, 20, 21, 22, 23, 24, 25, 26, 27, 28, 29, 30, 31] (by decide +kernel) rfl
                                                refine zcall (st1 := [.int 0]) (va_runV (As := [.int (nI f), .int (nI 3)]) (rest := []) ⟨hx, hb, hml, hown, hts⟩ (k_M_changes_mn l dC dI cI cZ cF H.size k0 a (upd (upd I0 35 (nI n)) 36 (kd f)) J0 f n ft n (kd f) 3 kd st gb it pa pb rk wd tw tn mn cx1 cy1 sa sh wh of9 we S1 T0 P0 Q0 ox1 oy1 mt1 wi1 ins1 la lb lc ld (bMt kd mn cx cy f n) (bWi kd mn cx cy f) (bIn kd cx cy f n) cp cl (hft) (by first | with_reducible assumption | omega) (by first | with_reducible assumption | omega) (hm_f) (by first | with_reducible assumption | omega) (hwf2) (by first | with_reducible assumption | omega) (by first | with_reducible assumption | omega) (hpo) (hmt) (fun q h1 h2 h5 => by rw [hwi q h1 h2]; exact zp_iff ⟨fun h => h.2, fun h => ⟨h5, h⟩⟩) (fun q h1 h2 i hi h5 => hin q h1 h2 h5 i hi) (by first | with_reducible assumption | omega) (rfl) (hft_f) (by rw [hlq]; exact hlaw)) (csV_212 hts rfl rfl ⟨Nat.le_of_ble_eq_true rfl, Nat.le_of_ble_eq_true rfl⟩) (zPV2 (q0 := 0) (ci := 9) hPc hDc hK hXN rfl rfl) rfl rfl hl.1 rfl (lv_room (Nat.le_of_ble_eq_true rfl)) dX11_shift_385 ⟨Nat.le_of_ble_eq_true rfl, Nat.le_of_ble_eq_true rfl⟩) hS hFc hFc rfl (fun t H locs ht hB hk1 hS => ?_)
                                                obtain ⟨z8, S2, T2, P2, Q2, hP1, hD1⟩ := hB
                                                rw [ht] at hP1
                                                obtain ⟨hP, hD⟩ := zn (W2 := [(om k0 a (upd (upd (upd (upd (upd I0 14 7) 15 (I0 15 + 1)) 31 z8) 35 (nI n)) 36 (kd f)) J0), (oa (a 1) cI 201 (upd kd f (kd f))), _, _, _, _, _, _, _, _, _, (oa (a 11) cI 201 (upd mn f (nI n))), (oa (a 12) cI 8040 (fgX f n ox1 cx1)), (oa (a 13) cI 8040 (fgX f n oy1 cy1)), _, _, _, _, _, (oa (a 32) cI 8 S2), (oa (a 40) cI 6 T2), (oa (a 29) cI 42 P2), (oa (a 30) cI 42 Q2), _, _, _, _, _, _, _, _, _]) hP hD hk1 hFc hP1 hD1 zl_196 [] zl_197 zl_196 (by decide +kernel) rfl rfl rfl rfl rfl
                                                clear hk1 hPc hDc hFc hP1 hD1 ht
                                                obtain ⟨hP9, hD9⟩ := zu_sub (wc := [(om k0 a (upd (upd (upd (upd (upd I0 14 7) 15 (I0 15 + 1)) 31 z8) 35 (nI n)) 36 (kd f)) J0), (oa (a 1) cI 201 (upd kd f (kd f))), (oa (a 5) cI 201 st), (oa (a 7) cI 201 gb), (oa (a 10) cI 201 it), (oa (a 8) cI 201 pa), (oa (a 9) cI 201 pb), (oa (a 2) cI 201 rk), (oa (a 3) cI 201 wd), (oa (a 4) cI 201 tw), (oa (a 6) cZ 201 tn), (oa (a 11) cI 201 (upd mn f (nI n))), (oa (a 12) cI 8040 (fgX f n ox1 cx1)), (oa (a 13) cI 8040 (fgX f n oy1 cy1)), (oa (a 27) cI 516 sa), (oa (a 28) cI (4096 * cp) sh), (oa (a 16) cI 514 wh), (oa (a 17) cI 514 of9), (oa (a 18) cI 514 we), (oa (a 32) cI 8 S2), (oa (a 40) cI 6 T2), (oa (a 29) cI 42 P2), (oa (a 30) cI 42 Q2), (oa (a 33) cI 42 ox1), (oa (a 34) cI 42 oy1), (oa (a 37) cZ 201 mt1), (oa (a 38) cZ 201 wi1), (oa (a 39) cZ 8040 ins1), (oa (a 22) cI (64 * cl) la), (oa (a 23) cI (64 * cl) lb), (oa (a 24) cI (64 * cl) lc), (oa (a 25) cI (64 * cl) ld)]) hP hD (true :: true :: true :: true :: true :: true :: true :: true :: true :: true :: true :: true :: true :: true :: true :: true :: true :: true :: true :: true :: true :: true :: true :: true :: true :: true :: true :: true :: true :: true :: true :: true :: []) rfl rfl
                                                have hE9 : ([(om k0 a (upd (upd (upd (upd (upd I0 14 7) 15 (I0 15 + 1)) 31 z8) 35 (nI n)) 36 (kd f)) J0), (oa (a 1) cI 201 (upd kd f (kd f))), (oa (a 5) cI 201 st), (oa (a 7) cI 201 gb), (oa (a 10) cI 201 it), (oa (a 8) cI 201 pa), (oa (a 9) cI 201 pb), (oa (a 2) cI 201 rk), (oa (a 3) cI 201 wd), (oa (a 4) cI 201 tw), (oa (a 6) cZ 201 tn), (oa (a 11) cI 201 (upd mn f (nI n))), (oa (a 12) cI 8040 (fgX f n ox1 cx1)), (oa (a 13) cI 8040 (fgX f n oy1 cy1)), (oa (a 27) cI 516 sa), (oa (a 28) cI (4096 * cp) sh), (oa (a 16) cI 514 wh), (oa (a 17) cI 514 of9), (oa (a 18) cI 514 we), (oa (a 32) cI 8 S2), (oa (a 40) cI 6 T2), (oa (a 29) cI 42 P2), (oa (a 30) cI 42 Q2), (oa (a 33) cI 42 ox1), (oa (a 34) cI 42 oy1), (oa (a 37) cZ 201 mt1), (oa (a 38) cZ 201 wi1), (oa (a 39) cZ 8040 ins1), (oa (a 22) cI (64 * cl) la), (oa (a 23) cI (64 * cl) lb), (oa (a 24) cI (64 * cl) lc), (oa (a 25) cI (64 * cl) ld)] : va_W) = [(om k0 a (upd (upd (upd (upd (upd I0 14 7) 15 (I0 15 + 1)) 31 z8) 35 (nI n)) 36 (kd f)) J0), (oa (a 1) cI 201 kd), (oa (a 5) cI 201 st), (oa (a 7) cI 201 gb), (oa (a 10) cI 201 it), (oa (a 8) cI 201 pa), (oa (a 9) cI 201 pb), (oa (a 2) cI 201 rk), (oa (a 3) cI 201 wd), (oa (a 4) cI 201 tw), (oa (a 6) cZ 201 tn), (oa (a 11) cI 201 mn), (oa (a 12) cI 8040 cx), (oa (a 13) cI 8040 cy), (oa (a 27) cI 516 sa), (oa (a 28) cI (4096 * cp) sh), (oa (a 16) cI 514 wh), (oa (a 17) cI 514 of9), (oa (a 18) cI 514 we), (oa (a 32) cI 8 S2), (oa (a 40) cI 6 T2), (oa (a 29) cI 42 P2), (oa (a 30) cI 42 Q2), (oa (a 33) cI 42 ox1), (oa (a 34) cI 42 oy1), (oa (a 37) cZ 201 mt1), (oa (a 38) cZ 201 wi1), (oa (a 39) cZ 8040 ins1), (oa (a 22) cI (64 * cl) la), (oa (a 23) cI (64 * cl) lb), (oa (a 24) cI (64 * cl) lc), (oa (a 25) cI (64 * cl) ld)] := by rw [hum, huk, hbx, hby]
                                                rw [hE9] at hP9 hD9
                                                rw [hQ9]
                                                exact W.zret (ty := .boolean) (v := 0) hx hb hr (rfl) (fun t ht hW => ⟨⟨rfl, z8, S2, T2, P2, Q2, ox1, oy1, mt1, wi1, ins1, by rw [ht]; exact hP9, hD9⟩, hS.F ht⟩) hS.2.2 dX11_shift_388
                                              · have c_107 : ¬ (mvd n (fun i => shV (kd f).toInt n kk dx rr (cF40 cx f) i) (fun i => shV (kd f).toInt n kk dy rr (cF40 cy f) i) (cF40 cx f) (cF40 cy f)) := zp_0 c_107
                                                exfalso; exact absurd hmv (by first | with_reducible assumption | assumption)
                                            · have c_105 : ((k : Nat) : Int) < ((n : Nat) : Int) := zc_nle (nI_toInt b9_88) (nI_toInt b9_106) c_105
                                              have hk9 : k < n := (by omega)
                                              have hwb := wyR_b (kf := (kd f).toInt) hkk hk9
                                              refine lv_aload_n hx hb dX11_shift_212 rfl (lv_at hl 5 rfl) ?_
                                              refine lv_iload_n hx hb dX11_shift_213 rfl (lv_at hl 6 rfl) ?_
                                              refine lv_iload_n hx hb dX11_shift_214 rfl (lv_at hl 7 rfl) ?_
                                              refine lv_iload hx hb dX11_shift_215 (lv_at hl 0 rfl) ?_
                                              obtain ⟨hPc, hDc, hFc, hI1⟩ := zi_sub (wc := [_, _]) hP hD hS hA [0, 1] rfl rfl
                                              refine zcall (st1 := [.int (nI (wyR (kd f).toInt n kk k))]) (va_runV (As := [.int (nI f), .int (nI kk), .int (nI k)]) (rest := []) ⟨hx, hb, hml, hown, hts⟩ (k_M_wayOf l dC dI cI cZ cF H.size k0 a (upd (upd I0 35 (nI n)) 36 (kd f)) J0 f n kk k kd (by first | with_reducible assumption | omega) (by first | with_reducible assumption | omega) (hkk) (by first | with_reducible assumption | omega)) (csV_216 hts rfl rfl ⟨Nat.le_of_ble_eq_true rfl, Nat.le_of_ble_eq_true rfl⟩) (zPV2 (q0 := 0) (ci := 9) hPc hDc hK hXN rfl rfl) rfl rfl hl.1 rfl (lv_room (Nat.le_of_ble_eq_true rfl)) dX11_shift_217 ⟨Nat.le_of_ble_eq_true rfl, Nat.le_of_ble_eq_true rfl⟩) hS hFc hFc rfl (fun t H locs ht hB hk1 hS => ?_)
                                              obtain ⟨hP1, hD1⟩ := hB
                                              rw [ht] at hP1
                                              replace hP := z0 hP hD hk1 hP1 hI1
                                              clear hk1 hPc hDc hFc hP1 hD1 ht hI1
                                              refine lv_istore (lv' := [(11, .int (nI (wyR (kd f).toInt n kk k))), (10, .int (nI k)), (9, .int 0), (7, .int 0), (8, .int 0), (6, .int 0), (0, .ref k0), (1, .int (nI f)), (2, .int (nI kk)), (3, .int dx), (4, .int dy), (5, .int (nI rr))]) hx hb dX11_shift_220 hl (Nat.le_of_ble_eq_true rfl) rfl (fun ls hl => ?_)
                                              refine lv_iload hx hb dX11_shift_222 (lv_at hl 2 rfl) ?_
                                              refine lv_if_ne (tgt := 262) hx hb dX11_shift_224 rfl (fun c_108 => ?_) (fun c_108 => ?_)
                                              · exact absurd (by decide) c_108
                                              · refine lv_iload hx hb dX11_shift_227 (lv_at hl 0 rfl) ?_
                                                refine lv_iload hx hb dX11_shift_229 (lv_at hl 11 rfl) ?_
                                                have b9_110 : zlt ((wyR (kd f).toInt n kk k)) := show (wyR (kd f).toInt n kk k) < 2147483648 by omega
                                                refine lv_icmp_gt (tgt := 258) hx hb dX11_shift_231 rfl (fun c_109 => ?_) (fun c_109 => ?_)
                                                · have c_109 : ((rr : Nat) : Int) < ((wyR (kd f).toInt n kk k : Nat) : Int) := zc_lt (nI_toInt b9_97) (nI_toInt b9_110) c_109
                                                  refine lv_iconst (v := 1) hx hb dX11_shift_258 rfl ?_
                                                  refine lv_goto (tgt := 263) hx hb dX11_shift_259 rfl ?_
                                                  refine lv_istore (lv' := [(12, .int 1), (11, .int (nI (wyR (kd f).toInt n kk k))), (10, .int (nI k)), (9, .int 0), (7, .int 0), (8, .int 0), (6, .int 0), (0, .ref k0), (1, .int (nI f)), (2, .int (nI kk)), (3, .int dx), (4, .int dy), (5, .int (nI rr))]) hx hb dX11_shift_263 hl (Nat.le_of_ble_eq_true rfl) rfl (fun ls hl => ?_)
                                                  refine lv_iload hx hb dX11_shift_265 (lv_at hl 0 rfl) ?_
                                                  refine lv_if_eq (tgt := 273) hx hb dX11_shift_267 rfl (fun c_111 => ?_) (fun c_111 => ?_)
                                                  · exact absurd c_111 (by decide)
                                                  · refine lv_goto (tgt := 361) hx hb dX11_shift_270 rfl ?_
                                                    refine lv_iinc (v := nI (k + 1)) (lv' := [(10, .int (nI (k + 1))), (12, .int 1), (11, .int (nI (wyR (kd f).toInt n kk k))), (9, .int 0), (7, .int 0), (8, .int 0), (6, .int 0), (0, .ref k0), (1, .int (nI f)), (2, .int (nI kk)), (3, .int dx), (4, .int dy), (5, .int (nI rr))]) hx hb dX11_shift_361 hl (k := 2) rfl (nI_add k 1) (Nat.le_of_ble_eq_true rfl) rfl (fun ls hl => ?_)
                                                    refine lv_goto (tgt := 203) hx hb dX11_shift_364 rfl ?_
                                                    exact ih_203 (k + 1) cx1 cy1 H locs ls (by first | with_reducible assumption | omega) (by first | with_reducible assumption | omega) (by first | exact fgX_u hcx (shV_f (by first | with_reducible assumption | assumption)) | exact fgX_k hcx (shV_t (X := cF40 cx f) (by first | exact Or.inl (by first | with_reducible assumption | omega) | exact Or.inr ⟨by assumption, by omega⟩))) (by first | exact fgX_u hcy (shV_f (by first | with_reducible assumption | assumption)) | exact fgX_k hcy (shV_t (X := cF40 cy f) (by first | exact Or.inl (by first | with_reducible assumption | omega) | exact Or.inr ⟨by assumption, by omega⟩))) hP hD hS (lv_sub hl [0, 3, 4, 5, 6, 7, 8, 9, 10, 11, 12] rfl)
                                                · have c_109 : ((wyR (kd f).toInt n kk k : Nat) : Int) ≤ ((rr : Nat) : Int) := zc_nlt (nI_toInt b9_97) (nI_toInt b9_110) c_109
                                                  refine lv_aload_n hx hb dX11_shift_234 rfl (lv_at hl 6 rfl) ?_
                                                  refine lv_iload_n hx hb dX11_shift_235 rfl (lv_at hl 7 rfl) ?_
                                                  obtain ⟨hPc, hDc, hFc, hI1⟩ := zi_sub (wc := [_, _]) hP hD hS hA [0, 1] rfl rfl
                                                  refine zcall (st1 := [.int (pI (5 ≤ (kd f).toInt))]) (va_runV (As := [.int (nI f)]) (rest := []) ⟨hx, hb, hml, hown, hts⟩ (k_M_isRing l dC dI cI cZ cF H.size k0 a (upd (upd I0 35 (nI n)) 36 (kd f)) J0 f kd (by first | with_reducible assumption | omega)) (csV_165 hts rfl rfl ⟨Nat.le_of_ble_eq_true rfl, Nat.le_of_ble_eq_true rfl⟩) (zPV2 (q0 := 0) (ci := 9) hPc hDc hK hXN rfl rfl) rfl rfl hl.1 rfl (lv_room (Nat.le_of_ble_eq_true rfl)) dX11_shift_236 ⟨Nat.le_of_ble_eq_true rfl, Nat.le_of_ble_eq_true rfl⟩) hS hFc hFc rfl (fun t H locs ht hB hk1 hS => ?_)
                                                  obtain ⟨hP1, hD1⟩ := hB
                                                  rw [ht] at hP1
                                                  replace hP := z0 hP hD hk1 hP1 hI1
                                                  clear hk1 hPc hDc hFc hP1 hD1 ht hI1
                                                  refine lv_if_ne (tgt := 262) hx hb dX11_shift_239 rfl (fun c_112 => ?_) (fun c_112 => ?_)
                                                  · have c_112 : 5 ≤ (kd f).toInt := zp_1 c_112
                                                    refine lv_iconst (v := 0) hx hb dX11_shift_262 rfl ?_
                                                    refine lv_istore (lv' := [(12, .int 0), (11, .int (nI (wyR (kd f).toInt n kk k))), (10, .int (nI k)), (9, .int 0), (7, .int 0), (8, .int 0), (6, .int 0), (0, .ref k0), (1, .int (nI f)), (2, .int (nI kk)), (3, .int dx), (4, .int dy), (5, .int (nI rr))]) hx hb dX11_shift_263 hl (Nat.le_of_ble_eq_true rfl) rfl (fun ls hl => ?_)
                                                    refine lv_iload hx hb dX11_shift_265 (lv_at hl 0 rfl) ?_
                                                    refine lv_if_eq (tgt := 273) hx hb dX11_shift_267 rfl (fun c_113 => ?_) (fun c_113 => ?_)
                                                    · have hst9 : ¬ (rr < wyR (kd f).toInt n kk k ∨ (¬ 5 ≤ (kd f).toInt ∧ (k = 0 ∨ k = n - 1))) := (by first | exact fun h => h.elim (fun h => by omega) (fun h => absurd (by first | with_reducible assumption | assumption) h.1) | exact fun h => h.elim (fun h => by omega) (fun h => by omega))
                                                      have hwy : wyR (kd f).toInt n kk k ≤ rr := (by have := hst9; omega)
                                                      refine lv_aload_n hx hb dX11_shift_273 rfl (lv_at hl 7 rfl) ?_
                                                      refine va_get (D := (dC, dI)) (ci := 9) (v := .ref (a 12)) (C := RX11) (T := TX11) (N := 55) hx hb hts inX11 hown hK hP 0 rfl rfl 12 (Nat.le_of_ble_eq_true rfl) (hts _ mw_1171) (fun _ h9 => h9) rfl dX11_shift_274 ?_
                                                      refine lv_bipush (v := 40) hx hb dX11_shift_277 rfl ?_
                                                      refine lv_iload_n hx hb dX11_shift_279 rfl (lv_at hl 8 rfl) ?_
                                                      refine lv_imul hx hb dX11_shift_280 ?_
                                                      refine zz_i (v := nI (40 * f)) (pk_mul 40 f) ?_
                                                      refine lv_iload hx hb dX11_shift_281 (lv_at hl 2 rfl) ?_
                                                      refine lv_iadd hx hb dX11_shift_283 ?_
                                                      refine zz_i (v := nI (40 * f + k)) (nI_add (40 * f) k) ?_
                                                      refine lv_aload_n hx hb dX11_shift_284 rfl (lv_at hl 7 rfl) ?_
                                                      refine va_get (D := (dC, dI)) (ci := 9) (v := .ref (a 33)) (C := RX11) (T := TX11) (N := 55) hx hb hts inX11 hown hK hP 0 rfl rfl 33 (Nat.le_of_ble_eq_true rfl) (hts _ mw_1192) (fun _ h9 => h9) rfl dX11_shift_285 ?_
                                                      refine lv_iload hx hb dX11_shift_288 (lv_at hl 2 rfl) ?_
                                                      have b9_114 : k < 42 := by omega
                                                      refine z_iald hx hb hK hP 23 0 rfl rfl (e := k) rfl b9_114 (Nat.le_of_ble_eq_true rfl) dX11_shift_290 ?_
                                                      refine zz_i (v := cF40 cx f k) ((hox _ hk9).1) ?_
                                                      refine lv_iload hx hb dX11_shift_291 (lv_at hl 3 rfl) ?_
                                                      refine lv_if_eq (tgt := 300) hx hb dX11_shift_293 rfl (fun c_115 => ?_) (fun c_115 => ?_)
                                                      · refine lv_iload_n hx hb dX11_shift_300 rfl (lv_at hl 10 rfl) ?_
                                                        refine lv_iload hx hb dX11_shift_301 (lv_at hl 12 rfl) ?_
                                                        refine lv_iconst (v := 1) hx hb dX11_shift_303 rfl ?_
                                                        refine lv_iadd hx hb dX11_shift_304 ?_
                                                        refine zz_i (v := nI (rr + 1)) (nI_add rr 1) ?_
                                                        refine lv_iload hx hb dX11_shift_305 (lv_at hl 1 rfl) ?_
                                                        refine lv_isub hx hb dX11_shift_307 ?_
                                                        refine zz_i (v := nI ((rr + 1) - (wyR (kd f).toInt n kk k))) (pk_sub (a := rr + 1) (b := wyR (kd f).toInt n kk k) (by omega)) ?_
                                                        refine lv_imul hx hb dX11_shift_308 ?_
                                                        refine lv_iload hx hb dX11_shift_309 (lv_at hl 12 rfl) ?_
                                                        refine lv_iconst (v := 1) hx hb dX11_shift_311 rfl ?_
                                                        refine lv_iadd hx hb dX11_shift_312 ?_
                                                        refine zz_i (v := nI (rr + 1)) (nI_add rr 1) ?_
                                                        refine lv_idiv hx hb dX11_shift_313 (nI_ne0 (by omega) (by omega)) ?_
                                                        refine lv_iadd hx hb dX11_shift_314 ?_
                                                        have b9_116 : 40 * f + k < 8040 := by omega
                                                        refine z_iast hx hb hK hP hD hS 12 0 rfl rfl (e := 40 * f + k) (x := (cF40 cx f k) + ((dx * (nI ((rr + 1) - (wyR (kd f).toInt n kk k)))) / (nI (rr + 1)))) rfl b9_116 (Nat.le_of_ble_eq_true rfl) dX11_shift_315 (fun H locs hP hD hS => ?_)
                                                        obtain ⟨hP, hD⟩ := zre (W2 := [_, _, _, _, _, _, _, _, _, _, _, _, (oa (a 12) cI 8040 (upd cx1 (40 * f + k) ((cF40 cx f k) + ((dx * (nI ((rr + 1) - (wyR (kd f).toInt n kk k)))) / (nI (rr + 1)))))), _, _, _, _, _, _, _, _, _, _, _, _, _, _, _, _, _, _, _]) hP hD rfl
                                                        refine lv_aload_n hx hb dX11_shift_316 rfl (lv_at hl 7 rfl) ?_
                                                        refine va_get (D := (dC, dI)) (ci := 9) (v := .ref (a 13)) (C := RX11) (T := TX11) (N := 55) hx hb hts inX11 hown hK hP 0 rfl rfl 13 (Nat.le_of_ble_eq_true rfl) (hts _ mw_1172) (fun _ h9 => h9) rfl dX11_shift_317 ?_
                                                        refine lv_bipush (v := 40) hx hb dX11_shift_320 rfl ?_
                                                        refine lv_iload_n hx hb dX11_shift_322 rfl (lv_at hl 8 rfl) ?_
                                                        refine lv_imul hx hb dX11_shift_323 ?_
                                                        refine zz_i (v := nI (40 * f)) (pk_mul 40 f) ?_
                                                        refine lv_iload hx hb dX11_shift_324 (lv_at hl 2 rfl) ?_
                                                        refine lv_iadd hx hb dX11_shift_326 ?_
                                                        refine zz_i (v := nI (40 * f + k)) (nI_add (40 * f) k) ?_
                                                        refine lv_aload_n hx hb dX11_shift_327 rfl (lv_at hl 7 rfl) ?_
                                                        refine va_get (D := (dC, dI)) (ci := 9) (v := .ref (a 34)) (C := RX11) (T := TX11) (N := 55) hx hb hts inX11 hown hK hP 0 rfl rfl 34 (Nat.le_of_ble_eq_true rfl) (hts _ mw_1193) (fun _ h9 => h9) rfl dX11_shift_328 ?_
                                                        refine lv_iload hx hb dX11_shift_331 (lv_at hl 2 rfl) ?_
                                                        refine z_iald hx hb hK hP 24 0 rfl rfl (e := k) rfl b9_114 (Nat.le_of_ble_eq_true rfl) dX11_shift_333 ?_
                                                        refine zz_i (v := cF40 cy f k) ((hox _ hk9).2) ?_
                                                        refine lv_iload hx hb dX11_shift_334 (lv_at hl 3 rfl) ?_
                                                        refine lv_if_eq (tgt := 344) hx hb dX11_shift_336 rfl (fun c_117 => ?_) (fun c_117 => ?_)
                                                        · refine lv_iload hx hb dX11_shift_344 (lv_at hl 11 rfl) ?_
                                                          refine lv_iload hx hb dX11_shift_346 (lv_at hl 12 rfl) ?_
                                                          refine lv_iconst (v := 1) hx hb dX11_shift_348 rfl ?_
                                                          refine lv_iadd hx hb dX11_shift_349 ?_
                                                          refine zz_i (v := nI (rr + 1)) (nI_add rr 1) ?_
                                                          refine lv_iload hx hb dX11_shift_350 (lv_at hl 1 rfl) ?_
                                                          refine lv_isub hx hb dX11_shift_352 ?_
                                                          refine zz_i (v := nI ((rr + 1) - (wyR (kd f).toInt n kk k))) (pk_sub (a := rr + 1) (b := wyR (kd f).toInt n kk k) (by omega)) ?_
                                                          refine lv_imul hx hb dX11_shift_353 ?_
                                                          refine lv_iload hx hb dX11_shift_354 (lv_at hl 12 rfl) ?_
                                                          refine lv_iconst (v := 1) hx hb dX11_shift_356 rfl ?_
                                                          refine lv_iadd hx hb dX11_shift_357 ?_
                                                          refine zz_i (v := nI (rr + 1)) (nI_add rr 1) ?_
                                                          refine lv_idiv hx hb dX11_shift_358 (nI_ne0 (by omega) (by omega)) ?_
                                                          refine lv_iadd hx hb dX11_shift_359 ?_
                                                          refine z_iast hx hb hK hP hD hS 13 0 rfl rfl (e := 40 * f + k) (x := (cF40 cy f k) + ((dy * (nI ((rr + 1) - (wyR (kd f).toInt n kk k)))) / (nI (rr + 1)))) rfl b9_116 (Nat.le_of_ble_eq_true rfl) dX11_shift_360 (fun H locs hP hD hS => ?_)
                                                          obtain ⟨hP, hD⟩ := zre (W2 := [_, _, _, _, _, _, _, _, _, _, _, _, _, (oa (a 13) cI 8040 (upd cy1 (40 * f + k) ((cF40 cy f k) + ((dy * (nI ((rr + 1) - (wyR (kd f).toInt n kk k)))) / (nI (rr + 1)))))), _, _, _, _, _, _, _, _, _, _, _, _, _, _, _, _, _, _]) hP hD rfl
                                                          refine lv_iinc (v := nI (k + 1)) (lv' := [(10, .int (nI (k + 1))), (12, .int 0), (11, .int (nI (wyR (kd f).toInt n kk k))), (9, .int 0), (7, .int 0), (8, .int 0), (6, .int 0), (0, .ref k0), (1, .int (nI f)), (2, .int (nI kk)), (3, .int dx), (4, .int dy), (5, .int (nI rr))]) hx hb dX11_shift_361 hl (k := 2) rfl (nI_add k 1) (Nat.le_of_ble_eq_true rfl) rfl (fun ls hl => ?_)
                                                          refine lv_goto (tgt := 203) hx hb dX11_shift_364 rfl ?_
                                                          exact ih_203 (k + 1) (upd cx1 (40 * f + k) ((cF40 cx f k) + ((dx * (nI ((rr + 1) - (wyR (kd f).toInt n kk k)))) / (nI (rr + 1))))) (upd cy1 (40 * f + k) ((cF40 cy f k) + ((dy * (nI ((rr + 1) - (wyR (kd f).toInt n kk k)))) / (nI (rr + 1))))) H locs ls (by first | with_reducible assumption | omega) (by first | with_reducible assumption | omega) (by first | exact fgX_u hcx (shV_f (by first | with_reducible assumption | assumption)) | exact fgX_k hcx (shV_t (X := cF40 cx f) (by first | exact Or.inl (by first | with_reducible assumption | omega) | exact Or.inr ⟨by assumption, by omega⟩))) (by first | exact fgX_u hcy (shV_f (by first | with_reducible assumption | assumption)) | exact fgX_k hcy (shV_t (X := cF40 cy f) (by first | exact Or.inl (by first | with_reducible assumption | omega) | exact Or.inr ⟨by assumption, by omega⟩))) hP hD hS (lv_sub hl [0, 3, 4, 5, 6, 7, 8, 9, 10, 11, 12] rfl)
                                                        · exact absurd (by decide) c_117
                                                      · exact absurd (by decide) c_115
                                                    · exact absurd (by decide) c_113
                                                  · have c_112 : ¬ (5 ≤ (kd f).toInt) := zp_0 c_112
                                                    refine lv_iload hx hb dX11_shift_242 (lv_at hl 1 rfl) ?_
                                                    refine lv_if_eq (tgt := 258) hx hb dX11_shift_244 rfl (fun c_118 => ?_) (fun c_118 => ?_)
                                                    · have c_118 : ((k : Nat) : Int) = 0 := zc_eq (nI_toInt b9_106) rfl c_118
                                                      refine lv_iconst (v := 1) hx hb dX11_shift_258 rfl ?_
                                                      refine lv_goto (tgt := 263) hx hb dX11_shift_259 rfl ?_
                                                      refine lv_istore (lv' := [(12, .int 1), (11, .int (nI (wyR (kd f).toInt n kk k))), (10, .int (nI k)), (9, .int 0), (7, .int 0), (8, .int 0), (6, .int 0), (0, .ref k0), (1, .int (nI f)), (2, .int (nI kk)), (3, .int dx), (4, .int dy), (5, .int (nI rr))]) hx hb dX11_shift_263 hl (Nat.le_of_ble_eq_true rfl) rfl (fun ls hl => ?_)
                                                      refine lv_iload hx hb dX11_shift_265 (lv_at hl 0 rfl) ?_
                                                      refine lv_if_eq (tgt := 273) hx hb dX11_shift_267 rfl (fun c_119 => ?_) (fun c_119 => ?_)
                                                      · exact absurd c_119 (by decide)
                                                      · refine lv_goto (tgt := 361) hx hb dX11_shift_270 rfl ?_
                                                        refine lv_iinc (v := nI (k + 1)) (lv' := [(10, .int (nI (k + 1))), (12, .int 1), (11, .int (nI (wyR (kd f).toInt n kk k))), (9, .int 0), (7, .int 0), (8, .int 0), (6, .int 0), (0, .ref k0), (1, .int (nI f)), (2, .int (nI kk)), (3, .int dx), (4, .int dy), (5, .int (nI rr))]) hx hb dX11_shift_361 hl (k := 2) rfl (nI_add k 1) (Nat.le_of_ble_eq_true rfl) rfl (fun ls hl => ?_)
                                                        refine lv_goto (tgt := 203) hx hb dX11_shift_364 rfl ?_
                                                        exact ih_203 (k + 1) cx1 cy1 H locs ls (by first | with_reducible assumption | omega) (by first | with_reducible assumption | omega) (by first | exact fgX_u hcx (shV_f (by first | with_reducible assumption | assumption)) | exact fgX_k hcx (shV_t (X := cF40 cx f) (by first | exact Or.inl (by first | with_reducible assumption | omega) | exact Or.inr ⟨by assumption, by omega⟩))) (by first | exact fgX_u hcy (shV_f (by first | with_reducible assumption | assumption)) | exact fgX_k hcy (shV_t (X := cF40 cy f) (by first | exact Or.inl (by first | with_reducible assumption | omega) | exact Or.inr ⟨by assumption, by omega⟩))) hP hD hS (lv_sub hl [0, 3, 4, 5, 6, 7, 8, 9, 10, 11, 12] rfl)
                                                    · have c_118 : ¬ ((k : Nat) : Int) = 0 := zc_ne (nI_toInt b9_106) rfl c_118
                                                      refine lv_iload hx hb dX11_shift_247 (lv_at hl 1 rfl) ?_
                                                      refine lv_aload_n hx hb dX11_shift_249 rfl (lv_at hl 6 rfl) ?_
                                                      refine va_get (D := (dC, dI)) (ci := 9) (v := .int (nI n)) (C := RX11) (T := TX11) (N := 55) hx hb hts inX11 hown hK hP 0 rfl rfl 35 (Nat.le_of_ble_eq_true rfl) (hts _ mw_1194) (fun _ h9 => h9) rfl dX11_shift_250 ?_
                                                      refine lv_iconst (v := 1) hx hb dX11_shift_253 rfl ?_
                                                      refine lv_isub hx hb dX11_shift_254 ?_
                                                      refine zz_i (v := nI (n - 1)) (pk_sub (a := n) (b := 1) (by omega)) ?_
                                                      have b9_121 : zlt ((n - 1)) := show (n - 1) < 2147483648 by omega
                                                      refine lv_icmp_ne (tgt := 262) hx hb dX11_shift_255 rfl (fun c_120 => ?_) (fun c_120 => ?_)
                                                      · have c_120 : ¬ ((k : Nat) : Int) = ((n - 1 : Nat) : Int) := zc_ne (nI_toInt b9_106) (nI_toInt b9_121) c_120
                                                        refine lv_iconst (v := 0) hx hb dX11_shift_262 rfl ?_
                                                        refine lv_istore (lv' := [(12, .int 0), (11, .int (nI (wyR (kd f).toInt n kk k))), (10, .int (nI k)), (9, .int 0), (7, .int 0), (8, .int 0), (6, .int 0), (0, .ref k0), (1, .int (nI f)), (2, .int (nI kk)), (3, .int dx), (4, .int dy), (5, .int (nI rr))]) hx hb dX11_shift_263 hl (Nat.le_of_ble_eq_true rfl) rfl (fun ls hl => ?_)
                                                        refine lv_iload hx hb dX11_shift_265 (lv_at hl 0 rfl) ?_
                                                        refine lv_if_eq (tgt := 273) hx hb dX11_shift_267 rfl (fun c_122 => ?_) (fun c_122 => ?_)
                                                        · have hst9 : ¬ (rr < wyR (kd f).toInt n kk k ∨ (¬ 5 ≤ (kd f).toInt ∧ (k = 0 ∨ k = n - 1))) := (by first | exact fun h => h.elim (fun h => by omega) (fun h => absurd (by first | with_reducible assumption | assumption) h.1) | exact fun h => h.elim (fun h => by omega) (fun h => by omega))
                                                          have hwy : wyR (kd f).toInt n kk k ≤ rr := (by have := hst9; omega)
                                                          refine lv_aload_n hx hb dX11_shift_273 rfl (lv_at hl 7 rfl) ?_
                                                          refine va_get (D := (dC, dI)) (ci := 9) (v := .ref (a 12)) (C := RX11) (T := TX11) (N := 55) hx hb hts inX11 hown hK hP 0 rfl rfl 12 (Nat.le_of_ble_eq_true rfl) (hts _ mw_1171) (fun _ h9 => h9) rfl dX11_shift_274 ?_
                                                          refine lv_bipush (v := 40) hx hb dX11_shift_277 rfl ?_
                                                          refine lv_iload_n hx hb dX11_shift_279 rfl (lv_at hl 8 rfl) ?_
                                                          refine lv_imul hx hb dX11_shift_280 ?_
                                                          refine zz_i (v := nI (40 * f)) (pk_mul 40 f) ?_
                                                          refine lv_iload hx hb dX11_shift_281 (lv_at hl 2 rfl) ?_
                                                          refine lv_iadd hx hb dX11_shift_283 ?_
                                                          refine zz_i (v := nI (40 * f + k)) (nI_add (40 * f) k) ?_
                                                          refine lv_aload_n hx hb dX11_shift_284 rfl (lv_at hl 7 rfl) ?_
                                                          refine va_get (D := (dC, dI)) (ci := 9) (v := .ref (a 33)) (C := RX11) (T := TX11) (N := 55) hx hb hts inX11 hown hK hP 0 rfl rfl 33 (Nat.le_of_ble_eq_true rfl) (hts _ mw_1192) (fun _ h9 => h9) rfl dX11_shift_285 ?_
                                                          refine lv_iload hx hb dX11_shift_288 (lv_at hl 2 rfl) ?_
                                                          have b9_123 : k < 42 := by omega
                                                          refine z_iald hx hb hK hP 23 0 rfl rfl (e := k) rfl b9_123 (Nat.le_of_ble_eq_true rfl) dX11_shift_290 ?_
                                                          refine zz_i (v := cF40 cx f k) ((hox _ hk9).1) ?_
                                                          refine lv_iload hx hb dX11_shift_291 (lv_at hl 3 rfl) ?_
                                                          refine lv_if_eq (tgt := 300) hx hb dX11_shift_293 rfl (fun c_124 => ?_) (fun c_124 => ?_)
                                                          · refine lv_iload_n hx hb dX11_shift_300 rfl (lv_at hl 10 rfl) ?_
                                                            refine lv_iload hx hb dX11_shift_301 (lv_at hl 12 rfl) ?_
                                                            refine lv_iconst (v := 1) hx hb dX11_shift_303 rfl ?_
                                                            refine lv_iadd hx hb dX11_shift_304 ?_
                                                            refine zz_i (v := nI (rr + 1)) (nI_add rr 1) ?_
                                                            refine lv_iload hx hb dX11_shift_305 (lv_at hl 1 rfl) ?_
                                                            refine lv_isub hx hb dX11_shift_307 ?_
                                                            refine zz_i (v := nI ((rr + 1) - (wyR (kd f).toInt n kk k))) (pk_sub (a := rr + 1) (b := wyR (kd f).toInt n kk k) (by omega)) ?_
                                                            refine lv_imul hx hb dX11_shift_308 ?_
                                                            refine lv_iload hx hb dX11_shift_309 (lv_at hl 12 rfl) ?_
                                                            refine lv_iconst (v := 1) hx hb dX11_shift_311 rfl ?_
                                                            refine lv_iadd hx hb dX11_shift_312 ?_
                                                            refine zz_i (v := nI (rr + 1)) (nI_add rr 1) ?_
                                                            refine lv_idiv hx hb dX11_shift_313 (nI_ne0 (by omega) (by omega)) ?_
                                                            refine lv_iadd hx hb dX11_shift_314 ?_
                                                            have b9_125 : 40 * f + k < 8040 := by omega
                                                            refine z_iast hx hb hK hP hD hS 12 0 rfl rfl (e := 40 * f + k) (x := (cF40 cx f k) + ((dx * (nI ((rr + 1) - (wyR (kd f).toInt n kk k)))) / (nI (rr + 1)))) rfl b9_125 (Nat.le_of_ble_eq_true rfl) dX11_shift_315 (fun H locs hP hD hS => ?_)
                                                            obtain ⟨hP, hD⟩ := zre (W2 := [_, _, _, _, _, _, _, _, _, _, _, _, (oa (a 12) cI 8040 (upd cx1 (40 * f + k) ((cF40 cx f k) + ((dx * (nI ((rr + 1) - (wyR (kd f).toInt n kk k)))) / (nI (rr + 1)))))), _, _, _, _, _, _, _, _, _, _, _, _, _, _, _, _, _, _, _]) hP hD rfl
                                                            refine lv_aload_n hx hb dX11_shift_316 rfl (lv_at hl 7 rfl) ?_
                                                            refine va_get (D := (dC, dI)) (ci := 9) (v := .ref (a 13)) (C := RX11) (T := TX11) (N := 55) hx hb hts inX11 hown hK hP 0 rfl rfl 13 (Nat.le_of_ble_eq_true rfl) (hts _ mw_1172) (fun _ h9 => h9) rfl dX11_shift_317 ?_
                                                            refine lv_bipush (v := 40) hx hb dX11_shift_320 rfl ?_
                                                            refine lv_iload_n hx hb dX11_shift_322 rfl (lv_at hl 8 rfl) ?_
                                                            refine lv_imul hx hb dX11_shift_323 ?_
                                                            refine zz_i (v := nI (40 * f)) (pk_mul 40 f) ?_
                                                            refine lv_iload hx hb dX11_shift_324 (lv_at hl 2 rfl) ?_
                                                            refine lv_iadd hx hb dX11_shift_326 ?_
                                                            refine zz_i (v := nI (40 * f + k)) (nI_add (40 * f) k) ?_
                                                            refine lv_aload_n hx hb dX11_shift_327 rfl (lv_at hl 7 rfl) ?_
                                                            refine va_get (D := (dC, dI)) (ci := 9) (v := .ref (a 34)) (C := RX11) (T := TX11) (N := 55) hx hb hts inX11 hown hK hP 0 rfl rfl 34 (Nat.le_of_ble_eq_true rfl) (hts _ mw_1193) (fun _ h9 => h9) rfl dX11_shift_328 ?_
                                                            refine lv_iload hx hb dX11_shift_331 (lv_at hl 2 rfl) ?_
                                                            refine z_iald hx hb hK hP 24 0 rfl rfl (e := k) rfl b9_123 (Nat.le_of_ble_eq_true rfl) dX11_shift_333 ?_
                                                            refine zz_i (v := cF40 cy f k) ((hox _ hk9).2) ?_
                                                            refine lv_iload hx hb dX11_shift_334 (lv_at hl 3 rfl) ?_
                                                            refine lv_if_eq (tgt := 344) hx hb dX11_shift_336 rfl (fun c_126 => ?_) (fun c_126 => ?_)
                                                            · refine lv_iload hx hb dX11_shift_344 (lv_at hl 11 rfl) ?_
                                                              refine lv_iload hx hb dX11_shift_346 (lv_at hl 12 rfl) ?_
                                                              refine lv_iconst (v := 1) hx hb dX11_shift_348 rfl ?_
                                                              refine lv_iadd hx hb dX11_shift_349 ?_
                                                              refine zz_i (v := nI (rr + 1)) (nI_add rr 1) ?_
                                                              refine lv_iload hx hb dX11_shift_350 (lv_at hl 1 rfl) ?_
                                                              refine lv_isub hx hb dX11_shift_352 ?_
                                                              refine zz_i (v := nI ((rr + 1) - (wyR (kd f).toInt n kk k))) (pk_sub (a := rr + 1) (b := wyR (kd f).toInt n kk k) (by omega)) ?_
                                                              refine lv_imul hx hb dX11_shift_353 ?_
                                                              refine lv_iload hx hb dX11_shift_354 (lv_at hl 12 rfl) ?_
                                                              refine lv_iconst (v := 1) hx hb dX11_shift_356 rfl ?_
                                                              refine lv_iadd hx hb dX11_shift_357 ?_
                                                              refine zz_i (v := nI (rr + 1)) (nI_add rr 1) ?_
                                                              refine lv_idiv hx hb dX11_shift_358 (nI_ne0 (by omega) (by omega)) ?_
                                                              refine lv_iadd hx hb dX11_shift_359 ?_
                                                              refine z_iast hx hb hK hP hD hS 13 0 rfl rfl (e := 40 * f + k) (x := (cF40 cy f k) + ((dy * (nI ((rr + 1) - (wyR (kd f).toInt n kk k)))) / (nI (rr + 1)))) rfl b9_125 (Nat.le_of_ble_eq_true rfl) dX11_shift_360 (fun H locs hP hD hS => ?_)
                                                              obtain ⟨hP, hD⟩ := zre (W2 := [_, _, _, _, _, _, _, _, _, _, _, _, _, (oa (a 13) cI 8040 (upd cy1 (40 * f + k) ((cF40 cy f k) + ((dy * (nI ((rr + 1) - (wyR (kd f).toInt n kk k)))) / (nI (rr + 1)))))), _, _, _, _, _, _, _, _, _, _, _, _, _, _, _, _, _, _]) hP hD rfl
                                                              refine lv_iinc (v := nI (k + 1)) (lv' := [(10, .int (nI (k + 1))), (12, .int 0), (11, .int (nI (wyR (kd f).toInt n kk k))), (9, .int 0), (7, .int 0), (8, .int 0), (6, .int 0), (0, .ref k0), (1, .int (nI f)), (2, .int (nI kk)), (3, .int dx), (4, .int dy), (5, .int (nI rr))]) hx hb dX11_shift_361 hl (k := 2) rfl (nI_add k 1) (Nat.le_of_ble_eq_true rfl) rfl (fun ls hl => ?_)
                                                              refine lv_goto (tgt := 203) hx hb dX11_shift_364 rfl ?_
                                                              exact ih_203 (k + 1) (upd cx1 (40 * f + k) ((cF40 cx f k) + ((dx * (nI ((rr + 1) - (wyR (kd f).toInt n kk k)))) / (nI (rr + 1))))) (upd cy1 (40 * f + k) ((cF40 cy f k) + ((dy * (nI ((rr + 1) - (wyR (kd f).toInt n kk k)))) / (nI (rr + 1))))) H locs ls (by first | with_reducible assumption | omega) (by first | with_reducible assumption | omega) (by first | exact fgX_u hcx (shV_f (by first | with_reducible assumption | assumption)) | exact fgX_k hcx (shV_t (X := cF40 cx f) (by first | exact Or.inl (by first | with_reducible assumption | omega) | exact Or.inr ⟨by assumption, by omega⟩))) (by first | exact fgX_u hcy (shV_f (by first | with_reducible assumption | assumption)) | exact fgX_k hcy (shV_t (X := cF40 cy f) (by first | exact Or.inl (by first | with_reducible assumption | omega) | exact Or.inr ⟨by assumption, by omega⟩))) hP hD hS (lv_sub hl [0, 3, 4, 5, 6, 7, 8, 9, 10, 11, 12] rfl)
                                                            · exact absurd (by decide) c_126
                                                          · exact absurd (by decide) c_124
                                                        · exact absurd (by decide) c_122
                                                      · have c_120 : ((k : Nat) : Int) = ((n - 1 : Nat) : Int) := zc_eq (nI_toInt b9_106) (nI_toInt b9_121) c_120
                                                        refine lv_iconst (v := 1) hx hb dX11_shift_258 rfl ?_
                                                        refine lv_goto (tgt := 263) hx hb dX11_shift_259 rfl ?_
                                                        refine lv_istore (lv' := [(12, .int 1), (11, .int (nI (wyR (kd f).toInt n kk k))), (10, .int (nI k)), (9, .int 0), (7, .int 0), (8, .int 0), (6, .int 0), (0, .ref k0), (1, .int (nI f)), (2, .int (nI kk)), (3, .int dx), (4, .int dy), (5, .int (nI rr))]) hx hb dX11_shift_263 hl (Nat.le_of_ble_eq_true rfl) rfl (fun ls hl => ?_)
                                                        refine lv_iload hx hb dX11_shift_265 (lv_at hl 0 rfl) ?_
                                                        refine lv_if_eq (tgt := 273) hx hb dX11_shift_267 rfl (fun c_127 => ?_) (fun c_127 => ?_)
                                                        · exact absurd c_127 (by decide)
                                                        · refine lv_goto (tgt := 361) hx hb dX11_shift_270 rfl ?_
                                                          refine lv_iinc (v := nI (k + 1)) (lv' := [(10, .int (nI (k + 1))), (12, .int 1), (11, .int (nI (wyR (kd f).toInt n kk k))), (9, .int 0), (7, .int 0), (8, .int 0), (6, .int 0), (0, .ref k0), (1, .int (nI f)), (2, .int (nI kk)), (3, .int dx), (4, .int dy), (5, .int (nI rr))]) hx hb dX11_shift_361 hl (k := 2) rfl (nI_add k 1) (Nat.le_of_ble_eq_true rfl) rfl (fun ls hl => ?_)
                                                          refine lv_goto (tgt := 203) hx hb dX11_shift_364 rfl ?_
                                                          exact ih_203 (k + 1) cx1 cy1 H locs ls (by first | with_reducible assumption | omega) (by first | with_reducible assumption | omega) (by first | exact fgX_u hcx (shV_f (by first | with_reducible assumption | assumption)) | exact fgX_k hcx (shV_t (X := cF40 cx f) (by first | exact Or.inl (by first | with_reducible assumption | omega) | exact Or.inr ⟨by assumption, by omega⟩))) (by first | exact fgX_u hcy (shV_f (by first | with_reducible assumption | assumption)) | exact fgX_k hcy (shV_t (X := cF40 cy f) (by first | exact Or.inl (by first | with_reducible assumption | omega) | exact Or.inr ⟨by assumption, by omega⟩))) hP hD hS (lv_sub hl [0, 3, 4, 5, 6, 7, 8, 9, 10, 11, 12] rfl)
                                        exact hl_203 _ 0 cx cy H locs ls (Nat.lt_succ_self _) (by first | with_reducible assumption | omega) (fgX_0 _ _ _) (fgX_0 _ _ _) hP hD hS (lv_sub hl [0, 1, 2, 3, 4, 5, 6, 7, 8, 9, 10] rfl)
                                      · have c_104 : (kd f).toInt = 6 := zc_eq rfl rfl c_104
                                        exfalso; omega
                                  · exact absurd (by decide) c_102
                                · have c_101 : ¬ (tn f).toInt = 0 := zc_ne rfl rfl c_101
                                  exfalso; omega
                              · exact absurd (by decide) c_100
                            · exact absurd (by decide) c_99
                          · have c_98 : 20 < ((rr : Nat) : Int) := zc_nle (nI_toInt b9_97) rfl c_98
                            exfalso; omega
              · have c_91 : ¬ (st f).toInt = 1 := zc_ne rfl rfl c_91
                exfalso; omega
            · exact absurd (by decide) c_90
        · have c_87 : ((n : Nat) : Int) ≤ ((kk : Nat) : Int) := zc_nlt (nI_toInt b9_86) (nI_toInt b9_88) c_87
          exfalso; omega
set_option maxHeartbeats 4000000 in
set_option maxRecDepth 100000 in
theorem k_M_shift_p_y (l : Launch) (dC : Nat → ClassId) (dI : Nat → Nat → Nat) (cI cZ cF : ClassId) (sz : Nat) (k0 : Nat) (a : Nat → Nat) (I0 : Nat → Int32) (J0 : Nat → Int64) (f : Nat) (n : Nat) (ft : Nat) (kk : Nat) (rr : Nat) (dx : Int32) (dy : Int32) (kd : Nat → Int32) (st : Nat → Int32) (gb : Nat → Int32) (it : Nat → Int32) (pa : Nat → Int32) (pb : Nat → Int32) (rk : Nat → Int32) (wd : Nat → Int32) (tw : Nat → Int32) (tn : Nat → Int32) (mn : Nat → Int32) (cx : Nat → Int32) (cy : Nat → Int32) (sa : Nat → Int32) (sh : Nat → Int32) (wh : Nat → Int32) (of9 : Nat → Int32) (we : Nat → Int32) (S0 : Nat → Int32) (T0 : Nat → Int32) (P0 : Nat → Int32) (Q0 : Nat → Int32) (ox : Nat → Int32) (oy : Nat → Int32) (mt : Nat → Int32) (wi : Nat → Int32) (ins : Nat → Int32) (la : Nat → Int32) (lb : Nat → Int32) (lc : Nat → Int32) (ld : Nat → Int32) (dn : Nat) (bs : Nat) (w0 : Nat) (cp : Nat) (c1 : Nat) (c2 : Nat) (ln : Nat) (cl : Nat) (hft : I0 0 = nI ft) (h200 : ft ≤ 200) (hf_f : f ≤ 200) (hm_f : mn f = nI n) (hn_f : 1 ≤ n ∧ n ≤ 40) (hp_f : pls n (cF40 cx f) (cF40 cy f)) (hft_f : f < ft) (hwf : ∀ q, lvF ft st tn q → wfM mn cx cy q) (hst1 : (st f).toInt = 1) (htn0 : (tn f).toInt = 0) (hkk : kk < n) (hrr : rr ≤ 20) (hdx : -200 ≤ dx.toInt ∧ dx.toInt ≤ 200) (hdy : -200 ≤ dy.toInt ∧ dy.toInt ≤ 200) (hkd1 : ¬ (kd f).toInt = 0 ∧ ¬ (kd f).toInt = 6) (hmv : mvd n (fun i => shV (kd f).toInt n kk dx rr (cF40 cx f) i) (fun i => shV (kd f).toInt n kk dy rr (cF40 cy f) i) (cF40 cx f) (cF40 cy f)) (hdn : I0 19 = nI dn) (hbs : I0 21 = nI bs) (hbd : bs ≤ dn) (hd512 : dn ≤ 512) (hi5_1 : (dn - bs) < 515) (hsa_1 : sa (dn - bs) = nI w0) (hmn_1 : ∀ f, f < ft → (tn f).toInt = 0 → ¬ (st f).toInt = 0 → mn f = nI (nN (mn f)) ∧ nN (mn f) ≤ 40) (hc1_1 : 1 ≤ cp) (hpw_1 : pw cp c1) (hw0_1 : w0 ≤ 4096 * cp) (hfit_1 : psN (nnF st tn mn) w0 ft ≤ 4096 * c1) (hmin_1 : c1 = cp ∨ 2048 * c1 < psN (nnF st tn mn) w0 ft) (hcE_1 : c1 ≤ 512) (hpw_2 : pw c1 c2) (hfit_2 : psN (nnF st tn mn) (psN (nnF st tn mn) w0 ft) ft ≤ 4096 * c2) (hmin_2 : c2 = c1 ∨ 2048 * c2 < psN (nnF st tn mn) (psN (nnF st tn mn) w0 ft) ft) (hcE_2 : c2 ≤ 512) (hlc : ln ≤ 64 * cl) (hcl1 : 1 ≤ cl) (hclm : cl ≤ 1000000) (hlaw : lwM ft st tn kd mn cx cy f n (fun i => shV (kd f).toInt n kk dx rr (cF40 cx f) i) (fun i => shV (kd f).toInt n kk dy rr (cF40 cy f) i)) : zM l yX11_shift cX11_shift 13 (some .boolean) ({ frames := 8, cells := c2 - cp, slots := 8192 * (c2 - cp), locals := 210 } : Room) [.ref k0, .int (nI f), .int (nI kk), .int dx, .int dy, .int (nI rr)] (dC, dI) (zTy cI cZ cF) [(om k0 a (upd I0 26 (nI ln)) J0), (oa (a 1) cI 201 kd), (oa (a 5) cI 201 st), (oa (a 7) cI 201 gb), (oa (a 10) cI 201 it), (oa (a 8) cI 201 pa), (oa (a 9) cI 201 pb), (oa (a 2) cI 201 rk), (oa (a 3) cI 201 wd), (oa (a 4) cI 201 tw), (oa (a 6) cZ 201 tn), (oa (a 11) cI 201 mn), (oa (a 12) cI 8040 cx), (oa (a 13) cI 8040 cy), (oa (a 27) cI 516 sa), (oa (a 28) cI (4096 * cp) sh), (oa (a 16) cI 514 wh), (oa (a 17) cI 514 of9), (oa (a 18) cI 514 we), (oa (a 32) cI 8 S0), (oa (a 40) cI 6 T0), (oa (a 29) cI 42 P0), (oa (a 30) cI 42 Q0), (oa (a 33) cI 42 ox), (oa (a 34) cI 42 oy), (oa (a 37) cZ 201 mt), (oa (a 38) cZ 201 wi), (oa (a 39) cZ 8040 ins), (oa (a 22) cI (64 * cl) la), (oa (a 23) cI (64 * cl) lb), (oa (a 24) cI (64 * cl) lc), (oa (a 25) cI (64 * cl) ld)] sz (some (.int 1)) (fun A t => ∃ (z9 : Int32), ∃ (b2 : Nat), ∃ (sh2 : Nat → Int32), ∃ (t9 : Nat), ∃ (S1 : Nat → Int32), ∃ (T1 : Nat → Int32), ∃ (P1 : Nat → Int32), ∃ (Q1 : Nat → Int32), ∃ (ox1 : Nat → Int32), ∃ (oy1 : Nat → Int32), ∃ (mt1 : Nat → Int32), ∃ (wi1 : Nat → Int32), ∃ (ins1 : Nat → Int32), ∃ (la1 : Nat → Int32), ∃ (lb1 : Nat → Int32), ∃ (lc1 : Nat → Int32), ∃ (ld1 : Nat → Int32), (sh2 w0 = nI ft) ∧ (∀ j, j < w0 → sh2 j = sh j) ∧ (∀ g, g < ft → ∀ j, j < 10 + 2 * (nnF st tn mn) g → sh2 (psN (nnF st tn mn) w0 g + j) = (shD kd st gb it pa pb rk wd tw (nnF st tn mn) cx cy) g j) ∧ (sh2 (psN (nnF st tn mn) w0 ft) = nI ft) ∧ (∀ g, g < ft → ∀ j, j < 10 + 2 * (nnF st tn mn) g → sh2 (psN (nnF st tn mn) (psN (nnF st tn mn) w0 ft) g + j) = (shD kd st gb it pa pb rk wd tw (nnF st tn mn) (fgX f n (fun i => shV (kd f).toInt n kk dx rr (cF40 cx f) i) cx) (fgX f n (fun i => shV (kd f).toInt n kk dy rr (cF40 cy f) i) cy)) g j) ∧ (t9 ≤ ln) ∧ ((∀ j, j < t9 → ∃ i, i < ln ∧ lb1 j = lb i ∧ lc1 j = lc i) ∧ lsZ dn ln la lb lc ld t9 la1 lb1 lc1 ld1 (fun _ _ _ => False)) ∧ zPD (dC, dI) classes A [(om k0 (va_up a 28 b2) (upd (upd (upd (upd (upd (upd (upd (upd I0 14 0) 19 (nI (dn + 1))) 20 0) 26 (nI t9)) 31 z9) 35 (nI n)) 36 (kd f)) 41 (nI (psN (nnF st tn mn) (psN (nnF st tn mn) w0 ft) ft))) J0), (oa (a 1) cI 201 kd), (oa (a 5) cI 201 st), (oa (a 7) cI 201 gb), (oa (a 10) cI 201 it), (oa (a 8) cI 201 pa), (oa (a 9) cI 201 pb), (oa (a 2) cI 201 rk), (oa (a 3) cI 201 wd), (oa (a 4) cI 201 tw), (oa (a 6) cZ 201 tn), (oa (a 11) cI 201 mn), (oa (a 12) cI 8040 (fgX f n (fun i => shV (kd f).toInt n kk dx rr (cF40 cx f) i) cx)), (oa (a 13) cI 8040 (fgX f n (fun i => shV (kd f).toInt n kk dy rr (cF40 cy f) i) cy)), (oa (a 27) cI 516 (upd (upd sa (dn - bs + 1) (nI (psN (nnF st tn mn) w0 ft))) (dn + 1 - bs + 1) (nI (psN (nnF st tn mn) (psN (nnF st tn mn) w0 ft) ft)))), (oa b2 cI (4096 * c2) sh2), (oa (a 16) cI 514 (upd wh (dn + 1) (nI 3))), (oa (a 17) cI 514 (upd of9 (dn + 1) (nI f))), (oa (a 18) cI 514 (upd we (dn + 1) (0 : Int32))), (oa (a 32) cI 8 S1), (oa (a 40) cI 6 T1), (oa (a 29) cI 42 P1), (oa (a 30) cI 42 Q1), (oa (a 33) cI 42 ox1), (oa (a 34) cI 42 oy1), (oa (a 37) cZ 201 mt1), (oa (a 38) cZ 201 wi1), (oa (a 39) cZ 8040 ins1), (oa (a 22) cI (64 * cl) la1), (oa (a 23) cI (64 * cl) lb1), (oa (a 24) cI (64 * cl) lc1), (oa (a 25) cI (64 * cl) ld1)] t.heap) (c2 - cp) (8192 * (c2 - cp)) := by
  refine zIn (own := "ScaleShopModel") (loc := [(0, .ref k0), (1, .int (nI f)), (2, .int (nI kk)), (3, .int dx), (4, .int dy), (5, .int (nI rr))]) rfl rfl rfl rfl (fun p e s m below meth c hx hb hr hts hown hlocks hml hnm9 A hA hS hP hD hK hXN Q9 hQ9 ls hl => ?_)
  have hum : upd mn f (nI n) = mn := upd_self hm_f
  have huk : upd kd f (kd f) = kd := upd_self rfl
  have hq1 := pw_le hpw_1
  have hq2 := pw_le hpw_2
  refine lv_aload_n hx hb dX11_shift_0 rfl (lv_at hl 0 rfl) ?_
  refine lv_iload_n hx hb dX11_shift_1 rfl (lv_at hl 1 rfl) ?_
  obtain ⟨hPc, hDc, hFc, hI1⟩ := zi_sub (wc := [_]) hP hD hS hA [0] rfl rfl
  refine zcall (st1 := [.int (pI (f < ft))]) (va_runV (As := [.int (nI f)]) (rest := []) ⟨hx, hb, hml, hown, hts⟩ (k_M_isFeature_n l dC dI cI cZ cF s.heap.size k0 a (upd I0 26 (nI ln)) J0 f ft (by first | with_reducible assumption | assumption) (by first | with_reducible assumption | omega) (by first | with_reducible assumption | omega)) (csV_178 hts rfl rfl ⟨Nat.le_of_ble_eq_true rfl, Nat.le_of_ble_eq_true rfl⟩) (zPV2 (q0 := 0) (ci := 9) hPc hDc hK hXN rfl rfl) rfl rfl hl.1 rfl (lv_room (Nat.le_of_ble_eq_true rfl)) dX11_shift_2 ⟨Nat.zero_le _, Nat.zero_le _⟩) hS hFc hFc rfl (fun t H locs ht hB hk1 hS => ?_)
  obtain ⟨hP1, hD1⟩ := hB
  rw [ht] at hP1
  replace hP := z0 hP hD hk1 hP1 hI1
  clear hk1 hPc hDc hFc hP1 hD1 ht hI1
  refine lv_if_eq (tgt := 35) hx hb dX11_shift_5 rfl (fun c_1 => ?_) (fun c_1 => ?_)
  · have c_1 : ¬ (f < ft) := zp_0 c_1
    refine lv_iconst (v := 0) hx hb dX11_shift_35 rfl ?_
    refine lv_istore (lv' := [(6, .int 0), (0, .ref k0), (1, .int (nI f)), (2, .int (nI kk)), (3, .int dx), (4, .int dy), (5, .int (nI rr))]) hx hb dX11_shift_36 hl (Nat.le_of_ble_eq_true rfl) rfl (fun ls hl => ?_)
    refine lv_aload_n hx hb dX11_shift_38 rfl (lv_at hl 1 rfl) ?_
    refine lv_iload_n hx hb dX11_shift_39 rfl (lv_at hl 2 rfl) ?_
    obtain ⟨hPc, hDc, hFc, hI1⟩ := zi_sub (wc := [_]) hP hD hS hA [0] rfl rfl
    refine zcall (st1 := [.int (pI (f < ft))]) (va_runV (As := [.int (nI f)]) (rest := []) ⟨hx, hb, hml, hown, hts⟩ (k_M_isFeature_n l dC dI cI cZ cF H.size k0 a (upd I0 26 (nI ln)) J0 f ft (by first | with_reducible assumption | assumption) (by first | with_reducible assumption | omega) (by first | with_reducible assumption | omega)) (csV_178 hts rfl rfl ⟨Nat.le_of_ble_eq_true rfl, Nat.le_of_ble_eq_true rfl⟩) (zPV2 (q0 := 0) (ci := 9) hPc hDc hK hXN rfl rfl) rfl rfl hl.1 rfl (lv_room (Nat.le_of_ble_eq_true rfl)) dX11_shift_40 ⟨Nat.zero_le _, Nat.zero_le _⟩) hS hFc hFc rfl (fun t H locs ht hB hk1 hS => ?_)
    obtain ⟨hP1, hD1⟩ := hB
    rw [ht] at hP1
    replace hP := z0 hP hD hk1 hP1 hI1
    clear hk1 hPc hDc hFc hP1 hD1 ht hI1
    refine lv_if_eq (tgt := 51) hx hb dX11_shift_43 rfl (fun c_2 => ?_) (fun c_2 => ?_)
    · have c_2 : ¬ (f < ft) := zp_0 c_2
      exfalso; omega
    · have c_2 : f < ft := zp_1 c_2
      refine lv_iload hx hb dX11_shift_46 (lv_at hl 0 rfl) ?_
      refine lv_if_eq (tgt := 55) hx hb dX11_shift_48 rfl (fun c_3 => ?_) (fun c_3 => ?_)
      · refine lv_aload_n hx hb dX11_shift_55 rfl (lv_at hl 1 rfl) ?_
        refine va_get (D := (dC, dI)) (ci := 9) (v := .ref (a 5)) (C := RX11) (T := TX11) (N := 55) hx hb hts inX11 hown hK hP 0 rfl rfl 5 (Nat.le_of_ble_eq_true rfl) (hts _ mw_1164) (fun _ h9 => h9) rfl dX11_shift_56 ?_
        refine lv_iload_n hx hb dX11_shift_59 rfl (lv_at hl 2 rfl) ?_
        have b9_4 : f < 201 := by omega
        refine z_iald hx hb hK hP 2 0 rfl rfl (e := f) rfl b9_4 (Nat.le_of_ble_eq_true rfl) dX11_shift_60 ?_
        refine lv_iconst (v := 1) hx hb dX11_shift_61 rfl ?_
        refine lv_icmp_eq (tgt := 69) hx hb dX11_shift_62 rfl (fun c_5 => ?_) (fun c_5 => ?_)
        · have c_5 : (st f).toInt = 1 := zc_eq rfl rfl c_5
          refine lv_iconst (v := 0) hx hb dX11_shift_69 rfl ?_
          refine lv_istore (lv' := [(7, .int 0), (6, .int 0), (0, .ref k0), (1, .int (nI f)), (2, .int (nI kk)), (3, .int dx), (4, .int dy), (5, .int (nI rr))]) hx hb dX11_shift_70 hl (Nat.le_of_ble_eq_true rfl) rfl (fun ls hl => ?_)
          refine lv_iload_n hx hb dX11_shift_72 rfl (lv_at hl 5 rfl) ?_
          refine lv_sipush (v := (-200)) hx hb dX11_shift_73 rfl ?_
          refine lv_icmp_lt (tgt := 114) hx hb dX11_shift_76 rfl (fun c_6 => ?_) (fun c_6 => ?_)
          · have c_6 : dx.toInt < (-200) := zc_lt rfl rfl c_6
            exfalso; omega
          · have c_6 : (-200) ≤ dx.toInt := zc_nlt rfl rfl c_6
            refine lv_iload_n hx hb dX11_shift_79 rfl (lv_at hl 5 rfl) ?_
            refine lv_sipush (v := 200) hx hb dX11_shift_80 rfl ?_
            refine lv_icmp_gt (tgt := 114) hx hb dX11_shift_83 rfl (fun c_7 => ?_) (fun c_7 => ?_)
            · have c_7 : 200 < dx.toInt := zc_lt rfl rfl c_7
              exfalso; omega
            · have c_7 : dx.toInt ≤ 200 := zc_nlt rfl rfl c_7
              refine lv_iload hx hb dX11_shift_86 (lv_at hl 6 rfl) ?_
              refine lv_sipush (v := (-200)) hx hb dX11_shift_88 rfl ?_
              refine lv_icmp_lt (tgt := 114) hx hb dX11_shift_91 rfl (fun c_8 => ?_) (fun c_8 => ?_)
              · have c_8 : dy.toInt < (-200) := zc_lt rfl rfl c_8
                exfalso; omega
              · have c_8 : (-200) ≤ dy.toInt := zc_nlt rfl rfl c_8
                refine lv_iload hx hb dX11_shift_94 (lv_at hl 6 rfl) ?_
                refine lv_sipush (v := 200) hx hb dX11_shift_96 rfl ?_
                refine lv_icmp_gt (tgt := 114) hx hb dX11_shift_99 rfl (fun c_9 => ?_) (fun c_9 => ?_)
                · have c_9 : 200 < dy.toInt := zc_lt rfl rfl c_9
                  exfalso; omega
                · have c_9 : dy.toInt ≤ 200 := zc_nlt rfl rfl c_9
                  refine lv_iload hx hb dX11_shift_102 (lv_at hl 7 rfl) ?_
                  have b9_11 : zlt (rr) := show rr < 2147483648 by omega
                  refine lv_if_lt (tgt := 114) hx hb dX11_shift_104 rfl (fun c_10 => ?_) (fun c_10 => ?_)
                  · have c_10 : ((rr : Nat) : Int) < 0 := zc_lt (nI_toInt b9_11) rfl c_10
                    exfalso; omega
                  · have c_10 : 0 ≤ ((rr : Nat) : Int) := zc_nlt (nI_toInt b9_11) rfl c_10
                    refine lv_iload hx hb dX11_shift_107 (lv_at hl 7 rfl) ?_
                    refine lv_bipush (v := 20) hx hb dX11_shift_109 rfl ?_
                    refine lv_icmp_le (tgt := 118) hx hb dX11_shift_111 rfl (fun c_12 => ?_) (fun c_12 => ?_)
                    · have c_12 : ((rr : Nat) : Int) ≤ 20 := zc_le (nI_toInt b9_11) rfl c_12
                      refine lv_iconst (v := 0) hx hb dX11_shift_118 rfl ?_
                      refine lv_istore (lv' := [(8, .int 0), (7, .int 0), (6, .int 0), (0, .ref k0), (1, .int (nI f)), (2, .int (nI kk)), (3, .int dx), (4, .int dy), (5, .int (nI rr))]) hx hb dX11_shift_119 hl (Nat.le_of_ble_eq_true rfl) rfl (fun ls hl => ?_)
                      refine lv_iload hx hb dX11_shift_121 (lv_at hl 1 rfl) ?_
                      refine lv_if_le (tgt := 131) hx hb dX11_shift_123 rfl (fun c_13 => ?_) (fun c_13 => ?_)
                      · refine lv_iload hx hb dX11_shift_131 (lv_at hl 0 rfl) ?_
                        refine lv_if_eq (tgt := 140) hx hb dX11_shift_133 rfl (fun c_14 => ?_) (fun c_14 => ?_)
                        · refine lv_aload_n hx hb dX11_shift_140 rfl (lv_at hl 3 rfl) ?_
                          refine va_get (D := (dC, dI)) (ci := 9) (v := .ref (a 6)) (C := RX11) (T := TX11) (N := 55) hx hb hts inX11 hown hK hP 0 rfl rfl 6 (Nat.le_of_ble_eq_true rfl) (hts _ mw_1165) (fun _ h9 => h9) rfl dX11_shift_141 ?_
                          refine lv_iload_n hx hb dX11_shift_144 rfl (lv_at hl 4 rfl) ?_
                          refine z_zald hx hb hK hP 10 1 rfl rfl (e := f) rfl b9_4 (Nat.le_of_ble_eq_true rfl) dX11_shift_145 ?_
                          refine lv_if_eq (tgt := 153) hx hb dX11_shift_146 rfl (fun c_15 => ?_) (fun c_15 => ?_)
                          · have c_15 : (tn f).toInt = 0 := zc_eq rfl rfl c_15
                            refine lv_iconst (v := 0) hx hb dX11_shift_153 rfl ?_
                            refine lv_istore (lv' := [(7, .int 0), (8, .int 0), (6, .int 0), (0, .ref k0), (1, .int (nI f)), (2, .int (nI kk)), (3, .int dx), (4, .int dy), (5, .int (nI rr))]) hx hb dX11_shift_154 hl (Nat.le_of_ble_eq_true rfl) rfl (fun ls hl => ?_)
                            refine lv_iload hx hb dX11_shift_156 (lv_at hl 0 rfl) ?_
                            refine lv_if_le (tgt := 168) hx hb dX11_shift_158 rfl (fun c_16 => ?_) (fun c_16 => ?_)
                            · refine lv_aload_n hx hb dX11_shift_168 rfl (lv_at hl 3 rfl) ?_
                              refine lv_iload_n hx hb dX11_shift_169 rfl (lv_at hl 4 rfl) ?_
                              obtain ⟨hPc, hDc, hFc⟩ := zo_sub (wc := [_, _, _, _, _, _, _, _, _, _, _, _, _]) hP hD hS hA [0, 2, 10, 1, 11, 12, 13, 19, 23, 24, 25, 26, 27] (by decide +kernel) rfl
                              refine zcall (st1 := []) (va_runV (As := [.int (nI f)]) (rest := []) ⟨hx, hb, hml, hown, hts⟩ (k_M_remember l dC dI cI cZ cF H.size k0 a (upd I0 26 (nI ln)) J0 f n ft st tn kd mn cx cy S0 ox oy mt wi ins (by first | with_reducible assumption | assumption) (by first | with_reducible assumption | omega) (by first | with_reducible assumption | omega) (by first | with_reducible assumption | assumption) (by first | with_reducible assumption | omega) (by first | with_reducible assumption | assumption) (fun q h1 _ => hwf q h1)) (csV_190 hts rfl rfl ⟨Nat.le_of_ble_eq_true rfl, Nat.le_of_ble_eq_true rfl⟩) (zPV2 (q0 := 0) (ci := 9) hPc hDc hK hXN rfl rfl) rfl rfl hl.1 rfl (lv_room (Nat.le_of_ble_eq_true rfl)) dX11_shift_170 ⟨Nat.zero_le _, Nat.zero_le _⟩) hS hFc hFc rfl (fun t H locs ht hB hk1 hS => ?_)
                              refine ex6 hB (fun S1 ox1 oy1 mt1 wi1 ins1 hB0 => ?_)
                              clear hB
                              obtain ⟨hox, hmt, hwi, hin, hP1, hD1⟩ := hB0
                              rw [ht] at hP1
                              obtain ⟨hP, hD⟩ := zn (W2 := [(om k0 a (upd (upd (upd I0 26 (nI ln)) 35 (nI n)) 36 (kd f)) J0), _, _, _, _, _, _, _, _, _, _, _, _, _, _, _, _, _, _, (oa (a 32) cI 8 S1), _, _, _, (oa (a 33) cI 42 ox1), (oa (a 34) cI 42 oy1), (oa (a 37) cZ 201 mt1), (oa (a 38) cZ 201 wi1), (oa (a 39) cZ 8040 ins1), _, _, _, _]) hP hD hk1 hFc hP1 hD1 zl_194 zl_195 zl_195 zl_194 (by decide +kernel) rfl rfl rfl rfl rfl
                              clear hk1 hPc hDc hFc hP1 hD1 ht
                              refine lv_aload_n hx hb dX11_shift_173 rfl (lv_at hl 3 rfl) ?_
                              refine va_get (D := (dC, dI)) (ci := 9) (v := .ref (a 1)) (C := RX11) (T := TX11) (N := 55) hx hb hts inX11 hown hK hP 0 rfl rfl 1 (Nat.le_of_ble_eq_true rfl) (hts _ mw_1160) (fun _ h9 => h9) rfl dX11_shift_174 ?_
                              refine lv_iload_n hx hb dX11_shift_177 rfl (lv_at hl 4 rfl) ?_
                              refine z_iald hx hb hK hP 1 0 rfl rfl (e := f) rfl b9_4 (Nat.le_of_ble_eq_true rfl) dX11_shift_178 ?_
                              refine lv_if_eq (tgt := 193) hx hb dX11_shift_179 rfl (fun c_17 => ?_) (fun c_17 => ?_)
                              · have c_17 : (kd f).toInt = 0 := zc_eq rfl rfl c_17
                                exfalso; omega
                              · have c_17 : ¬ (kd f).toInt = 0 := zc_ne rfl rfl c_17
                                refine lv_aload_n hx hb dX11_shift_182 rfl (lv_at hl 3 rfl) ?_
                                refine va_get (D := (dC, dI)) (ci := 9) (v := .ref (a 1)) (C := RX11) (T := TX11) (N := 55) hx hb hts inX11 hown hK hP 0 rfl rfl 1 (Nat.le_of_ble_eq_true rfl) (hts _ mw_1160) (fun _ h9 => h9) rfl dX11_shift_183 ?_
                                refine lv_iload_n hx hb dX11_shift_186 rfl (lv_at hl 4 rfl) ?_
                                refine z_iald hx hb hK hP 1 0 rfl rfl (e := f) rfl b9_4 (Nat.le_of_ble_eq_true rfl) dX11_shift_187 ?_
                                refine lv_bipush (v := 6) hx hb dX11_shift_188 rfl ?_
                                refine lv_icmp_ne (tgt := 197) hx hb dX11_shift_190 rfl (fun c_18 => ?_) (fun c_18 => ?_)
                                · have c_18 : ¬ (kd f).toInt = 6 := zc_ne rfl rfl c_18
                                  refine lv_iconst (v := 0) hx hb dX11_shift_197 rfl ?_
                                  refine lv_istore (lv' := [(9, .int 0), (7, .int 0), (8, .int 0), (6, .int 0), (0, .ref k0), (1, .int (nI f)), (2, .int (nI kk)), (3, .int dx), (4, .int dy), (5, .int (nI rr))]) hx hb dX11_shift_198 hl (Nat.le_of_ble_eq_true rfl) rfl (fun ls hl => ?_)
                                  refine lv_iconst (v := 0) hx hb dX11_shift_200 rfl ?_
                                  refine lv_istore (lv' := [(10, .int 0), (9, .int 0), (7, .int 0), (8, .int 0), (6, .int 0), (0, .ref k0), (1, .int (nI f)), (2, .int (nI kk)), (3, .int dx), (4, .int dy), (5, .int (nI rr))]) hx hb dX11_shift_201 hl (Nat.le_of_ble_eq_true rfl) rfl (fun ls hl => ?_)
                                  have hl_203 : ∀ (n9 : Nat) (k : Nat) (cx1 : Nat → Int32) (cy1 : Nat → Int32) (H : Heap) (locs : List Loc) (ls : Array Slot), n - k < n9 → (k ≤ n) → (cx1 = fgX f k (fun i => shV (kd f).toInt n kk dx rr (cF40 cx f) i) cx) → (cy1 = fgX f k (fun i => shV (kd f).toInt n kk dy rr (cF40 cy f) i) cy) → va_P (dC, dI) classes [(om k0 a (upd (upd (upd I0 26 (nI ln)) 35 (nI n)) 36 (kd f)) J0), (oa (a 1) cI 201 kd), (oa (a 5) cI 201 st), (oa (a 7) cI 201 gb), (oa (a 10) cI 201 it), (oa (a 8) cI 201 pa), (oa (a 9) cI 201 pb), (oa (a 2) cI 201 rk), (oa (a 3) cI 201 wd), (oa (a 4) cI 201 tw), (oa (a 6) cZ 201 tn), (oa (a 11) cI 201 mn), (oa (a 12) cI 8040 cx1), (oa (a 13) cI 8040 cy1), (oa (a 27) cI 516 sa), (oa (a 28) cI (4096 * cp) sh), (oa (a 16) cI 514 wh), (oa (a 17) cI 514 of9), (oa (a 18) cI 514 we), (oa (a 32) cI 8 S1), (oa (a 40) cI 6 T0), (oa (a 29) cI 42 P0), (oa (a 30) cI 42 Q0), (oa (a 33) cI 42 ox1), (oa (a 34) cI 42 oy1), (oa (a 37) cZ 201 mt1), (oa (a 38) cZ 201 wi1), (oa (a 39) cZ 8040 ins1), (oa (a 22) cI (64 * cl) la), (oa (a 23) cI (64 * cl) lb), (oa (a 24) cI (64 * cl) lc), (oa (a 25) cI (64 * cl) ld)] H → va_D A [(om k0 a (upd (upd (upd I0 26 (nI ln)) 35 (nI n)) 36 (kd f)) J0), (oa (a 1) cI 201 kd), (oa (a 5) cI 201 st), (oa (a 7) cI 201 gb), (oa (a 10) cI 201 it), (oa (a 8) cI 201 pa), (oa (a 9) cI 201 pb), (oa (a 2) cI 201 rk), (oa (a 3) cI 201 wd), (oa (a 4) cI 201 tw), (oa (a 6) cZ 201 tn), (oa (a 11) cI 201 mn), (oa (a 12) cI 8040 cx1), (oa (a 13) cI 8040 cy1), (oa (a 27) cI 516 sa), (oa (a 28) cI (4096 * cp) sh), (oa (a 16) cI 514 wh), (oa (a 17) cI 514 of9), (oa (a 18) cI 514 we), (oa (a 32) cI 8 S1), (oa (a 40) cI 6 T0), (oa (a 29) cI 42 P0), (oa (a 30) cI 42 Q0), (oa (a 33) cI 42 ox1), (oa (a 34) cI 42 oy1), (oa (a 37) cZ 201 mt1), (oa (a 38) cZ 201 wi1), (oa (a 39) cZ 8040 ins1), (oa (a 22) cI (64 * cl) la), (oa (a 23) cI (64 * cl) lb), (oa (a 24) cI (64 * cl) lc), (oa (a 25) cI (64 * cl) ld)] → va_S A s.heap H locs → lv_has ls 13 [(10, .int (nI k)), (9, .int 0), (7, .int 0), (8, .int 0), (6, .int 0), (0, .ref k0), (1, .int (nI f)), (2, .int (nI kk)), (3, .int dx), (4, .int dy), (5, .int (nI rr))] → W p l e ({ frames := 8, cells := c2 - cp, slots := 8192 * (c2 - cp), locals := 210 } : Room) s m ([.ref k0, .int (nI f), .int (nI kk), .int dx, .int dy, .int (nI rr)] : List Value).toArray below meth c H locs 0 0 Q9 (F0 m 203 ls []) := by
                                    intro n9
                                    induction n9 with
                                    | zero => intro k cx1 cy1 H locs ls hm; exact absurd hm (Nat.not_lt_zero _)
                                    | succ n9 ih_203 =>
                                      intro k cx1 cy1 H locs ls hm hk hcx hcy hP hD hS hl
                                      refine lv_iload hx hb dX11_shift_203 (lv_at hl 0 rfl) ?_
                                      refine lv_aload_n hx hb dX11_shift_205 rfl (lv_at hl 5 rfl) ?_
                                      refine va_get (D := (dC, dI)) (ci := 9) (v := .int (nI n)) (C := RX11) (T := TX11) (N := 55) hx hb hts inX11 hown hK hP 0 rfl rfl 35 (Nat.le_of_ble_eq_true rfl) (hts _ mw_1194) (fun _ h9 => h9) rfl dX11_shift_206 ?_
                                      have b9_20 : zlt (k) := show k < 2147483648 by omega
                                      have b9_21 : zlt (n) := show n < 2147483648 by omega
                                      refine lv_icmp_ge (tgt := 367) hx hb dX11_shift_209 rfl (fun c_19 => ?_) (fun c_19 => ?_)
                                      · have c_19 : ((n : Nat) : Int) ≤ ((k : Nat) : Int) := zc_le (nI_toInt b9_21) (nI_toInt b9_20) c_19
                                        have hkn : k = n := (by omega)
                                        rw [hkn] at hcx hcy
                                        refine lv_aload_n hx hb dX11_shift_367 rfl (lv_at hl 5 rfl) ?_
                                        refine lv_iload_n hx hb dX11_shift_368 rfl (lv_at hl 6 rfl) ?_
                                        obtain ⟨hPc, hDc, hFc, hI1⟩ := zi_sub (wc := [_, _, _, _, _]) hP hD hS hA [0, 12, 13, 23, 24] (by decide +kernel) rfl
                                        refine zcall (st1 := [.int (pI (∃ k, k < n ∧ ¬ ((cx1 (40 * f + k)).toInt = (ox1 k).toInt ∧ (cy1 (40 * f + k)).toInt = (oy1 k).toInt)))]) (va_runV (As := [.int (nI f)]) (rest := []) ⟨hx, hb, hml, hown, hts⟩ (k_M_moves l dC dI cI cZ cF H.size k0 a (upd (upd (upd I0 26 (nI ln)) 35 (nI n)) 36 (kd f)) J0 f n cx1 cy1 ox1 oy1 (by first | with_reducible assumption | omega) (rfl) (by first | with_reducible assumption | omega)) (csV_211 hts rfl rfl ⟨Nat.le_of_ble_eq_true rfl, Nat.le_of_ble_eq_true rfl⟩) (zPV2 (q0 := 0) (ci := 9) hPc hDc hK hXN rfl rfl) rfl rfl hl.1 rfl (lv_room (Nat.le_of_ble_eq_true rfl)) dX11_shift_369 ⟨Nat.zero_le _, Nat.zero_le _⟩) hS hFc hFc rfl (fun t H locs ht hB hk1 hS => ?_)
                                        obtain ⟨hP1, hD1⟩ := hB
                                        rw [ht] at hP1
                                        replace hP := z0 hP hD hk1 hP1 hI1
                                        clear hk1 hPc hDc hFc hP1 hD1 ht hI1
                                        refine zz_i (v := pI (mvd n (fun i => shV (kd f).toInt n kk dx rr (cF40 cx f) i) (fun i => shV (kd f).toInt n kk dy rr (cF40 cy f) i) (cF40 cx f) (cF40 cy f))) (zp_iff (mv_iff hcx hcy hox)) ?_
                                        refine lv_if_ne (tgt := 382) hx hb dX11_shift_372 rfl (fun c_22 => ?_) (fun c_22 => ?_)
                                        · have c_22 : mvd n (fun i => shV (kd f).toInt n kk dx rr (cF40 cx f) i) (fun i => shV (kd f).toInt n kk dy rr (cF40 cy f) i) (cF40 cx f) (cF40 cy f) := zp_1 c_22
                                          refine lv_aload_n hx hb dX11_shift_382 rfl (lv_at hl 5 rfl) ?_
                                          refine lv_iload_n hx hb dX11_shift_383 rfl (lv_at hl 6 rfl) ?_
                                          refine lv_iconst (v := 3) hx hb dX11_shift_384 rfl ?_
                                          refine zz_i (v := nI 3) (rfl) ?_
                                          have hbx : fgX f n ox1 cx1 = cx := (by rw [hcx]; exact fgX_back (fun k9 h9 => (hox k9 h9).1))
                                          have hby : fgX f n oy1 cy1 = cy := (by rw [hcy]; exact fgX_back (fun k9 h9 => (hox k9 h9).2))
                                          have hlq := lwM_eq (ft := ft) (st := st) (tn := tn) (kd := kd) (mn := mn) hn_f.1 hcx hcy hox
                                          have hpo : pls n ox1 oy1 := fun j hj => by rw [(hox j hj).1, (hox j hj).2]; exact hp_f j hj
                                          have hwf2 : ∀ q, lvF ft st tn q → q ≠ f → wfM mn cx1 cy1 q := fun q h1 h2 => wfM_o (hwf q h1) h2 (fun _ _ => rfl) (fun j hj => by rw [hcx, hcy]; exact ⟨fgX_o (by omega), fgX_o (by omega)⟩)
                                          obtain ⟨hPc, hDc, hFc⟩ := zo_sub (wc := [_, _, _, _, _, _, _, _, _, _, _, _, _, _, _, _, _, _, _, _, _, _, _, _, _, _, _, _, _, _, _, _]) hP hD hS hA [0, 1, 2, 3, 4, 5, 6, 7, 8, 9, 10, 11, 12, 13, 14, 15, 16, 17, 18, 19, 20, 21, 22, 23, 24, 25, 26, 27, 28, 29, 30, 31] (by decide +kernel) rfl
                                          refine zcall (st1 := [.int 1]) (va_runV (As := [.int (nI f), .int (nI 3)]) (rest := []) ⟨hx, hb, hml, hown, hts⟩ (k_M_changes_my l dC dI cI cZ cF H.size k0 a (upd (upd (upd I0 26 (nI ln)) 35 (nI n)) 36 (kd f)) J0 f n ft n (kd f) 3 kd st gb it pa pb rk wd tw tn mn cx1 cy1 sa sh wh of9 we S1 T0 P0 Q0 ox1 oy1 mt1 wi1 ins1 la lb lc ld (bMt kd mn cx cy f n) (bWi kd mn cx cy f) (bIn kd cx cy f n) dn bs w0 cp c1 c2 ln cl (hft) (by first | with_reducible assumption | omega) (by first | with_reducible assumption | omega) (hm_f) (by first | with_reducible assumption | omega) (hwf2) (by first | with_reducible assumption | omega) (by first | with_reducible assumption | omega) (hpo) (hmt) (fun q h1 h2 h5 => by rw [hwi q h1 h2]; exact zp_iff ⟨fun h => h.2, fun h => ⟨h5, h⟩⟩) (fun q h1 h2 i hi h5 => hin q h1 h2 h5 i hi) (by first | with_reducible assumption | omega) (rfl) (hft_f) (hdn) (hbs) (by first | with_reducible assumption | omega) (by first | with_reducible assumption | omega) (hi5_1) (hsa_1) (by rw [hum]; exact hmn_1) (hc1_1) (hpw_1) (hw0_1) (by rw [hum]; exact hfit_1) (by rw [hum]; exact hmin_1) (hcE_1) (hmn_1) (hpw_2) (by rw [hum]; exact hfit_2) (by rw [hum]; exact hmin_2) (hcE_2) (fun j h1 h2 => by omega) (hlc) (hcl1) (hclm) (trivial) (by rw [hlq]; exact hlaw)) (csV_212 hts rfl rfl ⟨Nat.le_of_ble_eq_true rfl, Nat.le_of_ble_eq_true rfl⟩) (zPV2 (q0 := 0) (ci := 9) hPc hDc hK hXN rfl rfl) rfl rfl hl.1 rfl (lv_room (Nat.le_of_ble_eq_true rfl)) dX11_shift_385 ⟨show (0 + (c2 - cp)) ≤ c2 - cp by omega, show (0 + (8192 * (c2 - cp))) ≤ 8192 * (c2 - cp) by omega⟩) hS hFc hFc rfl (fun t H locs ht hB hk1 hS => ?_)
                                          refine ex12 hB (fun z8 b2 sh2 t9 S2 T2 P2 Q2 la1 lb1 lc1 ld1 hB0 => ?_)
                                          clear hB
                                          obtain ⟨p0, p1, p2, p3, p4, p5, p6, hP1, hD1⟩ := hB0
                                          rw [ht] at hP1
                                          obtain ⟨hP, hD⟩ := zn (W2 := [(om k0 (va_up a 28 b2) (upd (upd (upd (upd (upd (upd (upd (upd I0 14 0) 19 (nI (dn + 1))) 20 0) 26 (nI t9)) 31 z8) 35 (nI n)) 36 (kd f)) 41 (nI (psN (nnF st tn mn) (psN (nnF st tn (upd mn f (nI n))) w0 ft) ft))) J0), (oa (a 1) cI 201 kd), (oa (a 5) cI 201 st), (oa (a 7) cI 201 gb), (oa (a 10) cI 201 it), (oa (a 8) cI 201 pa), (oa (a 9) cI 201 pb), (oa (a 2) cI 201 rk), (oa (a 3) cI 201 wd), (oa (a 4) cI 201 tw), (oa (a 6) cZ 201 tn), (oa (a 11) cI 201 mn), (oa (a 12) cI 8040 cx1), (oa (a 13) cI 8040 cy1), (oa (a 27) cI 516 (upd (upd sa (dn - bs + 1) (nI (psN (nnF st tn (upd mn f (nI n))) w0 ft))) (dn + 1 - bs + 1) (nI (psN (nnF st tn mn) (psN (nnF st tn (upd mn f (nI n))) w0 ft) ft)))), (oa b2 cI (4096 * c2) sh2), (oa (a 16) cI 514 (upd wh (dn + 1) (nI 3))), (oa (a 17) cI 514 (upd of9 (dn + 1) (nI f))), (oa (a 18) cI 514 (upd we (dn + 1) (0 : Int32))), (oa (a 32) cI 8 S2), (oa (a 40) cI 6 T2), (oa (a 29) cI 42 P2), (oa (a 30) cI 42 Q2), (oa (a 33) cI 42 ox1), (oa (a 34) cI 42 oy1), (oa (a 37) cZ 201 mt1), (oa (a 38) cZ 201 wi1), (oa (a 39) cZ 8040 ins1), (oa (a 22) cI (64 * cl) la1), (oa (a 23) cI (64 * cl) lb1), (oa (a 24) cI (64 * cl) lc1), (oa (a 25) cI (64 * cl) ld1)]) hP hD hk1 hFc hP1 hD1 zl_196 [] zl_197 zl_196 (by decide +kernel) rfl rfl rfl rfl rfl
                                          clear hk1 hPc hDc hFc hP1 hD1 ht
                                          obtain ⟨hP9, hD9⟩ := zu_sub (wc := [(om k0 (va_up a 28 b2) (upd (upd (upd (upd (upd (upd (upd (upd I0 14 0) 19 (nI (dn + 1))) 20 0) 26 (nI t9)) 31 z8) 35 (nI n)) 36 (kd f)) 41 (nI (psN (nnF st tn mn) (psN (nnF st tn (upd mn f (nI n))) w0 ft) ft))) J0), (oa (a 1) cI 201 kd), (oa (a 5) cI 201 st), (oa (a 7) cI 201 gb), (oa (a 10) cI 201 it), (oa (a 8) cI 201 pa), (oa (a 9) cI 201 pb), (oa (a 2) cI 201 rk), (oa (a 3) cI 201 wd), (oa (a 4) cI 201 tw), (oa (a 6) cZ 201 tn), (oa (a 11) cI 201 mn), (oa (a 12) cI 8040 cx1), (oa (a 13) cI 8040 cy1), (oa (a 27) cI 516 (upd (upd sa (dn - bs + 1) (nI (psN (nnF st tn (upd mn f (nI n))) w0 ft))) (dn + 1 - bs + 1) (nI (psN (nnF st tn mn) (psN (nnF st tn (upd mn f (nI n))) w0 ft) ft)))), (oa b2 cI (4096 * c2) sh2), (oa (a 16) cI 514 (upd wh (dn + 1) (nI 3))), (oa (a 17) cI 514 (upd of9 (dn + 1) (nI f))), (oa (a 18) cI 514 (upd we (dn + 1) (0 : Int32))), (oa (a 32) cI 8 S2), (oa (a 40) cI 6 T2), (oa (a 29) cI 42 P2), (oa (a 30) cI 42 Q2), (oa (a 33) cI 42 ox1), (oa (a 34) cI 42 oy1), (oa (a 37) cZ 201 mt1), (oa (a 38) cZ 201 wi1), (oa (a 39) cZ 8040 ins1), (oa (a 22) cI (64 * cl) la1), (oa (a 23) cI (64 * cl) lb1), (oa (a 24) cI (64 * cl) lc1), (oa (a 25) cI (64 * cl) ld1)]) hP hD (true :: true :: true :: true :: true :: true :: true :: true :: true :: true :: true :: true :: true :: true :: true :: true :: true :: true :: true :: true :: true :: true :: true :: true :: true :: true :: true :: true :: true :: true :: true :: true :: []) rfl rfl
                                          have hE9 : ([(om k0 (va_up a 28 b2) (upd (upd (upd (upd (upd (upd (upd (upd I0 14 0) 19 (nI (dn + 1))) 20 0) 26 (nI t9)) 31 z8) 35 (nI n)) 36 (kd f)) 41 (nI (psN (nnF st tn mn) (psN (nnF st tn (upd mn f (nI n))) w0 ft) ft))) J0), (oa (a 1) cI 201 kd), (oa (a 5) cI 201 st), (oa (a 7) cI 201 gb), (oa (a 10) cI 201 it), (oa (a 8) cI 201 pa), (oa (a 9) cI 201 pb), (oa (a 2) cI 201 rk), (oa (a 3) cI 201 wd), (oa (a 4) cI 201 tw), (oa (a 6) cZ 201 tn), (oa (a 11) cI 201 mn), (oa (a 12) cI 8040 cx1), (oa (a 13) cI 8040 cy1), (oa (a 27) cI 516 (upd (upd sa (dn - bs + 1) (nI (psN (nnF st tn (upd mn f (nI n))) w0 ft))) (dn + 1 - bs + 1) (nI (psN (nnF st tn mn) (psN (nnF st tn (upd mn f (nI n))) w0 ft) ft)))), (oa b2 cI (4096 * c2) sh2), (oa (a 16) cI 514 (upd wh (dn + 1) (nI 3))), (oa (a 17) cI 514 (upd of9 (dn + 1) (nI f))), (oa (a 18) cI 514 (upd we (dn + 1) (0 : Int32))), (oa (a 32) cI 8 S2), (oa (a 40) cI 6 T2), (oa (a 29) cI 42 P2), (oa (a 30) cI 42 Q2), (oa (a 33) cI 42 ox1), (oa (a 34) cI 42 oy1), (oa (a 37) cZ 201 mt1), (oa (a 38) cZ 201 wi1), (oa (a 39) cZ 8040 ins1), (oa (a 22) cI (64 * cl) la1), (oa (a 23) cI (64 * cl) lb1), (oa (a 24) cI (64 * cl) lc1), (oa (a 25) cI (64 * cl) ld1)] : va_W) = [(om k0 (va_up a 28 b2) (upd (upd (upd (upd (upd (upd (upd (upd I0 14 0) 19 (nI (dn + 1))) 20 0) 26 (nI t9)) 31 z8) 35 (nI n)) 36 (kd f)) 41 (nI (psN (nnF st tn mn) (psN (nnF st tn mn) w0 ft) ft))) J0), (oa (a 1) cI 201 kd), (oa (a 5) cI 201 st), (oa (a 7) cI 201 gb), (oa (a 10) cI 201 it), (oa (a 8) cI 201 pa), (oa (a 9) cI 201 pb), (oa (a 2) cI 201 rk), (oa (a 3) cI 201 wd), (oa (a 4) cI 201 tw), (oa (a 6) cZ 201 tn), (oa (a 11) cI 201 mn), (oa (a 12) cI 8040 (fgX f n (fun i => shV (kd f).toInt n kk dx rr (cF40 cx f) i) cx)), (oa (a 13) cI 8040 (fgX f n (fun i => shV (kd f).toInt n kk dy rr (cF40 cy f) i) cy)), (oa (a 27) cI 516 (upd (upd sa (dn - bs + 1) (nI (psN (nnF st tn mn) w0 ft))) (dn + 1 - bs + 1) (nI (psN (nnF st tn mn) (psN (nnF st tn mn) w0 ft) ft)))), (oa b2 cI (4096 * c2) sh2), (oa (a 16) cI 514 (upd wh (dn + 1) (nI 3))), (oa (a 17) cI 514 (upd of9 (dn + 1) (nI f))), (oa (a 18) cI 514 (upd we (dn + 1) (0 : Int32))), (oa (a 32) cI 8 S2), (oa (a 40) cI 6 T2), (oa (a 29) cI 42 P2), (oa (a 30) cI 42 Q2), (oa (a 33) cI 42 ox1), (oa (a 34) cI 42 oy1), (oa (a 37) cZ 201 mt1), (oa (a 38) cZ 201 wi1), (oa (a 39) cZ 8040 ins1), (oa (a 22) cI (64 * cl) la1), (oa (a 23) cI (64 * cl) lb1), (oa (a 24) cI (64 * cl) lc1), (oa (a 25) cI (64 * cl) ld1)] := by rw [hum, hcx, hcy]
                                          rw [hE9] at hP9 hD9
                                          refine W.widen (k := c2 - cp) (n := 8192 * (c2 - cp)) (by omega) (by omega) ?_
                                          rw [hQ9]
                                          exact W.zret (ty := .boolean) (v := 1) hx hb hr (rfl) (fun t ht hW => ⟨⟨rfl, z8, b2, sh2, t9, S2, T2, P2, Q2, ox1, oy1, mt1, wi1, ins1, la1, lb1, lc1, ld1, (p0), (p1), (by have h9 := p2; rw [hum, huk, hbx, hby] at h9; exact h9), (by have h9 := p3; rw [hum] at h9; exact h9), (by have h9 := p4; rw [hum, hcx, hcy] at h9; exact h9), (p5), (p6), by rw [ht]; exact hP9, hD9⟩, hS.F ht⟩) hS.2.2 dX11_shift_388
                                        · have c_22 : ¬ (mvd n (fun i => shV (kd f).toInt n kk dx rr (cF40 cx f) i) (fun i => shV (kd f).toInt n kk dy rr (cF40 cy f) i) (cF40 cx f) (cF40 cy f)) := zp_0 c_22
                                          exfalso; exact absurd hmv (by first | with_reducible assumption | assumption)
                                      · have c_19 : ((k : Nat) : Int) < ((n : Nat) : Int) := zc_nle (nI_toInt b9_21) (nI_toInt b9_20) c_19
                                        have hk9 : k < n := (by omega)
                                        have hwb := wyR_b (kf := (kd f).toInt) hkk hk9
                                        refine lv_aload_n hx hb dX11_shift_212 rfl (lv_at hl 5 rfl) ?_
                                        refine lv_iload_n hx hb dX11_shift_213 rfl (lv_at hl 6 rfl) ?_
                                        refine lv_iload_n hx hb dX11_shift_214 rfl (lv_at hl 7 rfl) ?_
                                        refine lv_iload hx hb dX11_shift_215 (lv_at hl 0 rfl) ?_
                                        obtain ⟨hPc, hDc, hFc, hI1⟩ := zi_sub (wc := [_, _]) hP hD hS hA [0, 1] rfl rfl
                                        refine zcall (st1 := [.int (nI (wyR (kd f).toInt n kk k))]) (va_runV (As := [.int (nI f), .int (nI kk), .int (nI k)]) (rest := []) ⟨hx, hb, hml, hown, hts⟩ (k_M_wayOf l dC dI cI cZ cF H.size k0 a (upd (upd (upd I0 26 (nI ln)) 35 (nI n)) 36 (kd f)) J0 f n kk k kd (by first | with_reducible assumption | omega) (by first | with_reducible assumption | omega) (hkk) (by first | with_reducible assumption | omega)) (csV_216 hts rfl rfl ⟨Nat.le_of_ble_eq_true rfl, Nat.le_of_ble_eq_true rfl⟩) (zPV2 (q0 := 0) (ci := 9) hPc hDc hK hXN rfl rfl) rfl rfl hl.1 rfl (lv_room (Nat.le_of_ble_eq_true rfl)) dX11_shift_217 ⟨Nat.zero_le _, Nat.zero_le _⟩) hS hFc hFc rfl (fun t H locs ht hB hk1 hS => ?_)
                                        obtain ⟨hP1, hD1⟩ := hB
                                        rw [ht] at hP1
                                        replace hP := z0 hP hD hk1 hP1 hI1
                                        clear hk1 hPc hDc hFc hP1 hD1 ht hI1
                                        refine lv_istore (lv' := [(11, .int (nI (wyR (kd f).toInt n kk k))), (10, .int (nI k)), (9, .int 0), (7, .int 0), (8, .int 0), (6, .int 0), (0, .ref k0), (1, .int (nI f)), (2, .int (nI kk)), (3, .int dx), (4, .int dy), (5, .int (nI rr))]) hx hb dX11_shift_220 hl (Nat.le_of_ble_eq_true rfl) rfl (fun ls hl => ?_)
                                        refine lv_iload hx hb dX11_shift_222 (lv_at hl 2 rfl) ?_
                                        refine lv_if_ne (tgt := 262) hx hb dX11_shift_224 rfl (fun c_23 => ?_) (fun c_23 => ?_)
                                        · exact absurd (by decide) c_23
                                        · refine lv_iload hx hb dX11_shift_227 (lv_at hl 0 rfl) ?_
                                          refine lv_iload hx hb dX11_shift_229 (lv_at hl 11 rfl) ?_
                                          have b9_25 : zlt ((wyR (kd f).toInt n kk k)) := show (wyR (kd f).toInt n kk k) < 2147483648 by omega
                                          refine lv_icmp_gt (tgt := 258) hx hb dX11_shift_231 rfl (fun c_24 => ?_) (fun c_24 => ?_)
                                          · have c_24 : ((rr : Nat) : Int) < ((wyR (kd f).toInt n kk k : Nat) : Int) := zc_lt (nI_toInt b9_11) (nI_toInt b9_25) c_24
                                            refine lv_iconst (v := 1) hx hb dX11_shift_258 rfl ?_
                                            refine lv_goto (tgt := 263) hx hb dX11_shift_259 rfl ?_
                                            refine lv_istore (lv' := [(12, .int 1), (11, .int (nI (wyR (kd f).toInt n kk k))), (10, .int (nI k)), (9, .int 0), (7, .int 0), (8, .int 0), (6, .int 0), (0, .ref k0), (1, .int (nI f)), (2, .int (nI kk)), (3, .int dx), (4, .int dy), (5, .int (nI rr))]) hx hb dX11_shift_263 hl (Nat.le_of_ble_eq_true rfl) rfl (fun ls hl => ?_)
                                            refine lv_iload hx hb dX11_shift_265 (lv_at hl 0 rfl) ?_
                                            refine lv_if_eq (tgt := 273) hx hb dX11_shift_267 rfl (fun c_26 => ?_) (fun c_26 => ?_)
                                            · exact absurd c_26 (by decide)
                                            · refine lv_goto (tgt := 361) hx hb dX11_shift_270 rfl ?_
                                              refine lv_iinc (v := nI (k + 1)) (lv' := [(10, .int (nI (k + 1))), (12, .int 1), (11, .int (nI (wyR (kd f).toInt n kk k))), (9, .int 0), (7, .int 0), (8, .int 0), (6, .int 0), (0, .ref k0), (1, .int (nI f)), (2, .int (nI kk)), (3, .int dx), (4, .int dy), (5, .int (nI rr))]) hx hb dX11_shift_361 hl (k := 2) rfl (nI_add k 1) (Nat.le_of_ble_eq_true rfl) rfl (fun ls hl => ?_)
                                              refine lv_goto (tgt := 203) hx hb dX11_shift_364 rfl ?_
                                              exact ih_203 (k + 1) cx1 cy1 H locs ls (by first | with_reducible assumption | omega) (by first | with_reducible assumption | omega) (by first | exact fgX_u hcx (shV_f (by first | with_reducible assumption | assumption)) | exact fgX_k hcx (shV_t (X := cF40 cx f) (by first | exact Or.inl (by first | with_reducible assumption | omega) | exact Or.inr ⟨by assumption, by omega⟩))) (by first | exact fgX_u hcy (shV_f (by first | with_reducible assumption | assumption)) | exact fgX_k hcy (shV_t (X := cF40 cy f) (by first | exact Or.inl (by first | with_reducible assumption | omega) | exact Or.inr ⟨by assumption, by omega⟩))) hP hD hS (lv_sub hl [0, 3, 4, 5, 6, 7, 8, 9, 10, 11, 12] rfl)
                                          · have c_24 : ((wyR (kd f).toInt n kk k : Nat) : Int) ≤ ((rr : Nat) : Int) := zc_nlt (nI_toInt b9_11) (nI_toInt b9_25) c_24
                                            refine lv_aload_n hx hb dX11_shift_234 rfl (lv_at hl 6 rfl) ?_
                                            refine lv_iload_n hx hb dX11_shift_235 rfl (lv_at hl 7 rfl) ?_
                                            obtain ⟨hPc, hDc, hFc, hI1⟩ := zi_sub (wc := [_, _]) hP hD hS hA [0, 1] rfl rfl
                                            refine zcall (st1 := [.int (pI (5 ≤ (kd f).toInt))]) (va_runV (As := [.int (nI f)]) (rest := []) ⟨hx, hb, hml, hown, hts⟩ (k_M_isRing l dC dI cI cZ cF H.size k0 a (upd (upd (upd I0 26 (nI ln)) 35 (nI n)) 36 (kd f)) J0 f kd (by first | with_reducible assumption | omega)) (csV_165 hts rfl rfl ⟨Nat.le_of_ble_eq_true rfl, Nat.le_of_ble_eq_true rfl⟩) (zPV2 (q0 := 0) (ci := 9) hPc hDc hK hXN rfl rfl) rfl rfl hl.1 rfl (lv_room (Nat.le_of_ble_eq_true rfl)) dX11_shift_236 ⟨Nat.zero_le _, Nat.zero_le _⟩) hS hFc hFc rfl (fun t H locs ht hB hk1 hS => ?_)
                                            obtain ⟨hP1, hD1⟩ := hB
                                            rw [ht] at hP1
                                            replace hP := z0 hP hD hk1 hP1 hI1
                                            clear hk1 hPc hDc hFc hP1 hD1 ht hI1
                                            refine lv_if_ne (tgt := 262) hx hb dX11_shift_239 rfl (fun c_27 => ?_) (fun c_27 => ?_)
                                            · have c_27 : 5 ≤ (kd f).toInt := zp_1 c_27
                                              refine lv_iconst (v := 0) hx hb dX11_shift_262 rfl ?_
                                              refine lv_istore (lv' := [(12, .int 0), (11, .int (nI (wyR (kd f).toInt n kk k))), (10, .int (nI k)), (9, .int 0), (7, .int 0), (8, .int 0), (6, .int 0), (0, .ref k0), (1, .int (nI f)), (2, .int (nI kk)), (3, .int dx), (4, .int dy), (5, .int (nI rr))]) hx hb dX11_shift_263 hl (Nat.le_of_ble_eq_true rfl) rfl (fun ls hl => ?_)
                                              refine lv_iload hx hb dX11_shift_265 (lv_at hl 0 rfl) ?_
                                              refine lv_if_eq (tgt := 273) hx hb dX11_shift_267 rfl (fun c_28 => ?_) (fun c_28 => ?_)
                                              · have hst9 : ¬ (rr < wyR (kd f).toInt n kk k ∨ (¬ 5 ≤ (kd f).toInt ∧ (k = 0 ∨ k = n - 1))) := (by first | exact fun h => h.elim (fun h => by omega) (fun h => absurd (by first | with_reducible assumption | assumption) h.1) | exact fun h => h.elim (fun h => by omega) (fun h => by omega))
                                                have hwy : wyR (kd f).toInt n kk k ≤ rr := (by have := hst9; omega)
                                                refine lv_aload_n hx hb dX11_shift_273 rfl (lv_at hl 7 rfl) ?_
                                                refine va_get (D := (dC, dI)) (ci := 9) (v := .ref (a 12)) (C := RX11) (T := TX11) (N := 55) hx hb hts inX11 hown hK hP 0 rfl rfl 12 (Nat.le_of_ble_eq_true rfl) (hts _ mw_1171) (fun _ h9 => h9) rfl dX11_shift_274 ?_
                                                refine lv_bipush (v := 40) hx hb dX11_shift_277 rfl ?_
                                                refine lv_iload_n hx hb dX11_shift_279 rfl (lv_at hl 8 rfl) ?_
                                                refine lv_imul hx hb dX11_shift_280 ?_
                                                refine zz_i (v := nI (40 * f)) (pk_mul 40 f) ?_
                                                refine lv_iload hx hb dX11_shift_281 (lv_at hl 2 rfl) ?_
                                                refine lv_iadd hx hb dX11_shift_283 ?_
                                                refine zz_i (v := nI (40 * f + k)) (nI_add (40 * f) k) ?_
                                                refine lv_aload_n hx hb dX11_shift_284 rfl (lv_at hl 7 rfl) ?_
                                                refine va_get (D := (dC, dI)) (ci := 9) (v := .ref (a 33)) (C := RX11) (T := TX11) (N := 55) hx hb hts inX11 hown hK hP 0 rfl rfl 33 (Nat.le_of_ble_eq_true rfl) (hts _ mw_1192) (fun _ h9 => h9) rfl dX11_shift_285 ?_
                                                refine lv_iload hx hb dX11_shift_288 (lv_at hl 2 rfl) ?_
                                                have b9_29 : k < 42 := by omega
                                                refine z_iald hx hb hK hP 23 0 rfl rfl (e := k) rfl b9_29 (Nat.le_of_ble_eq_true rfl) dX11_shift_290 ?_
                                                refine zz_i (v := cF40 cx f k) ((hox _ hk9).1) ?_
                                                refine lv_iload hx hb dX11_shift_291 (lv_at hl 3 rfl) ?_
                                                refine lv_if_eq (tgt := 300) hx hb dX11_shift_293 rfl (fun c_30 => ?_) (fun c_30 => ?_)
                                                · refine lv_iload_n hx hb dX11_shift_300 rfl (lv_at hl 10 rfl) ?_
                                                  refine lv_iload hx hb dX11_shift_301 (lv_at hl 12 rfl) ?_
                                                  refine lv_iconst (v := 1) hx hb dX11_shift_303 rfl ?_
                                                  refine lv_iadd hx hb dX11_shift_304 ?_
                                                  refine zz_i (v := nI (rr + 1)) (nI_add rr 1) ?_
                                                  refine lv_iload hx hb dX11_shift_305 (lv_at hl 1 rfl) ?_
                                                  refine lv_isub hx hb dX11_shift_307 ?_
                                                  refine zz_i (v := nI ((rr + 1) - (wyR (kd f).toInt n kk k))) (pk_sub (a := rr + 1) (b := wyR (kd f).toInt n kk k) (by omega)) ?_
                                                  refine lv_imul hx hb dX11_shift_308 ?_
                                                  refine lv_iload hx hb dX11_shift_309 (lv_at hl 12 rfl) ?_
                                                  refine lv_iconst (v := 1) hx hb dX11_shift_311 rfl ?_
                                                  refine lv_iadd hx hb dX11_shift_312 ?_
                                                  refine zz_i (v := nI (rr + 1)) (nI_add rr 1) ?_
                                                  refine lv_idiv hx hb dX11_shift_313 (nI_ne0 (by omega) (by omega)) ?_
                                                  refine lv_iadd hx hb dX11_shift_314 ?_
                                                  have b9_31 : 40 * f + k < 8040 := by omega
                                                  refine z_iast hx hb hK hP hD hS 12 0 rfl rfl (e := 40 * f + k) (x := (cF40 cx f k) + ((dx * (nI ((rr + 1) - (wyR (kd f).toInt n kk k)))) / (nI (rr + 1)))) rfl b9_31 (Nat.le_of_ble_eq_true rfl) dX11_shift_315 (fun H locs hP hD hS => ?_)
                                                  obtain ⟨hP, hD⟩ := zre (W2 := [_, _, _, _, _, _, _, _, _, _, _, _, (oa (a 12) cI 8040 (upd cx1 (40 * f + k) ((cF40 cx f k) + ((dx * (nI ((rr + 1) - (wyR (kd f).toInt n kk k)))) / (nI (rr + 1)))))), _, _, _, _, _, _, _, _, _, _, _, _, _, _, _, _, _, _, _]) hP hD rfl
                                                  refine lv_aload_n hx hb dX11_shift_316 rfl (lv_at hl 7 rfl) ?_
                                                  refine va_get (D := (dC, dI)) (ci := 9) (v := .ref (a 13)) (C := RX11) (T := TX11) (N := 55) hx hb hts inX11 hown hK hP 0 rfl rfl 13 (Nat.le_of_ble_eq_true rfl) (hts _ mw_1172) (fun _ h9 => h9) rfl dX11_shift_317 ?_
                                                  refine lv_bipush (v := 40) hx hb dX11_shift_320 rfl ?_
                                                  refine lv_iload_n hx hb dX11_shift_322 rfl (lv_at hl 8 rfl) ?_
                                                  refine lv_imul hx hb dX11_shift_323 ?_
                                                  refine zz_i (v := nI (40 * f)) (pk_mul 40 f) ?_
                                                  refine lv_iload hx hb dX11_shift_324 (lv_at hl 2 rfl) ?_
                                                  refine lv_iadd hx hb dX11_shift_326 ?_
                                                  refine zz_i (v := nI (40 * f + k)) (nI_add (40 * f) k) ?_
                                                  refine lv_aload_n hx hb dX11_shift_327 rfl (lv_at hl 7 rfl) ?_
                                                  refine va_get (D := (dC, dI)) (ci := 9) (v := .ref (a 34)) (C := RX11) (T := TX11) (N := 55) hx hb hts inX11 hown hK hP 0 rfl rfl 34 (Nat.le_of_ble_eq_true rfl) (hts _ mw_1193) (fun _ h9 => h9) rfl dX11_shift_328 ?_
                                                  refine lv_iload hx hb dX11_shift_331 (lv_at hl 2 rfl) ?_
                                                  refine z_iald hx hb hK hP 24 0 rfl rfl (e := k) rfl b9_29 (Nat.le_of_ble_eq_true rfl) dX11_shift_333 ?_
                                                  refine zz_i (v := cF40 cy f k) ((hox _ hk9).2) ?_
                                                  refine lv_iload hx hb dX11_shift_334 (lv_at hl 3 rfl) ?_
                                                  refine lv_if_eq (tgt := 344) hx hb dX11_shift_336 rfl (fun c_32 => ?_) (fun c_32 => ?_)
                                                  · refine lv_iload hx hb dX11_shift_344 (lv_at hl 11 rfl) ?_
                                                    refine lv_iload hx hb dX11_shift_346 (lv_at hl 12 rfl) ?_
                                                    refine lv_iconst (v := 1) hx hb dX11_shift_348 rfl ?_
                                                    refine lv_iadd hx hb dX11_shift_349 ?_
                                                    refine zz_i (v := nI (rr + 1)) (nI_add rr 1) ?_
                                                    refine lv_iload hx hb dX11_shift_350 (lv_at hl 1 rfl) ?_
                                                    refine lv_isub hx hb dX11_shift_352 ?_
                                                    refine zz_i (v := nI ((rr + 1) - (wyR (kd f).toInt n kk k))) (pk_sub (a := rr + 1) (b := wyR (kd f).toInt n kk k) (by omega)) ?_
                                                    refine lv_imul hx hb dX11_shift_353 ?_
                                                    refine lv_iload hx hb dX11_shift_354 (lv_at hl 12 rfl) ?_
                                                    refine lv_iconst (v := 1) hx hb dX11_shift_356 rfl ?_
                                                    refine lv_iadd hx hb dX11_shift_357 ?_
                                                    refine zz_i (v := nI (rr + 1)) (nI_add rr 1) ?_
                                                    refine lv_idiv hx hb dX11_shift_358 (nI_ne0 (by omega) (by omega)) ?_
                                                    refine lv_iadd hx hb dX11_shift_359 ?_
                                                    refine z_iast hx hb hK hP hD hS 13 0 rfl rfl (e := 40 * f + k) (x := (cF40 cy f k) + ((dy * (nI ((rr + 1) - (wyR (kd f).toInt n kk k)))) / (nI (rr + 1)))) rfl b9_31 (Nat.le_of_ble_eq_true rfl) dX11_shift_360 (fun H locs hP hD hS => ?_)
                                                    obtain ⟨hP, hD⟩ := zre (W2 := [_, _, _, _, _, _, _, _, _, _, _, _, _, (oa (a 13) cI 8040 (upd cy1 (40 * f + k) ((cF40 cy f k) + ((dy * (nI ((rr + 1) - (wyR (kd f).toInt n kk k)))) / (nI (rr + 1)))))), _, _, _, _, _, _, _, _, _, _, _, _, _, _, _, _, _, _]) hP hD rfl
                                                    refine lv_iinc (v := nI (k + 1)) (lv' := [(10, .int (nI (k + 1))), (12, .int 0), (11, .int (nI (wyR (kd f).toInt n kk k))), (9, .int 0), (7, .int 0), (8, .int 0), (6, .int 0), (0, .ref k0), (1, .int (nI f)), (2, .int (nI kk)), (3, .int dx), (4, .int dy), (5, .int (nI rr))]) hx hb dX11_shift_361 hl (k := 2) rfl (nI_add k 1) (Nat.le_of_ble_eq_true rfl) rfl (fun ls hl => ?_)
                                                    refine lv_goto (tgt := 203) hx hb dX11_shift_364 rfl ?_
                                                    exact ih_203 (k + 1) (upd cx1 (40 * f + k) ((cF40 cx f k) + ((dx * (nI ((rr + 1) - (wyR (kd f).toInt n kk k)))) / (nI (rr + 1))))) (upd cy1 (40 * f + k) ((cF40 cy f k) + ((dy * (nI ((rr + 1) - (wyR (kd f).toInt n kk k)))) / (nI (rr + 1))))) H locs ls (by first | with_reducible assumption | omega) (by first | with_reducible assumption | omega) (by first | exact fgX_u hcx (shV_f (by first | with_reducible assumption | assumption)) | exact fgX_k hcx (shV_t (X := cF40 cx f) (by first | exact Or.inl (by first | with_reducible assumption | omega) | exact Or.inr ⟨by assumption, by omega⟩))) (by first | exact fgX_u hcy (shV_f (by first | with_reducible assumption | assumption)) | exact fgX_k hcy (shV_t (X := cF40 cy f) (by first | exact Or.inl (by first | with_reducible assumption | omega) | exact Or.inr ⟨by assumption, by omega⟩))) hP hD hS (lv_sub hl [0, 3, 4, 5, 6, 7, 8, 9, 10, 11, 12] rfl)
                                                  · exact absurd (by decide) c_32
                                                · exact absurd (by decide) c_30
                                              · exact absurd (by decide) c_28
                                            · have c_27 : ¬ (5 ≤ (kd f).toInt) := zp_0 c_27
                                              refine lv_iload hx hb dX11_shift_242 (lv_at hl 1 rfl) ?_
                                              refine lv_if_eq (tgt := 258) hx hb dX11_shift_244 rfl (fun c_33 => ?_) (fun c_33 => ?_)
                                              · have c_33 : ((k : Nat) : Int) = 0 := zc_eq (nI_toInt b9_20) rfl c_33
                                                refine lv_iconst (v := 1) hx hb dX11_shift_258 rfl ?_
                                                refine lv_goto (tgt := 263) hx hb dX11_shift_259 rfl ?_
                                                refine lv_istore (lv' := [(12, .int 1), (11, .int (nI (wyR (kd f).toInt n kk k))), (10, .int (nI k)), (9, .int 0), (7, .int 0), (8, .int 0), (6, .int 0), (0, .ref k0), (1, .int (nI f)), (2, .int (nI kk)), (3, .int dx), (4, .int dy), (5, .int (nI rr))]) hx hb dX11_shift_263 hl (Nat.le_of_ble_eq_true rfl) rfl (fun ls hl => ?_)
                                                refine lv_iload hx hb dX11_shift_265 (lv_at hl 0 rfl) ?_
                                                refine lv_if_eq (tgt := 273) hx hb dX11_shift_267 rfl (fun c_34 => ?_) (fun c_34 => ?_)
                                                · exact absurd c_34 (by decide)
                                                · refine lv_goto (tgt := 361) hx hb dX11_shift_270 rfl ?_
                                                  refine lv_iinc (v := nI (k + 1)) (lv' := [(10, .int (nI (k + 1))), (12, .int 1), (11, .int (nI (wyR (kd f).toInt n kk k))), (9, .int 0), (7, .int 0), (8, .int 0), (6, .int 0), (0, .ref k0), (1, .int (nI f)), (2, .int (nI kk)), (3, .int dx), (4, .int dy), (5, .int (nI rr))]) hx hb dX11_shift_361 hl (k := 2) rfl (nI_add k 1) (Nat.le_of_ble_eq_true rfl) rfl (fun ls hl => ?_)
                                                  refine lv_goto (tgt := 203) hx hb dX11_shift_364 rfl ?_
                                                  exact ih_203 (k + 1) cx1 cy1 H locs ls (by first | with_reducible assumption | omega) (by first | with_reducible assumption | omega) (by first | exact fgX_u hcx (shV_f (by first | with_reducible assumption | assumption)) | exact fgX_k hcx (shV_t (X := cF40 cx f) (by first | exact Or.inl (by first | with_reducible assumption | omega) | exact Or.inr ⟨by assumption, by omega⟩))) (by first | exact fgX_u hcy (shV_f (by first | with_reducible assumption | assumption)) | exact fgX_k hcy (shV_t (X := cF40 cy f) (by first | exact Or.inl (by first | with_reducible assumption | omega) | exact Or.inr ⟨by assumption, by omega⟩))) hP hD hS (lv_sub hl [0, 3, 4, 5, 6, 7, 8, 9, 10, 11, 12] rfl)
                                              · have c_33 : ¬ ((k : Nat) : Int) = 0 := zc_ne (nI_toInt b9_20) rfl c_33
                                                refine lv_iload hx hb dX11_shift_247 (lv_at hl 1 rfl) ?_
                                                refine lv_aload_n hx hb dX11_shift_249 rfl (lv_at hl 6 rfl) ?_
                                                refine va_get (D := (dC, dI)) (ci := 9) (v := .int (nI n)) (C := RX11) (T := TX11) (N := 55) hx hb hts inX11 hown hK hP 0 rfl rfl 35 (Nat.le_of_ble_eq_true rfl) (hts _ mw_1194) (fun _ h9 => h9) rfl dX11_shift_250 ?_
                                                refine lv_iconst (v := 1) hx hb dX11_shift_253 rfl ?_
                                                refine lv_isub hx hb dX11_shift_254 ?_
                                                refine zz_i (v := nI (n - 1)) (pk_sub (a := n) (b := 1) (by omega)) ?_
                                                have b9_36 : zlt ((n - 1)) := show (n - 1) < 2147483648 by omega
                                                refine lv_icmp_ne (tgt := 262) hx hb dX11_shift_255 rfl (fun c_35 => ?_) (fun c_35 => ?_)
                                                · have c_35 : ¬ ((k : Nat) : Int) = ((n - 1 : Nat) : Int) := zc_ne (nI_toInt b9_20) (nI_toInt b9_36) c_35
                                                  refine lv_iconst (v := 0) hx hb dX11_shift_262 rfl ?_
                                                  refine lv_istore (lv' := [(12, .int 0), (11, .int (nI (wyR (kd f).toInt n kk k))), (10, .int (nI k)), (9, .int 0), (7, .int 0), (8, .int 0), (6, .int 0), (0, .ref k0), (1, .int (nI f)), (2, .int (nI kk)), (3, .int dx), (4, .int dy), (5, .int (nI rr))]) hx hb dX11_shift_263 hl (Nat.le_of_ble_eq_true rfl) rfl (fun ls hl => ?_)
                                                  refine lv_iload hx hb dX11_shift_265 (lv_at hl 0 rfl) ?_
                                                  refine lv_if_eq (tgt := 273) hx hb dX11_shift_267 rfl (fun c_37 => ?_) (fun c_37 => ?_)
                                                  · have hst9 : ¬ (rr < wyR (kd f).toInt n kk k ∨ (¬ 5 ≤ (kd f).toInt ∧ (k = 0 ∨ k = n - 1))) := (by first | exact fun h => h.elim (fun h => by omega) (fun h => absurd (by first | with_reducible assumption | assumption) h.1) | exact fun h => h.elim (fun h => by omega) (fun h => by omega))
                                                    have hwy : wyR (kd f).toInt n kk k ≤ rr := (by have := hst9; omega)
                                                    refine lv_aload_n hx hb dX11_shift_273 rfl (lv_at hl 7 rfl) ?_
                                                    refine va_get (D := (dC, dI)) (ci := 9) (v := .ref (a 12)) (C := RX11) (T := TX11) (N := 55) hx hb hts inX11 hown hK hP 0 rfl rfl 12 (Nat.le_of_ble_eq_true rfl) (hts _ mw_1171) (fun _ h9 => h9) rfl dX11_shift_274 ?_
                                                    refine lv_bipush (v := 40) hx hb dX11_shift_277 rfl ?_
                                                    refine lv_iload_n hx hb dX11_shift_279 rfl (lv_at hl 8 rfl) ?_
                                                    refine lv_imul hx hb dX11_shift_280 ?_
                                                    refine zz_i (v := nI (40 * f)) (pk_mul 40 f) ?_
                                                    refine lv_iload hx hb dX11_shift_281 (lv_at hl 2 rfl) ?_
                                                    refine lv_iadd hx hb dX11_shift_283 ?_
                                                    refine zz_i (v := nI (40 * f + k)) (nI_add (40 * f) k) ?_
                                                    refine lv_aload_n hx hb dX11_shift_284 rfl (lv_at hl 7 rfl) ?_
                                                    refine va_get (D := (dC, dI)) (ci := 9) (v := .ref (a 33)) (C := RX11) (T := TX11) (N := 55) hx hb hts inX11 hown hK hP 0 rfl rfl 33 (Nat.le_of_ble_eq_true rfl) (hts _ mw_1192) (fun _ h9 => h9) rfl dX11_shift_285 ?_
                                                    refine lv_iload hx hb dX11_shift_288 (lv_at hl 2 rfl) ?_
                                                    have b9_38 : k < 42 := by omega
                                                    refine z_iald hx hb hK hP 23 0 rfl rfl (e := k) rfl b9_38 (Nat.le_of_ble_eq_true rfl) dX11_shift_290 ?_
                                                    refine zz_i (v := cF40 cx f k) ((hox _ hk9).1) ?_
                                                    refine lv_iload hx hb dX11_shift_291 (lv_at hl 3 rfl) ?_
                                                    refine lv_if_eq (tgt := 300) hx hb dX11_shift_293 rfl (fun c_39 => ?_) (fun c_39 => ?_)
                                                    · refine lv_iload_n hx hb dX11_shift_300 rfl (lv_at hl 10 rfl) ?_
                                                      refine lv_iload hx hb dX11_shift_301 (lv_at hl 12 rfl) ?_
                                                      refine lv_iconst (v := 1) hx hb dX11_shift_303 rfl ?_
                                                      refine lv_iadd hx hb dX11_shift_304 ?_
                                                      refine zz_i (v := nI (rr + 1)) (nI_add rr 1) ?_
                                                      refine lv_iload hx hb dX11_shift_305 (lv_at hl 1 rfl) ?_
                                                      refine lv_isub hx hb dX11_shift_307 ?_
                                                      refine zz_i (v := nI ((rr + 1) - (wyR (kd f).toInt n kk k))) (pk_sub (a := rr + 1) (b := wyR (kd f).toInt n kk k) (by omega)) ?_
                                                      refine lv_imul hx hb dX11_shift_308 ?_
                                                      refine lv_iload hx hb dX11_shift_309 (lv_at hl 12 rfl) ?_
                                                      refine lv_iconst (v := 1) hx hb dX11_shift_311 rfl ?_
                                                      refine lv_iadd hx hb dX11_shift_312 ?_
                                                      refine zz_i (v := nI (rr + 1)) (nI_add rr 1) ?_
                                                      refine lv_idiv hx hb dX11_shift_313 (nI_ne0 (by omega) (by omega)) ?_
                                                      refine lv_iadd hx hb dX11_shift_314 ?_
                                                      have b9_40 : 40 * f + k < 8040 := by omega
                                                      refine z_iast hx hb hK hP hD hS 12 0 rfl rfl (e := 40 * f + k) (x := (cF40 cx f k) + ((dx * (nI ((rr + 1) - (wyR (kd f).toInt n kk k)))) / (nI (rr + 1)))) rfl b9_40 (Nat.le_of_ble_eq_true rfl) dX11_shift_315 (fun H locs hP hD hS => ?_)
                                                      obtain ⟨hP, hD⟩ := zre (W2 := [_, _, _, _, _, _, _, _, _, _, _, _, (oa (a 12) cI 8040 (upd cx1 (40 * f + k) ((cF40 cx f k) + ((dx * (nI ((rr + 1) - (wyR (kd f).toInt n kk k)))) / (nI (rr + 1)))))), _, _, _, _, _, _, _, _, _, _, _, _, _, _, _, _, _, _, _]) hP hD rfl
                                                      refine lv_aload_n hx hb dX11_shift_316 rfl (lv_at hl 7 rfl) ?_
                                                      refine va_get (D := (dC, dI)) (ci := 9) (v := .ref (a 13)) (C := RX11) (T := TX11) (N := 55) hx hb hts inX11 hown hK hP 0 rfl rfl 13 (Nat.le_of_ble_eq_true rfl) (hts _ mw_1172) (fun _ h9 => h9) rfl dX11_shift_317 ?_
                                                      refine lv_bipush (v := 40) hx hb dX11_shift_320 rfl ?_
                                                      refine lv_iload_n hx hb dX11_shift_322 rfl (lv_at hl 8 rfl) ?_
                                                      refine lv_imul hx hb dX11_shift_323 ?_
                                                      refine zz_i (v := nI (40 * f)) (pk_mul 40 f) ?_
                                                      refine lv_iload hx hb dX11_shift_324 (lv_at hl 2 rfl) ?_
                                                      refine lv_iadd hx hb dX11_shift_326 ?_
                                                      refine zz_i (v := nI (40 * f + k)) (nI_add (40 * f) k) ?_
                                                      refine lv_aload_n hx hb dX11_shift_327 rfl (lv_at hl 7 rfl) ?_
                                                      refine va_get (D := (dC, dI)) (ci := 9) (v := .ref (a 34)) (C := RX11) (T := TX11) (N := 55) hx hb hts inX11 hown hK hP 0 rfl rfl 34 (Nat.le_of_ble_eq_true rfl) (hts _ mw_1193) (fun _ h9 => h9) rfl dX11_shift_328 ?_
                                                      refine lv_iload hx hb dX11_shift_331 (lv_at hl 2 rfl) ?_
                                                      refine z_iald hx hb hK hP 24 0 rfl rfl (e := k) rfl b9_38 (Nat.le_of_ble_eq_true rfl) dX11_shift_333 ?_
                                                      refine zz_i (v := cF40 cy f k) ((hox _ hk9).2) ?_
                                                      refine lv_iload hx hb dX11_shift_334 (lv_at hl 3 rfl) ?_
                                                      refine lv_if_eq (tgt := 344) hx hb dX11_shift_336 rfl (fun c_41 => ?_) (fun c_41 => ?_)
                                                      · refine lv_iload hx hb dX11_shift_344 (lv_at hl 11 rfl) ?_
                                                        refine lv_iload hx hb dX11_shift_346 (lv_at hl 12 rfl) ?_
                                                        refine lv_iconst (v := 1) hx hb dX11_shift_348 rfl ?_
                                                        refine lv_iadd hx hb dX11_shift_349 ?_
                                                        refine zz_i (v := nI (rr + 1)) (nI_add rr 1) ?_
                                                        refine lv_iload hx hb dX11_shift_350 (lv_at hl 1 rfl) ?_
                                                        refine lv_isub hx hb dX11_shift_352 ?_
                                                        refine zz_i (v := nI ((rr + 1) - (wyR (kd f).toInt n kk k))) (pk_sub (a := rr + 1) (b := wyR (kd f).toInt n kk k) (by omega)) ?_
                                                        refine lv_imul hx hb dX11_shift_353 ?_
                                                        refine lv_iload hx hb dX11_shift_354 (lv_at hl 12 rfl) ?_
                                                        refine lv_iconst (v := 1) hx hb dX11_shift_356 rfl ?_
                                                        refine lv_iadd hx hb dX11_shift_357 ?_
                                                        refine zz_i (v := nI (rr + 1)) (nI_add rr 1) ?_
                                                        refine lv_idiv hx hb dX11_shift_358 (nI_ne0 (by omega) (by omega)) ?_
                                                        refine lv_iadd hx hb dX11_shift_359 ?_
                                                        refine z_iast hx hb hK hP hD hS 13 0 rfl rfl (e := 40 * f + k) (x := (cF40 cy f k) + ((dy * (nI ((rr + 1) - (wyR (kd f).toInt n kk k)))) / (nI (rr + 1)))) rfl b9_40 (Nat.le_of_ble_eq_true rfl) dX11_shift_360 (fun H locs hP hD hS => ?_)
                                                        obtain ⟨hP, hD⟩ := zre (W2 := [_, _, _, _, _, _, _, _, _, _, _, _, _, (oa (a 13) cI 8040 (upd cy1 (40 * f + k) ((cF40 cy f k) + ((dy * (nI ((rr + 1) - (wyR (kd f).toInt n kk k)))) / (nI (rr + 1)))))), _, _, _, _, _, _, _, _, _, _, _, _, _, _, _, _, _, _]) hP hD rfl
                                                        refine lv_iinc (v := nI (k + 1)) (lv' := [(10, .int (nI (k + 1))), (12, .int 0), (11, .int (nI (wyR (kd f).toInt n kk k))), (9, .int 0), (7, .int 0), (8, .int 0), (6, .int 0), (0, .ref k0), (1, .int (nI f)), (2, .int (nI kk)), (3, .int dx), (4, .int dy), (5, .int (nI rr))]) hx hb dX11_shift_361 hl (k := 2) rfl (nI_add k 1) (Nat.le_of_ble_eq_true rfl) rfl (fun ls hl => ?_)
                                                        refine lv_goto (tgt := 203) hx hb dX11_shift_364 rfl ?_
                                                        exact ih_203 (k + 1) (upd cx1 (40 * f + k) ((cF40 cx f k) + ((dx * (nI ((rr + 1) - (wyR (kd f).toInt n kk k)))) / (nI (rr + 1))))) (upd cy1 (40 * f + k) ((cF40 cy f k) + ((dy * (nI ((rr + 1) - (wyR (kd f).toInt n kk k)))) / (nI (rr + 1))))) H locs ls (by first | with_reducible assumption | omega) (by first | with_reducible assumption | omega) (by first | exact fgX_u hcx (shV_f (by first | with_reducible assumption | assumption)) | exact fgX_k hcx (shV_t (X := cF40 cx f) (by first | exact Or.inl (by first | with_reducible assumption | omega) | exact Or.inr ⟨by assumption, by omega⟩))) (by first | exact fgX_u hcy (shV_f (by first | with_reducible assumption | assumption)) | exact fgX_k hcy (shV_t (X := cF40 cy f) (by first | exact Or.inl (by first | with_reducible assumption | omega) | exact Or.inr ⟨by assumption, by omega⟩))) hP hD hS (lv_sub hl [0, 3, 4, 5, 6, 7, 8, 9, 10, 11, 12] rfl)
                                                      · exact absurd (by decide) c_41
                                                    · exact absurd (by decide) c_39
                                                  · exact absurd (by decide) c_37
                                                · have c_35 : ((k : Nat) : Int) = ((n - 1 : Nat) : Int) := zc_eq (nI_toInt b9_20) (nI_toInt b9_36) c_35
                                                  refine lv_iconst (v := 1) hx hb dX11_shift_258 rfl ?_
                                                  refine lv_goto (tgt := 263) hx hb dX11_shift_259 rfl ?_
                                                  refine lv_istore (lv' := [(12, .int 1), (11, .int (nI (wyR (kd f).toInt n kk k))), (10, .int (nI k)), (9, .int 0), (7, .int 0), (8, .int 0), (6, .int 0), (0, .ref k0), (1, .int (nI f)), (2, .int (nI kk)), (3, .int dx), (4, .int dy), (5, .int (nI rr))]) hx hb dX11_shift_263 hl (Nat.le_of_ble_eq_true rfl) rfl (fun ls hl => ?_)
                                                  refine lv_iload hx hb dX11_shift_265 (lv_at hl 0 rfl) ?_
                                                  refine lv_if_eq (tgt := 273) hx hb dX11_shift_267 rfl (fun c_42 => ?_) (fun c_42 => ?_)
                                                  · exact absurd c_42 (by decide)
                                                  · refine lv_goto (tgt := 361) hx hb dX11_shift_270 rfl ?_
                                                    refine lv_iinc (v := nI (k + 1)) (lv' := [(10, .int (nI (k + 1))), (12, .int 1), (11, .int (nI (wyR (kd f).toInt n kk k))), (9, .int 0), (7, .int 0), (8, .int 0), (6, .int 0), (0, .ref k0), (1, .int (nI f)), (2, .int (nI kk)), (3, .int dx), (4, .int dy), (5, .int (nI rr))]) hx hb dX11_shift_361 hl (k := 2) rfl (nI_add k 1) (Nat.le_of_ble_eq_true rfl) rfl (fun ls hl => ?_)
                                                    refine lv_goto (tgt := 203) hx hb dX11_shift_364 rfl ?_
                                                    exact ih_203 (k + 1) cx1 cy1 H locs ls (by first | with_reducible assumption | omega) (by first | with_reducible assumption | omega) (by first | exact fgX_u hcx (shV_f (by first | with_reducible assumption | assumption)) | exact fgX_k hcx (shV_t (X := cF40 cx f) (by first | exact Or.inl (by first | with_reducible assumption | omega) | exact Or.inr ⟨by assumption, by omega⟩))) (by first | exact fgX_u hcy (shV_f (by first | with_reducible assumption | assumption)) | exact fgX_k hcy (shV_t (X := cF40 cy f) (by first | exact Or.inl (by first | with_reducible assumption | omega) | exact Or.inr ⟨by assumption, by omega⟩))) hP hD hS (lv_sub hl [0, 3, 4, 5, 6, 7, 8, 9, 10, 11, 12] rfl)
                                  exact hl_203 _ 0 cx cy H locs ls (Nat.lt_succ_self _) (by first | with_reducible assumption | omega) (fgX_0 _ _ _) (fgX_0 _ _ _) hP hD hS (lv_sub hl [0, 1, 2, 3, 4, 5, 6, 7, 8, 9, 10] rfl)
                                · have c_18 : (kd f).toInt = 6 := zc_eq rfl rfl c_18
                                  exfalso; omega
                            · exact absurd (by decide) c_16
                          · have c_15 : ¬ (tn f).toInt = 0 := zc_ne rfl rfl c_15
                            exfalso; omega
                        · exact absurd (by decide) c_14
                      · exact absurd (by decide) c_13
                    · have c_12 : 20 < ((rr : Nat) : Int) := zc_nle (nI_toInt b9_11) rfl c_12
                      exfalso; omega
        · have c_5 : ¬ (st f).toInt = 1 := zc_ne rfl rfl c_5
          exfalso; omega
      · exact absurd (by decide) c_3
  · have c_1 : f < ft := zp_1 c_1
    refine lv_aload_n hx hb dX11_shift_8 rfl (lv_at hl 0 rfl) ?_
    refine va_get (D := (dC, dI)) (ci := 9) (v := .ref (a 6)) (C := RX11) (T := TX11) (N := 55) hx hb hts inX11 hown hK hP 0 rfl rfl 6 (Nat.le_of_ble_eq_true rfl) (hts _ mw_1165) (fun _ h9 => h9) rfl dX11_shift_9 ?_
    refine lv_iload_n hx hb dX11_shift_12 rfl (lv_at hl 1 rfl) ?_
    have b9_43 : f < 201 := by omega
    refine z_zald hx hb hK hP 10 1 rfl rfl (e := f) rfl b9_43 (Nat.le_of_ble_eq_true rfl) dX11_shift_13 ?_
    refine lv_if_ne (tgt := 35) hx hb dX11_shift_14 rfl (fun c_44 => ?_) (fun c_44 => ?_)
    · have c_44 : ¬ (tn f).toInt = 0 := zc_ne rfl rfl c_44
      refine lv_iconst (v := 0) hx hb dX11_shift_35 rfl ?_
      refine lv_istore (lv' := [(6, .int 0), (0, .ref k0), (1, .int (nI f)), (2, .int (nI kk)), (3, .int dx), (4, .int dy), (5, .int (nI rr))]) hx hb dX11_shift_36 hl (Nat.le_of_ble_eq_true rfl) rfl (fun ls hl => ?_)
      refine lv_aload_n hx hb dX11_shift_38 rfl (lv_at hl 1 rfl) ?_
      refine lv_iload_n hx hb dX11_shift_39 rfl (lv_at hl 2 rfl) ?_
      obtain ⟨hPc, hDc, hFc, hI1⟩ := zi_sub (wc := [_]) hP hD hS hA [0] rfl rfl
      refine zcall (st1 := [.int (pI (f < ft))]) (va_runV (As := [.int (nI f)]) (rest := []) ⟨hx, hb, hml, hown, hts⟩ (k_M_isFeature_n l dC dI cI cZ cF H.size k0 a (upd I0 26 (nI ln)) J0 f ft (by first | with_reducible assumption | assumption) (by first | with_reducible assumption | omega) (by first | with_reducible assumption | omega)) (csV_178 hts rfl rfl ⟨Nat.le_of_ble_eq_true rfl, Nat.le_of_ble_eq_true rfl⟩) (zPV2 (q0 := 0) (ci := 9) hPc hDc hK hXN rfl rfl) rfl rfl hl.1 rfl (lv_room (Nat.le_of_ble_eq_true rfl)) dX11_shift_40 ⟨Nat.zero_le _, Nat.zero_le _⟩) hS hFc hFc rfl (fun t H locs ht hB hk1 hS => ?_)
      obtain ⟨hP1, hD1⟩ := hB
      rw [ht] at hP1
      replace hP := z0 hP hD hk1 hP1 hI1
      clear hk1 hPc hDc hFc hP1 hD1 ht hI1
      refine lv_if_eq (tgt := 51) hx hb dX11_shift_43 rfl (fun c_45 => ?_) (fun c_45 => ?_)
      · have c_45 : ¬ (f < ft) := zp_0 c_45
        exfalso; omega
      · have c_45 : f < ft := zp_1 c_45
        refine lv_iload hx hb dX11_shift_46 (lv_at hl 0 rfl) ?_
        refine lv_if_eq (tgt := 55) hx hb dX11_shift_48 rfl (fun c_46 => ?_) (fun c_46 => ?_)
        · refine lv_aload_n hx hb dX11_shift_55 rfl (lv_at hl 1 rfl) ?_
          refine va_get (D := (dC, dI)) (ci := 9) (v := .ref (a 5)) (C := RX11) (T := TX11) (N := 55) hx hb hts inX11 hown hK hP 0 rfl rfl 5 (Nat.le_of_ble_eq_true rfl) (hts _ mw_1164) (fun _ h9 => h9) rfl dX11_shift_56 ?_
          refine lv_iload_n hx hb dX11_shift_59 rfl (lv_at hl 2 rfl) ?_
          refine z_iald hx hb hK hP 2 0 rfl rfl (e := f) rfl b9_43 (Nat.le_of_ble_eq_true rfl) dX11_shift_60 ?_
          refine lv_iconst (v := 1) hx hb dX11_shift_61 rfl ?_
          refine lv_icmp_eq (tgt := 69) hx hb dX11_shift_62 rfl (fun c_47 => ?_) (fun c_47 => ?_)
          · have c_47 : (st f).toInt = 1 := zc_eq rfl rfl c_47
            refine lv_iconst (v := 0) hx hb dX11_shift_69 rfl ?_
            refine lv_istore (lv' := [(7, .int 0), (6, .int 0), (0, .ref k0), (1, .int (nI f)), (2, .int (nI kk)), (3, .int dx), (4, .int dy), (5, .int (nI rr))]) hx hb dX11_shift_70 hl (Nat.le_of_ble_eq_true rfl) rfl (fun ls hl => ?_)
            refine lv_iload_n hx hb dX11_shift_72 rfl (lv_at hl 5 rfl) ?_
            refine lv_sipush (v := (-200)) hx hb dX11_shift_73 rfl ?_
            refine lv_icmp_lt (tgt := 114) hx hb dX11_shift_76 rfl (fun c_48 => ?_) (fun c_48 => ?_)
            · have c_48 : dx.toInt < (-200) := zc_lt rfl rfl c_48
              exfalso; omega
            · have c_48 : (-200) ≤ dx.toInt := zc_nlt rfl rfl c_48
              refine lv_iload_n hx hb dX11_shift_79 rfl (lv_at hl 5 rfl) ?_
              refine lv_sipush (v := 200) hx hb dX11_shift_80 rfl ?_
              refine lv_icmp_gt (tgt := 114) hx hb dX11_shift_83 rfl (fun c_49 => ?_) (fun c_49 => ?_)
              · have c_49 : 200 < dx.toInt := zc_lt rfl rfl c_49
                exfalso; omega
              · have c_49 : dx.toInt ≤ 200 := zc_nlt rfl rfl c_49
                refine lv_iload hx hb dX11_shift_86 (lv_at hl 6 rfl) ?_
                refine lv_sipush (v := (-200)) hx hb dX11_shift_88 rfl ?_
                refine lv_icmp_lt (tgt := 114) hx hb dX11_shift_91 rfl (fun c_50 => ?_) (fun c_50 => ?_)
                · have c_50 : dy.toInt < (-200) := zc_lt rfl rfl c_50
                  exfalso; omega
                · have c_50 : (-200) ≤ dy.toInt := zc_nlt rfl rfl c_50
                  refine lv_iload hx hb dX11_shift_94 (lv_at hl 6 rfl) ?_
                  refine lv_sipush (v := 200) hx hb dX11_shift_96 rfl ?_
                  refine lv_icmp_gt (tgt := 114) hx hb dX11_shift_99 rfl (fun c_51 => ?_) (fun c_51 => ?_)
                  · have c_51 : 200 < dy.toInt := zc_lt rfl rfl c_51
                    exfalso; omega
                  · have c_51 : dy.toInt ≤ 200 := zc_nlt rfl rfl c_51
                    refine lv_iload hx hb dX11_shift_102 (lv_at hl 7 rfl) ?_
                    have b9_53 : zlt (rr) := show rr < 2147483648 by omega
                    refine lv_if_lt (tgt := 114) hx hb dX11_shift_104 rfl (fun c_52 => ?_) (fun c_52 => ?_)
                    · have c_52 : ((rr : Nat) : Int) < 0 := zc_lt (nI_toInt b9_53) rfl c_52
                      exfalso; omega
                    · have c_52 : 0 ≤ ((rr : Nat) : Int) := zc_nlt (nI_toInt b9_53) rfl c_52
                      refine lv_iload hx hb dX11_shift_107 (lv_at hl 7 rfl) ?_
                      refine lv_bipush (v := 20) hx hb dX11_shift_109 rfl ?_
                      refine lv_icmp_le (tgt := 118) hx hb dX11_shift_111 rfl (fun c_54 => ?_) (fun c_54 => ?_)
                      · have c_54 : ((rr : Nat) : Int) ≤ 20 := zc_le (nI_toInt b9_53) rfl c_54
                        refine lv_iconst (v := 0) hx hb dX11_shift_118 rfl ?_
                        refine lv_istore (lv' := [(8, .int 0), (7, .int 0), (6, .int 0), (0, .ref k0), (1, .int (nI f)), (2, .int (nI kk)), (3, .int dx), (4, .int dy), (5, .int (nI rr))]) hx hb dX11_shift_119 hl (Nat.le_of_ble_eq_true rfl) rfl (fun ls hl => ?_)
                        refine lv_iload hx hb dX11_shift_121 (lv_at hl 1 rfl) ?_
                        refine lv_if_le (tgt := 131) hx hb dX11_shift_123 rfl (fun c_55 => ?_) (fun c_55 => ?_)
                        · refine lv_iload hx hb dX11_shift_131 (lv_at hl 0 rfl) ?_
                          refine lv_if_eq (tgt := 140) hx hb dX11_shift_133 rfl (fun c_56 => ?_) (fun c_56 => ?_)
                          · refine lv_aload_n hx hb dX11_shift_140 rfl (lv_at hl 3 rfl) ?_
                            refine va_get (D := (dC, dI)) (ci := 9) (v := .ref (a 6)) (C := RX11) (T := TX11) (N := 55) hx hb hts inX11 hown hK hP 0 rfl rfl 6 (Nat.le_of_ble_eq_true rfl) (hts _ mw_1165) (fun _ h9 => h9) rfl dX11_shift_141 ?_
                            refine lv_iload_n hx hb dX11_shift_144 rfl (lv_at hl 4 rfl) ?_
                            refine z_zald hx hb hK hP 10 1 rfl rfl (e := f) rfl b9_43 (Nat.le_of_ble_eq_true rfl) dX11_shift_145 ?_
                            refine lv_if_eq (tgt := 153) hx hb dX11_shift_146 rfl (fun c_57 => ?_) (fun c_57 => ?_)
                            · have c_57 : (tn f).toInt = 0 := zc_eq rfl rfl c_57
                              refine lv_iconst (v := 0) hx hb dX11_shift_153 rfl ?_
                              refine lv_istore (lv' := [(7, .int 0), (8, .int 0), (6, .int 0), (0, .ref k0), (1, .int (nI f)), (2, .int (nI kk)), (3, .int dx), (4, .int dy), (5, .int (nI rr))]) hx hb dX11_shift_154 hl (Nat.le_of_ble_eq_true rfl) rfl (fun ls hl => ?_)
                              refine lv_iload hx hb dX11_shift_156 (lv_at hl 0 rfl) ?_
                              refine lv_if_le (tgt := 168) hx hb dX11_shift_158 rfl (fun c_58 => ?_) (fun c_58 => ?_)
                              · refine lv_aload_n hx hb dX11_shift_168 rfl (lv_at hl 3 rfl) ?_
                                refine lv_iload_n hx hb dX11_shift_169 rfl (lv_at hl 4 rfl) ?_
                                obtain ⟨hPc, hDc, hFc⟩ := zo_sub (wc := [_, _, _, _, _, _, _, _, _, _, _, _, _]) hP hD hS hA [0, 2, 10, 1, 11, 12, 13, 19, 23, 24, 25, 26, 27] (by decide +kernel) rfl
                                refine zcall (st1 := []) (va_runV (As := [.int (nI f)]) (rest := []) ⟨hx, hb, hml, hown, hts⟩ (k_M_remember l dC dI cI cZ cF H.size k0 a (upd I0 26 (nI ln)) J0 f n ft st tn kd mn cx cy S0 ox oy mt wi ins (by first | with_reducible assumption | assumption) (by first | with_reducible assumption | omega) (by first | with_reducible assumption | omega) (by first | with_reducible assumption | assumption) (by first | with_reducible assumption | omega) (by first | with_reducible assumption | assumption) (fun q h1 _ => hwf q h1)) (csV_190 hts rfl rfl ⟨Nat.le_of_ble_eq_true rfl, Nat.le_of_ble_eq_true rfl⟩) (zPV2 (q0 := 0) (ci := 9) hPc hDc hK hXN rfl rfl) rfl rfl hl.1 rfl (lv_room (Nat.le_of_ble_eq_true rfl)) dX11_shift_170 ⟨Nat.zero_le _, Nat.zero_le _⟩) hS hFc hFc rfl (fun t H locs ht hB hk1 hS => ?_)
                                refine ex6 hB (fun S1 ox1 oy1 mt1 wi1 ins1 hB0 => ?_)
                                clear hB
                                obtain ⟨hox, hmt, hwi, hin, hP1, hD1⟩ := hB0
                                rw [ht] at hP1
                                obtain ⟨hP, hD⟩ := zn (W2 := [(om k0 a (upd (upd (upd I0 26 (nI ln)) 35 (nI n)) 36 (kd f)) J0), _, _, _, _, _, _, _, _, _, _, _, _, _, _, _, _, _, _, (oa (a 32) cI 8 S1), _, _, _, (oa (a 33) cI 42 ox1), (oa (a 34) cI 42 oy1), (oa (a 37) cZ 201 mt1), (oa (a 38) cZ 201 wi1), (oa (a 39) cZ 8040 ins1), _, _, _, _]) hP hD hk1 hFc hP1 hD1 zl_194 zl_195 zl_195 zl_194 (by decide +kernel) rfl rfl rfl rfl rfl
                                clear hk1 hPc hDc hFc hP1 hD1 ht
                                refine lv_aload_n hx hb dX11_shift_173 rfl (lv_at hl 3 rfl) ?_
                                refine va_get (D := (dC, dI)) (ci := 9) (v := .ref (a 1)) (C := RX11) (T := TX11) (N := 55) hx hb hts inX11 hown hK hP 0 rfl rfl 1 (Nat.le_of_ble_eq_true rfl) (hts _ mw_1160) (fun _ h9 => h9) rfl dX11_shift_174 ?_
                                refine lv_iload_n hx hb dX11_shift_177 rfl (lv_at hl 4 rfl) ?_
                                refine z_iald hx hb hK hP 1 0 rfl rfl (e := f) rfl b9_43 (Nat.le_of_ble_eq_true rfl) dX11_shift_178 ?_
                                refine lv_if_eq (tgt := 193) hx hb dX11_shift_179 rfl (fun c_59 => ?_) (fun c_59 => ?_)
                                · have c_59 : (kd f).toInt = 0 := zc_eq rfl rfl c_59
                                  exfalso; omega
                                · have c_59 : ¬ (kd f).toInt = 0 := zc_ne rfl rfl c_59
                                  refine lv_aload_n hx hb dX11_shift_182 rfl (lv_at hl 3 rfl) ?_
                                  refine va_get (D := (dC, dI)) (ci := 9) (v := .ref (a 1)) (C := RX11) (T := TX11) (N := 55) hx hb hts inX11 hown hK hP 0 rfl rfl 1 (Nat.le_of_ble_eq_true rfl) (hts _ mw_1160) (fun _ h9 => h9) rfl dX11_shift_183 ?_
                                  refine lv_iload_n hx hb dX11_shift_186 rfl (lv_at hl 4 rfl) ?_
                                  refine z_iald hx hb hK hP 1 0 rfl rfl (e := f) rfl b9_43 (Nat.le_of_ble_eq_true rfl) dX11_shift_187 ?_
                                  refine lv_bipush (v := 6) hx hb dX11_shift_188 rfl ?_
                                  refine lv_icmp_ne (tgt := 197) hx hb dX11_shift_190 rfl (fun c_60 => ?_) (fun c_60 => ?_)
                                  · have c_60 : ¬ (kd f).toInt = 6 := zc_ne rfl rfl c_60
                                    refine lv_iconst (v := 0) hx hb dX11_shift_197 rfl ?_
                                    refine lv_istore (lv' := [(9, .int 0), (7, .int 0), (8, .int 0), (6, .int 0), (0, .ref k0), (1, .int (nI f)), (2, .int (nI kk)), (3, .int dx), (4, .int dy), (5, .int (nI rr))]) hx hb dX11_shift_198 hl (Nat.le_of_ble_eq_true rfl) rfl (fun ls hl => ?_)
                                    refine lv_iconst (v := 0) hx hb dX11_shift_200 rfl ?_
                                    refine lv_istore (lv' := [(10, .int 0), (9, .int 0), (7, .int 0), (8, .int 0), (6, .int 0), (0, .ref k0), (1, .int (nI f)), (2, .int (nI kk)), (3, .int dx), (4, .int dy), (5, .int (nI rr))]) hx hb dX11_shift_201 hl (Nat.le_of_ble_eq_true rfl) rfl (fun ls hl => ?_)
                                    have hl_203 : ∀ (n9 : Nat) (k : Nat) (cx1 : Nat → Int32) (cy1 : Nat → Int32) (H : Heap) (locs : List Loc) (ls : Array Slot), n - k < n9 → (k ≤ n) → (cx1 = fgX f k (fun i => shV (kd f).toInt n kk dx rr (cF40 cx f) i) cx) → (cy1 = fgX f k (fun i => shV (kd f).toInt n kk dy rr (cF40 cy f) i) cy) → va_P (dC, dI) classes [(om k0 a (upd (upd (upd I0 26 (nI ln)) 35 (nI n)) 36 (kd f)) J0), (oa (a 1) cI 201 kd), (oa (a 5) cI 201 st), (oa (a 7) cI 201 gb), (oa (a 10) cI 201 it), (oa (a 8) cI 201 pa), (oa (a 9) cI 201 pb), (oa (a 2) cI 201 rk), (oa (a 3) cI 201 wd), (oa (a 4) cI 201 tw), (oa (a 6) cZ 201 tn), (oa (a 11) cI 201 mn), (oa (a 12) cI 8040 cx1), (oa (a 13) cI 8040 cy1), (oa (a 27) cI 516 sa), (oa (a 28) cI (4096 * cp) sh), (oa (a 16) cI 514 wh), (oa (a 17) cI 514 of9), (oa (a 18) cI 514 we), (oa (a 32) cI 8 S1), (oa (a 40) cI 6 T0), (oa (a 29) cI 42 P0), (oa (a 30) cI 42 Q0), (oa (a 33) cI 42 ox1), (oa (a 34) cI 42 oy1), (oa (a 37) cZ 201 mt1), (oa (a 38) cZ 201 wi1), (oa (a 39) cZ 8040 ins1), (oa (a 22) cI (64 * cl) la), (oa (a 23) cI (64 * cl) lb), (oa (a 24) cI (64 * cl) lc), (oa (a 25) cI (64 * cl) ld)] H → va_D A [(om k0 a (upd (upd (upd I0 26 (nI ln)) 35 (nI n)) 36 (kd f)) J0), (oa (a 1) cI 201 kd), (oa (a 5) cI 201 st), (oa (a 7) cI 201 gb), (oa (a 10) cI 201 it), (oa (a 8) cI 201 pa), (oa (a 9) cI 201 pb), (oa (a 2) cI 201 rk), (oa (a 3) cI 201 wd), (oa (a 4) cI 201 tw), (oa (a 6) cZ 201 tn), (oa (a 11) cI 201 mn), (oa (a 12) cI 8040 cx1), (oa (a 13) cI 8040 cy1), (oa (a 27) cI 516 sa), (oa (a 28) cI (4096 * cp) sh), (oa (a 16) cI 514 wh), (oa (a 17) cI 514 of9), (oa (a 18) cI 514 we), (oa (a 32) cI 8 S1), (oa (a 40) cI 6 T0), (oa (a 29) cI 42 P0), (oa (a 30) cI 42 Q0), (oa (a 33) cI 42 ox1), (oa (a 34) cI 42 oy1), (oa (a 37) cZ 201 mt1), (oa (a 38) cZ 201 wi1), (oa (a 39) cZ 8040 ins1), (oa (a 22) cI (64 * cl) la), (oa (a 23) cI (64 * cl) lb), (oa (a 24) cI (64 * cl) lc), (oa (a 25) cI (64 * cl) ld)] → va_S A s.heap H locs → lv_has ls 13 [(10, .int (nI k)), (9, .int 0), (7, .int 0), (8, .int 0), (6, .int 0), (0, .ref k0), (1, .int (nI f)), (2, .int (nI kk)), (3, .int dx), (4, .int dy), (5, .int (nI rr))] → W p l e ({ frames := 8, cells := c2 - cp, slots := 8192 * (c2 - cp), locals := 210 } : Room) s m ([.ref k0, .int (nI f), .int (nI kk), .int dx, .int dy, .int (nI rr)] : List Value).toArray below meth c H locs 0 0 Q9 (F0 m 203 ls []) := by
                                      intro n9
                                      induction n9 with
                                      | zero => intro k cx1 cy1 H locs ls hm; exact absurd hm (Nat.not_lt_zero _)
                                      | succ n9 ih_203 =>
                                        intro k cx1 cy1 H locs ls hm hk hcx hcy hP hD hS hl
                                        refine lv_iload hx hb dX11_shift_203 (lv_at hl 0 rfl) ?_
                                        refine lv_aload_n hx hb dX11_shift_205 rfl (lv_at hl 5 rfl) ?_
                                        refine va_get (D := (dC, dI)) (ci := 9) (v := .int (nI n)) (C := RX11) (T := TX11) (N := 55) hx hb hts inX11 hown hK hP 0 rfl rfl 35 (Nat.le_of_ble_eq_true rfl) (hts _ mw_1194) (fun _ h9 => h9) rfl dX11_shift_206 ?_
                                        have b9_62 : zlt (k) := show k < 2147483648 by omega
                                        have b9_63 : zlt (n) := show n < 2147483648 by omega
                                        refine lv_icmp_ge (tgt := 367) hx hb dX11_shift_209 rfl (fun c_61 => ?_) (fun c_61 => ?_)
                                        · have c_61 : ((n : Nat) : Int) ≤ ((k : Nat) : Int) := zc_le (nI_toInt b9_63) (nI_toInt b9_62) c_61
                                          have hkn : k = n := (by omega)
                                          rw [hkn] at hcx hcy
                                          refine lv_aload_n hx hb dX11_shift_367 rfl (lv_at hl 5 rfl) ?_
                                          refine lv_iload_n hx hb dX11_shift_368 rfl (lv_at hl 6 rfl) ?_
                                          obtain ⟨hPc, hDc, hFc, hI1⟩ := zi_sub (wc := [_, _, _, _, _]) hP hD hS hA [0, 12, 13, 23, 24] (by decide +kernel) rfl
                                          refine zcall (st1 := [.int (pI (∃ k, k < n ∧ ¬ ((cx1 (40 * f + k)).toInt = (ox1 k).toInt ∧ (cy1 (40 * f + k)).toInt = (oy1 k).toInt)))]) (va_runV (As := [.int (nI f)]) (rest := []) ⟨hx, hb, hml, hown, hts⟩ (k_M_moves l dC dI cI cZ cF H.size k0 a (upd (upd (upd I0 26 (nI ln)) 35 (nI n)) 36 (kd f)) J0 f n cx1 cy1 ox1 oy1 (by first | with_reducible assumption | omega) (rfl) (by first | with_reducible assumption | omega)) (csV_211 hts rfl rfl ⟨Nat.le_of_ble_eq_true rfl, Nat.le_of_ble_eq_true rfl⟩) (zPV2 (q0 := 0) (ci := 9) hPc hDc hK hXN rfl rfl) rfl rfl hl.1 rfl (lv_room (Nat.le_of_ble_eq_true rfl)) dX11_shift_369 ⟨Nat.zero_le _, Nat.zero_le _⟩) hS hFc hFc rfl (fun t H locs ht hB hk1 hS => ?_)
                                          obtain ⟨hP1, hD1⟩ := hB
                                          rw [ht] at hP1
                                          replace hP := z0 hP hD hk1 hP1 hI1
                                          clear hk1 hPc hDc hFc hP1 hD1 ht hI1
                                          refine zz_i (v := pI (mvd n (fun i => shV (kd f).toInt n kk dx rr (cF40 cx f) i) (fun i => shV (kd f).toInt n kk dy rr (cF40 cy f) i) (cF40 cx f) (cF40 cy f))) (zp_iff (mv_iff hcx hcy hox)) ?_
                                          refine lv_if_ne (tgt := 382) hx hb dX11_shift_372 rfl (fun c_64 => ?_) (fun c_64 => ?_)
                                          · have c_64 : mvd n (fun i => shV (kd f).toInt n kk dx rr (cF40 cx f) i) (fun i => shV (kd f).toInt n kk dy rr (cF40 cy f) i) (cF40 cx f) (cF40 cy f) := zp_1 c_64
                                            refine lv_aload_n hx hb dX11_shift_382 rfl (lv_at hl 5 rfl) ?_
                                            refine lv_iload_n hx hb dX11_shift_383 rfl (lv_at hl 6 rfl) ?_
                                            refine lv_iconst (v := 3) hx hb dX11_shift_384 rfl ?_
                                            refine zz_i (v := nI 3) (rfl) ?_
                                            have hbx : fgX f n ox1 cx1 = cx := (by rw [hcx]; exact fgX_back (fun k9 h9 => (hox k9 h9).1))
                                            have hby : fgX f n oy1 cy1 = cy := (by rw [hcy]; exact fgX_back (fun k9 h9 => (hox k9 h9).2))
                                            have hlq := lwM_eq (ft := ft) (st := st) (tn := tn) (kd := kd) (mn := mn) hn_f.1 hcx hcy hox
                                            have hpo : pls n ox1 oy1 := fun j hj => by rw [(hox j hj).1, (hox j hj).2]; exact hp_f j hj
                                            have hwf2 : ∀ q, lvF ft st tn q → q ≠ f → wfM mn cx1 cy1 q := fun q h1 h2 => wfM_o (hwf q h1) h2 (fun _ _ => rfl) (fun j hj => by rw [hcx, hcy]; exact ⟨fgX_o (by omega), fgX_o (by omega)⟩)
                                            obtain ⟨hPc, hDc, hFc⟩ := zo_sub (wc := [_, _, _, _, _, _, _, _, _, _, _, _, _, _, _, _, _, _, _, _, _, _, _, _, _, _, _, _, _, _, _, _]) hP hD hS hA [0, 1, 2, 3, 4, 5, 6, 7, 8, 9, 10, 11, 12, 13, 14, 15, 16, 17, 18, 19, 20, 21, 22, 23, 24, 25, 26, 27, 28, 29, 30, 31] (by decide +kernel) rfl
                                            refine zcall (st1 := [.int 1]) (va_runV (As := [.int (nI f), .int (nI 3)]) (rest := []) ⟨hx, hb, hml, hown, hts⟩ (k_M_changes_my l dC dI cI cZ cF H.size k0 a (upd (upd (upd I0 26 (nI ln)) 35 (nI n)) 36 (kd f)) J0 f n ft n (kd f) 3 kd st gb it pa pb rk wd tw tn mn cx1 cy1 sa sh wh of9 we S1 T0 P0 Q0 ox1 oy1 mt1 wi1 ins1 la lb lc ld (bMt kd mn cx cy f n) (bWi kd mn cx cy f) (bIn kd cx cy f n) dn bs w0 cp c1 c2 ln cl (hft) (by first | with_reducible assumption | omega) (by first | with_reducible assumption | omega) (hm_f) (by first | with_reducible assumption | omega) (hwf2) (by first | with_reducible assumption | omega) (by first | with_reducible assumption | omega) (hpo) (hmt) (fun q h1 h2 h5 => by rw [hwi q h1 h2]; exact zp_iff ⟨fun h => h.2, fun h => ⟨h5, h⟩⟩) (fun q h1 h2 i hi h5 => hin q h1 h2 h5 i hi) (by first | with_reducible assumption | omega) (rfl) (hft_f) (hdn) (hbs) (by first | with_reducible assumption | omega) (by first | with_reducible assumption | omega) (hi5_1) (hsa_1) (by rw [hum]; exact hmn_1) (hc1_1) (hpw_1) (hw0_1) (by rw [hum]; exact hfit_1) (by rw [hum]; exact hmin_1) (hcE_1) (hmn_1) (hpw_2) (by rw [hum]; exact hfit_2) (by rw [hum]; exact hmin_2) (hcE_2) (fun j h1 h2 => by omega) (hlc) (hcl1) (hclm) (trivial) (by rw [hlq]; exact hlaw)) (csV_212 hts rfl rfl ⟨Nat.le_of_ble_eq_true rfl, Nat.le_of_ble_eq_true rfl⟩) (zPV2 (q0 := 0) (ci := 9) hPc hDc hK hXN rfl rfl) rfl rfl hl.1 rfl (lv_room (Nat.le_of_ble_eq_true rfl)) dX11_shift_385 ⟨show (0 + (c2 - cp)) ≤ c2 - cp by omega, show (0 + (8192 * (c2 - cp))) ≤ 8192 * (c2 - cp) by omega⟩) hS hFc hFc rfl (fun t H locs ht hB hk1 hS => ?_)
                                            refine ex12 hB (fun z8 b2 sh2 t9 S2 T2 P2 Q2 la1 lb1 lc1 ld1 hB0 => ?_)
                                            clear hB
                                            obtain ⟨p0, p1, p2, p3, p4, p5, p6, hP1, hD1⟩ := hB0
                                            rw [ht] at hP1
                                            obtain ⟨hP, hD⟩ := zn (W2 := [(om k0 (va_up a 28 b2) (upd (upd (upd (upd (upd (upd (upd (upd I0 14 0) 19 (nI (dn + 1))) 20 0) 26 (nI t9)) 31 z8) 35 (nI n)) 36 (kd f)) 41 (nI (psN (nnF st tn mn) (psN (nnF st tn (upd mn f (nI n))) w0 ft) ft))) J0), (oa (a 1) cI 201 kd), (oa (a 5) cI 201 st), (oa (a 7) cI 201 gb), (oa (a 10) cI 201 it), (oa (a 8) cI 201 pa), (oa (a 9) cI 201 pb), (oa (a 2) cI 201 rk), (oa (a 3) cI 201 wd), (oa (a 4) cI 201 tw), (oa (a 6) cZ 201 tn), (oa (a 11) cI 201 mn), (oa (a 12) cI 8040 cx1), (oa (a 13) cI 8040 cy1), (oa (a 27) cI 516 (upd (upd sa (dn - bs + 1) (nI (psN (nnF st tn (upd mn f (nI n))) w0 ft))) (dn + 1 - bs + 1) (nI (psN (nnF st tn mn) (psN (nnF st tn (upd mn f (nI n))) w0 ft) ft)))), (oa b2 cI (4096 * c2) sh2), (oa (a 16) cI 514 (upd wh (dn + 1) (nI 3))), (oa (a 17) cI 514 (upd of9 (dn + 1) (nI f))), (oa (a 18) cI 514 (upd we (dn + 1) (0 : Int32))), (oa (a 32) cI 8 S2), (oa (a 40) cI 6 T2), (oa (a 29) cI 42 P2), (oa (a 30) cI 42 Q2), (oa (a 33) cI 42 ox1), (oa (a 34) cI 42 oy1), (oa (a 37) cZ 201 mt1), (oa (a 38) cZ 201 wi1), (oa (a 39) cZ 8040 ins1), (oa (a 22) cI (64 * cl) la1), (oa (a 23) cI (64 * cl) lb1), (oa (a 24) cI (64 * cl) lc1), (oa (a 25) cI (64 * cl) ld1)]) hP hD hk1 hFc hP1 hD1 zl_196 [] zl_197 zl_196 (by decide +kernel) rfl rfl rfl rfl rfl
                                            clear hk1 hPc hDc hFc hP1 hD1 ht
                                            obtain ⟨hP9, hD9⟩ := zu_sub (wc := [(om k0 (va_up a 28 b2) (upd (upd (upd (upd (upd (upd (upd (upd I0 14 0) 19 (nI (dn + 1))) 20 0) 26 (nI t9)) 31 z8) 35 (nI n)) 36 (kd f)) 41 (nI (psN (nnF st tn mn) (psN (nnF st tn (upd mn f (nI n))) w0 ft) ft))) J0), (oa (a 1) cI 201 kd), (oa (a 5) cI 201 st), (oa (a 7) cI 201 gb), (oa (a 10) cI 201 it), (oa (a 8) cI 201 pa), (oa (a 9) cI 201 pb), (oa (a 2) cI 201 rk), (oa (a 3) cI 201 wd), (oa (a 4) cI 201 tw), (oa (a 6) cZ 201 tn), (oa (a 11) cI 201 mn), (oa (a 12) cI 8040 cx1), (oa (a 13) cI 8040 cy1), (oa (a 27) cI 516 (upd (upd sa (dn - bs + 1) (nI (psN (nnF st tn (upd mn f (nI n))) w0 ft))) (dn + 1 - bs + 1) (nI (psN (nnF st tn mn) (psN (nnF st tn (upd mn f (nI n))) w0 ft) ft)))), (oa b2 cI (4096 * c2) sh2), (oa (a 16) cI 514 (upd wh (dn + 1) (nI 3))), (oa (a 17) cI 514 (upd of9 (dn + 1) (nI f))), (oa (a 18) cI 514 (upd we (dn + 1) (0 : Int32))), (oa (a 32) cI 8 S2), (oa (a 40) cI 6 T2), (oa (a 29) cI 42 P2), (oa (a 30) cI 42 Q2), (oa (a 33) cI 42 ox1), (oa (a 34) cI 42 oy1), (oa (a 37) cZ 201 mt1), (oa (a 38) cZ 201 wi1), (oa (a 39) cZ 8040 ins1), (oa (a 22) cI (64 * cl) la1), (oa (a 23) cI (64 * cl) lb1), (oa (a 24) cI (64 * cl) lc1), (oa (a 25) cI (64 * cl) ld1)]) hP hD (true :: true :: true :: true :: true :: true :: true :: true :: true :: true :: true :: true :: true :: true :: true :: true :: true :: true :: true :: true :: true :: true :: true :: true :: true :: true :: true :: true :: true :: true :: true :: true :: []) rfl rfl
                                            have hE9 : ([(om k0 (va_up a 28 b2) (upd (upd (upd (upd (upd (upd (upd (upd I0 14 0) 19 (nI (dn + 1))) 20 0) 26 (nI t9)) 31 z8) 35 (nI n)) 36 (kd f)) 41 (nI (psN (nnF st tn mn) (psN (nnF st tn (upd mn f (nI n))) w0 ft) ft))) J0), (oa (a 1) cI 201 kd), (oa (a 5) cI 201 st), (oa (a 7) cI 201 gb), (oa (a 10) cI 201 it), (oa (a 8) cI 201 pa), (oa (a 9) cI 201 pb), (oa (a 2) cI 201 rk), (oa (a 3) cI 201 wd), (oa (a 4) cI 201 tw), (oa (a 6) cZ 201 tn), (oa (a 11) cI 201 mn), (oa (a 12) cI 8040 cx1), (oa (a 13) cI 8040 cy1), (oa (a 27) cI 516 (upd (upd sa (dn - bs + 1) (nI (psN (nnF st tn (upd mn f (nI n))) w0 ft))) (dn + 1 - bs + 1) (nI (psN (nnF st tn mn) (psN (nnF st tn (upd mn f (nI n))) w0 ft) ft)))), (oa b2 cI (4096 * c2) sh2), (oa (a 16) cI 514 (upd wh (dn + 1) (nI 3))), (oa (a 17) cI 514 (upd of9 (dn + 1) (nI f))), (oa (a 18) cI 514 (upd we (dn + 1) (0 : Int32))), (oa (a 32) cI 8 S2), (oa (a 40) cI 6 T2), (oa (a 29) cI 42 P2), (oa (a 30) cI 42 Q2), (oa (a 33) cI 42 ox1), (oa (a 34) cI 42 oy1), (oa (a 37) cZ 201 mt1), (oa (a 38) cZ 201 wi1), (oa (a 39) cZ 8040 ins1), (oa (a 22) cI (64 * cl) la1), (oa (a 23) cI (64 * cl) lb1), (oa (a 24) cI (64 * cl) lc1), (oa (a 25) cI (64 * cl) ld1)] : va_W) = [(om k0 (va_up a 28 b2) (upd (upd (upd (upd (upd (upd (upd (upd I0 14 0) 19 (nI (dn + 1))) 20 0) 26 (nI t9)) 31 z8) 35 (nI n)) 36 (kd f)) 41 (nI (psN (nnF st tn mn) (psN (nnF st tn mn) w0 ft) ft))) J0), (oa (a 1) cI 201 kd), (oa (a 5) cI 201 st), (oa (a 7) cI 201 gb), (oa (a 10) cI 201 it), (oa (a 8) cI 201 pa), (oa (a 9) cI 201 pb), (oa (a 2) cI 201 rk), (oa (a 3) cI 201 wd), (oa (a 4) cI 201 tw), (oa (a 6) cZ 201 tn), (oa (a 11) cI 201 mn), (oa (a 12) cI 8040 (fgX f n (fun i => shV (kd f).toInt n kk dx rr (cF40 cx f) i) cx)), (oa (a 13) cI 8040 (fgX f n (fun i => shV (kd f).toInt n kk dy rr (cF40 cy f) i) cy)), (oa (a 27) cI 516 (upd (upd sa (dn - bs + 1) (nI (psN (nnF st tn mn) w0 ft))) (dn + 1 - bs + 1) (nI (psN (nnF st tn mn) (psN (nnF st tn mn) w0 ft) ft)))), (oa b2 cI (4096 * c2) sh2), (oa (a 16) cI 514 (upd wh (dn + 1) (nI 3))), (oa (a 17) cI 514 (upd of9 (dn + 1) (nI f))), (oa (a 18) cI 514 (upd we (dn + 1) (0 : Int32))), (oa (a 32) cI 8 S2), (oa (a 40) cI 6 T2), (oa (a 29) cI 42 P2), (oa (a 30) cI 42 Q2), (oa (a 33) cI 42 ox1), (oa (a 34) cI 42 oy1), (oa (a 37) cZ 201 mt1), (oa (a 38) cZ 201 wi1), (oa (a 39) cZ 8040 ins1), (oa (a 22) cI (64 * cl) la1), (oa (a 23) cI (64 * cl) lb1), (oa (a 24) cI (64 * cl) lc1), (oa (a 25) cI (64 * cl) ld1)] := by rw [hum, hcx, hcy]
                                            rw [hE9] at hP9 hD9
                                            refine W.widen (k := c2 - cp) (n := 8192 * (c2 - cp)) (by omega) (by omega) ?_
                                            rw [hQ9]
                                            exact W.zret (ty := .boolean) (v := 1) hx hb hr (rfl) (fun t ht hW => ⟨⟨rfl, z8, b2, sh2, t9, S2, T2, P2, Q2, ox1, oy1, mt1, wi1, ins1, la1, lb1, lc1, ld1, (p0), (p1), (by have h9 := p2; rw [hum, huk, hbx, hby] at h9; exact h9), (by have h9 := p3; rw [hum] at h9; exact h9), (by have h9 := p4; rw [hum, hcx, hcy] at h9; exact h9), (p5), (p6), by rw [ht]; exact hP9, hD9⟩, hS.F ht⟩) hS.2.2 dX11_shift_388
                                          · have c_64 : ¬ (mvd n (fun i => shV (kd f).toInt n kk dx rr (cF40 cx f) i) (fun i => shV (kd f).toInt n kk dy rr (cF40 cy f) i) (cF40 cx f) (cF40 cy f)) := zp_0 c_64
                                            exfalso; exact absurd hmv (by first | with_reducible assumption | assumption)
                                        · have c_61 : ((k : Nat) : Int) < ((n : Nat) : Int) := zc_nle (nI_toInt b9_63) (nI_toInt b9_62) c_61
                                          have hk9 : k < n := (by omega)
                                          have hwb := wyR_b (kf := (kd f).toInt) hkk hk9
                                          refine lv_aload_n hx hb dX11_shift_212 rfl (lv_at hl 5 rfl) ?_
                                          refine lv_iload_n hx hb dX11_shift_213 rfl (lv_at hl 6 rfl) ?_
                                          refine lv_iload_n hx hb dX11_shift_214 rfl (lv_at hl 7 rfl) ?_
                                          refine lv_iload hx hb dX11_shift_215 (lv_at hl 0 rfl) ?_
                                          obtain ⟨hPc, hDc, hFc, hI1⟩ := zi_sub (wc := [_, _]) hP hD hS hA [0, 1] rfl rfl
                                          refine zcall (st1 := [.int (nI (wyR (kd f).toInt n kk k))]) (va_runV (As := [.int (nI f), .int (nI kk), .int (nI k)]) (rest := []) ⟨hx, hb, hml, hown, hts⟩ (k_M_wayOf l dC dI cI cZ cF H.size k0 a (upd (upd (upd I0 26 (nI ln)) 35 (nI n)) 36 (kd f)) J0 f n kk k kd (by first | with_reducible assumption | omega) (by first | with_reducible assumption | omega) (hkk) (by first | with_reducible assumption | omega)) (csV_216 hts rfl rfl ⟨Nat.le_of_ble_eq_true rfl, Nat.le_of_ble_eq_true rfl⟩) (zPV2 (q0 := 0) (ci := 9) hPc hDc hK hXN rfl rfl) rfl rfl hl.1 rfl (lv_room (Nat.le_of_ble_eq_true rfl)) dX11_shift_217 ⟨Nat.zero_le _, Nat.zero_le _⟩) hS hFc hFc rfl (fun t H locs ht hB hk1 hS => ?_)
                                          obtain ⟨hP1, hD1⟩ := hB
                                          rw [ht] at hP1
                                          replace hP := z0 hP hD hk1 hP1 hI1
                                          clear hk1 hPc hDc hFc hP1 hD1 ht hI1
                                          refine lv_istore (lv' := [(11, .int (nI (wyR (kd f).toInt n kk k))), (10, .int (nI k)), (9, .int 0), (7, .int 0), (8, .int 0), (6, .int 0), (0, .ref k0), (1, .int (nI f)), (2, .int (nI kk)), (3, .int dx), (4, .int dy), (5, .int (nI rr))]) hx hb dX11_shift_220 hl (Nat.le_of_ble_eq_true rfl) rfl (fun ls hl => ?_)
                                          refine lv_iload hx hb dX11_shift_222 (lv_at hl 2 rfl) ?_
                                          refine lv_if_ne (tgt := 262) hx hb dX11_shift_224 rfl (fun c_65 => ?_) (fun c_65 => ?_)
                                          · exact absurd (by decide) c_65
                                          · refine lv_iload hx hb dX11_shift_227 (lv_at hl 0 rfl) ?_
                                            refine lv_iload hx hb dX11_shift_229 (lv_at hl 11 rfl) ?_
                                            have b9_67 : zlt ((wyR (kd f).toInt n kk k)) := show (wyR (kd f).toInt n kk k) < 2147483648 by omega
                                            refine lv_icmp_gt (tgt := 258) hx hb dX11_shift_231 rfl (fun c_66 => ?_) (fun c_66 => ?_)
                                            · have c_66 : ((rr : Nat) : Int) < ((wyR (kd f).toInt n kk k : Nat) : Int) := zc_lt (nI_toInt b9_53) (nI_toInt b9_67) c_66
                                              refine lv_iconst (v := 1) hx hb dX11_shift_258 rfl ?_
                                              refine lv_goto (tgt := 263) hx hb dX11_shift_259 rfl ?_
                                              refine lv_istore (lv' := [(12, .int 1), (11, .int (nI (wyR (kd f).toInt n kk k))), (10, .int (nI k)), (9, .int 0), (7, .int 0), (8, .int 0), (6, .int 0), (0, .ref k0), (1, .int (nI f)), (2, .int (nI kk)), (3, .int dx), (4, .int dy), (5, .int (nI rr))]) hx hb dX11_shift_263 hl (Nat.le_of_ble_eq_true rfl) rfl (fun ls hl => ?_)
                                              refine lv_iload hx hb dX11_shift_265 (lv_at hl 0 rfl) ?_
                                              refine lv_if_eq (tgt := 273) hx hb dX11_shift_267 rfl (fun c_68 => ?_) (fun c_68 => ?_)
                                              · exact absurd c_68 (by decide)
                                              · refine lv_goto (tgt := 361) hx hb dX11_shift_270 rfl ?_
                                                refine lv_iinc (v := nI (k + 1)) (lv' := [(10, .int (nI (k + 1))), (12, .int 1), (11, .int (nI (wyR (kd f).toInt n kk k))), (9, .int 0), (7, .int 0), (8, .int 0), (6, .int 0), (0, .ref k0), (1, .int (nI f)), (2, .int (nI kk)), (3, .int dx), (4, .int dy), (5, .int (nI rr))]) hx hb dX11_shift_361 hl (k := 2) rfl (nI_add k 1) (Nat.le_of_ble_eq_true rfl) rfl (fun ls hl => ?_)
                                                refine lv_goto (tgt := 203) hx hb dX11_shift_364 rfl ?_
                                                exact ih_203 (k + 1) cx1 cy1 H locs ls (by first | with_reducible assumption | omega) (by first | with_reducible assumption | omega) (by first | exact fgX_u hcx (shV_f (by first | with_reducible assumption | assumption)) | exact fgX_k hcx (shV_t (X := cF40 cx f) (by first | exact Or.inl (by first | with_reducible assumption | omega) | exact Or.inr ⟨by assumption, by omega⟩))) (by first | exact fgX_u hcy (shV_f (by first | with_reducible assumption | assumption)) | exact fgX_k hcy (shV_t (X := cF40 cy f) (by first | exact Or.inl (by first | with_reducible assumption | omega) | exact Or.inr ⟨by assumption, by omega⟩))) hP hD hS (lv_sub hl [0, 3, 4, 5, 6, 7, 8, 9, 10, 11, 12] rfl)
                                            · have c_66 : ((wyR (kd f).toInt n kk k : Nat) : Int) ≤ ((rr : Nat) : Int) := zc_nlt (nI_toInt b9_53) (nI_toInt b9_67) c_66
                                              refine lv_aload_n hx hb dX11_shift_234 rfl (lv_at hl 6 rfl) ?_
                                              refine lv_iload_n hx hb dX11_shift_235 rfl (lv_at hl 7 rfl) ?_
                                              obtain ⟨hPc, hDc, hFc, hI1⟩ := zi_sub (wc := [_, _]) hP hD hS hA [0, 1] rfl rfl
                                              refine zcall (st1 := [.int (pI (5 ≤ (kd f).toInt))]) (va_runV (As := [.int (nI f)]) (rest := []) ⟨hx, hb, hml, hown, hts⟩ (k_M_isRing l dC dI cI cZ cF H.size k0 a (upd (upd (upd I0 26 (nI ln)) 35 (nI n)) 36 (kd f)) J0 f kd (by first | with_reducible assumption | omega)) (csV_165 hts rfl rfl ⟨Nat.le_of_ble_eq_true rfl, Nat.le_of_ble_eq_true rfl⟩) (zPV2 (q0 := 0) (ci := 9) hPc hDc hK hXN rfl rfl) rfl rfl hl.1 rfl (lv_room (Nat.le_of_ble_eq_true rfl)) dX11_shift_236 ⟨Nat.zero_le _, Nat.zero_le _⟩) hS hFc hFc rfl (fun t H locs ht hB hk1 hS => ?_)
                                              obtain ⟨hP1, hD1⟩ := hB
                                              rw [ht] at hP1
                                              replace hP := z0 hP hD hk1 hP1 hI1
                                              clear hk1 hPc hDc hFc hP1 hD1 ht hI1
                                              refine lv_if_ne (tgt := 262) hx hb dX11_shift_239 rfl (fun c_69 => ?_) (fun c_69 => ?_)
                                              · have c_69 : 5 ≤ (kd f).toInt := zp_1 c_69
                                                refine lv_iconst (v := 0) hx hb dX11_shift_262 rfl ?_
                                                refine lv_istore (lv' := [(12, .int 0), (11, .int (nI (wyR (kd f).toInt n kk k))), (10, .int (nI k)), (9, .int 0), (7, .int 0), (8, .int 0), (6, .int 0), (0, .ref k0), (1, .int (nI f)), (2, .int (nI kk)), (3, .int dx), (4, .int dy), (5, .int (nI rr))]) hx hb dX11_shift_263 hl (Nat.le_of_ble_eq_true rfl) rfl (fun ls hl => ?_)
                                                refine lv_iload hx hb dX11_shift_265 (lv_at hl 0 rfl) ?_
                                                refine lv_if_eq (tgt := 273) hx hb dX11_shift_267 rfl (fun c_70 => ?_) (fun c_70 => ?_)
                                                · have hst9 : ¬ (rr < wyR (kd f).toInt n kk k ∨ (¬ 5 ≤ (kd f).toInt ∧ (k = 0 ∨ k = n - 1))) := (by first | exact fun h => h.elim (fun h => by omega) (fun h => absurd (by first | with_reducible assumption | assumption) h.1) | exact fun h => h.elim (fun h => by omega) (fun h => by omega))
                                                  have hwy : wyR (kd f).toInt n kk k ≤ rr := (by have := hst9; omega)
                                                  refine lv_aload_n hx hb dX11_shift_273 rfl (lv_at hl 7 rfl) ?_
                                                  refine va_get (D := (dC, dI)) (ci := 9) (v := .ref (a 12)) (C := RX11) (T := TX11) (N := 55) hx hb hts inX11 hown hK hP 0 rfl rfl 12 (Nat.le_of_ble_eq_true rfl) (hts _ mw_1171) (fun _ h9 => h9) rfl dX11_shift_274 ?_
                                                  refine lv_bipush (v := 40) hx hb dX11_shift_277 rfl ?_
                                                  refine lv_iload_n hx hb dX11_shift_279 rfl (lv_at hl 8 rfl) ?_
                                                  refine lv_imul hx hb dX11_shift_280 ?_
                                                  refine zz_i (v := nI (40 * f)) (pk_mul 40 f) ?_
                                                  refine lv_iload hx hb dX11_shift_281 (lv_at hl 2 rfl) ?_
                                                  refine lv_iadd hx hb dX11_shift_283 ?_
                                                  refine zz_i (v := nI (40 * f + k)) (nI_add (40 * f) k) ?_
                                                  refine lv_aload_n hx hb dX11_shift_284 rfl (lv_at hl 7 rfl) ?_
                                                  refine va_get (D := (dC, dI)) (ci := 9) (v := .ref (a 33)) (C := RX11) (T := TX11) (N := 55) hx hb hts inX11 hown hK hP 0 rfl rfl 33 (Nat.le_of_ble_eq_true rfl) (hts _ mw_1192) (fun _ h9 => h9) rfl dX11_shift_285 ?_
                                                  refine lv_iload hx hb dX11_shift_288 (lv_at hl 2 rfl) ?_
                                                  have b9_71 : k < 42 := by omega
                                                  refine z_iald hx hb hK hP 23 0 rfl rfl (e := k) rfl b9_71 (Nat.le_of_ble_eq_true rfl) dX11_shift_290 ?_
                                                  refine zz_i (v := cF40 cx f k) ((hox _ hk9).1) ?_
                                                  refine lv_iload hx hb dX11_shift_291 (lv_at hl 3 rfl) ?_
                                                  refine lv_if_eq (tgt := 300) hx hb dX11_shift_293 rfl (fun c_72 => ?_) (fun c_72 => ?_)
                                                  · refine lv_iload_n hx hb dX11_shift_300 rfl (lv_at hl 10 rfl) ?_
                                                    refine lv_iload hx hb dX11_shift_301 (lv_at hl 12 rfl) ?_
                                                    refine lv_iconst (v := 1) hx hb dX11_shift_303 rfl ?_
                                                    refine lv_iadd hx hb dX11_shift_304 ?_
                                                    refine zz_i (v := nI (rr + 1)) (nI_add rr 1) ?_
                                                    refine lv_iload hx hb dX11_shift_305 (lv_at hl 1 rfl) ?_
                                                    refine lv_isub hx hb dX11_shift_307 ?_
                                                    refine zz_i (v := nI ((rr + 1) - (wyR (kd f).toInt n kk k))) (pk_sub (a := rr + 1) (b := wyR (kd f).toInt n kk k) (by omega)) ?_
                                                    refine lv_imul hx hb dX11_shift_308 ?_
                                                    refine lv_iload hx hb dX11_shift_309 (lv_at hl 12 rfl) ?_
                                                    refine lv_iconst (v := 1) hx hb dX11_shift_311 rfl ?_
                                                    refine lv_iadd hx hb dX11_shift_312 ?_
                                                    refine zz_i (v := nI (rr + 1)) (nI_add rr 1) ?_
                                                    refine lv_idiv hx hb dX11_shift_313 (nI_ne0 (by omega) (by omega)) ?_
                                                    refine lv_iadd hx hb dX11_shift_314 ?_
                                                    have b9_73 : 40 * f + k < 8040 := by omega
                                                    refine z_iast hx hb hK hP hD hS 12 0 rfl rfl (e := 40 * f + k) (x := (cF40 cx f k) + ((dx * (nI ((rr + 1) - (wyR (kd f).toInt n kk k)))) / (nI (rr + 1)))) rfl b9_73 (Nat.le_of_ble_eq_true rfl) dX11_shift_315 (fun H locs hP hD hS => ?_)
                                                    obtain ⟨hP, hD⟩ := zre (W2 := [_, _, _, _, _, _, _, _, _, _, _, _, (oa (a 12) cI 8040 (upd cx1 (40 * f + k) ((cF40 cx f k) + ((dx * (nI ((rr + 1) - (wyR (kd f).toInt n kk k)))) / (nI (rr + 1)))))), _, _, _, _, _, _, _, _, _, _, _, _, _, _, _, _, _, _, _]) hP hD rfl
                                                    refine lv_aload_n hx hb dX11_shift_316 rfl (lv_at hl 7 rfl) ?_
                                                    refine va_get (D := (dC, dI)) (ci := 9) (v := .ref (a 13)) (C := RX11) (T := TX11) (N := 55) hx hb hts inX11 hown hK hP 0 rfl rfl 13 (Nat.le_of_ble_eq_true rfl) (hts _ mw_1172) (fun _ h9 => h9) rfl dX11_shift_317 ?_
                                                    refine lv_bipush (v := 40) hx hb dX11_shift_320 rfl ?_
                                                    refine lv_iload_n hx hb dX11_shift_322 rfl (lv_at hl 8 rfl) ?_
                                                    refine lv_imul hx hb dX11_shift_323 ?_
                                                    refine zz_i (v := nI (40 * f)) (pk_mul 40 f) ?_
                                                    refine lv_iload hx hb dX11_shift_324 (lv_at hl 2 rfl) ?_
                                                    refine lv_iadd hx hb dX11_shift_326 ?_
                                                    refine zz_i (v := nI (40 * f + k)) (nI_add (40 * f) k) ?_
                                                    refine lv_aload_n hx hb dX11_shift_327 rfl (lv_at hl 7 rfl) ?_
                                                    refine va_get (D := (dC, dI)) (ci := 9) (v := .ref (a 34)) (C := RX11) (T := TX11) (N := 55) hx hb hts inX11 hown hK hP 0 rfl rfl 34 (Nat.le_of_ble_eq_true rfl) (hts _ mw_1193) (fun _ h9 => h9) rfl dX11_shift_328 ?_
                                                    refine lv_iload hx hb dX11_shift_331 (lv_at hl 2 rfl) ?_
                                                    refine z_iald hx hb hK hP 24 0 rfl rfl (e := k) rfl b9_71 (Nat.le_of_ble_eq_true rfl) dX11_shift_333 ?_
                                                    refine zz_i (v := cF40 cy f k) ((hox _ hk9).2) ?_
                                                    refine lv_iload hx hb dX11_shift_334 (lv_at hl 3 rfl) ?_
                                                    refine lv_if_eq (tgt := 344) hx hb dX11_shift_336 rfl (fun c_74 => ?_) (fun c_74 => ?_)
                                                    · refine lv_iload hx hb dX11_shift_344 (lv_at hl 11 rfl) ?_
                                                      refine lv_iload hx hb dX11_shift_346 (lv_at hl 12 rfl) ?_
                                                      refine lv_iconst (v := 1) hx hb dX11_shift_348 rfl ?_
                                                      refine lv_iadd hx hb dX11_shift_349 ?_
                                                      refine zz_i (v := nI (rr + 1)) (nI_add rr 1) ?_
                                                      refine lv_iload hx hb dX11_shift_350 (lv_at hl 1 rfl) ?_
                                                      refine lv_isub hx hb dX11_shift_352 ?_
                                                      refine zz_i (v := nI ((rr + 1) - (wyR (kd f).toInt n kk k))) (pk_sub (a := rr + 1) (b := wyR (kd f).toInt n kk k) (by omega)) ?_
                                                      refine lv_imul hx hb dX11_shift_353 ?_
                                                      refine lv_iload hx hb dX11_shift_354 (lv_at hl 12 rfl) ?_
                                                      refine lv_iconst (v := 1) hx hb dX11_shift_356 rfl ?_
                                                      refine lv_iadd hx hb dX11_shift_357 ?_
                                                      refine zz_i (v := nI (rr + 1)) (nI_add rr 1) ?_
                                                      refine lv_idiv hx hb dX11_shift_358 (nI_ne0 (by omega) (by omega)) ?_
                                                      refine lv_iadd hx hb dX11_shift_359 ?_
                                                      refine z_iast hx hb hK hP hD hS 13 0 rfl rfl (e := 40 * f + k) (x := (cF40 cy f k) + ((dy * (nI ((rr + 1) - (wyR (kd f).toInt n kk k)))) / (nI (rr + 1)))) rfl b9_73 (Nat.le_of_ble_eq_true rfl) dX11_shift_360 (fun H locs hP hD hS => ?_)
                                                      obtain ⟨hP, hD⟩ := zre (W2 := [_, _, _, _, _, _, _, _, _, _, _, _, _, (oa (a 13) cI 8040 (upd cy1 (40 * f + k) ((cF40 cy f k) + ((dy * (nI ((rr + 1) - (wyR (kd f).toInt n kk k)))) / (nI (rr + 1)))))), _, _, _, _, _, _, _, _, _, _, _, _, _, _, _, _, _, _]) hP hD rfl
                                                      refine lv_iinc (v := nI (k + 1)) (lv' := [(10, .int (nI (k + 1))), (12, .int 0), (11, .int (nI (wyR (kd f).toInt n kk k))), (9, .int 0), (7, .int 0), (8, .int 0), (6, .int 0), (0, .ref k0), (1, .int (nI f)), (2, .int (nI kk)), (3, .int dx), (4, .int dy), (5, .int (nI rr))]) hx hb dX11_shift_361 hl (k := 2) rfl (nI_add k 1) (Nat.le_of_ble_eq_true rfl) rfl (fun ls hl => ?_)
                                                      refine lv_goto (tgt := 203) hx hb dX11_shift_364 rfl ?_
                                                      exact ih_203 (k + 1) (upd cx1 (40 * f + k) ((cF40 cx f k) + ((dx * (nI ((rr + 1) - (wyR (kd f).toInt n kk k)))) / (nI (rr + 1))))) (upd cy1 (40 * f + k) ((cF40 cy f k) + ((dy * (nI ((rr + 1) - (wyR (kd f).toInt n kk k)))) / (nI (rr + 1))))) H locs ls (by first | with_reducible assumption | omega) (by first | with_reducible assumption | omega) (by first | exact fgX_u hcx (shV_f (by first | with_reducible assumption | assumption)) | exact fgX_k hcx (shV_t (X := cF40 cx f) (by first | exact Or.inl (by first | with_reducible assumption | omega) | exact Or.inr ⟨by assumption, by omega⟩))) (by first | exact fgX_u hcy (shV_f (by first | with_reducible assumption | assumption)) | exact fgX_k hcy (shV_t (X := cF40 cy f) (by first | exact Or.inl (by first | with_reducible assumption | omega) | exact Or.inr ⟨by assumption, by omega⟩))) hP hD hS (lv_sub hl [0, 3, 4, 5, 6, 7, 8, 9, 10, 11, 12] rfl)
                                                    · exact absurd (by decide) c_74
                                                  · exact absurd (by decide) c_72
                                                · exact absurd (by decide) c_70
                                              · have c_69 : ¬ (5 ≤ (kd f).toInt) := zp_0 c_69
                                                refine lv_iload hx hb dX11_shift_242 (lv_at hl 1 rfl) ?_
                                                refine lv_if_eq (tgt := 258) hx hb dX11_shift_244 rfl (fun c_75 => ?_) (fun c_75 => ?_)
                                                · have c_75 : ((k : Nat) : Int) = 0 := zc_eq (nI_toInt b9_62) rfl c_75
                                                  refine lv_iconst (v := 1) hx hb dX11_shift_258 rfl ?_
                                                  refine lv_goto (tgt := 263) hx hb dX11_shift_259 rfl ?_
                                                  refine lv_istore (lv' := [(12, .int 1), (11, .int (nI (wyR (kd f).toInt n kk k))), (10, .int (nI k)), (9, .int 0), (7, .int 0), (8, .int 0), (6, .int 0), (0, .ref k0), (1, .int (nI f)), (2, .int (nI kk)), (3, .int dx), (4, .int dy), (5, .int (nI rr))]) hx hb dX11_shift_263 hl (Nat.le_of_ble_eq_true rfl) rfl (fun ls hl => ?_)
                                                  refine lv_iload hx hb dX11_shift_265 (lv_at hl 0 rfl) ?_
                                                  refine lv_if_eq (tgt := 273) hx hb dX11_shift_267 rfl (fun c_76 => ?_) (fun c_76 => ?_)
                                                  · exact absurd c_76 (by decide)
                                                  · refine lv_goto (tgt := 361) hx hb dX11_shift_270 rfl ?_
                                                    refine lv_iinc (v := nI (k + 1)) (lv' := [(10, .int (nI (k + 1))), (12, .int 1), (11, .int (nI (wyR (kd f).toInt n kk k))), (9, .int 0), (7, .int 0), (8, .int 0), (6, .int 0), (0, .ref k0), (1, .int (nI f)), (2, .int (nI kk)), (3, .int dx), (4, .int dy), (5, .int (nI rr))]) hx hb dX11_shift_361 hl (k := 2) rfl (nI_add k 1) (Nat.le_of_ble_eq_true rfl) rfl (fun ls hl => ?_)
                                                    refine lv_goto (tgt := 203) hx hb dX11_shift_364 rfl ?_
                                                    exact ih_203 (k + 1) cx1 cy1 H locs ls (by first | with_reducible assumption | omega) (by first | with_reducible assumption | omega) (by first | exact fgX_u hcx (shV_f (by first | with_reducible assumption | assumption)) | exact fgX_k hcx (shV_t (X := cF40 cx f) (by first | exact Or.inl (by first | with_reducible assumption | omega) | exact Or.inr ⟨by assumption, by omega⟩))) (by first | exact fgX_u hcy (shV_f (by first | with_reducible assumption | assumption)) | exact fgX_k hcy (shV_t (X := cF40 cy f) (by first | exact Or.inl (by first | with_reducible assumption | omega) | exact Or.inr ⟨by assumption, by omega⟩))) hP hD hS (lv_sub hl [0, 3, 4, 5, 6, 7, 8, 9, 10, 11, 12] rfl)
                                                · have c_75 : ¬ ((k : Nat) : Int) = 0 := zc_ne (nI_toInt b9_62) rfl c_75
                                                  refine lv_iload hx hb dX11_shift_247 (lv_at hl 1 rfl) ?_
                                                  refine lv_aload_n hx hb dX11_shift_249 rfl (lv_at hl 6 rfl) ?_
                                                  refine va_get (D := (dC, dI)) (ci := 9) (v := .int (nI n)) (C := RX11) (T := TX11) (N := 55) hx hb hts inX11 hown hK hP 0 rfl rfl 35 (Nat.le_of_ble_eq_true rfl) (hts _ mw_1194) (fun _ h9 => h9) rfl dX11_shift_250 ?_
                                                  refine lv_iconst (v := 1) hx hb dX11_shift_253 rfl ?_
                                                  refine lv_isub hx hb dX11_shift_254 ?_
                                                  refine zz_i (v := nI (n - 1)) (pk_sub (a := n) (b := 1) (by omega)) ?_
                                                  have b9_78 : zlt ((n - 1)) := show (n - 1) < 2147483648 by omega
                                                  refine lv_icmp_ne (tgt := 262) hx hb dX11_shift_255 rfl (fun c_77 => ?_) (fun c_77 => ?_)
                                                  · have c_77 : ¬ ((k : Nat) : Int) = ((n - 1 : Nat) : Int) := zc_ne (nI_toInt b9_62) (nI_toInt b9_78) c_77
                                                    refine lv_iconst (v := 0) hx hb dX11_shift_262 rfl ?_
                                                    refine lv_istore (lv' := [(12, .int 0), (11, .int (nI (wyR (kd f).toInt n kk k))), (10, .int (nI k)), (9, .int 0), (7, .int 0), (8, .int 0), (6, .int 0), (0, .ref k0), (1, .int (nI f)), (2, .int (nI kk)), (3, .int dx), (4, .int dy), (5, .int (nI rr))]) hx hb dX11_shift_263 hl (Nat.le_of_ble_eq_true rfl) rfl (fun ls hl => ?_)
                                                    refine lv_iload hx hb dX11_shift_265 (lv_at hl 0 rfl) ?_
                                                    refine lv_if_eq (tgt := 273) hx hb dX11_shift_267 rfl (fun c_79 => ?_) (fun c_79 => ?_)
                                                    · have hst9 : ¬ (rr < wyR (kd f).toInt n kk k ∨ (¬ 5 ≤ (kd f).toInt ∧ (k = 0 ∨ k = n - 1))) := (by first | exact fun h => h.elim (fun h => by omega) (fun h => absurd (by first | with_reducible assumption | assumption) h.1) | exact fun h => h.elim (fun h => by omega) (fun h => by omega))
                                                      have hwy : wyR (kd f).toInt n kk k ≤ rr := (by have := hst9; omega)
                                                      refine lv_aload_n hx hb dX11_shift_273 rfl (lv_at hl 7 rfl) ?_
                                                      refine va_get (D := (dC, dI)) (ci := 9) (v := .ref (a 12)) (C := RX11) (T := TX11) (N := 55) hx hb hts inX11 hown hK hP 0 rfl rfl 12 (Nat.le_of_ble_eq_true rfl) (hts _ mw_1171) (fun _ h9 => h9) rfl dX11_shift_274 ?_
                                                      refine lv_bipush (v := 40) hx hb dX11_shift_277 rfl ?_
                                                      refine lv_iload_n hx hb dX11_shift_279 rfl (lv_at hl 8 rfl) ?_
                                                      refine lv_imul hx hb dX11_shift_280 ?_
                                                      refine zz_i (v := nI (40 * f)) (pk_mul 40 f) ?_
                                                      refine lv_iload hx hb dX11_shift_281 (lv_at hl 2 rfl) ?_
                                                      refine lv_iadd hx hb dX11_shift_283 ?_
                                                      refine zz_i (v := nI (40 * f + k)) (nI_add (40 * f) k) ?_
                                                      refine lv_aload_n hx hb dX11_shift_284 rfl (lv_at hl 7 rfl) ?_
                                                      refine va_get (D := (dC, dI)) (ci := 9) (v := .ref (a 33)) (C := RX11) (T := TX11) (N := 55) hx hb hts inX11 hown hK hP 0 rfl rfl 33 (Nat.le_of_ble_eq_true rfl) (hts _ mw_1192) (fun _ h9 => h9) rfl dX11_shift_285 ?_
                                                      refine lv_iload hx hb dX11_shift_288 (lv_at hl 2 rfl) ?_
                                                      have b9_80 : k < 42 := by omega
                                                      refine z_iald hx hb hK hP 23 0 rfl rfl (e := k) rfl b9_80 (Nat.le_of_ble_eq_true rfl) dX11_shift_290 ?_
                                                      refine zz_i (v := cF40 cx f k) ((hox _ hk9).1) ?_
                                                      refine lv_iload hx hb dX11_shift_291 (lv_at hl 3 rfl) ?_
                                                      refine lv_if_eq (tgt := 300) hx hb dX11_shift_293 rfl (fun c_81 => ?_) (fun c_81 => ?_)
                                                      · refine lv_iload_n hx hb dX11_shift_300 rfl (lv_at hl 10 rfl) ?_
                                                        refine lv_iload hx hb dX11_shift_301 (lv_at hl 12 rfl) ?_
                                                        refine lv_iconst (v := 1) hx hb dX11_shift_303 rfl ?_
                                                        refine lv_iadd hx hb dX11_shift_304 ?_
                                                        refine zz_i (v := nI (rr + 1)) (nI_add rr 1) ?_
                                                        refine lv_iload hx hb dX11_shift_305 (lv_at hl 1 rfl) ?_
                                                        refine lv_isub hx hb dX11_shift_307 ?_
                                                        refine zz_i (v := nI ((rr + 1) - (wyR (kd f).toInt n kk k))) (pk_sub (a := rr + 1) (b := wyR (kd f).toInt n kk k) (by omega)) ?_
                                                        refine lv_imul hx hb dX11_shift_308 ?_
                                                        refine lv_iload hx hb dX11_shift_309 (lv_at hl 12 rfl) ?_
                                                        refine lv_iconst (v := 1) hx hb dX11_shift_311 rfl ?_
                                                        refine lv_iadd hx hb dX11_shift_312 ?_
                                                        refine zz_i (v := nI (rr + 1)) (nI_add rr 1) ?_
                                                        refine lv_idiv hx hb dX11_shift_313 (nI_ne0 (by omega) (by omega)) ?_
                                                        refine lv_iadd hx hb dX11_shift_314 ?_
                                                        have b9_82 : 40 * f + k < 8040 := by omega
                                                        refine z_iast hx hb hK hP hD hS 12 0 rfl rfl (e := 40 * f + k) (x := (cF40 cx f k) + ((dx * (nI ((rr + 1) - (wyR (kd f).toInt n kk k)))) / (nI (rr + 1)))) rfl b9_82 (Nat.le_of_ble_eq_true rfl) dX11_shift_315 (fun H locs hP hD hS => ?_)
                                                        obtain ⟨hP, hD⟩ := zre (W2 := [_, _, _, _, _, _, _, _, _, _, _, _, (oa (a 12) cI 8040 (upd cx1 (40 * f + k) ((cF40 cx f k) + ((dx * (nI ((rr + 1) - (wyR (kd f).toInt n kk k)))) / (nI (rr + 1)))))), _, _, _, _, _, _, _, _, _, _, _, _, _, _, _, _, _, _, _]) hP hD rfl
                                                        refine lv_aload_n hx hb dX11_shift_316 rfl (lv_at hl 7 rfl) ?_
                                                        refine va_get (D := (dC, dI)) (ci := 9) (v := .ref (a 13)) (C := RX11) (T := TX11) (N := 55) hx hb hts inX11 hown hK hP 0 rfl rfl 13 (Nat.le_of_ble_eq_true rfl) (hts _ mw_1172) (fun _ h9 => h9) rfl dX11_shift_317 ?_
                                                        refine lv_bipush (v := 40) hx hb dX11_shift_320 rfl ?_
                                                        refine lv_iload_n hx hb dX11_shift_322 rfl (lv_at hl 8 rfl) ?_
                                                        refine lv_imul hx hb dX11_shift_323 ?_
                                                        refine zz_i (v := nI (40 * f)) (pk_mul 40 f) ?_
                                                        refine lv_iload hx hb dX11_shift_324 (lv_at hl 2 rfl) ?_
                                                        refine lv_iadd hx hb dX11_shift_326 ?_
                                                        refine zz_i (v := nI (40 * f + k)) (nI_add (40 * f) k) ?_
                                                        refine lv_aload_n hx hb dX11_shift_327 rfl (lv_at hl 7 rfl) ?_
                                                        refine va_get (D := (dC, dI)) (ci := 9) (v := .ref (a 34)) (C := RX11) (T := TX11) (N := 55) hx hb hts inX11 hown hK hP 0 rfl rfl 34 (Nat.le_of_ble_eq_true rfl) (hts _ mw_1193) (fun _ h9 => h9) rfl dX11_shift_328 ?_
                                                        refine lv_iload hx hb dX11_shift_331 (lv_at hl 2 rfl) ?_
                                                        refine z_iald hx hb hK hP 24 0 rfl rfl (e := k) rfl b9_80 (Nat.le_of_ble_eq_true rfl) dX11_shift_333 ?_
                                                        refine zz_i (v := cF40 cy f k) ((hox _ hk9).2) ?_
                                                        refine lv_iload hx hb dX11_shift_334 (lv_at hl 3 rfl) ?_
                                                        refine lv_if_eq (tgt := 344) hx hb dX11_shift_336 rfl (fun c_83 => ?_) (fun c_83 => ?_)
                                                        · refine lv_iload hx hb dX11_shift_344 (lv_at hl 11 rfl) ?_
                                                          refine lv_iload hx hb dX11_shift_346 (lv_at hl 12 rfl) ?_
                                                          refine lv_iconst (v := 1) hx hb dX11_shift_348 rfl ?_
                                                          refine lv_iadd hx hb dX11_shift_349 ?_
                                                          refine zz_i (v := nI (rr + 1)) (nI_add rr 1) ?_
                                                          refine lv_iload hx hb dX11_shift_350 (lv_at hl 1 rfl) ?_
                                                          refine lv_isub hx hb dX11_shift_352 ?_
                                                          refine zz_i (v := nI ((rr + 1) - (wyR (kd f).toInt n kk k))) (pk_sub (a := rr + 1) (b := wyR (kd f).toInt n kk k) (by omega)) ?_
                                                          refine lv_imul hx hb dX11_shift_353 ?_
                                                          refine lv_iload hx hb dX11_shift_354 (lv_at hl 12 rfl) ?_
                                                          refine lv_iconst (v := 1) hx hb dX11_shift_356 rfl ?_
                                                          refine lv_iadd hx hb dX11_shift_357 ?_
                                                          refine zz_i (v := nI (rr + 1)) (nI_add rr 1) ?_
                                                          refine lv_idiv hx hb dX11_shift_358 (nI_ne0 (by omega) (by omega)) ?_
                                                          refine lv_iadd hx hb dX11_shift_359 ?_
                                                          refine z_iast hx hb hK hP hD hS 13 0 rfl rfl (e := 40 * f + k) (x := (cF40 cy f k) + ((dy * (nI ((rr + 1) - (wyR (kd f).toInt n kk k)))) / (nI (rr + 1)))) rfl b9_82 (Nat.le_of_ble_eq_true rfl) dX11_shift_360 (fun H locs hP hD hS => ?_)
                                                          obtain ⟨hP, hD⟩ := zre (W2 := [_, _, _, _, _, _, _, _, _, _, _, _, _, (oa (a 13) cI 8040 (upd cy1 (40 * f + k) ((cF40 cy f k) + ((dy * (nI ((rr + 1) - (wyR (kd f).toInt n kk k)))) / (nI (rr + 1)))))), _, _, _, _, _, _, _, _, _, _, _, _, _, _, _, _, _, _]) hP hD rfl
                                                          refine lv_iinc (v := nI (k + 1)) (lv' := [(10, .int (nI (k + 1))), (12, .int 0), (11, .int (nI (wyR (kd f).toInt n kk k))), (9, .int 0), (7, .int 0), (8, .int 0), (6, .int 0), (0, .ref k0), (1, .int (nI f)), (2, .int (nI kk)), (3, .int dx), (4, .int dy), (5, .int (nI rr))]) hx hb dX11_shift_361 hl (k := 2) rfl (nI_add k 1) (Nat.le_of_ble_eq_true rfl) rfl (fun ls hl => ?_)
                                                          refine lv_goto (tgt := 203) hx hb dX11_shift_364 rfl ?_
                                                          exact ih_203 (k + 1) (upd cx1 (40 * f + k) ((cF40 cx f k) + ((dx * (nI ((rr + 1) - (wyR (kd f).toInt n kk k)))) / (nI (rr + 1))))) (upd cy1 (40 * f + k) ((cF40 cy f k) + ((dy * (nI ((rr + 1) - (wyR (kd f).toInt n kk k)))) / (nI (rr + 1))))) H locs ls (by first | with_reducible assumption | omega) (by first | with_reducible assumption | omega) (by first | exact fgX_u hcx (shV_f (by first | with_reducible assumption | assumption)) | exact fgX_k hcx (shV_t (X := cF40 cx f) (by first | exact Or.inl (by first | with_reducible assumption | omega) | exact Or.inr ⟨by assumption, by omega⟩))) (by first | exact fgX_u hcy (shV_f (by first | with_reducible assumption | assumption)) | exact fgX_k hcy (shV_t (X := cF40 cy f) (by first | exact Or.inl (by first | with_reducible assumption | omega) | exact Or.inr ⟨by assumption, by omega⟩))) hP hD hS (lv_sub hl [0, 3, 4, 5, 6, 7, 8, 9, 10, 11, 12] rfl)
                                                        · exact absurd (by decide) c_83
                                                      · exact absurd (by decide) c_81
                                                    · exact absurd (by decide) c_79
                                                  · have c_77 : ((k : Nat) : Int) = ((n - 1 : Nat) : Int) := zc_eq (nI_toInt b9_62) (nI_toInt b9_78) c_77
                                                    refine lv_iconst (v := 1) hx hb dX11_shift_258 rfl ?_
                                                    refine lv_goto (tgt := 263) hx hb dX11_shift_259 rfl ?_
                                                    refine lv_istore (lv' := [(12, .int 1), (11, .int (nI (wyR (kd f).toInt n kk k))), (10, .int (nI k)), (9, .int 0), (7, .int 0), (8, .int 0), (6, .int 0), (0, .ref k0), (1, .int (nI f)), (2, .int (nI kk)), (3, .int dx), (4, .int dy), (5, .int (nI rr))]) hx hb dX11_shift_263 hl (Nat.le_of_ble_eq_true rfl) rfl (fun ls hl => ?_)
                                                    refine lv_iload hx hb dX11_shift_265 (lv_at hl 0 rfl) ?_
                                                    refine lv_if_eq (tgt := 273) hx hb dX11_shift_267 rfl (fun c_84 => ?_) (fun c_84 => ?_)
                                                    · exact absurd c_84 (by decide)
                                                    · refine lv_goto (tgt := 361) hx hb dX11_shift_270 rfl ?_
                                                      refine lv_iinc (v := nI (k + 1)) (lv' := [(10, .int (nI (k + 1))), (12, .int 1), (11, .int (nI (wyR (kd f).toInt n kk k))), (9, .int 0), (7, .int 0), (8, .int 0), (6, .int 0), (0, .ref k0), (1, .int (nI f)), (2, .int (nI kk)), (3, .int dx), (4, .int dy), (5, .int (nI rr))]) hx hb dX11_shift_361 hl (k := 2) rfl (nI_add k 1) (Nat.le_of_ble_eq_true rfl) rfl (fun ls hl => ?_)
                                                      refine lv_goto (tgt := 203) hx hb dX11_shift_364 rfl ?_
                                                      exact ih_203 (k + 1) cx1 cy1 H locs ls (by first | with_reducible assumption | omega) (by first | with_reducible assumption | omega) (by first | exact fgX_u hcx (shV_f (by first | with_reducible assumption | assumption)) | exact fgX_k hcx (shV_t (X := cF40 cx f) (by first | exact Or.inl (by first | with_reducible assumption | omega) | exact Or.inr ⟨by assumption, by omega⟩))) (by first | exact fgX_u hcy (shV_f (by first | with_reducible assumption | assumption)) | exact fgX_k hcy (shV_t (X := cF40 cy f) (by first | exact Or.inl (by first | with_reducible assumption | omega) | exact Or.inr ⟨by assumption, by omega⟩))) hP hD hS (lv_sub hl [0, 3, 4, 5, 6, 7, 8, 9, 10, 11, 12] rfl)
                                    exact hl_203 _ 0 cx cy H locs ls (Nat.lt_succ_self _) (by first | with_reducible assumption | omega) (fgX_0 _ _ _) (fgX_0 _ _ _) hP hD hS (lv_sub hl [0, 1, 2, 3, 4, 5, 6, 7, 8, 9, 10] rfl)
                                  · have c_60 : (kd f).toInt = 6 := zc_eq rfl rfl c_60
                                    exfalso; omega
                              · exact absurd (by decide) c_58
                            · have c_57 : ¬ (tn f).toInt = 0 := zc_ne rfl rfl c_57
                              exfalso; omega
                          · exact absurd (by decide) c_56
                        · exact absurd (by decide) c_55
                      · have c_54 : 20 < ((rr : Nat) : Int) := zc_nle (nI_toInt b9_53) rfl c_54
                        exfalso; omega
          · have c_47 : ¬ (st f).toInt = 1 := zc_ne rfl rfl c_47
            exfalso; omega
        · exact absurd (by decide) c_46
    · have c_44 : (tn f).toInt = 0 := zc_eq rfl rfl c_44
      refine lv_iload_n hx hb dX11_shift_17 rfl (lv_at hl 2 rfl) ?_
      have b9_86 : zlt (kk) := show kk < 2147483648 by omega
      refine lv_if_lt (tgt := 31) hx hb dX11_shift_18 rfl (fun c_85 => ?_) (fun c_85 => ?_)
      · have c_85 : ((kk : Nat) : Int) < 0 := zc_lt (nI_toInt b9_86) rfl c_85
        exfalso; omega
      · have c_85 : 0 ≤ ((kk : Nat) : Int) := zc_nlt (nI_toInt b9_86) rfl c_85
        refine lv_iload_n hx hb dX11_shift_21 rfl (lv_at hl 2 rfl) ?_
        refine lv_aload_n hx hb dX11_shift_22 rfl (lv_at hl 0 rfl) ?_
        refine va_get (D := (dC, dI)) (ci := 9) (v := .ref (a 11)) (C := RX11) (T := TX11) (N := 55) hx hb hts inX11 hown hK hP 0 rfl rfl 11 (Nat.le_of_ble_eq_true rfl) (hts _ mw_1170) (fun _ h9 => h9) rfl dX11_shift_23 ?_
        refine lv_iload_n hx hb dX11_shift_26 rfl (lv_at hl 1 rfl) ?_
        refine z_iald hx hb hK hP 11 0 rfl rfl (e := f) rfl b9_43 (Nat.le_of_ble_eq_true rfl) dX11_shift_27 ?_
        refine zz_i (v := nI n) (hm_f) ?_
        have b9_88 : zlt (n) := show n < 2147483648 by omega
        refine lv_icmp_lt (tgt := 35) hx hb dX11_shift_28 rfl (fun c_87 => ?_) (fun c_87 => ?_)
        · have c_87 : ((kk : Nat) : Int) < ((n : Nat) : Int) := zc_lt (nI_toInt b9_86) (nI_toInt b9_88) c_87
          refine lv_iconst (v := 0) hx hb dX11_shift_35 rfl ?_
          refine lv_istore (lv' := [(6, .int 0), (0, .ref k0), (1, .int (nI f)), (2, .int (nI kk)), (3, .int dx), (4, .int dy), (5, .int (nI rr))]) hx hb dX11_shift_36 hl (Nat.le_of_ble_eq_true rfl) rfl (fun ls hl => ?_)
          refine lv_aload_n hx hb dX11_shift_38 rfl (lv_at hl 1 rfl) ?_
          refine lv_iload_n hx hb dX11_shift_39 rfl (lv_at hl 2 rfl) ?_
          obtain ⟨hPc, hDc, hFc, hI1⟩ := zi_sub (wc := [_]) hP hD hS hA [0] rfl rfl
          refine zcall (st1 := [.int (pI (f < ft))]) (va_runV (As := [.int (nI f)]) (rest := []) ⟨hx, hb, hml, hown, hts⟩ (k_M_isFeature_n l dC dI cI cZ cF H.size k0 a (upd I0 26 (nI ln)) J0 f ft (by first | with_reducible assumption | assumption) (by first | with_reducible assumption | omega) (by first | with_reducible assumption | omega)) (csV_178 hts rfl rfl ⟨Nat.le_of_ble_eq_true rfl, Nat.le_of_ble_eq_true rfl⟩) (zPV2 (q0 := 0) (ci := 9) hPc hDc hK hXN rfl rfl) rfl rfl hl.1 rfl (lv_room (Nat.le_of_ble_eq_true rfl)) dX11_shift_40 ⟨Nat.zero_le _, Nat.zero_le _⟩) hS hFc hFc rfl (fun t H locs ht hB hk1 hS => ?_)
          obtain ⟨hP1, hD1⟩ := hB
          rw [ht] at hP1
          replace hP := z0 hP hD hk1 hP1 hI1
          clear hk1 hPc hDc hFc hP1 hD1 ht hI1
          refine lv_if_eq (tgt := 51) hx hb dX11_shift_43 rfl (fun c_89 => ?_) (fun c_89 => ?_)
          · have c_89 : ¬ (f < ft) := zp_0 c_89
            exfalso; omega
          · have c_89 : f < ft := zp_1 c_89
            refine lv_iload hx hb dX11_shift_46 (lv_at hl 0 rfl) ?_
            refine lv_if_eq (tgt := 55) hx hb dX11_shift_48 rfl (fun c_90 => ?_) (fun c_90 => ?_)
            · refine lv_aload_n hx hb dX11_shift_55 rfl (lv_at hl 1 rfl) ?_
              refine va_get (D := (dC, dI)) (ci := 9) (v := .ref (a 5)) (C := RX11) (T := TX11) (N := 55) hx hb hts inX11 hown hK hP 0 rfl rfl 5 (Nat.le_of_ble_eq_true rfl) (hts _ mw_1164) (fun _ h9 => h9) rfl dX11_shift_56 ?_
              refine lv_iload_n hx hb dX11_shift_59 rfl (lv_at hl 2 rfl) ?_
              refine z_iald hx hb hK hP 2 0 rfl rfl (e := f) rfl b9_43 (Nat.le_of_ble_eq_true rfl) dX11_shift_60 ?_
              refine lv_iconst (v := 1) hx hb dX11_shift_61 rfl ?_
              refine lv_icmp_eq (tgt := 69) hx hb dX11_shift_62 rfl (fun c_91 => ?_) (fun c_91 => ?_)
              · have c_91 : (st f).toInt = 1 := zc_eq rfl rfl c_91
                refine lv_iconst (v := 0) hx hb dX11_shift_69 rfl ?_
                refine lv_istore (lv' := [(7, .int 0), (6, .int 0), (0, .ref k0), (1, .int (nI f)), (2, .int (nI kk)), (3, .int dx), (4, .int dy), (5, .int (nI rr))]) hx hb dX11_shift_70 hl (Nat.le_of_ble_eq_true rfl) rfl (fun ls hl => ?_)
                refine lv_iload_n hx hb dX11_shift_72 rfl (lv_at hl 5 rfl) ?_
                refine lv_sipush (v := (-200)) hx hb dX11_shift_73 rfl ?_
                refine lv_icmp_lt (tgt := 114) hx hb dX11_shift_76 rfl (fun c_92 => ?_) (fun c_92 => ?_)
                · have c_92 : dx.toInt < (-200) := zc_lt rfl rfl c_92
                  exfalso; omega
                · have c_92 : (-200) ≤ dx.toInt := zc_nlt rfl rfl c_92
                  refine lv_iload_n hx hb dX11_shift_79 rfl (lv_at hl 5 rfl) ?_
                  refine lv_sipush (v := 200) hx hb dX11_shift_80 rfl ?_
                  refine lv_icmp_gt (tgt := 114) hx hb dX11_shift_83 rfl (fun c_93 => ?_) (fun c_93 => ?_)
                  · have c_93 : 200 < dx.toInt := zc_lt rfl rfl c_93
                    exfalso; omega
                  · have c_93 : dx.toInt ≤ 200 := zc_nlt rfl rfl c_93
                    refine lv_iload hx hb dX11_shift_86 (lv_at hl 6 rfl) ?_
                    refine lv_sipush (v := (-200)) hx hb dX11_shift_88 rfl ?_
                    refine lv_icmp_lt (tgt := 114) hx hb dX11_shift_91 rfl (fun c_94 => ?_) (fun c_94 => ?_)
                    · have c_94 : dy.toInt < (-200) := zc_lt rfl rfl c_94
                      exfalso; omega
                    · have c_94 : (-200) ≤ dy.toInt := zc_nlt rfl rfl c_94
                      refine lv_iload hx hb dX11_shift_94 (lv_at hl 6 rfl) ?_
                      refine lv_sipush (v := 200) hx hb dX11_shift_96 rfl ?_
                      refine lv_icmp_gt (tgt := 114) hx hb dX11_shift_99 rfl (fun c_95 => ?_) (fun c_95 => ?_)
                      · have c_95 : 200 < dy.toInt := zc_lt rfl rfl c_95
                        exfalso; omega
                      · have c_95 : dy.toInt ≤ 200 := zc_nlt rfl rfl c_95
                        refine lv_iload hx hb dX11_shift_102 (lv_at hl 7 rfl) ?_
                        have b9_97 : zlt (rr) := show rr < 2147483648 by omega
                        refine lv_if_lt (tgt := 114) hx hb dX11_shift_104 rfl (fun c_96 => ?_) (fun c_96 => ?_)
                        · have c_96 : ((rr : Nat) : Int) < 0 := zc_lt (nI_toInt b9_97) rfl c_96
                          exfalso; omega
                        · have c_96 : 0 ≤ ((rr : Nat) : Int) := zc_nlt (nI_toInt b9_97) rfl c_96
                          refine lv_iload hx hb dX11_shift_107 (lv_at hl 7 rfl) ?_
                          refine lv_bipush (v := 20) hx hb dX11_shift_109 rfl ?_
                          refine lv_icmp_le (tgt := 118) hx hb dX11_shift_111 rfl (fun c_98 => ?_) (fun c_98 => ?_)
                          · have c_98 : ((rr : Nat) : Int) ≤ 20 := zc_le (nI_toInt b9_97) rfl c_98
                            refine lv_iconst (v := 0) hx hb dX11_shift_118 rfl ?_
                            refine lv_istore (lv' := [(8, .int 0), (7, .int 0), (6, .int 0), (0, .ref k0), (1, .int (nI f)), (2, .int (nI kk)), (3, .int dx), (4, .int dy), (5, .int (nI rr))]) hx hb dX11_shift_119 hl (Nat.le_of_ble_eq_true rfl) rfl (fun ls hl => ?_)
                            refine lv_iload hx hb dX11_shift_121 (lv_at hl 1 rfl) ?_
                            refine lv_if_le (tgt := 131) hx hb dX11_shift_123 rfl (fun c_99 => ?_) (fun c_99 => ?_)
                            · refine lv_iload hx hb dX11_shift_131 (lv_at hl 0 rfl) ?_
                              refine lv_if_eq (tgt := 140) hx hb dX11_shift_133 rfl (fun c_100 => ?_) (fun c_100 => ?_)
                              · refine lv_aload_n hx hb dX11_shift_140 rfl (lv_at hl 3 rfl) ?_
                                refine va_get (D := (dC, dI)) (ci := 9) (v := .ref (a 6)) (C := RX11) (T := TX11) (N := 55) hx hb hts inX11 hown hK hP 0 rfl rfl 6 (Nat.le_of_ble_eq_true rfl) (hts _ mw_1165) (fun _ h9 => h9) rfl dX11_shift_141 ?_
                                refine lv_iload_n hx hb dX11_shift_144 rfl (lv_at hl 4 rfl) ?_
                                refine z_zald hx hb hK hP 10 1 rfl rfl (e := f) rfl b9_43 (Nat.le_of_ble_eq_true rfl) dX11_shift_145 ?_
                                refine lv_if_eq (tgt := 153) hx hb dX11_shift_146 rfl (fun c_101 => ?_) (fun c_101 => ?_)
                                · have c_101 : (tn f).toInt = 0 := zc_eq rfl rfl c_101
                                  refine lv_iconst (v := 0) hx hb dX11_shift_153 rfl ?_
                                  refine lv_istore (lv' := [(7, .int 0), (8, .int 0), (6, .int 0), (0, .ref k0), (1, .int (nI f)), (2, .int (nI kk)), (3, .int dx), (4, .int dy), (5, .int (nI rr))]) hx hb dX11_shift_154 hl (Nat.le_of_ble_eq_true rfl) rfl (fun ls hl => ?_)
                                  refine lv_iload hx hb dX11_shift_156 (lv_at hl 0 rfl) ?_
                                  refine lv_if_le (tgt := 168) hx hb dX11_shift_158 rfl (fun c_102 => ?_) (fun c_102 => ?_)
                                  · refine lv_aload_n hx hb dX11_shift_168 rfl (lv_at hl 3 rfl) ?_
                                    refine lv_iload_n hx hb dX11_shift_169 rfl (lv_at hl 4 rfl) ?_
                                    obtain ⟨hPc, hDc, hFc⟩ := zo_sub (wc := [_, _, _, _, _, _, _, _, _, _, _, _, _]) hP hD hS hA [0, 2, 10, 1, 11, 12, 13, 19, 23, 24, 25, 26, 27] (by decide +kernel) rfl
                                    refine zcall (st1 := []) (va_runV (As := [.int (nI f)]) (rest := []) ⟨hx, hb, hml, hown, hts⟩ (k_M_remember l dC dI cI cZ cF H.size k0 a (upd I0 26 (nI ln)) J0 f n ft st tn kd mn cx cy S0 ox oy mt wi ins (by first | with_reducible assumption | assumption) (by first | with_reducible assumption | omega) (by first | with_reducible assumption | omega) (by first | with_reducible assumption | assumption) (by first | with_reducible assumption | omega) (by first | with_reducible assumption | assumption) (fun q h1 _ => hwf q h1)) (csV_190 hts rfl rfl ⟨Nat.le_of_ble_eq_true rfl, Nat.le_of_ble_eq_true rfl⟩) (zPV2 (q0 := 0) (ci := 9) hPc hDc hK hXN rfl rfl) rfl rfl hl.1 rfl (lv_room (Nat.le_of_ble_eq_true rfl)) dX11_shift_170 ⟨Nat.zero_le _, Nat.zero_le _⟩) hS hFc hFc rfl (fun t H locs ht hB hk1 hS => ?_)
                                    refine ex6 hB (fun S1 ox1 oy1 mt1 wi1 ins1 hB0 => ?_)
                                    clear hB
                                    obtain ⟨hox, hmt, hwi, hin, hP1, hD1⟩ := hB0
                                    rw [ht] at hP1
                                    obtain ⟨hP, hD⟩ := zn (W2 := [(om k0 a (upd (upd (upd I0 26 (nI ln)) 35 (nI n)) 36 (kd f)) J0), _, _, _, _, _, _, _, _, _, _, _, _, _, _, _, _, _, _, (oa (a 32) cI 8 S1), _, _, _, (oa (a 33) cI 42 ox1), (oa (a 34) cI 42 oy1), (oa (a 37) cZ 201 mt1), (oa (a 38) cZ 201 wi1), (oa (a 39) cZ 8040 ins1), _, _, _, _]) hP hD hk1 hFc hP1 hD1 zl_194 zl_195 zl_195 zl_194 (by decide +kernel) rfl rfl rfl rfl rfl
                                    clear hk1 hPc hDc hFc hP1 hD1 ht
                                    refine lv_aload_n hx hb dX11_shift_173 rfl (lv_at hl 3 rfl) ?_
                                    refine va_get (D := (dC, dI)) (ci := 9) (v := .ref (a 1)) (C := RX11) (T := TX11) (N := 55) hx hb hts inX11 hown hK hP 0 rfl rfl 1 (Nat.le_of_ble_eq_true rfl) (hts _ mw_1160) (fun _ h9 => h9) rfl dX11_shift_174 ?_
                                    refine lv_iload_n hx hb dX11_shift_177 rfl (lv_at hl 4 rfl) ?_
                                    refine z_iald hx hb hK hP 1 0 rfl rfl (e := f) rfl b9_43 (Nat.le_of_ble_eq_true rfl) dX11_shift_178 ?_
                                    refine lv_if_eq (tgt := 193) hx hb dX11_shift_179 rfl (fun c_103 => ?_) (fun c_103 => ?_)
                                    · have c_103 : (kd f).toInt = 0 := zc_eq rfl rfl c_103
                                      exfalso; omega
                                    · have c_103 : ¬ (kd f).toInt = 0 := zc_ne rfl rfl c_103
                                      refine lv_aload_n hx hb dX11_shift_182 rfl (lv_at hl 3 rfl) ?_
                                      refine va_get (D := (dC, dI)) (ci := 9) (v := .ref (a 1)) (C := RX11) (T := TX11) (N := 55) hx hb hts inX11 hown hK hP 0 rfl rfl 1 (Nat.le_of_ble_eq_true rfl) (hts _ mw_1160) (fun _ h9 => h9) rfl dX11_shift_183 ?_
                                      refine lv_iload_n hx hb dX11_shift_186 rfl (lv_at hl 4 rfl) ?_
                                      refine z_iald hx hb hK hP 1 0 rfl rfl (e := f) rfl b9_43 (Nat.le_of_ble_eq_true rfl) dX11_shift_187 ?_
                                      refine lv_bipush (v := 6) hx hb dX11_shift_188 rfl ?_
                                      refine lv_icmp_ne (tgt := 197) hx hb dX11_shift_190 rfl (fun c_104 => ?_) (fun c_104 => ?_)
                                      · have c_104 : ¬ (kd f).toInt = 6 := zc_ne rfl rfl c_104
                                        refine lv_iconst (v := 0) hx hb dX11_shift_197 rfl ?_
                                        refine lv_istore (lv' := [(9, .int 0), (7, .int 0), (8, .int 0), (6, .int 0), (0, .ref k0), (1, .int (nI f)), (2, .int (nI kk)), (3, .int dx), (4, .int dy), (5, .int (nI rr))]) hx hb dX11_shift_198 hl (Nat.le_of_ble_eq_true rfl) rfl (fun ls hl => ?_)
                                        refine lv_iconst (v := 0) hx hb dX11_shift_200 rfl ?_
                                        refine lv_istore (lv' := [(10, .int 0), (9, .int 0), (7, .int 0), (8, .int 0), (6, .int 0), (0, .ref k0), (1, .int (nI f)), (2, .int (nI kk)), (3, .int dx), (4, .int dy), (5, .int (nI rr))]) hx hb dX11_shift_201 hl (Nat.le_of_ble_eq_true rfl) rfl (fun ls hl => ?_)
                                        have hl_203 : ∀ (n9 : Nat) (k : Nat) (cx1 : Nat → Int32) (cy1 : Nat → Int32) (H : Heap) (locs : List Loc) (ls : Array Slot), n - k < n9 → (k ≤ n) → (cx1 = fgX f k (fun i => shV (kd f).toInt n kk dx rr (cF40 cx f) i) cx) → (cy1 = fgX f k (fun i => shV (kd f).toInt n kk dy rr (cF40 cy f) i) cy) → va_P (dC, dI) classes [(om k0 a (upd (upd (upd I0 26 (nI ln)) 35 (nI n)) 36 (kd f)) J0), (oa (a 1) cI 201 kd), (oa (a 5) cI 201 st), (oa (a 7) cI 201 gb), (oa (a 10) cI 201 it), (oa (a 8) cI 201 pa), (oa (a 9) cI 201 pb), (oa (a 2) cI 201 rk), (oa (a 3) cI 201 wd), (oa (a 4) cI 201 tw), (oa (a 6) cZ 201 tn), (oa (a 11) cI 201 mn), (oa (a 12) cI 8040 cx1), (oa (a 13) cI 8040 cy1), (oa (a 27) cI 516 sa), (oa (a 28) cI (4096 * cp) sh), (oa (a 16) cI 514 wh), (oa (a 17) cI 514 of9), (oa (a 18) cI 514 we), (oa (a 32) cI 8 S1), (oa (a 40) cI 6 T0), (oa (a 29) cI 42 P0), (oa (a 30) cI 42 Q0), (oa (a 33) cI 42 ox1), (oa (a 34) cI 42 oy1), (oa (a 37) cZ 201 mt1), (oa (a 38) cZ 201 wi1), (oa (a 39) cZ 8040 ins1), (oa (a 22) cI (64 * cl) la), (oa (a 23) cI (64 * cl) lb), (oa (a 24) cI (64 * cl) lc), (oa (a 25) cI (64 * cl) ld)] H → va_D A [(om k0 a (upd (upd (upd I0 26 (nI ln)) 35 (nI n)) 36 (kd f)) J0), (oa (a 1) cI 201 kd), (oa (a 5) cI 201 st), (oa (a 7) cI 201 gb), (oa (a 10) cI 201 it), (oa (a 8) cI 201 pa), (oa (a 9) cI 201 pb), (oa (a 2) cI 201 rk), (oa (a 3) cI 201 wd), (oa (a 4) cI 201 tw), (oa (a 6) cZ 201 tn), (oa (a 11) cI 201 mn), (oa (a 12) cI 8040 cx1), (oa (a 13) cI 8040 cy1), (oa (a 27) cI 516 sa), (oa (a 28) cI (4096 * cp) sh), (oa (a 16) cI 514 wh), (oa (a 17) cI 514 of9), (oa (a 18) cI 514 we), (oa (a 32) cI 8 S1), (oa (a 40) cI 6 T0), (oa (a 29) cI 42 P0), (oa (a 30) cI 42 Q0), (oa (a 33) cI 42 ox1), (oa (a 34) cI 42 oy1), (oa (a 37) cZ 201 mt1), (oa (a 38) cZ 201 wi1), (oa (a 39) cZ 8040 ins1), (oa (a 22) cI (64 * cl) la), (oa (a 23) cI (64 * cl) lb), (oa (a 24) cI (64 * cl) lc), (oa (a 25) cI (64 * cl) ld)] → va_S A s.heap H locs → lv_has ls 13 [(10, .int (nI k)), (9, .int 0), (7, .int 0), (8, .int 0), (6, .int 0), (0, .ref k0), (1, .int (nI f)), (2, .int (nI kk)), (3, .int dx), (4, .int dy), (5, .int (nI rr))] → W p l e ({ frames := 8, cells := c2 - cp, slots := 8192 * (c2 - cp), locals := 210 } : Room) s m ([.ref k0, .int (nI f), .int (nI kk), .int dx, .int dy, .int (nI rr)] : List Value).toArray below meth c H locs 0 0 Q9 (F0 m 203 ls []) := by
                                          intro n9
                                          induction n9 with
                                          | zero => intro k cx1 cy1 H locs ls hm; exact absurd hm (Nat.not_lt_zero _)
                                          | succ n9 ih_203 =>
                                            intro k cx1 cy1 H locs ls hm hk hcx hcy hP hD hS hl
                                            refine lv_iload hx hb dX11_shift_203 (lv_at hl 0 rfl) ?_
                                            refine lv_aload_n hx hb dX11_shift_205 rfl (lv_at hl 5 rfl) ?_
                                            refine va_get (D := (dC, dI)) (ci := 9) (v := .int (nI n)) (C := RX11) (T := TX11) (N := 55) hx hb hts inX11 hown hK hP 0 rfl rfl 35 (Nat.le_of_ble_eq_true rfl) (hts _ mw_1194) (fun _ h9 => h9) rfl dX11_shift_206 ?_
                                            have b9_106 : zlt (k) := show k < 2147483648 by omega
                                            refine lv_icmp_ge (tgt := 367) hx hb dX11_shift_209 rfl (fun c_105 => ?_) (fun c_105 => ?_)
                                            · have c_105 : ((n : Nat) : Int) ≤ ((k : Nat) : Int) := zc_le (nI_toInt b9_88) (nI_toInt b9_106) c_105
                                              have hkn : k = n := (by omega)
                                              rw [hkn] at hcx hcy
                                              refine lv_aload_n hx hb dX11_shift_367 rfl (lv_at hl 5 rfl) ?_
                                              refine lv_iload_n hx hb dX11_shift_368 rfl (lv_at hl 6 rfl) ?_
                                              obtain ⟨hPc, hDc, hFc, hI1⟩ := zi_sub (wc := [_, _, _, _, _]) hP hD hS hA [0, 12, 13, 23, 24] (by decide +kernel) rfl
                                              refine zcall (st1 := [.int (pI (∃ k, k < n ∧ ¬ ((cx1 (40 * f + k)).toInt = (ox1 k).toInt ∧ (cy1 (40 * f + k)).toInt = (oy1 k).toInt)))]) (va_runV (As := [.int (nI f)]) (rest := []) ⟨hx, hb, hml, hown, hts⟩ (k_M_moves l dC dI cI cZ cF H.size k0 a (upd (upd (upd I0 26 (nI ln)) 35 (nI n)) 36 (kd f)) J0 f n cx1 cy1 ox1 oy1 (by first | with_reducible assumption | omega) (rfl) (by first | with_reducible assumption | omega)) (csV_211 hts rfl rfl ⟨Nat.le_of_ble_eq_true rfl, Nat.le_of_ble_eq_true rfl⟩) (zPV2 (q0 := 0) (ci := 9) hPc hDc hK hXN rfl rfl) rfl rfl hl.1 rfl (lv_room (Nat.le_of_ble_eq_true rfl)) dX11_shift_369 ⟨Nat.zero_le _, Nat.zero_le _⟩) hS hFc hFc rfl (fun t H locs ht hB hk1 hS => ?_)
                                              obtain ⟨hP1, hD1⟩ := hB
                                              rw [ht] at hP1
                                              replace hP := z0 hP hD hk1 hP1 hI1
                                              clear hk1 hPc hDc hFc hP1 hD1 ht hI1
                                              refine zz_i (v := pI (mvd n (fun i => shV (kd f).toInt n kk dx rr (cF40 cx f) i) (fun i => shV (kd f).toInt n kk dy rr (cF40 cy f) i) (cF40 cx f) (cF40 cy f))) (zp_iff (mv_iff hcx hcy hox)) ?_
                                              refine lv_if_ne (tgt := 382) hx hb dX11_shift_372 rfl (fun c_107 => ?_) (fun c_107 => ?_)
                                              · have c_107 : mvd n (fun i => shV (kd f).toInt n kk dx rr (cF40 cx f) i) (fun i => shV (kd f).toInt n kk dy rr (cF40 cy f) i) (cF40 cx f) (cF40 cy f) := zp_1 c_107
                                                refine lv_aload_n hx hb dX11_shift_382 rfl (lv_at hl 5 rfl) ?_
                                                refine lv_iload_n hx hb dX11_shift_383 rfl (lv_at hl 6 rfl) ?_
                                                refine lv_iconst (v := 3) hx hb dX11_shift_384 rfl ?_
                                                refine zz_i (v := nI 3) (rfl) ?_
                                                have hbx : fgX f n ox1 cx1 = cx := (by rw [hcx]; exact fgX_back (fun k9 h9 => (hox k9 h9).1))
                                                have hby : fgX f n oy1 cy1 = cy := (by rw [hcy]; exact fgX_back (fun k9 h9 => (hox k9 h9).2))
                                                have hlq := lwM_eq (ft := ft) (st := st) (tn := tn) (kd := kd) (mn := mn) hn_f.1 hcx hcy hox
                                                have hpo : pls n ox1 oy1 := fun j hj => by rw [(hox j hj).1, (hox j hj).2]; exact hp_f j hj
                                                have hwf2 : ∀ q, lvF ft st tn q → q ≠ f → wfM mn cx1 cy1 q := fun q h1 h2 => wfM_o (hwf q h1) h2 (fun _ _ => rfl) (fun j hj => by rw [hcx, hcy]; exact ⟨fgX_o (by omega), fgX_o (by omega)⟩)
                                                obtain ⟨hPc, hDc, hFc⟩ := zo_sub (wc := [_, _, _, _, _, _, _, _, _, _, _, _, _, _, _, _, _, _, _, _, _, _, _, _, _, _, _, _, _, _, _, _]) hP hD hS hA [0, 1, 2, 3, 4, 5, 6, 7, 8, 9, 10, 11, 12, 13, 14, 15, 16, 17, 18, 19, 20, 21, 22, 23, 24, 25, 26, 27, 28, 29, 30, 31] (by decide +kernel) rfl
                                                refine zcall (st1 := [.int 1]) (va_runV (As := [.int (nI f), .int (nI 3)]) (rest := []) ⟨hx, hb, hml, hown, hts⟩ (k_M_changes_my l dC dI cI cZ cF H.size k0 a (upd (upd (upd I0 26 (nI ln)) 35 (nI n)) 36 (kd f)) J0 f n ft n (kd f) 3 kd st gb it pa pb rk wd tw tn mn cx1 cy1 sa sh wh of9 we S1 T0 P0 Q0 ox1 oy1 mt1 wi1 ins1 la lb lc ld (bMt kd mn cx cy f n) (bWi kd mn cx cy f) (bIn kd cx cy f n) dn bs w0 cp c1 c2 ln cl (hft) (by first | with_reducible assumption | omega) (by first | with_reducible assumption | omega) (hm_f) (by first | with_reducible assumption | omega) (hwf2) (by first | with_reducible assumption | omega) (by first | with_reducible assumption | omega) (hpo) (hmt) (fun q h1 h2 h5 => by rw [hwi q h1 h2]; exact zp_iff ⟨fun h => h.2, fun h => ⟨h5, h⟩⟩) (fun q h1 h2 i hi h5 => hin q h1 h2 h5 i hi) (by first | with_reducible assumption | omega) (rfl) (hft_f) (hdn) (hbs) (by first | with_reducible assumption | omega) (by first | with_reducible assumption | omega) (hi5_1) (hsa_1) (by rw [hum]; exact hmn_1) (hc1_1) (hpw_1) (hw0_1) (by rw [hum]; exact hfit_1) (by rw [hum]; exact hmin_1) (hcE_1) (hmn_1) (hpw_2) (by rw [hum]; exact hfit_2) (by rw [hum]; exact hmin_2) (hcE_2) (fun j h1 h2 => by omega) (hlc) (hcl1) (hclm) (trivial) (by rw [hlq]; exact hlaw)) (csV_212 hts rfl rfl ⟨Nat.le_of_ble_eq_true rfl, Nat.le_of_ble_eq_true rfl⟩) (zPV2 (q0 := 0) (ci := 9) hPc hDc hK hXN rfl rfl) rfl rfl hl.1 rfl (lv_room (Nat.le_of_ble_eq_true rfl)) dX11_shift_385 ⟨show (0 + (c2 - cp)) ≤ c2 - cp by omega, show (0 + (8192 * (c2 - cp))) ≤ 8192 * (c2 - cp) by omega⟩) hS hFc hFc rfl (fun t H locs ht hB hk1 hS => ?_)
                                                refine ex12 hB (fun z8 b2 sh2 t9 S2 T2 P2 Q2 la1 lb1 lc1 ld1 hB0 => ?_)
                                                clear hB
                                                obtain ⟨p0, p1, p2, p3, p4, p5, p6, hP1, hD1⟩ := hB0
                                                rw [ht] at hP1
                                                obtain ⟨hP, hD⟩ := zn (W2 := [(om k0 (va_up a 28 b2) (upd (upd (upd (upd (upd (upd (upd (upd I0 14 0) 19 (nI (dn + 1))) 20 0) 26 (nI t9)) 31 z8) 35 (nI n)) 36 (kd f)) 41 (nI (psN (nnF st tn mn) (psN (nnF st tn (upd mn f (nI n))) w0 ft) ft))) J0), (oa (a 1) cI 201 kd), (oa (a 5) cI 201 st), (oa (a 7) cI 201 gb), (oa (a 10) cI 201 it), (oa (a 8) cI 201 pa), (oa (a 9) cI 201 pb), (oa (a 2) cI 201 rk), (oa (a 3) cI 201 wd), (oa (a 4) cI 201 tw), (oa (a 6) cZ 201 tn), (oa (a 11) cI 201 mn), (oa (a 12) cI 8040 cx1), (oa (a 13) cI 8040 cy1), (oa (a 27) cI 516 (upd (upd sa (dn - bs + 1) (nI (psN (nnF st tn (upd mn f (nI n))) w0 ft))) (dn + 1 - bs + 1) (nI (psN (nnF st tn mn) (psN (nnF st tn (upd mn f (nI n))) w0 ft) ft)))), (oa b2 cI (4096 * c2) sh2), (oa (a 16) cI 514 (upd wh (dn + 1) (nI 3))), (oa (a 17) cI 514 (upd of9 (dn + 1) (nI f))), (oa (a 18) cI 514 (upd we (dn + 1) (0 : Int32))), (oa (a 32) cI 8 S2), (oa (a 40) cI 6 T2), (oa (a 29) cI 42 P2), (oa (a 30) cI 42 Q2), (oa (a 33) cI 42 ox1), (oa (a 34) cI 42 oy1), (oa (a 37) cZ 201 mt1), (oa (a 38) cZ 201 wi1), (oa (a 39) cZ 8040 ins1), (oa (a 22) cI (64 * cl) la1), (oa (a 23) cI (64 * cl) lb1), (oa (a 24) cI (64 * cl) lc1), (oa (a 25) cI (64 * cl) ld1)]) hP hD hk1 hFc hP1 hD1 zl_196 [] zl_197 zl_196 (by decide +kernel) rfl rfl rfl rfl rfl
                                                clear hk1 hPc hDc hFc hP1 hD1 ht
                                                obtain ⟨hP9, hD9⟩ := zu_sub (wc := [(om k0 (va_up a 28 b2) (upd (upd (upd (upd (upd (upd (upd (upd I0 14 0) 19 (nI (dn + 1))) 20 0) 26 (nI t9)) 31 z8) 35 (nI n)) 36 (kd f)) 41 (nI (psN (nnF st tn mn) (psN (nnF st tn (upd mn f (nI n))) w0 ft) ft))) J0), (oa (a 1) cI 201 kd), (oa (a 5) cI 201 st), (oa (a 7) cI 201 gb), (oa (a 10) cI 201 it), (oa (a 8) cI 201 pa), (oa (a 9) cI 201 pb), (oa (a 2) cI 201 rk), (oa (a 3) cI 201 wd), (oa (a 4) cI 201 tw), (oa (a 6) cZ 201 tn), (oa (a 11) cI 201 mn), (oa (a 12) cI 8040 cx1), (oa (a 13) cI 8040 cy1), (oa (a 27) cI 516 (upd (upd sa (dn - bs + 1) (nI (psN (nnF st tn (upd mn f (nI n))) w0 ft))) (dn + 1 - bs + 1) (nI (psN (nnF st tn mn) (psN (nnF st tn (upd mn f (nI n))) w0 ft) ft)))), (oa b2 cI (4096 * c2) sh2), (oa (a 16) cI 514 (upd wh (dn + 1) (nI 3))), (oa (a 17) cI 514 (upd of9 (dn + 1) (nI f))), (oa (a 18) cI 514 (upd we (dn + 1) (0 : Int32))), (oa (a 32) cI 8 S2), (oa (a 40) cI 6 T2), (oa (a 29) cI 42 P2), (oa (a 30) cI 42 Q2), (oa (a 33) cI 42 ox1), (oa (a 34) cI 42 oy1), (oa (a 37) cZ 201 mt1), (oa (a 38) cZ 201 wi1), (oa (a 39) cZ 8040 ins1), (oa (a 22) cI (64 * cl) la1), (oa (a 23) cI (64 * cl) lb1), (oa (a 24) cI (64 * cl) lc1), (oa (a 25) cI (64 * cl) ld1)]) hP hD (true :: true :: true :: true :: true :: true :: true :: true :: true :: true :: true :: true :: true :: true :: true :: true :: true :: true :: true :: true :: true :: true :: true :: true :: true :: true :: true :: true :: true :: true :: true :: true :: []) rfl rfl
                                                have hE9 : ([(om k0 (va_up a 28 b2) (upd (upd (upd (upd (upd (upd (upd (upd I0 14 0) 19 (nI (dn + 1))) 20 0) 26 (nI t9)) 31 z8) 35 (nI n)) 36 (kd f)) 41 (nI (psN (nnF st tn mn) (psN (nnF st tn (upd mn f (nI n))) w0 ft) ft))) J0), (oa (a 1) cI 201 kd), (oa (a 5) cI 201 st), (oa (a 7) cI 201 gb), (oa (a 10) cI 201 it), (oa (a 8) cI 201 pa), (oa (a 9) cI 201 pb), (oa (a 2) cI 201 rk), (oa (a 3) cI 201 wd), (oa (a 4) cI 201 tw), (oa (a 6) cZ 201 tn), (oa (a 11) cI 201 mn), (oa (a 12) cI 8040 cx1), (oa (a 13) cI 8040 cy1), (oa (a 27) cI 516 (upd (upd sa (dn - bs + 1) (nI (psN (nnF st tn (upd mn f (nI n))) w0 ft))) (dn + 1 - bs + 1) (nI (psN (nnF st tn mn) (psN (nnF st tn (upd mn f (nI n))) w0 ft) ft)))), (oa b2 cI (4096 * c2) sh2), (oa (a 16) cI 514 (upd wh (dn + 1) (nI 3))), (oa (a 17) cI 514 (upd of9 (dn + 1) (nI f))), (oa (a 18) cI 514 (upd we (dn + 1) (0 : Int32))), (oa (a 32) cI 8 S2), (oa (a 40) cI 6 T2), (oa (a 29) cI 42 P2), (oa (a 30) cI 42 Q2), (oa (a 33) cI 42 ox1), (oa (a 34) cI 42 oy1), (oa (a 37) cZ 201 mt1), (oa (a 38) cZ 201 wi1), (oa (a 39) cZ 8040 ins1), (oa (a 22) cI (64 * cl) la1), (oa (a 23) cI (64 * cl) lb1), (oa (a 24) cI (64 * cl) lc1), (oa (a 25) cI (64 * cl) ld1)] : va_W) = [(om k0 (va_up a 28 b2) (upd (upd (upd (upd (upd (upd (upd (upd I0 14 0) 19 (nI (dn + 1))) 20 0) 26 (nI t9)) 31 z8) 35 (nI n)) 36 (kd f)) 41 (nI (psN (nnF st tn mn) (psN (nnF st tn mn) w0 ft) ft))) J0), (oa (a 1) cI 201 kd), (oa (a 5) cI 201 st), (oa (a 7) cI 201 gb), (oa (a 10) cI 201 it), (oa (a 8) cI 201 pa), (oa (a 9) cI 201 pb), (oa (a 2) cI 201 rk), (oa (a 3) cI 201 wd), (oa (a 4) cI 201 tw), (oa (a 6) cZ 201 tn), (oa (a 11) cI 201 mn), (oa (a 12) cI 8040 (fgX f n (fun i => shV (kd f).toInt n kk dx rr (cF40 cx f) i) cx)), (oa (a 13) cI 8040 (fgX f n (fun i => shV (kd f).toInt n kk dy rr (cF40 cy f) i) cy)), (oa (a 27) cI 516 (upd (upd sa (dn - bs + 1) (nI (psN (nnF st tn mn) w0 ft))) (dn + 1 - bs + 1) (nI (psN (nnF st tn mn) (psN (nnF st tn mn) w0 ft) ft)))), (oa b2 cI (4096 * c2) sh2), (oa (a 16) cI 514 (upd wh (dn + 1) (nI 3))), (oa (a 17) cI 514 (upd of9 (dn + 1) (nI f))), (oa (a 18) cI 514 (upd we (dn + 1) (0 : Int32))), (oa (a 32) cI 8 S2), (oa (a 40) cI 6 T2), (oa (a 29) cI 42 P2), (oa (a 30) cI 42 Q2), (oa (a 33) cI 42 ox1), (oa (a 34) cI 42 oy1), (oa (a 37) cZ 201 mt1), (oa (a 38) cZ 201 wi1), (oa (a 39) cZ 8040 ins1), (oa (a 22) cI (64 * cl) la1), (oa (a 23) cI (64 * cl) lb1), (oa (a 24) cI (64 * cl) lc1), (oa (a 25) cI (64 * cl) ld1)] := by rw [hum, hcx, hcy]
                                                rw [hE9] at hP9 hD9
                                                refine W.widen (k := c2 - cp) (n := 8192 * (c2 - cp)) (by omega) (by omega) ?_
                                                rw [hQ9]
                                                exact W.zret (ty := .boolean) (v := 1) hx hb hr (rfl) (fun t ht hW => ⟨⟨rfl, z8, b2, sh2, t9, S2, T2, P2, Q2, ox1, oy1, mt1, wi1, ins1, la1, lb1, lc1, ld1, (p0), (p1), (by have h9 := p2; rw [hum, huk, hbx, hby] at h9; exact h9), (by have h9 := p3; rw [hum] at h9; exact h9), (by have h9 := p4; rw [hum, hcx, hcy] at h9; exact h9), (p5), (p6), by rw [ht]; exact hP9, hD9⟩, hS.F ht⟩) hS.2.2 dX11_shift_388
                                              · have c_107 : ¬ (mvd n (fun i => shV (kd f).toInt n kk dx rr (cF40 cx f) i) (fun i => shV (kd f).toInt n kk dy rr (cF40 cy f) i) (cF40 cx f) (cF40 cy f)) := zp_0 c_107
                                                exfalso; exact absurd hmv (by first | with_reducible assumption | assumption)
                                            · have c_105 : ((k : Nat) : Int) < ((n : Nat) : Int) := zc_nle (nI_toInt b9_88) (nI_toInt b9_106) c_105
                                              have hk9 : k < n := (by omega)
                                              have hwb := wyR_b (kf := (kd f).toInt) hkk hk9
                                              refine lv_aload_n hx hb dX11_shift_212 rfl (lv_at hl 5 rfl) ?_
                                              refine lv_iload_n hx hb dX11_shift_213 rfl (lv_at hl 6 rfl) ?_
                                              refine lv_iload_n hx hb dX11_shift_214 rfl (lv_at hl 7 rfl) ?_
                                              refine lv_iload hx hb dX11_shift_215 (lv_at hl 0 rfl) ?_
                                              obtain ⟨hPc, hDc, hFc, hI1⟩ := zi_sub (wc := [_, _]) hP hD hS hA [0, 1] rfl rfl
                                              refine zcall (st1 := [.int (nI (wyR (kd f).toInt n kk k))]) (va_runV (As := [.int (nI f), .int (nI kk), .int (nI k)]) (rest := []) ⟨hx, hb, hml, hown, hts⟩ (k_M_wayOf l dC dI cI cZ cF H.size k0 a (upd (upd (upd I0 26 (nI ln)) 35 (nI n)) 36 (kd f)) J0 f n kk k kd (by first | with_reducible assumption | omega) (by first | with_reducible assumption | omega) (hkk) (by first | with_reducible assumption | omega)) (csV_216 hts rfl rfl ⟨Nat.le_of_ble_eq_true rfl, Nat.le_of_ble_eq_true rfl⟩) (zPV2 (q0 := 0) (ci := 9) hPc hDc hK hXN rfl rfl) rfl rfl hl.1 rfl (lv_room (Nat.le_of_ble_eq_true rfl)) dX11_shift_217 ⟨Nat.zero_le _, Nat.zero_le _⟩) hS hFc hFc rfl (fun t H locs ht hB hk1 hS => ?_)
                                              obtain ⟨hP1, hD1⟩ := hB
                                              rw [ht] at hP1
                                              replace hP := z0 hP hD hk1 hP1 hI1
                                              clear hk1 hPc hDc hFc hP1 hD1 ht hI1
                                              refine lv_istore (lv' := [(11, .int (nI (wyR (kd f).toInt n kk k))), (10, .int (nI k)), (9, .int 0), (7, .int 0), (8, .int 0), (6, .int 0), (0, .ref k0), (1, .int (nI f)), (2, .int (nI kk)), (3, .int dx), (4, .int dy), (5, .int (nI rr))]) hx hb dX11_shift_220 hl (Nat.le_of_ble_eq_true rfl) rfl (fun ls hl => ?_)
                                              refine lv_iload hx hb dX11_shift_222 (lv_at hl 2 rfl) ?_
                                              refine lv_if_ne (tgt := 262) hx hb dX11_shift_224 rfl (fun c_108 => ?_) (fun c_108 => ?_)
                                              · exact absurd (by decide) c_108
                                              · refine lv_iload hx hb dX11_shift_227 (lv_at hl 0 rfl) ?_
                                                refine lv_iload hx hb dX11_shift_229 (lv_at hl 11 rfl) ?_
                                                have b9_110 : zlt ((wyR (kd f).toInt n kk k)) := show (wyR (kd f).toInt n kk k) < 2147483648 by omega
                                                refine lv_icmp_gt (tgt := 258) hx hb dX11_shift_231 rfl (fun c_109 => ?_) (fun c_109 => ?_)
                                                · have c_109 : ((rr : Nat) : Int) < ((wyR (kd f).toInt n kk k : Nat) : Int) := zc_lt (nI_toInt b9_97) (nI_toInt b9_110) c_109
                                                  refine lv_iconst (v := 1) hx hb dX11_shift_258 rfl ?_
                                                  refine lv_goto (tgt := 263) hx hb dX11_shift_259 rfl ?_
                                                  refine lv_istore (lv' := [(12, .int 1), (11, .int (nI (wyR (kd f).toInt n kk k))), (10, .int (nI k)), (9, .int 0), (7, .int 0), (8, .int 0), (6, .int 0), (0, .ref k0), (1, .int (nI f)), (2, .int (nI kk)), (3, .int dx), (4, .int dy), (5, .int (nI rr))]) hx hb dX11_shift_263 hl (Nat.le_of_ble_eq_true rfl) rfl (fun ls hl => ?_)
                                                  refine lv_iload hx hb dX11_shift_265 (lv_at hl 0 rfl) ?_
                                                  refine lv_if_eq (tgt := 273) hx hb dX11_shift_267 rfl (fun c_111 => ?_) (fun c_111 => ?_)
                                                  · exact absurd c_111 (by decide)
                                                  · refine lv_goto (tgt := 361) hx hb dX11_shift_270 rfl ?_
                                                    refine lv_iinc (v := nI (k + 1)) (lv' := [(10, .int (nI (k + 1))), (12, .int 1), (11, .int (nI (wyR (kd f).toInt n kk k))), (9, .int 0), (7, .int 0), (8, .int 0), (6, .int 0), (0, .ref k0), (1, .int (nI f)), (2, .int (nI kk)), (3, .int dx), (4, .int dy), (5, .int (nI rr))]) hx hb dX11_shift_361 hl (k := 2) rfl (nI_add k 1) (Nat.le_of_ble_eq_true rfl) rfl (fun ls hl => ?_)
                                                    refine lv_goto (tgt := 203) hx hb dX11_shift_364 rfl ?_
                                                    exact ih_203 (k + 1) cx1 cy1 H locs ls (by first | with_reducible assumption | omega) (by first | with_reducible assumption | omega) (by first | exact fgX_u hcx (shV_f (by first | with_reducible assumption | assumption)) | exact fgX_k hcx (shV_t (X := cF40 cx f) (by first | exact Or.inl (by first | with_reducible assumption | omega) | exact Or.inr ⟨by assumption, by omega⟩))) (by first | exact fgX_u hcy (shV_f (by first | with_reducible assumption | assumption)) | exact fgX_k hcy (shV_t (X := cF40 cy f) (by first | exact Or.inl (by first | with_reducible assumption | omega) | exact Or.inr ⟨by assumption, by omega⟩))) hP hD hS (lv_sub hl [0, 3, 4, 5, 6, 7, 8, 9, 10, 11, 12] rfl)
                                                · have c_109 : ((wyR (kd f).toInt n kk k : Nat) : Int) ≤ ((rr : Nat) : Int) := zc_nlt (nI_toInt b9_97) (nI_toInt b9_110) c_109
                                                  refine lv_aload_n hx hb dX11_shift_234 rfl (lv_at hl 6 rfl) ?_
                                                  refine lv_iload_n hx hb dX11_shift_235 rfl (lv_at hl 7 rfl) ?_
                                                  obtain ⟨hPc, hDc, hFc, hI1⟩ := zi_sub (wc := [_, _]) hP hD hS hA [0, 1] rfl rfl
                                                  refine zcall (st1 := [.int (pI (5 ≤ (kd f).toInt))]) (va_runV (As := [.int (nI f)]) (rest := []) ⟨hx, hb, hml, hown, hts⟩ (k_M_isRing l dC dI cI cZ cF H.size k0 a (upd (upd (upd I0 26 (nI ln)) 35 (nI n)) 36 (kd f)) J0 f kd (by first | with_reducible assumption | omega)) (csV_165 hts rfl rfl ⟨Nat.le_of_ble_eq_true rfl, Nat.le_of_ble_eq_true rfl⟩) (zPV2 (q0 := 0) (ci := 9) hPc hDc hK hXN rfl rfl) rfl rfl hl.1 rfl (lv_room (Nat.le_of_ble_eq_true rfl)) dX11_shift_236 ⟨Nat.zero_le _, Nat.zero_le _⟩) hS hFc hFc rfl (fun t H locs ht hB hk1 hS => ?_)
                                                  obtain ⟨hP1, hD1⟩ := hB
                                                  rw [ht] at hP1
                                                  replace hP := z0 hP hD hk1 hP1 hI1
                                                  clear hk1 hPc hDc hFc hP1 hD1 ht hI1
                                                  refine lv_if_ne (tgt := 262) hx hb dX11_shift_239 rfl (fun c_112 => ?_) (fun c_112 => ?_)
                                                  · have c_112 : 5 ≤ (kd f).toInt := zp_1 c_112
                                                    refine lv_iconst (v := 0) hx hb dX11_shift_262 rfl ?_
                                                    refine lv_istore (lv' := [(12, .int 0), (11, .int (nI (wyR (kd f).toInt n kk k))), (10, .int (nI k)), (9, .int 0), (7, .int 0), (8, .int 0), (6, .int 0), (0, .ref k0), (1, .int (nI f)), (2, .int (nI kk)), (3, .int dx), (4, .int dy), (5, .int (nI rr))]) hx hb dX11_shift_263 hl (Nat.le_of_ble_eq_true rfl) rfl (fun ls hl => ?_)
                                                    refine lv_iload hx hb dX11_shift_265 (lv_at hl 0 rfl) ?_
                                                    refine lv_if_eq (tgt := 273) hx hb dX11_shift_267 rfl (fun c_113 => ?_) (fun c_113 => ?_)
                                                    · have hst9 : ¬ (rr < wyR (kd f).toInt n kk k ∨ (¬ 5 ≤ (kd f).toInt ∧ (k = 0 ∨ k = n - 1))) := (by first | exact fun h => h.elim (fun h => by omega) (fun h => absurd (by first | with_reducible assumption | assumption) h.1) | exact fun h => h.elim (fun h => by omega) (fun h => by omega))
                                                      have hwy : wyR (kd f).toInt n kk k ≤ rr := (by have := hst9; omega)
                                                      refine lv_aload_n hx hb dX11_shift_273 rfl (lv_at hl 7 rfl) ?_
                                                      refine va_get (D := (dC, dI)) (ci := 9) (v := .ref (a 12)) (C := RX11) (T := TX11) (N := 55) hx hb hts inX11 hown hK hP 0 rfl rfl 12 (Nat.le_of_ble_eq_true rfl) (hts _ mw_1171) (fun _ h9 => h9) rfl dX11_shift_274 ?_
                                                      refine lv_bipush (v := 40) hx hb dX11_shift_277 rfl ?_
                                                      refine lv_iload_n hx hb dX11_shift_279 rfl (lv_at hl 8 rfl) ?_
                                                      refine lv_imul hx hb dX11_shift_280 ?_
                                                      refine zz_i (v := nI (40 * f)) (pk_mul 40 f) ?_
                                                      refine lv_iload hx hb dX11_shift_281 (lv_at hl 2 rfl) ?_
                                                      refine lv_iadd hx hb dX11_shift_283 ?_
                                                      refine zz_i (v := nI (40 * f + k)) (nI_add (40 * f) k) ?_
                                                      refine lv_aload_n hx hb dX11_shift_284 rfl (lv_at hl 7 rfl) ?_
                                                      refine va_get (D := (dC, dI)) (ci := 9) (v := .ref (a 33)) (C := RX11) (T := TX11) (N := 55) hx hb hts inX11 hown hK hP 0 rfl rfl 33 (Nat.le_of_ble_eq_true rfl) (hts _ mw_1192) (fun _ h9 => h9) rfl dX11_shift_285 ?_
                                                      refine lv_iload hx hb dX11_shift_288 (lv_at hl 2 rfl) ?_
                                                      have b9_114 : k < 42 := by omega
                                                      refine z_iald hx hb hK hP 23 0 rfl rfl (e := k) rfl b9_114 (Nat.le_of_ble_eq_true rfl) dX11_shift_290 ?_
                                                      refine zz_i (v := cF40 cx f k) ((hox _ hk9).1) ?_
                                                      refine lv_iload hx hb dX11_shift_291 (lv_at hl 3 rfl) ?_
                                                      refine lv_if_eq (tgt := 300) hx hb dX11_shift_293 rfl (fun c_115 => ?_) (fun c_115 => ?_)
                                                      · refine lv_iload_n hx hb dX11_shift_300 rfl (lv_at hl 10 rfl) ?_
                                                        refine lv_iload hx hb dX11_shift_301 (lv_at hl 12 rfl) ?_
                                                        refine lv_iconst (v := 1) hx hb dX11_shift_303 rfl ?_
                                                        refine lv_iadd hx hb dX11_shift_304 ?_
                                                        refine zz_i (v := nI (rr + 1)) (nI_add rr 1) ?_
                                                        refine lv_iload hx hb dX11_shift_305 (lv_at hl 1 rfl) ?_
                                                        refine lv_isub hx hb dX11_shift_307 ?_
                                                        refine zz_i (v := nI ((rr + 1) - (wyR (kd f).toInt n kk k))) (pk_sub (a := rr + 1) (b := wyR (kd f).toInt n kk k) (by omega)) ?_
                                                        refine lv_imul hx hb dX11_shift_308 ?_
                                                        refine lv_iload hx hb dX11_shift_309 (lv_at hl 12 rfl) ?_
                                                        refine lv_iconst (v := 1) hx hb dX11_shift_311 rfl ?_
                                                        refine lv_iadd hx hb dX11_shift_312 ?_
                                                        refine zz_i (v := nI (rr + 1)) (nI_add rr 1) ?_
                                                        refine lv_idiv hx hb dX11_shift_313 (nI_ne0 (by omega) (by omega)) ?_
                                                        refine lv_iadd hx hb dX11_shift_314 ?_
                                                        have b9_116 : 40 * f + k < 8040 := by omega
                                                        refine z_iast hx hb hK hP hD hS 12 0 rfl rfl (e := 40 * f + k) (x := (cF40 cx f k) + ((dx * (nI ((rr + 1) - (wyR (kd f).toInt n kk k)))) / (nI (rr + 1)))) rfl b9_116 (Nat.le_of_ble_eq_true rfl) dX11_shift_315 (fun H locs hP hD hS => ?_)
                                                        obtain ⟨hP, hD⟩ := zre (W2 := [_, _, _, _, _, _, _, _, _, _, _, _, (oa (a 12) cI 8040 (upd cx1 (40 * f + k) ((cF40 cx f k) + ((dx * (nI ((rr + 1) - (wyR (kd f).toInt n kk k)))) / (nI (rr + 1)))))), _, _, _, _, _, _, _, _, _, _, _, _, _, _, _, _, _, _, _]) hP hD rfl
                                                        refine lv_aload_n hx hb dX11_shift_316 rfl (lv_at hl 7 rfl) ?_
                                                        refine va_get (D := (dC, dI)) (ci := 9) (v := .ref (a 13)) (C := RX11) (T := TX11) (N := 55) hx hb hts inX11 hown hK hP 0 rfl rfl 13 (Nat.le_of_ble_eq_true rfl) (hts _ mw_1172) (fun _ h9 => h9) rfl dX11_shift_317 ?_
                                                        refine lv_bipush (v := 40) hx hb dX11_shift_320 rfl ?_
                                                        refine lv_iload_n hx hb dX11_shift_322 rfl (lv_at hl 8 rfl) ?_
                                                        refine lv_imul hx hb dX11_shift_323 ?_
                                                        refine zz_i (v := nI (40 * f)) (pk_mul 40 f) ?_
                                                        refine lv_iload hx hb dX11_shift_324 (lv_at hl 2 rfl) ?_
                                                        refine lv_iadd hx hb dX11_shift_326 ?_
                                                        refine zz_i (v := nI (40 * f + k)) (nI_add (40 * f) k) ?_
                                                        refine lv_aload_n hx hb dX11_shift_327 rfl (lv_at hl 7 rfl) ?_
                                                        refine va_get (D := (dC, dI)) (ci := 9) (v := .ref (a 34)) (C := RX11) (T := TX11) (N := 55) hx hb hts inX11 hown hK hP 0 rfl rfl 34 (Nat.le_of_ble_eq_true rfl) (hts _ mw_1193) (fun _ h9 => h9) rfl dX11_shift_328 ?_
                                                        refine lv_iload hx hb dX11_shift_331 (lv_at hl 2 rfl) ?_
                                                        refine z_iald hx hb hK hP 24 0 rfl rfl (e := k) rfl b9_114 (Nat.le_of_ble_eq_true rfl) dX11_shift_333 ?_
                                                        refine zz_i (v := cF40 cy f k) ((hox _ hk9).2) ?_
                                                        refine lv_iload hx hb dX11_shift_334 (lv_at hl 3 rfl) ?_
                                                        refine lv_if_eq (tgt := 344) hx hb dX11_shift_336 rfl (fun c_117 => ?_) (fun c_117 => ?_)
                                                        · refine lv_iload hx hb dX11_shift_344 (lv_at hl 11 rfl) ?_
                                                          refine lv_iload hx hb dX11_shift_346 (lv_at hl 12 rfl) ?_
                                                          refine lv_iconst (v := 1) hx hb dX11_shift_348 rfl ?_
                                                          refine lv_iadd hx hb dX11_shift_349 ?_
                                                          refine zz_i (v := nI (rr + 1)) (nI_add rr 1) ?_
                                                          refine lv_iload hx hb dX11_shift_350 (lv_at hl 1 rfl) ?_
                                                          refine lv_isub hx hb dX11_shift_352 ?_
                                                          refine zz_i (v := nI ((rr + 1) - (wyR (kd f).toInt n kk k))) (pk_sub (a := rr + 1) (b := wyR (kd f).toInt n kk k) (by omega)) ?_
                                                          refine lv_imul hx hb dX11_shift_353 ?_
                                                          refine lv_iload hx hb dX11_shift_354 (lv_at hl 12 rfl) ?_
                                                          refine lv_iconst (v := 1) hx hb dX11_shift_356 rfl ?_
                                                          refine lv_iadd hx hb dX11_shift_357 ?_
                                                          refine zz_i (v := nI (rr + 1)) (nI_add rr 1) ?_
                                                          refine lv_idiv hx hb dX11_shift_358 (nI_ne0 (by omega) (by omega)) ?_
                                                          refine lv_iadd hx hb dX11_shift_359 ?_
                                                          refine z_iast hx hb hK hP hD hS 13 0 rfl rfl (e := 40 * f + k) (x := (cF40 cy f k) + ((dy * (nI ((rr + 1) - (wyR (kd f).toInt n kk k)))) / (nI (rr + 1)))) rfl b9_116 (Nat.le_of_ble_eq_true rfl) dX11_shift_360 (fun H locs hP hD hS => ?_)
                                                          obtain ⟨hP, hD⟩ := zre (W2 := [_, _, _, _, _, _, _, _, _, _, _, _, _, (oa (a 13) cI 8040 (upd cy1 (40 * f + k) ((cF40 cy f k) + ((dy * (nI ((rr + 1) - (wyR (kd f).toInt n kk k)))) / (nI (rr + 1)))))), _, _, _, _, _, _, _, _, _, _, _, _, _, _, _, _, _, _]) hP hD rfl
                                                          refine lv_iinc (v := nI (k + 1)) (lv' := [(10, .int (nI (k + 1))), (12, .int 0), (11, .int (nI (wyR (kd f).toInt n kk k))), (9, .int 0), (7, .int 0), (8, .int 0), (6, .int 0), (0, .ref k0), (1, .int (nI f)), (2, .int (nI kk)), (3, .int dx), (4, .int dy), (5, .int (nI rr))]) hx hb dX11_shift_361 hl (k := 2) rfl (nI_add k 1) (Nat.le_of_ble_eq_true rfl) rfl (fun ls hl => ?_)
                                                          refine lv_goto (tgt := 203) hx hb dX11_shift_364 rfl ?_
                                                          exact ih_203 (k + 1) (upd cx1 (40 * f + k) ((cF40 cx f k) + ((dx * (nI ((rr + 1) - (wyR (kd f).toInt n kk k)))) / (nI (rr + 1))))) (upd cy1 (40 * f + k) ((cF40 cy f k) + ((dy * (nI ((rr + 1) - (wyR (kd f).toInt n kk k)))) / (nI (rr + 1))))) H locs ls (by first | with_reducible assumption | omega) (by first | with_reducible assumption | omega) (by first | exact fgX_u hcx (shV_f (by first | with_reducible assumption | assumption)) | exact fgX_k hcx (shV_t (X := cF40 cx f) (by first | exact Or.inl (by first | with_reducible assumption | omega) | exact Or.inr ⟨by assumption, by omega⟩))) (by first | exact fgX_u hcy (shV_f (by first | with_reducible assumption | assumption)) | exact fgX_k hcy (shV_t (X := cF40 cy f) (by first | exact Or.inl (by first | with_reducible assumption | omega) | exact Or.inr ⟨by assumption, by omega⟩))) hP hD hS (lv_sub hl [0, 3, 4, 5, 6, 7, 8, 9, 10, 11, 12] rfl)
                                                        · exact absurd (by decide) c_117
                                                      · exact absurd (by decide) c_115
                                                    · exact absurd (by decide) c_113
                                                  · have c_112 : ¬ (5 ≤ (kd f).toInt) := zp_0 c_112
                                                    refine lv_iload hx hb dX11_shift_242 (lv_at hl 1 rfl) ?_
                                                    refine lv_if_eq (tgt := 258) hx hb dX11_shift_244 rfl (fun c_118 => ?_) (fun c_118 => ?_)
                                                    · have c_118 : ((k : Nat) : Int) = 0 := zc_eq (nI_toInt b9_106) rfl c_118
                                                      refine lv_iconst (v := 1) hx hb dX11_shift_258 rfl ?_
                                                      refine lv_goto (tgt := 263) hx hb dX11_shift_259 rfl ?_
                                                      refine lv_istore (lv' := [(12, .int 1), (11, .int (nI (wyR (kd f).toInt n kk k))), (10, .int (nI k)), (9, .int 0), (7, .int 0), (8, .int 0), (6, .int 0), (0, .ref k0), (1, .int (nI f)), (2, .int (nI kk)), (3, .int dx), (4, .int dy), (5, .int (nI rr))]) hx hb dX11_shift_263 hl (Nat.le_of_ble_eq_true rfl) rfl (fun ls hl => ?_)
                                                      refine lv_iload hx hb dX11_shift_265 (lv_at hl 0 rfl) ?_
                                                      refine lv_if_eq (tgt := 273) hx hb dX11_shift_267 rfl (fun c_119 => ?_) (fun c_119 => ?_)
                                                      · exact absurd c_119 (by decide)
                                                      · refine lv_goto (tgt := 361) hx hb dX11_shift_270 rfl ?_
                                                        refine lv_iinc (v := nI (k + 1)) (lv' := [(10, .int (nI (k + 1))), (12, .int 1), (11, .int (nI (wyR (kd f).toInt n kk k))), (9, .int 0), (7, .int 0), (8, .int 0), (6, .int 0), (0, .ref k0), (1, .int (nI f)), (2, .int (nI kk)), (3, .int dx), (4, .int dy), (5, .int (nI rr))]) hx hb dX11_shift_361 hl (k := 2) rfl (nI_add k 1) (Nat.le_of_ble_eq_true rfl) rfl (fun ls hl => ?_)
                                                        refine lv_goto (tgt := 203) hx hb dX11_shift_364 rfl ?_
                                                        exact ih_203 (k + 1) cx1 cy1 H locs ls (by first | with_reducible assumption | omega) (by first | with_reducible assumption | omega) (by first | exact fgX_u hcx (shV_f (by first | with_reducible assumption | assumption)) | exact fgX_k hcx (shV_t (X := cF40 cx f) (by first | exact Or.inl (by first | with_reducible assumption | omega) | exact Or.inr ⟨by assumption, by omega⟩))) (by first | exact fgX_u hcy (shV_f (by first | with_reducible assumption | assumption)) | exact fgX_k hcy (shV_t (X := cF40 cy f) (by first | exact Or.inl (by first | with_reducible assumption | omega) | exact Or.inr ⟨by assumption, by omega⟩))) hP hD hS (lv_sub hl [0, 3, 4, 5, 6, 7, 8, 9, 10, 11, 12] rfl)
                                                    · have c_118 : ¬ ((k : Nat) : Int) = 0 := zc_ne (nI_toInt b9_106) rfl c_118
                                                      refine lv_iload hx hb dX11_shift_247 (lv_at hl 1 rfl) ?_
                                                      refine lv_aload_n hx hb dX11_shift_249 rfl (lv_at hl 6 rfl) ?_
                                                      refine va_get (D := (dC, dI)) (ci := 9) (v := .int (nI n)) (C := RX11) (T := TX11) (N := 55) hx hb hts inX11 hown hK hP 0 rfl rfl 35 (Nat.le_of_ble_eq_true rfl) (hts _ mw_1194) (fun _ h9 => h9) rfl dX11_shift_250 ?_
                                                      refine lv_iconst (v := 1) hx hb dX11_shift_253 rfl ?_
                                                      refine lv_isub hx hb dX11_shift_254 ?_
                                                      refine zz_i (v := nI (n - 1)) (pk_sub (a := n) (b := 1) (by omega)) ?_
                                                      have b9_121 : zlt ((n - 1)) := show (n - 1) < 2147483648 by omega
                                                      refine lv_icmp_ne (tgt := 262) hx hb dX11_shift_255 rfl (fun c_120 => ?_) (fun c_120 => ?_)
                                                      · have c_120 : ¬ ((k : Nat) : Int) = ((n - 1 : Nat) : Int) := zc_ne (nI_toInt b9_106) (nI_toInt b9_121) c_120
                                                        refine lv_iconst (v := 0) hx hb dX11_shift_262 rfl ?_
                                                        refine lv_istore (lv' := [(12, .int 0), (11, .int (nI (wyR (kd f).toInt n kk k))), (10, .int (nI k)), (9, .int 0), (7, .int 0), (8, .int 0), (6, .int 0), (0, .ref k0), (1, .int (nI f)), (2, .int (nI kk)), (3, .int dx), (4, .int dy), (5, .int (nI rr))]) hx hb dX11_shift_263 hl (Nat.le_of_ble_eq_true rfl) rfl (fun ls hl => ?_)
                                                        refine lv_iload hx hb dX11_shift_265 (lv_at hl 0 rfl) ?_
                                                        refine lv_if_eq (tgt := 273) hx hb dX11_shift_267 rfl (fun c_122 => ?_) (fun c_122 => ?_)
                                                        · have hst9 : ¬ (rr < wyR (kd f).toInt n kk k ∨ (¬ 5 ≤ (kd f).toInt ∧ (k = 0 ∨ k = n - 1))) := (by first | exact fun h => h.elim (fun h => by omega) (fun h => absurd (by first | with_reducible assumption | assumption) h.1) | exact fun h => h.elim (fun h => by omega) (fun h => by omega))
                                                          have hwy : wyR (kd f).toInt n kk k ≤ rr := (by have := hst9; omega)
                                                          refine lv_aload_n hx hb dX11_shift_273 rfl (lv_at hl 7 rfl) ?_
                                                          refine va_get (D := (dC, dI)) (ci := 9) (v := .ref (a 12)) (C := RX11) (T := TX11) (N := 55) hx hb hts inX11 hown hK hP 0 rfl rfl 12 (Nat.le_of_ble_eq_true rfl) (hts _ mw_1171) (fun _ h9 => h9) rfl dX11_shift_274 ?_
                                                          refine lv_bipush (v := 40) hx hb dX11_shift_277 rfl ?_
                                                          refine lv_iload_n hx hb dX11_shift_279 rfl (lv_at hl 8 rfl) ?_
                                                          refine lv_imul hx hb dX11_shift_280 ?_
                                                          refine zz_i (v := nI (40 * f)) (pk_mul 40 f) ?_
                                                          refine lv_iload hx hb dX11_shift_281 (lv_at hl 2 rfl) ?_
                                                          refine lv_iadd hx hb dX11_shift_283 ?_
                                                          refine zz_i (v := nI (40 * f + k)) (nI_add (40 * f) k) ?_
                                                          refine lv_aload_n hx hb dX11_shift_284 rfl (lv_at hl 7 rfl) ?_
                                                          refine va_get (D := (dC, dI)) (ci := 9) (v := .ref (a 33)) (C := RX11) (T := TX11) (N := 55) hx hb hts inX11 hown hK hP 0 rfl rfl 33 (Nat.le_of_ble_eq_true rfl) (hts _ mw_1192) (fun _ h9 => h9) rfl dX11_shift_285 ?_
                                                          refine lv_iload hx hb dX11_shift_288 (lv_at hl 2 rfl) ?_
                                                          have b9_123 : k < 42 := by omega
                                                          refine z_iald hx hb hK hP 23 0 rfl rfl (e := k) rfl b9_123 (Nat.le_of_ble_eq_true rfl) dX11_shift_290 ?_
                                                          refine zz_i (v := cF40 cx f k) ((hox _ hk9).1) ?_
                                                          refine lv_iload hx hb dX11_shift_291 (lv_at hl 3 rfl) ?_
                                                          refine lv_if_eq (tgt := 300) hx hb dX11_shift_293 rfl (fun c_124 => ?_) (fun c_124 => ?_)
                                                          · refine lv_iload_n hx hb dX11_shift_300 rfl (lv_at hl 10 rfl) ?_
                                                            refine lv_iload hx hb dX11_shift_301 (lv_at hl 12 rfl) ?_
                                                            refine lv_iconst (v := 1) hx hb dX11_shift_303 rfl ?_
                                                            refine lv_iadd hx hb dX11_shift_304 ?_
                                                            refine zz_i (v := nI (rr + 1)) (nI_add rr 1) ?_
                                                            refine lv_iload hx hb dX11_shift_305 (lv_at hl 1 rfl) ?_
                                                            refine lv_isub hx hb dX11_shift_307 ?_
                                                            refine zz_i (v := nI ((rr + 1) - (wyR (kd f).toInt n kk k))) (pk_sub (a := rr + 1) (b := wyR (kd f).toInt n kk k) (by omega)) ?_
                                                            refine lv_imul hx hb dX11_shift_308 ?_
                                                            refine lv_iload hx hb dX11_shift_309 (lv_at hl 12 rfl) ?_
                                                            refine lv_iconst (v := 1) hx hb dX11_shift_311 rfl ?_
                                                            refine lv_iadd hx hb dX11_shift_312 ?_
                                                            refine zz_i (v := nI (rr + 1)) (nI_add rr 1) ?_
                                                            refine lv_idiv hx hb dX11_shift_313 (nI_ne0 (by omega) (by omega)) ?_
                                                            refine lv_iadd hx hb dX11_shift_314 ?_
                                                            have b9_125 : 40 * f + k < 8040 := by omega
                                                            refine z_iast hx hb hK hP hD hS 12 0 rfl rfl (e := 40 * f + k) (x := (cF40 cx f k) + ((dx * (nI ((rr + 1) - (wyR (kd f).toInt n kk k)))) / (nI (rr + 1)))) rfl b9_125 (Nat.le_of_ble_eq_true rfl) dX11_shift_315 (fun H locs hP hD hS => ?_)
                                                            obtain ⟨hP, hD⟩ := zre (W2 := [_, _, _, _, _, _, _, _, _, _, _, _, (oa (a 12) cI 8040 (upd cx1 (40 * f + k) ((cF40 cx f k) + ((dx * (nI ((rr + 1) - (wyR (kd f).toInt n kk k)))) / (nI (rr + 1)))))), _, _, _, _, _, _, _, _, _, _, _, _, _, _, _, _, _, _, _]) hP hD rfl
                                                            refine lv_aload_n hx hb dX11_shift_316 rfl (lv_at hl 7 rfl) ?_
                                                            refine va_get (D := (dC, dI)) (ci := 9) (v := .ref (a 13)) (C := RX11) (T := TX11) (N := 55) hx hb hts inX11 hown hK hP 0 rfl rfl 13 (Nat.le_of_ble_eq_true rfl) (hts _ mw_1172) (fun _ h9 => h9) rfl dX11_shift_317 ?_
                                                            refine lv_bipush (v := 40) hx hb dX11_shift_320 rfl ?_
                                                            refine lv_iload_n hx hb dX11_shift_322 rfl (lv_at hl 8 rfl) ?_
                                                            refine lv_imul hx hb dX11_shift_323 ?_
                                                            refine zz_i (v := nI (40 * f)) (pk_mul 40 f) ?_
                                                            refine lv_iload hx hb dX11_shift_324 (lv_at hl 2 rfl) ?_
                                                            refine lv_iadd hx hb dX11_shift_326 ?_
                                                            refine zz_i (v := nI (40 * f + k)) (nI_add (40 * f) k) ?_
                                                            refine lv_aload_n hx hb dX11_shift_327 rfl (lv_at hl 7 rfl) ?_
                                                            refine va_get (D := (dC, dI)) (ci := 9) (v := .ref (a 34)) (C := RX11) (T := TX11) (N := 55) hx hb hts inX11 hown hK hP 0 rfl rfl 34 (Nat.le_of_ble_eq_true rfl) (hts _ mw_1193) (fun _ h9 => h9) rfl dX11_shift_328 ?_
                                                            refine lv_iload hx hb dX11_shift_331 (lv_at hl 2 rfl) ?_
                                                            refine z_iald hx hb hK hP 24 0 rfl rfl (e := k) rfl b9_123 (Nat.le_of_ble_eq_true rfl) dX11_shift_333 ?_
                                                            refine zz_i (v := cF40 cy f k) ((hox _ hk9).2) ?_
                                                            refine lv_iload hx hb dX11_shift_334 (lv_at hl 3 rfl) ?_
                                                            refine lv_if_eq (tgt := 344) hx hb dX11_shift_336 rfl (fun c_126 => ?_) (fun c_126 => ?_)
                                                            · refine lv_iload hx hb dX11_shift_344 (lv_at hl 11 rfl) ?_
                                                              refine lv_iload hx hb dX11_shift_346 (lv_at hl 12 rfl) ?_
                                                              refine lv_iconst (v := 1) hx hb dX11_shift_348 rfl ?_
                                                              refine lv_iadd hx hb dX11_shift_349 ?_
                                                              refine zz_i (v := nI (rr + 1)) (nI_add rr 1) ?_
                                                              refine lv_iload hx hb dX11_shift_350 (lv_at hl 1 rfl) ?_
                                                              refine lv_isub hx hb dX11_shift_352 ?_
                                                              refine zz_i (v := nI ((rr + 1) - (wyR (kd f).toInt n kk k))) (pk_sub (a := rr + 1) (b := wyR (kd f).toInt n kk k) (by omega)) ?_
                                                              refine lv_imul hx hb dX11_shift_353 ?_
                                                              refine lv_iload hx hb dX11_shift_354 (lv_at hl 12 rfl) ?_
                                                              refine lv_iconst (v := 1) hx hb dX11_shift_356 rfl ?_
                                                              refine lv_iadd hx hb dX11_shift_357 ?_
                                                              refine zz_i (v := nI (rr + 1)) (nI_add rr 1) ?_
                                                              refine lv_idiv hx hb dX11_shift_358 (nI_ne0 (by omega) (by omega)) ?_
                                                              refine lv_iadd hx hb dX11_shift_359 ?_
                                                              refine z_iast hx hb hK hP hD hS 13 0 rfl rfl (e := 40 * f + k) (x := (cF40 cy f k) + ((dy * (nI ((rr + 1) - (wyR (kd f).toInt n kk k)))) / (nI (rr + 1)))) rfl b9_125 (Nat.le_of_ble_eq_true rfl) dX11_shift_360 (fun H locs hP hD hS => ?_)
                                                              obtain ⟨hP, hD⟩ := zre (W2 := [_, _, _, _, _, _, _, _, _, _, _, _, _, (oa (a 13) cI 8040 (upd cy1 (40 * f + k) ((cF40 cy f k) + ((dy * (nI ((rr + 1) - (wyR (kd f).toInt n kk k)))) / (nI (rr + 1)))))), _, _, _, _, _, _, _, _, _, _, _, _, _, _, _, _, _, _]) hP hD rfl
                                                              refine lv_iinc (v := nI (k + 1)) (lv' := [(10, .int (nI (k + 1))), (12, .int 0), (11, .int (nI (wyR (kd f).toInt n kk k))), (9, .int 0), (7, .int 0), (8, .int 0), (6, .int 0), (0, .ref k0), (1, .int (nI f)), (2, .int (nI kk)), (3, .int dx), (4, .int dy), (5, .int (nI rr))]) hx hb dX11_shift_361 hl (k := 2) rfl (nI_add k 1) (Nat.le_of_ble_eq_true rfl) rfl (fun ls hl => ?_)
                                                              refine lv_goto (tgt := 203) hx hb dX11_shift_364 rfl ?_
                                                              exact ih_203 (k + 1) (upd cx1 (40 * f + k) ((cF40 cx f k) + ((dx * (nI ((rr + 1) - (wyR (kd f).toInt n kk k)))) / (nI (rr + 1))))) (upd cy1 (40 * f + k) ((cF40 cy f k) + ((dy * (nI ((rr + 1) - (wyR (kd f).toInt n kk k)))) / (nI (rr + 1))))) H locs ls (by first | with_reducible assumption | omega) (by first | with_reducible assumption | omega) (by first | exact fgX_u hcx (shV_f (by first | with_reducible assumption | assumption)) | exact fgX_k hcx (shV_t (X := cF40 cx f) (by first | exact Or.inl (by first | with_reducible assumption | omega) | exact Or.inr ⟨by assumption, by omega⟩))) (by first | exact fgX_u hcy (shV_f (by first | with_reducible assumption | assumption)) | exact fgX_k hcy (shV_t (X := cF40 cy f) (by first | exact Or.inl (by first | with_reducible assumption | omega) | exact Or.inr ⟨by assumption, by omega⟩))) hP hD hS (lv_sub hl [0, 3, 4, 5, 6, 7, 8, 9, 10, 11, 12] rfl)
                                                            · exact absurd (by decide) c_126
                                                          · exact absurd (by decide) c_124
                                                        · exact absurd (by decide) c_122
                                                      · have c_120 : ((k : Nat) : Int) = ((n - 1 : Nat) : Int) := zc_eq (nI_toInt b9_106) (nI_toInt b9_121) c_120
                                                        refine lv_iconst (v := 1) hx hb dX11_shift_258 rfl ?_
                                                        refine lv_goto (tgt := 263) hx hb dX11_shift_259 rfl ?_
                                                        refine lv_istore (lv' := [(12, .int 1), (11, .int (nI (wyR (kd f).toInt n kk k))), (10, .int (nI k)), (9, .int 0), (7, .int 0), (8, .int 0), (6, .int 0), (0, .ref k0), (1, .int (nI f)), (2, .int (nI kk)), (3, .int dx), (4, .int dy), (5, .int (nI rr))]) hx hb dX11_shift_263 hl (Nat.le_of_ble_eq_true rfl) rfl (fun ls hl => ?_)
                                                        refine lv_iload hx hb dX11_shift_265 (lv_at hl 0 rfl) ?_
                                                        refine lv_if_eq (tgt := 273) hx hb dX11_shift_267 rfl (fun c_127 => ?_) (fun c_127 => ?_)
                                                        · exact absurd c_127 (by decide)
                                                        · refine lv_goto (tgt := 361) hx hb dX11_shift_270 rfl ?_
                                                          refine lv_iinc (v := nI (k + 1)) (lv' := [(10, .int (nI (k + 1))), (12, .int 1), (11, .int (nI (wyR (kd f).toInt n kk k))), (9, .int 0), (7, .int 0), (8, .int 0), (6, .int 0), (0, .ref k0), (1, .int (nI f)), (2, .int (nI kk)), (3, .int dx), (4, .int dy), (5, .int (nI rr))]) hx hb dX11_shift_361 hl (k := 2) rfl (nI_add k 1) (Nat.le_of_ble_eq_true rfl) rfl (fun ls hl => ?_)
                                                          refine lv_goto (tgt := 203) hx hb dX11_shift_364 rfl ?_
                                                          exact ih_203 (k + 1) cx1 cy1 H locs ls (by first | with_reducible assumption | omega) (by first | with_reducible assumption | omega) (by first | exact fgX_u hcx (shV_f (by first | with_reducible assumption | assumption)) | exact fgX_k hcx (shV_t (X := cF40 cx f) (by first | exact Or.inl (by first | with_reducible assumption | omega) | exact Or.inr ⟨by assumption, by omega⟩))) (by first | exact fgX_u hcy (shV_f (by first | with_reducible assumption | assumption)) | exact fgX_k hcy (shV_t (X := cF40 cy f) (by first | exact Or.inl (by first | with_reducible assumption | omega) | exact Or.inr ⟨by assumption, by omega⟩))) hP hD hS (lv_sub hl [0, 3, 4, 5, 6, 7, 8, 9, 10, 11, 12] rfl)
                                        exact hl_203 _ 0 cx cy H locs ls (Nat.lt_succ_self _) (by first | with_reducible assumption | omega) (fgX_0 _ _ _) (fgX_0 _ _ _) hP hD hS (lv_sub hl [0, 1, 2, 3, 4, 5, 6, 7, 8, 9, 10] rfl)
                                      · have c_104 : (kd f).toInt = 6 := zc_eq rfl rfl c_104
                                        exfalso; omega
                                  · exact absurd (by decide) c_102
                                · have c_101 : ¬ (tn f).toInt = 0 := zc_ne rfl rfl c_101
                                  exfalso; omega
                              · exact absurd (by decide) c_100
                            · exact absurd (by decide) c_99
                          · have c_98 : 20 < ((rr : Nat) : Int) := zc_nle (nI_toInt b9_97) rfl c_98
                            exfalso; omega
              · have c_91 : ¬ (st f).toInt = 1 := zc_ne rfl rfl c_91
                exfalso; omega
            · exact absurd (by decide) c_90
        · have c_87 : ((n : Nat) : Int) ≤ ((kk : Nat) : Int) := zc_nlt (nI_toInt b9_86) (nI_toInt b9_88) c_87
          exfalso; omega
end
