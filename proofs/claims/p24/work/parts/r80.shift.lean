section
set_option maxHeartbeats 4000000 in
set_option maxRecDepth 100000 in
theorem k_M_shift_t_8 (l : Launch) (dC : Nat → ClassId) (dI : Nat → Nat → Nat) (cI cZ cF : ClassId) (sz : Nat) (k0 : Nat) (a : Nat → Nat) (I0 : Nat → Int32) (J0 : Nat → Int64) (f : Nat) (n : Nat) (ft : Nat) (kk : Nat) (rr : Nat) (dx : Int32) (dy : Int32) (kd : Nat → Int32) (st : Nat → Int32) (gb : Nat → Int32) (it : Nat → Int32) (pa : Nat → Int32) (pb : Nat → Int32) (rk : Nat → Int32) (wd : Nat → Int32) (tw : Nat → Int32) (tn : Nat → Int32) (mn : Nat → Int32) (cx : Nat → Int32) (cy : Nat → Int32) (sa : Nat → Int32) (sh : Nat → Int32) (wh : Nat → Int32) (of9 : Nat → Int32) (we : Nat → Int32) (S0 : Nat → Int32) (T0 : Nat → Int32) (P0 : Nat → Int32) (Q0 : Nat → Int32) (ox : Nat → Int32) (oy : Nat → Int32) (mt : Nat → Int32) (wi : Nat → Int32) (ins : Nat → Int32) (la : Nat → Int32) (lb : Nat → Int32) (lc : Nat → Int32) (ld : Nat → Int32) (cp : Nat) (cl : Nat) (hft : I0 0 = nI ft) (h200 : ft ≤ 200) (hf_f : f ≤ 200) (hm_f : mn f = nI n) (hn_f : 1 ≤ n ∧ n ≤ 40) (hp_f : pls n (cF40 cx f) (cF40 cy f)) (hft_f : f < ft) (hwf : ∀ q, lvF ft st tn q → wfM mn cx cy q) (hst1 : (st f).toInt = 1) (htn0 : (tn f).toInt = 0) (hkk : kk < n) (hrr : rr ≤ 20) (hdx : -200 ≤ dx.toInt ∧ dx.toInt ≤ 200) (hdy : -200 ≤ dy.toInt ∧ dy.toInt ≤ 200) (hkd1 : (kd f).toInt = 0 ∨ (kd f).toInt = 6) (hmv : ¬ mvd n (fun i => cF40 cx f i + dx) (fun i => cF40 cy f i + dy) (cF40 cx f) (cF40 cy f)) : zM l yX11_shift cX11_shift 13 (some .boolean) ({ frames := 5, cells := 0, slots := 0, locals := 130 } : Room) [.ref k0, .int (nI f), .int (nI kk), .int dx, .int dy, .int (nI rr)] (dC, dI) (zTy cI cZ cF) [(om k0 a I0 J0), (oa (a 1) cI 201 kd), (oa (a 5) cI 201 st), (oa (a 7) cI 201 gb), (oa (a 10) cI 201 it), (oa (a 8) cI 201 pa), (oa (a 9) cI 201 pb), (oa (a 2) cI 201 rk), (oa (a 3) cI 201 wd), (oa (a 4) cI 201 tw), (oa (a 6) cZ 201 tn), (oa (a 11) cI 201 mn), (oa (a 12) cI 8040 cx), (oa (a 13) cI 8040 cy), (oa (a 27) cI 516 sa), (oa (a 28) cI (4096 * cp) sh), (oa (a 16) cI 514 wh), (oa (a 17) cI 514 of9), (oa (a 18) cI 514 we), (oa (a 32) cI 8 S0), (oa (a 40) cI 6 T0), (oa (a 29) cI 42 P0), (oa (a 30) cI 42 Q0), (oa (a 33) cI 42 ox), (oa (a 34) cI 42 oy), (oa (a 37) cZ 201 mt), (oa (a 38) cZ 201 wi), (oa (a 39) cZ 8040 ins), (oa (a 22) cI (64 * cl) la), (oa (a 23) cI (64 * cl) lb), (oa (a 24) cI (64 * cl) lc), (oa (a 25) cI (64 * cl) ld)] sz (some (.int 0)) (fun A t => ∃ (S1 : Nat → Int32), ∃ (ox1 : Nat → Int32), ∃ (oy1 : Nat → Int32), ∃ (mt1 : Nat → Int32), ∃ (wi1 : Nat → Int32), ∃ (ins1 : Nat → Int32), zPD (dC, dI) classes A [(om k0 a (upd (upd (upd (upd I0 14 8) 15 (I0 15)) 35 (nI n)) 36 (kd f)) J0), (oa (a 1) cI 201 kd), (oa (a 5) cI 201 st), (oa (a 7) cI 201 gb), (oa (a 10) cI 201 it), (oa (a 8) cI 201 pa), (oa (a 9) cI 201 pb), (oa (a 2) cI 201 rk), (oa (a 3) cI 201 wd), (oa (a 4) cI 201 tw), (oa (a 6) cZ 201 tn), (oa (a 11) cI 201 mn), (oa (a 12) cI 8040 cx), (oa (a 13) cI 8040 cy), (oa (a 27) cI 516 sa), (oa (a 28) cI (4096 * cp) sh), (oa (a 16) cI 514 wh), (oa (a 17) cI 514 of9), (oa (a 18) cI 514 we), (oa (a 32) cI 8 S1), (oa (a 40) cI 6 T0), (oa (a 29) cI 42 P0), (oa (a 30) cI 42 Q0), (oa (a 33) cI 42 ox1), (oa (a 34) cI 42 oy1), (oa (a 37) cZ 201 mt1), (oa (a 38) cZ 201 wi1), (oa (a 39) cZ 8040 ins1), (oa (a 22) cI (64 * cl) la), (oa (a 23) cI (64 * cl) lb), (oa (a 24) cI (64 * cl) lc), (oa (a 25) cI (64 * cl) ld)] t.heap) 0 0 := by
  refine zIn (own := "ScaleShopModel") (loc := [(0, .ref k0), (1, .int (nI f)), (2, .int (nI kk)), (3, .int dx), (4, .int dy), (5, .int (nI rr))]) rfl rfl rfl rfl (fun p e s m below meth c hx hb hr hts hown hlocks hml hnm9 A hA hS hP hD hK hXN Q9 hQ9 ls hl => ?_)
  refine lv_aload_n hx hb dX11_shift_0 rfl (lv_at hl 0 rfl) ?_
  refine lv_iload_n hx hb dX11_shift_1 rfl (lv_at hl 1 rfl) ?_
  obtain ⟨hPc, hDc, hFc, hI1⟩ := zi_sub (wc := [_]) hP hD hS hA [0] rfl rfl
  refine zcall (st1 := [.int (pI (f < ft))]) (va_runV (As := [.int (nI f)]) (rest := []) ⟨hx, hb, hml, hown, hts⟩ (k_M_isFeature_n l dC dI cI cZ cF s.heap.size k0 a I0 J0 f ft (by first | with_reducible assumption | assumption) (by first | with_reducible assumption | omega) (by first | with_reducible assumption | omega)) (csV_178 hts rfl rfl ⟨Nat.le_of_ble_eq_true rfl, Nat.le_of_ble_eq_true rfl⟩) (zPV2 (q0 := 0) (ci := 9) hPc hDc hK hXN rfl rfl) rfl rfl hl.1 rfl (lv_room (Nat.le_of_ble_eq_true rfl)) dX11_shift_2 ⟨Nat.le_of_ble_eq_true rfl, Nat.le_of_ble_eq_true rfl⟩) hS hFc hFc rfl (fun t H locs ht hB hk1 hS => ?_)
  obtain ⟨hP1, hD1⟩ := hB
  rw [ht] at hP1
  replace hP := z0 hP hD hk1 hP1 hI1
  clear hk1 hPc hDc hFc hP1 hD1 ht hI1
  refine lv_if_eq (tgt := 35) hx hb dX11_shift_5 rfl (fun c_1 => ?_) (fun c_1 => ?_)
  · have c_1 : ¬ (f < ft) := zp_0 c_1
    refine lv_iconst (v := 0) hx hb dX11_shift_35 rfl ?_
    refine lv_istore (lv' := [(6, .int 0), (0, .ref k0), (1, .int (nI f)), (2, .int (nI kk)), (3, .int dx), (4, .int dy), (5, .int (nI rr))]) hx hb dX11_shift_36 hl (Nat.le_of_ble_eq_true rfl) rfl (fun ls hl => ?_)
    refine lv_aload_n hx hb dX11_shift_38 rfl (lv_at hl 1 rfl) ?_
    refine lv_iload_n hx hb dX11_shift_39 rfl (lv_at hl 2 rfl) ?_
    obtain ⟨hPc, hDc, hFc, hI1⟩ := zi_sub (wc := [_]) hP hD hS hA [0] rfl rfl
    refine zcall (st1 := [.int (pI (f < ft))]) (va_runV (As := [.int (nI f)]) (rest := []) ⟨hx, hb, hml, hown, hts⟩ (k_M_isFeature_n l dC dI cI cZ cF H.size k0 a I0 J0 f ft (by first | with_reducible assumption | assumption) (by first | with_reducible assumption | omega) (by first | with_reducible assumption | omega)) (csV_178 hts rfl rfl ⟨Nat.le_of_ble_eq_true rfl, Nat.le_of_ble_eq_true rfl⟩) (zPV2 (q0 := 0) (ci := 9) hPc hDc hK hXN rfl rfl) rfl rfl hl.1 rfl (lv_room (Nat.le_of_ble_eq_true rfl)) dX11_shift_40 ⟨Nat.le_of_ble_eq_true rfl, Nat.le_of_ble_eq_true rfl⟩) hS hFc hFc rfl (fun t H locs ht hB hk1 hS => ?_)
    obtain ⟨hP1, hD1⟩ := hB
    rw [ht] at hP1
    replace hP := z0 hP hD hk1 hP1 hI1
    clear hk1 hPc hDc hFc hP1 hD1 ht hI1
    refine lv_if_eq (tgt := 51) hx hb dX11_shift_43 rfl (fun c_2 => ?_) (fun c_2 => ?_)
    · have c_2 : ¬ (f < ft) := zp_0 c_2
      exfalso; omega
    · have c_2 : f < ft := zp_1 c_2
      refine lv_iload hx hb dX11_shift_46 (lv_at hl 0 rfl) ?_
      refine lv_if_eq (tgt := 55) hx hb dX11_shift_48 rfl (fun c_3 => ?_) (fun c_3 => ?_)
      · refine lv_aload_n hx hb dX11_shift_55 rfl (lv_at hl 1 rfl) ?_
        refine va_get (D := (dC, dI)) (ci := 9) (v := .ref (a 5)) (C := RX11) (T := TX11) (N := 55) hx hb hts inX11 hown hK hP 0 rfl rfl 5 (Nat.le_of_ble_eq_true rfl) (hts _ mw_1164) (fun _ h9 => h9) rfl dX11_shift_56 ?_
        refine lv_iload_n hx hb dX11_shift_59 rfl (lv_at hl 2 rfl) ?_
        have b9_4 : f < 201 := by omega
        refine z_iald hx hb hK hP 2 0 rfl rfl (e := f) rfl b9_4 (Nat.le_of_ble_eq_true rfl) dX11_shift_60 ?_
        refine lv_iconst (v := 1) hx hb dX11_shift_61 rfl ?_
        refine lv_icmp_eq (tgt := 69) hx hb dX11_shift_62 rfl (fun c_5 => ?_) (fun c_5 => ?_)
        · have c_5 : (st f).toInt = 1 := zc_eq rfl rfl c_5
          refine lv_iconst (v := 0) hx hb dX11_shift_69 rfl ?_
          refine lv_istore (lv' := [(7, .int 0), (6, .int 0), (0, .ref k0), (1, .int (nI f)), (2, .int (nI kk)), (3, .int dx), (4, .int dy), (5, .int (nI rr))]) hx hb dX11_shift_70 hl (Nat.le_of_ble_eq_true rfl) rfl (fun ls hl => ?_)
          refine lv_iload_n hx hb dX11_shift_72 rfl (lv_at hl 5 rfl) ?_
          refine lv_sipush (v := (-200)) hx hb dX11_shift_73 rfl ?_
          refine lv_icmp_lt (tgt := 114) hx hb dX11_shift_76 rfl (fun c_6 => ?_) (fun c_6 => ?_)
          · have c_6 : dx.toInt < (-200) := zc_lt rfl rfl c_6
            exfalso; omega
          · have c_6 : (-200) ≤ dx.toInt := zc_nlt rfl rfl c_6
            refine lv_iload_n hx hb dX11_shift_79 rfl (lv_at hl 5 rfl) ?_
            refine lv_sipush (v := 200) hx hb dX11_shift_80 rfl ?_
            refine lv_icmp_gt (tgt := 114) hx hb dX11_shift_83 rfl (fun c_7 => ?_) (fun c_7 => ?_)
            · have c_7 : 200 < dx.toInt := zc_lt rfl rfl c_7
              exfalso; omega
            · have c_7 : dx.toInt ≤ 200 := zc_nlt rfl rfl c_7
              refine lv_iload hx hb dX11_shift_86 (lv_at hl 6 rfl) ?_
              refine lv_sipush (v := (-200)) hx hb dX11_shift_88 rfl ?_
              refine lv_icmp_lt (tgt := 114) hx hb dX11_shift_91 rfl (fun c_8 => ?_) (fun c_8 => ?_)
              · have c_8 : dy.toInt < (-200) := zc_lt rfl rfl c_8
                exfalso; omega
              · have c_8 : (-200) ≤ dy.toInt := zc_nlt rfl rfl c_8
                refine lv_iload hx hb dX11_shift_94 (lv_at hl 6 rfl) ?_
                refine lv_sipush (v := 200) hx hb dX11_shift_96 rfl ?_
                refine lv_icmp_gt (tgt := 114) hx hb dX11_shift_99 rfl (fun c_9 => ?_) (fun c_9 => ?_)
                · have c_9 : 200 < dy.toInt := zc_lt rfl rfl c_9
                  exfalso; omega
                · have c_9 : dy.toInt ≤ 200 := zc_nlt rfl rfl c_9
                  refine lv_iload hx hb dX11_shift_102 (lv_at hl 7 rfl) ?_
                  have b9_11 : zlt (rr) := show rr < 2147483648 by omega
                  refine lv_if_lt (tgt := 114) hx hb dX11_shift_104 rfl (fun c_10 => ?_) (fun c_10 => ?_)
                  · have c_10 : ((rr : Nat) : Int) < 0 := zc_lt (nI_toInt b9_11) rfl c_10
                    exfalso; omega
                  · have c_10 : 0 ≤ ((rr : Nat) : Int) := zc_nlt (nI_toInt b9_11) rfl c_10
                    refine lv_iload hx hb dX11_shift_107 (lv_at hl 7 rfl) ?_
                    refine lv_bipush (v := 20) hx hb dX11_shift_109 rfl ?_
                    refine lv_icmp_le (tgt := 118) hx hb dX11_shift_111 rfl (fun c_12 => ?_) (fun c_12 => ?_)
                    · have c_12 : ((rr : Nat) : Int) ≤ 20 := zc_le (nI_toInt b9_11) rfl c_12
                      refine lv_iconst (v := 0) hx hb dX11_shift_118 rfl ?_
                      refine lv_istore (lv' := [(8, .int 0), (7, .int 0), (6, .int 0), (0, .ref k0), (1, .int (nI f)), (2, .int (nI kk)), (3, .int dx), (4, .int dy), (5, .int (nI rr))]) hx hb dX11_shift_119 hl (Nat.le_of_ble_eq_true rfl) rfl (fun ls hl => ?_)
                      refine lv_iload hx hb dX11_shift_121 (lv_at hl 1 rfl) ?_
                      refine lv_if_le (tgt := 131) hx hb dX11_shift_123 rfl (fun c_13 => ?_) (fun c_13 => ?_)
                      · refine lv_iload hx hb dX11_shift_131 (lv_at hl 0 rfl) ?_
                        refine lv_if_eq (tgt := 140) hx hb dX11_shift_133 rfl (fun c_14 => ?_) (fun c_14 => ?_)
                        · refine lv_aload_n hx hb dX11_shift_140 rfl (lv_at hl 3 rfl) ?_
                          refine va_get (D := (dC, dI)) (ci := 9) (v := .ref (a 6)) (C := RX11) (T := TX11) (N := 55) hx hb hts inX11 hown hK hP 0 rfl rfl 6 (Nat.le_of_ble_eq_true rfl) (hts _ mw_1165) (fun _ h9 => h9) rfl dX11_shift_141 ?_
                          refine lv_iload_n hx hb dX11_shift_144 rfl (lv_at hl 4 rfl) ?_
                          refine z_zald hx hb hK hP 10 1 rfl rfl (e := f) rfl b9_4 (Nat.le_of_ble_eq_true rfl) dX11_shift_145 ?_
                          refine lv_if_eq (tgt := 153) hx hb dX11_shift_146 rfl (fun c_15 => ?_) (fun c_15 => ?_)
                          · have c_15 : (tn f).toInt = 0 := zc_eq rfl rfl c_15
                            refine lv_iconst (v := 0) hx hb dX11_shift_153 rfl ?_
                            refine lv_istore (lv' := [(7, .int 0), (8, .int 0), (6, .int 0), (0, .ref k0), (1, .int (nI f)), (2, .int (nI kk)), (3, .int dx), (4, .int dy), (5, .int (nI rr))]) hx hb dX11_shift_154 hl (Nat.le_of_ble_eq_true rfl) rfl (fun ls hl => ?_)
                            refine lv_iload hx hb dX11_shift_156 (lv_at hl 0 rfl) ?_
                            refine lv_if_le (tgt := 168) hx hb dX11_shift_158 rfl (fun c_16 => ?_) (fun c_16 => ?_)
                            · refine lv_aload_n hx hb dX11_shift_168 rfl (lv_at hl 3 rfl) ?_
                              refine lv_iload_n hx hb dX11_shift_169 rfl (lv_at hl 4 rfl) ?_
                              obtain ⟨hPc, hDc, hFc⟩ := zo_sub (wc := [_, _, _, _, _, _, _, _, _, _, _, _, _]) hP hD hS hA [0, 2, 10, 1, 11, 12, 13, 19, 23, 24, 25, 26, 27] (by decide +kernel) rfl
                              refine zcall (st1 := []) (va_runV (As := [.int (nI f)]) (rest := []) ⟨hx, hb, hml, hown, hts⟩ (k_M_remember l dC dI cI cZ cF H.size k0 a I0 J0 f n ft st tn kd mn cx cy S0 ox oy mt wi ins (by first | with_reducible assumption | assumption) (by first | with_reducible assumption | omega) (by first | with_reducible assumption | omega) (by first | with_reducible assumption | assumption) (by first | with_reducible assumption | omega) (by first | with_reducible assumption | assumption) (fun q h1 _ => hwf q h1)) (csV_190 hts rfl rfl ⟨Nat.le_of_ble_eq_true rfl, Nat.le_of_ble_eq_true rfl⟩) (zPV2 (q0 := 0) (ci := 9) hPc hDc hK hXN rfl rfl) rfl rfl hl.1 rfl (lv_room (Nat.le_of_ble_eq_true rfl)) dX11_shift_170 ⟨Nat.le_of_ble_eq_true rfl, Nat.le_of_ble_eq_true rfl⟩) hS hFc hFc rfl (fun t H locs ht hB hk1 hS => ?_)
                              refine ex6 hB (fun S1 ox1 oy1 mt1 wi1 ins1 hB0 => ?_)
                              clear hB
                              obtain ⟨hox, hmt, hwi, hin, hP1, hD1⟩ := hB0
                              rw [ht] at hP1
                              obtain ⟨hP, hD⟩ := zn (W2 := [(om k0 a (upd (upd I0 35 (nI n)) 36 (kd f)) J0), _, _, _, _, _, _, _, _, _, _, _, _, _, _, _, _, _, _, (oa (a 32) cI 8 S1), _, _, _, (oa (a 33) cI 42 ox1), (oa (a 34) cI 42 oy1), (oa (a 37) cZ 201 mt1), (oa (a 38) cZ 201 wi1), (oa (a 39) cZ 8040 ins1), _, _, _, _]) hP hD hk1 hFc hP1 hD1 zl_194 zl_195 zl_195 zl_194 (by decide +kernel) rfl rfl rfl rfl rfl
                              clear hk1 hPc hDc hFc hP1 hD1 ht
                              refine lv_aload_n hx hb dX11_shift_173 rfl (lv_at hl 3 rfl) ?_
                              refine va_get (D := (dC, dI)) (ci := 9) (v := .ref (a 1)) (C := RX11) (T := TX11) (N := 55) hx hb hts inX11 hown hK hP 0 rfl rfl 1 (Nat.le_of_ble_eq_true rfl) (hts _ mw_1160) (fun _ h9 => h9) rfl dX11_shift_174 ?_
                              refine lv_iload_n hx hb dX11_shift_177 rfl (lv_at hl 4 rfl) ?_
                              refine z_iald hx hb hK hP 1 0 rfl rfl (e := f) rfl b9_4 (Nat.le_of_ble_eq_true rfl) dX11_shift_178 ?_
                              have hj_17 : W p l e ({ frames := 5, cells := 0, slots := 0, locals := 130 } : Room) s m ([.ref k0, .int (nI f), .int (nI kk), .int dx, .int dy, .int (nI rr)] : List Value).toArray below meth c H locs 0 0 Q9 (F0 m 198 ls [.int 1]) := by
                                refine lv_istore (lv' := [(9, .int 1), (7, .int 0), (8, .int 0), (6, .int 0), (0, .ref k0), (1, .int (nI f)), (2, .int (nI kk)), (3, .int dx), (4, .int dy), (5, .int (nI rr))]) hx hb dX11_shift_198 hl (Nat.le_of_ble_eq_true rfl) rfl (fun ls hl => ?_)
                                refine lv_iconst (v := 0) hx hb dX11_shift_200 rfl ?_
                                refine lv_istore (lv' := [(10, .int 0), (9, .int 1), (7, .int 0), (8, .int 0), (6, .int 0), (0, .ref k0), (1, .int (nI f)), (2, .int (nI kk)), (3, .int dx), (4, .int dy), (5, .int (nI rr))]) hx hb dX11_shift_201 hl (Nat.le_of_ble_eq_true rfl) rfl (fun ls hl => ?_)
                                have hl_203 : ∀ (n9 : Nat) (k : Nat) (cx1 : Nat → Int32) (cy1 : Nat → Int32) (H : Heap) (locs : List Loc) (ls : Array Slot), n - k < n9 → (k ≤ n) → (cx1 = fgX f k (fun i => cF40 cx f i + dx) cx) → (cy1 = fgX f k (fun i => cF40 cy f i + dy) cy) → va_P (dC, dI) classes [(om k0 a (upd (upd I0 35 (nI n)) 36 (kd f)) J0), (oa (a 1) cI 201 kd), (oa (a 5) cI 201 st), (oa (a 7) cI 201 gb), (oa (a 10) cI 201 it), (oa (a 8) cI 201 pa), (oa (a 9) cI 201 pb), (oa (a 2) cI 201 rk), (oa (a 3) cI 201 wd), (oa (a 4) cI 201 tw), (oa (a 6) cZ 201 tn), (oa (a 11) cI 201 mn), (oa (a 12) cI 8040 cx1), (oa (a 13) cI 8040 cy1), (oa (a 27) cI 516 sa), (oa (a 28) cI (4096 * cp) sh), (oa (a 16) cI 514 wh), (oa (a 17) cI 514 of9), (oa (a 18) cI 514 we), (oa (a 32) cI 8 S1), (oa (a 40) cI 6 T0), (oa (a 29) cI 42 P0), (oa (a 30) cI 42 Q0), (oa (a 33) cI 42 ox1), (oa (a 34) cI 42 oy1), (oa (a 37) cZ 201 mt1), (oa (a 38) cZ 201 wi1), (oa (a 39) cZ 8040 ins1), (oa (a 22) cI (64 * cl) la), (oa (a 23) cI (64 * cl) lb), (oa (a 24) cI (64 * cl) lc), (oa (a 25) cI (64 * cl) ld)] H → va_D A [(om k0 a (upd (upd I0 35 (nI n)) 36 (kd f)) J0), (oa (a 1) cI 201 kd), (oa (a 5) cI 201 st), (oa (a 7) cI 201 gb), (oa (a 10) cI 201 it), (oa (a 8) cI 201 pa), (oa (a 9) cI 201 pb), (oa (a 2) cI 201 rk), (oa (a 3) cI 201 wd), (oa (a 4) cI 201 tw), (oa (a 6) cZ 201 tn), (oa (a 11) cI 201 mn), (oa (a 12) cI 8040 cx1), (oa (a 13) cI 8040 cy1), (oa (a 27) cI 516 sa), (oa (a 28) cI (4096 * cp) sh), (oa (a 16) cI 514 wh), (oa (a 17) cI 514 of9), (oa (a 18) cI 514 we), (oa (a 32) cI 8 S1), (oa (a 40) cI 6 T0), (oa (a 29) cI 42 P0), (oa (a 30) cI 42 Q0), (oa (a 33) cI 42 ox1), (oa (a 34) cI 42 oy1), (oa (a 37) cZ 201 mt1), (oa (a 38) cZ 201 wi1), (oa (a 39) cZ 8040 ins1), (oa (a 22) cI (64 * cl) la), (oa (a 23) cI (64 * cl) lb), (oa (a 24) cI (64 * cl) lc), (oa (a 25) cI (64 * cl) ld)] → va_S A s.heap H locs → lv_has ls 13 [(10, .int (nI k)), (9, .int 1), (7, .int 0), (8, .int 0), (6, .int 0), (0, .ref k0), (1, .int (nI f)), (2, .int (nI kk)), (3, .int dx), (4, .int dy), (5, .int (nI rr))] → W p l e ({ frames := 5, cells := 0, slots := 0, locals := 130 } : Room) s m ([.ref k0, .int (nI f), .int (nI kk), .int dx, .int dy, .int (nI rr)] : List Value).toArray below meth c H locs 0 0 Q9 (F0 m 203 ls []) := by
                                  intro n9
                                  induction n9 with
                                  | zero => intro k cx1 cy1 H locs ls hm; exact absurd hm (Nat.not_lt_zero _)
                                  | succ n9 ih_203 =>
                                    intro k cx1 cy1 H locs ls hm hk hcx hcy hP hD hS hl
                                    refine lv_iload hx hb dX11_shift_203 (lv_at hl 0 rfl) ?_
                                    refine lv_aload_n hx hb dX11_shift_205 rfl (lv_at hl 5 rfl) ?_
                                    refine va_get (D := (dC, dI)) (ci := 9) (v := .int (nI n)) (C := RX11) (T := TX11) (N := 55) hx hb hts inX11 hown hK hP 0 rfl rfl 35 (Nat.le_of_ble_eq_true rfl) (hts _ mw_1194) (fun _ h9 => h9) rfl dX11_shift_206 ?_
                                    have b9_19 : zlt (k) := show k < 2147483648 by omega
                                    have b9_20 : zlt (n) := show n < 2147483648 by omega
                                    refine lv_icmp_ge (tgt := 367) hx hb dX11_shift_209 rfl (fun c_18 => ?_) (fun c_18 => ?_)
                                    · have c_18 : ((n : Nat) : Int) ≤ ((k : Nat) : Int) := zc_le (nI_toInt b9_20) (nI_toInt b9_19) c_18
                                      have hkn : k = n := (by omega)
                                      rw [hkn] at hcx hcy
                                      refine lv_aload_n hx hb dX11_shift_367 rfl (lv_at hl 5 rfl) ?_
                                      refine lv_iload_n hx hb dX11_shift_368 rfl (lv_at hl 6 rfl) ?_
                                      obtain ⟨hPc, hDc, hFc, hI1⟩ := zi_sub (wc := [_, _, _, _, _]) hP hD hS hA [0, 12, 13, 23, 24] (by decide +kernel) rfl
                                      refine zcall (st1 := [.int (pI (∃ k, k < n ∧ ¬ ((cx1 (40 * f + k)).toInt = (ox1 k).toInt ∧ (cy1 (40 * f + k)).toInt = (oy1 k).toInt)))]) (va_runV (As := [.int (nI f)]) (rest := []) ⟨hx, hb, hml, hown, hts⟩ (k_M_moves l dC dI cI cZ cF H.size k0 a (upd (upd I0 35 (nI n)) 36 (kd f)) J0 f n cx1 cy1 ox1 oy1 (by first | with_reducible assumption | omega) (rfl) (by first | with_reducible assumption | omega)) (csV_211 hts rfl rfl ⟨Nat.le_of_ble_eq_true rfl, Nat.le_of_ble_eq_true rfl⟩) (zPV2 (q0 := 0) (ci := 9) hPc hDc hK hXN rfl rfl) rfl rfl hl.1 rfl (lv_room (Nat.le_of_ble_eq_true rfl)) dX11_shift_369 ⟨Nat.le_of_ble_eq_true rfl, Nat.le_of_ble_eq_true rfl⟩) hS hFc hFc rfl (fun t H locs ht hB hk1 hS => ?_)
                                      obtain ⟨hP1, hD1⟩ := hB
                                      rw [ht] at hP1
                                      replace hP := z0 hP hD hk1 hP1 hI1
                                      clear hk1 hPc hDc hFc hP1 hD1 ht hI1
                                      refine zz_i (v := pI (mvd n (fun i => cF40 cx f i + dx) (fun i => cF40 cy f i + dy) (cF40 cx f) (cF40 cy f))) (zp_iff (mv_iff hcx hcy hox)) ?_
                                      refine lv_if_ne (tgt := 382) hx hb dX11_shift_372 rfl (fun c_21 => ?_) (fun c_21 => ?_)
                                      · have c_21 : mvd n (fun i => cF40 cx f i + dx) (fun i => cF40 cy f i + dy) (cF40 cx f) (cF40 cy f) := zp_1 c_21
                                        exfalso; exact absurd (by first | with_reducible assumption | assumption) hmv
                                      · have c_21 : ¬ (mvd n (fun i => cF40 cx f i + dx) (fun i => cF40 cy f i + dy) (cF40 cx f) (cF40 cy f)) := zp_0 c_21
                                        refine lv_aload_n hx hb dX11_shift_375 rfl (lv_at hl 5 rfl) ?_
                                        refine lv_bipush (v := 8) hx hb dX11_shift_376 rfl ?_
                                        obtain ⟨hPc, hDc, hFc⟩ := zo_sub (wc := [_]) hP hD hS hA [0] rfl rfl
                                        refine zcall (st1 := [.int 0]) (va_runV (As := [.int 8]) (rest := []) ⟨hx, hb, hml, hown, hts⟩ (k_M_no l dC dI cI cZ cF H.size k0 a (upd (upd I0 35 (nI n)) 36 (kd f)) J0 8 (by decide)) (csV_198 hts rfl rfl ⟨Nat.le_of_ble_eq_true rfl, Nat.le_of_ble_eq_true rfl⟩) (zPV2 (q0 := 0) (ci := 9) hPc hDc hK hXN rfl rfl) rfl rfl hl.1 rfl (lv_room (Nat.le_of_ble_eq_true rfl)) dX11_shift_378 ⟨Nat.le_of_ble_eq_true rfl, Nat.le_of_ble_eq_true rfl⟩) hS hFc hFc rfl (fun t H locs ht hB hk1 hS => ?_)
                                        obtain ⟨hP1, hD1⟩ := hB
                                        rw [ht] at hP1
                                        obtain ⟨hP, hD⟩ := zn (W2 := [(om k0 a (upd (upd (upd (upd I0 14 8) 15 (I0 15)) 35 (nI n)) 36 (kd f)) J0), _, _, _, _, _, _, _, _, _, _, _, _, _, _, _, _, _, _, _, _, _, _, _, _, _, _, _, _, _, _, _]) hP hD hk1 hFc hP1 hD1 [0] zl_183 zl_183 [0] (by decide +kernel) rfl rfl rfl rfl rfl
                                        clear hk1 hPc hDc hFc hP1 hD1 ht
                                        have hsx : fgX f n (fun i => cF40 cx f i + dx) cx = cx := fgX_same (fun k9 h9 => Classical.byContradiction fun h8 => hmv ⟨k9, h9, fun h7 => h8 h7.1⟩)
                                        have hsy : fgX f n (fun i => cF40 cy f i + dy) cy = cy := fgX_same (fun k9 h9 => Classical.byContradiction fun h8 => hmv ⟨k9, h9, fun h7 => h8 h7.2⟩)
                                        obtain ⟨hP9, hD9⟩ := zu_sub (wc := [(om k0 a (upd (upd (upd (upd I0 14 8) 15 (I0 15)) 35 (nI n)) 36 (kd f)) J0), (oa (a 1) cI 201 kd), (oa (a 5) cI 201 st), (oa (a 7) cI 201 gb), (oa (a 10) cI 201 it), (oa (a 8) cI 201 pa), (oa (a 9) cI 201 pb), (oa (a 2) cI 201 rk), (oa (a 3) cI 201 wd), (oa (a 4) cI 201 tw), (oa (a 6) cZ 201 tn), (oa (a 11) cI 201 mn), (oa (a 12) cI 8040 cx1), (oa (a 13) cI 8040 cy1), (oa (a 27) cI 516 sa), (oa (a 28) cI (4096 * cp) sh), (oa (a 16) cI 514 wh), (oa (a 17) cI 514 of9), (oa (a 18) cI 514 we), (oa (a 32) cI 8 S1), (oa (a 40) cI 6 T0), (oa (a 29) cI 42 P0), (oa (a 30) cI 42 Q0), (oa (a 33) cI 42 ox1), (oa (a 34) cI 42 oy1), (oa (a 37) cZ 201 mt1), (oa (a 38) cZ 201 wi1), (oa (a 39) cZ 8040 ins1), (oa (a 22) cI (64 * cl) la), (oa (a 23) cI (64 * cl) lb), (oa (a 24) cI (64 * cl) lc), (oa (a 25) cI (64 * cl) ld)]) hP hD (true :: true :: true :: true :: true :: true :: true :: true :: true :: true :: true :: true :: true :: true :: true :: true :: true :: true :: true :: true :: true :: true :: true :: true :: true :: true :: true :: true :: true :: true :: true :: true :: []) rfl rfl
                                        have hE9 : ([(om k0 a (upd (upd (upd (upd I0 14 8) 15 (I0 15)) 35 (nI n)) 36 (kd f)) J0), (oa (a 1) cI 201 kd), (oa (a 5) cI 201 st), (oa (a 7) cI 201 gb), (oa (a 10) cI 201 it), (oa (a 8) cI 201 pa), (oa (a 9) cI 201 pb), (oa (a 2) cI 201 rk), (oa (a 3) cI 201 wd), (oa (a 4) cI 201 tw), (oa (a 6) cZ 201 tn), (oa (a 11) cI 201 mn), (oa (a 12) cI 8040 cx1), (oa (a 13) cI 8040 cy1), (oa (a 27) cI 516 sa), (oa (a 28) cI (4096 * cp) sh), (oa (a 16) cI 514 wh), (oa (a 17) cI 514 of9), (oa (a 18) cI 514 we), (oa (a 32) cI 8 S1), (oa (a 40) cI 6 T0), (oa (a 29) cI 42 P0), (oa (a 30) cI 42 Q0), (oa (a 33) cI 42 ox1), (oa (a 34) cI 42 oy1), (oa (a 37) cZ 201 mt1), (oa (a 38) cZ 201 wi1), (oa (a 39) cZ 8040 ins1), (oa (a 22) cI (64 * cl) la), (oa (a 23) cI (64 * cl) lb), (oa (a 24) cI (64 * cl) lc), (oa (a 25) cI (64 * cl) ld)] : va_W) = [(om k0 a (upd (upd (upd (upd I0 14 8) 15 (I0 15)) 35 (nI n)) 36 (kd f)) J0), (oa (a 1) cI 201 kd), (oa (a 5) cI 201 st), (oa (a 7) cI 201 gb), (oa (a 10) cI 201 it), (oa (a 8) cI 201 pa), (oa (a 9) cI 201 pb), (oa (a 2) cI 201 rk), (oa (a 3) cI 201 wd), (oa (a 4) cI 201 tw), (oa (a 6) cZ 201 tn), (oa (a 11) cI 201 mn), (oa (a 12) cI 8040 cx), (oa (a 13) cI 8040 cy), (oa (a 27) cI 516 sa), (oa (a 28) cI (4096 * cp) sh), (oa (a 16) cI 514 wh), (oa (a 17) cI 514 of9), (oa (a 18) cI 514 we), (oa (a 32) cI 8 S1), (oa (a 40) cI 6 T0), (oa (a 29) cI 42 P0), (oa (a 30) cI 42 Q0), (oa (a 33) cI 42 ox1), (oa (a 34) cI 42 oy1), (oa (a 37) cZ 201 mt1), (oa (a 38) cZ 201 wi1), (oa (a 39) cZ 8040 ins1), (oa (a 22) cI (64 * cl) la), (oa (a 23) cI (64 * cl) lb), (oa (a 24) cI (64 * cl) lc), (oa (a 25) cI (64 * cl) ld)] := by rw [hcx, hcy, hsx, hsy]
                                        rw [hE9] at hP9 hD9
                                        rw [hQ9]
                                        exact W.zret (ty := .boolean) (v := 0) hx hb hr (rfl) (fun t ht hW => ⟨⟨rfl, S1, ox1, oy1, mt1, wi1, ins1, by rw [ht]; exact hP9, hD9⟩, hS.F ht⟩) hS.2.2 dX11_shift_381
                                    · have c_18 : ((k : Nat) : Int) < ((n : Nat) : Int) := zc_nle (nI_toInt b9_20) (nI_toInt b9_19) c_18
                                      have hk9 : k < n := (by omega)
                                      refine lv_aload_n hx hb dX11_shift_212 rfl (lv_at hl 5 rfl) ?_
                                      refine lv_iload_n hx hb dX11_shift_213 rfl (lv_at hl 6 rfl) ?_
                                      refine lv_iload_n hx hb dX11_shift_214 rfl (lv_at hl 7 rfl) ?_
                                      refine lv_iload hx hb dX11_shift_215 (lv_at hl 0 rfl) ?_
                                      obtain ⟨hPc, hDc, hFc, hI1⟩ := zi_sub (wc := [_, _]) hP hD hS hA [0, 1] rfl rfl
                                      refine zcall (st1 := [.int (nI (wyR (kd f).toInt n kk k))]) (va_runV (As := [.int (nI f), .int (nI kk), .int (nI k)]) (rest := []) ⟨hx, hb, hml, hown, hts⟩ (k_M_wayOf l dC dI cI cZ cF H.size k0 a (upd (upd I0 35 (nI n)) 36 (kd f)) J0 f n kk k kd (by first | with_reducible assumption | omega) (by first | with_reducible assumption | omega) (hkk) (by first | with_reducible assumption | omega)) (csV_216 hts rfl rfl ⟨Nat.le_of_ble_eq_true rfl, Nat.le_of_ble_eq_true rfl⟩) (zPV2 (q0 := 0) (ci := 9) hPc hDc hK hXN rfl rfl) rfl rfl hl.1 rfl (lv_room (Nat.le_of_ble_eq_true rfl)) dX11_shift_217 ⟨Nat.le_of_ble_eq_true rfl, Nat.le_of_ble_eq_true rfl⟩) hS hFc hFc rfl (fun t H locs ht hB hk1 hS => ?_)
                                      obtain ⟨hP1, hD1⟩ := hB
                                      rw [ht] at hP1
                                      replace hP := z0 hP hD hk1 hP1 hI1
                                      clear hk1 hPc hDc hFc hP1 hD1 ht hI1
                                      refine lv_istore (lv' := [(11, .int (nI (wyR (kd f).toInt n kk k))), (10, .int (nI k)), (9, .int 1), (7, .int 0), (8, .int 0), (6, .int 0), (0, .ref k0), (1, .int (nI f)), (2, .int (nI kk)), (3, .int dx), (4, .int dy), (5, .int (nI rr))]) hx hb dX11_shift_220 hl (Nat.le_of_ble_eq_true rfl) rfl (fun ls hl => ?_)
                                      refine lv_iload hx hb dX11_shift_222 (lv_at hl 2 rfl) ?_
                                      refine lv_if_ne (tgt := 262) hx hb dX11_shift_224 rfl (fun c_22 => ?_) (fun c_22 => ?_)
                                      · refine lv_iconst (v := 0) hx hb dX11_shift_262 rfl ?_
                                        refine lv_istore (lv' := [(12, .int 0), (11, .int (nI (wyR (kd f).toInt n kk k))), (10, .int (nI k)), (9, .int 1), (7, .int 0), (8, .int 0), (6, .int 0), (0, .ref k0), (1, .int (nI f)), (2, .int (nI kk)), (3, .int dx), (4, .int dy), (5, .int (nI rr))]) hx hb dX11_shift_263 hl (Nat.le_of_ble_eq_true rfl) rfl (fun ls hl => ?_)
                                        refine lv_iload hx hb dX11_shift_265 (lv_at hl 0 rfl) ?_
                                        refine lv_if_eq (tgt := 273) hx hb dX11_shift_267 rfl (fun c_23 => ?_) (fun c_23 => ?_)
                                        · refine lv_aload_n hx hb dX11_shift_273 rfl (lv_at hl 7 rfl) ?_
                                          refine va_get (D := (dC, dI)) (ci := 9) (v := .ref (a 12)) (C := RX11) (T := TX11) (N := 55) hx hb hts inX11 hown hK hP 0 rfl rfl 12 (Nat.le_of_ble_eq_true rfl) (hts _ mw_1171) (fun _ h9 => h9) rfl dX11_shift_274 ?_
                                          refine lv_bipush (v := 40) hx hb dX11_shift_277 rfl ?_
                                          refine lv_iload_n hx hb dX11_shift_279 rfl (lv_at hl 8 rfl) ?_
                                          refine lv_imul hx hb dX11_shift_280 ?_
                                          refine zz_i (v := nI (40 * f)) (pk_mul 40 f) ?_
                                          refine lv_iload hx hb dX11_shift_281 (lv_at hl 2 rfl) ?_
                                          refine lv_iadd hx hb dX11_shift_283 ?_
                                          refine zz_i (v := nI (40 * f + k)) (nI_add (40 * f) k) ?_
                                          refine lv_aload_n hx hb dX11_shift_284 rfl (lv_at hl 7 rfl) ?_
                                          refine va_get (D := (dC, dI)) (ci := 9) (v := .ref (a 33)) (C := RX11) (T := TX11) (N := 55) hx hb hts inX11 hown hK hP 0 rfl rfl 33 (Nat.le_of_ble_eq_true rfl) (hts _ mw_1192) (fun _ h9 => h9) rfl dX11_shift_285 ?_
                                          refine lv_iload hx hb dX11_shift_288 (lv_at hl 2 rfl) ?_
                                          have b9_24 : k < 42 := by omega
                                          refine z_iald hx hb hK hP 23 0 rfl rfl (e := k) rfl b9_24 (Nat.le_of_ble_eq_true rfl) dX11_shift_290 ?_
                                          refine zz_i (v := cF40 cx f k) ((hox _ hk9).1) ?_
                                          refine lv_iload hx hb dX11_shift_291 (lv_at hl 3 rfl) ?_
                                          refine lv_if_eq (tgt := 300) hx hb dX11_shift_293 rfl (fun c_25 => ?_) (fun c_25 => ?_)
                                          · exact absurd c_25 (by decide)
                                          · refine lv_iload_n hx hb dX11_shift_296 rfl (lv_at hl 10 rfl) ?_
                                            refine lv_goto (tgt := 314) hx hb dX11_shift_297 rfl ?_
                                            refine lv_iadd hx hb dX11_shift_314 ?_
                                            have b9_26 : 40 * f + k < 8040 := by omega
                                            refine z_iast hx hb hK hP hD hS 12 0 rfl rfl (e := 40 * f + k) (x := (cF40 cx f k) + dx) rfl b9_26 (Nat.le_of_ble_eq_true rfl) dX11_shift_315 (fun H locs hP hD hS => ?_)
                                            obtain ⟨hP, hD⟩ := zre (W2 := [_, _, _, _, _, _, _, _, _, _, _, _, (oa (a 12) cI 8040 (upd cx1 (40 * f + k) ((cF40 cx f k) + dx))), _, _, _, _, _, _, _, _, _, _, _, _, _, _, _, _, _, _, _]) hP hD rfl
                                            refine lv_aload_n hx hb dX11_shift_316 rfl (lv_at hl 7 rfl) ?_
                                            refine va_get (D := (dC, dI)) (ci := 9) (v := .ref (a 13)) (C := RX11) (T := TX11) (N := 55) hx hb hts inX11 hown hK hP 0 rfl rfl 13 (Nat.le_of_ble_eq_true rfl) (hts _ mw_1172) (fun _ h9 => h9) rfl dX11_shift_317 ?_
                                            refine lv_bipush (v := 40) hx hb dX11_shift_320 rfl ?_
                                            refine lv_iload_n hx hb dX11_shift_322 rfl (lv_at hl 8 rfl) ?_
                                            refine lv_imul hx hb dX11_shift_323 ?_
                                            refine zz_i (v := nI (40 * f)) (pk_mul 40 f) ?_
                                            refine lv_iload hx hb dX11_shift_324 (lv_at hl 2 rfl) ?_
                                            refine lv_iadd hx hb dX11_shift_326 ?_
                                            refine zz_i (v := nI (40 * f + k)) (nI_add (40 * f) k) ?_
                                            refine lv_aload_n hx hb dX11_shift_327 rfl (lv_at hl 7 rfl) ?_
                                            refine va_get (D := (dC, dI)) (ci := 9) (v := .ref (a 34)) (C := RX11) (T := TX11) (N := 55) hx hb hts inX11 hown hK hP 0 rfl rfl 34 (Nat.le_of_ble_eq_true rfl) (hts _ mw_1193) (fun _ h9 => h9) rfl dX11_shift_328 ?_
                                            refine lv_iload hx hb dX11_shift_331 (lv_at hl 2 rfl) ?_
                                            refine z_iald hx hb hK hP 24 0 rfl rfl (e := k) rfl b9_24 (Nat.le_of_ble_eq_true rfl) dX11_shift_333 ?_
                                            refine zz_i (v := cF40 cy f k) ((hox _ hk9).2) ?_
                                            refine lv_iload hx hb dX11_shift_334 (lv_at hl 3 rfl) ?_
                                            refine lv_if_eq (tgt := 344) hx hb dX11_shift_336 rfl (fun c_27 => ?_) (fun c_27 => ?_)
                                            · exact absurd c_27 (by decide)
                                            · refine lv_iload hx hb dX11_shift_339 (lv_at hl 11 rfl) ?_
                                              refine lv_goto (tgt := 359) hx hb dX11_shift_341 rfl ?_
                                              refine lv_iadd hx hb dX11_shift_359 ?_
                                              refine z_iast hx hb hK hP hD hS 13 0 rfl rfl (e := 40 * f + k) (x := (cF40 cy f k) + dy) rfl b9_26 (Nat.le_of_ble_eq_true rfl) dX11_shift_360 (fun H locs hP hD hS => ?_)
                                              obtain ⟨hP, hD⟩ := zre (W2 := [_, _, _, _, _, _, _, _, _, _, _, _, _, (oa (a 13) cI 8040 (upd cy1 (40 * f + k) ((cF40 cy f k) + dy))), _, _, _, _, _, _, _, _, _, _, _, _, _, _, _, _, _, _]) hP hD rfl
                                              refine lv_iinc (v := nI (k + 1)) (lv' := [(10, .int (nI (k + 1))), (12, .int 0), (11, .int (nI (wyR (kd f).toInt n kk k))), (9, .int 1), (7, .int 0), (8, .int 0), (6, .int 0), (0, .ref k0), (1, .int (nI f)), (2, .int (nI kk)), (3, .int dx), (4, .int dy), (5, .int (nI rr))]) hx hb dX11_shift_361 hl (k := 2) rfl (nI_add k 1) (Nat.le_of_ble_eq_true rfl) rfl (fun ls hl => ?_)
                                              refine lv_goto (tgt := 203) hx hb dX11_shift_364 rfl ?_
                                              exact ih_203 (k + 1) (upd cx1 (40 * f + k) ((cF40 cx f k) + dx)) (upd cy1 (40 * f + k) ((cF40 cy f k) + dy)) H locs ls (by first | with_reducible assumption | omega) (by first | with_reducible assumption | omega) (fgX_u hcx rfl) (fgX_u hcy rfl) hP hD hS (lv_sub hl [0, 3, 4, 5, 6, 7, 8, 9, 10, 11, 12] rfl)
                                        · exact absurd (by decide) c_23
                                      · exact absurd c_22 (by decide)
                                exact hl_203 _ 0 cx cy H locs ls (Nat.lt_succ_self _) (by first | with_reducible assumption | omega) (fgX_0 _ _ _) (fgX_0 _ _ _) hP hD hS (lv_sub hl [0, 1, 2, 3, 4, 5, 6, 7, 8, 9, 10] rfl)
                              refine lv_if_eq (tgt := 193) hx hb dX11_shift_179 rfl (fun c_28 => ?_) (fun c_28 => ?_)
                              · have c_28 : (kd f).toInt = 0 := zc_eq rfl rfl c_28
                                refine lv_iconst (v := 1) hx hb dX11_shift_193 rfl ?_
                                refine lv_goto (tgt := 198) hx hb dX11_shift_194 rfl ?_
                                exact hj_17 
                              · have c_28 : ¬ (kd f).toInt = 0 := zc_ne rfl rfl c_28
                                refine lv_aload_n hx hb dX11_shift_182 rfl (lv_at hl 3 rfl) ?_
                                refine va_get (D := (dC, dI)) (ci := 9) (v := .ref (a 1)) (C := RX11) (T := TX11) (N := 55) hx hb hts inX11 hown hK hP 0 rfl rfl 1 (Nat.le_of_ble_eq_true rfl) (hts _ mw_1160) (fun _ h9 => h9) rfl dX11_shift_183 ?_
                                refine lv_iload_n hx hb dX11_shift_186 rfl (lv_at hl 4 rfl) ?_
                                refine z_iald hx hb hK hP 1 0 rfl rfl (e := f) rfl b9_4 (Nat.le_of_ble_eq_true rfl) dX11_shift_187 ?_
                                refine lv_bipush (v := 6) hx hb dX11_shift_188 rfl ?_
                                refine lv_icmp_ne (tgt := 197) hx hb dX11_shift_190 rfl (fun c_29 => ?_) (fun c_29 => ?_)
                                · have c_29 : ¬ (kd f).toInt = 6 := zc_ne rfl rfl c_29
                                  exfalso; omega
                                · have c_29 : (kd f).toInt = 6 := zc_eq rfl rfl c_29
                                  refine lv_iconst (v := 1) hx hb dX11_shift_193 rfl ?_
                                  refine lv_goto (tgt := 198) hx hb dX11_shift_194 rfl ?_
                                  exact hj_17 
                            · exact absurd (by decide) c_16
                          · have c_15 : ¬ (tn f).toInt = 0 := zc_ne rfl rfl c_15
                            exfalso; omega
                        · exact absurd (by decide) c_14
                      · exact absurd (by decide) c_13
                    · have c_12 : 20 < ((rr : Nat) : Int) := zc_nle (nI_toInt b9_11) rfl c_12
                      exfalso; omega
        · have c_5 : ¬ (st f).toInt = 1 := zc_ne rfl rfl c_5
          exfalso; omega
      · exact absurd (by decide) c_3
  · have c_1 : f < ft := zp_1 c_1
    refine lv_aload_n hx hb dX11_shift_8 rfl (lv_at hl 0 rfl) ?_
    refine va_get (D := (dC, dI)) (ci := 9) (v := .ref (a 6)) (C := RX11) (T := TX11) (N := 55) hx hb hts inX11 hown hK hP 0 rfl rfl 6 (Nat.le_of_ble_eq_true rfl) (hts _ mw_1165) (fun _ h9 => h9) rfl dX11_shift_9 ?_
    refine lv_iload_n hx hb dX11_shift_12 rfl (lv_at hl 1 rfl) ?_
    have b9_30 : f < 201 := by omega
    refine z_zald hx hb hK hP 10 1 rfl rfl (e := f) rfl b9_30 (Nat.le_of_ble_eq_true rfl) dX11_shift_13 ?_
    refine lv_if_ne (tgt := 35) hx hb dX11_shift_14 rfl (fun c_31 => ?_) (fun c_31 => ?_)
    · have c_31 : ¬ (tn f).toInt = 0 := zc_ne rfl rfl c_31
      refine lv_iconst (v := 0) hx hb dX11_shift_35 rfl ?_
      refine lv_istore (lv' := [(6, .int 0), (0, .ref k0), (1, .int (nI f)), (2, .int (nI kk)), (3, .int dx), (4, .int dy), (5, .int (nI rr))]) hx hb dX11_shift_36 hl (Nat.le_of_ble_eq_true rfl) rfl (fun ls hl => ?_)
      refine lv_aload_n hx hb dX11_shift_38 rfl (lv_at hl 1 rfl) ?_
      refine lv_iload_n hx hb dX11_shift_39 rfl (lv_at hl 2 rfl) ?_
      obtain ⟨hPc, hDc, hFc, hI1⟩ := zi_sub (wc := [_]) hP hD hS hA [0] rfl rfl
      refine zcall (st1 := [.int (pI (f < ft))]) (va_runV (As := [.int (nI f)]) (rest := []) ⟨hx, hb, hml, hown, hts⟩ (k_M_isFeature_n l dC dI cI cZ cF H.size k0 a I0 J0 f ft (by first | with_reducible assumption | assumption) (by first | with_reducible assumption | omega) (by first | with_reducible assumption | omega)) (csV_178 hts rfl rfl ⟨Nat.le_of_ble_eq_true rfl, Nat.le_of_ble_eq_true rfl⟩) (zPV2 (q0 := 0) (ci := 9) hPc hDc hK hXN rfl rfl) rfl rfl hl.1 rfl (lv_room (Nat.le_of_ble_eq_true rfl)) dX11_shift_40 ⟨Nat.le_of_ble_eq_true rfl, Nat.le_of_ble_eq_true rfl⟩) hS hFc hFc rfl (fun t H locs ht hB hk1 hS => ?_)
      obtain ⟨hP1, hD1⟩ := hB
      rw [ht] at hP1
      replace hP := z0 hP hD hk1 hP1 hI1
      clear hk1 hPc hDc hFc hP1 hD1 ht hI1
      refine lv_if_eq (tgt := 51) hx hb dX11_shift_43 rfl (fun c_32 => ?_) (fun c_32 => ?_)
      · have c_32 : ¬ (f < ft) := zp_0 c_32
        exfalso; omega
      · have c_32 : f < ft := zp_1 c_32
        refine lv_iload hx hb dX11_shift_46 (lv_at hl 0 rfl) ?_
        refine lv_if_eq (tgt := 55) hx hb dX11_shift_48 rfl (fun c_33 => ?_) (fun c_33 => ?_)
        · refine lv_aload_n hx hb dX11_shift_55 rfl (lv_at hl 1 rfl) ?_
          refine va_get (D := (dC, dI)) (ci := 9) (v := .ref (a 5)) (C := RX11) (T := TX11) (N := 55) hx hb hts inX11 hown hK hP 0 rfl rfl 5 (Nat.le_of_ble_eq_true rfl) (hts _ mw_1164) (fun _ h9 => h9) rfl dX11_shift_56 ?_
          refine lv_iload_n hx hb dX11_shift_59 rfl (lv_at hl 2 rfl) ?_
          refine z_iald hx hb hK hP 2 0 rfl rfl (e := f) rfl b9_30 (Nat.le_of_ble_eq_true rfl) dX11_shift_60 ?_
          refine lv_iconst (v := 1) hx hb dX11_shift_61 rfl ?_
          refine lv_icmp_eq (tgt := 69) hx hb dX11_shift_62 rfl (fun c_34 => ?_) (fun c_34 => ?_)
          · have c_34 : (st f).toInt = 1 := zc_eq rfl rfl c_34
            refine lv_iconst (v := 0) hx hb dX11_shift_69 rfl ?_
            refine lv_istore (lv' := [(7, .int 0), (6, .int 0), (0, .ref k0), (1, .int (nI f)), (2, .int (nI kk)), (3, .int dx), (4, .int dy), (5, .int (nI rr))]) hx hb dX11_shift_70 hl (Nat.le_of_ble_eq_true rfl) rfl (fun ls hl => ?_)
            refine lv_iload_n hx hb dX11_shift_72 rfl (lv_at hl 5 rfl) ?_
            refine lv_sipush (v := (-200)) hx hb dX11_shift_73 rfl ?_
            refine lv_icmp_lt (tgt := 114) hx hb dX11_shift_76 rfl (fun c_35 => ?_) (fun c_35 => ?_)
            · have c_35 : dx.toInt < (-200) := zc_lt rfl rfl c_35
              exfalso; omega
            · have c_35 : (-200) ≤ dx.toInt := zc_nlt rfl rfl c_35
              refine lv_iload_n hx hb dX11_shift_79 rfl (lv_at hl 5 rfl) ?_
              refine lv_sipush (v := 200) hx hb dX11_shift_80 rfl ?_
              refine lv_icmp_gt (tgt := 114) hx hb dX11_shift_83 rfl (fun c_36 => ?_) (fun c_36 => ?_)
              · have c_36 : 200 < dx.toInt := zc_lt rfl rfl c_36
                exfalso; omega
              · have c_36 : dx.toInt ≤ 200 := zc_nlt rfl rfl c_36
                refine lv_iload hx hb dX11_shift_86 (lv_at hl 6 rfl) ?_
                refine lv_sipush (v := (-200)) hx hb dX11_shift_88 rfl ?_
                refine lv_icmp_lt (tgt := 114) hx hb dX11_shift_91 rfl (fun c_37 => ?_) (fun c_37 => ?_)
                · have c_37 : dy.toInt < (-200) := zc_lt rfl rfl c_37
                  exfalso; omega
                · have c_37 : (-200) ≤ dy.toInt := zc_nlt rfl rfl c_37
                  refine lv_iload hx hb dX11_shift_94 (lv_at hl 6 rfl) ?_
                  refine lv_sipush (v := 200) hx hb dX11_shift_96 rfl ?_
                  refine lv_icmp_gt (tgt := 114) hx hb dX11_shift_99 rfl (fun c_38 => ?_) (fun c_38 => ?_)
                  · have c_38 : 200 < dy.toInt := zc_lt rfl rfl c_38
                    exfalso; omega
                  · have c_38 : dy.toInt ≤ 200 := zc_nlt rfl rfl c_38
                    refine lv_iload hx hb dX11_shift_102 (lv_at hl 7 rfl) ?_
                    have b9_40 : zlt (rr) := show rr < 2147483648 by omega
                    refine lv_if_lt (tgt := 114) hx hb dX11_shift_104 rfl (fun c_39 => ?_) (fun c_39 => ?_)
                    · have c_39 : ((rr : Nat) : Int) < 0 := zc_lt (nI_toInt b9_40) rfl c_39
                      exfalso; omega
                    · have c_39 : 0 ≤ ((rr : Nat) : Int) := zc_nlt (nI_toInt b9_40) rfl c_39
                      refine lv_iload hx hb dX11_shift_107 (lv_at hl 7 rfl) ?_
                      refine lv_bipush (v := 20) hx hb dX11_shift_109 rfl ?_
                      refine lv_icmp_le (tgt := 118) hx hb dX11_shift_111 rfl (fun c_41 => ?_) (fun c_41 => ?_)
                      · have c_41 : ((rr : Nat) : Int) ≤ 20 := zc_le (nI_toInt b9_40) rfl c_41
                        refine lv_iconst (v := 0) hx hb dX11_shift_118 rfl ?_
                        refine lv_istore (lv' := [(8, .int 0), (7, .int 0), (6, .int 0), (0, .ref k0), (1, .int (nI f)), (2, .int (nI kk)), (3, .int dx), (4, .int dy), (5, .int (nI rr))]) hx hb dX11_shift_119 hl (Nat.le_of_ble_eq_true rfl) rfl (fun ls hl => ?_)
                        refine lv_iload hx hb dX11_shift_121 (lv_at hl 1 rfl) ?_
                        refine lv_if_le (tgt := 131) hx hb dX11_shift_123 rfl (fun c_42 => ?_) (fun c_42 => ?_)
                        · refine lv_iload hx hb dX11_shift_131 (lv_at hl 0 rfl) ?_
                          refine lv_if_eq (tgt := 140) hx hb dX11_shift_133 rfl (fun c_43 => ?_) (fun c_43 => ?_)
                          · refine lv_aload_n hx hb dX11_shift_140 rfl (lv_at hl 3 rfl) ?_
                            refine va_get (D := (dC, dI)) (ci := 9) (v := .ref (a 6)) (C := RX11) (T := TX11) (N := 55) hx hb hts inX11 hown hK hP 0 rfl rfl 6 (Nat.le_of_ble_eq_true rfl) (hts _ mw_1165) (fun _ h9 => h9) rfl dX11_shift_141 ?_
                            refine lv_iload_n hx hb dX11_shift_144 rfl (lv_at hl 4 rfl) ?_
                            refine z_zald hx hb hK hP 10 1 rfl rfl (e := f) rfl b9_30 (Nat.le_of_ble_eq_true rfl) dX11_shift_145 ?_
                            refine lv_if_eq (tgt := 153) hx hb dX11_shift_146 rfl (fun c_44 => ?_) (fun c_44 => ?_)
                            · have c_44 : (tn f).toInt = 0 := zc_eq rfl rfl c_44
                              refine lv_iconst (v := 0) hx hb dX11_shift_153 rfl ?_
                              refine lv_istore (lv' := [(7, .int 0), (8, .int 0), (6, .int 0), (0, .ref k0), (1, .int (nI f)), (2, .int (nI kk)), (3, .int dx), (4, .int dy), (5, .int (nI rr))]) hx hb dX11_shift_154 hl (Nat.le_of_ble_eq_true rfl) rfl (fun ls hl => ?_)
                              refine lv_iload hx hb dX11_shift_156 (lv_at hl 0 rfl) ?_
                              refine lv_if_le (tgt := 168) hx hb dX11_shift_158 rfl (fun c_45 => ?_) (fun c_45 => ?_)
                              · refine lv_aload_n hx hb dX11_shift_168 rfl (lv_at hl 3 rfl) ?_
                                refine lv_iload_n hx hb dX11_shift_169 rfl (lv_at hl 4 rfl) ?_
                                obtain ⟨hPc, hDc, hFc⟩ := zo_sub (wc := [_, _, _, _, _, _, _, _, _, _, _, _, _]) hP hD hS hA [0, 2, 10, 1, 11, 12, 13, 19, 23, 24, 25, 26, 27] (by decide +kernel) rfl
                                refine zcall (st1 := []) (va_runV (As := [.int (nI f)]) (rest := []) ⟨hx, hb, hml, hown, hts⟩ (k_M_remember l dC dI cI cZ cF H.size k0 a I0 J0 f n ft st tn kd mn cx cy S0 ox oy mt wi ins (by first | with_reducible assumption | assumption) (by first | with_reducible assumption | omega) (by first | with_reducible assumption | omega) (by first | with_reducible assumption | assumption) (by first | with_reducible assumption | omega) (by first | with_reducible assumption | assumption) (fun q h1 _ => hwf q h1)) (csV_190 hts rfl rfl ⟨Nat.le_of_ble_eq_true rfl, Nat.le_of_ble_eq_true rfl⟩) (zPV2 (q0 := 0) (ci := 9) hPc hDc hK hXN rfl rfl) rfl rfl hl.1 rfl (lv_room (Nat.le_of_ble_eq_true rfl)) dX11_shift_170 ⟨Nat.le_of_ble_eq_true rfl, Nat.le_of_ble_eq_true rfl⟩) hS hFc hFc rfl (fun t H locs ht hB hk1 hS => ?_)
                                refine ex6 hB (fun S1 ox1 oy1 mt1 wi1 ins1 hB0 => ?_)
                                clear hB
                                obtain ⟨hox, hmt, hwi, hin, hP1, hD1⟩ := hB0
                                rw [ht] at hP1
                                obtain ⟨hP, hD⟩ := zn (W2 := [(om k0 a (upd (upd I0 35 (nI n)) 36 (kd f)) J0), _, _, _, _, _, _, _, _, _, _, _, _, _, _, _, _, _, _, (oa (a 32) cI 8 S1), _, _, _, (oa (a 33) cI 42 ox1), (oa (a 34) cI 42 oy1), (oa (a 37) cZ 201 mt1), (oa (a 38) cZ 201 wi1), (oa (a 39) cZ 8040 ins1), _, _, _, _]) hP hD hk1 hFc hP1 hD1 zl_194 zl_195 zl_195 zl_194 (by decide +kernel) rfl rfl rfl rfl rfl
                                clear hk1 hPc hDc hFc hP1 hD1 ht
                                refine lv_aload_n hx hb dX11_shift_173 rfl (lv_at hl 3 rfl) ?_
                                refine va_get (D := (dC, dI)) (ci := 9) (v := .ref (a 1)) (C := RX11) (T := TX11) (N := 55) hx hb hts inX11 hown hK hP 0 rfl rfl 1 (Nat.le_of_ble_eq_true rfl) (hts _ mw_1160) (fun _ h9 => h9) rfl dX11_shift_174 ?_
                                refine lv_iload_n hx hb dX11_shift_177 rfl (lv_at hl 4 rfl) ?_
                                refine z_iald hx hb hK hP 1 0 rfl rfl (e := f) rfl b9_30 (Nat.le_of_ble_eq_true rfl) dX11_shift_178 ?_
                                have hj_46 : W p l e ({ frames := 5, cells := 0, slots := 0, locals := 130 } : Room) s m ([.ref k0, .int (nI f), .int (nI kk), .int dx, .int dy, .int (nI rr)] : List Value).toArray below meth c H locs 0 0 Q9 (F0 m 198 ls [.int 1]) := by
                                  refine lv_istore (lv' := [(9, .int 1), (7, .int 0), (8, .int 0), (6, .int 0), (0, .ref k0), (1, .int (nI f)), (2, .int (nI kk)), (3, .int dx), (4, .int dy), (5, .int (nI rr))]) hx hb dX11_shift_198 hl (Nat.le_of_ble_eq_true rfl) rfl (fun ls hl => ?_)
                                  refine lv_iconst (v := 0) hx hb dX11_shift_200 rfl ?_
                                  refine lv_istore (lv' := [(10, .int 0), (9, .int 1), (7, .int 0), (8, .int 0), (6, .int 0), (0, .ref k0), (1, .int (nI f)), (2, .int (nI kk)), (3, .int dx), (4, .int dy), (5, .int (nI rr))]) hx hb dX11_shift_201 hl (Nat.le_of_ble_eq_true rfl) rfl (fun ls hl => ?_)
                                  have hl_203 : ∀ (n9 : Nat) (k : Nat) (cx1 : Nat → Int32) (cy1 : Nat → Int32) (H : Heap) (locs : List Loc) (ls : Array Slot), n - k < n9 → (k ≤ n) → (cx1 = fgX f k (fun i => cF40 cx f i + dx) cx) → (cy1 = fgX f k (fun i => cF40 cy f i + dy) cy) → va_P (dC, dI) classes [(om k0 a (upd (upd I0 35 (nI n)) 36 (kd f)) J0), (oa (a 1) cI 201 kd), (oa (a 5) cI 201 st), (oa (a 7) cI 201 gb), (oa (a 10) cI 201 it), (oa (a 8) cI 201 pa), (oa (a 9) cI 201 pb), (oa (a 2) cI 201 rk), (oa (a 3) cI 201 wd), (oa (a 4) cI 201 tw), (oa (a 6) cZ 201 tn), (oa (a 11) cI 201 mn), (oa (a 12) cI 8040 cx1), (oa (a 13) cI 8040 cy1), (oa (a 27) cI 516 sa), (oa (a 28) cI (4096 * cp) sh), (oa (a 16) cI 514 wh), (oa (a 17) cI 514 of9), (oa (a 18) cI 514 we), (oa (a 32) cI 8 S1), (oa (a 40) cI 6 T0), (oa (a 29) cI 42 P0), (oa (a 30) cI 42 Q0), (oa (a 33) cI 42 ox1), (oa (a 34) cI 42 oy1), (oa (a 37) cZ 201 mt1), (oa (a 38) cZ 201 wi1), (oa (a 39) cZ 8040 ins1), (oa (a 22) cI (64 * cl) la), (oa (a 23) cI (64 * cl) lb), (oa (a 24) cI (64 * cl) lc), (oa (a 25) cI (64 * cl) ld)] H → va_D A [(om k0 a (upd (upd I0 35 (nI n)) 36 (kd f)) J0), (oa (a 1) cI 201 kd), (oa (a 5) cI 201 st), (oa (a 7) cI 201 gb), (oa (a 10) cI 201 it), (oa (a 8) cI 201 pa), (oa (a 9) cI 201 pb), (oa (a 2) cI 201 rk), (oa (a 3) cI 201 wd), (oa (a 4) cI 201 tw), (oa (a 6) cZ 201 tn), (oa (a 11) cI 201 mn), (oa (a 12) cI 8040 cx1), (oa (a 13) cI 8040 cy1), (oa (a 27) cI 516 sa), (oa (a 28) cI (4096 * cp) sh), (oa (a 16) cI 514 wh), (oa (a 17) cI 514 of9), (oa (a 18) cI 514 we), (oa (a 32) cI 8 S1), (oa (a 40) cI 6 T0), (oa (a 29) cI 42 P0), (oa (a 30) cI 42 Q0), (oa (a 33) cI 42 ox1), (oa (a 34) cI 42 oy1), (oa (a 37) cZ 201 mt1), (oa (a 38) cZ 201 wi1), (oa (a 39) cZ 8040 ins1), (oa (a 22) cI (64 * cl) la), (oa (a 23) cI (64 * cl) lb), (oa (a 24) cI (64 * cl) lc), (oa (a 25) cI (64 * cl) ld)] → va_S A s.heap H locs → lv_has ls 13 [(10, .int (nI k)), (9, .int 1), (7, .int 0), (8, .int 0), (6, .int 0), (0, .ref k0), (1, .int (nI f)), (2, .int (nI kk)), (3, .int dx), (4, .int dy), (5, .int (nI rr))] → W p l e ({ frames := 5, cells := 0, slots := 0, locals := 130 } : Room) s m ([.ref k0, .int (nI f), .int (nI kk), .int dx, .int dy, .int (nI rr)] : List Value).toArray below meth c H locs 0 0 Q9 (F0 m 203 ls []) := by
                                    intro n9
                                    induction n9 with
                                    | zero => intro k cx1 cy1 H locs ls hm; exact absurd hm (Nat.not_lt_zero _)
                                    | succ n9 ih_203 =>
                                      intro k cx1 cy1 H locs ls hm hk hcx hcy hP hD hS hl
                                      refine lv_iload hx hb dX11_shift_203 (lv_at hl 0 rfl) ?_
                                      refine lv_aload_n hx hb dX11_shift_205 rfl (lv_at hl 5 rfl) ?_
                                      refine va_get (D := (dC, dI)) (ci := 9) (v := .int (nI n)) (C := RX11) (T := TX11) (N := 55) hx hb hts inX11 hown hK hP 0 rfl rfl 35 (Nat.le_of_ble_eq_true rfl) (hts _ mw_1194) (fun _ h9 => h9) rfl dX11_shift_206 ?_
                                      have b9_48 : zlt (k) := show k < 2147483648 by omega
                                      have b9_49 : zlt (n) := show n < 2147483648 by omega
                                      refine lv_icmp_ge (tgt := 367) hx hb dX11_shift_209 rfl (fun c_47 => ?_) (fun c_47 => ?_)
                                      · have c_47 : ((n : Nat) : Int) ≤ ((k : Nat) : Int) := zc_le (nI_toInt b9_49) (nI_toInt b9_48) c_47
                                        have hkn : k = n := (by omega)
                                        rw [hkn] at hcx hcy
                                        refine lv_aload_n hx hb dX11_shift_367 rfl (lv_at hl 5 rfl) ?_
                                        refine lv_iload_n hx hb dX11_shift_368 rfl (lv_at hl 6 rfl) ?_
                                        obtain ⟨hPc, hDc, hFc, hI1⟩ := zi_sub (wc := [_, _, _, _, _]) hP hD hS hA [0, 12, 13, 23, 24] (by decide +kernel) rfl
                                        refine zcall (st1 := [.int (pI (∃ k, k < n ∧ ¬ ((cx1 (40 * f + k)).toInt = (ox1 k).toInt ∧ (cy1 (40 * f + k)).toInt = (oy1 k).toInt)))]) (va_runV (As := [.int (nI f)]) (rest := []) ⟨hx, hb, hml, hown, hts⟩ (k_M_moves l dC dI cI cZ cF H.size k0 a (upd (upd I0 35 (nI n)) 36 (kd f)) J0 f n cx1 cy1 ox1 oy1 (by first | with_reducible assumption | omega) (rfl) (by first | with_reducible assumption | omega)) (csV_211 hts rfl rfl ⟨Nat.le_of_ble_eq_true rfl, Nat.le_of_ble_eq_true rfl⟩) (zPV2 (q0 := 0) (ci := 9) hPc hDc hK hXN rfl rfl) rfl rfl hl.1 rfl (lv_room (Nat.le_of_ble_eq_true rfl)) dX11_shift_369 ⟨Nat.le_of_ble_eq_true rfl, Nat.le_of_ble_eq_true rfl⟩) hS hFc hFc rfl (fun t H locs ht hB hk1 hS => ?_)
                                        obtain ⟨hP1, hD1⟩ := hB
                                        rw [ht] at hP1
                                        replace hP := z0 hP hD hk1 hP1 hI1
                                        clear hk1 hPc hDc hFc hP1 hD1 ht hI1
                                        refine zz_i (v := pI (mvd n (fun i => cF40 cx f i + dx) (fun i => cF40 cy f i + dy) (cF40 cx f) (cF40 cy f))) (zp_iff (mv_iff hcx hcy hox)) ?_
                                        refine lv_if_ne (tgt := 382) hx hb dX11_shift_372 rfl (fun c_50 => ?_) (fun c_50 => ?_)
                                        · have c_50 : mvd n (fun i => cF40 cx f i + dx) (fun i => cF40 cy f i + dy) (cF40 cx f) (cF40 cy f) := zp_1 c_50
                                          exfalso; exact absurd (by first | with_reducible assumption | assumption) hmv
                                        · have c_50 : ¬ (mvd n (fun i => cF40 cx f i + dx) (fun i => cF40 cy f i + dy) (cF40 cx f) (cF40 cy f)) := zp_0 c_50
                                          refine lv_aload_n hx hb dX11_shift_375 rfl (lv_at hl 5 rfl) ?_
                                          refine lv_bipush (v := 8) hx hb dX11_shift_376 rfl ?_
                                          obtain ⟨hPc, hDc, hFc⟩ := zo_sub (wc := [_]) hP hD hS hA [0] rfl rfl
                                          refine zcall (st1 := [.int 0]) (va_runV (As := [.int 8]) (rest := []) ⟨hx, hb, hml, hown, hts⟩ (k_M_no l dC dI cI cZ cF H.size k0 a (upd (upd I0 35 (nI n)) 36 (kd f)) J0 8 (by decide)) (csV_198 hts rfl rfl ⟨Nat.le_of_ble_eq_true rfl, Nat.le_of_ble_eq_true rfl⟩) (zPV2 (q0 := 0) (ci := 9) hPc hDc hK hXN rfl rfl) rfl rfl hl.1 rfl (lv_room (Nat.le_of_ble_eq_true rfl)) dX11_shift_378 ⟨Nat.le_of_ble_eq_true rfl, Nat.le_of_ble_eq_true rfl⟩) hS hFc hFc rfl (fun t H locs ht hB hk1 hS => ?_)
                                          obtain ⟨hP1, hD1⟩ := hB
                                          rw [ht] at hP1
                                          obtain ⟨hP, hD⟩ := zn (W2 := [(om k0 a (upd (upd (upd (upd I0 14 8) 15 (I0 15)) 35 (nI n)) 36 (kd f)) J0), _, _, _, _, _, _, _, _, _, _, _, _, _, _, _, _, _, _, _, _, _, _, _, _, _, _, _, _, _, _, _]) hP hD hk1 hFc hP1 hD1 [0] zl_183 zl_183 [0] (by decide +kernel) rfl rfl rfl rfl rfl
                                          clear hk1 hPc hDc hFc hP1 hD1 ht
                                          have hsx : fgX f n (fun i => cF40 cx f i + dx) cx = cx := fgX_same (fun k9 h9 => Classical.byContradiction fun h8 => hmv ⟨k9, h9, fun h7 => h8 h7.1⟩)
                                          have hsy : fgX f n (fun i => cF40 cy f i + dy) cy = cy := fgX_same (fun k9 h9 => Classical.byContradiction fun h8 => hmv ⟨k9, h9, fun h7 => h8 h7.2⟩)
                                          obtain ⟨hP9, hD9⟩ := zu_sub (wc := [(om k0 a (upd (upd (upd (upd I0 14 8) 15 (I0 15)) 35 (nI n)) 36 (kd f)) J0), (oa (a 1) cI 201 kd), (oa (a 5) cI 201 st), (oa (a 7) cI 201 gb), (oa (a 10) cI 201 it), (oa (a 8) cI 201 pa), (oa (a 9) cI 201 pb), (oa (a 2) cI 201 rk), (oa (a 3) cI 201 wd), (oa (a 4) cI 201 tw), (oa (a 6) cZ 201 tn), (oa (a 11) cI 201 mn), (oa (a 12) cI 8040 cx1), (oa (a 13) cI 8040 cy1), (oa (a 27) cI 516 sa), (oa (a 28) cI (4096 * cp) sh), (oa (a 16) cI 514 wh), (oa (a 17) cI 514 of9), (oa (a 18) cI 514 we), (oa (a 32) cI 8 S1), (oa (a 40) cI 6 T0), (oa (a 29) cI 42 P0), (oa (a 30) cI 42 Q0), (oa (a 33) cI 42 ox1), (oa (a 34) cI 42 oy1), (oa (a 37) cZ 201 mt1), (oa (a 38) cZ 201 wi1), (oa (a 39) cZ 8040 ins1), (oa (a 22) cI (64 * cl) la), (oa (a 23) cI (64 * cl) lb), (oa (a 24) cI (64 * cl) lc), (oa (a 25) cI (64 * cl) ld)]) hP hD (true :: true :: true :: true :: true :: true :: true :: true :: true :: true :: true :: true :: true :: true :: true :: true :: true :: true :: true :: true :: true :: true :: true :: true :: true :: true :: true :: true :: true :: true :: true :: true :: []) rfl rfl
                                          have hE9 : ([(om k0 a (upd (upd (upd (upd I0 14 8) 15 (I0 15)) 35 (nI n)) 36 (kd f)) J0), (oa (a 1) cI 201 kd), (oa (a 5) cI 201 st), (oa (a 7) cI 201 gb), (oa (a 10) cI 201 it), (oa (a 8) cI 201 pa), (oa (a 9) cI 201 pb), (oa (a 2) cI 201 rk), (oa (a 3) cI 201 wd), (oa (a 4) cI 201 tw), (oa (a 6) cZ 201 tn), (oa (a 11) cI 201 mn), (oa (a 12) cI 8040 cx1), (oa (a 13) cI 8040 cy1), (oa (a 27) cI 516 sa), (oa (a 28) cI (4096 * cp) sh), (oa (a 16) cI 514 wh), (oa (a 17) cI 514 of9), (oa (a 18) cI 514 we), (oa (a 32) cI 8 S1), (oa (a 40) cI 6 T0), (oa (a 29) cI 42 P0), (oa (a 30) cI 42 Q0), (oa (a 33) cI 42 ox1), (oa (a 34) cI 42 oy1), (oa (a 37) cZ 201 mt1), (oa (a 38) cZ 201 wi1), (oa (a 39) cZ 8040 ins1), (oa (a 22) cI (64 * cl) la), (oa (a 23) cI (64 * cl) lb), (oa (a 24) cI (64 * cl) lc), (oa (a 25) cI (64 * cl) ld)] : va_W) = [(om k0 a (upd (upd (upd (upd I0 14 8) 15 (I0 15)) 35 (nI n)) 36 (kd f)) J0), (oa (a 1) cI 201 kd), (oa (a 5) cI 201 st), (oa (a 7) cI 201 gb), (oa (a 10) cI 201 it), (oa (a 8) cI 201 pa), (oa (a 9) cI 201 pb), (oa (a 2) cI 201 rk), (oa (a 3) cI 201 wd), (oa (a 4) cI 201 tw), (oa (a 6) cZ 201 tn), (oa (a 11) cI 201 mn), (oa (a 12) cI 8040 cx), (oa (a 13) cI 8040 cy), (oa (a 27) cI 516 sa), (oa (a 28) cI (4096 * cp) sh), (oa (a 16) cI 514 wh), (oa (a 17) cI 514 of9), (oa (a 18) cI 514 we), (oa (a 32) cI 8 S1), (oa (a 40) cI 6 T0), (oa (a 29) cI 42 P0), (oa (a 30) cI 42 Q0), (oa (a 33) cI 42 ox1), (oa (a 34) cI 42 oy1), (oa (a 37) cZ 201 mt1), (oa (a 38) cZ 201 wi1), (oa (a 39) cZ 8040 ins1), (oa (a 22) cI (64 * cl) la), (oa (a 23) cI (64 * cl) lb), (oa (a 24) cI (64 * cl) lc), (oa (a 25) cI (64 * cl) ld)] := by rw [hcx, hcy, hsx, hsy]
                                          rw [hE9] at hP9 hD9
                                          rw [hQ9]
                                          exact W.zret (ty := .boolean) (v := 0) hx hb hr (rfl) (fun t ht hW => ⟨⟨rfl, S1, ox1, oy1, mt1, wi1, ins1, by rw [ht]; exact hP9, hD9⟩, hS.F ht⟩) hS.2.2 dX11_shift_381
                                      · have c_47 : ((k : Nat) : Int) < ((n : Nat) : Int) := zc_nle (nI_toInt b9_49) (nI_toInt b9_48) c_47
                                        have hk9 : k < n := (by omega)
                                        refine lv_aload_n hx hb dX11_shift_212 rfl (lv_at hl 5 rfl) ?_
                                        refine lv_iload_n hx hb dX11_shift_213 rfl (lv_at hl 6 rfl) ?_
                                        refine lv_iload_n hx hb dX11_shift_214 rfl (lv_at hl 7 rfl) ?_
                                        refine lv_iload hx hb dX11_shift_215 (lv_at hl 0 rfl) ?_
                                        obtain ⟨hPc, hDc, hFc, hI1⟩ := zi_sub (wc := [_, _]) hP hD hS hA [0, 1] rfl rfl
                                        refine zcall (st1 := [.int (nI (wyR (kd f).toInt n kk k))]) (va_runV (As := [.int (nI f), .int (nI kk), .int (nI k)]) (rest := []) ⟨hx, hb, hml, hown, hts⟩ (k_M_wayOf l dC dI cI cZ cF H.size k0 a (upd (upd I0 35 (nI n)) 36 (kd f)) J0 f n kk k kd (by first | with_reducible assumption | omega) (by first | with_reducible assumption | omega) (hkk) (by first | with_reducible assumption | omega)) (csV_216 hts rfl rfl ⟨Nat.le_of_ble_eq_true rfl, Nat.le_of_ble_eq_true rfl⟩) (zPV2 (q0 := 0) (ci := 9) hPc hDc hK hXN rfl rfl) rfl rfl hl.1 rfl (lv_room (Nat.le_of_ble_eq_true rfl)) dX11_shift_217 ⟨Nat.le_of_ble_eq_true rfl, Nat.le_of_ble_eq_true rfl⟩) hS hFc hFc rfl (fun t H locs ht hB hk1 hS => ?_)
                                        obtain ⟨hP1, hD1⟩ := hB
                                        rw [ht] at hP1
                                        replace hP := z0 hP hD hk1 hP1 hI1
                                        clear hk1 hPc hDc hFc hP1 hD1 ht hI1
                                        refine lv_istore (lv' := [(11, .int (nI (wyR (kd f).toInt n kk k))), (10, .int (nI k)), (9, .int 1), (7, .int 0), (8, .int 0), (6, .int 0), (0, .ref k0), (1, .int (nI f)), (2, .int (nI kk)), (3, .int dx), (4, .int dy), (5, .int (nI rr))]) hx hb dX11_shift_220 hl (Nat.le_of_ble_eq_true rfl) rfl (fun ls hl => ?_)
                                        refine lv_iload hx hb dX11_shift_222 (lv_at hl 2 rfl) ?_
                                        refine lv_if_ne (tgt := 262) hx hb dX11_shift_224 rfl (fun c_51 => ?_) (fun c_51 => ?_)
                                        · refine lv_iconst (v := 0) hx hb dX11_shift_262 rfl ?_
                                          refine lv_istore (lv' := [(12, .int 0), (11, .int (nI (wyR (kd f).toInt n kk k))), (10, .int (nI k)), (9, .int 1), (7, .int 0), (8, .int 0), (6, .int 0), (0, .ref k0), (1, .int (nI f)), (2, .int (nI kk)), (3, .int dx), (4, .int dy), (5, .int (nI rr))]) hx hb dX11_shift_263 hl (Nat.le_of_ble_eq_true rfl) rfl (fun ls hl => ?_)
                                          refine lv_iload hx hb dX11_shift_265 (lv_at hl 0 rfl) ?_
                                          refine lv_if_eq (tgt := 273) hx hb dX11_shift_267 rfl (fun c_52 => ?_) (fun c_52 => ?_)
                                          · refine lv_aload_n hx hb dX11_shift_273 rfl (lv_at hl 7 rfl) ?_
                                            refine va_get (D := (dC, dI)) (ci := 9) (v := .ref (a 12)) (C := RX11) (T := TX11) (N := 55) hx hb hts inX11 hown hK hP 0 rfl rfl 12 (Nat.le_of_ble_eq_true rfl) (hts _ mw_1171) (fun _ h9 => h9) rfl dX11_shift_274 ?_
                                            refine lv_bipush (v := 40) hx hb dX11_shift_277 rfl ?_
                                            refine lv_iload_n hx hb dX11_shift_279 rfl (lv_at hl 8 rfl) ?_
                                            refine lv_imul hx hb dX11_shift_280 ?_
                                            refine zz_i (v := nI (40 * f)) (pk_mul 40 f) ?_
                                            refine lv_iload hx hb dX11_shift_281 (lv_at hl 2 rfl) ?_
                                            refine lv_iadd hx hb dX11_shift_283 ?_
                                            refine zz_i (v := nI (40 * f + k)) (nI_add (40 * f) k) ?_
                                            refine lv_aload_n hx hb dX11_shift_284 rfl (lv_at hl 7 rfl) ?_
                                            refine va_get (D := (dC, dI)) (ci := 9) (v := .ref (a 33)) (C := RX11) (T := TX11) (N := 55) hx hb hts inX11 hown hK hP 0 rfl rfl 33 (Nat.le_of_ble_eq_true rfl) (hts _ mw_1192) (fun _ h9 => h9) rfl dX11_shift_285 ?_
                                            refine lv_iload hx hb dX11_shift_288 (lv_at hl 2 rfl) ?_
                                            have b9_53 : k < 42 := by omega
                                            refine z_iald hx hb hK hP 23 0 rfl rfl (e := k) rfl b9_53 (Nat.le_of_ble_eq_true rfl) dX11_shift_290 ?_
                                            refine zz_i (v := cF40 cx f k) ((hox _ hk9).1) ?_
                                            refine lv_iload hx hb dX11_shift_291 (lv_at hl 3 rfl) ?_
                                            refine lv_if_eq (tgt := 300) hx hb dX11_shift_293 rfl (fun c_54 => ?_) (fun c_54 => ?_)
                                            · exact absurd c_54 (by decide)
                                            · refine lv_iload_n hx hb dX11_shift_296 rfl (lv_at hl 10 rfl) ?_
                                              refine lv_goto (tgt := 314) hx hb dX11_shift_297 rfl ?_
                                              refine lv_iadd hx hb dX11_shift_314 ?_
                                              have b9_55 : 40 * f + k < 8040 := by omega
                                              refine z_iast hx hb hK hP hD hS 12 0 rfl rfl (e := 40 * f + k) (x := (cF40 cx f k) + dx) rfl b9_55 (Nat.le_of_ble_eq_true rfl) dX11_shift_315 (fun H locs hP hD hS => ?_)
                                              obtain ⟨hP, hD⟩ := zre (W2 := [_, _, _, _, _, _, _, _, _, _, _, _, (oa (a 12) cI 8040 (upd cx1 (40 * f + k) ((cF40 cx f k) + dx))), _, _, _, _, _, _, _, _, _, _, _, _, _, _, _, _, _, _, _]) hP hD rfl
                                              refine lv_aload_n hx hb dX11_shift_316 rfl (lv_at hl 7 rfl) ?_
                                              refine va_get (D := (dC, dI)) (ci := 9) (v := .ref (a 13)) (C := RX11) (T := TX11) (N := 55) hx hb hts inX11 hown hK hP 0 rfl rfl 13 (Nat.le_of_ble_eq_true rfl) (hts _ mw_1172) (fun _ h9 => h9) rfl dX11_shift_317 ?_
                                              refine lv_bipush (v := 40) hx hb dX11_shift_320 rfl ?_
                                              refine lv_iload_n hx hb dX11_shift_322 rfl (lv_at hl 8 rfl) ?_
                                              refine lv_imul hx hb dX11_shift_323 ?_
                                              refine zz_i (v := nI (40 * f)) (pk_mul 40 f) ?_
                                              refine lv_iload hx hb dX11_shift_324 (lv_at hl 2 rfl) ?_
                                              refine lv_iadd hx hb dX11_shift_326 ?_
                                              refine zz_i (v := nI (40 * f + k)) (nI_add (40 * f) k) ?_
                                              refine lv_aload_n hx hb dX11_shift_327 rfl (lv_at hl 7 rfl) ?_
                                              refine va_get (D := (dC, dI)) (ci := 9) (v := .ref (a 34)) (C := RX11) (T := TX11) (N := 55) hx hb hts inX11 hown hK hP 0 rfl rfl 34 (Nat.le_of_ble_eq_true rfl) (hts _ mw_1193) (fun _ h9 => h9) rfl dX11_shift_328 ?_
                                              refine lv_iload hx hb dX11_shift_331 (lv_at hl 2 rfl) ?_
                                              refine z_iald hx hb hK hP 24 0 rfl rfl (e := k) rfl b9_53 (Nat.le_of_ble_eq_true rfl) dX11_shift_333 ?_
                                              refine zz_i (v := cF40 cy f k) ((hox _ hk9).2) ?_
                                              refine lv_iload hx hb dX11_shift_334 (lv_at hl 3 rfl) ?_
                                              refine lv_if_eq (tgt := 344) hx hb dX11_shift_336 rfl (fun c_56 => ?_) (fun c_56 => ?_)
                                              · exact absurd c_56 (by decide)
                                              · refine lv_iload hx hb dX11_shift_339 (lv_at hl 11 rfl) ?_
                                                refine lv_goto (tgt := 359) hx hb dX11_shift_341 rfl ?_
                                                refine lv_iadd hx hb dX11_shift_359 ?_
                                                refine z_iast hx hb hK hP hD hS 13 0 rfl rfl (e := 40 * f + k) (x := (cF40 cy f k) + dy) rfl b9_55 (Nat.le_of_ble_eq_true rfl) dX11_shift_360 (fun H locs hP hD hS => ?_)
                                                obtain ⟨hP, hD⟩ := zre (W2 := [_, _, _, _, _, _, _, _, _, _, _, _, _, (oa (a 13) cI 8040 (upd cy1 (40 * f + k) ((cF40 cy f k) + dy))), _, _, _, _, _, _, _, _, _, _, _, _, _, _, _, _, _, _]) hP hD rfl
                                                refine lv_iinc (v := nI (k + 1)) (lv' := [(10, .int (nI (k + 1))), (12, .int 0), (11, .int (nI (wyR (kd f).toInt n kk k))), (9, .int 1), (7, .int 0), (8, .int 0), (6, .int 0), (0, .ref k0), (1, .int (nI f)), (2, .int (nI kk)), (3, .int dx), (4, .int dy), (5, .int (nI rr))]) hx hb dX11_shift_361 hl (k := 2) rfl (nI_add k 1) (Nat.le_of_ble_eq_true rfl) rfl (fun ls hl => ?_)
                                                refine lv_goto (tgt := 203) hx hb dX11_shift_364 rfl ?_
                                                exact ih_203 (k + 1) (upd cx1 (40 * f + k) ((cF40 cx f k) + dx)) (upd cy1 (40 * f + k) ((cF40 cy f k) + dy)) H locs ls (by first | with_reducible assumption | omega) (by first | with_reducible assumption | omega) (fgX_u hcx rfl) (fgX_u hcy rfl) hP hD hS (lv_sub hl [0, 3, 4, 5, 6, 7, 8, 9, 10, 11, 12] rfl)
                                          · exact absurd (by decide) c_52
                                        · exact absurd c_51 (by decide)
                                  exact hl_203 _ 0 cx cy H locs ls (Nat.lt_succ_self _) (by first | with_reducible assumption | omega) (fgX_0 _ _ _) (fgX_0 _ _ _) hP hD hS (lv_sub hl [0, 1, 2, 3, 4, 5, 6, 7, 8, 9, 10] rfl)
                                refine lv_if_eq (tgt := 193) hx hb dX11_shift_179 rfl (fun c_57 => ?_) (fun c_57 => ?_)
                                · have c_57 : (kd f).toInt = 0 := zc_eq rfl rfl c_57
                                  refine lv_iconst (v := 1) hx hb dX11_shift_193 rfl ?_
                                  refine lv_goto (tgt := 198) hx hb dX11_shift_194 rfl ?_
                                  exact hj_46 
                                · have c_57 : ¬ (kd f).toInt = 0 := zc_ne rfl rfl c_57
                                  refine lv_aload_n hx hb dX11_shift_182 rfl (lv_at hl 3 rfl) ?_
                                  refine va_get (D := (dC, dI)) (ci := 9) (v := .ref (a 1)) (C := RX11) (T := TX11) (N := 55) hx hb hts inX11 hown hK hP 0 rfl rfl 1 (Nat.le_of_ble_eq_true rfl) (hts _ mw_1160) (fun _ h9 => h9) rfl dX11_shift_183 ?_
                                  refine lv_iload_n hx hb dX11_shift_186 rfl (lv_at hl 4 rfl) ?_
                                  refine z_iald hx hb hK hP 1 0 rfl rfl (e := f) rfl b9_30 (Nat.le_of_ble_eq_true rfl) dX11_shift_187 ?_
                                  refine lv_bipush (v := 6) hx hb dX11_shift_188 rfl ?_
                                  refine lv_icmp_ne (tgt := 197) hx hb dX11_shift_190 rfl (fun c_58 => ?_) (fun c_58 => ?_)
                                  · have c_58 : ¬ (kd f).toInt = 6 := zc_ne rfl rfl c_58
                                    exfalso; omega
                                  · have c_58 : (kd f).toInt = 6 := zc_eq rfl rfl c_58
                                    refine lv_iconst (v := 1) hx hb dX11_shift_193 rfl ?_
                                    refine lv_goto (tgt := 198) hx hb dX11_shift_194 rfl ?_
                                    exact hj_46 
                              · exact absurd (by decide) c_45
                            · have c_44 : ¬ (tn f).toInt = 0 := zc_ne rfl rfl c_44
                              exfalso; omega
                          · exact absurd (by decide) c_43
                        · exact absurd (by decide) c_42
                      · have c_41 : 20 < ((rr : Nat) : Int) := zc_nle (nI_toInt b9_40) rfl c_41
                        exfalso; omega
          · have c_34 : ¬ (st f).toInt = 1 := zc_ne rfl rfl c_34
            exfalso; omega
        · exact absurd (by decide) c_33
    · have c_31 : (tn f).toInt = 0 := zc_eq rfl rfl c_31
      refine lv_iload_n hx hb dX11_shift_17 rfl (lv_at hl 2 rfl) ?_
      have b9_60 : zlt (kk) := show kk < 2147483648 by omega
      refine lv_if_lt (tgt := 31) hx hb dX11_shift_18 rfl (fun c_59 => ?_) (fun c_59 => ?_)
      · have c_59 : ((kk : Nat) : Int) < 0 := zc_lt (nI_toInt b9_60) rfl c_59
        exfalso; omega
      · have c_59 : 0 ≤ ((kk : Nat) : Int) := zc_nlt (nI_toInt b9_60) rfl c_59
        refine lv_iload_n hx hb dX11_shift_21 rfl (lv_at hl 2 rfl) ?_
        refine lv_aload_n hx hb dX11_shift_22 rfl (lv_at hl 0 rfl) ?_
        refine va_get (D := (dC, dI)) (ci := 9) (v := .ref (a 11)) (C := RX11) (T := TX11) (N := 55) hx hb hts inX11 hown hK hP 0 rfl rfl 11 (Nat.le_of_ble_eq_true rfl) (hts _ mw_1170) (fun _ h9 => h9) rfl dX11_shift_23 ?_
        refine lv_iload_n hx hb dX11_shift_26 rfl (lv_at hl 1 rfl) ?_
        refine z_iald hx hb hK hP 11 0 rfl rfl (e := f) rfl b9_30 (Nat.le_of_ble_eq_true rfl) dX11_shift_27 ?_
        refine zz_i (v := nI n) (hm_f) ?_
        have b9_62 : zlt (n) := show n < 2147483648 by omega
        refine lv_icmp_lt (tgt := 35) hx hb dX11_shift_28 rfl (fun c_61 => ?_) (fun c_61 => ?_)
        · have c_61 : ((kk : Nat) : Int) < ((n : Nat) : Int) := zc_lt (nI_toInt b9_60) (nI_toInt b9_62) c_61
          refine lv_iconst (v := 0) hx hb dX11_shift_35 rfl ?_
          refine lv_istore (lv' := [(6, .int 0), (0, .ref k0), (1, .int (nI f)), (2, .int (nI kk)), (3, .int dx), (4, .int dy), (5, .int (nI rr))]) hx hb dX11_shift_36 hl (Nat.le_of_ble_eq_true rfl) rfl (fun ls hl => ?_)
          refine lv_aload_n hx hb dX11_shift_38 rfl (lv_at hl 1 rfl) ?_
          refine lv_iload_n hx hb dX11_shift_39 rfl (lv_at hl 2 rfl) ?_
          obtain ⟨hPc, hDc, hFc, hI1⟩ := zi_sub (wc := [_]) hP hD hS hA [0] rfl rfl
          refine zcall (st1 := [.int (pI (f < ft))]) (va_runV (As := [.int (nI f)]) (rest := []) ⟨hx, hb, hml, hown, hts⟩ (k_M_isFeature_n l dC dI cI cZ cF H.size k0 a I0 J0 f ft (by first | with_reducible assumption | assumption) (by first | with_reducible assumption | omega) (by first | with_reducible assumption | omega)) (csV_178 hts rfl rfl ⟨Nat.le_of_ble_eq_true rfl, Nat.le_of_ble_eq_true rfl⟩) (zPV2 (q0 := 0) (ci := 9) hPc hDc hK hXN rfl rfl) rfl rfl hl.1 rfl (lv_room (Nat.le_of_ble_eq_true rfl)) dX11_shift_40 ⟨Nat.le_of_ble_eq_true rfl, Nat.le_of_ble_eq_true rfl⟩) hS hFc hFc rfl (fun t H locs ht hB hk1 hS => ?_)
          obtain ⟨hP1, hD1⟩ := hB
          rw [ht] at hP1
          replace hP := z0 hP hD hk1 hP1 hI1
          clear hk1 hPc hDc hFc hP1 hD1 ht hI1
          refine lv_if_eq (tgt := 51) hx hb dX11_shift_43 rfl (fun c_63 => ?_) (fun c_63 => ?_)
          · have c_63 : ¬ (f < ft) := zp_0 c_63
            exfalso; omega
          · have c_63 : f < ft := zp_1 c_63
            refine lv_iload hx hb dX11_shift_46 (lv_at hl 0 rfl) ?_
            refine lv_if_eq (tgt := 55) hx hb dX11_shift_48 rfl (fun c_64 => ?_) (fun c_64 => ?_)
            · refine lv_aload_n hx hb dX11_shift_55 rfl (lv_at hl 1 rfl) ?_
              refine va_get (D := (dC, dI)) (ci := 9) (v := .ref (a 5)) (C := RX11) (T := TX11) (N := 55) hx hb hts inX11 hown hK hP 0 rfl rfl 5 (Nat.le_of_ble_eq_true rfl) (hts _ mw_1164) (fun _ h9 => h9) rfl dX11_shift_56 ?_
              refine lv_iload_n hx hb dX11_shift_59 rfl (lv_at hl 2 rfl) ?_
              refine z_iald hx hb hK hP 2 0 rfl rfl (e := f) rfl b9_30 (Nat.le_of_ble_eq_true rfl) dX11_shift_60 ?_
              refine lv_iconst (v := 1) hx hb dX11_shift_61 rfl ?_
              refine lv_icmp_eq (tgt := 69) hx hb dX11_shift_62 rfl (fun c_65 => ?_) (fun c_65 => ?_)
              · have c_65 : (st f).toInt = 1 := zc_eq rfl rfl c_65
                refine lv_iconst (v := 0) hx hb dX11_shift_69 rfl ?_
                refine lv_istore (lv' := [(7, .int 0), (6, .int 0), (0, .ref k0), (1, .int (nI f)), (2, .int (nI kk)), (3, .int dx), (4, .int dy), (5, .int (nI rr))]) hx hb dX11_shift_70 hl (Nat.le_of_ble_eq_true rfl) rfl (fun ls hl => ?_)
                refine lv_iload_n hx hb dX11_shift_72 rfl (lv_at hl 5 rfl) ?_
                refine lv_sipush (v := (-200)) hx hb dX11_shift_73 rfl ?_
                refine lv_icmp_lt (tgt := 114) hx hb dX11_shift_76 rfl (fun c_66 => ?_) (fun c_66 => ?_)
                · have c_66 : dx.toInt < (-200) := zc_lt rfl rfl c_66
                  exfalso; omega
                · have c_66 : (-200) ≤ dx.toInt := zc_nlt rfl rfl c_66
                  refine lv_iload_n hx hb dX11_shift_79 rfl (lv_at hl 5 rfl) ?_
                  refine lv_sipush (v := 200) hx hb dX11_shift_80 rfl ?_
                  refine lv_icmp_gt (tgt := 114) hx hb dX11_shift_83 rfl (fun c_67 => ?_) (fun c_67 => ?_)
                  · have c_67 : 200 < dx.toInt := zc_lt rfl rfl c_67
                    exfalso; omega
                  · have c_67 : dx.toInt ≤ 200 := zc_nlt rfl rfl c_67
                    refine lv_iload hx hb dX11_shift_86 (lv_at hl 6 rfl) ?_
                    refine lv_sipush (v := (-200)) hx hb dX11_shift_88 rfl ?_
                    refine lv_icmp_lt (tgt := 114) hx hb dX11_shift_91 rfl (fun c_68 => ?_) (fun c_68 => ?_)
                    · have c_68 : dy.toInt < (-200) := zc_lt rfl rfl c_68
                      exfalso; omega
                    · have c_68 : (-200) ≤ dy.toInt := zc_nlt rfl rfl c_68
                      refine lv_iload hx hb dX11_shift_94 (lv_at hl 6 rfl) ?_
                      refine lv_sipush (v := 200) hx hb dX11_shift_96 rfl ?_
                      refine lv_icmp_gt (tgt := 114) hx hb dX11_shift_99 rfl (fun c_69 => ?_) (fun c_69 => ?_)
                      · have c_69 : 200 < dy.toInt := zc_lt rfl rfl c_69
                        exfalso; omega
                      · have c_69 : dy.toInt ≤ 200 := zc_nlt rfl rfl c_69
                        refine lv_iload hx hb dX11_shift_102 (lv_at hl 7 rfl) ?_
                        have b9_71 : zlt (rr) := show rr < 2147483648 by omega
                        refine lv_if_lt (tgt := 114) hx hb dX11_shift_104 rfl (fun c_70 => ?_) (fun c_70 => ?_)
                        · have c_70 : ((rr : Nat) : Int) < 0 := zc_lt (nI_toInt b9_71) rfl c_70
                          exfalso; omega
                        · have c_70 : 0 ≤ ((rr : Nat) : Int) := zc_nlt (nI_toInt b9_71) rfl c_70
                          refine lv_iload hx hb dX11_shift_107 (lv_at hl 7 rfl) ?_
                          refine lv_bipush (v := 20) hx hb dX11_shift_109 rfl ?_
                          refine lv_icmp_le (tgt := 118) hx hb dX11_shift_111 rfl (fun c_72 => ?_) (fun c_72 => ?_)
                          · have c_72 : ((rr : Nat) : Int) ≤ 20 := zc_le (nI_toInt b9_71) rfl c_72
                            refine lv_iconst (v := 0) hx hb dX11_shift_118 rfl ?_
                            refine lv_istore (lv' := [(8, .int 0), (7, .int 0), (6, .int 0), (0, .ref k0), (1, .int (nI f)), (2, .int (nI kk)), (3, .int dx), (4, .int dy), (5, .int (nI rr))]) hx hb dX11_shift_119 hl (Nat.le_of_ble_eq_true rfl) rfl (fun ls hl => ?_)
                            refine lv_iload hx hb dX11_shift_121 (lv_at hl 1 rfl) ?_
                            refine lv_if_le (tgt := 131) hx hb dX11_shift_123 rfl (fun c_73 => ?_) (fun c_73 => ?_)
                            · refine lv_iload hx hb dX11_shift_131 (lv_at hl 0 rfl) ?_
                              refine lv_if_eq (tgt := 140) hx hb dX11_shift_133 rfl (fun c_74 => ?_) (fun c_74 => ?_)
                              · refine lv_aload_n hx hb dX11_shift_140 rfl (lv_at hl 3 rfl) ?_
                                refine va_get (D := (dC, dI)) (ci := 9) (v := .ref (a 6)) (C := RX11) (T := TX11) (N := 55) hx hb hts inX11 hown hK hP 0 rfl rfl 6 (Nat.le_of_ble_eq_true rfl) (hts _ mw_1165) (fun _ h9 => h9) rfl dX11_shift_141 ?_
                                refine lv_iload_n hx hb dX11_shift_144 rfl (lv_at hl 4 rfl) ?_
                                refine z_zald hx hb hK hP 10 1 rfl rfl (e := f) rfl b9_30 (Nat.le_of_ble_eq_true rfl) dX11_shift_145 ?_
                                refine lv_if_eq (tgt := 153) hx hb dX11_shift_146 rfl (fun c_75 => ?_) (fun c_75 => ?_)
                                · have c_75 : (tn f).toInt = 0 := zc_eq rfl rfl c_75
                                  refine lv_iconst (v := 0) hx hb dX11_shift_153 rfl ?_
                                  refine lv_istore (lv' := [(7, .int 0), (8, .int 0), (6, .int 0), (0, .ref k0), (1, .int (nI f)), (2, .int (nI kk)), (3, .int dx), (4, .int dy), (5, .int (nI rr))]) hx hb dX11_shift_154 hl (Nat.le_of_ble_eq_true rfl) rfl (fun ls hl => ?_)
                                  refine lv_iload hx hb dX11_shift_156 (lv_at hl 0 rfl) ?_
                                  refine lv_if_le (tgt := 168) hx hb dX11_shift_158 rfl (fun c_76 => ?_) (fun c_76 => ?_)
                                  · refine lv_aload_n hx hb dX11_shift_168 rfl (lv_at hl 3 rfl) ?_
                                    refine lv_iload_n hx hb dX11_shift_169 rfl (lv_at hl 4 rfl) ?_
                                    obtain ⟨hPc, hDc, hFc⟩ := zo_sub (wc := [_, _, _, _, _, _, _, _, _, _, _, _, _]) hP hD hS hA [0, 2, 10, 1, 11, 12, 13, 19, 23, 24, 25, 26, 27] (by decide +kernel) rfl
                                    refine zcall (st1 := []) (va_runV (As := [.int (nI f)]) (rest := []) ⟨hx, hb, hml, hown, hts⟩ (k_M_remember l dC dI cI cZ cF H.size k0 a I0 J0 f n ft st tn kd mn cx cy S0 ox oy mt wi ins (by first | with_reducible assumption | assumption) (by first | with_reducible assumption | omega) (by first | with_reducible assumption | omega) (by first | with_reducible assumption | assumption) (by first | with_reducible assumption | omega) (by first | with_reducible assumption | assumption) (fun q h1 _ => hwf q h1)) (csV_190 hts rfl rfl ⟨Nat.le_of_ble_eq_true rfl, Nat.le_of_ble_eq_true rfl⟩) (zPV2 (q0 := 0) (ci := 9) hPc hDc hK hXN rfl rfl) rfl rfl hl.1 rfl (lv_room (Nat.le_of_ble_eq_true rfl)) dX11_shift_170 ⟨Nat.le_of_ble_eq_true rfl, Nat.le_of_ble_eq_true rfl⟩) hS hFc hFc rfl (fun t H locs ht hB hk1 hS => ?_)
                                    refine ex6 hB (fun S1 ox1 oy1 mt1 wi1 ins1 hB0 => ?_)
                                    clear hB
                                    obtain ⟨hox, hmt, hwi, hin, hP1, hD1⟩ := hB0
                                    rw [ht] at hP1
                                    obtain ⟨hP, hD⟩ := zn (W2 := [(om k0 a (upd (upd I0 35 (nI n)) 36 (kd f)) J0), _, _, _, _, _, _, _, _, _, _, _, _, _, _, _, _, _, _, (oa (a 32) cI 8 S1), _, _, _, (oa (a 33) cI 42 ox1), (oa (a 34) cI 42 oy1), (oa (a 37) cZ 201 mt1), (oa (a 38) cZ 201 wi1), (oa (a 39) cZ 8040 ins1), _, _, _, _]) hP hD hk1 hFc hP1 hD1 zl_194 zl_195 zl_195 zl_194 (by decide +kernel) rfl rfl rfl rfl rfl
                                    clear hk1 hPc hDc hFc hP1 hD1 ht
                                    refine lv_aload_n hx hb dX11_shift_173 rfl (lv_at hl 3 rfl) ?_
                                    refine va_get (D := (dC, dI)) (ci := 9) (v := .ref (a 1)) (C := RX11) (T := TX11) (N := 55) hx hb hts inX11 hown hK hP 0 rfl rfl 1 (Nat.le_of_ble_eq_true rfl) (hts _ mw_1160) (fun _ h9 => h9) rfl dX11_shift_174 ?_
                                    refine lv_iload_n hx hb dX11_shift_177 rfl (lv_at hl 4 rfl) ?_
                                    refine z_iald hx hb hK hP 1 0 rfl rfl (e := f) rfl b9_30 (Nat.le_of_ble_eq_true rfl) dX11_shift_178 ?_
                                    have hj_77 : W p l e ({ frames := 5, cells := 0, slots := 0, locals := 130 } : Room) s m ([.ref k0, .int (nI f), .int (nI kk), .int dx, .int dy, .int (nI rr)] : List Value).toArray below meth c H locs 0 0 Q9 (F0 m 198 ls [.int 1]) := by
                                      refine lv_istore (lv' := [(9, .int 1), (7, .int 0), (8, .int 0), (6, .int 0), (0, .ref k0), (1, .int (nI f)), (2, .int (nI kk)), (3, .int dx), (4, .int dy), (5, .int (nI rr))]) hx hb dX11_shift_198 hl (Nat.le_of_ble_eq_true rfl) rfl (fun ls hl => ?_)
                                      refine lv_iconst (v := 0) hx hb dX11_shift_200 rfl ?_
                                      refine lv_istore (lv' := [(10, .int 0), (9, .int 1), (7, .int 0), (8, .int 0), (6, .int 0), (0, .ref k0), (1, .int (nI f)), (2, .int (nI kk)), (3, .int dx), (4, .int dy), (5, .int (nI rr))]) hx hb dX11_shift_201 hl (Nat.le_of_ble_eq_true rfl) rfl (fun ls hl => ?_)
                                      have hl_203 : ∀ (n9 : Nat) (k : Nat) (cx1 : Nat → Int32) (cy1 : Nat → Int32) (H : Heap) (locs : List Loc) (ls : Array Slot), n - k < n9 → (k ≤ n) → (cx1 = fgX f k (fun i => cF40 cx f i + dx) cx) → (cy1 = fgX f k (fun i => cF40 cy f i + dy) cy) → va_P (dC, dI) classes [(om k0 a (upd (upd I0 35 (nI n)) 36 (kd f)) J0), (oa (a 1) cI 201 kd), (oa (a 5) cI 201 st), (oa (a 7) cI 201 gb), (oa (a 10) cI 201 it), (oa (a 8) cI 201 pa), (oa (a 9) cI 201 pb), (oa (a 2) cI 201 rk), (oa (a 3) cI 201 wd), (oa (a 4) cI 201 tw), (oa (a 6) cZ 201 tn), (oa (a 11) cI 201 mn), (oa (a 12) cI 8040 cx1), (oa (a 13) cI 8040 cy1), (oa (a 27) cI 516 sa), (oa (a 28) cI (4096 * cp) sh), (oa (a 16) cI 514 wh), (oa (a 17) cI 514 of9), (oa (a 18) cI 514 we), (oa (a 32) cI 8 S1), (oa (a 40) cI 6 T0), (oa (a 29) cI 42 P0), (oa (a 30) cI 42 Q0), (oa (a 33) cI 42 ox1), (oa (a 34) cI 42 oy1), (oa (a 37) cZ 201 mt1), (oa (a 38) cZ 201 wi1), (oa (a 39) cZ 8040 ins1), (oa (a 22) cI (64 * cl) la), (oa (a 23) cI (64 * cl) lb), (oa (a 24) cI (64 * cl) lc), (oa (a 25) cI (64 * cl) ld)] H → va_D A [(om k0 a (upd (upd I0 35 (nI n)) 36 (kd f)) J0), (oa (a 1) cI 201 kd), (oa (a 5) cI 201 st), (oa (a 7) cI 201 gb), (oa (a 10) cI 201 it), (oa (a 8) cI 201 pa), (oa (a 9) cI 201 pb), (oa (a 2) cI 201 rk), (oa (a 3) cI 201 wd), (oa (a 4) cI 201 tw), (oa (a 6) cZ 201 tn), (oa (a 11) cI 201 mn), (oa (a 12) cI 8040 cx1), (oa (a 13) cI 8040 cy1), (oa (a 27) cI 516 sa), (oa (a 28) cI (4096 * cp) sh), (oa (a 16) cI 514 wh), (oa (a 17) cI 514 of9), (oa (a 18) cI 514 we), (oa (a 32) cI 8 S1), (oa (a 40) cI 6 T0), (oa (a 29) cI 42 P0), (oa (a 30) cI 42 Q0), (oa (a 33) cI 42 ox1), (oa (a 34) cI 42 oy1), (oa (a 37) cZ 201 mt1), (oa (a 38) cZ 201 wi1), (oa (a 39) cZ 8040 ins1), (oa (a 22) cI (64 * cl) la), (oa (a 23) cI (64 * cl) lb), (oa (a 24) cI (64 * cl) lc), (oa (a 25) cI (64 * cl) ld)] → va_S A s.heap H locs → lv_has ls 13 [(10, .int (nI k)), (9, .int 1), (7, .int 0), (8, .int 0), (6, .int 0), (0, .ref k0), (1, .int (nI f)), (2, .int (nI kk)), (3, .int dx), (4, .int dy), (5, .int (nI rr))] → W p l e ({ frames := 5, cells := 0, slots := 0, locals := 130 } : Room) s m ([.ref k0, .int (nI f), .int (nI kk), .int dx, .int dy, .int (nI rr)] : List Value).toArray below meth c H locs 0 0 Q9 (F0 m 203 ls []) := by
                                        intro n9
                                        induction n9 with
                                        | zero => intro k cx1 cy1 H locs ls hm; exact absurd hm (Nat.not_lt_zero _)
                                        | succ n9 ih_203 =>
                                          intro k cx1 cy1 H locs ls hm hk hcx hcy hP hD hS hl
                                          refine lv_iload hx hb dX11_shift_203 (lv_at hl 0 rfl) ?_
                                          refine lv_aload_n hx hb dX11_shift_205 rfl (lv_at hl 5 rfl) ?_
                                          refine va_get (D := (dC, dI)) (ci := 9) (v := .int (nI n)) (C := RX11) (T := TX11) (N := 55) hx hb hts inX11 hown hK hP 0 rfl rfl 35 (Nat.le_of_ble_eq_true rfl) (hts _ mw_1194) (fun _ h9 => h9) rfl dX11_shift_206 ?_
                                          have b9_79 : zlt (k) := show k < 2147483648 by omega
                                          refine lv_icmp_ge (tgt := 367) hx hb dX11_shift_209 rfl (fun c_78 => ?_) (fun c_78 => ?_)
                                          · have c_78 : ((n : Nat) : Int) ≤ ((k : Nat) : Int) := zc_le (nI_toInt b9_62) (nI_toInt b9_79) c_78
                                            have hkn : k = n := (by omega)
                                            rw [hkn] at hcx hcy
                                            refine lv_aload_n hx hb dX11_shift_367 rfl (lv_at hl 5 rfl) ?_
                                            refine lv_iload_n hx hb dX11_shift_368 rfl (lv_at hl 6 rfl) ?_
                                            obtain ⟨hPc, hDc, hFc, hI1⟩ := zi_sub (wc := [_, _, _, _, _]) hP hD hS hA [0, 12, 13, 23, 24] (by decide +kernel) rfl
                                            refine zcall (st1 := [.int (pI (∃ k, k < n ∧ ¬ ((cx1 (40 * f + k)).toInt = (ox1 k).toInt ∧ (cy1 (40 * f + k)).toInt = (oy1 k).toInt)))]) (va_runV (As := [.int (nI f)]) (rest := []) ⟨hx, hb, hml, hown, hts⟩ (k_M_moves l dC dI cI cZ cF H.size k0 a (upd (upd I0 35 (nI n)) 36 (kd f)) J0 f n cx1 cy1 ox1 oy1 (by first | with_reducible assumption | omega) (rfl) (by first | with_reducible assumption | omega)) (csV_211 hts rfl rfl ⟨Nat.le_of_ble_eq_true rfl, Nat.le_of_ble_eq_true rfl⟩) (zPV2 (q0 := 0) (ci := 9) hPc hDc hK hXN rfl rfl) rfl rfl hl.1 rfl (lv_room (Nat.le_of_ble_eq_true rfl)) dX11_shift_369 ⟨Nat.le_of_ble_eq_true rfl, Nat.le_of_ble_eq_true rfl⟩) hS hFc hFc rfl (fun t H locs ht hB hk1 hS => ?_)
                                            obtain ⟨hP1, hD1⟩ := hB
                                            rw [ht] at hP1
                                            replace hP := z0 hP hD hk1 hP1 hI1
                                            clear hk1 hPc hDc hFc hP1 hD1 ht hI1
                                            refine zz_i (v := pI (mvd n (fun i => cF40 cx f i + dx) (fun i => cF40 cy f i + dy) (cF40 cx f) (cF40 cy f))) (zp_iff (mv_iff hcx hcy hox)) ?_
                                            refine lv_if_ne (tgt := 382) hx hb dX11_shift_372 rfl (fun c_80 => ?_) (fun c_80 => ?_)
                                            · have c_80 : mvd n (fun i => cF40 cx f i + dx) (fun i => cF40 cy f i + dy) (cF40 cx f) (cF40 cy f) := zp_1 c_80
                                              exfalso; exact absurd (by first | with_reducible assumption | assumption) hmv
                                            · have c_80 : ¬ (mvd n (fun i => cF40 cx f i + dx) (fun i => cF40 cy f i + dy) (cF40 cx f) (cF40 cy f)) := zp_0 c_80
                                              refine lv_aload_n hx hb dX11_shift_375 rfl (lv_at hl 5 rfl) ?_
                                              refine lv_bipush (v := 8) hx hb dX11_shift_376 rfl ?_
                                              obtain ⟨hPc, hDc, hFc⟩ := zo_sub (wc := [_]) hP hD hS hA [0] rfl rfl
                                              refine zcall (st1 := [.int 0]) (va_runV (As := [.int 8]) (rest := []) ⟨hx, hb, hml, hown, hts⟩ (k_M_no l dC dI cI cZ cF H.size k0 a (upd (upd I0 35 (nI n)) 36 (kd f)) J0 8 (by decide)) (csV_198 hts rfl rfl ⟨Nat.le_of_ble_eq_true rfl, Nat.le_of_ble_eq_true rfl⟩) (zPV2 (q0 := 0) (ci := 9) hPc hDc hK hXN rfl rfl) rfl rfl hl.1 rfl (lv_room (Nat.le_of_ble_eq_true rfl)) dX11_shift_378 ⟨Nat.le_of_ble_eq_true rfl, Nat.le_of_ble_eq_true rfl⟩) hS hFc hFc rfl (fun t H locs ht hB hk1 hS => ?_)
                                              obtain ⟨hP1, hD1⟩ := hB
                                              rw [ht] at hP1
                                              obtain ⟨hP, hD⟩ := zn (W2 := [(om k0 a (upd (upd (upd (upd I0 14 8) 15 (I0 15)) 35 (nI n)) 36 (kd f)) J0), _, _, _, _, _, _, _, _, _, _, _, _, _, _, _, _, _, _, _, _, _, _, _, _, _, _, _, _, _, _, _]) hP hD hk1 hFc hP1 hD1 [0] zl_183 zl_183 [0] (by decide +kernel) rfl rfl rfl rfl rfl
                                              clear hk1 hPc hDc hFc hP1 hD1 ht
                                              have hsx : fgX f n (fun i => cF40 cx f i + dx) cx = cx := fgX_same (fun k9 h9 => Classical.byContradiction fun h8 => hmv ⟨k9, h9, fun h7 => h8 h7.1⟩)
                                              have hsy : fgX f n (fun i => cF40 cy f i + dy) cy = cy := fgX_same (fun k9 h9 => Classical.byContradiction fun h8 => hmv ⟨k9, h9, fun h7 => h8 h7.2⟩)
                                              obtain ⟨hP9, hD9⟩ := zu_sub (wc := [(om k0 a (upd (upd (upd (upd I0 14 8) 15 (I0 15)) 35 (nI n)) 36 (kd f)) J0), (oa (a 1) cI 201 kd), (oa (a 5) cI 201 st), (oa (a 7) cI 201 gb), (oa (a 10) cI 201 it), (oa (a 8) cI 201 pa), (oa (a 9) cI 201 pb), (oa (a 2) cI 201 rk), (oa (a 3) cI 201 wd), (oa (a 4) cI 201 tw), (oa (a 6) cZ 201 tn), (oa (a 11) cI 201 mn), (oa (a 12) cI 8040 cx1), (oa (a 13) cI 8040 cy1), (oa (a 27) cI 516 sa), (oa (a 28) cI (4096 * cp) sh), (oa (a 16) cI 514 wh), (oa (a 17) cI 514 of9), (oa (a 18) cI 514 we), (oa (a 32) cI 8 S1), (oa (a 40) cI 6 T0), (oa (a 29) cI 42 P0), (oa (a 30) cI 42 Q0), (oa (a 33) cI 42 ox1), (oa (a 34) cI 42 oy1), (oa (a 37) cZ 201 mt1), (oa (a 38) cZ 201 wi1), (oa (a 39) cZ 8040 ins1), (oa (a 22) cI (64 * cl) la), (oa (a 23) cI (64 * cl) lb), (oa (a 24) cI (64 * cl) lc), (oa (a 25) cI (64 * cl) ld)]) hP hD (true :: true :: true :: true :: true :: true :: true :: true :: true :: true :: true :: true :: true :: true :: true :: true :: true :: true :: true :: true :: true :: true :: true :: true :: true :: true :: true :: true :: true :: true :: true :: true :: []) rfl rfl
                                              have hE9 : ([(om k0 a (upd (upd (upd (upd I0 14 8) 15 (I0 15)) 35 (nI n)) 36 (kd f)) J0), (oa (a 1) cI 201 kd), (oa (a 5) cI 201 st), (oa (a 7) cI 201 gb), (oa (a 10) cI 201 it), (oa (a 8) cI 201 pa), (oa (a 9) cI 201 pb), (oa (a 2) cI 201 rk), (oa (a 3) cI 201 wd), (oa (a 4) cI 201 tw), (oa (a 6) cZ 201 tn), (oa (a 11) cI 201 mn), (oa (a 12) cI 8040 cx1), (oa (a 13) cI 8040 cy1), (oa (a 27) cI 516 sa), (oa (a 28) cI (4096 * cp) sh), (oa (a 16) cI 514 wh), (oa (a 17) cI 514 of9), (oa (a 18) cI 514 we), (oa (a 32) cI 8 S1), (oa (a 40) cI 6 T0), (oa (a 29) cI 42 P0), (oa (a 30) cI 42 Q0), (oa (a 33) cI 42 ox1), (oa (a 34) cI 42 oy1), (oa (a 37) cZ 201 mt1), (oa (a 38) cZ 201 wi1), (oa (a 39) cZ 8040 ins1), (oa (a 22) cI (64 * cl) la), (oa (a 23) cI (64 * cl) lb), (oa (a 24) cI (64 * cl) lc), (oa (a 25) cI (64 * cl) ld)] : va_W) = [(om k0 a (upd (upd (upd (upd I0 14 8) 15 (I0 15)) 35 (nI n)) 36 (kd f)) J0), (oa (a 1) cI 201 kd), (oa (a 5) cI 201 st), (oa (a 7) cI 201 gb), (oa (a 10) cI 201 it), (oa (a 8) cI 201 pa), (oa (a 9) cI 201 pb), (oa (a 2) cI 201 rk), (oa (a 3) cI 201 wd), (oa (a 4) cI 201 tw), (oa (a 6) cZ 201 tn), (oa (a 11) cI 201 mn), (oa (a 12) cI 8040 cx), (oa (a 13) cI 8040 cy), (oa (a 27) cI 516 sa), (oa (a 28) cI (4096 * cp) sh), (oa (a 16) cI 514 wh), (oa (a 17) cI 514 of9), (oa (a 18) cI 514 we), (oa (a 32) cI 8 S1), (oa (a 40) cI 6 T0), (oa (a 29) cI 42 P0), (oa (a 30) cI 42 Q0), (oa (a 33) cI 42 ox1), (oa (a 34) cI 42 oy1), (oa (a 37) cZ 201 mt1), (oa (a 38) cZ 201 wi1), (oa (a 39) cZ 8040 ins1), (oa (a 22) cI (64 * cl) la), (oa (a 23) cI (64 * cl) lb), (oa (a 24) cI (64 * cl) lc), (oa (a 25) cI (64 * cl) ld)] := by rw [hcx, hcy, hsx, hsy]
                                              rw [hE9] at hP9 hD9
                                              rw [hQ9]
                                              exact W.zret (ty := .boolean) (v := 0) hx hb hr (rfl) (fun t ht hW => ⟨⟨rfl, S1, ox1, oy1, mt1, wi1, ins1, by rw [ht]; exact hP9, hD9⟩, hS.F ht⟩) hS.2.2 dX11_shift_381
                                          · have c_78 : ((k : Nat) : Int) < ((n : Nat) : Int) := zc_nle (nI_toInt b9_62) (nI_toInt b9_79) c_78
                                            have hk9 : k < n := (by omega)
                                            refine lv_aload_n hx hb dX11_shift_212 rfl (lv_at hl 5 rfl) ?_
                                            refine lv_iload_n hx hb dX11_shift_213 rfl (lv_at hl 6 rfl) ?_
                                            refine lv_iload_n hx hb dX11_shift_214 rfl (lv_at hl 7 rfl) ?_
                                            refine lv_iload hx hb dX11_shift_215 (lv_at hl 0 rfl) ?_
                                            obtain ⟨hPc, hDc, hFc, hI1⟩ := zi_sub (wc := [_, _]) hP hD hS hA [0, 1] rfl rfl
                                            refine zcall (st1 := [.int (nI (wyR (kd f).toInt n kk k))]) (va_runV (As := [.int (nI f), .int (nI kk), .int (nI k)]) (rest := []) ⟨hx, hb, hml, hown, hts⟩ (k_M_wayOf l dC dI cI cZ cF H.size k0 a (upd (upd I0 35 (nI n)) 36 (kd f)) J0 f n kk k kd (by first | with_reducible assumption | omega) (by first | with_reducible assumption | omega) (hkk) (by first | with_reducible assumption | omega)) (csV_216 hts rfl rfl ⟨Nat.le_of_ble_eq_true rfl, Nat.le_of_ble_eq_true rfl⟩) (zPV2 (q0 := 0) (ci := 9) hPc hDc hK hXN rfl rfl) rfl rfl hl.1 rfl (lv_room (Nat.le_of_ble_eq_true rfl)) dX11_shift_217 ⟨Nat.le_of_ble_eq_true rfl, Nat.le_of_ble_eq_true rfl⟩) hS hFc hFc rfl (fun t H locs ht hB hk1 hS => ?_)
                                            obtain ⟨hP1, hD1⟩ := hB
                                            rw [ht] at hP1
                                            replace hP := z0 hP hD hk1 hP1 hI1
                                            clear hk1 hPc hDc hFc hP1 hD1 ht hI1
                                            refine lv_istore (lv' := [(11, .int (nI (wyR (kd f).toInt n kk k))), (10, .int (nI k)), (9, .int 1), (7, .int 0), (8, .int 0), (6, .int 0), (0, .ref k0), (1, .int (nI f)), (2, .int (nI kk)), (3, .int dx), (4, .int dy), (5, .int (nI rr))]) hx hb dX11_shift_220 hl (Nat.le_of_ble_eq_true rfl) rfl (fun ls hl => ?_)
                                            refine lv_iload hx hb dX11_shift_222 (lv_at hl 2 rfl) ?_
                                            refine lv_if_ne (tgt := 262) hx hb dX11_shift_224 rfl (fun c_81 => ?_) (fun c_81 => ?_)
                                            · refine lv_iconst (v := 0) hx hb dX11_shift_262 rfl ?_
                                              refine lv_istore (lv' := [(12, .int 0), (11, .int (nI (wyR (kd f).toInt n kk k))), (10, .int (nI k)), (9, .int 1), (7, .int 0), (8, .int 0), (6, .int 0), (0, .ref k0), (1, .int (nI f)), (2, .int (nI kk)), (3, .int dx), (4, .int dy), (5, .int (nI rr))]) hx hb dX11_shift_263 hl (Nat.le_of_ble_eq_true rfl) rfl (fun ls hl => ?_)
                                              refine lv_iload hx hb dX11_shift_265 (lv_at hl 0 rfl) ?_
                                              refine lv_if_eq (tgt := 273) hx hb dX11_shift_267 rfl (fun c_82 => ?_) (fun c_82 => ?_)
                                              · refine lv_aload_n hx hb dX11_shift_273 rfl (lv_at hl 7 rfl) ?_
                                                refine va_get (D := (dC, dI)) (ci := 9) (v := .ref (a 12)) (C := RX11) (T := TX11) (N := 55) hx hb hts inX11 hown hK hP 0 rfl rfl 12 (Nat.le_of_ble_eq_true rfl) (hts _ mw_1171) (fun _ h9 => h9) rfl dX11_shift_274 ?_
                                                refine lv_bipush (v := 40) hx hb dX11_shift_277 rfl ?_
                                                refine lv_iload_n hx hb dX11_shift_279 rfl (lv_at hl 8 rfl) ?_
                                                refine lv_imul hx hb dX11_shift_280 ?_
                                                refine zz_i (v := nI (40 * f)) (pk_mul 40 f) ?_
                                                refine lv_iload hx hb dX11_shift_281 (lv_at hl 2 rfl) ?_
                                                refine lv_iadd hx hb dX11_shift_283 ?_
                                                refine zz_i (v := nI (40 * f + k)) (nI_add (40 * f) k) ?_
                                                refine lv_aload_n hx hb dX11_shift_284 rfl (lv_at hl 7 rfl) ?_
                                                refine va_get (D := (dC, dI)) (ci := 9) (v := .ref (a 33)) (C := RX11) (T := TX11) (N := 55) hx hb hts inX11 hown hK hP 0 rfl rfl 33 (Nat.le_of_ble_eq_true rfl) (hts _ mw_1192) (fun _ h9 => h9) rfl dX11_shift_285 ?_
                                                refine lv_iload hx hb dX11_shift_288 (lv_at hl 2 rfl) ?_
                                                have b9_83 : k < 42 := by omega
                                                refine z_iald hx hb hK hP 23 0 rfl rfl (e := k) rfl b9_83 (Nat.le_of_ble_eq_true rfl) dX11_shift_290 ?_
                                                refine zz_i (v := cF40 cx f k) ((hox _ hk9).1) ?_
                                                refine lv_iload hx hb dX11_shift_291 (lv_at hl 3 rfl) ?_
                                                refine lv_if_eq (tgt := 300) hx hb dX11_shift_293 rfl (fun c_84 => ?_) (fun c_84 => ?_)
                                                · exact absurd c_84 (by decide)
                                                · refine lv_iload_n hx hb dX11_shift_296 rfl (lv_at hl 10 rfl) ?_
                                                  refine lv_goto (tgt := 314) hx hb dX11_shift_297 rfl ?_
                                                  refine lv_iadd hx hb dX11_shift_314 ?_
                                                  have b9_85 : 40 * f + k < 8040 := by omega
                                                  refine z_iast hx hb hK hP hD hS 12 0 rfl rfl (e := 40 * f + k) (x := (cF40 cx f k) + dx) rfl b9_85 (Nat.le_of_ble_eq_true rfl) dX11_shift_315 (fun H locs hP hD hS => ?_)
                                                  obtain ⟨hP, hD⟩ := zre (W2 := [_, _, _, _, _, _, _, _, _, _, _, _, (oa (a 12) cI 8040 (upd cx1 (40 * f + k) ((cF40 cx f k) + dx))), _, _, _, _, _, _, _, _, _, _, _, _, _, _, _, _, _, _, _]) hP hD rfl
                                                  refine lv_aload_n hx hb dX11_shift_316 rfl (lv_at hl 7 rfl) ?_
                                                  refine va_get (D := (dC, dI)) (ci := 9) (v := .ref (a 13)) (C := RX11) (T := TX11) (N := 55) hx hb hts inX11 hown hK hP 0 rfl rfl 13 (Nat.le_of_ble_eq_true rfl) (hts _ mw_1172) (fun _ h9 => h9) rfl dX11_shift_317 ?_
                                                  refine lv_bipush (v := 40) hx hb dX11_shift_320 rfl ?_
                                                  refine lv_iload_n hx hb dX11_shift_322 rfl (lv_at hl 8 rfl) ?_
                                                  refine lv_imul hx hb dX11_shift_323 ?_
                                                  refine zz_i (v := nI (40 * f)) (pk_mul 40 f) ?_
                                                  refine lv_iload hx hb dX11_shift_324 (lv_at hl 2 rfl) ?_
                                                  refine lv_iadd hx hb dX11_shift_326 ?_
                                                  refine zz_i (v := nI (40 * f + k)) (nI_add (40 * f) k) ?_
                                                  refine lv_aload_n hx hb dX11_shift_327 rfl (lv_at hl 7 rfl) ?_
                                                  refine va_get (D := (dC, dI)) (ci := 9) (v := .ref (a 34)) (C := RX11) (T := TX11) (N := 55) hx hb hts inX11 hown hK hP 0 rfl rfl 34 (Nat.le_of_ble_eq_true rfl) (hts _ mw_1193) (fun _ h9 => h9) rfl dX11_shift_328 ?_
                                                  refine lv_iload hx hb dX11_shift_331 (lv_at hl 2 rfl) ?_
                                                  refine z_iald hx hb hK hP 24 0 rfl rfl (e := k) rfl b9_83 (Nat.le_of_ble_eq_true rfl) dX11_shift_333 ?_
                                                  refine zz_i (v := cF40 cy f k) ((hox _ hk9).2) ?_
                                                  refine lv_iload hx hb dX11_shift_334 (lv_at hl 3 rfl) ?_
                                                  refine lv_if_eq (tgt := 344) hx hb dX11_shift_336 rfl (fun c_86 => ?_) (fun c_86 => ?_)
                                                  · exact absurd c_86 (by decide)
                                                  · refine lv_iload hx hb dX11_shift_339 (lv_at hl 11 rfl) ?_
                                                    refine lv_goto (tgt := 359) hx hb dX11_shift_341 rfl ?_
                                                    refine lv_iadd hx hb dX11_shift_359 ?_
                                                    refine z_iast hx hb hK hP hD hS 13 0 rfl rfl (e := 40 * f + k) (x := (cF40 cy f k) + dy) rfl b9_85 (Nat.le_of_ble_eq_true rfl) dX11_shift_360 (fun H locs hP hD hS => ?_)
                                                    obtain ⟨hP, hD⟩ := zre (W2 := [_, _, _, _, _, _, _, _, _, _, _, _, _, (oa (a 13) cI 8040 (upd cy1 (40 * f + k) ((cF40 cy f k) + dy))), _, _, _, _, _, _, _, _, _, _, _, _, _, _, _, _, _, _]) hP hD rfl
                                                    refine lv_iinc (v := nI (k + 1)) (lv' := [(10, .int (nI (k + 1))), (12, .int 0), (11, .int (nI (wyR (kd f).toInt n kk k))), (9, .int 1), (7, .int 0), (8, .int 0), (6, .int 0), (0, .ref k0), (1, .int (nI f)), (2, .int (nI kk)), (3, .int dx), (4, .int dy), (5, .int (nI rr))]) hx hb dX11_shift_361 hl (k := 2) rfl (nI_add k 1) (Nat.le_of_ble_eq_true rfl) rfl (fun ls hl => ?_)
                                                    refine lv_goto (tgt := 203) hx hb dX11_shift_364 rfl ?_
                                                    exact ih_203 (k + 1) (upd cx1 (40 * f + k) ((cF40 cx f k) + dx)) (upd cy1 (40 * f + k) ((cF40 cy f k) + dy)) H locs ls (by first | with_reducible assumption | omega) (by first | with_reducible assumption | omega) (fgX_u hcx rfl) (fgX_u hcy rfl) hP hD hS (lv_sub hl [0, 3, 4, 5, 6, 7, 8, 9, 10, 11, 12] rfl)
                                              · exact absurd (by decide) c_82
                                            · exact absurd c_81 (by decide)
                                      exact hl_203 _ 0 cx cy H locs ls (Nat.lt_succ_self _) (by first | with_reducible assumption | omega) (fgX_0 _ _ _) (fgX_0 _ _ _) hP hD hS (lv_sub hl [0, 1, 2, 3, 4, 5, 6, 7, 8, 9, 10] rfl)
                                    refine lv_if_eq (tgt := 193) hx hb dX11_shift_179 rfl (fun c_87 => ?_) (fun c_87 => ?_)
                                    · have c_87 : (kd f).toInt = 0 := zc_eq rfl rfl c_87
                                      refine lv_iconst (v := 1) hx hb dX11_shift_193 rfl ?_
                                      refine lv_goto (tgt := 198) hx hb dX11_shift_194 rfl ?_
                                      exact hj_77 
                                    · have c_87 : ¬ (kd f).toInt = 0 := zc_ne rfl rfl c_87
                                      refine lv_aload_n hx hb dX11_shift_182 rfl (lv_at hl 3 rfl) ?_
                                      refine va_get (D := (dC, dI)) (ci := 9) (v := .ref (a 1)) (C := RX11) (T := TX11) (N := 55) hx hb hts inX11 hown hK hP 0 rfl rfl 1 (Nat.le_of_ble_eq_true rfl) (hts _ mw_1160) (fun _ h9 => h9) rfl dX11_shift_183 ?_
                                      refine lv_iload_n hx hb dX11_shift_186 rfl (lv_at hl 4 rfl) ?_
                                      refine z_iald hx hb hK hP 1 0 rfl rfl (e := f) rfl b9_30 (Nat.le_of_ble_eq_true rfl) dX11_shift_187 ?_
                                      refine lv_bipush (v := 6) hx hb dX11_shift_188 rfl ?_
                                      refine lv_icmp_ne (tgt := 197) hx hb dX11_shift_190 rfl (fun c_88 => ?_) (fun c_88 => ?_)
                                      · have c_88 : ¬ (kd f).toInt = 6 := zc_ne rfl rfl c_88
                                        exfalso; omega
                                      · have c_88 : (kd f).toInt = 6 := zc_eq rfl rfl c_88
                                        refine lv_iconst (v := 1) hx hb dX11_shift_193 rfl ?_
                                        refine lv_goto (tgt := 198) hx hb dX11_shift_194 rfl ?_
                                        exact hj_77 
                                  · exact absurd (by decide) c_76
                                · have c_75 : ¬ (tn f).toInt = 0 := zc_ne rfl rfl c_75
                                  exfalso; omega
                              · exact absurd (by decide) c_74
                            · exact absurd (by decide) c_73
                          · have c_72 : 20 < ((rr : Nat) : Int) := zc_nle (nI_toInt b9_71) rfl c_72
                            exfalso; omega
              · have c_65 : ¬ (st f).toInt = 1 := zc_ne rfl rfl c_65
                exfalso; omega
            · exact absurd (by decide) c_64
        · have c_61 : ((n : Nat) : Int) ≤ ((kk : Nat) : Int) := zc_nlt (nI_toInt b9_60) (nI_toInt b9_62) c_61
          exfalso; omega
set_option maxHeartbeats 4000000 in
set_option maxRecDepth 100000 in
theorem k_M_shift_t_n (l : Launch) (dC : Nat → ClassId) (dI : Nat → Nat → Nat) (cI cZ cF : ClassId) (sz : Nat) (k0 : Nat) (a : Nat → Nat) (I0 : Nat → Int32) (J0 : Nat → Int64) (f : Nat) (n : Nat) (ft : Nat) (kk : Nat) (rr : Nat) (dx : Int32) (dy : Int32) (kd : Nat → Int32) (st : Nat → Int32) (gb : Nat → Int32) (it : Nat → Int32) (pa : Nat → Int32) (pb : Nat → Int32) (rk : Nat → Int32) (wd : Nat → Int32) (tw : Nat → Int32) (tn : Nat → Int32) (mn : Nat → Int32) (cx : Nat → Int32) (cy : Nat → Int32) (sa : Nat → Int32) (sh : Nat → Int32) (wh : Nat → Int32) (of9 : Nat → Int32) (we : Nat → Int32) (S0 : Nat → Int32) (T0 : Nat → Int32) (P0 : Nat → Int32) (Q0 : Nat → Int32) (ox : Nat → Int32) (oy : Nat → Int32) (mt : Nat → Int32) (wi : Nat → Int32) (ins : Nat → Int32) (la : Nat → Int32) (lb : Nat → Int32) (lc : Nat → Int32) (ld : Nat → Int32) (cp : Nat) (cl : Nat) (hft : I0 0 = nI ft) (h200 : ft ≤ 200) (hf_f : f ≤ 200) (hm_f : mn f = nI n) (hn_f : 1 ≤ n ∧ n ≤ 40) (hp_f : pls n (cF40 cx f) (cF40 cy f)) (hft_f : f < ft) (hwf : ∀ q, lvF ft st tn q → wfM mn cx cy q) (hst1 : (st f).toInt = 1) (htn0 : (tn f).toInt = 0) (hkk : kk < n) (hrr : rr ≤ 20) (hdx : -200 ≤ dx.toInt ∧ dx.toInt ≤ 200) (hdy : -200 ≤ dy.toInt ∧ dy.toInt ≤ 200) (hkd1 : (kd f).toInt = 0 ∨ (kd f).toInt = 6) (hmv : mvd n (fun i => cF40 cx f i + dx) (fun i => cF40 cy f i + dy) (cF40 cx f) (cF40 cy f)) (hlaw : ¬ lwM ft st tn kd mn cx cy f n (fun i => cF40 cx f i + dx) (fun i => cF40 cy f i + dy)) : zM l yX11_shift cX11_shift 13 (some .boolean) ({ frames := 8, cells := 0, slots := 0, locals := 210 } : Room) [.ref k0, .int (nI f), .int (nI kk), .int dx, .int dy, .int (nI rr)] (dC, dI) (zTy cI cZ cF) [(om k0 a I0 J0), (oa (a 1) cI 201 kd), (oa (a 5) cI 201 st), (oa (a 7) cI 201 gb), (oa (a 10) cI 201 it), (oa (a 8) cI 201 pa), (oa (a 9) cI 201 pb), (oa (a 2) cI 201 rk), (oa (a 3) cI 201 wd), (oa (a 4) cI 201 tw), (oa (a 6) cZ 201 tn), (oa (a 11) cI 201 mn), (oa (a 12) cI 8040 cx), (oa (a 13) cI 8040 cy), (oa (a 27) cI 516 sa), (oa (a 28) cI (4096 * cp) sh), (oa (a 16) cI 514 wh), (oa (a 17) cI 514 of9), (oa (a 18) cI 514 we), (oa (a 32) cI 8 S0), (oa (a 40) cI 6 T0), (oa (a 29) cI 42 P0), (oa (a 30) cI 42 Q0), (oa (a 33) cI 42 ox), (oa (a 34) cI 42 oy), (oa (a 37) cZ 201 mt), (oa (a 38) cZ 201 wi), (oa (a 39) cZ 8040 ins), (oa (a 22) cI (64 * cl) la), (oa (a 23) cI (64 * cl) lb), (oa (a 24) cI (64 * cl) lc), (oa (a 25) cI (64 * cl) ld)] sz (some (.int 0)) (fun A t => ∃ (z9 : Int32), ∃ (S1 : Nat → Int32), ∃ (T1 : Nat → Int32), ∃ (P1 : Nat → Int32), ∃ (Q1 : Nat → Int32), ∃ (ox1 : Nat → Int32), ∃ (oy1 : Nat → Int32), ∃ (mt1 : Nat → Int32), ∃ (wi1 : Nat → Int32), ∃ (ins1 : Nat → Int32), zPD (dC, dI) classes A [(om k0 a (upd (upd (upd (upd (upd I0 14 7) 15 (I0 15 + 1)) 31 z9) 35 (nI n)) 36 (kd f)) J0), (oa (a 1) cI 201 kd), (oa (a 5) cI 201 st), (oa (a 7) cI 201 gb), (oa (a 10) cI 201 it), (oa (a 8) cI 201 pa), (oa (a 9) cI 201 pb), (oa (a 2) cI 201 rk), (oa (a 3) cI 201 wd), (oa (a 4) cI 201 tw), (oa (a 6) cZ 201 tn), (oa (a 11) cI 201 mn), (oa (a 12) cI 8040 cx), (oa (a 13) cI 8040 cy), (oa (a 27) cI 516 sa), (oa (a 28) cI (4096 * cp) sh), (oa (a 16) cI 514 wh), (oa (a 17) cI 514 of9), (oa (a 18) cI 514 we), (oa (a 32) cI 8 S1), (oa (a 40) cI 6 T1), (oa (a 29) cI 42 P1), (oa (a 30) cI 42 Q1), (oa (a 33) cI 42 ox1), (oa (a 34) cI 42 oy1), (oa (a 37) cZ 201 mt1), (oa (a 38) cZ 201 wi1), (oa (a 39) cZ 8040 ins1), (oa (a 22) cI (64 * cl) la), (oa (a 23) cI (64 * cl) lb), (oa (a 24) cI (64 * cl) lc), (oa (a 25) cI (64 * cl) ld)] t.heap) 0 0 := by
  refine zIn (own := "ScaleShopModel") (loc := [(0, .ref k0), (1, .int (nI f)), (2, .int (nI kk)), (3, .int dx), (4, .int dy), (5, .int (nI rr))]) rfl rfl rfl rfl (fun p e s m below meth c hx hb hr hts hown hlocks hml hnm9 A hA hS hP hD hK hXN Q9 hQ9 ls hl => ?_)
  have hum : upd mn f (nI n) = mn := upd_self hm_f
  have huk : upd kd f (kd f) = kd := upd_self rfl
  refine lv_aload_n hx hb dX11_shift_0 rfl (lv_at hl 0 rfl) ?_
  refine lv_iload_n hx hb dX11_shift_1 rfl (lv_at hl 1 rfl) ?_
  obtain ⟨hPc, hDc, hFc, hI1⟩ := zi_sub (wc := [_]) hP hD hS hA [0] rfl rfl
  refine zcall (st1 := [.int (pI (f < ft))]) (va_runV (As := [.int (nI f)]) (rest := []) ⟨hx, hb, hml, hown, hts⟩ (k_M_isFeature_n l dC dI cI cZ cF s.heap.size k0 a I0 J0 f ft (by first | with_reducible assumption | assumption) (by first | with_reducible assumption | omega) (by first | with_reducible assumption | omega)) (csV_178 hts rfl rfl ⟨Nat.le_of_ble_eq_true rfl, Nat.le_of_ble_eq_true rfl⟩) (zPV2 (q0 := 0) (ci := 9) hPc hDc hK hXN rfl rfl) rfl rfl hl.1 rfl (lv_room (Nat.le_of_ble_eq_true rfl)) dX11_shift_2 ⟨Nat.le_of_ble_eq_true rfl, Nat.le_of_ble_eq_true rfl⟩) hS hFc hFc rfl (fun t H locs ht hB hk1 hS => ?_)
  obtain ⟨hP1, hD1⟩ := hB
  rw [ht] at hP1
  replace hP := z0 hP hD hk1 hP1 hI1
  clear hk1 hPc hDc hFc hP1 hD1 ht hI1
  refine lv_if_eq (tgt := 35) hx hb dX11_shift_5 rfl (fun c_1 => ?_) (fun c_1 => ?_)
  · have c_1 : ¬ (f < ft) := zp_0 c_1
    refine lv_iconst (v := 0) hx hb dX11_shift_35 rfl ?_
    refine lv_istore (lv' := [(6, .int 0), (0, .ref k0), (1, .int (nI f)), (2, .int (nI kk)), (3, .int dx), (4, .int dy), (5, .int (nI rr))]) hx hb dX11_shift_36 hl (Nat.le_of_ble_eq_true rfl) rfl (fun ls hl => ?_)
    refine lv_aload_n hx hb dX11_shift_38 rfl (lv_at hl 1 rfl) ?_
    refine lv_iload_n hx hb dX11_shift_39 rfl (lv_at hl 2 rfl) ?_
    obtain ⟨hPc, hDc, hFc, hI1⟩ := zi_sub (wc := [_]) hP hD hS hA [0] rfl rfl
    refine zcall (st1 := [.int (pI (f < ft))]) (va_runV (As := [.int (nI f)]) (rest := []) ⟨hx, hb, hml, hown, hts⟩ (k_M_isFeature_n l dC dI cI cZ cF H.size k0 a I0 J0 f ft (by first | with_reducible assumption | assumption) (by first | with_reducible assumption | omega) (by first | with_reducible assumption | omega)) (csV_178 hts rfl rfl ⟨Nat.le_of_ble_eq_true rfl, Nat.le_of_ble_eq_true rfl⟩) (zPV2 (q0 := 0) (ci := 9) hPc hDc hK hXN rfl rfl) rfl rfl hl.1 rfl (lv_room (Nat.le_of_ble_eq_true rfl)) dX11_shift_40 ⟨Nat.le_of_ble_eq_true rfl, Nat.le_of_ble_eq_true rfl⟩) hS hFc hFc rfl (fun t H locs ht hB hk1 hS => ?_)
    obtain ⟨hP1, hD1⟩ := hB
    rw [ht] at hP1
    replace hP := z0 hP hD hk1 hP1 hI1
    clear hk1 hPc hDc hFc hP1 hD1 ht hI1
    refine lv_if_eq (tgt := 51) hx hb dX11_shift_43 rfl (fun c_2 => ?_) (fun c_2 => ?_)
    · have c_2 : ¬ (f < ft) := zp_0 c_2
      exfalso; omega
    · have c_2 : f < ft := zp_1 c_2
      refine lv_iload hx hb dX11_shift_46 (lv_at hl 0 rfl) ?_
      refine lv_if_eq (tgt := 55) hx hb dX11_shift_48 rfl (fun c_3 => ?_) (fun c_3 => ?_)
      · refine lv_aload_n hx hb dX11_shift_55 rfl (lv_at hl 1 rfl) ?_
        refine va_get (D := (dC, dI)) (ci := 9) (v := .ref (a 5)) (C := RX11) (T := TX11) (N := 55) hx hb hts inX11 hown hK hP 0 rfl rfl 5 (Nat.le_of_ble_eq_true rfl) (hts _ mw_1164) (fun _ h9 => h9) rfl dX11_shift_56 ?_
        refine lv_iload_n hx hb dX11_shift_59 rfl (lv_at hl 2 rfl) ?_
        have b9_4 : f < 201 := by omega
        refine z_iald hx hb hK hP 2 0 rfl rfl (e := f) rfl b9_4 (Nat.le_of_ble_eq_true rfl) dX11_shift_60 ?_
        refine lv_iconst (v := 1) hx hb dX11_shift_61 rfl ?_
        refine lv_icmp_eq (tgt := 69) hx hb dX11_shift_62 rfl (fun c_5 => ?_) (fun c_5 => ?_)
        · have c_5 : (st f).toInt = 1 := zc_eq rfl rfl c_5
          refine lv_iconst (v := 0) hx hb dX11_shift_69 rfl ?_
          refine lv_istore (lv' := [(7, .int 0), (6, .int 0), (0, .ref k0), (1, .int (nI f)), (2, .int (nI kk)), (3, .int dx), (4, .int dy), (5, .int (nI rr))]) hx hb dX11_shift_70 hl (Nat.le_of_ble_eq_true rfl) rfl (fun ls hl => ?_)
          refine lv_iload_n hx hb dX11_shift_72 rfl (lv_at hl 5 rfl) ?_
          refine lv_sipush (v := (-200)) hx hb dX11_shift_73 rfl ?_
          refine lv_icmp_lt (tgt := 114) hx hb dX11_shift_76 rfl (fun c_6 => ?_) (fun c_6 => ?_)
          · have c_6 : dx.toInt < (-200) := zc_lt rfl rfl c_6
            exfalso; omega
          · have c_6 : (-200) ≤ dx.toInt := zc_nlt rfl rfl c_6
            refine lv_iload_n hx hb dX11_shift_79 rfl (lv_at hl 5 rfl) ?_
            refine lv_sipush (v := 200) hx hb dX11_shift_80 rfl ?_
            refine lv_icmp_gt (tgt := 114) hx hb dX11_shift_83 rfl (fun c_7 => ?_) (fun c_7 => ?_)
            · have c_7 : 200 < dx.toInt := zc_lt rfl rfl c_7
              exfalso; omega
            · have c_7 : dx.toInt ≤ 200 := zc_nlt rfl rfl c_7
              refine lv_iload hx hb dX11_shift_86 (lv_at hl 6 rfl) ?_
              refine lv_sipush (v := (-200)) hx hb dX11_shift_88 rfl ?_
              refine lv_icmp_lt (tgt := 114) hx hb dX11_shift_91 rfl (fun c_8 => ?_) (fun c_8 => ?_)
              · have c_8 : dy.toInt < (-200) := zc_lt rfl rfl c_8
                exfalso; omega
              · have c_8 : (-200) ≤ dy.toInt := zc_nlt rfl rfl c_8
                refine lv_iload hx hb dX11_shift_94 (lv_at hl 6 rfl) ?_
                refine lv_sipush (v := 200) hx hb dX11_shift_96 rfl ?_
                refine lv_icmp_gt (tgt := 114) hx hb dX11_shift_99 rfl (fun c_9 => ?_) (fun c_9 => ?_)
                · have c_9 : 200 < dy.toInt := zc_lt rfl rfl c_9
                  exfalso; omega
                · have c_9 : dy.toInt ≤ 200 := zc_nlt rfl rfl c_9
                  refine lv_iload hx hb dX11_shift_102 (lv_at hl 7 rfl) ?_
                  have b9_11 : zlt (rr) := show rr < 2147483648 by omega
                  refine lv_if_lt (tgt := 114) hx hb dX11_shift_104 rfl (fun c_10 => ?_) (fun c_10 => ?_)
                  · have c_10 : ((rr : Nat) : Int) < 0 := zc_lt (nI_toInt b9_11) rfl c_10
                    exfalso; omega
                  · have c_10 : 0 ≤ ((rr : Nat) : Int) := zc_nlt (nI_toInt b9_11) rfl c_10
                    refine lv_iload hx hb dX11_shift_107 (lv_at hl 7 rfl) ?_
                    refine lv_bipush (v := 20) hx hb dX11_shift_109 rfl ?_
                    refine lv_icmp_le (tgt := 118) hx hb dX11_shift_111 rfl (fun c_12 => ?_) (fun c_12 => ?_)
                    · have c_12 : ((rr : Nat) : Int) ≤ 20 := zc_le (nI_toInt b9_11) rfl c_12
                      refine lv_iconst (v := 0) hx hb dX11_shift_118 rfl ?_
                      refine lv_istore (lv' := [(8, .int 0), (7, .int 0), (6, .int 0), (0, .ref k0), (1, .int (nI f)), (2, .int (nI kk)), (3, .int dx), (4, .int dy), (5, .int (nI rr))]) hx hb dX11_shift_119 hl (Nat.le_of_ble_eq_true rfl) rfl (fun ls hl => ?_)
                      refine lv_iload hx hb dX11_shift_121 (lv_at hl 1 rfl) ?_
                      refine lv_if_le (tgt := 131) hx hb dX11_shift_123 rfl (fun c_13 => ?_) (fun c_13 => ?_)
                      · refine lv_iload hx hb dX11_shift_131 (lv_at hl 0 rfl) ?_
                        refine lv_if_eq (tgt := 140) hx hb dX11_shift_133 rfl (fun c_14 => ?_) (fun c_14 => ?_)
                        · refine lv_aload_n hx hb dX11_shift_140 rfl (lv_at hl 3 rfl) ?_
                          refine va_get (D := (dC, dI)) (ci := 9) (v := .ref (a 6)) (C := RX11) (T := TX11) (N := 55) hx hb hts inX11 hown hK hP 0 rfl rfl 6 (Nat.le_of_ble_eq_true rfl) (hts _ mw_1165) (fun _ h9 => h9) rfl dX11_shift_141 ?_
                          refine lv_iload_n hx hb dX11_shift_144 rfl (lv_at hl 4 rfl) ?_
                          refine z_zald hx hb hK hP 10 1 rfl rfl (e := f) rfl b9_4 (Nat.le_of_ble_eq_true rfl) dX11_shift_145 ?_
                          refine lv_if_eq (tgt := 153) hx hb dX11_shift_146 rfl (fun c_15 => ?_) (fun c_15 => ?_)
                          · have c_15 : (tn f).toInt = 0 := zc_eq rfl rfl c_15
                            refine lv_iconst (v := 0) hx hb dX11_shift_153 rfl ?_
                            refine lv_istore (lv' := [(7, .int 0), (8, .int 0), (6, .int 0), (0, .ref k0), (1, .int (nI f)), (2, .int (nI kk)), (3, .int dx), (4, .int dy), (5, .int (nI rr))]) hx hb dX11_shift_154 hl (Nat.le_of_ble_eq_true rfl) rfl (fun ls hl => ?_)
                            refine lv_iload hx hb dX11_shift_156 (lv_at hl 0 rfl) ?_
                            refine lv_if_le (tgt := 168) hx hb dX11_shift_158 rfl (fun c_16 => ?_) (fun c_16 => ?_)
                            · refine lv_aload_n hx hb dX11_shift_168 rfl (lv_at hl 3 rfl) ?_
                              refine lv_iload_n hx hb dX11_shift_169 rfl (lv_at hl 4 rfl) ?_
                              obtain ⟨hPc, hDc, hFc⟩ := zo_sub (wc := [_, _, _, _, _, _, _, _, _, _, _, _, _]) hP hD hS hA [0, 2, 10, 1, 11, 12, 13, 19, 23, 24, 25, 26, 27] (by decide +kernel) rfl
                              refine zcall (st1 := []) (va_runV (As := [.int (nI f)]) (rest := []) ⟨hx, hb, hml, hown, hts⟩ (k_M_remember l dC dI cI cZ cF H.size k0 a I0 J0 f n ft st tn kd mn cx cy S0 ox oy mt wi ins (by first | with_reducible assumption | assumption) (by first | with_reducible assumption | omega) (by first | with_reducible assumption | omega) (by first | with_reducible assumption | assumption) (by first | with_reducible assumption | omega) (by first | with_reducible assumption | assumption) (fun q h1 _ => hwf q h1)) (csV_190 hts rfl rfl ⟨Nat.le_of_ble_eq_true rfl, Nat.le_of_ble_eq_true rfl⟩) (zPV2 (q0 := 0) (ci := 9) hPc hDc hK hXN rfl rfl) rfl rfl hl.1 rfl (lv_room (Nat.le_of_ble_eq_true rfl)) dX11_shift_170 ⟨Nat.le_of_ble_eq_true rfl, Nat.le_of_ble_eq_true rfl⟩) hS hFc hFc rfl (fun t H locs ht hB hk1 hS => ?_)
                              refine ex6 hB (fun S1 ox1 oy1 mt1 wi1 ins1 hB0 => ?_)
                              clear hB
                              obtain ⟨hox, hmt, hwi, hin, hP1, hD1⟩ := hB0
                              rw [ht] at hP1
                              obtain ⟨hP, hD⟩ := zn (W2 := [(om k0 a (upd (upd I0 35 (nI n)) 36 (kd f)) J0), _, _, _, _, _, _, _, _, _, _, _, _, _, _, _, _, _, _, (oa (a 32) cI 8 S1), _, _, _, (oa (a 33) cI 42 ox1), (oa (a 34) cI 42 oy1), (oa (a 37) cZ 201 mt1), (oa (a 38) cZ 201 wi1), (oa (a 39) cZ 8040 ins1), _, _, _, _]) hP hD hk1 hFc hP1 hD1 zl_194 zl_195 zl_195 zl_194 (by decide +kernel) rfl rfl rfl rfl rfl
                              clear hk1 hPc hDc hFc hP1 hD1 ht
                              refine lv_aload_n hx hb dX11_shift_173 rfl (lv_at hl 3 rfl) ?_
                              refine va_get (D := (dC, dI)) (ci := 9) (v := .ref (a 1)) (C := RX11) (T := TX11) (N := 55) hx hb hts inX11 hown hK hP 0 rfl rfl 1 (Nat.le_of_ble_eq_true rfl) (hts _ mw_1160) (fun _ h9 => h9) rfl dX11_shift_174 ?_
                              refine lv_iload_n hx hb dX11_shift_177 rfl (lv_at hl 4 rfl) ?_
                              refine z_iald hx hb hK hP 1 0 rfl rfl (e := f) rfl b9_4 (Nat.le_of_ble_eq_true rfl) dX11_shift_178 ?_
                              have hj_17 : W p l e ({ frames := 8, cells := 0, slots := 0, locals := 210 } : Room) s m ([.ref k0, .int (nI f), .int (nI kk), .int dx, .int dy, .int (nI rr)] : List Value).toArray below meth c H locs 0 0 Q9 (F0 m 198 ls [.int 1]) := by
                                refine lv_istore (lv' := [(9, .int 1), (7, .int 0), (8, .int 0), (6, .int 0), (0, .ref k0), (1, .int (nI f)), (2, .int (nI kk)), (3, .int dx), (4, .int dy), (5, .int (nI rr))]) hx hb dX11_shift_198 hl (Nat.le_of_ble_eq_true rfl) rfl (fun ls hl => ?_)
                                refine lv_iconst (v := 0) hx hb dX11_shift_200 rfl ?_
                                refine lv_istore (lv' := [(10, .int 0), (9, .int 1), (7, .int 0), (8, .int 0), (6, .int 0), (0, .ref k0), (1, .int (nI f)), (2, .int (nI kk)), (3, .int dx), (4, .int dy), (5, .int (nI rr))]) hx hb dX11_shift_201 hl (Nat.le_of_ble_eq_true rfl) rfl (fun ls hl => ?_)
                                have hl_203 : ∀ (n9 : Nat) (k : Nat) (cx1 : Nat → Int32) (cy1 : Nat → Int32) (H : Heap) (locs : List Loc) (ls : Array Slot), n - k < n9 → (k ≤ n) → (cx1 = fgX f k (fun i => cF40 cx f i + dx) cx) → (cy1 = fgX f k (fun i => cF40 cy f i + dy) cy) → va_P (dC, dI) classes [(om k0 a (upd (upd I0 35 (nI n)) 36 (kd f)) J0), (oa (a 1) cI 201 kd), (oa (a 5) cI 201 st), (oa (a 7) cI 201 gb), (oa (a 10) cI 201 it), (oa (a 8) cI 201 pa), (oa (a 9) cI 201 pb), (oa (a 2) cI 201 rk), (oa (a 3) cI 201 wd), (oa (a 4) cI 201 tw), (oa (a 6) cZ 201 tn), (oa (a 11) cI 201 mn), (oa (a 12) cI 8040 cx1), (oa (a 13) cI 8040 cy1), (oa (a 27) cI 516 sa), (oa (a 28) cI (4096 * cp) sh), (oa (a 16) cI 514 wh), (oa (a 17) cI 514 of9), (oa (a 18) cI 514 we), (oa (a 32) cI 8 S1), (oa (a 40) cI 6 T0), (oa (a 29) cI 42 P0), (oa (a 30) cI 42 Q0), (oa (a 33) cI 42 ox1), (oa (a 34) cI 42 oy1), (oa (a 37) cZ 201 mt1), (oa (a 38) cZ 201 wi1), (oa (a 39) cZ 8040 ins1), (oa (a 22) cI (64 * cl) la), (oa (a 23) cI (64 * cl) lb), (oa (a 24) cI (64 * cl) lc), (oa (a 25) cI (64 * cl) ld)] H → va_D A [(om k0 a (upd (upd I0 35 (nI n)) 36 (kd f)) J0), (oa (a 1) cI 201 kd), (oa (a 5) cI 201 st), (oa (a 7) cI 201 gb), (oa (a 10) cI 201 it), (oa (a 8) cI 201 pa), (oa (a 9) cI 201 pb), (oa (a 2) cI 201 rk), (oa (a 3) cI 201 wd), (oa (a 4) cI 201 tw), (oa (a 6) cZ 201 tn), (oa (a 11) cI 201 mn), (oa (a 12) cI 8040 cx1), (oa (a 13) cI 8040 cy1), (oa (a 27) cI 516 sa), (oa (a 28) cI (4096 * cp) sh), (oa (a 16) cI 514 wh), (oa (a 17) cI 514 of9), (oa (a 18) cI 514 we), (oa (a 32) cI 8 S1), (oa (a 40) cI 6 T0), (oa (a 29) cI 42 P0), (oa (a 30) cI 42 Q0), (oa (a 33) cI 42 ox1), (oa (a 34) cI 42 oy1), (oa (a 37) cZ 201 mt1), (oa (a 38) cZ 201 wi1), (oa (a 39) cZ 8040 ins1), (oa (a 22) cI (64 * cl) la), (oa (a 23) cI (64 * cl) lb), (oa (a 24) cI (64 * cl) lc), (oa (a 25) cI (64 * cl) ld)] → va_S A s.heap H locs → lv_has ls 13 [(10, .int (nI k)), (9, .int 1), (7, .int 0), (8, .int 0), (6, .int 0), (0, .ref k0), (1, .int (nI f)), (2, .int (nI kk)), (3, .int dx), (4, .int dy), (5, .int (nI rr))] → W p l e ({ frames := 8, cells := 0, slots := 0, locals := 210 } : Room) s m ([.ref k0, .int (nI f), .int (nI kk), .int dx, .int dy, .int (nI rr)] : List Value).toArray below meth c H locs 0 0 Q9 (F0 m 203 ls []) := by
                                  intro n9
                                  induction n9 with
                                  | zero => intro k cx1 cy1 H locs ls hm; exact absurd hm (Nat.not_lt_zero _)
                                  | succ n9 ih_203 =>
                                    intro k cx1 cy1 H locs ls hm hk hcx hcy hP hD hS hl
                                    refine lv_iload hx hb dX11_shift_203 (lv_at hl 0 rfl) ?_
                                    refine lv_aload_n hx hb dX11_shift_205 rfl (lv_at hl 5 rfl) ?_
                                    refine va_get (D := (dC, dI)) (ci := 9) (v := .int (nI n)) (C := RX11) (T := TX11) (N := 55) hx hb hts inX11 hown hK hP 0 rfl rfl 35 (Nat.le_of_ble_eq_true rfl) (hts _ mw_1194) (fun _ h9 => h9) rfl dX11_shift_206 ?_
                                    have b9_19 : zlt (k) := show k < 2147483648 by omega
                                    have b9_20 : zlt (n) := show n < 2147483648 by omega
                                    refine lv_icmp_ge (tgt := 367) hx hb dX11_shift_209 rfl (fun c_18 => ?_) (fun c_18 => ?_)
                                    · have c_18 : ((n : Nat) : Int) ≤ ((k : Nat) : Int) := zc_le (nI_toInt b9_20) (nI_toInt b9_19) c_18
                                      have hkn : k = n := (by omega)
                                      rw [hkn] at hcx hcy
                                      refine lv_aload_n hx hb dX11_shift_367 rfl (lv_at hl 5 rfl) ?_
                                      refine lv_iload_n hx hb dX11_shift_368 rfl (lv_at hl 6 rfl) ?_
                                      obtain ⟨hPc, hDc, hFc, hI1⟩ := zi_sub (wc := [_, _, _, _, _]) hP hD hS hA [0, 12, 13, 23, 24] (by decide +kernel) rfl
                                      refine zcall (st1 := [.int (pI (∃ k, k < n ∧ ¬ ((cx1 (40 * f + k)).toInt = (ox1 k).toInt ∧ (cy1 (40 * f + k)).toInt = (oy1 k).toInt)))]) (va_runV (As := [.int (nI f)]) (rest := []) ⟨hx, hb, hml, hown, hts⟩ (k_M_moves l dC dI cI cZ cF H.size k0 a (upd (upd I0 35 (nI n)) 36 (kd f)) J0 f n cx1 cy1 ox1 oy1 (by first | with_reducible assumption | omega) (rfl) (by first | with_reducible assumption | omega)) (csV_211 hts rfl rfl ⟨Nat.le_of_ble_eq_true rfl, Nat.le_of_ble_eq_true rfl⟩) (zPV2 (q0 := 0) (ci := 9) hPc hDc hK hXN rfl rfl) rfl rfl hl.1 rfl (lv_room (Nat.le_of_ble_eq_true rfl)) dX11_shift_369 ⟨Nat.le_of_ble_eq_true rfl, Nat.le_of_ble_eq_true rfl⟩) hS hFc hFc rfl (fun t H locs ht hB hk1 hS => ?_)
                                      obtain ⟨hP1, hD1⟩ := hB
                                      rw [ht] at hP1
                                      replace hP := z0 hP hD hk1 hP1 hI1
                                      clear hk1 hPc hDc hFc hP1 hD1 ht hI1
                                      refine zz_i (v := pI (mvd n (fun i => cF40 cx f i + dx) (fun i => cF40 cy f i + dy) (cF40 cx f) (cF40 cy f))) (zp_iff (mv_iff hcx hcy hox)) ?_
                                      refine lv_if_ne (tgt := 382) hx hb dX11_shift_372 rfl (fun c_21 => ?_) (fun c_21 => ?_)
                                      · have c_21 : mvd n (fun i => cF40 cx f i + dx) (fun i => cF40 cy f i + dy) (cF40 cx f) (cF40 cy f) := zp_1 c_21
                                        refine lv_aload_n hx hb dX11_shift_382 rfl (lv_at hl 5 rfl) ?_
                                        refine lv_iload_n hx hb dX11_shift_383 rfl (lv_at hl 6 rfl) ?_
                                        refine lv_iconst (v := 3) hx hb dX11_shift_384 rfl ?_
                                        refine zz_i (v := nI 3) (rfl) ?_
                                        have hbx : fgX f n ox1 cx1 = cx := (by rw [hcx]; exact fgX_back (fun k9 h9 => (hox k9 h9).1))
                                        have hby : fgX f n oy1 cy1 = cy := (by rw [hcy]; exact fgX_back (fun k9 h9 => (hox k9 h9).2))
                                        have hlq := lwM_eq (ft := ft) (st := st) (tn := tn) (kd := kd) (mn := mn) hn_f.1 hcx hcy hox
                                        have hpo : pls n ox1 oy1 := fun j hj => by rw [(hox j hj).1, (hox j hj).2]; exact hp_f j hj
                                        have hwf2 : ∀ q, lvF ft st tn q → q ≠ f → wfM mn cx1 cy1 q := fun q h1 h2 => wfM_o (hwf q h1) h2 (fun _ _ => rfl) (fun j hj => by rw [hcx, hcy]; exact ⟨fgX_o (by omega), fgX_o (by omega)⟩)
                                        obtain ⟨hPc, hDc, hFc⟩ := zo_sub (wc := [_, _, _, _, _, _, _, _, _, _, _, _, _, _, _, _, _, _, _, _, _, _, _, _, _, _, _, _, _, _, _, _]) hP hD hS hA [0, 1, 2, 3, 4, 5, 6, 7, 8, 9, 10, 11, 12, 13, 14, 15, 16, 17, 18, 19, 20, 21, 22, 23, 24, 25, 26, 27, 28, 29, 30, 31] (by decide +kernel) rfl
                                        refine zcall (st1 := [.int 0]) (va_runV (As := [.int (nI f), .int (nI 3)]) (rest := []) ⟨hx, hb, hml, hown, hts⟩ (k_M_changes_mn l dC dI cI cZ cF H.size k0 a (upd (upd I0 35 (nI n)) 36 (kd f)) J0 f n ft n (kd f) 3 kd st gb it pa pb rk wd tw tn mn cx1 cy1 sa sh wh of9 we S1 T0 P0 Q0 ox1 oy1 mt1 wi1 ins1 la lb lc ld (bMt kd mn cx cy f n) (bWi kd mn cx cy f) (bIn kd cx cy f n) cp cl (hft) (by first | with_reducible assumption | omega) (by first | with_reducible assumption | omega) (hm_f) (by first | with_reducible assumption | omega) (hwf2) (by first | with_reducible assumption | omega) (by first | with_reducible assumption | omega) (hpo) (hmt) (fun q h1 h2 h5 => by rw [hwi q h1 h2]; exact zp_iff ⟨fun h => h.2, fun h => ⟨h5, h⟩⟩) (fun q h1 h2 i hi h5 => hin q h1 h2 h5 i hi) (by first | with_reducible assumption | omega) (rfl) (hft_f) (by rw [hlq]; exact hlaw)) (csV_212 hts rfl rfl ⟨Nat.le_of_ble_eq_true rfl, Nat.le_of_ble_eq_true rfl⟩) (zPV2 (q0 := 0) (ci := 9) hPc hDc hK hXN rfl rfl) rfl rfl hl.1 rfl (lv_room (Nat.le_of_ble_eq_true rfl)) dX11_shift_385 ⟨Nat.le_of_ble_eq_true rfl, Nat.le_of_ble_eq_true rfl⟩) hS hFc hFc rfl (fun t H locs ht hB hk1 hS => ?_)
                                        obtain ⟨z8, S2, T2, P2, Q2, hP1, hD1⟩ := hB
                                        rw [ht] at hP1
                                        obtain ⟨hP, hD⟩ := zn (W2 := [(om k0 a (upd (upd (upd (upd (upd I0 14 7) 15 (I0 15 + 1)) 31 z8) 35 (nI n)) 36 (kd f)) J0), (oa (a 1) cI 201 (upd kd f (kd f))), _, _, _, _, _, _, _, _, _, (oa (a 11) cI 201 (upd mn f (nI n))), (oa (a 12) cI 8040 (fgX f n ox1 cx1)), (oa (a 13) cI 8040 (fgX f n oy1 cy1)), _, _, _, _, _, (oa (a 32) cI 8 S2), (oa (a 40) cI 6 T2), (oa (a 29) cI 42 P2), (oa (a 30) cI 42 Q2), _, _, _, _, _, _, _, _, _]) hP hD hk1 hFc hP1 hD1 zl_196 [] zl_197 zl_196 (by decide +kernel) rfl rfl rfl rfl rfl
                                        clear hk1 hPc hDc hFc hP1 hD1 ht
                                        obtain ⟨hP9, hD9⟩ := zu_sub (wc := [(om k0 a (upd (upd (upd (upd (upd I0 14 7) 15 (I0 15 + 1)) 31 z8) 35 (nI n)) 36 (kd f)) J0), (oa (a 1) cI 201 (upd kd f (kd f))), (oa (a 5) cI 201 st), (oa (a 7) cI 201 gb), (oa (a 10) cI 201 it), (oa (a 8) cI 201 pa), (oa (a 9) cI 201 pb), (oa (a 2) cI 201 rk), (oa (a 3) cI 201 wd), (oa (a 4) cI 201 tw), (oa (a 6) cZ 201 tn), (oa (a 11) cI 201 (upd mn f (nI n))), (oa (a 12) cI 8040 (fgX f n ox1 cx1)), (oa (a 13) cI 8040 (fgX f n oy1 cy1)), (oa (a 27) cI 516 sa), (oa (a 28) cI (4096 * cp) sh), (oa (a 16) cI 514 wh), (oa (a 17) cI 514 of9), (oa (a 18) cI 514 we), (oa (a 32) cI 8 S2), (oa (a 40) cI 6 T2), (oa (a 29) cI 42 P2), (oa (a 30) cI 42 Q2), (oa (a 33) cI 42 ox1), (oa (a 34) cI 42 oy1), (oa (a 37) cZ 201 mt1), (oa (a 38) cZ 201 wi1), (oa (a 39) cZ 8040 ins1), (oa (a 22) cI (64 * cl) la), (oa (a 23) cI (64 * cl) lb), (oa (a 24) cI (64 * cl) lc), (oa (a 25) cI (64 * cl) ld)]) hP hD (true :: true :: true :: true :: true :: true :: true :: true :: true :: true :: true :: true :: true :: true :: true :: true :: true :: true :: true :: true :: true :: true :: true :: true :: true :: true :: true :: true :: true :: true :: true :: true :: []) rfl rfl
                                        have hE9 : ([(om k0 a (upd (upd (upd (upd (upd I0 14 7) 15 (I0 15 + 1)) 31 z8) 35 (nI n)) 36 (kd f)) J0), (oa (a 1) cI 201 (upd kd f (kd f))), (oa (a 5) cI 201 st), (oa (a 7) cI 201 gb), (oa (a 10) cI 201 it), (oa (a 8) cI 201 pa), (oa (a 9) cI 201 pb), (oa (a 2) cI 201 rk), (oa (a 3) cI 201 wd), (oa (a 4) cI 201 tw), (oa (a 6) cZ 201 tn), (oa (a 11) cI 201 (upd mn f (nI n))), (oa (a 12) cI 8040 (fgX f n ox1 cx1)), (oa (a 13) cI 8040 (fgX f n oy1 cy1)), (oa (a 27) cI 516 sa), (oa (a 28) cI (4096 * cp) sh), (oa (a 16) cI 514 wh), (oa (a 17) cI 514 of9), (oa (a 18) cI 514 we), (oa (a 32) cI 8 S2), (oa (a 40) cI 6 T2), (oa (a 29) cI 42 P2), (oa (a 30) cI 42 Q2), (oa (a 33) cI 42 ox1), (oa (a 34) cI 42 oy1), (oa (a 37) cZ 201 mt1), (oa (a 38) cZ 201 wi1), (oa (a 39) cZ 8040 ins1), (oa (a 22) cI (64 * cl) la), (oa (a 23) cI (64 * cl) lb), (oa (a 24) cI (64 * cl) lc), (oa (a 25) cI (64 * cl) ld)] : va_W) = [(om k0 a (upd (upd (upd (upd (upd I0 14 7) 15 (I0 15 + 1)) 31 z8) 35 (nI n)) 36 (kd f)) J0), (oa (a 1) cI 201 kd), (oa (a 5) cI 201 st), (oa (a 7) cI 201 gb), (oa (a 10) cI 201 it), (oa (a 8) cI 201 pa), (oa (a 9) cI 201 pb), (oa (a 2) cI 201 rk), (oa (a 3) cI 201 wd), (oa (a 4) cI 201 tw), (oa (a 6) cZ 201 tn), (oa (a 11) cI 201 mn), (oa (a 12) cI 8040 cx), (oa (a 13) cI 8040 cy), (oa (a 27) cI 516 sa), (oa (a 28) cI (4096 * cp) sh), (oa (a 16) cI 514 wh), (oa (a 17) cI 514 of9), (oa (a 18) cI 514 we), (oa (a 32) cI 8 S2), (oa (a 40) cI 6 T2), (oa (a 29) cI 42 P2), (oa (a 30) cI 42 Q2), (oa (a 33) cI 42 ox1), (oa (a 34) cI 42 oy1), (oa (a 37) cZ 201 mt1), (oa (a 38) cZ 201 wi1), (oa (a 39) cZ 8040 ins1), (oa (a 22) cI (64 * cl) la), (oa (a 23) cI (64 * cl) lb), (oa (a 24) cI (64 * cl) lc), (oa (a 25) cI (64 * cl) ld)] := by rw [hum, huk, hbx, hby]
                                        rw [hE9] at hP9 hD9
                                        rw [hQ9]
                                        exact W.zret (ty := .boolean) (v := 0) hx hb hr (rfl) (fun t ht hW => ⟨⟨rfl, z8, S2, T2, P2, Q2, ox1, oy1, mt1, wi1, ins1, by rw [ht]; exact hP9, hD9⟩, hS.F ht⟩) hS.2.2 dX11_shift_388
                                      · have c_21 : ¬ (mvd n (fun i => cF40 cx f i + dx) (fun i => cF40 cy f i + dy) (cF40 cx f) (cF40 cy f)) := zp_0 c_21
                                        exfalso; exact absurd hmv (by first | with_reducible assumption | assumption)
                                    · have c_18 : ((k : Nat) : Int) < ((n : Nat) : Int) := zc_nle (nI_toInt b9_20) (nI_toInt b9_19) c_18
                                      have hk9 : k < n := (by omega)
                                      refine lv_aload_n hx hb dX11_shift_212 rfl (lv_at hl 5 rfl) ?_
                                      refine lv_iload_n hx hb dX11_shift_213 rfl (lv_at hl 6 rfl) ?_
                                      refine lv_iload_n hx hb dX11_shift_214 rfl (lv_at hl 7 rfl) ?_
                                      refine lv_iload hx hb dX11_shift_215 (lv_at hl 0 rfl) ?_
                                      obtain ⟨hPc, hDc, hFc, hI1⟩ := zi_sub (wc := [_, _]) hP hD hS hA [0, 1] rfl rfl
                                      refine zcall (st1 := [.int (nI (wyR (kd f).toInt n kk k))]) (va_runV (As := [.int (nI f), .int (nI kk), .int (nI k)]) (rest := []) ⟨hx, hb, hml, hown, hts⟩ (k_M_wayOf l dC dI cI cZ cF H.size k0 a (upd (upd I0 35 (nI n)) 36 (kd f)) J0 f n kk k kd (by first | with_reducible assumption | omega) (by first | with_reducible assumption | omega) (hkk) (by first | with_reducible assumption | omega)) (csV_216 hts rfl rfl ⟨Nat.le_of_ble_eq_true rfl, Nat.le_of_ble_eq_true rfl⟩) (zPV2 (q0 := 0) (ci := 9) hPc hDc hK hXN rfl rfl) rfl rfl hl.1 rfl (lv_room (Nat.le_of_ble_eq_true rfl)) dX11_shift_217 ⟨Nat.le_of_ble_eq_true rfl, Nat.le_of_ble_eq_true rfl⟩) hS hFc hFc rfl (fun t H locs ht hB hk1 hS => ?_)
                                      obtain ⟨hP1, hD1⟩ := hB
                                      rw [ht] at hP1
                                      replace hP := z0 hP hD hk1 hP1 hI1
                                      clear hk1 hPc hDc hFc hP1 hD1 ht hI1
                                      refine lv_istore (lv' := [(11, .int (nI (wyR (kd f).toInt n kk k))), (10, .int (nI k)), (9, .int 1), (7, .int 0), (8, .int 0), (6, .int 0), (0, .ref k0), (1, .int (nI f)), (2, .int (nI kk)), (3, .int dx), (4, .int dy), (5, .int (nI rr))]) hx hb dX11_shift_220 hl (Nat.le_of_ble_eq_true rfl) rfl (fun ls hl => ?_)
                                      refine lv_iload hx hb dX11_shift_222 (lv_at hl 2 rfl) ?_
                                      refine lv_if_ne (tgt := 262) hx hb dX11_shift_224 rfl (fun c_22 => ?_) (fun c_22 => ?_)
                                      · refine lv_iconst (v := 0) hx hb dX11_shift_262 rfl ?_
                                        refine lv_istore (lv' := [(12, .int 0), (11, .int (nI (wyR (kd f).toInt n kk k))), (10, .int (nI k)), (9, .int 1), (7, .int 0), (8, .int 0), (6, .int 0), (0, .ref k0), (1, .int (nI f)), (2, .int (nI kk)), (3, .int dx), (4, .int dy), (5, .int (nI rr))]) hx hb dX11_shift_263 hl (Nat.le_of_ble_eq_true rfl) rfl (fun ls hl => ?_)
                                        refine lv_iload hx hb dX11_shift_265 (lv_at hl 0 rfl) ?_
                                        refine lv_if_eq (tgt := 273) hx hb dX11_shift_267 rfl (fun c_23 => ?_) (fun c_23 => ?_)
                                        · refine lv_aload_n hx hb dX11_shift_273 rfl (lv_at hl 7 rfl) ?_
                                          refine va_get (D := (dC, dI)) (ci := 9) (v := .ref (a 12)) (C := RX11) (T := TX11) (N := 55) hx hb hts inX11 hown hK hP 0 rfl rfl 12 (Nat.le_of_ble_eq_true rfl) (hts _ mw_1171) (fun _ h9 => h9) rfl dX11_shift_274 ?_
                                          refine lv_bipush (v := 40) hx hb dX11_shift_277 rfl ?_
                                          refine lv_iload_n hx hb dX11_shift_279 rfl (lv_at hl 8 rfl) ?_
                                          refine lv_imul hx hb dX11_shift_280 ?_
                                          refine zz_i (v := nI (40 * f)) (pk_mul 40 f) ?_
                                          refine lv_iload hx hb dX11_shift_281 (lv_at hl 2 rfl) ?_
                                          refine lv_iadd hx hb dX11_shift_283 ?_
                                          refine zz_i (v := nI (40 * f + k)) (nI_add (40 * f) k) ?_
                                          refine lv_aload_n hx hb dX11_shift_284 rfl (lv_at hl 7 rfl) ?_
                                          refine va_get (D := (dC, dI)) (ci := 9) (v := .ref (a 33)) (C := RX11) (T := TX11) (N := 55) hx hb hts inX11 hown hK hP 0 rfl rfl 33 (Nat.le_of_ble_eq_true rfl) (hts _ mw_1192) (fun _ h9 => h9) rfl dX11_shift_285 ?_
                                          refine lv_iload hx hb dX11_shift_288 (lv_at hl 2 rfl) ?_
                                          have b9_24 : k < 42 := by omega
                                          refine z_iald hx hb hK hP 23 0 rfl rfl (e := k) rfl b9_24 (Nat.le_of_ble_eq_true rfl) dX11_shift_290 ?_
                                          refine zz_i (v := cF40 cx f k) ((hox _ hk9).1) ?_
                                          refine lv_iload hx hb dX11_shift_291 (lv_at hl 3 rfl) ?_
                                          refine lv_if_eq (tgt := 300) hx hb dX11_shift_293 rfl (fun c_25 => ?_) (fun c_25 => ?_)
                                          · exact absurd c_25 (by decide)
                                          · refine lv_iload_n hx hb dX11_shift_296 rfl (lv_at hl 10 rfl) ?_
                                            refine lv_goto (tgt := 314) hx hb dX11_shift_297 rfl ?_
                                            refine lv_iadd hx hb dX11_shift_314 ?_
                                            have b9_26 : 40 * f + k < 8040 := by omega
                                            refine z_iast hx hb hK hP hD hS 12 0 rfl rfl (e := 40 * f + k) (x := (cF40 cx f k) + dx) rfl b9_26 (Nat.le_of_ble_eq_true rfl) dX11_shift_315 (fun H locs hP hD hS => ?_)
                                            obtain ⟨hP, hD⟩ := zre (W2 := [_, _, _, _, _, _, _, _, _, _, _, _, (oa (a 12) cI 8040 (upd cx1 (40 * f + k) ((cF40 cx f k) + dx))), _, _, _, _, _, _, _, _, _, _, _, _, _, _, _, _, _, _, _]) hP hD rfl
                                            refine lv_aload_n hx hb dX11_shift_316 rfl (lv_at hl 7 rfl) ?_
                                            refine va_get (D := (dC, dI)) (ci := 9) (v := .ref (a 13)) (C := RX11) (T := TX11) (N := 55) hx hb hts inX11 hown hK hP 0 rfl rfl 13 (Nat.le_of_ble_eq_true rfl) (hts _ mw_1172) (fun _ h9 => h9) rfl dX11_shift_317 ?_
                                            refine lv_bipush (v := 40) hx hb dX11_shift_320 rfl ?_
                                            refine lv_iload_n hx hb dX11_shift_322 rfl (lv_at hl 8 rfl) ?_
                                            refine lv_imul hx hb dX11_shift_323 ?_
                                            refine zz_i (v := nI (40 * f)) (pk_mul 40 f) ?_
                                            refine lv_iload hx hb dX11_shift_324 (lv_at hl 2 rfl) ?_
                                            refine lv_iadd hx hb dX11_shift_326 ?_
                                            refine zz_i (v := nI (40 * f + k)) (nI_add (40 * f) k) ?_
                                            refine lv_aload_n hx hb dX11_shift_327 rfl (lv_at hl 7 rfl) ?_
                                            refine va_get (D := (dC, dI)) (ci := 9) (v := .ref (a 34)) (C := RX11) (T := TX11) (N := 55) hx hb hts inX11 hown hK hP 0 rfl rfl 34 (Nat.le_of_ble_eq_true rfl) (hts _ mw_1193) (fun _ h9 => h9) rfl dX11_shift_328 ?_
                                            refine lv_iload hx hb dX11_shift_331 (lv_at hl 2 rfl) ?_
                                            refine z_iald hx hb hK hP 24 0 rfl rfl (e := k) rfl b9_24 (Nat.le_of_ble_eq_true rfl) dX11_shift_333 ?_
                                            refine zz_i (v := cF40 cy f k) ((hox _ hk9).2) ?_
                                            refine lv_iload hx hb dX11_shift_334 (lv_at hl 3 rfl) ?_
                                            refine lv_if_eq (tgt := 344) hx hb dX11_shift_336 rfl (fun c_27 => ?_) (fun c_27 => ?_)
                                            · exact absurd c_27 (by decide)
                                            · refine lv_iload hx hb dX11_shift_339 (lv_at hl 11 rfl) ?_
                                              refine lv_goto (tgt := 359) hx hb dX11_shift_341 rfl ?_
                                              refine lv_iadd hx hb dX11_shift_359 ?_
                                              refine z_iast hx hb hK hP hD hS 13 0 rfl rfl (e := 40 * f + k) (x := (cF40 cy f k) + dy) rfl b9_26 (Nat.le_of_ble_eq_true rfl) dX11_shift_360 (fun H locs hP hD hS => ?_)
                                              obtain ⟨hP, hD⟩ := zre (W2 := [_, _, _, _, _, _, _, _, _, _, _, _, _, (oa (a 13) cI 8040 (upd cy1 (40 * f + k) ((cF40 cy f k) + dy))), _, _, _, _, _, _, _, _, _, _, _, _, _, _, _, _, _, _]) hP hD rfl
                                              refine lv_iinc (v := nI (k + 1)) (lv' := [(10, .int (nI (k + 1))), (12, .int 0), (11, .int (nI (wyR (kd f).toInt n kk k))), (9, .int 1), (7, .int 0), (8, .int 0), (6, .int 0), (0, .ref k0), (1, .int (nI f)), (2, .int (nI kk)), (3, .int dx), (4, .int dy), (5, .int (nI rr))]) hx hb dX11_shift_361 hl (k := 2) rfl (nI_add k 1) (Nat.le_of_ble_eq_true rfl) rfl (fun ls hl => ?_)
                                              refine lv_goto (tgt := 203) hx hb dX11_shift_364 rfl ?_
                                              exact ih_203 (k + 1) (upd cx1 (40 * f + k) ((cF40 cx f k) + dx)) (upd cy1 (40 * f + k) ((cF40 cy f k) + dy)) H locs ls (by first | with_reducible assumption | omega) (by first | with_reducible assumption | omega) (fgX_u hcx rfl) (fgX_u hcy rfl) hP hD hS (lv_sub hl [0, 3, 4, 5, 6, 7, 8, 9, 10, 11, 12] rfl)
                                        · exact absurd (by decide) c_23
                                      · exact absurd c_22 (by decide)
                                exact hl_203 _ 0 cx cy H locs ls (Nat.lt_succ_self _) (by first | with_reducible assumption | omega) (fgX_0 _ _ _) (fgX_0 _ _ _) hP hD hS (lv_sub hl [0, 1, 2, 3, 4, 5, 6, 7, 8, 9, 10] rfl)
                              refine lv_if_eq (tgt := 193) hx hb dX11_shift_179 rfl (fun c_28 => ?_) (fun c_28 => ?_)
                              · have c_28 : (kd f).toInt = 0 := zc_eq rfl rfl c_28
                                refine lv_iconst (v := 1) hx hb dX11_shift_193 rfl ?_
                                refine lv_goto (tgt := 198) hx hb dX11_shift_194 rfl ?_
                                exact hj_17 
                              · have c_28 : ¬ (kd f).toInt = 0 := zc_ne rfl rfl c_28
                                refine lv_aload_n hx hb dX11_shift_182 rfl (lv_at hl 3 rfl) ?_
                                refine va_get (D := (dC, dI)) (ci := 9) (v := .ref (a 1)) (C := RX11) (T := TX11) (N := 55) hx hb hts inX11 hown hK hP 0 rfl rfl 1 (Nat.le_of_ble_eq_true rfl) (hts _ mw_1160) (fun _ h9 => h9) rfl dX11_shift_183 ?_
                                refine lv_iload_n hx hb dX11_shift_186 rfl (lv_at hl 4 rfl) ?_
                                refine z_iald hx hb hK hP 1 0 rfl rfl (e := f) rfl b9_4 (Nat.le_of_ble_eq_true rfl) dX11_shift_187 ?_
                                refine lv_bipush (v := 6) hx hb dX11_shift_188 rfl ?_
                                refine lv_icmp_ne (tgt := 197) hx hb dX11_shift_190 rfl (fun c_29 => ?_) (fun c_29 => ?_)
                                · have c_29 : ¬ (kd f).toInt = 6 := zc_ne rfl rfl c_29
                                  exfalso; omega
                                · have c_29 : (kd f).toInt = 6 := zc_eq rfl rfl c_29
                                  refine lv_iconst (v := 1) hx hb dX11_shift_193 rfl ?_
                                  refine lv_goto (tgt := 198) hx hb dX11_shift_194 rfl ?_
                                  exact hj_17 
                            · exact absurd (by decide) c_16
                          · have c_15 : ¬ (tn f).toInt = 0 := zc_ne rfl rfl c_15
                            exfalso; omega
                        · exact absurd (by decide) c_14
                      · exact absurd (by decide) c_13
                    · have c_12 : 20 < ((rr : Nat) : Int) := zc_nle (nI_toInt b9_11) rfl c_12
                      exfalso; omega
        · have c_5 : ¬ (st f).toInt = 1 := zc_ne rfl rfl c_5
          exfalso; omega
      · exact absurd (by decide) c_3
  · have c_1 : f < ft := zp_1 c_1
    refine lv_aload_n hx hb dX11_shift_8 rfl (lv_at hl 0 rfl) ?_
    refine va_get (D := (dC, dI)) (ci := 9) (v := .ref (a 6)) (C := RX11) (T := TX11) (N := 55) hx hb hts inX11 hown hK hP 0 rfl rfl 6 (Nat.le_of_ble_eq_true rfl) (hts _ mw_1165) (fun _ h9 => h9) rfl dX11_shift_9 ?_
    refine lv_iload_n hx hb dX11_shift_12 rfl (lv_at hl 1 rfl) ?_
    have b9_30 : f < 201 := by omega
    refine z_zald hx hb hK hP 10 1 rfl rfl (e := f) rfl b9_30 (Nat.le_of_ble_eq_true rfl) dX11_shift_13 ?_
    refine lv_if_ne (tgt := 35) hx hb dX11_shift_14 rfl (fun c_31 => ?_) (fun c_31 => ?_)
    · have c_31 : ¬ (tn f).toInt = 0 := zc_ne rfl rfl c_31
      refine lv_iconst (v := 0) hx hb dX11_shift_35 rfl ?_
      refine lv_istore (lv' := [(6, .int 0), (0, .ref k0), (1, .int (nI f)), (2, .int (nI kk)), (3, .int dx), (4, .int dy), (5, .int (nI rr))]) hx hb dX11_shift_36 hl (Nat.le_of_ble_eq_true rfl) rfl (fun ls hl => ?_)
      refine lv_aload_n hx hb dX11_shift_38 rfl (lv_at hl 1 rfl) ?_
      refine lv_iload_n hx hb dX11_shift_39 rfl (lv_at hl 2 rfl) ?_
      obtain ⟨hPc, hDc, hFc, hI1⟩ := zi_sub (wc := [_]) hP hD hS hA [0] rfl rfl
      refine zcall (st1 := [.int (pI (f < ft))]) (va_runV (As := [.int (nI f)]) (rest := []) ⟨hx, hb, hml, hown, hts⟩ (k_M_isFeature_n l dC dI cI cZ cF H.size k0 a I0 J0 f ft (by first | with_reducible assumption | assumption) (by first | with_reducible assumption | omega) (by first | with_reducible assumption | omega)) (csV_178 hts rfl rfl ⟨Nat.le_of_ble_eq_true rfl, Nat.le_of_ble_eq_true rfl⟩) (zPV2 (q0 := 0) (ci := 9) hPc hDc hK hXN rfl rfl) rfl rfl hl.1 rfl (lv_room (Nat.le_of_ble_eq_true rfl)) dX11_shift_40 ⟨Nat.le_of_ble_eq_true rfl, Nat.le_of_ble_eq_true rfl⟩) hS hFc hFc rfl (fun t H locs ht hB hk1 hS => ?_)
      obtain ⟨hP1, hD1⟩ := hB
      rw [ht] at hP1
      replace hP := z0 hP hD hk1 hP1 hI1
      clear hk1 hPc hDc hFc hP1 hD1 ht hI1
      refine lv_if_eq (tgt := 51) hx hb dX11_shift_43 rfl (fun c_32 => ?_) (fun c_32 => ?_)
      · have c_32 : ¬ (f < ft) := zp_0 c_32
        exfalso; omega
      · have c_32 : f < ft := zp_1 c_32
        refine lv_iload hx hb dX11_shift_46 (lv_at hl 0 rfl) ?_
        refine lv_if_eq (tgt := 55) hx hb dX11_shift_48 rfl (fun c_33 => ?_) (fun c_33 => ?_)
        · refine lv_aload_n hx hb dX11_shift_55 rfl (lv_at hl 1 rfl) ?_
          refine va_get (D := (dC, dI)) (ci := 9) (v := .ref (a 5)) (C := RX11) (T := TX11) (N := 55) hx hb hts inX11 hown hK hP 0 rfl rfl 5 (Nat.le_of_ble_eq_true rfl) (hts _ mw_1164) (fun _ h9 => h9) rfl dX11_shift_56 ?_
          refine lv_iload_n hx hb dX11_shift_59 rfl (lv_at hl 2 rfl) ?_
          refine z_iald hx hb hK hP 2 0 rfl rfl (e := f) rfl b9_30 (Nat.le_of_ble_eq_true rfl) dX11_shift_60 ?_
          refine lv_iconst (v := 1) hx hb dX11_shift_61 rfl ?_
          refine lv_icmp_eq (tgt := 69) hx hb dX11_shift_62 rfl (fun c_34 => ?_) (fun c_34 => ?_)
          · have c_34 : (st f).toInt = 1 := zc_eq rfl rfl c_34
            refine lv_iconst (v := 0) hx hb dX11_shift_69 rfl ?_
            refine lv_istore (lv' := [(7, .int 0), (6, .int 0), (0, .ref k0), (1, .int (nI f)), (2, .int (nI kk)), (3, .int dx), (4, .int dy), (5, .int (nI rr))]) hx hb dX11_shift_70 hl (Nat.le_of_ble_eq_true rfl) rfl (fun ls hl => ?_)
            refine lv_iload_n hx hb dX11_shift_72 rfl (lv_at hl 5 rfl) ?_
            refine lv_sipush (v := (-200)) hx hb dX11_shift_73 rfl ?_
            refine lv_icmp_lt (tgt := 114) hx hb dX11_shift_76 rfl (fun c_35 => ?_) (fun c_35 => ?_)
            · have c_35 : dx.toInt < (-200) := zc_lt rfl rfl c_35
              exfalso; omega
            · have c_35 : (-200) ≤ dx.toInt := zc_nlt rfl rfl c_35
              refine lv_iload_n hx hb dX11_shift_79 rfl (lv_at hl 5 rfl) ?_
              refine lv_sipush (v := 200) hx hb dX11_shift_80 rfl ?_
              refine lv_icmp_gt (tgt := 114) hx hb dX11_shift_83 rfl (fun c_36 => ?_) (fun c_36 => ?_)
              · have c_36 : 200 < dx.toInt := zc_lt rfl rfl c_36
                exfalso; omega
              · have c_36 : dx.toInt ≤ 200 := zc_nlt rfl rfl c_36
                refine lv_iload hx hb dX11_shift_86 (lv_at hl 6 rfl) ?_
                refine lv_sipush (v := (-200)) hx hb dX11_shift_88 rfl ?_
                refine lv_icmp_lt (tgt := 114) hx hb dX11_shift_91 rfl (fun c_37 => ?_) (fun c_37 => ?_)
                · have c_37 : dy.toInt < (-200) := zc_lt rfl rfl c_37
                  exfalso; omega
                · have c_37 : (-200) ≤ dy.toInt := zc_nlt rfl rfl c_37
                  refine lv_iload hx hb dX11_shift_94 (lv_at hl 6 rfl) ?_
                  refine lv_sipush (v := 200) hx hb dX11_shift_96 rfl ?_
                  refine lv_icmp_gt (tgt := 114) hx hb dX11_shift_99 rfl (fun c_38 => ?_) (fun c_38 => ?_)
                  · have c_38 : 200 < dy.toInt := zc_lt rfl rfl c_38
                    exfalso; omega
                  · have c_38 : dy.toInt ≤ 200 := zc_nlt rfl rfl c_38
                    refine lv_iload hx hb dX11_shift_102 (lv_at hl 7 rfl) ?_
                    have b9_40 : zlt (rr) := show rr < 2147483648 by omega
                    refine lv_if_lt (tgt := 114) hx hb dX11_shift_104 rfl (fun c_39 => ?_) (fun c_39 => ?_)
                    · have c_39 : ((rr : Nat) : Int) < 0 := zc_lt (nI_toInt b9_40) rfl c_39
                      exfalso; omega
                    · have c_39 : 0 ≤ ((rr : Nat) : Int) := zc_nlt (nI_toInt b9_40) rfl c_39
                      refine lv_iload hx hb dX11_shift_107 (lv_at hl 7 rfl) ?_
                      refine lv_bipush (v := 20) hx hb dX11_shift_109 rfl ?_
                      refine lv_icmp_le (tgt := 118) hx hb dX11_shift_111 rfl (fun c_41 => ?_) (fun c_41 => ?_)
                      · have c_41 : ((rr : Nat) : Int) ≤ 20 := zc_le (nI_toInt b9_40) rfl c_41
                        refine lv_iconst (v := 0) hx hb dX11_shift_118 rfl ?_
                        refine lv_istore (lv' := [(8, .int 0), (7, .int 0), (6, .int 0), (0, .ref k0), (1, .int (nI f)), (2, .int (nI kk)), (3, .int dx), (4, .int dy), (5, .int (nI rr))]) hx hb dX11_shift_119 hl (Nat.le_of_ble_eq_true rfl) rfl (fun ls hl => ?_)
                        refine lv_iload hx hb dX11_shift_121 (lv_at hl 1 rfl) ?_
                        refine lv_if_le (tgt := 131) hx hb dX11_shift_123 rfl (fun c_42 => ?_) (fun c_42 => ?_)
                        · refine lv_iload hx hb dX11_shift_131 (lv_at hl 0 rfl) ?_
                          refine lv_if_eq (tgt := 140) hx hb dX11_shift_133 rfl (fun c_43 => ?_) (fun c_43 => ?_)
                          · refine lv_aload_n hx hb dX11_shift_140 rfl (lv_at hl 3 rfl) ?_
                            refine va_get (D := (dC, dI)) (ci := 9) (v := .ref (a 6)) (C := RX11) (T := TX11) (N := 55) hx hb hts inX11 hown hK hP 0 rfl rfl 6 (Nat.le_of_ble_eq_true rfl) (hts _ mw_1165) (fun _ h9 => h9) rfl dX11_shift_141 ?_
                            refine lv_iload_n hx hb dX11_shift_144 rfl (lv_at hl 4 rfl) ?_
                            refine z_zald hx hb hK hP 10 1 rfl rfl (e := f) rfl b9_30 (Nat.le_of_ble_eq_true rfl) dX11_shift_145 ?_
                            refine lv_if_eq (tgt := 153) hx hb dX11_shift_146 rfl (fun c_44 => ?_) (fun c_44 => ?_)
                            · have c_44 : (tn f).toInt = 0 := zc_eq rfl rfl c_44
                              refine lv_iconst (v := 0) hx hb dX11_shift_153 rfl ?_
                              refine lv_istore (lv' := [(7, .int 0), (8, .int 0), (6, .int 0), (0, .ref k0), (1, .int (nI f)), (2, .int (nI kk)), (3, .int dx), (4, .int dy), (5, .int (nI rr))]) hx hb dX11_shift_154 hl (Nat.le_of_ble_eq_true rfl) rfl (fun ls hl => ?_)
                              refine lv_iload hx hb dX11_shift_156 (lv_at hl 0 rfl) ?_
                              refine lv_if_le (tgt := 168) hx hb dX11_shift_158 rfl (fun c_45 => ?_) (fun c_45 => ?_)
                              · refine lv_aload_n hx hb dX11_shift_168 rfl (lv_at hl 3 rfl) ?_
                                refine lv_iload_n hx hb dX11_shift_169 rfl (lv_at hl 4 rfl) ?_
                                obtain ⟨hPc, hDc, hFc⟩ := zo_sub (wc := [_, _, _, _, _, _, _, _, _, _, _, _, _]) hP hD hS hA [0, 2, 10, 1, 11, 12, 13, 19, 23, 24, 25, 26, 27] (by decide +kernel) rfl
                                refine zcall (st1 := []) (va_runV (As := [.int (nI f)]) (rest := []) ⟨hx, hb, hml, hown, hts⟩ (k_M_remember l dC dI cI cZ cF H.size k0 a I0 J0 f n ft st tn kd mn cx cy S0 ox oy mt wi ins (by first | with_reducible assumption | assumption) (by first | with_reducible assumption | omega) (by first | with_reducible assumption | omega) (by first | with_reducible assumption | assumption) (by first | with_reducible assumption | omega) (by first | with_reducible assumption | assumption) (fun q h1 _ => hwf q h1)) (csV_190 hts rfl rfl ⟨Nat.le_of_ble_eq_true rfl, Nat.le_of_ble_eq_true rfl⟩) (zPV2 (q0 := 0) (ci := 9) hPc hDc hK hXN rfl rfl) rfl rfl hl.1 rfl (lv_room (Nat.le_of_ble_eq_true rfl)) dX11_shift_170 ⟨Nat.le_of_ble_eq_true rfl, Nat.le_of_ble_eq_true rfl⟩) hS hFc hFc rfl (fun t H locs ht hB hk1 hS => ?_)
                                refine ex6 hB (fun S1 ox1 oy1 mt1 wi1 ins1 hB0 => ?_)
                                clear hB
                                obtain ⟨hox, hmt, hwi, hin, hP1, hD1⟩ := hB0
                                rw [ht] at hP1
                                obtain ⟨hP, hD⟩ := zn (W2 := [(om k0 a (upd (upd I0 35 (nI n)) 36 (kd f)) J0), _, _, _, _, _, _, _, _, _, _, _, _, _, _, _, _, _, _, (oa (a 32) cI 8 S1), _, _, _, (oa (a 33) cI 42 ox1), (oa (a 34) cI 42 oy1), (oa (a 37) cZ 201 mt1), (oa (a 38) cZ 201 wi1), (oa (a 39) cZ 8040 ins1), _, _, _, _]) hP hD hk1 hFc hP1 hD1 zl_194 zl_195 zl_195 zl_194 (by decide +kernel) rfl rfl rfl rfl rfl
                                clear hk1 hPc hDc hFc hP1 hD1 ht
                                refine lv_aload_n hx hb dX11_shift_173 rfl (lv_at hl 3 rfl) ?_
                                refine va_get (D := (dC, dI)) (ci := 9) (v := .ref (a 1)) (C := RX11) (T := TX11) (N := 55) hx hb hts inX11 hown hK hP 0 rfl rfl 1 (Nat.le_of_ble_eq_true rfl) (hts _ mw_1160) (fun _ h9 => h9) rfl dX11_shift_174 ?_
                                refine lv_iload_n hx hb dX11_shift_177 rfl (lv_at hl 4 rfl) ?_
                                refine z_iald hx hb hK hP 1 0 rfl rfl (e := f) rfl b9_30 (Nat.le_of_ble_eq_true rfl) dX11_shift_178 ?_
                                have hj_46 : W p l e ({ frames := 8, cells := 0, slots := 0, locals := 210 } : Room) s m ([.ref k0, .int (nI f), .int (nI kk), .int dx, .int dy, .int (nI rr)] : List Value).toArray below meth c H locs 0 0 Q9 (F0 m 198 ls [.int 1]) := by
                                  refine lv_istore (lv' := [(9, .int 1), (7, .int 0), (8, .int 0), (6, .int 0), (0, .ref k0), (1, .int (nI f)), (2, .int (nI kk)), (3, .int dx), (4, .int dy), (5, .int (nI rr))]) hx hb dX11_shift_198 hl (Nat.le_of_ble_eq_true rfl) rfl (fun ls hl => ?_)
                                  refine lv_iconst (v := 0) hx hb dX11_shift_200 rfl ?_
                                  refine lv_istore (lv' := [(10, .int 0), (9, .int 1), (7, .int 0), (8, .int 0), (6, .int 0), (0, .ref k0), (1, .int (nI f)), (2, .int (nI kk)), (3, .int dx), (4, .int dy), (5, .int (nI rr))]) hx hb dX11_shift_201 hl (Nat.le_of_ble_eq_true rfl) rfl (fun ls hl => ?_)
                                  have hl_203 : ∀ (n9 : Nat) (k : Nat) (cx1 : Nat → Int32) (cy1 : Nat → Int32) (H : Heap) (locs : List Loc) (ls : Array Slot), n - k < n9 → (k ≤ n) → (cx1 = fgX f k (fun i => cF40 cx f i + dx) cx) → (cy1 = fgX f k (fun i => cF40 cy f i + dy) cy) → va_P (dC, dI) classes [(om k0 a (upd (upd I0 35 (nI n)) 36 (kd f)) J0), (oa (a 1) cI 201 kd), (oa (a 5) cI 201 st), (oa (a 7) cI 201 gb), (oa (a 10) cI 201 it), (oa (a 8) cI 201 pa), (oa (a 9) cI 201 pb), (oa (a 2) cI 201 rk), (oa (a 3) cI 201 wd), (oa (a 4) cI 201 tw), (oa (a 6) cZ 201 tn), (oa (a 11) cI 201 mn), (oa (a 12) cI 8040 cx1), (oa (a 13) cI 8040 cy1), (oa (a 27) cI 516 sa), (oa (a 28) cI (4096 * cp) sh), (oa (a 16) cI 514 wh), (oa (a 17) cI 514 of9), (oa (a 18) cI 514 we), (oa (a 32) cI 8 S1), (oa (a 40) cI 6 T0), (oa (a 29) cI 42 P0), (oa (a 30) cI 42 Q0), (oa (a 33) cI 42 ox1), (oa (a 34) cI 42 oy1), (oa (a 37) cZ 201 mt1), (oa (a 38) cZ 201 wi1), (oa (a 39) cZ 8040 ins1), (oa (a 22) cI (64 * cl) la), (oa (a 23) cI (64 * cl) lb), (oa (a 24) cI (64 * cl) lc), (oa (a 25) cI (64 * cl) ld)] H → va_D A [(om k0 a (upd (upd I0 35 (nI n)) 36 (kd f)) J0), (oa (a 1) cI 201 kd), (oa (a 5) cI 201 st), (oa (a 7) cI 201 gb), (oa (a 10) cI 201 it), (oa (a 8) cI 201 pa), (oa (a 9) cI 201 pb), (oa (a 2) cI 201 rk), (oa (a 3) cI 201 wd), (oa (a 4) cI 201 tw), (oa (a 6) cZ 201 tn), (oa (a 11) cI 201 mn), (oa (a 12) cI 8040 cx1), (oa (a 13) cI 8040 cy1), (oa (a 27) cI 516 sa), (oa (a 28) cI (4096 * cp) sh), (oa (a 16) cI 514 wh), (oa (a 17) cI 514 of9), (oa (a 18) cI 514 we), (oa (a 32) cI 8 S1), (oa (a 40) cI 6 T0), (oa (a 29) cI 42 P0), (oa (a 30) cI 42 Q0), (oa (a 33) cI 42 ox1), (oa (a 34) cI 42 oy1), (oa (a 37) cZ 201 mt1), (oa (a 38) cZ 201 wi1), (oa (a 39) cZ 8040 ins1), (oa (a 22) cI (64 * cl) la), (oa (a 23) cI (64 * cl) lb), (oa (a 24) cI (64 * cl) lc), (oa (a 25) cI (64 * cl) ld)] → va_S A s.heap H locs → lv_has ls 13 [(10, .int (nI k)), (9, .int 1), (7, .int 0), (8, .int 0), (6, .int 0), (0, .ref k0), (1, .int (nI f)), (2, .int (nI kk)), (3, .int dx), (4, .int dy), (5, .int (nI rr))] → W p l e ({ frames := 8, cells := 0, slots := 0, locals := 210 } : Room) s m ([.ref k0, .int (nI f), .int (nI kk), .int dx, .int dy, .int (nI rr)] : List Value).toArray below meth c H locs 0 0 Q9 (F0 m 203 ls []) := by
                                    intro n9
                                    induction n9 with
                                    | zero => intro k cx1 cy1 H locs ls hm; exact absurd hm (Nat.not_lt_zero _)
                                    | succ n9 ih_203 =>
                                      intro k cx1 cy1 H locs ls hm hk hcx hcy hP hD hS hl
                                      refine lv_iload hx hb dX11_shift_203 (lv_at hl 0 rfl) ?_
                                      refine lv_aload_n hx hb dX11_shift_205 rfl (lv_at hl 5 rfl) ?_
                                      refine va_get (D := (dC, dI)) (ci := 9) (v := .int (nI n)) (C := RX11) (T := TX11) (N := 55) hx hb hts inX11 hown hK hP 0 rfl rfl 35 (Nat.le_of_ble_eq_true rfl) (hts _ mw_1194) (fun _ h9 => h9) rfl dX11_shift_206 ?_
                                      have b9_48 : zlt (k) := show k < 2147483648 by omega
                                      have b9_49 : zlt (n) := show n < 2147483648 by omega
                                      refine lv_icmp_ge (tgt := 367) hx hb dX11_shift_209 rfl (fun c_47 => ?_) (fun c_47 => ?_)
                                      · have c_47 : ((n : Nat) : Int) ≤ ((k : Nat) : Int) := zc_le (nI_toInt b9_49) (nI_toInt b9_48) c_47
                                        have hkn : k = n := (by omega)
                                        rw [hkn] at hcx hcy
                                        refine lv_aload_n hx hb dX11_shift_367 rfl (lv_at hl 5 rfl) ?_
                                        refine lv_iload_n hx hb dX11_shift_368 rfl (lv_at hl 6 rfl) ?_
                                        obtain ⟨hPc, hDc, hFc, hI1⟩ := zi_sub (wc := [_, _, _, _, _]) hP hD hS hA [0, 12, 13, 23, 24] (by decide +kernel) rfl
                                        refine zcall (st1 := [.int (pI (∃ k, k < n ∧ ¬ ((cx1 (40 * f + k)).toInt = (ox1 k).toInt ∧ (cy1 (40 * f + k)).toInt = (oy1 k).toInt)))]) (va_runV (As := [.int (nI f)]) (rest := []) ⟨hx, hb, hml, hown, hts⟩ (k_M_moves l dC dI cI cZ cF H.size k0 a (upd (upd I0 35 (nI n)) 36 (kd f)) J0 f n cx1 cy1 ox1 oy1 (by first | with_reducible assumption | omega) (rfl) (by first | with_reducible assumption | omega)) (csV_211 hts rfl rfl ⟨Nat.le_of_ble_eq_true rfl, Nat.le_of_ble_eq_true rfl⟩) (zPV2 (q0 := 0) (ci := 9) hPc hDc hK hXN rfl rfl) rfl rfl hl.1 rfl (lv_room (Nat.le_of_ble_eq_true rfl)) dX11_shift_369 ⟨Nat.le_of_ble_eq_true rfl, Nat.le_of_ble_eq_true rfl⟩) hS hFc hFc rfl (fun t H locs ht hB hk1 hS => ?_)
                                        obtain ⟨hP1, hD1⟩ := hB
                                        rw [ht] at hP1
                                        replace hP := z0 hP hD hk1 hP1 hI1
                                        clear hk1 hPc hDc hFc hP1 hD1 ht hI1
                                        refine zz_i (v := pI (mvd n (fun i => cF40 cx f i + dx) (fun i => cF40 cy f i + dy) (cF40 cx f) (cF40 cy f))) (zp_iff (mv_iff hcx hcy hox)) ?_
                                        refine lv_if_ne (tgt := 382) hx hb dX11_shift_372 rfl (fun c_50 => ?_) (fun c_50 => ?_)
                                        · have c_50 : mvd n (fun i => cF40 cx f i + dx) (fun i => cF40 cy f i + dy) (cF40 cx f) (cF40 cy f) := zp_1 c_50
                                          refine lv_aload_n hx hb dX11_shift_382 rfl (lv_at hl 5 rfl) ?_
                                          refine lv_iload_n hx hb dX11_shift_383 rfl (lv_at hl 6 rfl) ?_
                                          refine lv_iconst (v := 3) hx hb dX11_shift_384 rfl ?_
                                          refine zz_i (v := nI 3) (rfl) ?_
                                          have hbx : fgX f n ox1 cx1 = cx := (by rw [hcx]; exact fgX_back (fun k9 h9 => (hox k9 h9).1))
                                          have hby : fgX f n oy1 cy1 = cy := (by rw [hcy]; exact fgX_back (fun k9 h9 => (hox k9 h9).2))
                                          have hlq := lwM_eq (ft := ft) (st := st) (tn := tn) (kd := kd) (mn := mn) hn_f.1 hcx hcy hox
                                          have hpo : pls n ox1 oy1 := fun j hj => by rw [(hox j hj).1, (hox j hj).2]; exact hp_f j hj
                                          have hwf2 : ∀ q, lvF ft st tn q → q ≠ f → wfM mn cx1 cy1 q := fun q h1 h2 => wfM_o (hwf q h1) h2 (fun _ _ => rfl) (fun j hj => by rw [hcx, hcy]; exact ⟨fgX_o (by omega), fgX_o (by omega)⟩)
                                          obtain ⟨hPc, hDc, hFc⟩ := zo_sub (wc := [_, _, _, _, _, _, _, _, _, _, _, _, _, _, _, _, _, _, _, _, _, _, _, _, _, _, _, _, _, _, _, _]) hP hD hS hA [0, 1, 2, 3, 4, 5, 6, 7, 8, 9, 10, 11, 12, 13, 14, 15, 16, 17, 18, 19, 20, 21, 22, 23, 24, 25, 26, 27, 28, 29, 30, 31] (by decide +kernel) rfl
                                          refine zcall (st1 := [.int 0]) (va_runV (As := [.int (nI f), .int (nI 3)]) (rest := []) ⟨hx, hb, hml, hown, hts⟩ (k_M_changes_mn l dC dI cI cZ cF H.size k0 a (upd (upd I0 35 (nI n)) 36 (kd f)) J0 f n ft n (kd f) 3 kd st gb it pa pb rk wd tw tn mn cx1 cy1 sa sh wh of9 we S1 T0 P0 Q0 ox1 oy1 mt1 wi1 ins1 la lb lc ld (bMt kd mn cx cy f n) (bWi kd mn cx cy f) (bIn kd cx cy f n) cp cl (hft) (by first | with_reducible assumption | omega) (by first | with_reducible assumption | omega) (hm_f) (by first | with_reducible assumption | omega) (hwf2) (by first | with_reducible assumption | omega) (by first | with_reducible assumption | omega) (hpo) (hmt) (fun q h1 h2 h5 => by rw [hwi q h1 h2]; exact zp_iff ⟨fun h => h.2, fun h => ⟨h5, h⟩⟩) (fun q h1 h2 i hi h5 => hin q h1 h2 h5 i hi) (by first | with_reducible assumption | omega) (rfl) (hft_f) (by rw [hlq]; exact hlaw)) (csV_212 hts rfl rfl ⟨Nat.le_of_ble_eq_true rfl, Nat.le_of_ble_eq_true rfl⟩) (zPV2 (q0 := 0) (ci := 9) hPc hDc hK hXN rfl rfl) rfl rfl hl.1 rfl (lv_room (Nat.le_of_ble_eq_true rfl)) dX11_shift_385 ⟨Nat.le_of_ble_eq_true rfl, Nat.le_of_ble_eq_true rfl⟩) hS hFc hFc rfl (fun t H locs ht hB hk1 hS => ?_)
                                          obtain ⟨z8, S2, T2, P2, Q2, hP1, hD1⟩ := hB
                                          rw [ht] at hP1
                                          obtain ⟨hP, hD⟩ := zn (W2 := [(om k0 a (upd (upd (upd (upd (upd I0 14 7) 15 (I0 15 + 1)) 31 z8) 35 (nI n)) 36 (kd f)) J0), (oa (a 1) cI 201 (upd kd f (kd f))), _, _, _, _, _, _, _, _, _, (oa (a 11) cI 201 (upd mn f (nI n))), (oa (a 12) cI 8040 (fgX f n ox1 cx1)), (oa (a 13) cI 8040 (fgX f n oy1 cy1)), _, _, _, _, _, (oa (a 32) cI 8 S2), (oa (a 40) cI 6 T2), (oa (a 29) cI 42 P2), (oa (a 30) cI 42 Q2), _, _, _, _, _, _, _, _, _]) hP hD hk1 hFc hP1 hD1 zl_196 [] zl_197 zl_196 (by decide +kernel) rfl rfl rfl rfl rfl
                                          clear hk1 hPc hDc hFc hP1 hD1 ht
                                          obtain ⟨hP9, hD9⟩ := zu_sub (wc := [(om k0 a (upd (upd (upd (upd (upd I0 14 7) 15 (I0 15 + 1)) 31 z8) 35 (nI n)) 36 (kd f)) J0), (oa (a 1) cI 201 (upd kd f (kd f))), (oa (a 5) cI 201 st), (oa (a 7) cI 201 gb), (oa (a 10) cI 201 it), (oa (a 8) cI 201 pa), (oa (a 9) cI 201 pb), (oa (a 2) cI 201 rk), (oa (a 3) cI 201 wd), (oa (a 4) cI 201 tw), (oa (a 6) cZ 201 tn), (oa (a 11) cI 201 (upd mn f (nI n))), (oa (a 12) cI 8040 (fgX f n ox1 cx1)), (oa (a 13) cI 8040 (fgX f n oy1 cy1)), (oa (a 27) cI 516 sa), (oa (a 28) cI (4096 * cp) sh), (oa (a 16) cI 514 wh), (oa (a 17) cI 514 of9), (oa (a 18) cI 514 we), (oa (a 32) cI 8 S2), (oa (a 40) cI 6 T2), (oa (a 29) cI 42 P2), (oa (a 30) cI 42 Q2), (oa (a 33) cI 42 ox1), (oa (a 34) cI 42 oy1), (oa (a 37) cZ 201 mt1), (oa (a 38) cZ 201 wi1), (oa (a 39) cZ 8040 ins1), (oa (a 22) cI (64 * cl) la), (oa (a 23) cI (64 * cl) lb), (oa (a 24) cI (64 * cl) lc), (oa (a 25) cI (64 * cl) ld)]) hP hD (true :: true :: true :: true :: true :: true :: true :: true :: true :: true :: true :: true :: true :: true :: true :: true :: true :: true :: true :: true :: true :: true :: true :: true :: true :: true :: true :: true :: true :: true :: true :: true :: []) rfl rfl
                                          have hE9 : ([(om k0 a (upd (upd (upd (upd (upd I0 14 7) 15 (I0 15 + 1)) 31 z8) 35 (nI n)) 36 (kd f)) J0), (oa (a 1) cI 201 (upd kd f (kd f))), (oa (a 5) cI 201 st), (oa (a 7) cI 201 gb), (oa (a 10) cI 201 it), (oa (a 8) cI 201 pa), (oa (a 9) cI 201 pb), (oa (a 2) cI 201 rk), (oa (a 3) cI 201 wd), (oa (a 4) cI 201 tw), (oa (a 6) cZ 201 tn), (oa (a 11) cI 201 (upd mn f (nI n))), (oa (a 12) cI 8040 (fgX f n ox1 cx1)), (oa (a 13) cI 8040 (fgX f n oy1 cy1)), (oa (a 27) cI 516 sa), (oa (a 28) cI (4096 * cp) sh), (oa (a 16) cI 514 wh), (oa (a 17) cI 514 of9), (oa (a 18) cI 514 we), (oa (a 32) cI 8 S2), (oa (a 40) cI 6 T2), (oa (a 29) cI 42 P2), (oa (a 30) cI 42 Q2), (oa (a 33) cI 42 ox1), (oa (a 34) cI 42 oy1), (oa (a 37) cZ 201 mt1), (oa (a 38) cZ 201 wi1), (oa (a 39) cZ 8040 ins1), (oa (a 22) cI (64 * cl) la), (oa (a 23) cI (64 * cl) lb), (oa (a 24) cI (64 * cl) lc), (oa (a 25) cI (64 * cl) ld)] : va_W) = [(om k0 a (upd (upd (upd (upd (upd I0 14 7) 15 (I0 15 + 1)) 31 z8) 35 (nI n)) 36 (kd f)) J0), (oa (a 1) cI 201 kd), (oa (a 5) cI 201 st), (oa (a 7) cI 201 gb), (oa (a 10) cI 201 it), (oa (a 8) cI 201 pa), (oa (a 9) cI 201 pb), (oa (a 2) cI 201 rk), (oa (a 3) cI 201 wd), (oa (a 4) cI 201 tw), (oa (a 6) cZ 201 tn), (oa (a 11) cI 201 mn), (oa (a 12) cI 8040 cx), (oa (a 13) cI 8040 cy), (oa (a 27) cI 516 sa), (oa (a 28) cI (4096 * cp) sh), (oa (a 16) cI 514 wh), (oa (a 17) cI 514 of9), (oa (a 18) cI 514 we), (oa (a 32) cI 8 S2), (oa (a 40) cI 6 T2), (oa (a 29) cI 42 P2), (oa (a 30) cI 42 Q2), (oa (a 33) cI 42 ox1), (oa (a 34) cI 42 oy1), (oa (a 37) cZ 201 mt1), (oa (a 38) cZ 201 wi1), (oa (a 39) cZ 8040 ins1), (oa (a 22) cI (64 * cl) la), (oa (a 23) cI (64 * cl) lb), (oa (a 24) cI (64 * cl) lc), (oa (a 25) cI (64 * cl) ld)] := by rw [hum, huk, hbx, hby]
                                          rw [hE9] at hP9 hD9
                                          rw [hQ9]
                                          exact W.zret (ty := .boolean) (v := 0) hx hb hr (rfl) (fun t ht hW => ⟨⟨rfl, z8, S2, T2, P2, Q2, ox1, oy1, mt1, wi1, ins1, by rw [ht]; exact hP9, hD9⟩, hS.F ht⟩) hS.2.2 dX11_shift_388
                                        · have c_50 : ¬ (mvd n (fun i => cF40 cx f i + dx) (fun i => cF40 cy f i + dy) (cF40 cx f) (cF40 cy f)) := zp_0 c_50
                                          exfalso; exact absurd hmv (by first | with_reducible assumption | assumption)
                                      · have c_47 : ((k : Nat) : Int) < ((n : Nat) : Int) := zc_nle (nI_toInt b9_49) (nI_toInt b9_48) c_47
                                        have hk9 : k < n := (by omega)
                                        refine lv_aload_n hx hb dX11_shift_212 rfl (lv_at hl 5 rfl) ?_
                                        refine lv_iload_n hx hb dX11_shift_213 rfl (lv_at hl 6 rfl) ?_
                                        refine lv_iload_n hx hb dX11_shift_214 rfl (lv_at hl 7 rfl) ?_
                                        refine lv_iload hx hb dX11_shift_215 (lv_at hl 0 rfl) ?_
                                        obtain ⟨hPc, hDc, hFc, hI1⟩ := zi_sub (wc := [_, _]) hP hD hS hA [0, 1] rfl rfl
                                        refine zcall (st1 := [.int (nI (wyR (kd f).toInt n kk k))]) (va_runV (As := [.int (nI f), .int (nI kk), .int (nI k)]) (rest := []) ⟨hx, hb, hml, hown, hts⟩ (k_M_wayOf l dC dI cI cZ cF H.size k0 a (upd (upd I0 35 (nI n)) 36 (kd f)) J0 f n kk k kd (by first | with_reducible assumption | omega) (by first | with_reducible assumption | omega) (hkk) (by first | with_reducible assumption | omega)) (csV_216 hts rfl rfl ⟨Nat.le_of_ble_eq_true rfl, Nat.le_of_ble_eq_true rfl⟩) (zPV2 (q0 := 0) (ci := 9) hPc hDc hK hXN rfl rfl) rfl rfl hl.1 rfl (lv_room (Nat.le_of_ble_eq_true rfl)) dX11_shift_217 ⟨Nat.le_of_ble_eq_true rfl, Nat.le_of_ble_eq_true rfl⟩) hS hFc hFc rfl (fun t H locs ht hB hk1 hS => ?_)
                                        obtain ⟨hP1, hD1⟩ := hB
                                        rw [ht] at hP1
                                        replace hP := z0 hP hD hk1 hP1 hI1
                                        clear hk1 hPc hDc hFc hP1 hD1 ht hI1
                                        refine lv_istore (lv' := [(11, .int (nI (wyR (kd f).toInt n kk k))), (10, .int (nI k)), (9, .int 1), (7, .int 0), (8, .int 0), (6, .int 0), (0, .ref k0), (1, .int (nI f)), (2, .int (nI kk)), (3, .int dx), (4, .int dy), (5, .int (nI rr))]) hx hb dX11_shift_220 hl (Nat.le_of_ble_eq_true rfl) rfl (fun ls hl => ?_)
                                        refine lv_iload hx hb dX11_shift_222 (lv_at hl 2 rfl) ?_
                                        refine lv_if_ne (tgt := 262) hx hb dX11_shift_224 rfl (fun c_51 => ?_) (fun c_51 => ?_)
                                        · refine lv_iconst (v := 0) hx hb dX11_shift_262 rfl ?_
                                          refine lv_istore (lv' := [(12, .int 0), (11, .int (nI (wyR (kd f).toInt n kk k))), (10, .int (nI k)), (9, .int 1), (7, .int 0), (8, .int 0), (6, .int 0), (0, .ref k0), (1, .int (nI f)), (2, .int (nI kk)), (3, .int dx), (4, .int dy), (5, .int (nI rr))]) hx hb dX11_shift_263 hl (Nat.le_of_ble_eq_true rfl) rfl (fun ls hl => ?_)
                                          refine lv_iload hx hb dX11_shift_265 (lv_at hl 0 rfl) ?_
                                          refine lv_if_eq (tgt := 273) hx hb dX11_shift_267 rfl (fun c_52 => ?_) (fun c_52 => ?_)
                                          · refine lv_aload_n hx hb dX11_shift_273 rfl (lv_at hl 7 rfl) ?_
                                            refine va_get (D := (dC, dI)) (ci := 9) (v := .ref (a 12)) (C := RX11) (T := TX11) (N := 55) hx hb hts inX11 hown hK hP 0 rfl rfl 12 (Nat.le_of_ble_eq_true rfl) (hts _ mw_1171) (fun _ h9 => h9) rfl dX11_shift_274 ?_
                                            refine lv_bipush (v := 40) hx hb dX11_shift_277 rfl ?_
                                            refine lv_iload_n hx hb dX11_shift_279 rfl (lv_at hl 8 rfl) ?_
                                            refine lv_imul hx hb dX11_shift_280 ?_
                                            refine zz_i (v := nI (40 * f)) (pk_mul 40 f) ?_
                                            refine lv_iload hx hb dX11_shift_281 (lv_at hl 2 rfl) ?_
                                            refine lv_iadd hx hb dX11_shift_283 ?_
                                            refine zz_i (v := nI (40 * f + k)) (nI_add (40 * f) k) ?_
                                            refine lv_aload_n hx hb dX11_shift_284 rfl (lv_at hl 7 rfl) ?_
                                            refine va_get (D := (dC, dI)) (ci := 9) (v := .ref (a 33)) (C := RX11) (T := TX11) (N := 55) hx hb hts inX11 hown hK hP 0 rfl rfl 33 (Nat.le_of_ble_eq_true rfl) (hts _ mw_1192) (fun _ h9 => h9) rfl dX11_shift_285 ?_
                                            refine lv_iload hx hb dX11_shift_288 (lv_at hl 2 rfl) ?_
                                            have b9_53 : k < 42 := by omega
                                            refine z_iald hx hb hK hP 23 0 rfl rfl (e := k) rfl b9_53 (Nat.le_of_ble_eq_true rfl) dX11_shift_290 ?_
                                            refine zz_i (v := cF40 cx f k) ((hox _ hk9).1) ?_
                                            refine lv_iload hx hb dX11_shift_291 (lv_at hl 3 rfl) ?_
                                            refine lv_if_eq (tgt := 300) hx hb dX11_shift_293 rfl (fun c_54 => ?_) (fun c_54 => ?_)
                                            · exact absurd c_54 (by decide)
                                            · refine lv_iload_n hx hb dX11_shift_296 rfl (lv_at hl 10 rfl) ?_
                                              refine lv_goto (tgt := 314) hx hb dX11_shift_297 rfl ?_
                                              refine lv_iadd hx hb dX11_shift_314 ?_
                                              have b9_55 : 40 * f + k < 8040 := by omega
                                              refine z_iast hx hb hK hP hD hS 12 0 rfl rfl (e := 40 * f + k) (x := (cF40 cx f k) + dx) rfl b9_55 (Nat.le_of_ble_eq_true rfl) dX11_shift_315 (fun H locs hP hD hS => ?_)
                                              obtain ⟨hP, hD⟩ := zre (W2 := [_, _, _, _, _, _, _, _, _, _, _, _, (oa (a 12) cI 8040 (upd cx1 (40 * f + k) ((cF40 cx f k) + dx))), _, _, _, _, _, _, _, _, _, _, _, _, _, _, _, _, _, _, _]) hP hD rfl
                                              refine lv_aload_n hx hb dX11_shift_316 rfl (lv_at hl 7 rfl) ?_
                                              refine va_get (D := (dC, dI)) (ci := 9) (v := .ref (a 13)) (C := RX11) (T := TX11) (N := 55) hx hb hts inX11 hown hK hP 0 rfl rfl 13 (Nat.le_of_ble_eq_true rfl) (hts _ mw_1172) (fun _ h9 => h9) rfl dX11_shift_317 ?_
                                              refine lv_bipush (v := 40) hx hb dX11_shift_320 rfl ?_
                                              refine lv_iload_n hx hb dX11_shift_322 rfl (lv_at hl 8 rfl) ?_
                                              refine lv_imul hx hb dX11_shift_323 ?_
                                              refine zz_i (v := nI (40 * f)) (pk_mul 40 f) ?_
                                              refine lv_iload hx hb dX11_shift_324 (lv_at hl 2 rfl) ?_
                                              refine lv_iadd hx hb dX11_shift_326 ?_
                                              refine zz_i (v := nI (40 * f + k)) (nI_add (40 * f) k) ?_
                                              refine lv_aload_n hx hb dX11_shift_327 rfl (lv_at hl 7 rfl) ?_
                                              refine va_get (D := (dC, dI)) (ci := 9) (v := .ref (a 34)) (C := RX11) (T := TX11) (N := 55) hx hb hts inX11 hown hK hP 0 rfl rfl 34 (Nat.le_of_ble_eq_true rfl) (hts _ mw_1193) (fun _ h9 => h9) rfl dX11_shift_328 ?_
                                              refine lv_iload hx hb dX11_shift_331 (lv_at hl 2 rfl) ?_
                                              refine z_iald hx hb hK hP 24 0 rfl rfl (e := k) rfl b9_53 (Nat.le_of_ble_eq_true rfl) dX11_shift_333 ?_
                                              refine zz_i (v := cF40 cy f k) ((hox _ hk9).2) ?_
                                              refine lv_iload hx hb dX11_shift_334 (lv_at hl 3 rfl) ?_
                                              refine lv_if_eq (tgt := 344) hx hb dX11_shift_336 rfl (fun c_56 => ?_) (fun c_56 => ?_)
                                              · exact absurd c_56 (by decide)
                                              · refine lv_iload hx hb dX11_shift_339 (lv_at hl 11 rfl) ?_
                                                refine lv_goto (tgt := 359) hx hb dX11_shift_341 rfl ?_
                                                refine lv_iadd hx hb dX11_shift_359 ?_
                                                refine z_iast hx hb hK hP hD hS 13 0 rfl rfl (e := 40 * f + k) (x := (cF40 cy f k) + dy) rfl b9_55 (Nat.le_of_ble_eq_true rfl) dX11_shift_360 (fun H locs hP hD hS => ?_)
                                                obtain ⟨hP, hD⟩ := zre (W2 := [_, _, _, _, _, _, _, _, _, _, _, _, _, (oa (a 13) cI 8040 (upd cy1 (40 * f + k) ((cF40 cy f k) + dy))), _, _, _, _, _, _, _, _, _, _, _, _, _, _, _, _, _, _]) hP hD rfl
                                                refine lv_iinc (v := nI (k + 1)) (lv' := [(10, .int (nI (k + 1))), (12, .int 0), (11, .int (nI (wyR (kd f).toInt n kk k))), (9, .int 1), (7, .int 0), (8, .int 0), (6, .int 0), (0, .ref k0), (1, .int (nI f)), (2, .int (nI kk)), (3, .int dx), (4, .int dy), (5, .int (nI rr))]) hx hb dX11_shift_361 hl (k := 2) rfl (nI_add k 1) (Nat.le_of_ble_eq_true rfl) rfl (fun ls hl => ?_)
                                                refine lv_goto (tgt := 203) hx hb dX11_shift_364 rfl ?_
                                                exact ih_203 (k + 1) (upd cx1 (40 * f + k) ((cF40 cx f k) + dx)) (upd cy1 (40 * f + k) ((cF40 cy f k) + dy)) H locs ls (by first | with_reducible assumption | omega) (by first | with_reducible assumption | omega) (fgX_u hcx rfl) (fgX_u hcy rfl) hP hD hS (lv_sub hl [0, 3, 4, 5, 6, 7, 8, 9, 10, 11, 12] rfl)
                                          · exact absurd (by decide) c_52
                                        · exact absurd c_51 (by decide)
                                  exact hl_203 _ 0 cx cy H locs ls (Nat.lt_succ_self _) (by first | with_reducible assumption | omega) (fgX_0 _ _ _) (fgX_0 _ _ _) hP hD hS (lv_sub hl [0, 1, 2, 3, 4, 5, 6, 7, 8, 9, 10] rfl)
                                refine lv_if_eq (tgt := 193) hx hb dX11_shift_179 rfl (fun c_57 => ?_) (fun c_57 => ?_)
                                · have c_57 : (kd f).toInt = 0 := zc_eq rfl rfl c_57
                                  refine lv_iconst (v := 1) hx hb dX11_shift_193 rfl ?_
                                  refine lv_goto (tgt := 198) hx hb dX11_shift_194 rfl ?_
                                  exact hj_46 
                                · have c_57 : ¬ (kd f).toInt = 0 := zc_ne rfl rfl c_57
                                  refine lv_aload_n hx hb dX11_shift_182 rfl (lv_at hl 3 rfl) ?_
                                  refine va_get (D := (dC, dI)) (ci := 9) (v := .ref (a 1)) (C := RX11) (T := TX11) (N := 55) hx hb hts inX11 hown hK hP 0 rfl rfl 1 (Nat.le_of_ble_eq_true rfl) (hts _ mw_1160) (fun _ h9 => h9) rfl dX11_shift_183 ?_
                                  refine lv_iload_n hx hb dX11_shift_186 rfl (lv_at hl 4 rfl) ?_
                                  refine z_iald hx hb hK hP 1 0 rfl rfl (e := f) rfl b9_30 (Nat.le_of_ble_eq_true rfl) dX11_shift_187 ?_
                                  refine lv_bipush (v := 6) hx hb dX11_shift_188 rfl ?_
                                  refine lv_icmp_ne (tgt := 197) hx hb dX11_shift_190 rfl (fun c_58 => ?_) (fun c_58 => ?_)
                                  · have c_58 : ¬ (kd f).toInt = 6 := zc_ne rfl rfl c_58
                                    exfalso; omega
                                  · have c_58 : (kd f).toInt = 6 := zc_eq rfl rfl c_58
                                    refine lv_iconst (v := 1) hx hb dX11_shift_193 rfl ?_
                                    refine lv_goto (tgt := 198) hx hb dX11_shift_194 rfl ?_
                                    exact hj_46 
                              · exact absurd (by decide) c_45
                            · have c_44 : ¬ (tn f).toInt = 0 := zc_ne rfl rfl c_44
                              exfalso; omega
                          · exact absurd (by decide) c_43
                        · exact absurd (by decide) c_42
                      · have c_41 : 20 < ((rr : Nat) : Int) := zc_nle (nI_toInt b9_40) rfl c_41
                        exfalso; omega
          · have c_34 : ¬ (st f).toInt = 1 := zc_ne rfl rfl c_34
            exfalso; omega
        · exact absurd (by decide) c_33
    · have c_31 : (tn f).toInt = 0 := zc_eq rfl rfl c_31
      refine lv_iload_n hx hb dX11_shift_17 rfl (lv_at hl 2 rfl) ?_
      have b9_60 : zlt (kk) := show kk < 2147483648 by omega
      refine lv_if_lt (tgt := 31) hx hb dX11_shift_18 rfl (fun c_59 => ?_) (fun c_59 => ?_)
      · have c_59 : ((kk : Nat) : Int) < 0 := zc_lt (nI_toInt b9_60) rfl c_59
        exfalso; omega
      · have c_59 : 0 ≤ ((kk : Nat) : Int) := zc_nlt (nI_toInt b9_60) rfl c_59
        refine lv_iload_n hx hb dX11_shift_21 rfl (lv_at hl 2 rfl) ?_
        refine lv_aload_n hx hb dX11_shift_22 rfl (lv_at hl 0 rfl) ?_
        refine va_get (D := (dC, dI)) (ci := 9) (v := .ref (a 11)) (C := RX11) (T := TX11) (N := 55) hx hb hts inX11 hown hK hP 0 rfl rfl 11 (Nat.le_of_ble_eq_true rfl) (hts _ mw_1170) (fun _ h9 => h9) rfl dX11_shift_23 ?_
        refine lv_iload_n hx hb dX11_shift_26 rfl (lv_at hl 1 rfl) ?_
        refine z_iald hx hb hK hP 11 0 rfl rfl (e := f) rfl b9_30 (Nat.le_of_ble_eq_true rfl) dX11_shift_27 ?_
        refine zz_i (v := nI n) (hm_f) ?_
        have b9_62 : zlt (n) := show n < 2147483648 by omega
        refine lv_icmp_lt (tgt := 35) hx hb dX11_shift_28 rfl (fun c_61 => ?_) (fun c_61 => ?_)
        · have c_61 : ((kk : Nat) : Int) < ((n : Nat) : Int) := zc_lt (nI_toInt b9_60) (nI_toInt b9_62) c_61
          refine lv_iconst (v := 0) hx hb dX11_shift_35 rfl ?_
          refine lv_istore (lv' := [(6, .int 0), (0, .ref k0), (1, .int (nI f)), (2, .int (nI kk)), (3, .int dx), (4, .int dy), (5, .int (nI rr))]) hx hb dX11_shift_36 hl (Nat.le_of_ble_eq_true rfl) rfl (fun ls hl => ?_)
          refine lv_aload_n hx hb dX11_shift_38 rfl (lv_at hl 1 rfl) ?_
          refine lv_iload_n hx hb dX11_shift_39 rfl (lv_at hl 2 rfl) ?_
          obtain ⟨hPc, hDc, hFc, hI1⟩ := zi_sub (wc := [_]) hP hD hS hA [0] rfl rfl
          refine zcall (st1 := [.int (pI (f < ft))]) (va_runV (As := [.int (nI f)]) (rest := []) ⟨hx, hb, hml, hown, hts⟩ (k_M_isFeature_n l dC dI cI cZ cF H.size k0 a I0 J0 f ft (by first | with_reducible assumption | assumption) (by first | with_reducible assumption | omega) (by first | with_reducible assumption | omega)) (csV_178 hts rfl rfl ⟨Nat.le_of_ble_eq_true rfl, Nat.le_of_ble_eq_true rfl⟩) (zPV2 (q0 := 0) (ci := 9) hPc hDc hK hXN rfl rfl) rfl rfl hl.1 rfl (lv_room (Nat.le_of_ble_eq_true rfl)) dX11_shift_40 ⟨Nat.le_of_ble_eq_true rfl, Nat.le_of_ble_eq_true rfl⟩) hS hFc hFc rfl (fun t H locs ht hB hk1 hS => ?_)
          obtain ⟨hP1, hD1⟩ := hB
          rw [ht] at hP1
          replace hP := z0 hP hD hk1 hP1 hI1
          clear hk1 hPc hDc hFc hP1 hD1 ht hI1
          refine lv_if_eq (tgt := 51) hx hb dX11_shift_43 rfl (fun c_63 => ?_) (fun c_63 => ?_)
          · have c_63 : ¬ (f < ft) := zp_0 c_63
            exfalso; omega
          · have c_63 : f < ft := zp_1 c_63
            refine lv_iload hx hb dX11_shift_46 (lv_at hl 0 rfl) ?_
            refine lv_if_eq (tgt := 55) hx hb dX11_shift_48 rfl (fun c_64 => ?_) (fun c_64 => ?_)
            · refine lv_aload_n hx hb dX11_shift_55 rfl (lv_at hl 1 rfl) ?_
              refine va_get (D := (dC, dI)) (ci := 9) (v := .ref (a 5)) (C := RX11) (T := TX11) (N := 55) hx hb hts inX11 hown hK hP 0 rfl rfl 5 (Nat.le_of_ble_eq_true rfl) (hts _ mw_1164) (fun _ h9 => h9) rfl dX11_shift_56 ?_
              refine lv_iload_n hx hb dX11_shift_59 rfl (lv_at hl 2 rfl) ?_
              refine z_iald hx hb hK hP 2 0 rfl rfl (e := f) rfl b9_30 (Nat.le_of_ble_eq_true rfl) dX11_shift_60 ?_
              refine lv_iconst (v := 1) hx hb dX11_shift_61 rfl ?_
              refine lv_icmp_eq (tgt := 69) hx hb dX11_shift_62 rfl (fun c_65 => ?_) (fun c_65 => ?_)
              · have c_65 : (st f).toInt = 1 := zc_eq rfl rfl c_65
                refine lv_iconst (v := 0) hx hb dX11_shift_69 rfl ?_
                refine lv_istore (lv' := [(7, .int 0), (6, .int 0), (0, .ref k0), (1, .int (nI f)), (2, .int (nI kk)), (3, .int dx), (4, .int dy), (5, .int (nI rr))]) hx hb dX11_shift_70 hl (Nat.le_of_ble_eq_true rfl) rfl (fun ls hl => ?_)
                refine lv_iload_n hx hb dX11_shift_72 rfl (lv_at hl 5 rfl) ?_
                refine lv_sipush (v := (-200)) hx hb dX11_shift_73 rfl ?_
                refine lv_icmp_lt (tgt := 114) hx hb dX11_shift_76 rfl (fun c_66 => ?_) (fun c_66 => ?_)
                · have c_66 : dx.toInt < (-200) := zc_lt rfl rfl c_66
                  exfalso; omega
                · have c_66 : (-200) ≤ dx.toInt := zc_nlt rfl rfl c_66
                  refine lv_iload_n hx hb dX11_shift_79 rfl (lv_at hl 5 rfl) ?_
                  refine lv_sipush (v := 200) hx hb dX11_shift_80 rfl ?_
                  refine lv_icmp_gt (tgt := 114) hx hb dX11_shift_83 rfl (fun c_67 => ?_) (fun c_67 => ?_)
                  · have c_67 : 200 < dx.toInt := zc_lt rfl rfl c_67
                    exfalso; omega
                  · have c_67 : dx.toInt ≤ 200 := zc_nlt rfl rfl c_67
                    refine lv_iload hx hb dX11_shift_86 (lv_at hl 6 rfl) ?_
                    refine lv_sipush (v := (-200)) hx hb dX11_shift_88 rfl ?_
                    refine lv_icmp_lt (tgt := 114) hx hb dX11_shift_91 rfl (fun c_68 => ?_) (fun c_68 => ?_)
                    · have c_68 : dy.toInt < (-200) := zc_lt rfl rfl c_68
                      exfalso; omega
                    · have c_68 : (-200) ≤ dy.toInt := zc_nlt rfl rfl c_68
                      refine lv_iload hx hb dX11_shift_94 (lv_at hl 6 rfl) ?_
                      refine lv_sipush (v := 200) hx hb dX11_shift_96 rfl ?_
                      refine lv_icmp_gt (tgt := 114) hx hb dX11_shift_99 rfl (fun c_69 => ?_) (fun c_69 => ?_)
                      · have c_69 : 200 < dy.toInt := zc_lt rfl rfl c_69
                        exfalso; omega
                      · have c_69 : dy.toInt ≤ 200 := zc_nlt rfl rfl c_69
                        refine lv_iload hx hb dX11_shift_102 (lv_at hl 7 rfl) ?_
                        have b9_71 : zlt (rr) := show rr < 2147483648 by omega
                        refine lv_if_lt (tgt := 114) hx hb dX11_shift_104 rfl (fun c_70 => ?_) (fun c_70 => ?_)
                        · have c_70 : ((rr : Nat) : Int) < 0 := zc_lt (nI_toInt b9_71) rfl c_70
                          exfalso; omega
                        · have c_70 : 0 ≤ ((rr : Nat) : Int) := zc_nlt (nI_toInt b9_71) rfl c_70
                          refine lv_iload hx hb dX11_shift_107 (lv_at hl 7 rfl) ?_
                          refine lv_bipush (v := 20) hx hb dX11_shift_109 rfl ?_
                          refine lv_icmp_le (tgt := 118) hx hb dX11_shift_111 rfl (fun c_72 => ?_) (fun c_72 => ?_)
                          · have c_72 : ((rr : Nat) : Int) ≤ 20 := zc_le (nI_toInt b9_71) rfl c_72
                            refine lv_iconst (v := 0) hx hb dX11_shift_118 rfl ?_
                            refine lv_istore (lv' := [(8, .int 0), (7, .int 0), (6, .int 0), (0, .ref k0), (1, .int (nI f)), (2, .int (nI kk)), (3, .int dx), (4, .int dy), (5, .int (nI rr))]) hx hb dX11_shift_119 hl (Nat.le_of_ble_eq_true rfl) rfl (fun ls hl => ?_)
                            refine lv_iload hx hb dX11_shift_121 (lv_at hl 1 rfl) ?_
                            refine lv_if_le (tgt := 131) hx hb dX11_shift_123 rfl (fun c_73 => ?_) (fun c_73 => ?_)
                            · refine lv_iload hx hb dX11_shift_131 (lv_at hl 0 rfl) ?_
                              refine lv_if_eq (tgt := 140) hx hb dX11_shift_133 rfl (fun c_74 => ?_) (fun c_74 => ?_)
                              · refine lv_aload_n hx hb dX11_shift_140 rfl (lv_at hl 3 rfl) ?_
                                refine va_get (D := (dC, dI)) (ci := 9) (v := .ref (a 6)) (C := RX11) (T := TX11) (N := 55) hx hb hts inX11 hown hK hP 0 rfl rfl 6 (Nat.le_of_ble_eq_true rfl) (hts _ mw_1165) (fun _ h9 => h9) rfl dX11_shift_141 ?_
                                refine lv_iload_n hx hb dX11_shift_144 rfl (lv_at hl 4 rfl) ?_
                                refine z_zald hx hb hK hP 10 1 rfl rfl (e := f) rfl b9_30 (Nat.le_of_ble_eq_true rfl) dX11_shift_145 ?_
                                refine lv_if_eq (tgt := 153) hx hb dX11_shift_146 rfl (fun c_75 => ?_) (fun c_75 => ?_)
                                · have c_75 : (tn f).toInt = 0 := zc_eq rfl rfl c_75
                                  refine lv_iconst (v := 0) hx hb dX11_shift_153 rfl ?_
                                  refine lv_istore (lv' := [(7, .int 0), (8, .int 0), (6, .int 0), (0, .ref k0), (1, .int (nI f)), (2, .int (nI kk)), (3, .int dx), (4, .int dy), (5, .int (nI rr))]) hx hb dX11_shift_154 hl (Nat.le_of_ble_eq_true rfl) rfl (fun ls hl => ?_)
                                  refine lv_iload hx hb dX11_shift_156 (lv_at hl 0 rfl) ?_
                                  refine lv_if_le (tgt := 168) hx hb dX11_shift_158 rfl (fun c_76 => ?_) (fun c_76 => ?_)
                                  · refine lv_aload_n hx hb dX11_shift_168 rfl (lv_at hl 3 rfl) ?_
                                    refine lv_iload_n hx hb dX11_shift_169 rfl (lv_at hl 4 rfl) ?_
                                    obtain ⟨hPc, hDc, hFc⟩ := zo_sub (wc := [_, _, _, _, _, _, _, _, _, _, _, _, _]) hP hD hS hA [0, 2, 10, 1, 11, 12, 13, 19, 23, 24, 25, 26, 27] (by decide +kernel) rfl
                                    refine zcall (st1 := []) (va_runV (As := [.int (nI f)]) (rest := []) ⟨hx, hb, hml, hown, hts⟩ (k_M_remember l dC dI cI cZ cF H.size k0 a I0 J0 f n ft st tn kd mn cx cy S0 ox oy mt wi ins (by first | with_reducible assumption | assumption) (by first | with_reducible assumption | omega) (by first | with_reducible assumption | omega) (by first | with_reducible assumption | assumption) (by first | with_reducible assumption | omega) (by first | with_reducible assumption | assumption) (fun q h1 _ => hwf q h1)) (csV_190 hts rfl rfl ⟨Nat.le_of_ble_eq_true rfl, Nat.le_of_ble_eq_true rfl⟩) (zPV2 (q0 := 0) (ci := 9) hPc hDc hK hXN rfl rfl) rfl rfl hl.1 rfl (lv_room (Nat.le_of_ble_eq_true rfl)) dX11_shift_170 ⟨Nat.le_of_ble_eq_true rfl, Nat.le_of_ble_eq_true rfl⟩) hS hFc hFc rfl (fun t H locs ht hB hk1 hS => ?_)
                                    refine ex6 hB (fun S1 ox1 oy1 mt1 wi1 ins1 hB0 => ?_)
                                    clear hB
                                    obtain ⟨hox, hmt, hwi, hin, hP1, hD1⟩ := hB0
                                    rw [ht] at hP1
                                    obtain ⟨hP, hD⟩ := zn (W2 := [(om k0 a (upd (upd I0 35 (nI n)) 36 (kd f)) J0), _, _, _, _, _, _, _, _, _, _, _, _, _, _, _, _, _, _, (oa (a 32) cI 8 S1), _, _, _, (oa (a 33) cI 42 ox1), (oa (a 34) cI 42 oy1), (oa (a 37) cZ 201 mt1), (oa (a 38) cZ 201 wi1), (oa (a 39) cZ 8040 ins1), _, _, _, _]) hP hD hk1 hFc hP1 hD1 zl_194 zl_195 zl_195 zl_194 (by decide +kernel) rfl rfl rfl rfl rfl
                                    clear hk1 hPc hDc hFc hP1 hD1 ht
                                    refine lv_aload_n hx hb dX11_shift_173 rfl (lv_at hl 3 rfl) ?_
                                    refine va_get (D := (dC, dI)) (ci := 9) (v := .ref (a 1)) (C := RX11) (T := TX11) (N := 55) hx hb hts inX11 hown hK hP 0 rfl rfl 1 (Nat.le_of_ble_eq_true rfl) (hts _ mw_1160) (fun _ h9 => h9) rfl dX11_shift_174 ?_
                                    refine lv_iload_n hx hb dX11_shift_177 rfl (lv_at hl 4 rfl) ?_
                                    refine z_iald hx hb hK hP 1 0 rfl rfl (e := f) rfl b9_30 (Nat.le_of_ble_eq_true rfl) dX11_shift_178 ?_
                                    have hj_77 : W p l e ({ frames := 8, cells := 0, slots := 0, locals := 210 } : Room) s m ([.ref k0, .int (nI f), .int (nI kk), .int dx, .int dy, .int (nI rr)] : List Value).toArray below meth c H locs 0 0 Q9 (F0 m 198 ls [.int 1]) := by
                                      refine lv_istore (lv' := [(9, .int 1), (7, .int 0), (8, .int 0), (6, .int 0), (0, .ref k0), (1, .int (nI f)), (2, .int (nI kk)), (3, .int dx), (4, .int dy), (5, .int (nI rr))]) hx hb dX11_shift_198 hl (Nat.le_of_ble_eq_true rfl) rfl (fun ls hl => ?_)
                                      refine lv_iconst (v := 0) hx hb dX11_shift_200 rfl ?_
                                      refine lv_istore (lv' := [(10, .int 0), (9, .int 1), (7, .int 0), (8, .int 0), (6, .int 0), (0, .ref k0), (1, .int (nI f)), (2, .int (nI kk)), (3, .int dx), (4, .int dy), (5, .int (nI rr))]) hx hb dX11_shift_201 hl (Nat.le_of_ble_eq_true rfl) rfl (fun ls hl => ?_)
                                      have hl_203 : ∀ (n9 : Nat) (k : Nat) (cx1 : Nat → Int32) (cy1 : Nat → Int32) (H : Heap) (locs : List Loc) (ls : Array Slot), n - k < n9 → (k ≤ n) → (cx1 = fgX f k (fun i => cF40 cx f i + dx) cx) → (cy1 = fgX f k (fun i => cF40 cy f i + dy) cy) → va_P (dC, dI) classes [(om k0 a (upd (upd I0 35 (nI n)) 36 (kd f)) J0), (oa (a 1) cI 201 kd), (oa (a 5) cI 201 st), (oa (a 7) cI 201 gb), (oa (a 10) cI 201 it), (oa (a 8) cI 201 pa), (oa (a 9) cI 201 pb), (oa (a 2) cI 201 rk), (oa (a 3) cI 201 wd), (oa (a 4) cI 201 tw), (oa (a 6) cZ 201 tn), (oa (a 11) cI 201 mn), (oa (a 12) cI 8040 cx1), (oa (a 13) cI 8040 cy1), (oa (a 27) cI 516 sa), (oa (a 28) cI (4096 * cp) sh), (oa (a 16) cI 514 wh), (oa (a 17) cI 514 of9), (oa (a 18) cI 514 we), (oa (a 32) cI 8 S1), (oa (a 40) cI 6 T0), (oa (a 29) cI 42 P0), (oa (a 30) cI 42 Q0), (oa (a 33) cI 42 ox1), (oa (a 34) cI 42 oy1), (oa (a 37) cZ 201 mt1), (oa (a 38) cZ 201 wi1), (oa (a 39) cZ 8040 ins1), (oa (a 22) cI (64 * cl) la), (oa (a 23) cI (64 * cl) lb), (oa (a 24) cI (64 * cl) lc), (oa (a 25) cI (64 * cl) ld)] H → va_D A [(om k0 a (upd (upd I0 35 (nI n)) 36 (kd f)) J0), (oa (a 1) cI 201 kd), (oa (a 5) cI 201 st), (oa (a 7) cI 201 gb), (oa (a 10) cI 201 it), (oa (a 8) cI 201 pa), (oa (a 9) cI 201 pb), (oa (a 2) cI 201 rk), (oa (a 3) cI 201 wd), (oa (a 4) cI 201 tw), (oa (a 6) cZ 201 tn), (oa (a 11) cI 201 mn), (oa (a 12) cI 8040 cx1), (oa (a 13) cI 8040 cy1), (oa (a 27) cI 516 sa), (oa (a 28) cI (4096 * cp) sh), (oa (a 16) cI 514 wh), (oa (a 17) cI 514 of9), (oa (a 18) cI 514 we), (oa (a 32) cI 8 S1), (oa (a 40) cI 6 T0), (oa (a 29) cI 42 P0), (oa (a 30) cI 42 Q0), (oa (a 33) cI 42 ox1), (oa (a 34) cI 42 oy1), (oa (a 37) cZ 201 mt1), (oa (a 38) cZ 201 wi1), (oa (a 39) cZ 8040 ins1), (oa (a 22) cI (64 * cl) la), (oa (a 23) cI (64 * cl) lb), (oa (a 24) cI (64 * cl) lc), (oa (a 25) cI (64 * cl) ld)] → va_S A s.heap H locs → lv_has ls 13 [(10, .int (nI k)), (9, .int 1), (7, .int 0), (8, .int 0), (6, .int 0), (0, .ref k0), (1, .int (nI f)), (2, .int (nI kk)), (3, .int dx), (4, .int dy), (5, .int (nI rr))] → W p l e ({ frames := 8, cells := 0, slots := 0, locals := 210 } : Room) s m ([.ref k0, .int (nI f), .int (nI kk), .int dx, .int dy, .int (nI rr)] : List Value).toArray below meth c H locs 0 0 Q9 (F0 m 203 ls []) := by
                                        intro n9
                                        induction n9 with
                                        | zero => intro k cx1 cy1 H locs ls hm; exact absurd hm (Nat.not_lt_zero _)
                                        | succ n9 ih_203 =>
                                          intro k cx1 cy1 H locs ls hm hk hcx hcy hP hD hS hl
                                          refine lv_iload hx hb dX11_shift_203 (lv_at hl 0 rfl) ?_
                                          refine lv_aload_n hx hb dX11_shift_205 rfl (lv_at hl 5 rfl) ?_
                                          refine va_get (D := (dC, dI)) (ci := 9) (v := .int (nI n)) (C := RX11) (T := TX11) (N := 55) hx hb hts inX11 hown hK hP 0 rfl rfl 35 (Nat.le_of_ble_eq_true rfl) (hts _ mw_1194) (fun _ h9 => h9) rfl dX11_shift_206 ?_
                                          have b9_79 : zlt (k) := show k < 2147483648 by omega
                                          refine lv_icmp_ge (tgt := 367) hx hb dX11_shift_209 rfl (fun c_78 => ?_) (fun c_78 => ?_)
                                          · have c_78 : ((n : Nat) : Int) ≤ ((k : Nat) : Int) := zc_le (nI_toInt b9_62) (nI_toInt b9_79) c_78
                                            have hkn : k = n := (by omega)
                                            rw [hkn] at hcx hcy
                                            refine lv_aload_n hx hb dX11_shift_367 rfl (lv_at hl 5 rfl) ?_
                                            refine lv_iload_n hx hb dX11_shift_368 rfl (lv_at hl 6 rfl) ?_
                                            obtain ⟨hPc, hDc, hFc, hI1⟩ := zi_sub (wc := [_, _, _, _, _]) hP hD hS hA [0, 12, 13, 23, 24] (by decide +kernel) rfl
                                            refine zcall (st1 := [.int (pI (∃ k, k < n ∧ ¬ ((cx1 (40 * f + k)).toInt = (ox1 k).toInt ∧ (cy1 (40 * f + k)).toInt = (oy1 k).toInt)))]) (va_runV (As := [.int (nI f)]) (rest := []) ⟨hx, hb, hml, hown, hts⟩ (k_M_moves l dC dI cI cZ cF H.size k0 a (upd (upd I0 35 (nI n)) 36 (kd f)) J0 f n cx1 cy1 ox1 oy1 (by first | with_reducible assumption | omega) (rfl) (by first | with_reducible assumption | omega)) (csV_211 hts rfl rfl ⟨Nat.le_of_ble_eq_true rfl, Nat.le_of_ble_eq_true rfl⟩) (zPV2 (q0 := 0) (ci := 9) hPc hDc hK hXN rfl rfl) rfl rfl hl.1 rfl (lv_room (Nat.le_of_ble_eq_true rfl)) dX11_shift_369 ⟨Nat.le_of_ble_eq_true rfl, Nat.le_of_ble_eq_true rfl⟩) hS hFc hFc rfl (fun t H locs ht hB hk1 hS => ?_)
                                            obtain ⟨hP1, hD1⟩ := hB
                                            rw [ht] at hP1
                                            replace hP := z0 hP hD hk1 hP1 hI1
                                            clear hk1 hPc hDc hFc hP1 hD1 ht hI1
                                            refine zz_i (v := pI (mvd n (fun i => cF40 cx f i + dx) (fun i => cF40 cy f i + dy) (cF40 cx f) (cF40 cy f))) (zp_iff (mv_iff hcx hcy hox)) ?_
                                            refine lv_if_ne (tgt := 382) hx hb dX11_shift_372 rfl (fun c_80 => ?_) (fun c_80 => ?_)
                                            · have c_80 : mvd n (fun i => cF40 cx f i + dx) (fun i => cF40 cy f i + dy) (cF40 cx f) (cF40 cy f) := zp_1 c_80
                                              refine lv_aload_n hx hb dX11_shift_382 rfl (lv_at hl 5 rfl) ?_
                                              refine lv_iload_n hx hb dX11_shift_383 rfl (lv_at hl 6 rfl) ?_
                                              refine lv_iconst (v := 3) hx hb dX11_shift_384 rfl ?_
                                              refine zz_i (v := nI 3) (rfl) ?_
                                              have hbx : fgX f n ox1 cx1 = cx := (by rw [hcx]; exact fgX_back (fun k9 h9 => (hox k9 h9).1))
                                              have hby : fgX f n oy1 cy1 = cy := (by rw [hcy]; exact fgX_back (fun k9 h9 => (hox k9 h9).2))
                                              have hlq := lwM_eq (ft := ft) (st := st) (tn := tn) (kd := kd) (mn := mn) hn_f.1 hcx hcy hox
                                              have hpo : pls n ox1 oy1 := fun j hj => by rw [(hox j hj).1, (hox j hj).2]; exact hp_f j hj
                                              have hwf2 : ∀ q, lvF ft st tn q → q ≠ f → wfM mn cx1 cy1 q := fun q h1 h2 => wfM_o (hwf q h1) h2 (fun _ _ => rfl) (fun j hj => by rw [hcx, hcy]; exact ⟨fgX_o (by omega), fgX_o (by omega)⟩)
                                              obtain ⟨hPc, hDc, hFc⟩ := zo_sub (wc := [_, _, _, _, _, _, _, _, _, _, _, _, _, _, _, _, _, _, _, _, _, _, _, _, _, _, _, _, _, _, _, _]) hP hD hS hA [0, 1, 2, 3, 4, 5, 6, 7, 8, 9, 10, 11, 12, 13, 14, 15, 16, 17, 18, 19, 20, 21, 22, 23, 24, 25, 26, 27, 28, 29, 30, 31] (by decide +kernel) rfl
                                              refine zcall (st1 := [.int 0]) (va_runV (As := [.int (nI f), .int (nI 3)]) (rest := []) ⟨hx, hb, hml, hown, hts⟩ (k_M_changes_mn l dC dI cI cZ cF H.size k0 a (upd (upd I0 35 (nI n)) 36 (kd f)) J0 f n ft n (kd f) 3 kd st gb it pa pb rk wd tw tn mn cx1 cy1 sa sh wh of9 we S1 T0 P0 Q0 ox1 oy1 mt1 wi1 ins1 la lb lc ld (bMt kd mn cx cy f n) (bWi kd mn cx cy f) (bIn kd cx cy f n) cp cl (hft) (by first | with_reducible assumption | omega) (by first | with_reducible assumption | omega) (hm_f) (by first | with_reducible assumption | omega) (hwf2) (by first | with_reducible assumption | omega) (by first | with_reducible assumption | omega) (hpo) (hmt) (fun q h1 h2 h5 => by rw [hwi q h1 h2]; exact zp_iff ⟨fun h => h.2, fun h => ⟨h5, h⟩⟩) (fun q h1 h2 i hi h5 => hin q h1 h2 h5 i hi) (by first | with_reducible assumption | omega) (rfl) (hft_f) (by rw [hlq]; exact hlaw)) (csV_212 hts rfl rfl ⟨Nat.le_of_ble_eq_true rfl, Nat.le_of_ble_eq_true rfl⟩) (zPV2 (q0 := 0) (ci := 9) hPc hDc hK hXN rfl rfl) rfl rfl hl.1 rfl (lv_room (Nat.le_of_ble_eq_true rfl)) dX11_shift_385 ⟨Nat.le_of_ble_eq_true rfl, Nat.le_of_ble_eq_true rfl⟩) hS hFc hFc rfl (fun t H locs ht hB hk1 hS => ?_)
                                              obtain ⟨z8, S2, T2, P2, Q2, hP1, hD1⟩ := hB
                                              rw [ht] at hP1
                                              obtain ⟨hP, hD⟩ := zn (W2 := [(om k0 a (upd (upd (upd (upd (upd I0 14 7) 15 (I0 15 + 1)) 31 z8) 35 (nI n)) 36 (kd f)) J0), (oa (a 1) cI 201 (upd kd f (kd f))), _, _, _, _, _, _, _, _, _, (oa (a 11) cI 201 (upd mn f (nI n))), (oa (a 12) cI 8040 (fgX f n ox1 cx1)), (oa (a 13) cI 8040 (fgX f n oy1 cy1)), _, _, _, _, _, (oa (a 32) cI 8 S2), (oa (a 40) cI 6 T2), (oa (a 29) cI 42 P2), (oa (a 30) cI 42 Q2), _, _, _, _, _, _, _, _, _]) hP hD hk1 hFc hP1 hD1 zl_196 [] zl_197 zl_196 (by decide +kernel) rfl rfl rfl rfl rfl
                                              clear hk1 hPc hDc hFc hP1 hD1 ht
                                              obtain ⟨hP9, hD9⟩ := zu_sub (wc := [(om k0 a (upd (upd (upd (upd (upd I0 14 7) 15 (I0 15 + 1)) 31 z8) 35 (nI n)) 36 (kd f)) J0), (oa (a 1) cI 201 (upd kd f (kd f))), (oa (a 5) cI 201 st), (oa (a 7) cI 201 gb), (oa (a 10) cI 201 it), (oa (a 8) cI 201 pa), (oa (a 9) cI 201 pb), (oa (a 2) cI 201 rk), (oa (a 3) cI 201 wd), (oa (a 4) cI 201 tw), (oa (a 6) cZ 201 tn), (oa (a 11) cI 201 (upd mn f (nI n))), (oa (a 12) cI 8040 (fgX f n ox1 cx1)), (oa (a 13) cI 8040 (fgX f n oy1 cy1)), (oa (a 27) cI 516 sa), (oa (a 28) cI (4096 * cp) sh), (oa (a 16) cI 514 wh), (oa (a 17) cI 514 of9), (oa (a 18) cI 514 we), (oa (a 32) cI 8 S2), (oa (a 40) cI 6 T2), (oa (a 29) cI 42 P2), (oa (a 30) cI 42 Q2), (oa (a 33) cI 42 ox1), (oa (a 34) cI 42 oy1), (oa (a 37) cZ 201 mt1), (oa (a 38) cZ 201 wi1), (oa (a 39) cZ 8040 ins1), (oa (a 22) cI (64 * cl) la), (oa (a 23) cI (64 * cl) lb), (oa (a 24) cI (64 * cl) lc), (oa (a 25) cI (64 * cl) ld)]) hP hD (true :: true :: true :: true :: true :: true :: true :: true :: true :: true :: true :: true :: true :: true :: true :: true :: true :: true :: true :: true :: true :: true :: true :: true :: true :: true :: true :: true :: true :: true :: true :: true :: []) rfl rfl
                                              have hE9 : ([(om k0 a (upd (upd (upd (upd (upd I0 14 7) 15 (I0 15 + 1)) 31 z8) 35 (nI n)) 36 (kd f)) J0), (oa (a 1) cI 201 (upd kd f (kd f))), (oa (a 5) cI 201 st), (oa (a 7) cI 201 gb), (oa (a 10) cI 201 it), (oa (a 8) cI 201 pa), (oa (a 9) cI 201 pb), (oa (a 2) cI 201 rk), (oa (a 3) cI 201 wd), (oa (a 4) cI 201 tw), (oa (a 6) cZ 201 tn), (oa (a 11) cI 201 (upd mn f (nI n))), (oa (a 12) cI 8040 (fgX f n ox1 cx1)), (oa (a 13) cI 8040 (fgX f n oy1 cy1)), (oa (a 27) cI 516 sa), (oa (a 28) cI (4096 * cp) sh), (oa (a 16) cI 514 wh), (oa (a 17) cI 514 of9), (oa (a 18) cI 514 we), (oa (a 32) cI 8 S2), (oa (a 40) cI 6 T2), (oa (a 29) cI 42 P2), (oa (a 30) cI 42 Q2), (oa (a 33) cI 42 ox1), (oa (a 34) cI 42 oy1), (oa (a 37) cZ 201 mt1), (oa (a 38) cZ 201 wi1), (oa (a 39) cZ 8040 ins1), (oa (a 22) cI (64 * cl) la), (oa (a 23) cI (64 * cl) lb), (oa (a 24) cI (64 * cl) lc), (oa (a 25) cI (64 * cl) ld)] : va_W) = [(om k0 a (upd (upd (upd (upd (upd I0 14 7) 15 (I0 15 + 1)) 31 z8) 35 (nI n)) 36 (kd f)) J0), (oa (a 1) cI 201 kd), (oa (a 5) cI 201 st), (oa (a 7) cI 201 gb), (oa (a 10) cI 201 it), (oa (a 8) cI 201 pa), (oa (a 9) cI 201 pb), (oa (a 2) cI 201 rk), (oa (a 3) cI 201 wd), (oa (a 4) cI 201 tw), (oa (a 6) cZ 201 tn), (oa (a 11) cI 201 mn), (oa (a 12) cI 8040 cx), (oa (a 13) cI 8040 cy), (oa (a 27) cI 516 sa), (oa (a 28) cI (4096 * cp) sh), (oa (a 16) cI 514 wh), (oa (a 17) cI 514 of9), (oa (a 18) cI 514 we), (oa (a 32) cI 8 S2), (oa (a 40) cI 6 T2), (oa (a 29) cI 42 P2), (oa (a 30) cI 42 Q2), (oa (a 33) cI 42 ox1), (oa (a 34) cI 42 oy1), (oa (a 37) cZ 201 mt1), (oa (a 38) cZ 201 wi1), (oa (a 39) cZ 8040 ins1), (oa (a 22) cI (64 * cl) la), (oa (a 23) cI (64 * cl) lb), (oa (a 24) cI (64 * cl) lc), (oa (a 25) cI (64 * cl) ld)] := by rw [hum, huk, hbx, hby]
                                              rw [hE9] at hP9 hD9
                                              rw [hQ9]
                                              exact W.zret (ty := .boolean) (v := 0) hx hb hr (rfl) (fun t ht hW => ⟨⟨rfl, z8, S2, T2, P2, Q2, ox1, oy1, mt1, wi1, ins1, by rw [ht]; exact hP9, hD9⟩, hS.F ht⟩) hS.2.2 dX11_shift_388
                                            · have c_80 : ¬ (mvd n (fun i => cF40 cx f i + dx) (fun i => cF40 cy f i + dy) (cF40 cx f) (cF40 cy f)) := zp_0 c_80
                                              exfalso; exact absurd hmv (by first | with_reducible assumption | assumption)
                                          · have c_78 : ((k : Nat) : Int) < ((n : Nat) : Int) := zc_nle (nI_toInt b9_62) (nI_toInt b9_79) c_78
                                            have hk9 : k < n := (by omega)
                                            refine lv_aload_n hx hb dX11_shift_212 rfl (lv_at hl 5 rfl) ?_
                                            refine lv_iload_n hx hb dX11_shift_213 rfl (lv_at hl 6 rfl) ?_
                                            refine lv_iload_n hx hb dX11_shift_214 rfl (lv_at hl 7 rfl) ?_
                                            refine lv_iload hx hb dX11_shift_215 (lv_at hl 0 rfl) ?_
                                            obtain ⟨hPc, hDc, hFc, hI1⟩ := zi_sub (wc := [_, _]) hP hD hS hA [0, 1] rfl rfl
                                            refine zcall (st1 := [.int (nI (wyR (kd f).toInt n kk k))]) (va_runV (As := [.int (nI f), .int (nI kk), .int (nI k)]) (rest := []) ⟨hx, hb, hml, hown, hts⟩ (k_M_wayOf l dC dI cI cZ cF H.size k0 a (upd (upd I0 35 (nI n)) 36 (kd f)) J0 f n kk k kd (by first | with_reducible assumption | omega) (by first | with_reducible assumption | omega) (hkk) (by first | with_reducible assumption | omega)) (csV_216 hts rfl rfl ⟨Nat.le_of_ble_eq_true rfl, Nat.le_of_ble_eq_true rfl⟩) (zPV2 (q0 := 0) (ci := 9) hPc hDc hK hXN rfl rfl) rfl rfl hl.1 rfl (lv_room (Nat.le_of_ble_eq_true rfl)) dX11_shift_217 ⟨Nat.le_of_ble_eq_true rfl, Nat.le_of_ble_eq_true rfl⟩) hS hFc hFc rfl (fun t H locs ht hB hk1 hS => ?_)
                                            obtain ⟨hP1, hD1⟩ := hB
                                            rw [ht] at hP1
                                            replace hP := z0 hP hD hk1 hP1 hI1
                                            clear hk1 hPc hDc hFc hP1 hD1 ht hI1
                                            refine lv_istore (lv' := [(11, .int (nI (wyR (kd f).toInt n kk k))), (10, .int (nI k)), (9, .int 1), (7, .int 0), (8, .int 0), (6, .int 0), (0, .ref k0), (1, .int (nI f)), (2, .int (nI kk)), (3, .int dx), (4, .int dy), (5, .int (nI rr))]) hx hb dX11_shift_220 hl (Nat.le_of_ble_eq_true rfl) rfl (fun ls hl => ?_)
                                            refine lv_iload hx hb dX11_shift_222 (lv_at hl 2 rfl) ?_
                                            refine lv_if_ne (tgt := 262) hx hb dX11_shift_224 rfl (fun c_81 => ?_) (fun c_81 => ?_)
                                            · refine lv_iconst (v := 0) hx hb dX11_shift_262 rfl ?_
                                              refine lv_istore (lv' := [(12, .int 0), (11, .int (nI (wyR (kd f).toInt n kk k))), (10, .int (nI k)), (9, .int 1), (7, .int 0), (8, .int 0), (6, .int 0), (0, .ref k0), (1, .int (nI f)), (2, .int (nI kk)), (3, .int dx), (4, .int dy), (5, .int (nI rr))]) hx hb dX11_shift_263 hl (Nat.le_of_ble_eq_true rfl) rfl (fun ls hl => ?_)
                                              refine lv_iload hx hb dX11_shift_265 (lv_at hl 0 rfl) ?_
                                              refine lv_if_eq (tgt := 273) hx hb dX11_shift_267 rfl (fun c_82 => ?_) (fun c_82 => ?_)
                                              · refine lv_aload_n hx hb dX11_shift_273 rfl (lv_at hl 7 rfl) ?_
                                                refine va_get (D := (dC, dI)) (ci := 9) (v := .ref (a 12)) (C := RX11) (T := TX11) (N := 55) hx hb hts inX11 hown hK hP 0 rfl rfl 12 (Nat.le_of_ble_eq_true rfl) (hts _ mw_1171) (fun _ h9 => h9) rfl dX11_shift_274 ?_
                                                refine lv_bipush (v := 40) hx hb dX11_shift_277 rfl ?_
                                                refine lv_iload_n hx hb dX11_shift_279 rfl (lv_at hl 8 rfl) ?_
                                                refine lv_imul hx hb dX11_shift_280 ?_
                                                refine zz_i (v := nI (40 * f)) (pk_mul 40 f) ?_
                                                refine lv_iload hx hb dX11_shift_281 (lv_at hl 2 rfl) ?_
                                                refine lv_iadd hx hb dX11_shift_283 ?_
                                                refine zz_i (v := nI (40 * f + k)) (nI_add (40 * f) k) ?_
                                                refine lv_aload_n hx hb dX11_shift_284 rfl (lv_at hl 7 rfl) ?_
                                                refine va_get (D := (dC, dI)) (ci := 9) (v := .ref (a 33)) (C := RX11) (T := TX11) (N := 55) hx hb hts inX11 hown hK hP 0 rfl rfl 33 (Nat.le_of_ble_eq_true rfl) (hts _ mw_1192) (fun _ h9 => h9) rfl dX11_shift_285 ?_
                                                refine lv_iload hx hb dX11_shift_288 (lv_at hl 2 rfl) ?_
                                                have b9_83 : k < 42 := by omega
                                                refine z_iald hx hb hK hP 23 0 rfl rfl (e := k) rfl b9_83 (Nat.le_of_ble_eq_true rfl) dX11_shift_290 ?_
                                                refine zz_i (v := cF40 cx f k) ((hox _ hk9).1) ?_
                                                refine lv_iload hx hb dX11_shift_291 (lv_at hl 3 rfl) ?_
                                                refine lv_if_eq (tgt := 300) hx hb dX11_shift_293 rfl (fun c_84 => ?_) (fun c_84 => ?_)
                                                · exact absurd c_84 (by decide)
                                                · refine lv_iload_n hx hb dX11_shift_296 rfl (lv_at hl 10 rfl) ?_
                                                  refine lv_goto (tgt := 314) hx hb dX11_shift_297 rfl ?_
                                                  refine lv_iadd hx hb dX11_shift_314 ?_
                                                  have b9_85 : 40 * f + k < 8040 := by omega
                                                  refine z_iast hx hb hK hP hD hS 12 0 rfl rfl (e := 40 * f + k) (x := (cF40 cx f k) + dx) rfl b9_85 (Nat.le_of_ble_eq_true rfl) dX11_shift_315 (fun H locs hP hD hS => ?_)
                                                  obtain ⟨hP, hD⟩ := zre (W2 := [_, _, _, _, _, _, _, _, _, _, _, _, (oa (a 12) cI 8040 (upd cx1 (40 * f + k) ((cF40 cx f k) + dx))), _, _, _, _, _, _, _, _, _, _, _, _, _, _, _, _, _, _, _]) hP hD rfl
                                                  refine lv_aload_n hx hb dX11_shift_316 rfl (lv_at hl 7 rfl) ?_
                                                  refine va_get (D := (dC, dI)) (ci := 9) (v := .ref (a 13)) (C := RX11) (T := TX11) (N := 55) hx hb hts inX11 hown hK hP 0 rfl rfl 13 (Nat.le_of_ble_eq_true rfl) (hts _ mw_1172) (fun _ h9 => h9) rfl dX11_shift_317 ?_
                                                  refine lv_bipush (v := 40) hx hb dX11_shift_320 rfl ?_
                                                  refine lv_iload_n hx hb dX11_shift_322 rfl (lv_at hl 8 rfl) ?_
                                                  refine lv_imul hx hb dX11_shift_323 ?_
                                                  refine zz_i (v := nI (40 * f)) (pk_mul 40 f) ?_
                                                  refine lv_iload hx hb dX11_shift_324 (lv_at hl 2 rfl) ?_
                                                  refine lv_iadd hx hb dX11_shift_326 ?_
                                                  refine zz_i (v := nI (40 * f + k)) (nI_add (40 * f) k) ?_
                                                  refine lv_aload_n hx hb dX11_shift_327 rfl (lv_at hl 7 rfl) ?_
                                                  refine va_get (D := (dC, dI)) (ci := 9) (v := .ref (a 34)) (C := RX11) (T := TX11) (N := 55) hx hb hts inX11 hown hK hP 0 rfl rfl 34 (Nat.le_of_ble_eq_true rfl) (hts _ mw_1193) (fun _ h9 => h9) rfl dX11_shift_328 ?_
                                                  refine lv_iload hx hb dX11_shift_331 (lv_at hl 2 rfl) ?_
                                                  refine z_iald hx hb hK hP 24 0 rfl rfl (e := k) rfl b9_83 (Nat.le_of_ble_eq_true rfl) dX11_shift_333 ?_
                                                  refine zz_i (v := cF40 cy f k) ((hox _ hk9).2) ?_
                                                  refine lv_iload hx hb dX11_shift_334 (lv_at hl 3 rfl) ?_
                                                  refine lv_if_eq (tgt := 344) hx hb dX11_shift_336 rfl (fun c_86 => ?_) (fun c_86 => ?_)
                                                  · exact absurd c_86 (by decide)
                                                  · refine lv_iload hx hb dX11_shift_339 (lv_at hl 11 rfl) ?_
                                                    refine lv_goto (tgt := 359) hx hb dX11_shift_341 rfl ?_
                                                    refine lv_iadd hx hb dX11_shift_359 ?_
                                                    refine z_iast hx hb hK hP hD hS 13 0 rfl rfl (e := 40 * f + k) (x := (cF40 cy f k) + dy) rfl b9_85 (Nat.le_of_ble_eq_true rfl) dX11_shift_360 (fun H locs hP hD hS => ?_)
                                                    obtain ⟨hP, hD⟩ := zre (W2 := [_, _, _, _, _, _, _, _, _, _, _, _, _, (oa (a 13) cI 8040 (upd cy1 (40 * f + k) ((cF40 cy f k) + dy))), _, _, _, _, _, _, _, _, _, _, _, _, _, _, _, _, _, _]) hP hD rfl
                                                    refine lv_iinc (v := nI (k + 1)) (lv' := [(10, .int (nI (k + 1))), (12, .int 0), (11, .int (nI (wyR (kd f).toInt n kk k))), (9, .int 1), (7, .int 0), (8, .int 0), (6, .int 0), (0, .ref k0), (1, .int (nI f)), (2, .int (nI kk)), (3, .int dx), (4, .int dy), (5, .int (nI rr))]) hx hb dX11_shift_361 hl (k := 2) rfl (nI_add k 1) (Nat.le_of_ble_eq_true rfl) rfl (fun ls hl => ?_)
                                                    refine lv_goto (tgt := 203) hx hb dX11_shift_364 rfl ?_
                                                    exact ih_203 (k + 1) (upd cx1 (40 * f + k) ((cF40 cx f k) + dx)) (upd cy1 (40 * f + k) ((cF40 cy f k) + dy)) H locs ls (by first | with_reducible assumption | omega) (by first | with_reducible assumption | omega) (fgX_u hcx rfl) (fgX_u hcy rfl) hP hD hS (lv_sub hl [0, 3, 4, 5, 6, 7, 8, 9, 10, 11, 12] rfl)
                                              · exact absurd (by decide) c_82
                                            · exact absurd c_81 (by decide)
                                      exact hl_203 _ 0 cx cy H locs ls (Nat.lt_succ_self _) (by first | with_reducible assumption | omega) (fgX_0 _ _ _) (fgX_0 _ _ _) hP hD hS (lv_sub hl [0, 1, 2, 3, 4, 5, 6, 7, 8, 9, 10] rfl)
                                    refine lv_if_eq (tgt := 193) hx hb dX11_shift_179 rfl (fun c_87 => ?_) (fun c_87 => ?_)
                                    · have c_87 : (kd f).toInt = 0 := zc_eq rfl rfl c_87
                                      refine lv_iconst (v := 1) hx hb dX11_shift_193 rfl ?_
                                      refine lv_goto (tgt := 198) hx hb dX11_shift_194 rfl ?_
                                      exact hj_77 
                                    · have c_87 : ¬ (kd f).toInt = 0 := zc_ne rfl rfl c_87
                                      refine lv_aload_n hx hb dX11_shift_182 rfl (lv_at hl 3 rfl) ?_
                                      refine va_get (D := (dC, dI)) (ci := 9) (v := .ref (a 1)) (C := RX11) (T := TX11) (N := 55) hx hb hts inX11 hown hK hP 0 rfl rfl 1 (Nat.le_of_ble_eq_true rfl) (hts _ mw_1160) (fun _ h9 => h9) rfl dX11_shift_183 ?_
                                      refine lv_iload_n hx hb dX11_shift_186 rfl (lv_at hl 4 rfl) ?_
                                      refine z_iald hx hb hK hP 1 0 rfl rfl (e := f) rfl b9_30 (Nat.le_of_ble_eq_true rfl) dX11_shift_187 ?_
                                      refine lv_bipush (v := 6) hx hb dX11_shift_188 rfl ?_
                                      refine lv_icmp_ne (tgt := 197) hx hb dX11_shift_190 rfl (fun c_88 => ?_) (fun c_88 => ?_)
                                      · have c_88 : ¬ (kd f).toInt = 6 := zc_ne rfl rfl c_88
                                        exfalso; omega
                                      · have c_88 : (kd f).toInt = 6 := zc_eq rfl rfl c_88
                                        refine lv_iconst (v := 1) hx hb dX11_shift_193 rfl ?_
                                        refine lv_goto (tgt := 198) hx hb dX11_shift_194 rfl ?_
                                        exact hj_77 
                                  · exact absurd (by decide) c_76
                                · have c_75 : ¬ (tn f).toInt = 0 := zc_ne rfl rfl c_75
                                  exfalso; omega
                              · exact absurd (by decide) c_74
                            · exact absurd (by decide) c_73
                          · have c_72 : 20 < ((rr : Nat) : Int) := zc_nle (nI_toInt b9_71) rfl c_72
                            exfalso; omega
              · have c_65 : ¬ (st f).toInt = 1 := zc_ne rfl rfl c_65
                exfalso; omega
            · exact absurd (by decide) c_64
        · have c_61 : ((n : Nat) : Int) ≤ ((kk : Nat) : Int) := zc_nlt (nI_toInt b9_60) (nI_toInt b9_62) c_61
          exfalso; omega
set_option maxHeartbeats 4000000 in
set_option maxRecDepth 100000 in
theorem k_M_shift_t_y (l : Launch) (dC : Nat → ClassId) (dI : Nat → Nat → Nat) (cI cZ cF : ClassId) (sz : Nat) (k0 : Nat) (a : Nat → Nat) (I0 : Nat → Int32) (J0 : Nat → Int64) (f : Nat) (n : Nat) (ft : Nat) (kk : Nat) (rr : Nat) (dx : Int32) (dy : Int32) (kd : Nat → Int32) (st : Nat → Int32) (gb : Nat → Int32) (it : Nat → Int32) (pa : Nat → Int32) (pb : Nat → Int32) (rk : Nat → Int32) (wd : Nat → Int32) (tw : Nat → Int32) (tn : Nat → Int32) (mn : Nat → Int32) (cx : Nat → Int32) (cy : Nat → Int32) (sa : Nat → Int32) (sh : Nat → Int32) (wh : Nat → Int32) (of9 : Nat → Int32) (we : Nat → Int32) (S0 : Nat → Int32) (T0 : Nat → Int32) (P0 : Nat → Int32) (Q0 : Nat → Int32) (ox : Nat → Int32) (oy : Nat → Int32) (mt : Nat → Int32) (wi : Nat → Int32) (ins : Nat → Int32) (la : Nat → Int32) (lb : Nat → Int32) (lc : Nat → Int32) (ld : Nat → Int32) (dn : Nat) (bs : Nat) (w0 : Nat) (cp : Nat) (c1 : Nat) (c2 : Nat) (ln : Nat) (cl : Nat) (hft : I0 0 = nI ft) (h200 : ft ≤ 200) (hf_f : f ≤ 200) (hm_f : mn f = nI n) (hn_f : 1 ≤ n ∧ n ≤ 40) (hp_f : pls n (cF40 cx f) (cF40 cy f)) (hft_f : f < ft) (hwf : ∀ q, lvF ft st tn q → wfM mn cx cy q) (hst1 : (st f).toInt = 1) (htn0 : (tn f).toInt = 0) (hkk : kk < n) (hrr : rr ≤ 20) (hdx : -200 ≤ dx.toInt ∧ dx.toInt ≤ 200) (hdy : -200 ≤ dy.toInt ∧ dy.toInt ≤ 200) (hkd1 : (kd f).toInt = 0 ∨ (kd f).toInt = 6) (hmv : mvd n (fun i => cF40 cx f i + dx) (fun i => cF40 cy f i + dy) (cF40 cx f) (cF40 cy f)) (hdn : I0 19 = nI dn) (hbs : I0 21 = nI bs) (hbd : bs ≤ dn) (hd512 : dn ≤ 512) (hi5_1 : (dn - bs) < 515) (hsa_1 : sa (dn - bs) = nI w0) (hmn_1 : ∀ f, f < ft → (tn f).toInt = 0 → ¬ (st f).toInt = 0 → mn f = nI (nN (mn f)) ∧ nN (mn f) ≤ 40) (hc1_1 : 1 ≤ cp) (hpw_1 : pw cp c1) (hw0_1 : w0 ≤ 4096 * cp) (hfit_1 : psN (nnF st tn mn) w0 ft ≤ 4096 * c1) (hmin_1 : c1 = cp ∨ 2048 * c1 < psN (nnF st tn mn) w0 ft) (hcE_1 : c1 ≤ 512) (hpw_2 : pw c1 c2) (hfit_2 : psN (nnF st tn mn) (psN (nnF st tn mn) w0 ft) ft ≤ 4096 * c2) (hmin_2 : c2 = c1 ∨ 2048 * c2 < psN (nnF st tn mn) (psN (nnF st tn mn) w0 ft) ft) (hcE_2 : c2 ≤ 512) (hlc : ln ≤ 64 * cl) (hcl1 : 1 ≤ cl) (hclm : cl ≤ 1000000) (hlaw : lwM ft st tn kd mn cx cy f n (fun i => cF40 cx f i + dx) (fun i => cF40 cy f i + dy)) : zM l yX11_shift cX11_shift 13 (some .boolean) ({ frames := 8, cells := c2 - cp, slots := 8192 * (c2 - cp), locals := 210 } : Room) [.ref k0, .int (nI f), .int (nI kk), .int dx, .int dy, .int (nI rr)] (dC, dI) (zTy cI cZ cF) [(om k0 a (upd I0 26 (nI ln)) J0), (oa (a 1) cI 201 kd), (oa (a 5) cI 201 st), (oa (a 7) cI 201 gb), (oa (a 10) cI 201 it), (oa (a 8) cI 201 pa), (oa (a 9) cI 201 pb), (oa (a 2) cI 201 rk), (oa (a 3) cI 201 wd), (oa (a 4) cI 201 tw), (oa (a 6) cZ 201 tn), (oa (a 11) cI 201 mn), (oa (a 12) cI 8040 cx), (oa (a 13) cI 8040 cy), (oa (a 27) cI 516 sa), (oa (a 28) cI (4096 * cp) sh), (oa (a 16) cI 514 wh), (oa (a 17) cI 514 of9), (oa (a 18) cI 514 we), (oa (a 32) cI 8 S0), (oa (a 40) cI 6 T0), (oa (a 29) cI 42 P0), (oa (a 30) cI 42 Q0), (oa (a 33) cI 42 ox), (oa (a 34) cI 42 oy), (oa (a 37) cZ 201 mt), (oa (a 38) cZ 201 wi), (oa (a 39) cZ 8040 ins), (oa (a 22) cI (64 * cl) la), (oa (a 23) cI (64 * cl) lb), (oa (a 24) cI (64 * cl) lc), (oa (a 25) cI (64 * cl) ld)] sz (some (.int 1)) (fun A t => ∃ (z9 : Int32), ∃ (b2 : Nat), ∃ (sh2 : Nat → Int32), ∃ (t9 : Nat), ∃ (S1 : Nat → Int32), ∃ (T1 : Nat → Int32), ∃ (P1 : Nat → Int32), ∃ (Q1 : Nat → Int32), ∃ (ox1 : Nat → Int32), ∃ (oy1 : Nat → Int32), ∃ (mt1 : Nat → Int32), ∃ (wi1 : Nat → Int32), ∃ (ins1 : Nat → Int32), ∃ (la1 : Nat → Int32), ∃ (lb1 : Nat → Int32), ∃ (lc1 : Nat → Int32), ∃ (ld1 : Nat → Int32), (sh2 w0 = nI ft) ∧ (∀ j, j < w0 → sh2 j = sh j) ∧ (∀ g, g < ft → ∀ j, j < 10 + 2 * (nnF st tn mn) g → sh2 (psN (nnF st tn mn) w0 g + j) = (shD kd st gb it pa pb rk wd tw (nnF st tn mn) cx cy) g j) ∧ (sh2 (psN (nnF st tn mn) w0 ft) = nI ft) ∧ (∀ g, g < ft → ∀ j, j < 10 + 2 * (nnF st tn mn) g → sh2 (psN (nnF st tn mn) (psN (nnF st tn mn) w0 ft) g + j) = (shD kd st gb it pa pb rk wd tw (nnF st tn mn) (fgX f n (fun i => cF40 cx f i + dx) cx) (fgX f n (fun i => cF40 cy f i + dy) cy)) g j) ∧ (t9 ≤ ln) ∧ ((∀ j, j < t9 → ∃ i, i < ln ∧ lb1 j = lb i ∧ lc1 j = lc i) ∧ lsZ dn ln la lb lc ld t9 la1 lb1 lc1 ld1 (fun _ _ _ => False)) ∧ zPD (dC, dI) classes A [(om k0 (va_up a 28 b2) (upd (upd (upd (upd (upd (upd (upd (upd I0 14 0) 19 (nI (dn + 1))) 20 0) 26 (nI t9)) 31 z9) 35 (nI n)) 36 (kd f)) 41 (nI (psN (nnF st tn mn) (psN (nnF st tn mn) w0 ft) ft))) J0), (oa (a 1) cI 201 kd), (oa (a 5) cI 201 st), (oa (a 7) cI 201 gb), (oa (a 10) cI 201 it), (oa (a 8) cI 201 pa), (oa (a 9) cI 201 pb), (oa (a 2) cI 201 rk), (oa (a 3) cI 201 wd), (oa (a 4) cI 201 tw), (oa (a 6) cZ 201 tn), (oa (a 11) cI 201 mn), (oa (a 12) cI 8040 (fgX f n (fun i => cF40 cx f i + dx) cx)), (oa (a 13) cI 8040 (fgX f n (fun i => cF40 cy f i + dy) cy)), (oa (a 27) cI 516 (upd (upd sa (dn - bs + 1) (nI (psN (nnF st tn mn) w0 ft))) (dn + 1 - bs + 1) (nI (psN (nnF st tn mn) (psN (nnF st tn mn) w0 ft) ft)))), (oa b2 cI (4096 * c2) sh2), (oa (a 16) cI 514 (upd wh (dn + 1) (nI 3))), (oa (a 17) cI 514 (upd of9 (dn + 1) (nI f))), (oa (a 18) cI 514 (upd we (dn + 1) (0 : Int32))), (oa (a 32) cI 8 S1), (oa (a 40) cI 6 T1), (oa (a 29) cI 42 P1), (oa (a 30) cI 42 Q1), (oa (a 33) cI 42 ox1), (oa (a 34) cI 42 oy1), (oa (a 37) cZ 201 mt1), (oa (a 38) cZ 201 wi1), (oa (a 39) cZ 8040 ins1), (oa (a 22) cI (64 * cl) la1), (oa (a 23) cI (64 * cl) lb1), (oa (a 24) cI (64 * cl) lc1), (oa (a 25) cI (64 * cl) ld1)] t.heap) (c2 - cp) (8192 * (c2 - cp)) := by
  refine zIn (own := "ScaleShopModel") (loc := [(0, .ref k0), (1, .int (nI f)), (2, .int (nI kk)), (3, .int dx), (4, .int dy), (5, .int (nI rr))]) rfl rfl rfl rfl (fun p e s m below meth c hx hb hr hts hown hlocks hml hnm9 A hA hS hP hD hK hXN Q9 hQ9 ls hl => ?_)
  have hum : upd mn f (nI n) = mn := upd_self hm_f
  have huk : upd kd f (kd f) = kd := upd_self rfl
  have hq1 := pw_le hpw_1
  have hq2 := pw_le hpw_2
  refine lv_aload_n hx hb dX11_shift_0 rfl (lv_at hl 0 rfl) ?_
  refine lv_iload_n hx hb dX11_shift_1 rfl (lv_at hl 1 rfl) ?_
  obtain ⟨hPc, hDc, hFc, hI1⟩ := zi_sub (wc := [_]) hP hD hS hA [0] rfl rfl
  refine zcall (st1 := [.int (pI (f < ft))]) (va_runV (As := [.int (nI f)]) (rest := []) ⟨hx, hb, hml, hown, hts⟩ (k_M_isFeature_n l dC dI cI cZ cF s.heap.size k0 a (upd I0 26 (nI ln)) J0 f ft (by first | with_reducible assumption | assumption) (by first | with_reducible assumption | omega) (by first | with_reducible assumption | omega)) (csV_178 hts rfl rfl ⟨Nat.le_of_ble_eq_true rfl, Nat.le_of_ble_eq_true rfl⟩) (zPV2 (q0 := 0) (ci := 9) hPc hDc hK hXN rfl rfl) rfl rfl hl.1 rfl (lv_room (Nat.le_of_ble_eq_true rfl)) dX11_shift_2 ⟨Nat.zero_le _, Nat.zero_le _⟩) hS hFc hFc rfl (fun t H locs ht hB hk1 hS => ?_)
  obtain ⟨hP1, hD1⟩ := hB
  rw [ht] at hP1
  replace hP := z0 hP hD hk1 hP1 hI1
  clear hk1 hPc hDc hFc hP1 hD1 ht hI1
  refine lv_if_eq (tgt := 35) hx hb dX11_shift_5 rfl (fun c_1 => ?_) (fun c_1 => ?_)
  · have c_1 : ¬ (f < ft) := zp_0 c_1
    refine lv_iconst (v := 0) hx hb dX11_shift_35 rfl ?_
    refine lv_istore (lv' := [(6, .int 0), (0, .ref k0), (1, .int (nI f)), (2, .int (nI kk)), (3, .int dx), (4, .int dy), (5, .int (nI rr))]) hx hb dX11_shift_36 hl (Nat.le_of_ble_eq_true rfl) rfl (fun ls hl => ?_)
    refine lv_aload_n hx hb dX11_shift_38 rfl (lv_at hl 1 rfl) ?_
    refine lv_iload_n hx hb dX11_shift_39 rfl (lv_at hl 2 rfl) ?_
    obtain ⟨hPc, hDc, hFc, hI1⟩ := zi_sub (wc := [_]) hP hD hS hA [0] rfl rfl
    refine zcall (st1 := [.int (pI (f < ft))]) (va_runV (As := [.int (nI f)]) (rest := []) ⟨hx, hb, hml, hown, hts⟩ (k_M_isFeature_n l dC dI cI cZ cF H.size k0 a (upd I0 26 (nI ln)) J0 f ft (by first | with_reducible assumption | assumption) (by first | with_reducible assumption | omega) (by first | with_reducible assumption | omega)) (csV_178 hts rfl rfl ⟨Nat.le_of_ble_eq_true rfl, Nat.le_of_ble_eq_true rfl⟩) (zPV2 (q0 := 0) (ci := 9) hPc hDc hK hXN rfl rfl) rfl rfl hl.1 rfl (lv_room (Nat.le_of_ble_eq_true rfl)) dX11_shift_40 ⟨Nat.zero_le _, Nat.zero_le _⟩) hS hFc hFc rfl (fun t H locs ht hB hk1 hS => ?_)
    obtain ⟨hP1, hD1⟩ := hB
    rw [ht] at hP1
    replace hP := z0 hP hD hk1 hP1 hI1
    clear hk1 hPc hDc hFc hP1 hD1 ht hI1
    refine lv_if_eq (tgt := 51) hx hb dX11_shift_43 rfl (fun c_2 => ?_) (fun c_2 => ?_)
    · have c_2 : ¬ (f < ft) := zp_0 c_2
      exfalso; omega
    · have c_2 : f < ft := zp_1 c_2
      refine lv_iload hx hb dX11_shift_46 (lv_at hl 0 rfl) ?_
      refine lv_if_eq (tgt := 55) hx hb dX11_shift_48 rfl (fun c_3 => ?_) (fun c_3 => ?_)
      · refine lv_aload_n hx hb dX11_shift_55 rfl (lv_at hl 1 rfl) ?_
        refine va_get (D := (dC, dI)) (ci := 9) (v := .ref (a 5)) (C := RX11) (T := TX11) (N := 55) hx hb hts inX11 hown hK hP 0 rfl rfl 5 (Nat.le_of_ble_eq_true rfl) (hts _ mw_1164) (fun _ h9 => h9) rfl dX11_shift_56 ?_
        refine lv_iload_n hx hb dX11_shift_59 rfl (lv_at hl 2 rfl) ?_
        have b9_4 : f < 201 := by omega
        refine z_iald hx hb hK hP 2 0 rfl rfl (e := f) rfl b9_4 (Nat.le_of_ble_eq_true rfl) dX11_shift_60 ?_
        refine lv_iconst (v := 1) hx hb dX11_shift_61 rfl ?_
        refine lv_icmp_eq (tgt := 69) hx hb dX11_shift_62 rfl (fun c_5 => ?_) (fun c_5 => ?_)
        · have c_5 : (st f).toInt = 1 := zc_eq rfl rfl c_5
          refine lv_iconst (v := 0) hx hb dX11_shift_69 rfl ?_
          refine lv_istore (lv' := [(7, .int 0), (6, .int 0), (0, .ref k0), (1, .int (nI f)), (2, .int (nI kk)), (3, .int dx), (4, .int dy), (5, .int (nI rr))]) hx hb dX11_shift_70 hl (Nat.le_of_ble_eq_true rfl) rfl (fun ls hl => ?_)
          refine lv_iload_n hx hb dX11_shift_72 rfl (lv_at hl 5 rfl) ?_
          refine lv_sipush (v := (-200)) hx hb dX11_shift_73 rfl ?_
          refine lv_icmp_lt (tgt := 114) hx hb dX11_shift_76 rfl (fun c_6 => ?_) (fun c_6 => ?_)
          · have c_6 : dx.toInt < (-200) := zc_lt rfl rfl c_6
            exfalso; omega
          · have c_6 : (-200) ≤ dx.toInt := zc_nlt rfl rfl c_6
            refine lv_iload_n hx hb dX11_shift_79 rfl (lv_at hl 5 rfl) ?_
            refine lv_sipush (v := 200) hx hb dX11_shift_80 rfl ?_
            refine lv_icmp_gt (tgt := 114) hx hb dX11_shift_83 rfl (fun c_7 => ?_) (fun c_7 => ?_)
            · have c_7 : 200 < dx.toInt := zc_lt rfl rfl c_7
              exfalso; omega
            · have c_7 : dx.toInt ≤ 200 := zc_nlt rfl rfl c_7
              refine lv_iload hx hb dX11_shift_86 (lv_at hl 6 rfl) ?_
              refine lv_sipush (v := (-200)) hx hb dX11_shift_88 rfl ?_
              refine lv_icmp_lt (tgt := 114) hx hb dX11_shift_91 rfl (fun c_8 => ?_) (fun c_8 => ?_)
              · have c_8 : dy.toInt < (-200) := zc_lt rfl rfl c_8
                exfalso; omega
              · have c_8 : (-200) ≤ dy.toInt := zc_nlt rfl rfl c_8
                refine lv_iload hx hb dX11_shift_94 (lv_at hl 6 rfl) ?_
                refine lv_sipush (v := 200) hx hb dX11_shift_96 rfl ?_
                refine lv_icmp_gt (tgt := 114) hx hb dX11_shift_99 rfl (fun c_9 => ?_) (fun c_9 => ?_)
                · have c_9 : 200 < dy.toInt := zc_lt rfl rfl c_9
                  exfalso; omega
                · have c_9 : dy.toInt ≤ 200 := zc_nlt rfl rfl c_9
                  refine lv_iload hx hb dX11_shift_102 (lv_at hl 7 rfl) ?_
                  have b9_11 : zlt (rr) := show rr < 2147483648 by omega
                  refine lv_if_lt (tgt := 114) hx hb dX11_shift_104 rfl (fun c_10 => ?_) (fun c_10 => ?_)
                  · have c_10 : ((rr : Nat) : Int) < 0 := zc_lt (nI_toInt b9_11) rfl c_10
                    exfalso; omega
                  · have c_10 : 0 ≤ ((rr : Nat) : Int) := zc_nlt (nI_toInt b9_11) rfl c_10
                    refine lv_iload hx hb dX11_shift_107 (lv_at hl 7 rfl) ?_
                    refine lv_bipush (v := 20) hx hb dX11_shift_109 rfl ?_
                    refine lv_icmp_le (tgt := 118) hx hb dX11_shift_111 rfl (fun c_12 => ?_) (fun c_12 => ?_)
                    · have c_12 : ((rr : Nat) : Int) ≤ 20 := zc_le (nI_toInt b9_11) rfl c_12
                      refine lv_iconst (v := 0) hx hb dX11_shift_118 rfl ?_
                      refine lv_istore (lv' := [(8, .int 0), (7, .int 0), (6, .int 0), (0, .ref k0), (1, .int (nI f)), (2, .int (nI kk)), (3, .int dx), (4, .int dy), (5, .int (nI rr))]) hx hb dX11_shift_119 hl (Nat.le_of_ble_eq_true rfl) rfl (fun ls hl => ?_)
                      refine lv_iload hx hb dX11_shift_121 (lv_at hl 1 rfl) ?_
                      refine lv_if_le (tgt := 131) hx hb dX11_shift_123 rfl (fun c_13 => ?_) (fun c_13 => ?_)
                      · refine lv_iload hx hb dX11_shift_131 (lv_at hl 0 rfl) ?_
                        refine lv_if_eq (tgt := 140) hx hb dX11_shift_133 rfl (fun c_14 => ?_) (fun c_14 => ?_)
                        · refine lv_aload_n hx hb dX11_shift_140 rfl (lv_at hl 3 rfl) ?_
                          refine va_get (D := (dC, dI)) (ci := 9) (v := .ref (a 6)) (C := RX11) (T := TX11) (N := 55) hx hb hts inX11 hown hK hP 0 rfl rfl 6 (Nat.le_of_ble_eq_true rfl) (hts _ mw_1165) (fun _ h9 => h9) rfl dX11_shift_141 ?_
                          refine lv_iload_n hx hb dX11_shift_144 rfl (lv_at hl 4 rfl) ?_
                          refine z_zald hx hb hK hP 10 1 rfl rfl (e := f) rfl b9_4 (Nat.le_of_ble_eq_true rfl) dX11_shift_145 ?_
                          refine lv_if_eq (tgt := 153) hx hb dX11_shift_146 rfl (fun c_15 => ?_) (fun c_15 => ?_)
                          · have c_15 : (tn f).toInt = 0 := zc_eq rfl rfl c_15
                            refine lv_iconst (v := 0) hx hb dX11_shift_153 rfl ?_
                            refine lv_istore (lv' := [(7, .int 0), (8, .int 0), (6, .int 0), (0, .ref k0), (1, .int (nI f)), (2, .int (nI kk)), (3, .int dx), (4, .int dy), (5, .int (nI rr))]) hx hb dX11_shift_154 hl (Nat.le_of_ble_eq_true rfl) rfl (fun ls hl => ?_)
                            refine lv_iload hx hb dX11_shift_156 (lv_at hl 0 rfl) ?_
                            refine lv_if_le (tgt := 168) hx hb dX11_shift_158 rfl (fun c_16 => ?_) (fun c_16 => ?_)
                            · refine lv_aload_n hx hb dX11_shift_168 rfl (lv_at hl 3 rfl) ?_
                              refine lv_iload_n hx hb dX11_shift_169 rfl (lv_at hl 4 rfl) ?_
                              obtain ⟨hPc, hDc, hFc⟩ := zo_sub (wc := [_, _, _, _, _, _, _, _, _, _, _, _, _]) hP hD hS hA [0, 2, 10, 1, 11, 12, 13, 19, 23, 24, 25, 26, 27] (by decide +kernel) rfl
                              refine zcall (st1 := []) (va_runV (As := [.int (nI f)]) (rest := []) ⟨hx, hb, hml, hown, hts⟩ (k_M_remember l dC dI cI cZ cF H.size k0 a (upd I0 26 (nI ln)) J0 f n ft st tn kd mn cx cy S0 ox oy mt wi ins (by first | with_reducible assumption | assumption) (by first | with_reducible assumption | omega) (by first | with_reducible assumption | omega) (by first | with_reducible assumption | assumption) (by first | with_reducible assumption | omega) (by first | with_reducible assumption | assumption) (fun q h1 _ => hwf q h1)) (csV_190 hts rfl rfl ⟨Nat.le_of_ble_eq_true rfl, Nat.le_of_ble_eq_true rfl⟩) (zPV2 (q0 := 0) (ci := 9) hPc hDc hK hXN rfl rfl) rfl rfl hl.1 rfl (lv_room (Nat.le_of_ble_eq_true rfl)) dX11_shift_170 ⟨Nat.zero_le _, Nat.zero_le _⟩) hS hFc hFc rfl (fun t H locs ht hB hk1 hS => ?_)
                              refine ex6 hB (fun S1 ox1 oy1 mt1 wi1 ins1 hB0 => ?_)
                              clear hB
                              obtain ⟨hox, hmt, hwi, hin, hP1, hD1⟩ := hB0
                              rw [ht] at hP1
                              obtain ⟨hP, hD⟩ := zn (W2 := [(om k0 a (upd (upd (upd I0 26 (nI ln)) 35 (nI n)) 36 (kd f)) J0), _, _, _, _, _, _, _, _, _, _, _, _, _, _, _, _, _, _, (oa (a 32) cI 8 S1), _, _, _, (oa (a 33) cI 42 ox1), (oa (a 34) cI 42 oy1), (oa (a 37) cZ 201 mt1), (oa (a 38) cZ 201 wi1), (oa (a 39) cZ 8040 ins1), _, _, _, _]) hP hD hk1 hFc hP1 hD1 zl_194 zl_195 zl_195 zl_194 (by decide +kernel) rfl rfl rfl rfl rfl
                              clear hk1 hPc hDc hFc hP1 hD1 ht
                              refine lv_aload_n hx hb dX11_shift_173 rfl (lv_at hl 3 rfl) ?_
                              refine va_get (D := (dC, dI)) (ci := 9) (v := .ref (a 1)) (C := RX11) (T := TX11) (N := 55) hx hb hts inX11 hown hK hP 0 rfl rfl 1 (Nat.le_of_ble_eq_true rfl) (hts _ mw_1160) (fun _ h9 => h9) rfl dX11_shift_174 ?_
                              refine lv_iload_n hx hb dX11_shift_177 rfl (lv_at hl 4 rfl) ?_
                              refine z_iald hx hb hK hP 1 0 rfl rfl (e := f) rfl b9_4 (Nat.le_of_ble_eq_true rfl) dX11_shift_178 ?_
                              have hj_17 : W p l e ({ frames := 8, cells := c2 - cp, slots := 8192 * (c2 - cp), locals := 210 } : Room) s m ([.ref k0, .int (nI f), .int (nI kk), .int dx, .int dy, .int (nI rr)] : List Value).toArray below meth c H locs 0 0 Q9 (F0 m 198 ls [.int 1]) := by
                                refine lv_istore (lv' := [(9, .int 1), (7, .int 0), (8, .int 0), (6, .int 0), (0, .ref k0), (1, .int (nI f)), (2, .int (nI kk)), (3, .int dx), (4, .int dy), (5, .int (nI rr))]) hx hb dX11_shift_198 hl (Nat.le_of_ble_eq_true rfl) rfl (fun ls hl => ?_)
                                refine lv_iconst (v := 0) hx hb dX11_shift_200 rfl ?_
                                refine lv_istore (lv' := [(10, .int 0), (9, .int 1), (7, .int 0), (8, .int 0), (6, .int 0), (0, .ref k0), (1, .int (nI f)), (2, .int (nI kk)), (3, .int dx), (4, .int dy), (5, .int (nI rr))]) hx hb dX11_shift_201 hl (Nat.le_of_ble_eq_true rfl) rfl (fun ls hl => ?_)
                                have hl_203 : ∀ (n9 : Nat) (k : Nat) (cx1 : Nat → Int32) (cy1 : Nat → Int32) (H : Heap) (locs : List Loc) (ls : Array Slot), n - k < n9 → (k ≤ n) → (cx1 = fgX f k (fun i => cF40 cx f i + dx) cx) → (cy1 = fgX f k (fun i => cF40 cy f i + dy) cy) → va_P (dC, dI) classes [(om k0 a (upd (upd (upd I0 26 (nI ln)) 35 (nI n)) 36 (kd f)) J0), (oa (a 1) cI 201 kd), (oa (a 5) cI 201 st), (oa (a 7) cI 201 gb), (oa (a 10) cI 201 it), (oa (a 8) cI 201 pa), (oa (a 9) cI 201 pb), (oa (a 2) cI 201 rk), (oa (a 3) cI 201 wd), (oa (a 4) cI 201 tw), (oa (a 6) cZ 201 tn), (oa (a 11) cI 201 mn), (oa (a 12) cI 8040 cx1), (oa (a 13) cI 8040 cy1), (oa (a 27) cI 516 sa), (oa (a 28) cI (4096 * cp) sh), (oa (a 16) cI 514 wh), (oa (a 17) cI 514 of9), (oa (a 18) cI 514 we), (oa (a 32) cI 8 S1), (oa (a 40) cI 6 T0), (oa (a 29) cI 42 P0), (oa (a 30) cI 42 Q0), (oa (a 33) cI 42 ox1), (oa (a 34) cI 42 oy1), (oa (a 37) cZ 201 mt1), (oa (a 38) cZ 201 wi1), (oa (a 39) cZ 8040 ins1), (oa (a 22) cI (64 * cl) la), (oa (a 23) cI (64 * cl) lb), (oa (a 24) cI (64 * cl) lc), (oa (a 25) cI (64 * cl) ld)] H → va_D A [(om k0 a (upd (upd (upd I0 26 (nI ln)) 35 (nI n)) 36 (kd f)) J0), (oa (a 1) cI 201 kd), (oa (a 5) cI 201 st), (oa (a 7) cI 201 gb), (oa (a 10) cI 201 it), (oa (a 8) cI 201 pa), (oa (a 9) cI 201 pb), (oa (a 2) cI 201 rk), (oa (a 3) cI 201 wd), (oa (a 4) cI 201 tw), (oa (a 6) cZ 201 tn), (oa (a 11) cI 201 mn), (oa (a 12) cI 8040 cx1), (oa (a 13) cI 8040 cy1), (oa (a 27) cI 516 sa), (oa (a 28) cI (4096 * cp) sh), (oa (a 16) cI 514 wh), (oa (a 17) cI 514 of9), (oa (a 18) cI 514 we), (oa (a 32) cI 8 S1), (oa (a 40) cI 6 T0), (oa (a 29) cI 42 P0), (oa (a 30) cI 42 Q0), (oa (a 33) cI 42 ox1), (oa (a 34) cI 42 oy1), (oa (a 37) cZ 201 mt1), (oa (a 38) cZ 201 wi1), (oa (a 39) cZ 8040 ins1), (oa (a 22) cI (64 * cl) la), (oa (a 23) cI (64 * cl) lb), (oa (a 24) cI (64 * cl) lc), (oa (a 25) cI (64 * cl) ld)] → va_S A s.heap H locs → lv_has ls 13 [(10, .int (nI k)), (9, .int 1), (7, .int 0), (8, .int 0), (6, .int 0), (0, .ref k0), (1, .int (nI f)), (2, .int (nI kk)), (3, .int dx), (4, .int dy), (5, .int (nI rr))] → W p l e ({ frames := 8, cells := c2 - cp, slots := 8192 * (c2 - cp), locals := 210 } : Room) s m ([.ref k0, .int (nI f), .int (nI kk), .int dx, .int dy, .int (nI rr)] : List Value).toArray below meth c H locs 0 0 Q9 (F0 m 203 ls []) := by
                                  intro n9
                                  induction n9 with
                                  | zero => intro k cx1 cy1 H locs ls hm; exact absurd hm (Nat.not_lt_zero _)
                                  | succ n9 ih_203 =>
                                    intro k cx1 cy1 H locs ls hm hk hcx hcy hP hD hS hl
                                    refine lv_iload hx hb dX11_shift_203 (lv_at hl 0 rfl) ?_
                                    refine lv_aload_n hx hb dX11_shift_205 rfl (lv_at hl 5 rfl) ?_
                                    refine va_get (D := (dC, dI)) (ci := 9) (v := .int (nI n)) (C := RX11) (T := TX11) (N := 55) hx hb hts inX11 hown hK hP 0 rfl rfl 35 (Nat.le_of_ble_eq_true rfl) (hts _ mw_1194) (fun _ h9 => h9) rfl dX11_shift_206 ?_
                                    have b9_19 : zlt (k) := show k < 2147483648 by omega
                                    have b9_20 : zlt (n) := show n < 2147483648 by omega
                                    refine lv_icmp_ge (tgt := 367) hx hb dX11_shift_209 rfl (fun c_18 => ?_) (fun c_18 => ?_)
                                    · have c_18 : ((n : Nat) : Int) ≤ ((k : Nat) : Int) := zc_le (nI_toInt b9_20) (nI_toInt b9_19) c_18
                                      have hkn : k = n := (by omega)
                                      rw [hkn] at hcx hcy
                                      refine lv_aload_n hx hb dX11_shift_367 rfl (lv_at hl 5 rfl) ?_
                                      refine lv_iload_n hx hb dX11_shift_368 rfl (lv_at hl 6 rfl) ?_
                                      obtain ⟨hPc, hDc, hFc, hI1⟩ := zi_sub (wc := [_, _, _, _, _]) hP hD hS hA [0, 12, 13, 23, 24] (by decide +kernel) rfl
                                      refine zcall (st1 := [.int (pI (∃ k, k < n ∧ ¬ ((cx1 (40 * f + k)).toInt = (ox1 k).toInt ∧ (cy1 (40 * f + k)).toInt = (oy1 k).toInt)))]) (va_runV (As := [.int (nI f)]) (rest := []) ⟨hx, hb, hml, hown, hts⟩ (k_M_moves l dC dI cI cZ cF H.size k0 a (upd (upd (upd I0 26 (nI ln)) 35 (nI n)) 36 (kd f)) J0 f n cx1 cy1 ox1 oy1 (by first | with_reducible assumption | omega) (rfl) (by first | with_reducible assumption | omega)) (csV_211 hts rfl rfl ⟨Nat.le_of_ble_eq_true rfl, Nat.le_of_ble_eq_true rfl⟩) (zPV2 (q0 := 0) (ci := 9) hPc hDc hK hXN rfl rfl) rfl rfl hl.1 rfl (lv_room (Nat.le_of_ble_eq_true rfl)) dX11_shift_369 ⟨Nat.zero_le _, Nat.zero_le _⟩) hS hFc hFc rfl (fun t H locs ht hB hk1 hS => ?_)
                                      obtain ⟨hP1, hD1⟩ := hB
                                      rw [ht] at hP1
                                      replace hP := z0 hP hD hk1 hP1 hI1
                                      clear hk1 hPc hDc hFc hP1 hD1 ht hI1
                                      refine zz_i (v := pI (mvd n (fun i => cF40 cx f i + dx) (fun i => cF40 cy f i + dy) (cF40 cx f) (cF40 cy f))) (zp_iff (mv_iff hcx hcy hox)) ?_
                                      refine lv_if_ne (tgt := 382) hx hb dX11_shift_372 rfl (fun c_21 => ?_) (fun c_21 => ?_)
                                      · have c_21 : mvd n (fun i => cF40 cx f i + dx) (fun i => cF40 cy f i + dy) (cF40 cx f) (cF40 cy f) := zp_1 c_21
                                        refine lv_aload_n hx hb dX11_shift_382 rfl (lv_at hl 5 rfl) ?_
                                        refine lv_iload_n hx hb dX11_shift_383 rfl (lv_at hl 6 rfl) ?_
                                        refine lv_iconst (v := 3) hx hb dX11_shift_384 rfl ?_
                                        refine zz_i (v := nI 3) (rfl) ?_
                                        have hbx : fgX f n ox1 cx1 = cx := (by rw [hcx]; exact fgX_back (fun k9 h9 => (hox k9 h9).1))
                                        have hby : fgX f n oy1 cy1 = cy := (by rw [hcy]; exact fgX_back (fun k9 h9 => (hox k9 h9).2))
                                        have hlq := lwM_eq (ft := ft) (st := st) (tn := tn) (kd := kd) (mn := mn) hn_f.1 hcx hcy hox
                                        have hpo : pls n ox1 oy1 := fun j hj => by rw [(hox j hj).1, (hox j hj).2]; exact hp_f j hj
                                        have hwf2 : ∀ q, lvF ft st tn q → q ≠ f → wfM mn cx1 cy1 q := fun q h1 h2 => wfM_o (hwf q h1) h2 (fun _ _ => rfl) (fun j hj => by rw [hcx, hcy]; exact ⟨fgX_o (by omega), fgX_o (by omega)⟩)
                                        obtain ⟨hPc, hDc, hFc⟩ := zo_sub (wc := [_, _, _, _, _, _, _, _, _, _, _, _, _, _, _, _, _, _, _, _, _, _, _, _, _, _, _, _, _, _, _, _]) hP hD hS hA [0, 1, 2, 3, 4, 5, 6, 7, 8, 9, 10, 11, 12, 13, 14, 15, 16, 17, 18, 19, 20, 21, 22, 23, 24, 25, 26, 27, 28, 29, 30, 31] (by decide +kernel) rfl
                                        refine zcall (st1 := [.int 1]) (va_runV (As := [.int (nI f), .int (nI 3)]) (rest := []) ⟨hx, hb, hml, hown, hts⟩ (k_M_changes_my l dC dI cI cZ cF H.size k0 a (upd (upd (upd I0 26 (nI ln)) 35 (nI n)) 36 (kd f)) J0 f n ft n (kd f) 3 kd st gb it pa pb rk wd tw tn mn cx1 cy1 sa sh wh of9 we S1 T0 P0 Q0 ox1 oy1 mt1 wi1 ins1 la lb lc ld (bMt kd mn cx cy f n) (bWi kd mn cx cy f) (bIn kd cx cy f n) dn bs w0 cp c1 c2 ln cl (hft) (by first | with_reducible assumption | omega) (by first | with_reducible assumption | omega) (hm_f) (by first | with_reducible assumption | omega) (hwf2) (by first | with_reducible assumption | omega) (by first | with_reducible assumption | omega) (hpo) (hmt) (fun q h1 h2 h5 => by rw [hwi q h1 h2]; exact zp_iff ⟨fun h => h.2, fun h => ⟨h5, h⟩⟩) (fun q h1 h2 i hi h5 => hin q h1 h2 h5 i hi) (by first | with_reducible assumption | omega) (rfl) (hft_f) (hdn) (hbs) (by first | with_reducible assumption | omega) (by first | with_reducible assumption | omega) (hi5_1) (hsa_1) (by rw [hum]; exact hmn_1) (hc1_1) (hpw_1) (hw0_1) (by rw [hum]; exact hfit_1) (by rw [hum]; exact hmin_1) (hcE_1) (hmn_1) (hpw_2) (by rw [hum]; exact hfit_2) (by rw [hum]; exact hmin_2) (hcE_2) (fun j h1 h2 => by omega) (hlc) (hcl1) (hclm) (trivial) (by rw [hlq]; exact hlaw)) (csV_212 hts rfl rfl ⟨Nat.le_of_ble_eq_true rfl, Nat.le_of_ble_eq_true rfl⟩) (zPV2 (q0 := 0) (ci := 9) hPc hDc hK hXN rfl rfl) rfl rfl hl.1 rfl (lv_room (Nat.le_of_ble_eq_true rfl)) dX11_shift_385 ⟨show (0 + (c2 - cp)) ≤ c2 - cp by omega, show (0 + (8192 * (c2 - cp))) ≤ 8192 * (c2 - cp) by omega⟩) hS hFc hFc rfl (fun t H locs ht hB hk1 hS => ?_)
                                        refine ex12 hB (fun z8 b2 sh2 t9 S2 T2 P2 Q2 la1 lb1 lc1 ld1 hB0 => ?_)
                                        clear hB
                                        obtain ⟨p0, p1, p2, p3, p4, p5, p6, hP1, hD1⟩ := hB0
                                        rw [ht] at hP1
                                        obtain ⟨hP, hD⟩ := zn (W2 := [(om k0 (va_up a 28 b2) (upd (upd (upd (upd (upd (upd (upd (upd I0 14 0) 19 (nI (dn + 1))) 20 0) 26 (nI t9)) 31 z8) 35 (nI n)) 36 (kd f)) 41 (nI (psN (nnF st tn mn) (psN (nnF st tn (upd mn f (nI n))) w0 ft) ft))) J0), (oa (a 1) cI 201 kd), (oa (a 5) cI 201 st), (oa (a 7) cI 201 gb), (oa (a 10) cI 201 it), (oa (a 8) cI 201 pa), (oa (a 9) cI 201 pb), (oa (a 2) cI 201 rk), (oa (a 3) cI 201 wd), (oa (a 4) cI 201 tw), (oa (a 6) cZ 201 tn), (oa (a 11) cI 201 mn), (oa (a 12) cI 8040 cx1), (oa (a 13) cI 8040 cy1), (oa (a 27) cI 516 (upd (upd sa (dn - bs + 1) (nI (psN (nnF st tn (upd mn f (nI n))) w0 ft))) (dn + 1 - bs + 1) (nI (psN (nnF st tn mn) (psN (nnF st tn (upd mn f (nI n))) w0 ft) ft)))), (oa b2 cI (4096 * c2) sh2), (oa (a 16) cI 514 (upd wh (dn + 1) (nI 3))), (oa (a 17) cI 514 (upd of9 (dn + 1) (nI f))), (oa (a 18) cI 514 (upd we (dn + 1) (0 : Int32))), (oa (a 32) cI 8 S2), (oa (a 40) cI 6 T2), (oa (a 29) cI 42 P2), (oa (a 30) cI 42 Q2), (oa (a 33) cI 42 ox1), (oa (a 34) cI 42 oy1), (oa (a 37) cZ 201 mt1), (oa (a 38) cZ 201 wi1), (oa (a 39) cZ 8040 ins1), (oa (a 22) cI (64 * cl) la1), (oa (a 23) cI (64 * cl) lb1), (oa (a 24) cI (64 * cl) lc1), (oa (a 25) cI (64 * cl) ld1)]) hP hD hk1 hFc hP1 hD1 zl_196 [] zl_197 zl_196 (by decide +kernel) rfl rfl rfl rfl rfl
                                        clear hk1 hPc hDc hFc hP1 hD1 ht
                                        obtain ⟨hP9, hD9⟩ := zu_sub (wc := [(om k0 (va_up a 28 b2) (upd (upd (upd (upd (upd (upd (upd (upd I0 14 0) 19 (nI (dn + 1))) 20 0) 26 (nI t9)) 31 z8) 35 (nI n)) 36 (kd f)) 41 (nI (psN (nnF st tn mn) (psN (nnF st tn (upd mn f (nI n))) w0 ft) ft))) J0), (oa (a 1) cI 201 kd), (oa (a 5) cI 201 st), (oa (a 7) cI 201 gb), (oa (a 10) cI 201 it), (oa (a 8) cI 201 pa), (oa (a 9) cI 201 pb), (oa (a 2) cI 201 rk), (oa (a 3) cI 201 wd), (oa (a 4) cI 201 tw), (oa (a 6) cZ 201 tn), (oa (a 11) cI 201 mn), (oa (a 12) cI 8040 cx1), (oa (a 13) cI 8040 cy1), (oa (a 27) cI 516 (upd (upd sa (dn - bs + 1) (nI (psN (nnF st tn (upd mn f (nI n))) w0 ft))) (dn + 1 - bs + 1) (nI (psN (nnF st tn mn) (psN (nnF st tn (upd mn f (nI n))) w0 ft) ft)))), (oa b2 cI (4096 * c2) sh2), (oa (a 16) cI 514 (upd wh (dn + 1) (nI 3))), (oa (a 17) cI 514 (upd of9 (dn + 1) (nI f))), (oa (a 18) cI 514 (upd we (dn + 1) (0 : Int32))), (oa (a 32) cI 8 S2), (oa (a 40) cI 6 T2), (oa (a 29) cI 42 P2), (oa (a 30) cI 42 Q2), (oa (a 33) cI 42 ox1), (oa (a 34) cI 42 oy1), (oa (a 37) cZ 201 mt1), (oa (a 38) cZ 201 wi1), (oa (a 39) cZ 8040 ins1), (oa (a 22) cI (64 * cl) la1), (oa (a 23) cI (64 * cl) lb1), (oa (a 24) cI (64 * cl) lc1), (oa (a 25) cI (64 * cl) ld1)]) hP hD (true :: true :: true :: true :: true :: true :: true :: true :: true :: true :: true :: true :: true :: true :: true :: true :: true :: true :: true :: true :: true :: true :: true :: true :: true :: true :: true :: true :: true :: true :: true :: true :: []) rfl rfl
                                        have hE9 : ([(om k0 (va_up a 28 b2) (upd (upd (upd (upd (upd (upd (upd (upd I0 14 0) 19 (nI (dn + 1))) 20 0) 26 (nI t9)) 31 z8) 35 (nI n)) 36 (kd f)) 41 (nI (psN (nnF st tn mn) (psN (nnF st tn (upd mn f (nI n))) w0 ft) ft))) J0), (oa (a 1) cI 201 kd), (oa (a 5) cI 201 st), (oa (a 7) cI 201 gb), (oa (a 10) cI 201 it), (oa (a 8) cI 201 pa), (oa (a 9) cI 201 pb), (oa (a 2) cI 201 rk), (oa (a 3) cI 201 wd), (oa (a 4) cI 201 tw), (oa (a 6) cZ 201 tn), (oa (a 11) cI 201 mn), (oa (a 12) cI 8040 cx1), (oa (a 13) cI 8040 cy1), (oa (a 27) cI 516 (upd (upd sa (dn - bs + 1) (nI (psN (nnF st tn (upd mn f (nI n))) w0 ft))) (dn + 1 - bs + 1) (nI (psN (nnF st tn mn) (psN (nnF st tn (upd mn f (nI n))) w0 ft) ft)))), (oa b2 cI (4096 * c2) sh2), (oa (a 16) cI 514 (upd wh (dn + 1) (nI 3))), (oa (a 17) cI 514 (upd of9 (dn + 1) (nI f))), (oa (a 18) cI 514 (upd we (dn + 1) (0 : Int32))), (oa (a 32) cI 8 S2), (oa (a 40) cI 6 T2), (oa (a 29) cI 42 P2), (oa (a 30) cI 42 Q2), (oa (a 33) cI 42 ox1), (oa (a 34) cI 42 oy1), (oa (a 37) cZ 201 mt1), (oa (a 38) cZ 201 wi1), (oa (a 39) cZ 8040 ins1), (oa (a 22) cI (64 * cl) la1), (oa (a 23) cI (64 * cl) lb1), (oa (a 24) cI (64 * cl) lc1), (oa (a 25) cI (64 * cl) ld1)] : va_W) = [(om k0 (va_up a 28 b2) (upd (upd (upd (upd (upd (upd (upd (upd I0 14 0) 19 (nI (dn + 1))) 20 0) 26 (nI t9)) 31 z8) 35 (nI n)) 36 (kd f)) 41 (nI (psN (nnF st tn mn) (psN (nnF st tn mn) w0 ft) ft))) J0), (oa (a 1) cI 201 kd), (oa (a 5) cI 201 st), (oa (a 7) cI 201 gb), (oa (a 10) cI 201 it), (oa (a 8) cI 201 pa), (oa (a 9) cI 201 pb), (oa (a 2) cI 201 rk), (oa (a 3) cI 201 wd), (oa (a 4) cI 201 tw), (oa (a 6) cZ 201 tn), (oa (a 11) cI 201 mn), (oa (a 12) cI 8040 (fgX f n (fun i => cF40 cx f i + dx) cx)), (oa (a 13) cI 8040 (fgX f n (fun i => cF40 cy f i + dy) cy)), (oa (a 27) cI 516 (upd (upd sa (dn - bs + 1) (nI (psN (nnF st tn mn) w0 ft))) (dn + 1 - bs + 1) (nI (psN (nnF st tn mn) (psN (nnF st tn mn) w0 ft) ft)))), (oa b2 cI (4096 * c2) sh2), (oa (a 16) cI 514 (upd wh (dn + 1) (nI 3))), (oa (a 17) cI 514 (upd of9 (dn + 1) (nI f))), (oa (a 18) cI 514 (upd we (dn + 1) (0 : Int32))), (oa (a 32) cI 8 S2), (oa (a 40) cI 6 T2), (oa (a 29) cI 42 P2), (oa (a 30) cI 42 Q2), (oa (a 33) cI 42 ox1), (oa (a 34) cI 42 oy1), (oa (a 37) cZ 201 mt1), (oa (a 38) cZ 201 wi1), (oa (a 39) cZ 8040 ins1), (oa (a 22) cI (64 * cl) la1), (oa (a 23) cI (64 * cl) lb1), (oa (a 24) cI (64 * cl) lc1), (oa (a 25) cI (64 * cl) ld1)] := by rw [hum, hcx, hcy]
                                        rw [hE9] at hP9 hD9
                                        refine W.widen (k := c2 - cp) (n := 8192 * (c2 - cp)) (by omega) (by omega) ?_
                                        rw [hQ9]
                                        exact W.zret (ty := .boolean) (v := 1) hx hb hr (rfl) (fun t ht hW => ⟨⟨rfl, z8, b2, sh2, t9, S2, T2, P2, Q2, ox1, oy1, mt1, wi1, ins1, la1, lb1, lc1, ld1, (p0), (p1), (by have h9 := p2; rw [hum, huk, hbx, hby] at h9; exact h9), (by have h9 := p3; rw [hum] at h9; exact h9), (by have h9 := p4; rw [hum, hcx, hcy] at h9; exact h9), (p5), (p6), by rw [ht]; exact hP9, hD9⟩, hS.F ht⟩) hS.2.2 dX11_shift_388
                                      · have c_21 : ¬ (mvd n (fun i => cF40 cx f i + dx) (fun i => cF40 cy f i + dy) (cF40 cx f) (cF40 cy f)) := zp_0 c_21
                                        exfalso; exact absurd hmv (by first | with_reducible assumption | assumption)
                                    · have c_18 : ((k : Nat) : Int) < ((n : Nat) : Int) := zc_nle (nI_toInt b9_20) (nI_toInt b9_19) c_18
                                      have hk9 : k < n := (by omega)
                                      refine lv_aload_n hx hb dX11_shift_212 rfl (lv_at hl 5 rfl) ?_
                                      refine lv_iload_n hx hb dX11_shift_213 rfl (lv_at hl 6 rfl) ?_
                                      refine lv_iload_n hx hb dX11_shift_214 rfl (lv_at hl 7 rfl) ?_
                                      refine lv_iload hx hb dX11_shift_215 (lv_at hl 0 rfl) ?_
                                      obtain ⟨hPc, hDc, hFc, hI1⟩ := zi_sub (wc := [_, _]) hP hD hS hA [0, 1] rfl rfl
                                      refine zcall (st1 := [.int (nI (wyR (kd f).toInt n kk k))]) (va_runV (As := [.int (nI f), .int (nI kk), .int (nI k)]) (rest := []) ⟨hx, hb, hml, hown, hts⟩ (k_M_wayOf l dC dI cI cZ cF H.size k0 a (upd (upd (upd I0 26 (nI ln)) 35 (nI n)) 36 (kd f)) J0 f n kk k kd (by first | with_reducible assumption | omega) (by first | with_reducible assumption | omega) (hkk) (by first | with_reducible assumption | omega)) (csV_216 hts rfl rfl ⟨Nat.le_of_ble_eq_true rfl, Nat.le_of_ble_eq_true rfl⟩) (zPV2 (q0 := 0) (ci := 9) hPc hDc hK hXN rfl rfl) rfl rfl hl.1 rfl (lv_room (Nat.le_of_ble_eq_true rfl)) dX11_shift_217 ⟨Nat.zero_le _, Nat.zero_le _⟩) hS hFc hFc rfl (fun t H locs ht hB hk1 hS => ?_)
                                      obtain ⟨hP1, hD1⟩ := hB
                                      rw [ht] at hP1
                                      replace hP := z0 hP hD hk1 hP1 hI1
                                      clear hk1 hPc hDc hFc hP1 hD1 ht hI1
                                      refine lv_istore (lv' := [(11, .int (nI (wyR (kd f).toInt n kk k))), (10, .int (nI k)), (9, .int 1), (7, .int 0), (8, .int 0), (6, .int 0), (0, .ref k0), (1, .int (nI f)), (2, .int (nI kk)), (3, .int dx), (4, .int dy), (5, .int (nI rr))]) hx hb dX11_shift_220 hl (Nat.le_of_ble_eq_true rfl) rfl (fun ls hl => ?_)
                                      refine lv_iload hx hb dX11_shift_222 (lv_at hl 2 rfl) ?_
                                      refine lv_if_ne (tgt := 262) hx hb dX11_shift_224 rfl (fun c_22 => ?_) (fun c_22 => ?_)
                                      · refine lv_iconst (v := 0) hx hb dX11_shift_262 rfl ?_
                                        refine lv_istore (lv' := [(12, .int 0), (11, .int (nI (wyR (kd f).toInt n kk k))), (10, .int (nI k)), (9, .int 1), (7, .int 0), (8, .int 0), (6, .int 0), (0, .ref k0), (1, .int (nI f)), (2, .int (nI kk)), (3, .int dx), (4, .int dy), (5, .int (nI rr))]) hx hb dX11_shift_263 hl (Nat.le_of_ble_eq_true rfl) rfl (fun ls hl => ?_)
                                        refine lv_iload hx hb dX11_shift_265 (lv_at hl 0 rfl) ?_
                                        refine lv_if_eq (tgt := 273) hx hb dX11_shift_267 rfl (fun c_23 => ?_) (fun c_23 => ?_)
                                        · refine lv_aload_n hx hb dX11_shift_273 rfl (lv_at hl 7 rfl) ?_
                                          refine va_get (D := (dC, dI)) (ci := 9) (v := .ref (a 12)) (C := RX11) (T := TX11) (N := 55) hx hb hts inX11 hown hK hP 0 rfl rfl 12 (Nat.le_of_ble_eq_true rfl) (hts _ mw_1171) (fun _ h9 => h9) rfl dX11_shift_274 ?_
                                          refine lv_bipush (v := 40) hx hb dX11_shift_277 rfl ?_
                                          refine lv_iload_n hx hb dX11_shift_279 rfl (lv_at hl 8 rfl) ?_
                                          refine lv_imul hx hb dX11_shift_280 ?_
                                          refine zz_i (v := nI (40 * f)) (pk_mul 40 f) ?_
                                          refine lv_iload hx hb dX11_shift_281 (lv_at hl 2 rfl) ?_
                                          refine lv_iadd hx hb dX11_shift_283 ?_
                                          refine zz_i (v := nI (40 * f + k)) (nI_add (40 * f) k) ?_
                                          refine lv_aload_n hx hb dX11_shift_284 rfl (lv_at hl 7 rfl) ?_
                                          refine va_get (D := (dC, dI)) (ci := 9) (v := .ref (a 33)) (C := RX11) (T := TX11) (N := 55) hx hb hts inX11 hown hK hP 0 rfl rfl 33 (Nat.le_of_ble_eq_true rfl) (hts _ mw_1192) (fun _ h9 => h9) rfl dX11_shift_285 ?_
                                          refine lv_iload hx hb dX11_shift_288 (lv_at hl 2 rfl) ?_
                                          have b9_24 : k < 42 := by omega
                                          refine z_iald hx hb hK hP 23 0 rfl rfl (e := k) rfl b9_24 (Nat.le_of_ble_eq_true rfl) dX11_shift_290 ?_
                                          refine zz_i (v := cF40 cx f k) ((hox _ hk9).1) ?_
                                          refine lv_iload hx hb dX11_shift_291 (lv_at hl 3 rfl) ?_
                                          refine lv_if_eq (tgt := 300) hx hb dX11_shift_293 rfl (fun c_25 => ?_) (fun c_25 => ?_)
                                          · exact absurd c_25 (by decide)
                                          · refine lv_iload_n hx hb dX11_shift_296 rfl (lv_at hl 10 rfl) ?_
                                            refine lv_goto (tgt := 314) hx hb dX11_shift_297 rfl ?_
                                            refine lv_iadd hx hb dX11_shift_314 ?_
                                            have b9_26 : 40 * f + k < 8040 := by omega
                                            refine z_iast hx hb hK hP hD hS 12 0 rfl rfl (e := 40 * f + k) (x := (cF40 cx f k) + dx) rfl b9_26 (Nat.le_of_ble_eq_true rfl) dX11_shift_315 (fun H locs hP hD hS => ?_)
                                            obtain ⟨hP, hD⟩ := zre (W2 := [_, _, _, _, _, _, _, _, _, _, _, _, (oa (a 12) cI 8040 (upd cx1 (40 * f + k) ((cF40 cx f k) + dx))), _, _, _, _, _, _, _, _, _, _, _, _, _, _, _, _, _, _, _]) hP hD rfl
                                            refine lv_aload_n hx hb dX11_shift_316 rfl (lv_at hl 7 rfl) ?_
                                            refine va_get (D := (dC, dI)) (ci := 9) (v := .ref (a 13)) (C := RX11) (T := TX11) (N := 55) hx hb hts inX11 hown hK hP 0 rfl rfl 13 (Nat.le_of_ble_eq_true rfl) (hts _ mw_1172) (fun _ h9 => h9) rfl dX11_shift_317 ?_
                                            refine lv_bipush (v := 40) hx hb dX11_shift_320 rfl ?_
                                            refine lv_iload_n hx hb dX11_shift_322 rfl (lv_at hl 8 rfl) ?_
                                            refine lv_imul hx hb dX11_shift_323 ?_
                                            refine zz_i (v := nI (40 * f)) (pk_mul 40 f) ?_
                                            refine lv_iload hx hb dX11_shift_324 (lv_at hl 2 rfl) ?_
                                            refine lv_iadd hx hb dX11_shift_326 ?_
                                            refine zz_i (v := nI (40 * f + k)) (nI_add (40 * f) k) ?_
                                            refine lv_aload_n hx hb dX11_shift_327 rfl (lv_at hl 7 rfl) ?_
                                            refine va_get (D := (dC, dI)) (ci := 9) (v := .ref (a 34)) (C := RX11) (T := TX11) (N := 55) hx hb hts inX11 hown hK hP 0 rfl rfl 34 (Nat.le_of_ble_eq_true rfl) (hts _ mw_1193) (fun _ h9 => h9) rfl dX11_shift_328 ?_
                                            refine lv_iload hx hb dX11_shift_331 (lv_at hl 2 rfl) ?_
                                            refine z_iald hx hb hK hP 24 0 rfl rfl (e := k) rfl b9_24 (Nat.le_of_ble_eq_true rfl) dX11_shift_333 ?_
                                            refine zz_i (v := cF40 cy f k) ((hox _ hk9).2) ?_
                                            refine lv_iload hx hb dX11_shift_334 (lv_at hl 3 rfl) ?_
                                            refine lv_if_eq (tgt := 344) hx hb dX11_shift_336 rfl (fun c_27 => ?_) (fun c_27 => ?_)
                                            · exact absurd c_27 (by decide)
                                            · refine lv_iload hx hb dX11_shift_339 (lv_at hl 11 rfl) ?_
                                              refine lv_goto (tgt := 359) hx hb dX11_shift_341 rfl ?_
                                              refine lv_iadd hx hb dX11_shift_359 ?_
                                              refine z_iast hx hb hK hP hD hS 13 0 rfl rfl (e := 40 * f + k) (x := (cF40 cy f k) + dy) rfl b9_26 (Nat.le_of_ble_eq_true rfl) dX11_shift_360 (fun H locs hP hD hS => ?_)
                                              obtain ⟨hP, hD⟩ := zre (W2 := [_, _, _, _, _, _, _, _, _, _, _, _, _, (oa (a 13) cI 8040 (upd cy1 (40 * f + k) ((cF40 cy f k) + dy))), _, _, _, _, _, _, _, _, _, _, _, _, _, _, _, _, _, _]) hP hD rfl
                                              refine lv_iinc (v := nI (k + 1)) (lv' := [(10, .int (nI (k + 1))), (12, .int 0), (11, .int (nI (wyR (kd f).toInt n kk k))), (9, .int 1), (7, .int 0), (8, .int 0), (6, .int 0), (0, .ref k0), (1, .int (nI f)), (2, .int (nI kk)), (3, .int dx), (4, .int dy), (5, .int (nI rr))]) hx hb dX11_shift_361 hl (k := 2) rfl (nI_add k 1) (Nat.le_of_ble_eq_true rfl) rfl (fun ls hl => ?_)
                                              refine lv_goto (tgt := 203) hx hb dX11_shift_364 rfl ?_
                                              exact ih_203 (k + 1) (upd cx1 (40 * f + k) ((cF40 cx f k) + dx)) (upd cy1 (40 * f + k) ((cF40 cy f k) + dy)) H locs ls (by first | with_reducible assumption | omega) (by first | with_reducible assumption | omega) (fgX_u hcx rfl) (fgX_u hcy rfl) hP hD hS (lv_sub hl [0, 3, 4, 5, 6, 7, 8, 9, 10, 11, 12] rfl)
                                        · exact absurd (by decide) c_23
                                      · exact absurd c_22 (by decide)
                                exact hl_203 _ 0 cx cy H locs ls (Nat.lt_succ_self _) (by first | with_reducible assumption | omega) (fgX_0 _ _ _) (fgX_0 _ _ _) hP hD hS (lv_sub hl [0, 1, 2, 3, 4, 5, 6, 7, 8, 9, 10] rfl)
                              refine lv_if_eq (tgt := 193) hx hb dX11_shift_179 rfl (fun c_28 => ?_) (fun c_28 => ?_)
                              · have c_28 : (kd f).toInt = 0 := zc_eq rfl rfl c_28
                                refine lv_iconst (v := 1) hx hb dX11_shift_193 rfl ?_
                                refine lv_goto (tgt := 198) hx hb dX11_shift_194 rfl ?_
                                exact hj_17 
                              · have c_28 : ¬ (kd f).toInt = 0 := zc_ne rfl rfl c_28
                                refine lv_aload_n hx hb dX11_shift_182 rfl (lv_at hl 3 rfl) ?_
                                refine va_get (D := (dC, dI)) (ci := 9) (v := .ref (a 1)) (C := RX11) (T := TX11) (N := 55) hx hb hts inX11 hown hK hP 0 rfl rfl 1 (Nat.le_of_ble_eq_true rfl) (hts _ mw_1160) (fun _ h9 => h9) rfl dX11_shift_183 ?_
                                refine lv_iload_n hx hb dX11_shift_186 rfl (lv_at hl 4 rfl) ?_
                                refine z_iald hx hb hK hP 1 0 rfl rfl (e := f) rfl b9_4 (Nat.le_of_ble_eq_true rfl) dX11_shift_187 ?_
                                refine lv_bipush (v := 6) hx hb dX11_shift_188 rfl ?_
                                refine lv_icmp_ne (tgt := 197) hx hb dX11_shift_190 rfl (fun c_29 => ?_) (fun c_29 => ?_)
                                · have c_29 : ¬ (kd f).toInt = 6 := zc_ne rfl rfl c_29
                                  exfalso; omega
                                · have c_29 : (kd f).toInt = 6 := zc_eq rfl rfl c_29
                                  refine lv_iconst (v := 1) hx hb dX11_shift_193 rfl ?_
                                  refine lv_goto (tgt := 198) hx hb dX11_shift_194 rfl ?_
                                  exact hj_17 
                            · exact absurd (by decide) c_16
                          · have c_15 : ¬ (tn f).toInt = 0 := zc_ne rfl rfl c_15
                            exfalso; omega
                        · exact absurd (by decide) c_14
                      · exact absurd (by decide) c_13
                    · have c_12 : 20 < ((rr : Nat) : Int) := zc_nle (nI_toInt b9_11) rfl c_12
                      exfalso; omega
        · have c_5 : ¬ (st f).toInt = 1 := zc_ne rfl rfl c_5
          exfalso; omega
      · exact absurd (by decide) c_3
  · have c_1 : f < ft := zp_1 c_1
    refine lv_aload_n hx hb dX11_shift_8 rfl (lv_at hl 0 rfl) ?_
    refine va_get (D := (dC, dI)) (ci := 9) (v := .ref (a 6)) (C := RX11) (T := TX11) (N := 55) hx hb hts inX11 hown hK hP 0 rfl rfl 6 (Nat.le_of_ble_eq_true rfl) (hts _ mw_1165) (fun _ h9 => h9) rfl dX11_shift_9 ?_
    refine lv_iload_n hx hb dX11_shift_12 rfl (lv_at hl 1 rfl) ?_
    have b9_30 : f < 201 := by omega
    refine z_zald hx hb hK hP 10 1 rfl rfl (e := f) rfl b9_30 (Nat.le_of_ble_eq_true rfl) dX11_shift_13 ?_
    refine lv_if_ne (tgt := 35) hx hb dX11_shift_14 rfl (fun c_31 => ?_) (fun c_31 => ?_)
    · have c_31 : ¬ (tn f).toInt = 0 := zc_ne rfl rfl c_31
      refine lv_iconst (v := 0) hx hb dX11_shift_35 rfl ?_
      refine lv_istore (lv' := [(6, .int 0), (0, .ref k0), (1, .int (nI f)), (2, .int (nI kk)), (3, .int dx), (4, .int dy), (5, .int (nI rr))]) hx hb dX11_shift_36 hl (Nat.le_of_ble_eq_true rfl) rfl (fun ls hl => ?_)
      refine lv_aload_n hx hb dX11_shift_38 rfl (lv_at hl 1 rfl) ?_
      refine lv_iload_n hx hb dX11_shift_39 rfl (lv_at hl 2 rfl) ?_
      obtain ⟨hPc, hDc, hFc, hI1⟩ := zi_sub (wc := [_]) hP hD hS hA [0] rfl rfl
      refine zcall (st1 := [.int (pI (f < ft))]) (va_runV (As := [.int (nI f)]) (rest := []) ⟨hx, hb, hml, hown, hts⟩ (k_M_isFeature_n l dC dI cI cZ cF H.size k0 a (upd I0 26 (nI ln)) J0 f ft (by first | with_reducible assumption | assumption) (by first | with_reducible assumption | omega) (by first | with_reducible assumption | omega)) (csV_178 hts rfl rfl ⟨Nat.le_of_ble_eq_true rfl, Nat.le_of_ble_eq_true rfl⟩) (zPV2 (q0 := 0) (ci := 9) hPc hDc hK hXN rfl rfl) rfl rfl hl.1 rfl (lv_room (Nat.le_of_ble_eq_true rfl)) dX11_shift_40 ⟨Nat.zero_le _, Nat.zero_le _⟩) hS hFc hFc rfl (fun t H locs ht hB hk1 hS => ?_)
      obtain ⟨hP1, hD1⟩ := hB
      rw [ht] at hP1
      replace hP := z0 hP hD hk1 hP1 hI1
      clear hk1 hPc hDc hFc hP1 hD1 ht hI1
      refine lv_if_eq (tgt := 51) hx hb dX11_shift_43 rfl (fun c_32 => ?_) (fun c_32 => ?_)
      · have c_32 : ¬ (f < ft) := zp_0 c_32
        exfalso; omega
      · have c_32 : f < ft := zp_1 c_32
        refine lv_iload hx hb dX11_shift_46 (lv_at hl 0 rfl) ?_
        refine lv_if_eq (tgt := 55) hx hb dX11_shift_48 rfl (fun c_33 => ?_) (fun c_33 => ?_)
        · refine lv_aload_n hx hb dX11_shift_55 rfl (lv_at hl 1 rfl) ?_
          refine va_get (D := (dC, dI)) (ci := 9) (v := .ref (a 5)) (C := RX11) (T := TX11) (N := 55) hx hb hts inX11 hown hK hP 0 rfl rfl 5 (Nat.le_of_ble_eq_true rfl) (hts _ mw_1164) (fun _ h9 => h9) rfl dX11_shift_56 ?_
          refine lv_iload_n hx hb dX11_shift_59 rfl (lv_at hl 2 rfl) ?_
          refine z_iald hx hb hK hP 2 0 rfl rfl (e := f) rfl b9_30 (Nat.le_of_ble_eq_true rfl) dX11_shift_60 ?_
          refine lv_iconst (v := 1) hx hb dX11_shift_61 rfl ?_
          refine lv_icmp_eq (tgt := 69) hx hb dX11_shift_62 rfl (fun c_34 => ?_) (fun c_34 => ?_)
          · have c_34 : (st f).toInt = 1 := zc_eq rfl rfl c_34
            refine lv_iconst (v := 0) hx hb dX11_shift_69 rfl ?_
            refine lv_istore (lv' := [(7, .int 0), (6, .int 0), (0, .ref k0), (1, .int (nI f)), (2, .int (nI kk)), (3, .int dx), (4, .int dy), (5, .int (nI rr))]) hx hb dX11_shift_70 hl (Nat.le_of_ble_eq_true rfl) rfl (fun ls hl => ?_)
            refine lv_iload_n hx hb dX11_shift_72 rfl (lv_at hl 5 rfl) ?_
            refine lv_sipush (v := (-200)) hx hb dX11_shift_73 rfl ?_
            refine lv_icmp_lt (tgt := 114) hx hb dX11_shift_76 rfl (fun c_35 => ?_) (fun c_35 => ?_)
            · have c_35 : dx.toInt < (-200) := zc_lt rfl rfl c_35
              exfalso; omega
            · have c_35 : (-200) ≤ dx.toInt := zc_nlt rfl rfl c_35
              refine lv_iload_n hx hb dX11_shift_79 rfl (lv_at hl 5 rfl) ?_
              refine lv_sipush (v := 200) hx hb dX11_shift_80 rfl ?_
              refine lv_icmp_gt (tgt := 114) hx hb dX11_shift_83 rfl (fun c_36 => ?_) (fun c_36 => ?_)
              · have c_36 : 200 < dx.toInt := zc_lt rfl rfl c_36
                exfalso; omega
              · have c_36 : dx.toInt ≤ 200 := zc_nlt rfl rfl c_36
                refine lv_iload hx hb dX11_shift_86 (lv_at hl 6 rfl) ?_
                refine lv_sipush (v := (-200)) hx hb dX11_shift_88 rfl ?_
                refine lv_icmp_lt (tgt := 114) hx hb dX11_shift_91 rfl (fun c_37 => ?_) (fun c_37 => ?_)
                · have c_37 : dy.toInt < (-200) := zc_lt rfl rfl c_37
                  exfalso; omega
                · have c_37 : (-200) ≤ dy.toInt := zc_nlt rfl rfl c_37
                  refine lv_iload hx hb dX11_shift_94 (lv_at hl 6 rfl) ?_
                  refine lv_sipush (v := 200) hx hb dX11_shift_96 rfl ?_
                  refine lv_icmp_gt (tgt := 114) hx hb dX11_shift_99 rfl (fun c_38 => ?_) (fun c_38 => ?_)
                  · have c_38 : 200 < dy.toInt := zc_lt rfl rfl c_38
                    exfalso; omega
                  · have c_38 : dy.toInt ≤ 200 := zc_nlt rfl rfl c_38
                    refine lv_iload hx hb dX11_shift_102 (lv_at hl 7 rfl) ?_
                    have b9_40 : zlt (rr) := show rr < 2147483648 by omega
                    refine lv_if_lt (tgt := 114) hx hb dX11_shift_104 rfl (fun c_39 => ?_) (fun c_39 => ?_)
                    · have c_39 : ((rr : Nat) : Int) < 0 := zc_lt (nI_toInt b9_40) rfl c_39
                      exfalso; omega
                    · have c_39 : 0 ≤ ((rr : Nat) : Int) := zc_nlt (nI_toInt b9_40) rfl c_39
                      refine lv_iload hx hb dX11_shift_107 (lv_at hl 7 rfl) ?_
                      refine lv_bipush (v := 20) hx hb dX11_shift_109 rfl ?_
                      refine lv_icmp_le (tgt := 118) hx hb dX11_shift_111 rfl (fun c_41 => ?_) (fun c_41 => ?_)
                      · have c_41 : ((rr : Nat) : Int) ≤ 20 := zc_le (nI_toInt b9_40) rfl c_41
                        refine lv_iconst (v := 0) hx hb dX11_shift_118 rfl ?_
                        refine lv_istore (lv' := [(8, .int 0), (7, .int 0), (6, .int 0), (0, .ref k0), (1, .int (nI f)), (2, .int (nI kk)), (3, .int dx), (4, .int dy), (5, .int (nI rr))]) hx hb dX11_shift_119 hl (Nat.le_of_ble_eq_true rfl) rfl (fun ls hl => ?_)
                        refine lv_iload hx hb dX11_shift_121 (lv_at hl 1 rfl) ?_
                        refine lv_if_le (tgt := 131) hx hb dX11_shift_123 rfl (fun c_42 => ?_) (fun c_42 => ?_)
                        · refine lv_iload hx hb dX11_shift_131 (lv_at hl 0 rfl) ?_
                          refine lv_if_eq (tgt := 140) hx hb dX11_shift_133 rfl (fun c_43 => ?_) (fun c_43 => ?_)
                          · refine lv_aload_n hx hb dX11_shift_140 rfl (lv_at hl 3 rfl) ?_
                            refine va_get (D := (dC, dI)) (ci := 9) (v := .ref (a 6)) (C := RX11) (T := TX11) (N := 55) hx hb hts inX11 hown hK hP 0 rfl rfl 6 (Nat.le_of_ble_eq_true rfl) (hts _ mw_1165) (fun _ h9 => h9) rfl dX11_shift_141 ?_
                            refine lv_iload_n hx hb dX11_shift_144 rfl (lv_at hl 4 rfl) ?_
                            refine z_zald hx hb hK hP 10 1 rfl rfl (e := f) rfl b9_30 (Nat.le_of_ble_eq_true rfl) dX11_shift_145 ?_
                            refine lv_if_eq (tgt := 153) hx hb dX11_shift_146 rfl (fun c_44 => ?_) (fun c_44 => ?_)
                            · have c_44 : (tn f).toInt = 0 := zc_eq rfl rfl c_44
                              refine lv_iconst (v := 0) hx hb dX11_shift_153 rfl ?_
                              refine lv_istore (lv' := [(7, .int 0), (8, .int 0), (6, .int 0), (0, .ref k0), (1, .int (nI f)), (2, .int (nI kk)), (3, .int dx), (4, .int dy), (5, .int (nI rr))]) hx hb dX11_shift_154 hl (Nat.le_of_ble_eq_true rfl) rfl (fun ls hl => ?_)
                              refine lv_iload hx hb dX11_shift_156 (lv_at hl 0 rfl) ?_
                              refine lv_if_le (tgt := 168) hx hb dX11_shift_158 rfl (fun c_45 => ?_) (fun c_45 => ?_)
                              · refine lv_aload_n hx hb dX11_shift_168 rfl (lv_at hl 3 rfl) ?_
                                refine lv_iload_n hx hb dX11_shift_169 rfl (lv_at hl 4 rfl) ?_
                                obtain ⟨hPc, hDc, hFc⟩ := zo_sub (wc := [_, _, _, _, _, _, _, _, _, _, _, _, _]) hP hD hS hA [0, 2, 10, 1, 11, 12, 13, 19, 23, 24, 25, 26, 27] (by decide +kernel) rfl
                                refine zcall (st1 := []) (va_runV (As := [.int (nI f)]) (rest := []) ⟨hx, hb, hml, hown, hts⟩ (k_M_remember l dC dI cI cZ cF H.size k0 a (upd I0 26 (nI ln)) J0 f n ft st tn kd mn cx cy S0 ox oy mt wi ins (by first | with_reducible assumption | assumption) (by first | with_reducible assumption | omega) (by first | with_reducible assumption | omega) (by first | with_reducible assumption | assumption) (by first | with_reducible assumption | omega) (by first | with_reducible assumption | assumption) (fun q h1 _ => hwf q h1)) (csV_190 hts rfl rfl ⟨Nat.le_of_ble_eq_true rfl, Nat.le_of_ble_eq_true rfl⟩) (zPV2 (q0 := 0) (ci := 9) hPc hDc hK hXN rfl rfl) rfl rfl hl.1 rfl (lv_room (Nat.le_of_ble_eq_true rfl)) dX11_shift_170 ⟨Nat.zero_le _, Nat.zero_le _⟩) hS hFc hFc rfl (fun t H locs ht hB hk1 hS => ?_)
                                refine ex6 hB (fun S1 ox1 oy1 mt1 wi1 ins1 hB0 => ?_)
                                clear hB
                                obtain ⟨hox, hmt, hwi, hin, hP1, hD1⟩ := hB0
                                rw [ht] at hP1
                                obtain ⟨hP, hD⟩ := zn (W2 := [(om k0 a (upd (upd (upd I0 26 (nI ln)) 35 (nI n)) 36 (kd f)) J0), _, _, _, _, _, _, _, _, _, _, _, _, _, _, _, _, _, _, (oa (a 32) cI 8 S1), _, _, _, (oa (a 33) cI 42 ox1), (oa (a 34) cI 42 oy1), (oa (a 37) cZ 201 mt1), (oa (a 38) cZ 201 wi1), (oa (a 39) cZ 8040 ins1), _, _, _, _]) hP hD hk1 hFc hP1 hD1 zl_194 zl_195 zl_195 zl_194 (by decide +kernel) rfl rfl rfl rfl rfl
                                clear hk1 hPc hDc hFc hP1 hD1 ht
                                refine lv_aload_n hx hb dX11_shift_173 rfl (lv_at hl 3 rfl) ?_
                                refine va_get (D := (dC, dI)) (ci := 9) (v := .ref (a 1)) (C := RX11) (T := TX11) (N := 55) hx hb hts inX11 hown hK hP 0 rfl rfl 1 (Nat.le_of_ble_eq_true rfl) (hts _ mw_1160) (fun _ h9 => h9) rfl dX11_shift_174 ?_
                                refine lv_iload_n hx hb dX11_shift_177 rfl (lv_at hl 4 rfl) ?_
                                refine z_iald hx hb hK hP 1 0 rfl rfl (e := f) rfl b9_30 (Nat.le_of_ble_eq_true rfl) dX11_shift_178 ?_
                                have hj_46 : W p l e ({ frames := 8, cells := c2 - cp, slots := 8192 * (c2 - cp), locals := 210 } : Room) s m ([.ref k0, .int (nI f), .int (nI kk), .int dx, .int dy, .int (nI rr)] : List Value).toArray below meth c H locs 0 0 Q9 (F0 m 198 ls [.int 1]) := by
                                  refine lv_istore (lv' := [(9, .int 1), (7, .int 0), (8, .int 0), (6, .int 0), (0, .ref k0), (1, .int (nI f)), (2, .int (nI kk)), (3, .int dx), (4, .int dy), (5, .int (nI rr))]) hx hb dX11_shift_198 hl (Nat.le_of_ble_eq_true rfl) rfl (fun ls hl => ?_)
                                  refine lv_iconst (v := 0) hx hb dX11_shift_200 rfl ?_
                                  refine lv_istore (lv' := [(10, .int 0), (9, .int 1), (7, .int 0), (8, .int 0), (6, .int 0), (0, .ref k0), (1, .int (nI f)), (2, .int (nI kk)), (3, .int dx), (4, .int dy), (5, .int (nI rr))]) hx hb dX11_shift_201 hl (Nat.le_of_ble_eq_true rfl) rfl (fun ls hl => ?_)
                                  have hl_203 : ∀ (n9 : Nat) (k : Nat) (cx1 : Nat → Int32) (cy1 : Nat → Int32) (H : Heap) (locs : List Loc) (ls : Array Slot), n - k < n9 → (k ≤ n) → (cx1 = fgX f k (fun i => cF40 cx f i + dx) cx) → (cy1 = fgX f k (fun i => cF40 cy f i + dy) cy) → va_P (dC, dI) classes [(om k0 a (upd (upd (upd I0 26 (nI ln)) 35 (nI n)) 36 (kd f)) J0), (oa (a 1) cI 201 kd), (oa (a 5) cI 201 st), (oa (a 7) cI 201 gb), (oa (a 10) cI 201 it), (oa (a 8) cI 201 pa), (oa (a 9) cI 201 pb), (oa (a 2) cI 201 rk), (oa (a 3) cI 201 wd), (oa (a 4) cI 201 tw), (oa (a 6) cZ 201 tn), (oa (a 11) cI 201 mn), (oa (a 12) cI 8040 cx1), (oa (a 13) cI 8040 cy1), (oa (a 27) cI 516 sa), (oa (a 28) cI (4096 * cp) sh), (oa (a 16) cI 514 wh), (oa (a 17) cI 514 of9), (oa (a 18) cI 514 we), (oa (a 32) cI 8 S1), (oa (a 40) cI 6 T0), (oa (a 29) cI 42 P0), (oa (a 30) cI 42 Q0), (oa (a 33) cI 42 ox1), (oa (a 34) cI 42 oy1), (oa (a 37) cZ 201 mt1), (oa (a 38) cZ 201 wi1), (oa (a 39) cZ 8040 ins1), (oa (a 22) cI (64 * cl) la), (oa (a 23) cI (64 * cl) lb), (oa (a 24) cI (64 * cl) lc), (oa (a 25) cI (64 * cl) ld)] H → va_D A [(om k0 a (upd (upd (upd I0 26 (nI ln)) 35 (nI n)) 36 (kd f)) J0), (oa (a 1) cI 201 kd), (oa (a 5) cI 201 st), (oa (a 7) cI 201 gb), (oa (a 10) cI 201 it), (oa (a 8) cI 201 pa), (oa (a 9) cI 201 pb), (oa (a 2) cI 201 rk), (oa (a 3) cI 201 wd), (oa (a 4) cI 201 tw), (oa (a 6) cZ 201 tn), (oa (a 11) cI 201 mn), (oa (a 12) cI 8040 cx1), (oa (a 13) cI 8040 cy1), (oa (a 27) cI 516 sa), (oa (a 28) cI (4096 * cp) sh), (oa (a 16) cI 514 wh), (oa (a 17) cI 514 of9), (oa (a 18) cI 514 we), (oa (a 32) cI 8 S1), (oa (a 40) cI 6 T0), (oa (a 29) cI 42 P0), (oa (a 30) cI 42 Q0), (oa (a 33) cI 42 ox1), (oa (a 34) cI 42 oy1), (oa (a 37) cZ 201 mt1), (oa (a 38) cZ 201 wi1), (oa (a 39) cZ 8040 ins1), (oa (a 22) cI (64 * cl) la), (oa (a 23) cI (64 * cl) lb), (oa (a 24) cI (64 * cl) lc), (oa (a 25) cI (64 * cl) ld)] → va_S A s.heap H locs → lv_has ls 13 [(10, .int (nI k)), (9, .int 1), (7, .int 0), (8, .int 0), (6, .int 0), (0, .ref k0), (1, .int (nI f)), (2, .int (nI kk)), (3, .int dx), (4, .int dy), (5, .int (nI rr))] → W p l e ({ frames := 8, cells := c2 - cp, slots := 8192 * (c2 - cp), locals := 210 } : Room) s m ([.ref k0, .int (nI f), .int (nI kk), .int dx, .int dy, .int (nI rr)] : List Value).toArray below meth c H locs 0 0 Q9 (F0 m 203 ls []) := by
                                    intro n9
                                    induction n9 with
                                    | zero => intro k cx1 cy1 H locs ls hm; exact absurd hm (Nat.not_lt_zero _)
                                    | succ n9 ih_203 =>
                                      intro k cx1 cy1 H locs ls hm hk hcx hcy hP hD hS hl
                                      refine lv_iload hx hb dX11_shift_203 (lv_at hl 0 rfl) ?_
                                      refine lv_aload_n hx hb dX11_shift_205 rfl (lv_at hl 5 rfl) ?_
                                      refine va_get (D := (dC, dI)) (ci := 9) (v := .int (nI n)) (C := RX11) (T := TX11) (N := 55) hx hb hts inX11 hown hK hP 0 rfl rfl 35 (Nat.le_of_ble_eq_true rfl) (hts _ mw_1194) (fun _ h9 => h9) rfl dX11_shift_206 ?_
                                      have b9_48 : zlt (k) := show k < 2147483648 by omega
                                      have b9_49 : zlt (n) := show n < 2147483648 by omega
                                      refine lv_icmp_ge (tgt := 367) hx hb dX11_shift_209 rfl (fun c_47 => ?_) (fun c_47 => ?_)
                                      · have c_47 : ((n : Nat) : Int) ≤ ((k : Nat) : Int) := zc_le (nI_toInt b9_49) (nI_toInt b9_48) c_47
                                        have hkn : k = n := (by omega)
                                        rw [hkn] at hcx hcy
                                        refine lv_aload_n hx hb dX11_shift_367 rfl (lv_at hl 5 rfl) ?_
                                        refine lv_iload_n hx hb dX11_shift_368 rfl (lv_at hl 6 rfl) ?_
                                        obtain ⟨hPc, hDc, hFc, hI1⟩ := zi_sub (wc := [_, _, _, _, _]) hP hD hS hA [0, 12, 13, 23, 24] (by decide +kernel) rfl
                                        refine zcall (st1 := [.int (pI (∃ k, k < n ∧ ¬ ((cx1 (40 * f + k)).toInt = (ox1 k).toInt ∧ (cy1 (40 * f + k)).toInt = (oy1 k).toInt)))]) (va_runV (As := [.int (nI f)]) (rest := []) ⟨hx, hb, hml, hown, hts⟩ (k_M_moves l dC dI cI cZ cF H.size k0 a (upd (upd (upd I0 26 (nI ln)) 35 (nI n)) 36 (kd f)) J0 f n cx1 cy1 ox1 oy1 (by first | with_reducible assumption | omega) (rfl) (by first | with_reducible assumption | omega)) (csV_211 hts rfl rfl ⟨Nat.le_of_ble_eq_true rfl, Nat.le_of_ble_eq_true rfl⟩) (zPV2 (q0 := 0) (ci := 9) hPc hDc hK hXN rfl rfl) rfl rfl hl.1 rfl (lv_room (Nat.le_of_ble_eq_true rfl)) dX11_shift_369 ⟨Nat.zero_le _, Nat.zero_le _⟩) hS hFc hFc rfl (fun t H locs ht hB hk1 hS => ?_)
                                        obtain ⟨hP1, hD1⟩ := hB
                                        rw [ht] at hP1
                                        replace hP := z0 hP hD hk1 hP1 hI1
                                        clear hk1 hPc hDc hFc hP1 hD1 ht hI1
                                        refine zz_i (v := pI (mvd n (fun i => cF40 cx f i + dx) (fun i => cF40 cy f i + dy) (cF40 cx f) (cF40 cy f))) (zp_iff (mv_iff hcx hcy hox)) ?_
                                        refine lv_if_ne (tgt := 382) hx hb dX11_shift_372 rfl (fun c_50 => ?_) (fun c_50 => ?_)
                                        · have c_50 : mvd n (fun i => cF40 cx f i + dx) (fun i => cF40 cy f i + dy) (cF40 cx f) (cF40 cy f) := zp_1 c_50
                                          refine lv_aload_n hx hb dX11_shift_382 rfl (lv_at hl 5 rfl) ?_
                                          refine lv_iload_n hx hb dX11_shift_383 rfl (lv_at hl 6 rfl) ?_
                                          refine lv_iconst (v := 3) hx hb dX11_shift_384 rfl ?_
                                          refine zz_i (v := nI 3) (rfl) ?_
                                          have hbx : fgX f n ox1 cx1 = cx := (by rw [hcx]; exact fgX_back (fun k9 h9 => (hox k9 h9).1))
                                          have hby : fgX f n oy1 cy1 = cy := (by rw [hcy]; exact fgX_back (fun k9 h9 => (hox k9 h9).2))
                                          have hlq := lwM_eq (ft := ft) (st := st) (tn := tn) (kd := kd) (mn := mn) hn_f.1 hcx hcy hox
                                          have hpo : pls n ox1 oy1 := fun j hj => by rw [(hox j hj).1, (hox j hj).2]; exact hp_f j hj
                                          have hwf2 : ∀ q, lvF ft st tn q → q ≠ f → wfM mn cx1 cy1 q := fun q h1 h2 => wfM_o (hwf q h1) h2 (fun _ _ => rfl) (fun j hj => by rw [hcx, hcy]; exact ⟨fgX_o (by omega), fgX_o (by omega)⟩)
                                          obtain ⟨hPc, hDc, hFc⟩ := zo_sub (wc := [_, _, _, _, _, _, _, _, _, _, _, _, _, _, _, _, _, _, _, _, _, _, _, _, _, _, _, _, _, _, _, _]) hP hD hS hA [0, 1, 2, 3, 4, 5, 6, 7, 8, 9, 10, 11, 12, 13, 14, 15, 16, 17, 18, 19, 20, 21, 22, 23, 24, 25, 26, 27, 28, 29, 30, 31] (by decide +kernel) rfl
                                          refine zcall (st1 := [.int 1]) (va_runV (As := [.int (nI f), .int (nI 3)]) (rest := []) ⟨hx, hb, hml, hown, hts⟩ (k_M_changes_my l dC dI cI cZ cF H.size k0 a (upd (upd (upd I0 26 (nI ln)) 35 (nI n)) 36 (kd f)) J0 f n ft n (kd f) 3 kd st gb it pa pb rk wd tw tn mn cx1 cy1 sa sh wh of9 we S1 T0 P0 Q0 ox1 oy1 mt1 wi1 ins1 la lb lc ld (bMt kd mn cx cy f n) (bWi kd mn cx cy f) (bIn kd cx cy f n) dn bs w0 cp c1 c2 ln cl (hft) (by first | with_reducible assumption | omega) (by first | with_reducible assumption | omega) (hm_f) (by first | with_reducible assumption | omega) (hwf2) (by first | with_reducible assumption | omega) (by first | with_reducible assumption | omega) (hpo) (hmt) (fun q h1 h2 h5 => by rw [hwi q h1 h2]; exact zp_iff ⟨fun h => h.2, fun h => ⟨h5, h⟩⟩) (fun q h1 h2 i hi h5 => hin q h1 h2 h5 i hi) (by first | with_reducible assumption | omega) (rfl) (hft_f) (hdn) (hbs) (by first | with_reducible assumption | omega) (by first | with_reducible assumption | omega) (hi5_1) (hsa_1) (by rw [hum]; exact hmn_1) (hc1_1) (hpw_1) (hw0_1) (by rw [hum]; exact hfit_1) (by rw [hum]; exact hmin_1) (hcE_1) (hmn_1) (hpw_2) (by rw [hum]; exact hfit_2) (by rw [hum]; exact hmin_2) (hcE_2) (fun j h1 h2 => by omega) (hlc) (hcl1) (hclm) (trivial) (by rw [hlq]; exact hlaw)) (csV_212 hts rfl rfl ⟨Nat.le_of_ble_eq_true rfl, Nat.le_of_ble_eq_true rfl⟩) (zPV2 (q0 := 0) (ci := 9) hPc hDc hK hXN rfl rfl) rfl rfl hl.1 rfl (lv_room (Nat.le_of_ble_eq_true rfl)) dX11_shift_385 ⟨show (0 + (c2 - cp)) ≤ c2 - cp by omega, show (0 + (8192 * (c2 - cp))) ≤ 8192 * (c2 - cp) by omega⟩) hS hFc hFc rfl (fun t H locs ht hB hk1 hS => ?_)
                                          refine ex12 hB (fun z8 b2 sh2 t9 S2 T2 P2 Q2 la1 lb1 lc1 ld1 hB0 => ?_)
                                          clear hB
                                          obtain ⟨p0, p1, p2, p3, p4, p5, p6, hP1, hD1⟩ := hB0
                                          rw [ht] at hP1
                                          obtain ⟨hP, hD⟩ := zn (W2 := [(om k0 (va_up a 28 b2) (upd (upd (upd (upd (upd (upd (upd (upd I0 14 0) 19 (nI (dn + 1))) 20 0) 26 (nI t9)) 31 z8) 35 (nI n)) 36 (kd f)) 41 (nI (psN (nnF st tn mn) (psN (nnF st tn (upd mn f (nI n))) w0 ft) ft))) J0), (oa (a 1) cI 201 kd), (oa (a 5) cI 201 st), (oa (a 7) cI 201 gb), (oa (a 10) cI 201 it), (oa (a 8) cI 201 pa), (oa (a 9) cI 201 pb), (oa (a 2) cI 201 rk), (oa (a 3) cI 201 wd), (oa (a 4) cI 201 tw), (oa (a 6) cZ 201 tn), (oa (a 11) cI 201 mn), (oa (a 12) cI 8040 cx1), (oa (a 13) cI 8040 cy1), (oa (a 27) cI 516 (upd (upd sa (dn - bs + 1) (nI (psN (nnF st tn (upd mn f (nI n))) w0 ft))) (dn + 1 - bs + 1) (nI (psN (nnF st tn mn) (psN (nnF st tn (upd mn f (nI n))) w0 ft) ft)))), (oa b2 cI (4096 * c2) sh2), (oa (a 16) cI 514 (upd wh (dn + 1) (nI 3))), (oa (a 17) cI 514 (upd of9 (dn + 1) (nI f))), (oa (a 18) cI 514 (upd we (dn + 1) (0 : Int32))), (oa (a 32) cI 8 S2), (oa (a 40) cI 6 T2), (oa (a 29) cI 42 P2), (oa (a 30) cI 42 Q2), (oa (a 33) cI 42 ox1), (oa (a 34) cI 42 oy1), (oa (a 37) cZ 201 mt1), (oa (a 38) cZ 201 wi1), (oa (a 39) cZ 8040 ins1), (oa (a 22) cI (64 * cl) la1), (oa (a 23) cI (64 * cl) lb1), (oa (a 24) cI (64 * cl) lc1), (oa (a 25) cI (64 * cl) ld1)]) hP hD hk1 hFc hP1 hD1 zl_196 [] zl_197 zl_196 (by decide +kernel) rfl rfl rfl rfl rfl
                                          clear hk1 hPc hDc hFc hP1 hD1 ht
                                          obtain ⟨hP9, hD9⟩ := zu_sub (wc := [(om k0 (va_up a 28 b2) (upd (upd (upd (upd (upd (upd (upd (upd I0 14 0) 19 (nI (dn + 1))) 20 0) 26 (nI t9)) 31 z8) 35 (nI n)) 36 (kd f)) 41 (nI (psN (nnF st tn mn) (psN (nnF st tn (upd mn f (nI n))) w0 ft) ft))) J0), (oa (a 1) cI 201 kd), (oa (a 5) cI 201 st), (oa (a 7) cI 201 gb), (oa (a 10) cI 201 it), (oa (a 8) cI 201 pa), (oa (a 9) cI 201 pb), (oa (a 2) cI 201 rk), (oa (a 3) cI 201 wd), (oa (a 4) cI 201 tw), (oa (a 6) cZ 201 tn), (oa (a 11) cI 201 mn), (oa (a 12) cI 8040 cx1), (oa (a 13) cI 8040 cy1), (oa (a 27) cI 516 (upd (upd sa (dn - bs + 1) (nI (psN (nnF st tn (upd mn f (nI n))) w0 ft))) (dn + 1 - bs + 1) (nI (psN (nnF st tn mn) (psN (nnF st tn (upd mn f (nI n))) w0 ft) ft)))), (oa b2 cI (4096 * c2) sh2), (oa (a 16) cI 514 (upd wh (dn + 1) (nI 3))), (oa (a 17) cI 514 (upd of9 (dn + 1) (nI f))), (oa (a 18) cI 514 (upd we (dn + 1) (0 : Int32))), (oa (a 32) cI 8 S2), (oa (a 40) cI 6 T2), (oa (a 29) cI 42 P2), (oa (a 30) cI 42 Q2), (oa (a 33) cI 42 ox1), (oa (a 34) cI 42 oy1), (oa (a 37) cZ 201 mt1), (oa (a 38) cZ 201 wi1), (oa (a 39) cZ 8040 ins1), (oa (a 22) cI (64 * cl) la1), (oa (a 23) cI (64 * cl) lb1), (oa (a 24) cI (64 * cl) lc1), (oa (a 25) cI (64 * cl) ld1)]) hP hD (true :: true :: true :: true :: true :: true :: true :: true :: true :: true :: true :: true :: true :: true :: true :: true :: true :: true :: true :: true :: true :: true :: true :: true :: true :: true :: true :: true :: true :: true :: true :: true :: []) rfl rfl
                                          have hE9 : ([(om k0 (va_up a 28 b2) (upd (upd (upd (upd (upd (upd (upd (upd I0 14 0) 19 (nI (dn + 1))) 20 0) 26 (nI t9)) 31 z8) 35 (nI n)) 36 (kd f)) 41 (nI (psN (nnF st tn mn) (psN (nnF st tn (upd mn f (nI n))) w0 ft) ft))) J0), (oa (a 1) cI 201 kd), (oa (a 5) cI 201 st), (oa (a 7) cI 201 gb), (oa (a 10) cI 201 it), (oa (a 8) cI 201 pa), (oa (a 9) cI 201 pb), (oa (a 2) cI 201 rk), (oa (a 3) cI 201 wd), (oa (a 4) cI 201 tw), (oa (a 6) cZ 201 tn), (oa (a 11) cI 201 mn), (oa (a 12) cI 8040 cx1), (oa (a 13) cI 8040 cy1), (oa (a 27) cI 516 (upd (upd sa (dn - bs + 1) (nI (psN (nnF st tn (upd mn f (nI n))) w0 ft))) (dn + 1 - bs + 1) (nI (psN (nnF st tn mn) (psN (nnF st tn (upd mn f (nI n))) w0 ft) ft)))), (oa b2 cI (4096 * c2) sh2), (oa (a 16) cI 514 (upd wh (dn + 1) (nI 3))), (oa (a 17) cI 514 (upd of9 (dn + 1) (nI f))), (oa (a 18) cI 514 (upd we (dn + 1) (0 : Int32))), (oa (a 32) cI 8 S2), (oa (a 40) cI 6 T2), (oa (a 29) cI 42 P2), (oa (a 30) cI 42 Q2), (oa (a 33) cI 42 ox1), (oa (a 34) cI 42 oy1), (oa (a 37) cZ 201 mt1), (oa (a 38) cZ 201 wi1), (oa (a 39) cZ 8040 ins1), (oa (a 22) cI (64 * cl) la1), (oa (a 23) cI (64 * cl) lb1), (oa (a 24) cI (64 * cl) lc1), (oa (a 25) cI (64 * cl) ld1)] : va_W) = [(om k0 (va_up a 28 b2) (upd (upd (upd (upd (upd (upd (upd (upd I0 14 0) 19 (nI (dn + 1))) 20 0) 26 (nI t9)) 31 z8) 35 (nI n)) 36 (kd f)) 41 (nI (psN (nnF st tn mn) (psN (nnF st tn mn) w0 ft) ft))) J0), (oa (a 1) cI 201 kd), (oa (a 5) cI 201 st), (oa (a 7) cI 201 gb), (oa (a 10) cI 201 it), (oa (a 8) cI 201 pa), (oa (a 9) cI 201 pb), (oa (a 2) cI 201 rk), (oa (a 3) cI 201 wd), (oa (a 4) cI 201 tw), (oa (a 6) cZ 201 tn), (oa (a 11) cI 201 mn), (oa (a 12) cI 8040 (fgX f n (fun i => cF40 cx f i + dx) cx)), (oa (a 13) cI 8040 (fgX f n (fun i => cF40 cy f i + dy) cy)), (oa (a 27) cI 516 (upd (upd sa (dn - bs + 1) (nI (psN (nnF st tn mn) w0 ft))) (dn + 1 - bs + 1) (nI (psN (nnF st tn mn) (psN (nnF st tn mn) w0 ft) ft)))), (oa b2 cI (4096 * c2) sh2), (oa (a 16) cI 514 (upd wh (dn + 1) (nI 3))), (oa (a 17) cI 514 (upd of9 (dn + 1) (nI f))), (oa (a 18) cI 514 (upd we (dn + 1) (0 : Int32))), (oa (a 32) cI 8 S2), (oa (a 40) cI 6 T2), (oa (a 29) cI 42 P2), (oa (a 30) cI 42 Q2), (oa (a 33) cI 42 ox1), (oa (a 34) cI 42 oy1), (oa (a 37) cZ 201 mt1), (oa (a 38) cZ 201 wi1), (oa (a 39) cZ 8040 ins1), (oa (a 22) cI (64 * cl) la1), (oa (a 23) cI (64 * cl) lb1), (oa (a 24) cI (64 * cl) lc1), (oa (a 25) cI (64 * cl) ld1)] := by rw [hum, hcx, hcy]
                                          rw [hE9] at hP9 hD9
                                          refine W.widen (k := c2 - cp) (n := 8192 * (c2 - cp)) (by omega) (by omega) ?_
                                          rw [hQ9]
                                          exact W.zret (ty := .boolean) (v := 1) hx hb hr (rfl) (fun t ht hW => ⟨⟨rfl, z8, b2, sh2, t9, S2, T2, P2, Q2, ox1, oy1, mt1, wi1, ins1, la1, lb1, lc1, ld1, (p0), (p1), (by have h9 := p2; rw [hum, huk, hbx, hby] at h9; exact h9), (by have h9 := p3; rw [hum] at h9; exact h9), (by have h9 := p4; rw [hum, hcx, hcy] at h9; exact h9), (p5), (p6), by rw [ht]; exact hP9, hD9⟩, hS.F ht⟩) hS.2.2 dX11_shift_388
                                        · have c_50 : ¬ (mvd n (fun i => cF40 cx f i + dx) (fun i => cF40 cy f i + dy) (cF40 cx f) (cF40 cy f)) := zp_0 c_50
                                          exfalso; exact absurd hmv (by first | with_reducible assumption | assumption)
                                      · have c_47 : ((k : Nat) : Int) < ((n : Nat) : Int) := zc_nle (nI_toInt b9_49) (nI_toInt b9_48) c_47
                                        have hk9 : k < n := (by omega)
                                        refine lv_aload_n hx hb dX11_shift_212 rfl (lv_at hl 5 rfl) ?_
                                        refine lv_iload_n hx hb dX11_shift_213 rfl (lv_at hl 6 rfl) ?_
                                        refine lv_iload_n hx hb dX11_shift_214 rfl (lv_at hl 7 rfl) ?_
                                        refine lv_iload hx hb dX11_shift_215 (lv_at hl 0 rfl) ?_
                                        obtain ⟨hPc, hDc, hFc, hI1⟩ := zi_sub (wc := [_, _]) hP hD hS hA [0, 1] rfl rfl
                                        refine zcall (st1 := [.int (nI (wyR (kd f).toInt n kk k))]) (va_runV (As := [.int (nI f), .int (nI kk), .int (nI k)]) (rest := []) ⟨hx, hb, hml, hown, hts⟩ (k_M_wayOf l dC dI cI cZ cF H.size k0 a (upd (upd (upd I0 26 (nI ln)) 35 (nI n)) 36 (kd f)) J0 f n kk k kd (by first | with_reducible assumption | omega) (by first | with_reducible assumption | omega) (hkk) (by first | with_reducible assumption | omega)) (csV_216 hts rfl rfl ⟨Nat.le_of_ble_eq_true rfl, Nat.le_of_ble_eq_true rfl⟩) (zPV2 (q0 := 0) (ci := 9) hPc hDc hK hXN rfl rfl) rfl rfl hl.1 rfl (lv_room (Nat.le_of_ble_eq_true rfl)) dX11_shift_217 ⟨Nat.zero_le _, Nat.zero_le _⟩) hS hFc hFc rfl (fun t H locs ht hB hk1 hS => ?_)
                                        obtain ⟨hP1, hD1⟩ := hB
                                        rw [ht] at hP1
                                        replace hP := z0 hP hD hk1 hP1 hI1
                                        clear hk1 hPc hDc hFc hP1 hD1 ht hI1
                                        refine lv_istore (lv' := [(11, .int (nI (wyR (kd f).toInt n kk k))), (10, .int (nI k)), (9, .int 1), (7, .int 0), (8, .int 0), (6, .int 0), (0, .ref k0), (1, .int (nI f)), (2, .int (nI kk)), (3, .int dx), (4, .int dy), (5, .int (nI rr))]) hx hb dX11_shift_220 hl (Nat.le_of_ble_eq_true rfl) rfl (fun ls hl => ?_)
                                        refine lv_iload hx hb dX11_shift_222 (lv_at hl 2 rfl) ?_
                                        refine lv_if_ne (tgt := 262) hx hb dX11_shift_224 rfl (fun c_51 => ?_) (fun c_51 => ?_)
                                        · refine lv_iconst (v := 0) hx hb dX11_shift_262 rfl ?_
                                          refine lv_istore (lv' := [(12, .int 0), (11, .int (nI (wyR (kd f).toInt n kk k))), (10, .int (nI k)), (9, .int 1), (7, .int 0), (8, .int 0), (6, .int 0), (0, .ref k0), (1, .int (nI f)), (2, .int (nI kk)), (3, .int dx), (4, .int dy), (5, .int (nI rr))]) hx hb dX11_shift_263 hl (Nat.le_of_ble_eq_true rfl) rfl (fun ls hl => ?_)
                                          refine lv_iload hx hb dX11_shift_265 (lv_at hl 0 rfl) ?_
                                          refine lv_if_eq (tgt := 273) hx hb dX11_shift_267 rfl (fun c_52 => ?_) (fun c_52 => ?_)
                                          · refine lv_aload_n hx hb dX11_shift_273 rfl (lv_at hl 7 rfl) ?_
                                            refine va_get (D := (dC, dI)) (ci := 9) (v := .ref (a 12)) (C := RX11) (T := TX11) (N := 55) hx hb hts inX11 hown hK hP 0 rfl rfl 12 (Nat.le_of_ble_eq_true rfl) (hts _ mw_1171) (fun _ h9 => h9) rfl dX11_shift_274 ?_
                                            refine lv_bipush (v := 40) hx hb dX11_shift_277 rfl ?_
                                            refine lv_iload_n hx hb dX11_shift_279 rfl (lv_at hl 8 rfl) ?_
                                            refine lv_imul hx hb dX11_shift_280 ?_
                                            refine zz_i (v := nI (40 * f)) (pk_mul 40 f) ?_
                                            refine lv_iload hx hb dX11_shift_281 (lv_at hl 2 rfl) ?_
                                            refine lv_iadd hx hb dX11_shift_283 ?_
                                            refine zz_i (v := nI (40 * f + k)) (nI_add (40 * f) k) ?_
                                            refine lv_aload_n hx hb dX11_shift_284 rfl (lv_at hl 7 rfl) ?_
                                            refine va_get (D := (dC, dI)) (ci := 9) (v := .ref (a 33)) (C := RX11) (T := TX11) (N := 55) hx hb hts inX11 hown hK hP 0 rfl rfl 33 (Nat.le_of_ble_eq_true rfl) (hts _ mw_1192) (fun _ h9 => h9) rfl dX11_shift_285 ?_
                                            refine lv_iload hx hb dX11_shift_288 (lv_at hl 2 rfl) ?_
                                            have b9_53 : k < 42 := by omega
                                            refine z_iald hx hb hK hP 23 0 rfl rfl (e := k) rfl b9_53 (Nat.le_of_ble_eq_true rfl) dX11_shift_290 ?_
                                            refine zz_i (v := cF40 cx f k) ((hox _ hk9).1) ?_
                                            refine lv_iload hx hb dX11_shift_291 (lv_at hl 3 rfl) ?_
                                            refine lv_if_eq (tgt := 300) hx hb dX11_shift_293 rfl (fun c_54 => ?_) (fun c_54 => ?_)
                                            · exact absurd c_54 (by decide)
                                            · refine lv_iload_n hx hb dX11_shift_296 rfl (lv_at hl 10 rfl) ?_
                                              refine lv_goto (tgt := 314) hx hb dX11_shift_297 rfl ?_
                                              refine lv_iadd hx hb dX11_shift_314 ?_
                                              have b9_55 : 40 * f + k < 8040 := by omega
                                              refine z_iast hx hb hK hP hD hS 12 0 rfl rfl (e := 40 * f + k) (x := (cF40 cx f k) + dx) rfl b9_55 (Nat.le_of_ble_eq_true rfl) dX11_shift_315 (fun H locs hP hD hS => ?_)
                                              obtain ⟨hP, hD⟩ := zre (W2 := [_, _, _, _, _, _, _, _, _, _, _, _, (oa (a 12) cI 8040 (upd cx1 (40 * f + k) ((cF40 cx f k) + dx))), _, _, _, _, _, _, _, _, _, _, _, _, _, _, _, _, _, _, _]) hP hD rfl
                                              refine lv_aload_n hx hb dX11_shift_316 rfl (lv_at hl 7 rfl) ?_
                                              refine va_get (D := (dC, dI)) (ci := 9) (v := .ref (a 13)) (C := RX11) (T := TX11) (N := 55) hx hb hts inX11 hown hK hP 0 rfl rfl 13 (Nat.le_of_ble_eq_true rfl) (hts _ mw_1172) (fun _ h9 => h9) rfl dX11_shift_317 ?_
                                              refine lv_bipush (v := 40) hx hb dX11_shift_320 rfl ?_
                                              refine lv_iload_n hx hb dX11_shift_322 rfl (lv_at hl 8 rfl) ?_
                                              refine lv_imul hx hb dX11_shift_323 ?_
                                              refine zz_i (v := nI (40 * f)) (pk_mul 40 f) ?_
                                              refine lv_iload hx hb dX11_shift_324 (lv_at hl 2 rfl) ?_
                                              refine lv_iadd hx hb dX11_shift_326 ?_
                                              refine zz_i (v := nI (40 * f + k)) (nI_add (40 * f) k) ?_
                                              refine lv_aload_n hx hb dX11_shift_327 rfl (lv_at hl 7 rfl) ?_
                                              refine va_get (D := (dC, dI)) (ci := 9) (v := .ref (a 34)) (C := RX11) (T := TX11) (N := 55) hx hb hts inX11 hown hK hP 0 rfl rfl 34 (Nat.le_of_ble_eq_true rfl) (hts _ mw_1193) (fun _ h9 => h9) rfl dX11_shift_328 ?_
                                              refine lv_iload hx hb dX11_shift_331 (lv_at hl 2 rfl) ?_
                                              refine z_iald hx hb hK hP 24 0 rfl rfl (e := k) rfl b9_53 (Nat.le_of_ble_eq_true rfl) dX11_shift_333 ?_
                                              refine zz_i (v := cF40 cy f k) ((hox _ hk9).2) ?_
                                              refine lv_iload hx hb dX11_shift_334 (lv_at hl 3 rfl) ?_
                                              refine lv_if_eq (tgt := 344) hx hb dX11_shift_336 rfl (fun c_56 => ?_) (fun c_56 => ?_)
                                              · exact absurd c_56 (by decide)
                                              · refine lv_iload hx hb dX11_shift_339 (lv_at hl 11 rfl) ?_
                                                refine lv_goto (tgt := 359) hx hb dX11_shift_341 rfl ?_
                                                refine lv_iadd hx hb dX11_shift_359 ?_
                                                refine z_iast hx hb hK hP hD hS 13 0 rfl rfl (e := 40 * f + k) (x := (cF40 cy f k) + dy) rfl b9_55 (Nat.le_of_ble_eq_true rfl) dX11_shift_360 (fun H locs hP hD hS => ?_)
                                                obtain ⟨hP, hD⟩ := zre (W2 := [_, _, _, _, _, _, _, _, _, _, _, _, _, (oa (a 13) cI 8040 (upd cy1 (40 * f + k) ((cF40 cy f k) + dy))), _, _, _, _, _, _, _, _, _, _, _, _, _, _, _, _, _, _]) hP hD rfl
                                                refine lv_iinc (v := nI (k + 1)) (lv' := [(10, .int (nI (k + 1))), (12, .int 0), (11, .int (nI (wyR (kd f).toInt n kk k))), (9, .int 1), (7, .int 0), (8, .int 0), (6, .int 0), (0, .ref k0), (1, .int (nI f)), (2, .int (nI kk)), (3, .int dx), (4, .int dy), (5, .int (nI rr))]) hx hb dX11_shift_361 hl (k := 2) rfl (nI_add k 1) (Nat.le_of_ble_eq_true rfl) rfl (fun ls hl => ?_)
                                                refine lv_goto (tgt := 203) hx hb dX11_shift_364 rfl ?_
                                                exact ih_203 (k + 1) (upd cx1 (40 * f + k) ((cF40 cx f k) + dx)) (upd cy1 (40 * f + k) ((cF40 cy f k) + dy)) H locs ls (by first | with_reducible assumption | omega) (by first | with_reducible assumption | omega) (fgX_u hcx rfl) (fgX_u hcy rfl) hP hD hS (lv_sub hl [0, 3, 4, 5, 6, 7, 8, 9, 10, 11, 12] rfl)
                                          · exact absurd (by decide) c_52
                                        · exact absurd c_51 (by decide)
                                  exact hl_203 _ 0 cx cy H locs ls (Nat.lt_succ_self _) (by first | with_reducible assumption | omega) (fgX_0 _ _ _) (fgX_0 _ _ _) hP hD hS (lv_sub hl [0, 1, 2, 3, 4, 5, 6, 7, 8, 9, 10] rfl)
                                refine lv_if_eq (tgt := 193) hx hb dX11_shift_179 rfl (fun c_57 => ?_) (fun c_57 => ?_)
                                · have c_57 : (kd f).toInt = 0 := zc_eq rfl rfl c_57
                                  refine lv_iconst (v := 1) hx hb dX11_shift_193 rfl ?_
                                  refine lv_goto (tgt := 198) hx hb dX11_shift_194 rfl ?_
                                  exact hj_46 
                                · have c_57 : ¬ (kd f).toInt = 0 := zc_ne rfl rfl c_57
                                  refine lv_aload_n hx hb dX11_shift_182 rfl (lv_at hl 3 rfl) ?_
                                  refine va_get (D := (dC, dI)) (ci := 9) (v := .ref (a 1)) (C := RX11) (T := TX11) (N := 55) hx hb hts inX11 hown hK hP 0 rfl rfl 1 (Nat.le_of_ble_eq_true rfl) (hts _ mw_1160) (fun _ h9 => h9) rfl dX11_shift_183 ?_
                                  refine lv_iload_n hx hb dX11_shift_186 rfl (lv_at hl 4 rfl) ?_
                                  refine z_iald hx hb hK hP 1 0 rfl rfl (e := f) rfl b9_30 (Nat.le_of_ble_eq_true rfl) dX11_shift_187 ?_
                                  refine lv_bipush (v := 6) hx hb dX11_shift_188 rfl ?_
                                  refine lv_icmp_ne (tgt := 197) hx hb dX11_shift_190 rfl (fun c_58 => ?_) (fun c_58 => ?_)
                                  · have c_58 : ¬ (kd f).toInt = 6 := zc_ne rfl rfl c_58
                                    exfalso; omega
                                  · have c_58 : (kd f).toInt = 6 := zc_eq rfl rfl c_58
                                    refine lv_iconst (v := 1) hx hb dX11_shift_193 rfl ?_
                                    refine lv_goto (tgt := 198) hx hb dX11_shift_194 rfl ?_
                                    exact hj_46 
                              · exact absurd (by decide) c_45
                            · have c_44 : ¬ (tn f).toInt = 0 := zc_ne rfl rfl c_44
                              exfalso; omega
                          · exact absurd (by decide) c_43
                        · exact absurd (by decide) c_42
                      · have c_41 : 20 < ((rr : Nat) : Int) := zc_nle (nI_toInt b9_40) rfl c_41
                        exfalso; omega
          · have c_34 : ¬ (st f).toInt = 1 := zc_ne rfl rfl c_34
            exfalso; omega
        · exact absurd (by decide) c_33
    · have c_31 : (tn f).toInt = 0 := zc_eq rfl rfl c_31
      refine lv_iload_n hx hb dX11_shift_17 rfl (lv_at hl 2 rfl) ?_
      have b9_60 : zlt (kk) := show kk < 2147483648 by omega
      refine lv_if_lt (tgt := 31) hx hb dX11_shift_18 rfl (fun c_59 => ?_) (fun c_59 => ?_)
      · have c_59 : ((kk : Nat) : Int) < 0 := zc_lt (nI_toInt b9_60) rfl c_59
        exfalso; omega
      · have c_59 : 0 ≤ ((kk : Nat) : Int) := zc_nlt (nI_toInt b9_60) rfl c_59
        refine lv_iload_n hx hb dX11_shift_21 rfl (lv_at hl 2 rfl) ?_
        refine lv_aload_n hx hb dX11_shift_22 rfl (lv_at hl 0 rfl) ?_
        refine va_get (D := (dC, dI)) (ci := 9) (v := .ref (a 11)) (C := RX11) (T := TX11) (N := 55) hx hb hts inX11 hown hK hP 0 rfl rfl 11 (Nat.le_of_ble_eq_true rfl) (hts _ mw_1170) (fun _ h9 => h9) rfl dX11_shift_23 ?_
        refine lv_iload_n hx hb dX11_shift_26 rfl (lv_at hl 1 rfl) ?_
        refine z_iald hx hb hK hP 11 0 rfl rfl (e := f) rfl b9_30 (Nat.le_of_ble_eq_true rfl) dX11_shift_27 ?_
        refine zz_i (v := nI n) (hm_f) ?_
        have b9_62 : zlt (n) := show n < 2147483648 by omega
        refine lv_icmp_lt (tgt := 35) hx hb dX11_shift_28 rfl (fun c_61 => ?_) (fun c_61 => ?_)
        · have c_61 : ((kk : Nat) : Int) < ((n : Nat) : Int) := zc_lt (nI_toInt b9_60) (nI_toInt b9_62) c_61
          refine lv_iconst (v := 0) hx hb dX11_shift_35 rfl ?_
          refine lv_istore (lv' := [(6, .int 0), (0, .ref k0), (1, .int (nI f)), (2, .int (nI kk)), (3, .int dx), (4, .int dy), (5, .int (nI rr))]) hx hb dX11_shift_36 hl (Nat.le_of_ble_eq_true rfl) rfl (fun ls hl => ?_)
          refine lv_aload_n hx hb dX11_shift_38 rfl (lv_at hl 1 rfl) ?_
          refine lv_iload_n hx hb dX11_shift_39 rfl (lv_at hl 2 rfl) ?_
          obtain ⟨hPc, hDc, hFc, hI1⟩ := zi_sub (wc := [_]) hP hD hS hA [0] rfl rfl
          refine zcall (st1 := [.int (pI (f < ft))]) (va_runV (As := [.int (nI f)]) (rest := []) ⟨hx, hb, hml, hown, hts⟩ (k_M_isFeature_n l dC dI cI cZ cF H.size k0 a (upd I0 26 (nI ln)) J0 f ft (by first | with_reducible assumption | assumption) (by first | with_reducible assumption | omega) (by first | with_reducible assumption | omega)) (csV_178 hts rfl rfl ⟨Nat.le_of_ble_eq_true rfl, Nat.le_of_ble_eq_true rfl⟩) (zPV2 (q0 := 0) (ci := 9) hPc hDc hK hXN rfl rfl) rfl rfl hl.1 rfl (lv_room (Nat.le_of_ble_eq_true rfl)) dX11_shift_40 ⟨Nat.zero_le _, Nat.zero_le _⟩) hS hFc hFc rfl (fun t H locs ht hB hk1 hS => ?_)
          obtain ⟨hP1, hD1⟩ := hB
          rw [ht] at hP1
          replace hP := z0 hP hD hk1 hP1 hI1
          clear hk1 hPc hDc hFc hP1 hD1 ht hI1
          refine lv_if_eq (tgt := 51) hx hb dX11_shift_43 rfl (fun c_63 => ?_) (fun c_63 => ?_)
          · have c_63 : ¬ (f < ft) := zp_0 c_63
            exfalso; omega
          · have c_63 : f < ft := zp_1 c_63
            refine lv_iload hx hb dX11_shift_46 (lv_at hl 0 rfl) ?_
            refine lv_if_eq (tgt := 55) hx hb dX11_shift_48 rfl (fun c_64 => ?_) (fun c_64 => ?_)
            · refine lv_aload_n hx hb dX11_shift_55 rfl (lv_at hl 1 rfl) ?_
              refine va_get (D := (dC, dI)) (ci := 9) (v := .ref (a 5)) (C := RX11) (T := TX11) (N := 55) hx hb hts inX11 hown hK hP 0 rfl rfl 5 (Nat.le_of_ble_eq_true rfl) (hts _ mw_1164) (fun _ h9 => h9) rfl dX11_shift_56 ?_
              refine lv_iload_n hx hb dX11_shift_59 rfl (lv_at hl 2 rfl) ?_
              refine z_iald hx hb hK hP 2 0 rfl rfl (e := f) rfl b9_30 (Nat.le_of_ble_eq_true rfl) dX11_shift_60 ?_
              refine lv_iconst (v := 1) hx hb dX11_shift_61 rfl ?_
              refine lv_icmp_eq (tgt := 69) hx hb dX11_shift_62 rfl (fun c_65 => ?_) (fun c_65 => ?_)
              · have c_65 : (st f).toInt = 1 := zc_eq rfl rfl c_65
                refine lv_iconst (v := 0) hx hb dX11_shift_69 rfl ?_
                refine lv_istore (lv' := [(7, .int 0), (6, .int 0), (0, .ref k0), (1, .int (nI f)), (2, .int (nI kk)), (3, .int dx), (4, .int dy), (5, .int (nI rr))]) hx hb dX11_shift_70 hl (Nat.le_of_ble_eq_true rfl) rfl (fun ls hl => ?_)
                refine lv_iload_n hx hb dX11_shift_72 rfl (lv_at hl 5 rfl) ?_
                refine lv_sipush (v := (-200)) hx hb dX11_shift_73 rfl ?_
                refine lv_icmp_lt (tgt := 114) hx hb dX11_shift_76 rfl (fun c_66 => ?_) (fun c_66 => ?_)
                · have c_66 : dx.toInt < (-200) := zc_lt rfl rfl c_66
                  exfalso; omega
                · have c_66 : (-200) ≤ dx.toInt := zc_nlt rfl rfl c_66
                  refine lv_iload_n hx hb dX11_shift_79 rfl (lv_at hl 5 rfl) ?_
                  refine lv_sipush (v := 200) hx hb dX11_shift_80 rfl ?_
                  refine lv_icmp_gt (tgt := 114) hx hb dX11_shift_83 rfl (fun c_67 => ?_) (fun c_67 => ?_)
                  · have c_67 : 200 < dx.toInt := zc_lt rfl rfl c_67
                    exfalso; omega
                  · have c_67 : dx.toInt ≤ 200 := zc_nlt rfl rfl c_67
                    refine lv_iload hx hb dX11_shift_86 (lv_at hl 6 rfl) ?_
                    refine lv_sipush (v := (-200)) hx hb dX11_shift_88 rfl ?_
                    refine lv_icmp_lt (tgt := 114) hx hb dX11_shift_91 rfl (fun c_68 => ?_) (fun c_68 => ?_)
                    · have c_68 : dy.toInt < (-200) := zc_lt rfl rfl c_68
                      exfalso; omega
                    · have c_68 : (-200) ≤ dy.toInt := zc_nlt rfl rfl c_68
                      refine lv_iload hx hb dX11_shift_94 (lv_at hl 6 rfl) ?_
                      refine lv_sipush (v := 200) hx hb dX11_shift_96 rfl ?_
                      refine lv_icmp_gt (tgt := 114) hx hb dX11_shift_99 rfl (fun c_69 => ?_) (fun c_69 => ?_)
                      · have c_69 : 200 < dy.toInt := zc_lt rfl rfl c_69
                        exfalso; omega
                      · have c_69 : dy.toInt ≤ 200 := zc_nlt rfl rfl c_69
                        refine lv_iload hx hb dX11_shift_102 (lv_at hl 7 rfl) ?_
                        have b9_71 : zlt (rr) := show rr < 2147483648 by omega
                        refine lv_if_lt (tgt := 114) hx hb dX11_shift_104 rfl (fun c_70 => ?_) (fun c_70 => ?_)
                        · have c_70 : ((rr : Nat) : Int) < 0 := zc_lt (nI_toInt b9_71) rfl c_70
                          exfalso; omega
                        · have c_70 : 0 ≤ ((rr : Nat) : Int) := zc_nlt (nI_toInt b9_71) rfl c_70
                          refine lv_iload hx hb dX11_shift_107 (lv_at hl 7 rfl) ?_
                          refine lv_bipush (v := 20) hx hb dX11_shift_109 rfl ?_
                          refine lv_icmp_le (tgt := 118) hx hb dX11_shift_111 rfl (fun c_72 => ?_) (fun c_72 => ?_)
                          · have c_72 : ((rr : Nat) : Int) ≤ 20 := zc_le (nI_toInt b9_71) rfl c_72
                            refine lv_iconst (v := 0) hx hb dX11_shift_118 rfl ?_
                            refine lv_istore (lv' := [(8, .int 0), (7, .int 0), (6, .int 0), (0, .ref k0), (1, .int (nI f)), (2, .int (nI kk)), (3, .int dx), (4, .int dy), (5, .int (nI rr))]) hx hb dX11_shift_119 hl (Nat.le_of_ble_eq_true rfl) rfl (fun ls hl => ?_)
                            refine lv_iload hx hb dX11_shift_121 (lv_at hl 1 rfl) ?_
                            refine lv_if_le (tgt := 131) hx hb dX11_shift_123 rfl (fun c_73 => ?_) (fun c_73 => ?_)
                            · refine lv_iload hx hb dX11_shift_131 (lv_at hl 0 rfl) ?_
                              refine lv_if_eq (tgt := 140) hx hb dX11_shift_133 rfl (fun c_74 => ?_) (fun c_74 => ?_)
                              · refine lv_aload_n hx hb dX11_shift_140 rfl (lv_at hl 3 rfl) ?_
                                refine va_get (D := (dC, dI)) (ci := 9) (v := .ref (a 6)) (C := RX11) (T := TX11) (N := 55) hx hb hts inX11 hown hK hP 0 rfl rfl 6 (Nat.le_of_ble_eq_true rfl) (hts _ mw_1165) (fun _ h9 => h9) rfl dX11_shift_141 ?_
                                refine lv_iload_n hx hb dX11_shift_144 rfl (lv_at hl 4 rfl) ?_
                                refine z_zald hx hb hK hP 10 1 rfl rfl (e := f) rfl b9_30 (Nat.le_of_ble_eq_true rfl) dX11_shift_145 ?_
                                refine lv_if_eq (tgt := 153) hx hb dX11_shift_146 rfl (fun c_75 => ?_) (fun c_75 => ?_)
                                · have c_75 : (tn f).toInt = 0 := zc_eq rfl rfl c_75
                                  refine lv_iconst (v := 0) hx hb dX11_shift_153 rfl ?_
                                  refine lv_istore (lv' := [(7, .int 0), (8, .int 0), (6, .int 0), (0, .ref k0), (1, .int (nI f)), (2, .int (nI kk)), (3, .int dx), (4, .int dy), (5, .int (nI rr))]) hx hb dX11_shift_154 hl (Nat.le_of_ble_eq_true rfl) rfl (fun ls hl => ?_)
                                  refine lv_iload hx hb dX11_shift_156 (lv_at hl 0 rfl) ?_
                                  refine lv_if_le (tgt := 168) hx hb dX11_shift_158 rfl (fun c_76 => ?_) (fun c_76 => ?_)
                                  · refine lv_aload_n hx hb dX11_shift_168 rfl (lv_at hl 3 rfl) ?_
                                    refine lv_iload_n hx hb dX11_shift_169 rfl (lv_at hl 4 rfl) ?_
                                    obtain ⟨hPc, hDc, hFc⟩ := zo_sub (wc := [_, _, _, _, _, _, _, _, _, _, _, _, _]) hP hD hS hA [0, 2, 10, 1, 11, 12, 13, 19, 23, 24, 25, 26, 27] (by decide +kernel) rfl
                                    refine zcall (st1 := []) (va_runV (As := [.int (nI f)]) (rest := []) ⟨hx, hb, hml, hown, hts⟩ (k_M_remember l dC dI cI cZ cF H.size k0 a (upd I0 26 (nI ln)) J0 f n ft st tn kd mn cx cy S0 ox oy mt wi ins (by first | with_reducible assumption | assumption) (by first | with_reducible assumption | omega) (by first | with_reducible assumption | omega) (by first | with_reducible assumption | assumption) (by first | with_reducible assumption | omega) (by first | with_reducible assumption | assumption) (fun q h1 _ => hwf q h1)) (csV_190 hts rfl rfl ⟨Nat.le_of_ble_eq_true rfl, Nat.le_of_ble_eq_true rfl⟩) (zPV2 (q0 := 0) (ci := 9) hPc hDc hK hXN rfl rfl) rfl rfl hl.1 rfl (lv_room (Nat.le_of_ble_eq_true rfl)) dX11_shift_170 ⟨Nat.zero_le _, Nat.zero_le _⟩) hS hFc hFc rfl (fun t H locs ht hB hk1 hS => ?_)
                                    refine ex6 hB (fun S1 ox1 oy1 mt1 wi1 ins1 hB0 => ?_)
                                    clear hB
                                    obtain ⟨hox, hmt, hwi, hin, hP1, hD1⟩ := hB0
                                    rw [ht] at hP1
                                    obtain ⟨hP, hD⟩ := zn (W2 := [(om k0 a (upd (upd (upd I0 26 (nI ln)) 35 (nI n)) 36 (kd f)) J0), _, _, _, _, _, _, _, _, _, _, _, _, _, _, _, _, _, _, (oa (a 32) cI 8 S1), _, _, _, (oa (a 33) cI 42 ox1), (oa (a 34) cI 42 oy1), (oa (a 37) cZ 201 mt1), (oa (a 38) cZ 201 wi1), (oa (a 39) cZ 8040 ins1), _, _, _, _]) hP hD hk1 hFc hP1 hD1 zl_194 zl_195 zl_195 zl_194 (by decide +kernel) rfl rfl rfl rfl rfl
                                    clear hk1 hPc hDc hFc hP1 hD1 ht
                                    refine lv_aload_n hx hb dX11_shift_173 rfl (lv_at hl 3 rfl) ?_
                                    refine va_get (D := (dC, dI)) (ci := 9) (v := .ref (a 1)) (C := RX11) (T := TX11) (N := 55) hx hb hts inX11 hown hK hP 0 rfl rfl 1 (Nat.le_of_ble_eq_true rfl) (hts _ mw_1160) (fun _ h9 => h9) rfl dX11_shift_174 ?_
                                    refine lv_iload_n hx hb dX11_shift_177 rfl (lv_at hl 4 rfl) ?_
                                    refine z_iald hx hb hK hP 1 0 rfl rfl (e := f) rfl b9_30 (Nat.le_of_ble_eq_true rfl) dX11_shift_178 ?_
                                    have hj_77 : W p l e ({ frames := 8, cells := c2 - cp, slots := 8192 * (c2 - cp), locals := 210 } : Room) s m ([.ref k0, .int (nI f), .int (nI kk), .int dx, .int dy, .int (nI rr)] : List Value).toArray below meth c H locs 0 0 Q9 (F0 m 198 ls [.int 1]) := by
                                      refine lv_istore (lv' := [(9, .int 1), (7, .int 0), (8, .int 0), (6, .int 0), (0, .ref k0), (1, .int (nI f)), (2, .int (nI kk)), (3, .int dx), (4, .int dy), (5, .int (nI rr))]) hx hb dX11_shift_198 hl (Nat.le_of_ble_eq_true rfl) rfl (fun ls hl => ?_)
                                      refine lv_iconst (v := 0) hx hb dX11_shift_200 rfl ?_
                                      refine lv_istore (lv' := [(10, .int 0), (9, .int 1), (7, .int 0), (8, .int 0), (6, .int 0), (0, .ref k0), (1, .int (nI f)), (2, .int (nI kk)), (3, .int dx), (4, .int dy), (5, .int (nI rr))]) hx hb dX11_shift_201 hl (Nat.le_of_ble_eq_true rfl) rfl (fun ls hl => ?_)
                                      have hl_203 : ∀ (n9 : Nat) (k : Nat) (cx1 : Nat → Int32) (cy1 : Nat → Int32) (H : Heap) (locs : List Loc) (ls : Array Slot), n - k < n9 → (k ≤ n) → (cx1 = fgX f k (fun i => cF40 cx f i + dx) cx) → (cy1 = fgX f k (fun i => cF40 cy f i + dy) cy) → va_P (dC, dI) classes [(om k0 a (upd (upd (upd I0 26 (nI ln)) 35 (nI n)) 36 (kd f)) J0), (oa (a 1) cI 201 kd), (oa (a 5) cI 201 st), (oa (a 7) cI 201 gb), (oa (a 10) cI 201 it), (oa (a 8) cI 201 pa), (oa (a 9) cI 201 pb), (oa (a 2) cI 201 rk), (oa (a 3) cI 201 wd), (oa (a 4) cI 201 tw), (oa (a 6) cZ 201 tn), (oa (a 11) cI 201 mn), (oa (a 12) cI 8040 cx1), (oa (a 13) cI 8040 cy1), (oa (a 27) cI 516 sa), (oa (a 28) cI (4096 * cp) sh), (oa (a 16) cI 514 wh), (oa (a 17) cI 514 of9), (oa (a 18) cI 514 we), (oa (a 32) cI 8 S1), (oa (a 40) cI 6 T0), (oa (a 29) cI 42 P0), (oa (a 30) cI 42 Q0), (oa (a 33) cI 42 ox1), (oa (a 34) cI 42 oy1), (oa (a 37) cZ 201 mt1), (oa (a 38) cZ 201 wi1), (oa (a 39) cZ 8040 ins1), (oa (a 22) cI (64 * cl) la), (oa (a 23) cI (64 * cl) lb), (oa (a 24) cI (64 * cl) lc), (oa (a 25) cI (64 * cl) ld)] H → va_D A [(om k0 a (upd (upd (upd I0 26 (nI ln)) 35 (nI n)) 36 (kd f)) J0), (oa (a 1) cI 201 kd), (oa (a 5) cI 201 st), (oa (a 7) cI 201 gb), (oa (a 10) cI 201 it), (oa (a 8) cI 201 pa), (oa (a 9) cI 201 pb), (oa (a 2) cI 201 rk), (oa (a 3) cI 201 wd), (oa (a 4) cI 201 tw), (oa (a 6) cZ 201 tn), (oa (a 11) cI 201 mn), (oa (a 12) cI 8040 cx1), (oa (a 13) cI 8040 cy1), (oa (a 27) cI 516 sa), (oa (a 28) cI (4096 * cp) sh), (oa (a 16) cI 514 wh), (oa (a 17) cI 514 of9), (oa (a 18) cI 514 we), (oa (a 32) cI 8 S1), (oa (a 40) cI 6 T0), (oa (a 29) cI 42 P0), (oa (a 30) cI 42 Q0), (oa (a 33) cI 42 ox1), (oa (a 34) cI 42 oy1), (oa (a 37) cZ 201 mt1), (oa (a 38) cZ 201 wi1), (oa (a 39) cZ 8040 ins1), (oa (a 22) cI (64 * cl) la), (oa (a 23) cI (64 * cl) lb), (oa (a 24) cI (64 * cl) lc), (oa (a 25) cI (64 * cl) ld)] → va_S A s.heap H locs → lv_has ls 13 [(10, .int (nI k)), (9, .int 1), (7, .int 0), (8, .int 0), (6, .int 0), (0, .ref k0), (1, .int (nI f)), (2, .int (nI kk)), (3, .int dx), (4, .int dy), (5, .int (nI rr))] → W p l e ({ frames := 8, cells := c2 - cp, slots := 8192 * (c2 - cp), locals := 210 } : Room) s m ([.ref k0, .int (nI f), .int (nI kk), .int dx, .int dy, .int (nI rr)] : List Value).toArray below meth c H locs 0 0 Q9 (F0 m 203 ls []) := by
                                        intro n9
                                        induction n9 with
                                        | zero => intro k cx1 cy1 H locs ls hm; exact absurd hm (Nat.not_lt_zero _)
                                        | succ n9 ih_203 =>
                                          intro k cx1 cy1 H locs ls hm hk hcx hcy hP hD hS hl
                                          refine lv_iload hx hb dX11_shift_203 (lv_at hl 0 rfl) ?_
                                          refine lv_aload_n hx hb dX11_shift_205 rfl (lv_at hl 5 rfl) ?_
                                          refine va_get (D := (dC, dI)) (ci := 9) (v := .int (nI n)) (C := RX11) (T := TX11) (N := 55) hx hb hts inX11 hown hK hP 0 rfl rfl 35 (Nat.le_of_ble_eq_true rfl) (hts _ mw_1194) (fun _ h9 => h9) rfl dX11_shift_206 ?_
                                          have b9_79 : zlt (k) := show k < 2147483648 by omega
                                          refine lv_icmp_ge (tgt := 367) hx hb dX11_shift_209 rfl (fun c_78 => ?_) (fun c_78 => ?_)
                                          · have c_78 : ((n : Nat) : Int) ≤ ((k : Nat) : Int) := zc_le (nI_toInt b9_62) (nI_toInt b9_79) c_78
                                            have hkn : k = n := (by omega)
                                            rw [hkn] at hcx hcy
                                            refine lv_aload_n hx hb dX11_shift_367 rfl (lv_at hl 5 rfl) ?_
                                            refine lv_iload_n hx hb dX11_shift_368 rfl (lv_at hl 6 rfl) ?_
                                            obtain ⟨hPc, hDc, hFc, hI1⟩ := zi_sub (wc := [_, _, _, _, _]) hP hD hS hA [0, 12, 13, 23, 24] (by decide +kernel) rfl
                                            refine zcall (st1 := [.int (pI (∃ k, k < n ∧ ¬ ((cx1 (40 * f + k)).toInt = (ox1 k).toInt ∧ (cy1 (40 * f + k)).toInt = (oy1 k).toInt)))]) (va_runV (As := [.int (nI f)]) (rest := []) ⟨hx, hb, hml, hown, hts⟩ (k_M_moves l dC dI cI cZ cF H.size k0 a (upd (upd (upd I0 26 (nI ln)) 35 (nI n)) 36 (kd f)) J0 f n cx1 cy1 ox1 oy1 (by first | with_reducible assumption | omega) (rfl) (by first | with_reducible assumption | omega)) (csV_211 hts rfl rfl ⟨Nat.le_of_ble_eq_true rfl, Nat.le_of_ble_eq_true rfl⟩) (zPV2 (q0 := 0) (ci := 9) hPc hDc hK hXN rfl rfl) rfl rfl hl.1 rfl (lv_room (Nat.le_of_ble_eq_true rfl)) dX11_shift_369 ⟨Nat.zero_le _, Nat.zero_le _⟩) hS hFc hFc rfl (fun t H locs ht hB hk1 hS => ?_)
                                            obtain ⟨hP1, hD1⟩ := hB
                                            rw [ht] at hP1
                                            replace hP := z0 hP hD hk1 hP1 hI1
                                            clear hk1 hPc hDc hFc hP1 hD1 ht hI1
                                            refine zz_i (v := pI (mvd n (fun i => cF40 cx f i + dx) (fun i => cF40 cy f i + dy) (cF40 cx f) (cF40 cy f))) (zp_iff (mv_iff hcx hcy hox)) ?_
                                            refine lv_if_ne (tgt := 382) hx hb dX11_shift_372 rfl (fun c_80 => ?_) (fun c_80 => ?_)
                                            · have c_80 : mvd n (fun i => cF40 cx f i + dx) (fun i => cF40 cy f i + dy) (cF40 cx f) (cF40 cy f) := zp_1 c_80
                                              refine lv_aload_n hx hb dX11_shift_382 rfl (lv_at hl 5 rfl) ?_
                                              refine lv_iload_n hx hb dX11_shift_383 rfl (lv_at hl 6 rfl) ?_
                                              refine lv_iconst (v := 3) hx hb dX11_shift_384 rfl ?_
                                              refine zz_i (v := nI 3) (rfl) ?_
                                              have hbx : fgX f n ox1 cx1 = cx := (by rw [hcx]; exact fgX_back (fun k9 h9 => (hox k9 h9).1))
                                              have hby : fgX f n oy1 cy1 = cy := (by rw [hcy]; exact fgX_back (fun k9 h9 => (hox k9 h9).2))
                                              have hlq := lwM_eq (ft := ft) (st := st) (tn := tn) (kd := kd) (mn := mn) hn_f.1 hcx hcy hox
                                              have hpo : pls n ox1 oy1 := fun j hj => by rw [(hox j hj).1, (hox j hj).2]; exact hp_f j hj
                                              have hwf2 : ∀ q, lvF ft st tn q → q ≠ f → wfM mn cx1 cy1 q := fun q h1 h2 => wfM_o (hwf q h1) h2 (fun _ _ => rfl) (fun j hj => by rw [hcx, hcy]; exact ⟨fgX_o (by omega), fgX_o (by omega)⟩)
                                              obtain ⟨hPc, hDc, hFc⟩ := zo_sub (wc := [_, _, _, _, _, _, _, _, _, _, _, _, _, _, _, _, _, _, _, _, _, _, _, _, _, _, _, _, _, _, _, _]) hP hD hS hA [0, 1, 2, 3, 4, 5, 6, 7, 8, 9, 10, 11, 12, 13, 14, 15, 16, 17, 18, 19, 20, 21, 22, 23, 24, 25, 26, 27, 28, 29, 30, 31] (by decide +kernel) rfl
                                              refine zcall (st1 := [.int 1]) (va_runV (As := [.int (nI f), .int (nI 3)]) (rest := []) ⟨hx, hb, hml, hown, hts⟩ (k_M_changes_my l dC dI cI cZ cF H.size k0 a (upd (upd (upd I0 26 (nI ln)) 35 (nI n)) 36 (kd f)) J0 f n ft n (kd f) 3 kd st gb it pa pb rk wd tw tn mn cx1 cy1 sa sh wh of9 we S1 T0 P0 Q0 ox1 oy1 mt1 wi1 ins1 la lb lc ld (bMt kd mn cx cy f n) (bWi kd mn cx cy f) (bIn kd cx cy f n) dn bs w0 cp c1 c2 ln cl (hft) (by first | with_reducible assumption | omega) (by first | with_reducible assumption | omega) (hm_f) (by first | with_reducible assumption | omega) (hwf2) (by first | with_reducible assumption | omega) (by first | with_reducible assumption | omega) (hpo) (hmt) (fun q h1 h2 h5 => by rw [hwi q h1 h2]; exact zp_iff ⟨fun h => h.2, fun h => ⟨h5, h⟩⟩) (fun q h1 h2 i hi h5 => hin q h1 h2 h5 i hi) (by first | with_reducible assumption | omega) (rfl) (hft_f) (hdn) (hbs) (by first | with_reducible assumption | omega) (by first | with_reducible assumption | omega) (hi5_1) (hsa_1) (by rw [hum]; exact hmn_1) (hc1_1) (hpw_1) (hw0_1) (by rw [hum]; exact hfit_1) (by rw [hum]; exact hmin_1) (hcE_1) (hmn_1) (hpw_2) (by rw [hum]; exact hfit_2) (by rw [hum]; exact hmin_2) (hcE_2) (fun j h1 h2 => by omega) (hlc) (hcl1) (hclm) (trivial) (by rw [hlq]; exact hlaw)) (csV_212 hts rfl rfl ⟨Nat.le_of_ble_eq_true rfl, Nat.le_of_ble_eq_true rfl⟩) (zPV2 (q0 := 0) (ci := 9) hPc hDc hK hXN rfl rfl) rfl rfl hl.1 rfl (lv_room (Nat.le_of_ble_eq_true rfl)) dX11_shift_385 ⟨show (0 + (c2 - cp)) ≤ c2 - cp by omega, show (0 + (8192 * (c2 - cp))) ≤ 8192 * (c2 - cp) by omega⟩) hS hFc hFc rfl (fun t H locs ht hB hk1 hS => ?_)
                                              refine ex12 hB (fun z8 b2 sh2 t9 S2 T2 P2 Q2 la1 lb1 lc1 ld1 hB0 => ?_)
                                              clear hB
                                              obtain ⟨p0, p1, p2, p3, p4, p5, p6, hP1, hD1⟩ := hB0
                                              rw [ht] at hP1
                                              obtain ⟨hP, hD⟩ := zn (W2 := [(om k0 (va_up a 28 b2) (upd (upd (upd (upd (upd (upd (upd (upd I0 14 0) 19 (nI (dn + 1))) 20 0) 26 (nI t9)) 31 z8) 35 (nI n)) 36 (kd f)) 41 (nI (psN (nnF st tn mn) (psN (nnF st tn (upd mn f (nI n))) w0 ft) ft))) J0), (oa (a 1) cI 201 kd), (oa (a 5) cI 201 st), (oa (a 7) cI 201 gb), (oa (a 10) cI 201 it), (oa (a 8) cI 201 pa), (oa (a 9) cI 201 pb), (oa (a 2) cI 201 rk), (oa (a 3) cI 201 wd), (oa (a 4) cI 201 tw), (oa (a 6) cZ 201 tn), (oa (a 11) cI 201 mn), (oa (a 12) cI 8040 cx1), (oa (a 13) cI 8040 cy1), (oa (a 27) cI 516 (upd (upd sa (dn - bs + 1) (nI (psN (nnF st tn (upd mn f (nI n))) w0 ft))) (dn + 1 - bs + 1) (nI (psN (nnF st tn mn) (psN (nnF st tn (upd mn f (nI n))) w0 ft) ft)))), (oa b2 cI (4096 * c2) sh2), (oa (a 16) cI 514 (upd wh (dn + 1) (nI 3))), (oa (a 17) cI 514 (upd of9 (dn + 1) (nI f))), (oa (a 18) cI 514 (upd we (dn + 1) (0 : Int32))), (oa (a 32) cI 8 S2), (oa (a 40) cI 6 T2), (oa (a 29) cI 42 P2), (oa (a 30) cI 42 Q2), (oa (a 33) cI 42 ox1), (oa (a 34) cI 42 oy1), (oa (a 37) cZ 201 mt1), (oa (a 38) cZ 201 wi1), (oa (a 39) cZ 8040 ins1), (oa (a 22) cI (64 * cl) la1), (oa (a 23) cI (64 * cl) lb1), (oa (a 24) cI (64 * cl) lc1), (oa (a 25) cI (64 * cl) ld1)]) hP hD hk1 hFc hP1 hD1 zl_196 [] zl_197 zl_196 (by decide +kernel) rfl rfl rfl rfl rfl
                                              clear hk1 hPc hDc hFc hP1 hD1 ht
                                              obtain ⟨hP9, hD9⟩ := zu_sub (wc := [(om k0 (va_up a 28 b2) (upd (upd (upd (upd (upd (upd (upd (upd I0 14 0) 19 (nI (dn + 1))) 20 0) 26 (nI t9)) 31 z8) 35 (nI n)) 36 (kd f)) 41 (nI (psN (nnF st tn mn) (psN (nnF st tn (upd mn f (nI n))) w0 ft) ft))) J0), (oa (a 1) cI 201 kd), (oa (a 5) cI 201 st), (oa (a 7) cI 201 gb), (oa (a 10) cI 201 it), (oa (a 8) cI 201 pa), (oa (a 9) cI 201 pb), (oa (a 2) cI 201 rk), (oa (a 3) cI 201 wd), (oa (a 4) cI 201 tw), (oa (a 6) cZ 201 tn), (oa (a 11) cI 201 mn), (oa (a 12) cI 8040 cx1), (oa (a 13) cI 8040 cy1), (oa (a 27) cI 516 (upd (upd sa (dn - bs + 1) (nI (psN (nnF st tn (upd mn f (nI n))) w0 ft))) (dn + 1 - bs + 1) (nI (psN (nnF st tn mn) (psN (nnF st tn (upd mn f (nI n))) w0 ft) ft)))), (oa b2 cI (4096 * c2) sh2), (oa (a 16) cI 514 (upd wh (dn + 1) (nI 3))), (oa (a 17) cI 514 (upd of9 (dn + 1) (nI f))), (oa (a 18) cI 514 (upd we (dn + 1) (0 : Int32))), (oa (a 32) cI 8 S2), (oa (a 40) cI 6 T2), (oa (a 29) cI 42 P2), (oa (a 30) cI 42 Q2), (oa (a 33) cI 42 ox1), (oa (a 34) cI 42 oy1), (oa (a 37) cZ 201 mt1), (oa (a 38) cZ 201 wi1), (oa (a 39) cZ 8040 ins1), (oa (a 22) cI (64 * cl) la1), (oa (a 23) cI (64 * cl) lb1), (oa (a 24) cI (64 * cl) lc1), (oa (a 25) cI (64 * cl) ld1)]) hP hD (true :: true :: true :: true :: true :: true :: true :: true :: true :: true :: true :: true :: true :: true :: true :: true :: true :: true :: true :: true :: true :: true :: true :: true :: true :: true :: true :: true :: true :: true :: true :: true :: []) rfl rfl
                                              have hE9 : ([(om k0 (va_up a 28 b2) (upd (upd (upd (upd (upd (upd (upd (upd I0 14 0) 19 (nI (dn + 1))) 20 0) 26 (nI t9)) 31 z8) 35 (nI n)) 36 (kd f)) 41 (nI (psN (nnF st tn mn) (psN (nnF st tn (upd mn f (nI n))) w0 ft) ft))) J0), (oa (a 1) cI 201 kd), (oa (a 5) cI 201 st), (oa (a 7) cI 201 gb), (oa (a 10) cI 201 it), (oa (a 8) cI 201 pa), (oa (a 9) cI 201 pb), (oa (a 2) cI 201 rk), (oa (a 3) cI 201 wd), (oa (a 4) cI 201 tw), (oa (a 6) cZ 201 tn), (oa (a 11) cI 201 mn), (oa (a 12) cI 8040 cx1), (oa (a 13) cI 8040 cy1), (oa (a 27) cI 516 (upd (upd sa (dn - bs + 1) (nI (psN (nnF st tn (upd mn f (nI n))) w0 ft))) (dn + 1 - bs + 1) (nI (psN (nnF st tn mn) (psN (nnF st tn (upd mn f (nI n))) w0 ft) ft)))), (oa b2 cI (4096 * c2) sh2), (oa (a 16) cI 514 (upd wh (dn + 1) (nI 3))), (oa (a 17) cI 514 (upd of9 (dn + 1) (nI f))), (oa (a 18) cI 514 (upd we (dn + 1) (0 : Int32))), (oa (a 32) cI 8 S2), (oa (a 40) cI 6 T2), (oa (a 29) cI 42 P2), (oa (a 30) cI 42 Q2), (oa (a 33) cI 42 ox1), (oa (a 34) cI 42 oy1), (oa (a 37) cZ 201 mt1), (oa (a 38) cZ 201 wi1), (oa (a 39) cZ 8040 ins1), (oa (a 22) cI (64 * cl) la1), (oa (a 23) cI (64 * cl) lb1), (oa (a 24) cI (64 * cl) lc1), (oa (a 25) cI (64 * cl) ld1)] : va_W) = [(om k0 (va_up a 28 b2) (upd (upd (upd (upd (upd (upd (upd (upd I0 14 0) 19 (nI (dn + 1))) 20 0) 26 (nI t9)) 31 z8) 35 (nI n)) 36 (kd f)) 41 (nI (psN (nnF st tn mn) (psN (nnF st tn mn) w0 ft) ft))) J0), (oa (a 1) cI 201 kd), (oa (a 5) cI 201 st), (oa (a 7) cI 201 gb), (oa (a 10) cI 201 it), (oa (a 8) cI 201 pa), (oa (a 9) cI 201 pb), (oa (a 2) cI 201 rk), (oa (a 3) cI 201 wd), (oa (a 4) cI 201 tw), (oa (a 6) cZ 201 tn), (oa (a 11) cI 201 mn), (oa (a 12) cI 8040 (fgX f n (fun i => cF40 cx f i + dx) cx)), (oa (a 13) cI 8040 (fgX f n (fun i => cF40 cy f i + dy) cy)), (oa (a 27) cI 516 (upd (upd sa (dn - bs + 1) (nI (psN (nnF st tn mn) w0 ft))) (dn + 1 - bs + 1) (nI (psN (nnF st tn mn) (psN (nnF st tn mn) w0 ft) ft)))), (oa b2 cI (4096 * c2) sh2), (oa (a 16) cI 514 (upd wh (dn + 1) (nI 3))), (oa (a 17) cI 514 (upd of9 (dn + 1) (nI f))), (oa (a 18) cI 514 (upd we (dn + 1) (0 : Int32))), (oa (a 32) cI 8 S2), (oa (a 40) cI 6 T2), (oa (a 29) cI 42 P2), (oa (a 30) cI 42 Q2), (oa (a 33) cI 42 ox1), (oa (a 34) cI 42 oy1), (oa (a 37) cZ 201 mt1), (oa (a 38) cZ 201 wi1), (oa (a 39) cZ 8040 ins1), (oa (a 22) cI (64 * cl) la1), (oa (a 23) cI (64 * cl) lb1), (oa (a 24) cI (64 * cl) lc1), (oa (a 25) cI (64 * cl) ld1)] := by rw [hum, hcx, hcy]
                                              rw [hE9] at hP9 hD9
                                              refine W.widen (k := c2 - cp) (n := 8192 * (c2 - cp)) (by omega) (by omega) ?_
                                              rw [hQ9]
                                              exact W.zret (ty := .boolean) (v := 1) hx hb hr (rfl) (fun t ht hW => ⟨⟨rfl, z8, b2, sh2, t9, S2, T2, P2, Q2, ox1, oy1, mt1, wi1, ins1, la1, lb1, lc1, ld1, (p0), (p1), (by have h9 := p2; rw [hum, huk, hbx, hby] at h9; exact h9), (by have h9 := p3; rw [hum] at h9; exact h9), (by have h9 := p4; rw [hum, hcx, hcy] at h9; exact h9), (p5), (p6), by rw [ht]; exact hP9, hD9⟩, hS.F ht⟩) hS.2.2 dX11_shift_388
                                            · have c_80 : ¬ (mvd n (fun i => cF40 cx f i + dx) (fun i => cF40 cy f i + dy) (cF40 cx f) (cF40 cy f)) := zp_0 c_80
                                              exfalso; exact absurd hmv (by first | with_reducible assumption | assumption)
                                          · have c_78 : ((k : Nat) : Int) < ((n : Nat) : Int) := zc_nle (nI_toInt b9_62) (nI_toInt b9_79) c_78
                                            have hk9 : k < n := (by omega)
                                            refine lv_aload_n hx hb dX11_shift_212 rfl (lv_at hl 5 rfl) ?_
                                            refine lv_iload_n hx hb dX11_shift_213 rfl (lv_at hl 6 rfl) ?_
                                            refine lv_iload_n hx hb dX11_shift_214 rfl (lv_at hl 7 rfl) ?_
                                            refine lv_iload hx hb dX11_shift_215 (lv_at hl 0 rfl) ?_
                                            obtain ⟨hPc, hDc, hFc, hI1⟩ := zi_sub (wc := [_, _]) hP hD hS hA [0, 1] rfl rfl
                                            refine zcall (st1 := [.int (nI (wyR (kd f).toInt n kk k))]) (va_runV (As := [.int (nI f), .int (nI kk), .int (nI k)]) (rest := []) ⟨hx, hb, hml, hown, hts⟩ (k_M_wayOf l dC dI cI cZ cF H.size k0 a (upd (upd (upd I0 26 (nI ln)) 35 (nI n)) 36 (kd f)) J0 f n kk k kd (by first | with_reducible assumption | omega) (by first | with_reducible assumption | omega) (hkk) (by first | with_reducible assumption | omega)) (csV_216 hts rfl rfl ⟨Nat.le_of_ble_eq_true rfl, Nat.le_of_ble_eq_true rfl⟩) (zPV2 (q0 := 0) (ci := 9) hPc hDc hK hXN rfl rfl) rfl rfl hl.1 rfl (lv_room (Nat.le_of_ble_eq_true rfl)) dX11_shift_217 ⟨Nat.zero_le _, Nat.zero_le _⟩) hS hFc hFc rfl (fun t H locs ht hB hk1 hS => ?_)
                                            obtain ⟨hP1, hD1⟩ := hB
                                            rw [ht] at hP1
                                            replace hP := z0 hP hD hk1 hP1 hI1
                                            clear hk1 hPc hDc hFc hP1 hD1 ht hI1
                                            refine lv_istore (lv' := [(11, .int (nI (wyR (kd f).toInt n kk k))), (10, .int (nI k)), (9, .int 1), (7, .int 0), (8, .int 0), (6, .int 0), (0, .ref k0), (1, .int (nI f)), (2, .int (nI kk)), (3, .int dx), (4, .int dy), (5, .int (nI rr))]) hx hb dX11_shift_220 hl (Nat.le_of_ble_eq_true rfl) rfl (fun ls hl => ?_)
                                            refine lv_iload hx hb dX11_shift_222 (lv_at hl 2 rfl) ?_
                                            refine lv_if_ne (tgt := 262) hx hb dX11_shift_224 rfl (fun c_81 => ?_) (fun c_81 => ?_)
                                            · refine lv_iconst (v := 0) hx hb dX11_shift_262 rfl ?_
                                              refine lv_istore (lv' := [(12, .int 0), (11, .int (nI (wyR (kd f).toInt n kk k))), (10, .int (nI k)), (9, .int 1), (7, .int 0), (8, .int 0), (6, .int 0), (0, .ref k0), (1, .int (nI f)), (2, .int (nI kk)), (3, .int dx), (4, .int dy), (5, .int (nI rr))]) hx hb dX11_shift_263 hl (Nat.le_of_ble_eq_true rfl) rfl (fun ls hl => ?_)
                                              refine lv_iload hx hb dX11_shift_265 (lv_at hl 0 rfl) ?_
                                              refine lv_if_eq (tgt := 273) hx hb dX11_shift_267 rfl (fun c_82 => ?_) (fun c_82 => ?_)
                                              · refine lv_aload_n hx hb dX11_shift_273 rfl (lv_at hl 7 rfl) ?_
                                                refine va_get (D := (dC, dI)) (ci := 9) (v := .ref (a 12)) (C := RX11) (T := TX11) (N := 55) hx hb hts inX11 hown hK hP 0 rfl rfl 12 (Nat.le_of_ble_eq_true rfl) (hts _ mw_1171) (fun _ h9 => h9) rfl dX11_shift_274 ?_
                                                refine lv_bipush (v := 40) hx hb dX11_shift_277 rfl ?_
                                                refine lv_iload_n hx hb dX11_shift_279 rfl (lv_at hl 8 rfl) ?_
                                                refine lv_imul hx hb dX11_shift_280 ?_
                                                refine zz_i (v := nI (40 * f)) (pk_mul 40 f) ?_
                                                refine lv_iload hx hb dX11_shift_281 (lv_at hl 2 rfl) ?_
                                                refine lv_iadd hx hb dX11_shift_283 ?_
                                                refine zz_i (v := nI (40 * f + k)) (nI_add (40 * f) k) ?_
                                                refine lv_aload_n hx hb dX11_shift_284 rfl (lv_at hl 7 rfl) ?_
                                                refine va_get (D := (dC, dI)) (ci := 9) (v := .ref (a 33)) (C := RX11) (T := TX11) (N := 55) hx hb hts inX11 hown hK hP 0 rfl rfl 33 (Nat.le_of_ble_eq_true rfl) (hts _ mw_1192) (fun _ h9 => h9) rfl dX11_shift_285 ?_
                                                refine lv_iload hx hb dX11_shift_288 (lv_at hl 2 rfl) ?_
                                                have b9_83 : k < 42 := by omega
                                                refine z_iald hx hb hK hP 23 0 rfl rfl (e := k) rfl b9_83 (Nat.le_of_ble_eq_true rfl) dX11_shift_290 ?_
                                                refine zz_i (v := cF40 cx f k) ((hox _ hk9).1) ?_
                                                refine lv_iload hx hb dX11_shift_291 (lv_at hl 3 rfl) ?_
                                                refine lv_if_eq (tgt := 300) hx hb dX11_shift_293 rfl (fun c_84 => ?_) (fun c_84 => ?_)
                                                · exact absurd c_84 (by decide)
                                                · refine lv_iload_n hx hb dX11_shift_296 rfl (lv_at hl 10 rfl) ?_
                                                  refine lv_goto (tgt := 314) hx hb dX11_shift_297 rfl ?_
                                                  refine lv_iadd hx hb dX11_shift_314 ?_
                                                  have b9_85 : 40 * f + k < 8040 := by omega
                                                  refine z_iast hx hb hK hP hD hS 12 0 rfl rfl (e := 40 * f + k) (x := (cF40 cx f k) + dx) rfl b9_85 (Nat.le_of_ble_eq_true rfl) dX11_shift_315 (fun H locs hP hD hS => ?_)
                                                  obtain ⟨hP, hD⟩ := zre (W2 := [_, _, _, _, _, _, _, _, _, _, _, _, (oa (a 12) cI 8040 (upd cx1 (40 * f + k) ((cF40 cx f k) + dx))), _, _, _, _, _, _, _, _, _, _, _, _, _, _, _, _, _, _, _]) hP hD rfl
                                                  refine lv_aload_n hx hb dX11_shift_316 rfl (lv_at hl 7 rfl) ?_
                                                  refine va_get (D := (dC, dI)) (ci := 9) (v := .ref (a 13)) (C := RX11) (T := TX11) (N := 55) hx hb hts inX11 hown hK hP 0 rfl rfl 13 (Nat.le_of_ble_eq_true rfl) (hts _ mw_1172) (fun _ h9 => h9) rfl dX11_shift_317 ?_
                                                  refine lv_bipush (v := 40) hx hb dX11_shift_320 rfl ?_
                                                  refine lv_iload_n hx hb dX11_shift_322 rfl (lv_at hl 8 rfl) ?_
                                                  refine lv_imul hx hb dX11_shift_323 ?_
                                                  refine zz_i (v := nI (40 * f)) (pk_mul 40 f) ?_
                                                  refine lv_iload hx hb dX11_shift_324 (lv_at hl 2 rfl) ?_
                                                  refine lv_iadd hx hb dX11_shift_326 ?_
                                                  refine zz_i (v := nI (40 * f + k)) (nI_add (40 * f) k) ?_
                                                  refine lv_aload_n hx hb dX11_shift_327 rfl (lv_at hl 7 rfl) ?_
                                                  refine va_get (D := (dC, dI)) (ci := 9) (v := .ref (a 34)) (C := RX11) (T := TX11) (N := 55) hx hb hts inX11 hown hK hP 0 rfl rfl 34 (Nat.le_of_ble_eq_true rfl) (hts _ mw_1193) (fun _ h9 => h9) rfl dX11_shift_328 ?_
                                                  refine lv_iload hx hb dX11_shift_331 (lv_at hl 2 rfl) ?_
                                                  refine z_iald hx hb hK hP 24 0 rfl rfl (e := k) rfl b9_83 (Nat.le_of_ble_eq_true rfl) dX11_shift_333 ?_
                                                  refine zz_i (v := cF40 cy f k) ((hox _ hk9).2) ?_
                                                  refine lv_iload hx hb dX11_shift_334 (lv_at hl 3 rfl) ?_
                                                  refine lv_if_eq (tgt := 344) hx hb dX11_shift_336 rfl (fun c_86 => ?_) (fun c_86 => ?_)
                                                  · exact absurd c_86 (by decide)
                                                  · refine lv_iload hx hb dX11_shift_339 (lv_at hl 11 rfl) ?_
                                                    refine lv_goto (tgt := 359) hx hb dX11_shift_341 rfl ?_
                                                    refine lv_iadd hx hb dX11_shift_359 ?_
                                                    refine z_iast hx hb hK hP hD hS 13 0 rfl rfl (e := 40 * f + k) (x := (cF40 cy f k) + dy) rfl b9_85 (Nat.le_of_ble_eq_true rfl) dX11_shift_360 (fun H locs hP hD hS => ?_)
                                                    obtain ⟨hP, hD⟩ := zre (W2 := [_, _, _, _, _, _, _, _, _, _, _, _, _, (oa (a 13) cI 8040 (upd cy1 (40 * f + k) ((cF40 cy f k) + dy))), _, _, _, _, _, _, _, _, _, _, _, _, _, _, _, _, _, _]) hP hD rfl
                                                    refine lv_iinc (v := nI (k + 1)) (lv' := [(10, .int (nI (k + 1))), (12, .int 0), (11, .int (nI (wyR (kd f).toInt n kk k))), (9, .int 1), (7, .int 0), (8, .int 0), (6, .int 0), (0, .ref k0), (1, .int (nI f)), (2, .int (nI kk)), (3, .int dx), (4, .int dy), (5, .int (nI rr))]) hx hb dX11_shift_361 hl (k := 2) rfl (nI_add k 1) (Nat.le_of_ble_eq_true rfl) rfl (fun ls hl => ?_)
                                                    refine lv_goto (tgt := 203) hx hb dX11_shift_364 rfl ?_
                                                    exact ih_203 (k + 1) (upd cx1 (40 * f + k) ((cF40 cx f k) + dx)) (upd cy1 (40 * f + k) ((cF40 cy f k) + dy)) H locs ls (by first | with_reducible assumption | omega) (by first | with_reducible assumption | omega) (fgX_u hcx rfl) (fgX_u hcy rfl) hP hD hS (lv_sub hl [0, 3, 4, 5, 6, 7, 8, 9, 10, 11, 12] rfl)
                                              · exact absurd (by decide) c_82
                                            · exact absurd c_81 (by decide)
                                      exact hl_203 _ 0 cx cy H locs ls (Nat.lt_succ_self _) (by first | with_reducible assumption | omega) (fgX_0 _ _ _) (fgX_0 _ _ _) hP hD hS (lv_sub hl [0, 1, 2, 3, 4, 5, 6, 7, 8, 9, 10] rfl)
                                    refine lv_if_eq (tgt := 193) hx hb dX11_shift_179 rfl (fun c_87 => ?_) (fun c_87 => ?_)
                                    · have c_87 : (kd f).toInt = 0 := zc_eq rfl rfl c_87
                                      refine lv_iconst (v := 1) hx hb dX11_shift_193 rfl ?_
                                      refine lv_goto (tgt := 198) hx hb dX11_shift_194 rfl ?_
                                      exact hj_77 
                                    · have c_87 : ¬ (kd f).toInt = 0 := zc_ne rfl rfl c_87
                                      refine lv_aload_n hx hb dX11_shift_182 rfl (lv_at hl 3 rfl) ?_
                                      refine va_get (D := (dC, dI)) (ci := 9) (v := .ref (a 1)) (C := RX11) (T := TX11) (N := 55) hx hb hts inX11 hown hK hP 0 rfl rfl 1 (Nat.le_of_ble_eq_true rfl) (hts _ mw_1160) (fun _ h9 => h9) rfl dX11_shift_183 ?_
                                      refine lv_iload_n hx hb dX11_shift_186 rfl (lv_at hl 4 rfl) ?_
                                      refine z_iald hx hb hK hP 1 0 rfl rfl (e := f) rfl b9_30 (Nat.le_of_ble_eq_true rfl) dX11_shift_187 ?_
                                      refine lv_bipush (v := 6) hx hb dX11_shift_188 rfl ?_
                                      refine lv_icmp_ne (tgt := 197) hx hb dX11_shift_190 rfl (fun c_88 => ?_) (fun c_88 => ?_)
                                      · have c_88 : ¬ (kd f).toInt = 6 := zc_ne rfl rfl c_88
                                        exfalso; omega
                                      · have c_88 : (kd f).toInt = 6 := zc_eq rfl rfl c_88
                                        refine lv_iconst (v := 1) hx hb dX11_shift_193 rfl ?_
                                        refine lv_goto (tgt := 198) hx hb dX11_shift_194 rfl ?_
                                        exact hj_77 
                                  · exact absurd (by decide) c_76
                                · have c_75 : ¬ (tn f).toInt = 0 := zc_ne rfl rfl c_75
                                  exfalso; omega
                              · exact absurd (by decide) c_74
                            · exact absurd (by decide) c_73
                          · have c_72 : 20 < ((rr : Nat) : Int) := zc_nle (nI_toInt b9_71) rfl c_72
                            exfalso; omega
              · have c_65 : ¬ (st f).toInt = 1 := zc_ne rfl rfl c_65
                exfalso; omega
            · exact absurd (by decide) c_64
        · have c_61 : ((n : Nat) : Int) ≤ ((kk : Nat) : Int) := zc_nlt (nI_toInt b9_60) (nI_toInt b9_62) c_61
          exfalso; omega
end
section
set_option maxHeartbeats 4000000 in
set_option maxRecDepth 100000 in
theorem k_M_isLess (l : Launch) (dC : Nat → ClassId) (dI : Nat → Nat → Nat) (cI cZ cF : ClassId) (sz : Nat) (k0 : Nat) (a : Nat → Nat) (I0 : Nat → Int32) (J0 : Nat → Int64) (w1 : Int) (w2 : Int) (w3 : Int) (w4 : Int) (hA9 : 0 ≤ w1 * w4 ∧ w1 * w4 ≤ 8000000000000000000) (hB9 : 0 ≤ w3 * w2 ∧ w3 * w2 ≤ 8000000000000000000) (q0 : 0 ≤ w1 ∧ w1 ≤ 4000000000000) (q1 : 0 ≤ w2 ∧ w2 ≤ 4000000000000) (q2 : 0 ≤ w3 ∧ w3 ≤ 4000000000000) (q3 : 0 ≤ w4 ∧ w4 ≤ 4000000000000) : zM l yX11_isLess cX11_isLess 9 (some .boolean) ({ frames := 0, cells := 0, slots := 0, locals := 0 } : Room) [.ref k0, .long (jI w1), .long (jI w2), .long (jI w3), .long (jI w4)] (dC, dI) (zTy cI cZ cF) [(om k0 a I0 J0)] sz (some (.int (pI (w1 * w4 < w3 * w2)))) (fun A t => zPD (dC, dI) classes A [(om k0 a I0 J0)] t.heap) 0 0 := by
  refine zIn (own := "ScaleShopModel") (loc := [(0, .ref k0), (1, .long (jI w1)), (3, .long (jI w2)), (5, .long (jI w3)), (7, .long (jI w4))]) rfl rfl rfl rfl (fun p e s m below meth c hx hb hr hts hown hlocks hml hnm9 A hA hS hP hD hK hXN Q9 hQ9 ls hl => ?_)
  have hb1 : -9000000000000000000 ≤ w1 * w4 ∧ w1 * w4 ≤ 9000000000000000000 := (by omega)
  have hb2 : -9000000000000000000 ≤ w3 * w2 ∧ w3 * w2 ≤ 9000000000000000000 := (by omega)
  refine lv_lload_n hx hb dX11_isLess_0 rfl (lv_at hl 1 rfl) ?_
  refine lv_lload hx hb dX11_isLess_1 (lv_at hl 4 rfl) ?_
  refine lv_lmul hx hb dX11_isLess_3 ?_
  refine zz_l (v := jI (w1 * w4)) (jI_mul (by omega) (by omega) hb1) ?_
  refine lv_lload hx hb dX11_isLess_4 (lv_at hl 3 rfl) ?_
  refine lv_lload_n hx hb dX11_isLess_6 rfl (lv_at hl 2 rfl) ?_
  refine lv_lmul hx hb dX11_isLess_7 ?_
  refine zz_l (v := jI (w3 * w2)) (jI_mul (by omega) (by omega) hb2) ?_
  refine W.lcmp hx hb dX11_isLess_8 ?_
  refine lv_if_ge (tgt := 16) hx hb dX11_isLess_9 rfl (fun c_1 => ?_) (fun c_1 => ?_)
  · have c_1 : (w3 * w2) ≤ (w1 * w4) := zl_ge (jI_toInt (by omega)) (jI_toInt (by omega)) c_1
    refine lv_iconst (v := 0) hx hb dX11_isLess_16 rfl ?_
    obtain ⟨hP9, hD9⟩ := zu_sub (wc := [_]) hP hD [true] rfl rfl
    rw [hQ9]
    exact W.zret (ty := .boolean) (v := 0) hx hb hr (rfl) (fun t ht hW => ⟨⟨congrArg (fun z => Outcome.returned (some (Value.int z))) (show (0 : Int32) = pI (w1 * w4 < w3 * w2) from (zp_f (by omega)).symm), by rw [ht]; exact hP9, hD9⟩, hS.F ht⟩) hS.2.2 dX11_isLess_17
  · have c_1 : (w1 * w4) < (w3 * w2) := zl_nge (jI_toInt (by omega)) (jI_toInt (by omega)) c_1
    refine lv_iconst (v := 1) hx hb dX11_isLess_12 rfl ?_
    refine lv_goto (tgt := 17) hx hb dX11_isLess_13 rfl ?_
    obtain ⟨hP9, hD9⟩ := zu_sub (wc := [_]) hP hD [true] rfl rfl
    rw [hQ9]
    exact W.zret (ty := .boolean) (v := 1) hx hb hr (rfl) (fun t ht hW => ⟨⟨congrArg (fun z => Outcome.returned (some (Value.int z))) (show (1 : Int32) = pI (w1 * w4 < w3 * w2) from (zp_t (by omega)).symm), by rw [ht]; exact hP9, hD9⟩, hS.F ht⟩) hS.2.2 dX11_isLess_17
set_option maxHeartbeats 4000000 in
set_option maxRecDepth 100000 in
theorem k_M_nearer (l : Launch) (dC : Nat → ClassId) (dI : Nat → Nat → Nat) (cI cZ cF : ClassId) (sz : Nat) (k0 : Nat) (a : Nat → Nat) (I0 : Nat → Int32) (J0 : Nat → Int64) (q : Nat) (px : Int32) (py : Int32) (u : Int) (d : Int) (S0 : Nat → Int32) (hq4 : q ≤ 4) (hs : ∀ k, k < 8 → pl (S0 k)) (hpx : pl px) (hpy : pl py) (hu9 : 0 ≤ u ∧ u ≤ 4000000000000) (hd9 : 0 ≤ d ∧ d ≤ 2000000) : zM l yX11_nearer cX11_nearer 23 none ({ frames := 1, cells := 0, slots := 0, locals := 28 } : Room) [.ref k0, .ref (a 32), .int px, .int py, .int (nI q)] (dC, dI) (zTy cI cZ cF) [(om k0 a I0 (vp_updL (vp_updL J0 48 (jI u)) 49 (jI d))), (oa (a 32) cI 8 S0)] sz none (fun A t => ∃ (zu : Int), ∃ (zd : Int), (ndP u d (nrU (S0 q).toInt (S0 (q + 1)).toInt (S0 (q + 2)).toInt (S0 (q + 3)).toInt px.toInt py.toInt) (nrD (S0 q).toInt (S0 (q + 1)).toInt (S0 (q + 2)).toInt (S0 (q + 3)).toInt px.toInt py.toInt) zu zd) ∧ zPD (dC, dI) classes A [(om k0 a I0 (vp_updL (vp_updL J0 48 (jI zu)) 49 (jI zd))), (oa (a 32) cI 8 S0)] t.heap) 0 0 := by
  refine zIn (own := "ScaleShopModel") (loc := [(0, .ref k0), (1, .ref (a 32)), (2, .int px), (3, .int py), (4, .int (nI q))]) rfl rfl rfl rfl (fun p e s m below meth c hx hb hr hts hown hlocks hml hnm9 A hA hS hP hD hK hXN Q9 hQ9 ls hl => ?_)
  have hLb := nrL_b (hs q (by omega)) (hs (q + 1) (by omega)) (hs (q + 2) (by omega)) (hs (q + 3) (by omega))
  have hTb := nrT_b (hs q (by omega)) (hs (q + 1) (by omega)) (hs (q + 2) (by omega)) (hs (q + 3) (by omega)) hpx hpy
  have hUb := nrU_b (hs q (by omega)) (hs (q + 1) (by omega)) (hs (q + 2) (by omega)) (hs (q + 3) (by omega)) hpx hpy
  refine lv_aload_n hx hb dX11_nearer_0 rfl (lv_at hl 1 rfl) ?_
  refine lv_iload hx hb dX11_nearer_1 (lv_at hl 4 rfl) ?_
  refine lv_iconst (v := 2) hx hb dX11_nearer_3 rfl ?_
  refine lv_iadd hx hb dX11_nearer_4 ?_
  refine zz_i (v := nI (q + 2)) (nI_add q 2) ?_
  have b9_1 : q + 2 < 8 := by omega
  refine z_iald hx hb hK hP 1 0 rfl rfl (e := q + 2) rfl b9_1 (Nat.le_of_ble_eq_true rfl) dX11_nearer_5 ?_
  refine lv_aload_n hx hb dX11_nearer_6 rfl (lv_at hl 1 rfl) ?_
  refine lv_iload hx hb dX11_nearer_7 (lv_at hl 4 rfl) ?_
  have b9_2 : q < 8 := by omega
  refine z_iald hx hb hK hP 1 0 rfl rfl (e := q) rfl b9_2 (Nat.le_of_ble_eq_true rfl) dX11_nearer_9 ?_
  refine lv_isub hx hb dX11_nearer_10 ?_
  refine lv_i2l (v := ((S0 (q + 2)) - (S0 q)).toInt64) hx hb dX11_nearer_11 (rfl) ?_
  refine lv_lstore (lv' := [(5, .long (((S0 (q + 2)) - (S0 q)).toInt64)), (0, .ref k0), (1, .ref (a 32)), (2, .int px), (3, .int py), (4, .int (nI q))]) hx hb dX11_nearer_12 hl (Nat.le_of_ble_eq_true rfl) rfl (fun ls hl => ?_)
  refine lv_aload_n hx hb dX11_nearer_14 rfl (lv_at hl 2 rfl) ?_
  refine lv_iload hx hb dX11_nearer_15 (lv_at hl 5 rfl) ?_
  refine lv_iconst (v := 3) hx hb dX11_nearer_17 rfl ?_
  refine lv_iadd hx hb dX11_nearer_18 ?_
  refine zz_i (v := nI (q + 3)) (nI_add q 3) ?_
  have b9_3 : q + 3 < 8 := by omega
  refine z_iald hx hb hK hP 1 0 rfl rfl (e := q + 3) rfl b9_3 (Nat.le_of_ble_eq_true rfl) dX11_nearer_19 ?_
  refine lv_aload_n hx hb dX11_nearer_20 rfl (lv_at hl 2 rfl) ?_
  refine lv_iload hx hb dX11_nearer_21 (lv_at hl 5 rfl) ?_
  refine lv_iconst (v := 1) hx hb dX11_nearer_23 rfl ?_
  refine lv_iadd hx hb dX11_nearer_24 ?_
  refine zz_i (v := nI (q + 1)) (nI_add q 1) ?_
  have b9_4 : q + 1 < 8 := by omega
  refine z_iald hx hb hK hP 1 0 rfl rfl (e := q + 1) rfl b9_4 (Nat.le_of_ble_eq_true rfl) dX11_nearer_25 ?_
  refine lv_isub hx hb dX11_nearer_26 ?_
  refine lv_i2l (v := ((S0 (q + 3)) - (S0 (q + 1))).toInt64) hx hb dX11_nearer_27 (rfl) ?_
  refine lv_lstore (lv' := [(7, .long (((S0 (q + 3)) - (S0 (q + 1))).toInt64)), (5, .long (((S0 (q + 2)) - (S0 q)).toInt64)), (0, .ref k0), (1, .ref (a 32)), (2, .int px), (3, .int py), (4, .int (nI q))]) hx hb dX11_nearer_28 hl (Nat.le_of_ble_eq_true rfl) rfl (fun ls hl => ?_)
  refine lv_iload_n hx hb dX11_nearer_30 rfl (lv_at hl 4 rfl) ?_
  refine lv_aload_n hx hb dX11_nearer_31 rfl (lv_at hl 3 rfl) ?_
  refine lv_iload hx hb dX11_nearer_32 (lv_at hl 6 rfl) ?_
  refine z_iald hx hb hK hP 1 0 rfl rfl (e := q) rfl b9_2 (Nat.le_of_ble_eq_true rfl) dX11_nearer_34 ?_
  refine lv_isub hx hb dX11_nearer_35 ?_
  refine lv_i2l (v := (px - (S0 q)).toInt64) hx hb dX11_nearer_36 (rfl) ?_
  refine lv_lstore (lv' := [(9, .long ((px - (S0 q)).toInt64)), (7, .long (((S0 (q + 3)) - (S0 (q + 1))).toInt64)), (5, .long (((S0 (q + 2)) - (S0 q)).toInt64)), (0, .ref k0), (1, .ref (a 32)), (2, .int px), (3, .int py), (4, .int (nI q))]) hx hb dX11_nearer_37 hl (Nat.le_of_ble_eq_true rfl) rfl (fun ls hl => ?_)
  refine lv_iload_n hx hb dX11_nearer_39 rfl (lv_at hl 6 rfl) ?_
  refine lv_aload_n hx hb dX11_nearer_40 rfl (lv_at hl 4 rfl) ?_
  refine lv_iload hx hb dX11_nearer_41 (lv_at hl 7 rfl) ?_
  refine lv_iconst (v := 1) hx hb dX11_nearer_43 rfl ?_
  refine lv_iadd hx hb dX11_nearer_44 ?_
  refine zz_i (v := nI (q + 1)) (nI_add q 1) ?_
  refine z_iald hx hb hK hP 1 0 rfl rfl (e := q + 1) rfl b9_4 (Nat.le_of_ble_eq_true rfl) dX11_nearer_45 ?_
  refine lv_isub hx hb dX11_nearer_46 ?_
  refine lv_i2l (v := (py - (S0 (q + 1))).toInt64) hx hb dX11_nearer_47 (rfl) ?_
  refine lv_lstore (lv' := [(11, .long ((py - (S0 (q + 1))).toInt64)), (9, .long ((px - (S0 q)).toInt64)), (7, .long (((S0 (q + 3)) - (S0 (q + 1))).toInt64)), (5, .long (((S0 (q + 2)) - (S0 q)).toInt64)), (0, .ref k0), (1, .ref (a 32)), (2, .int px), (3, .int py), (4, .int (nI q))]) hx hb dX11_nearer_48 hl (Nat.le_of_ble_eq_true rfl) rfl (fun ls hl => ?_)
  refine lv_lload hx hb dX11_nearer_50 (lv_at hl 3 rfl) ?_
  refine lv_lload hx hb dX11_nearer_52 (lv_at hl 3 rfl) ?_
  refine lv_lmul hx hb dX11_nearer_54 ?_
  refine lv_lload hx hb dX11_nearer_55 (lv_at hl 2 rfl) ?_
  refine lv_lload hx hb dX11_nearer_57 (lv_at hl 2 rfl) ?_
  refine lv_lmul hx hb dX11_nearer_59 ?_
  refine lv_ladd hx hb dX11_nearer_60 ?_
  refine zz_l (v := jI (nrL (S0 q).toInt (S0 (q + 1)).toInt (S0 (q + 2)).toInt (S0 (q + 3)).toInt)) (nr_len (hs q (by omega)) (hs (q + 1) (by omega)) (hs (q + 2) (by omega)) (hs (q + 3) (by omega))) ?_
  refine lv_lstore (lv' := [(13, .long (jI (nrL (S0 q).toInt (S0 (q + 1)).toInt (S0 (q + 2)).toInt (S0 (q + 3)).toInt))), (11, .long ((py - (S0 (q + 1))).toInt64)), (9, .long ((px - (S0 q)).toInt64)), (7, .long (((S0 (q + 3)) - (S0 (q + 1))).toInt64)), (5, .long (((S0 (q + 2)) - (S0 q)).toInt64)), (0, .ref k0), (1, .ref (a 32)), (2, .int px), (3, .int py), (4, .int (nI q))]) hx hb dX11_nearer_61 hl (Nat.le_of_ble_eq_true rfl) rfl (fun ls hl => ?_)
  refine lv_lload hx hb dX11_nearer_63 (lv_at hl 4 rfl) ?_
  refine lv_lload hx hb dX11_nearer_65 (lv_at hl 2 rfl) ?_
  refine lv_lmul hx hb dX11_nearer_67 ?_
  refine lv_lload hx hb dX11_nearer_68 (lv_at hl 3 rfl) ?_
  refine lv_lload hx hb dX11_nearer_70 (lv_at hl 1 rfl) ?_
  refine lv_lmul hx hb dX11_nearer_72 ?_
  refine lv_ladd hx hb dX11_nearer_73 ?_
  refine zz_l (v := jI (nrT (S0 q).toInt (S0 (q + 1)).toInt (S0 (q + 2)).toInt (S0 (q + 3)).toInt px.toInt py.toInt)) (nr_dot (hs q (by omega)) (hs (q + 1) (by omega)) (hs (q + 2) (by omega)) (hs (q + 3) (by omega)) hpx hpy) ?_
  refine lv_lstore (lv' := [(15, .long (jI (nrT (S0 q).toInt (S0 (q + 1)).toInt (S0 (q + 2)).toInt (S0 (q + 3)).toInt px.toInt py.toInt))), (13, .long (jI (nrL (S0 q).toInt (S0 (q + 1)).toInt (S0 (q + 2)).toInt (S0 (q + 3)).toInt))), (11, .long ((py - (S0 (q + 1))).toInt64)), (9, .long ((px - (S0 q)).toInt64)), (7, .long (((S0 (q + 3)) - (S0 (q + 1))).toInt64)), (5, .long (((S0 (q + 2)) - (S0 q)).toInt64)), (0, .ref k0), (1, .ref (a 32)), (2, .int px), (3, .int py), (4, .int (nI q))]) hx hb dX11_nearer_74 hl (Nat.le_of_ble_eq_true rfl) rfl (fun ls hl => ?_)
  refine lv_lconst (v := 1) hx hb dX11_nearer_76 rfl ?_
  refine lv_lstore (lv' := [(19, .long 1), (15, .long (jI (nrT (S0 q).toInt (S0 (q + 1)).toInt (S0 (q + 2)).toInt (S0 (q + 3)).toInt px.toInt py.toInt))), (13, .long (jI (nrL (S0 q).toInt (S0 (q + 1)).toInt (S0 (q + 2)).toInt (S0 (q + 3)).toInt))), (11, .long ((py - (S0 (q + 1))).toInt64)), (9, .long ((px - (S0 q)).toInt64)), (7, .long (((S0 (q + 3)) - (S0 (q + 1))).toInt64)), (5, .long (((S0 (q + 2)) - (S0 q)).toInt64)), (0, .ref k0), (1, .ref (a 32)), (2, .int px), (3, .int py), (4, .int (nI q))]) hx hb dX11_nearer_77 hl (Nat.le_of_ble_eq_true rfl) rfl (fun ls hl => ?_)
  refine lv_lload hx hb dX11_nearer_79 (lv_at hl 2 rfl) ?_
  refine lv_lconst (v := 0) hx hb dX11_nearer_81 rfl ?_
  refine W.lcmp hx hb dX11_nearer_82 ?_
  refine lv_if_eq (tgt := 93) hx hb dX11_nearer_83 rfl (fun c_5 => ?_) (fun c_5 => ?_)
  · have c_5 : (nrL (S0 q).toInt (S0 (q + 1)).toInt (S0 (q + 2)).toInt (S0 (q + 3)).toInt) = 0 := zl_eq (jI_toInt (by omega)) rfl c_5
    have hT0 : nrT (S0 q).toInt (S0 (q + 1)).toInt (S0 (q + 2)).toInt (S0 (q + 3)).toInt px.toInt py.toInt ≤ 0 := (by first | omega | (have h9 := nrT_0 (x := px.toInt) (y := py.toInt) (show nrL (S0 q).toInt (S0 (q + 1)).toInt (S0 (q + 2)).toInt (S0 (q + 3)).toInt = 0 by assumption); omega))
    refine lv_lload hx hb dX11_nearer_93 (lv_at hl 4 rfl) ?_
    refine lv_lload hx hb dX11_nearer_95 (lv_at hl 4 rfl) ?_
    refine lv_lmul hx hb dX11_nearer_97 ?_
    refine lv_lload hx hb dX11_nearer_98 (lv_at hl 3 rfl) ?_
    refine lv_lload hx hb dX11_nearer_100 (lv_at hl 3 rfl) ?_
    refine lv_lmul hx hb dX11_nearer_102 ?_
    refine lv_ladd hx hb dX11_nearer_103 ?_
    refine zz_l (v := jI (nrU (S0 q).toInt (S0 (q + 1)).toInt (S0 (q + 2)).toInt (S0 (q + 3)).toInt px.toInt py.toInt)) (nr_u0 (hs q (by omega)) (hs (q + 1) (by omega)) hpx hpy hT0) ?_
    refine lv_lstore (lv' := [(17, .long (jI (nrU (S0 q).toInt (S0 (q + 1)).toInt (S0 (q + 2)).toInt (S0 (q + 3)).toInt px.toInt py.toInt))), (19, .long 1), (15, .long (jI (nrT (S0 q).toInt (S0 (q + 1)).toInt (S0 (q + 2)).toInt (S0 (q + 3)).toInt px.toInt py.toInt))), (13, .long (jI (nrL (S0 q).toInt (S0 (q + 1)).toInt (S0 (q + 2)).toInt (S0 (q + 3)).toInt))), (11, .long ((py - (S0 (q + 1))).toInt64)), (9, .long ((px - (S0 q)).toInt64)), (7, .long (((S0 (q + 3)) - (S0 (q + 1))).toInt64)), (5, .long (((S0 (q + 2)) - (S0 q)).toInt64)), (0, .ref k0), (1, .ref (a 32)), (2, .int px), (3, .int py), (4, .int (nI q))]) hx hb dX11_nearer_104 hl (Nat.le_of_ble_eq_true rfl) rfl (fun ls hl => ?_)
    refine lv_goto (tgt := 169) hx hb dX11_nearer_106 rfl ?_
    refine lv_aload_n hx hb dX11_nearer_169 rfl (lv_at hl 8 rfl) ?_
    refine va_get (D := (dC, dI)) (ci := 9) (v := .long (jI d)) (C := RX11) (T := TX11) (N := 55) hx hb hts inX11 hown hK hP 0 rfl rfl 49 (Nat.le_of_ble_eq_true rfl) (hts _ mw_1208) (fun _ h9 => h9) rfl dX11_nearer_170 ?_
    refine lv_lconst (v := 0) hx hb dX11_nearer_173 rfl ?_
    refine W.lcmp hx hb dX11_nearer_174 ?_
    refine lv_if_eq (tgt := 197) hx hb dX11_nearer_175 rfl (fun c_6 => ?_) (fun c_6 => ?_)
    · have c_6 : d = 0 := zl_eq (jI_toInt (by omega)) rfl c_6
      refine lv_aload_n hx hb dX11_nearer_197 rfl (lv_at hl 8 rfl) ?_
      refine lv_lload hx hb dX11_nearer_198 (lv_at hl 0 rfl) ?_
      refine va_put (D := (dC, dI)) (ci := 9) (v := .long (jI (nrU (S0 q).toInt (S0 (q + 1)).toInt (S0 (q + 2)).toInt (S0 (q + 3)).toInt px.toInt py.toInt))) (ty := .long) (C := RX11) (T := TX11) (N := 55) hx hb hts inX11 tyX11 tyX11_ok nmX11 hown hK hP hD hS 0 rfl rfl 48 (by decide) (hts _ mw_1207) (fun _ h9 => h9) rfl (by decide +kernel) rfl rfl (Nat.le_of_ble_eq_true rfl) dX11_nearer_200 (fun H locs hP hD hS => ?_)
      obtain ⟨hP, hD⟩ := zre (W2 := [(om k0 a I0 (vp_updL (vp_updL J0 48 (jI (nrU (S0 q).toInt (S0 (q + 1)).toInt (S0 (q + 2)).toInt (S0 (q + 3)).toInt px.toInt py.toInt))) 49 (jI d))), _]) hP hD rfl
      refine lv_aload_n hx hb dX11_nearer_203 rfl (lv_at hl 8 rfl) ?_
      refine lv_lload hx hb dX11_nearer_204 (lv_at hl 1 rfl) ?_
      refine zz_l (v := jI (nrD (S0 q).toInt (S0 (q + 1)).toInt (S0 (q + 2)).toInt (S0 (q + 3)).toInt px.toInt py.toInt)) (by first | (rw [nrD_0 hT0]; exact jI_1) | (rw [nrD_1 (by omega) (by omega)]; exact jI_1) | (rw [nrD_2 (by omega) (by omega)])) ?_
      refine va_put (D := (dC, dI)) (ci := 9) (v := .long (jI (nrD (S0 q).toInt (S0 (q + 1)).toInt (S0 (q + 2)).toInt (S0 (q + 3)).toInt px.toInt py.toInt))) (ty := .long) (C := RX11) (T := TX11) (N := 55) hx hb hts inX11 tyX11 tyX11_ok nmX11 hown hK hP hD hS 0 rfl rfl 49 (by decide) (hts _ mw_1208) (fun _ h9 => h9) rfl (by decide +kernel) rfl rfl (Nat.le_of_ble_eq_true rfl) dX11_nearer_206 (fun H locs hP hD hS => ?_)
      obtain ⟨hP, hD⟩ := zre (W2 := [(om k0 a I0 (vp_updL (vp_updL J0 48 (jI (nrU (S0 q).toInt (S0 (q + 1)).toInt (S0 (q + 2)).toInt (S0 (q + 3)).toInt px.toInt py.toInt))) 49 (jI (nrD (S0 q).toInt (S0 (q + 1)).toInt (S0 (q + 2)).toInt (S0 (q + 3)).toInt px.toInt py.toInt)))), _]) hP hD rfl
      obtain ⟨hP9, hD9⟩ := zu_sub (wc := [_, _]) hP hD [true, true] rfl rfl
      rw [hQ9]
      exact W.vret hx hb hr (fun t ht hW => ⟨⟨rfl, (nrU (S0 q).toInt (S0 (q + 1)).toInt (S0 (q + 2)).toInt (S0 (q + 3)).toInt px.toInt py.toInt), (nrD (S0 q).toInt (S0 (q + 1)).toInt (S0 (q + 2)).toInt (S0 (q + 3)).toInt px.toInt py.toInt), (by unfold ndP; first | exact Or.inl ⟨Or.inl (by omega), rfl, rfl⟩ | exact Or.inl ⟨Or.inr (by first | with_reducible assumption | assumption), rfl, rfl⟩ | exact Or.inr ⟨fun h => h.elim (by omega) (by first | with_reducible assumption | assumption), rfl, rfl⟩), by rw [ht]; exact hP9, hD9⟩, hS.F ht⟩) hS.2.2 dX11_nearer_209
    · have c_6 : ¬ d = 0 := zl_ne (jI_toInt (by omega)) rfl c_6
      refine lv_aload_n hx hb dX11_nearer_178 rfl (lv_at hl 8 rfl) ?_
      refine lv_lload hx hb dX11_nearer_179 (lv_at hl 0 rfl) ?_
      refine lv_lload hx hb dX11_nearer_181 (lv_at hl 1 rfl) ?_
      refine zz_l (v := jI (nrD (S0 q).toInt (S0 (q + 1)).toInt (S0 (q + 2)).toInt (S0 (q + 3)).toInt px.toInt py.toInt)) (by first | (rw [nrD_0 hT0]; exact jI_1) | (rw [nrD_1 (by omega) (by omega)]; exact jI_1) | (rw [nrD_2 (by omega) (by omega)])) ?_
      refine lv_aload_n hx hb dX11_nearer_183 rfl (lv_at hl 8 rfl) ?_
      refine va_get (D := (dC, dI)) (ci := 9) (v := .long (jI u)) (C := RX11) (T := TX11) (N := 55) hx hb hts inX11 hown hK hP 0 rfl rfl 48 (Nat.le_of_ble_eq_true rfl) (hts _ mw_1207) (fun _ h9 => h9) rfl dX11_nearer_184 ?_
      refine lv_aload_n hx hb dX11_nearer_187 rfl (lv_at hl 8 rfl) ?_
      refine va_get (D := (dC, dI)) (ci := 9) (v := .long (jI d)) (C := RX11) (T := TX11) (N := 55) hx hb hts inX11 hown hK hP 0 rfl rfl 49 (Nat.le_of_ble_eq_true rfl) (hts _ mw_1208) (fun _ h9 => h9) rfl dX11_nearer_188 ?_
      obtain ⟨hPc, hDc, hFc, hI1⟩ := zi_sub (wc := [_]) hP hD hS hA [0] rfl rfl
      refine zcall (st1 := [.int (pI ((nrU (S0 q).toInt (S0 (q + 1)).toInt (S0 (q + 2)).toInt (S0 (q + 3)).toInt px.toInt py.toInt) * d < u * (nrD (S0 q).toInt (S0 (q + 1)).toInt (S0 (q + 2)).toInt (S0 (q + 3)).toInt px.toInt py.toInt)))]) (va_runV (As := [.long (jI (nrU (S0 q).toInt (S0 (q + 1)).toInt (S0 (q + 2)).toInt (S0 (q + 3)).toInt px.toInt py.toInt)), .long (jI (nrD (S0 q).toInt (S0 (q + 1)).toInt (S0 (q + 2)).toInt (S0 (q + 3)).toInt px.toInt py.toInt)), .long (jI u), .long (jI d)]) (rest := []) ⟨hx, hb, hml, hown, hts⟩ (k_M_isLess l dC dI cI cZ cF s.heap.size k0 a I0 (vp_updL (vp_updL J0 48 (jI u)) 49 (jI d)) (nrU (S0 q).toInt (S0 (q + 1)).toInt (S0 (q + 2)).toInt (S0 (q + 3)).toInt px.toInt py.toInt) (nrD (S0 q).toInt (S0 (q + 1)).toInt (S0 (q + 2)).toInt (S0 (q + 3)).toInt px.toInt py.toInt) u d (prN hUb.1 hd9) (prN hu9 ⟨by omega, hUb.2.2⟩) (by first | with_reducible assumption | omega) (by first | with_reducible assumption | omega) (by first | with_reducible assumption | omega) (by first | with_reducible assumption | omega)) (csV_217 hts rfl rfl ⟨Nat.le_of_ble_eq_true rfl, Nat.le_of_ble_eq_true rfl⟩) (zPV2 (q0 := 0) (ci := 9) hPc hDc hK hXN rfl rfl) rfl rfl hl.1 rfl (lv_room (Nat.le_of_ble_eq_true rfl)) dX11_nearer_191 ⟨Nat.le_of_ble_eq_true rfl, Nat.le_of_ble_eq_true rfl⟩) hS hFc hFc rfl (fun t H locs ht hB hk1 hS => ?_)
      obtain ⟨hP1, hD1⟩ := hB
      rw [ht] at hP1
      replace hP := z0 hP hD hk1 hP1 hI1
      clear hk1 hPc hDc hFc hP1 hD1 ht hI1
      refine lv_if_eq (tgt := 209) hx hb dX11_nearer_194 rfl (fun c_7 => ?_) (fun c_7 => ?_)
      · have c_7 : ¬ ((nrU (S0 q).toInt (S0 (q + 1)).toInt (S0 (q + 2)).toInt (S0 (q + 3)).toInt px.toInt py.toInt) * d < u * (nrD (S0 q).toInt (S0 (q + 1)).toInt (S0 (q + 2)).toInt (S0 (q + 3)).toInt px.toInt py.toInt)) := zp_0 c_7
        obtain ⟨hP9, hD9⟩ := zu_sub (wc := [_, _]) hP hD [true, true] rfl rfl
        rw [hQ9]
        exact W.vret hx hb hr (fun t ht hW => ⟨⟨rfl, u, d, (by unfold ndP; first | exact Or.inl ⟨Or.inl (by omega), rfl, rfl⟩ | exact Or.inl ⟨Or.inr (by first | with_reducible assumption | assumption), rfl, rfl⟩ | exact Or.inr ⟨fun h => h.elim (by omega) (by first | with_reducible assumption | assumption), rfl, rfl⟩), by rw [ht]; exact hP9, hD9⟩, hS.F ht⟩) hS.2.2 dX11_nearer_209
      · have c_7 : (nrU (S0 q).toInt (S0 (q + 1)).toInt (S0 (q + 2)).toInt (S0 (q + 3)).toInt px.toInt py.toInt) * d < u * (nrD (S0 q).toInt (S0 (q + 1)).toInt (S0 (q + 2)).toInt (S0 (q + 3)).toInt px.toInt py.toInt) := zp_1 c_7
        refine lv_aload_n hx hb dX11_nearer_197 rfl (lv_at hl 8 rfl) ?_
        refine lv_lload hx hb dX11_nearer_198 (lv_at hl 0 rfl) ?_
        refine va_put (D := (dC, dI)) (ci := 9) (v := .long (jI (nrU (S0 q).toInt (S0 (q + 1)).toInt (S0 (q + 2)).toInt (S0 (q + 3)).toInt px.toInt py.toInt))) (ty := .long) (C := RX11) (T := TX11) (N := 55) hx hb hts inX11 tyX11 tyX11_ok nmX11 hown hK hP hD hS 0 rfl rfl 48 (by decide) (hts _ mw_1207) (fun _ h9 => h9) rfl (by decide +kernel) rfl rfl (Nat.le_of_ble_eq_true rfl) dX11_nearer_200 (fun H locs hP hD hS => ?_)
        obtain ⟨hP, hD⟩ := zre (W2 := [(om k0 a I0 (vp_updL (vp_updL J0 48 (jI (nrU (S0 q).toInt (S0 (q + 1)).toInt (S0 (q + 2)).toInt (S0 (q + 3)).toInt px.toInt py.toInt))) 49 (jI d))), _]) hP hD rfl
        refine lv_aload_n hx hb dX11_nearer_203 rfl (lv_at hl 8 rfl) ?_
        refine lv_lload hx hb dX11_nearer_204 (lv_at hl 1 rfl) ?_
        refine zz_l (v := jI (nrD (S0 q).toInt (S0 (q + 1)).toInt (S0 (q + 2)).toInt (S0 (q + 3)).toInt px.toInt py.toInt)) (by first | (rw [nrD_0 hT0]; exact jI_1) | (rw [nrD_1 (by omega) (by omega)]; exact jI_1) | (rw [nrD_2 (by omega) (by omega)])) ?_
        refine va_put (D := (dC, dI)) (ci := 9) (v := .long (jI (nrD (S0 q).toInt (S0 (q + 1)).toInt (S0 (q + 2)).toInt (S0 (q + 3)).toInt px.toInt py.toInt))) (ty := .long) (C := RX11) (T := TX11) (N := 55) hx hb hts inX11 tyX11 tyX11_ok nmX11 hown hK hP hD hS 0 rfl rfl 49 (by decide) (hts _ mw_1208) (fun _ h9 => h9) rfl (by decide +kernel) rfl rfl (Nat.le_of_ble_eq_true rfl) dX11_nearer_206 (fun H locs hP hD hS => ?_)
        obtain ⟨hP, hD⟩ := zre (W2 := [(om k0 a I0 (vp_updL (vp_updL J0 48 (jI (nrU (S0 q).toInt (S0 (q + 1)).toInt (S0 (q + 2)).toInt (S0 (q + 3)).toInt px.toInt py.toInt))) 49 (jI (nrD (S0 q).toInt (S0 (q + 1)).toInt (S0 (q + 2)).toInt (S0 (q + 3)).toInt px.toInt py.toInt)))), _]) hP hD rfl
        obtain ⟨hP9, hD9⟩ := zu_sub (wc := [_, _]) hP hD [true, true] rfl rfl
        rw [hQ9]
        exact W.vret hx hb hr (fun t ht hW => ⟨⟨rfl, (nrU (S0 q).toInt (S0 (q + 1)).toInt (S0 (q + 2)).toInt (S0 (q + 3)).toInt px.toInt py.toInt), (nrD (S0 q).toInt (S0 (q + 1)).toInt (S0 (q + 2)).toInt (S0 (q + 3)).toInt px.toInt py.toInt), (by unfold ndP; first | exact Or.inl ⟨Or.inl (by omega), rfl, rfl⟩ | exact Or.inl ⟨Or.inr (by first | with_reducible assumption | assumption), rfl, rfl⟩ | exact Or.inr ⟨fun h => h.elim (by omega) (by first | with_reducible assumption | assumption), rfl, rfl⟩), by rw [ht]; exact hP9, hD9⟩, hS.F ht⟩) hS.2.2 dX11_nearer_209
  · have c_5 : ¬ (nrL (S0 q).toInt (S0 (q + 1)).toInt (S0 (q + 2)).toInt (S0 (q + 3)).toInt) = 0 := zl_ne (jI_toInt (by omega)) rfl c_5
    refine lv_lload hx hb dX11_nearer_86 (lv_at hl 1 rfl) ?_
    refine lv_lconst (v := 0) hx hb dX11_nearer_88 rfl ?_
    refine W.lcmp hx hb dX11_nearer_89 ?_
    refine lv_if_gt (tgt := 109) hx hb dX11_nearer_90 rfl (fun c_8 => ?_) (fun c_8 => ?_)
    · have c_8 : 0 < (nrT (S0 q).toInt (S0 (q + 1)).toInt (S0 (q + 2)).toInt (S0 (q + 3)).toInt px.toInt py.toInt) := zl_gt (jI_toInt (by omega)) rfl c_8
      refine lv_lload hx hb dX11_nearer_109 (lv_at hl 1 rfl) ?_
      refine lv_lload hx hb dX11_nearer_111 (lv_at hl 2 rfl) ?_
      refine W.lcmp hx hb dX11_nearer_113 ?_
      refine lv_if_lt (tgt := 145) hx hb dX11_nearer_114 rfl (fun c_9 => ?_) (fun c_9 => ?_)
      · have c_9 : (nrT (S0 q).toInt (S0 (q + 1)).toInt (S0 (q + 2)).toInt (S0 (q + 3)).toInt px.toInt py.toInt) < (nrL (S0 q).toInt (S0 (q + 1)).toInt (S0 (q + 2)).toInt (S0 (q + 3)).toInt) := zl_lt (jI_toInt (by omega)) (jI_toInt (by omega)) c_9
        refine lv_lload hx hb dX11_nearer_145 (lv_at hl 6 rfl) ?_
        refine lv_lload hx hb dX11_nearer_147 (lv_at hl 3 rfl) ?_
        refine lv_lmul hx hb dX11_nearer_149 ?_
        refine lv_lload hx hb dX11_nearer_150 (lv_at hl 5 rfl) ?_
        refine lv_lload hx hb dX11_nearer_152 (lv_at hl 4 rfl) ?_
        refine lv_lmul hx hb dX11_nearer_154 ?_
        refine lv_lsub hx hb dX11_nearer_155 ?_
        refine lv_lstore (lv' := [(21, .long (((((S0 (q + 2)) - (S0 q)).toInt64) * ((py - (S0 (q + 1))).toInt64)) - ((((S0 (q + 3)) - (S0 (q + 1))).toInt64) * ((px - (S0 q)).toInt64)))), (19, .long 1), (15, .long (jI (nrT (S0 q).toInt (S0 (q + 1)).toInt (S0 (q + 2)).toInt (S0 (q + 3)).toInt px.toInt py.toInt))), (13, .long (jI (nrL (S0 q).toInt (S0 (q + 1)).toInt (S0 (q + 2)).toInt (S0 (q + 3)).toInt))), (11, .long ((py - (S0 (q + 1))).toInt64)), (9, .long ((px - (S0 q)).toInt64)), (7, .long (((S0 (q + 3)) - (S0 (q + 1))).toInt64)), (5, .long (((S0 (q + 2)) - (S0 q)).toInt64)), (0, .ref k0), (1, .ref (a 32)), (2, .int px), (3, .int py), (4, .int (nI q))]) hx hb dX11_nearer_156 hl (Nat.le_of_ble_eq_true rfl) rfl (fun ls hl => ?_)
        refine lv_lload hx hb dX11_nearer_158 (lv_at hl 0 rfl) ?_
        refine lv_lload hx hb dX11_nearer_160 (lv_at hl 0 rfl) ?_
        refine lv_lmul hx hb dX11_nearer_162 ?_
        refine zz_l (v := jI (nrU (S0 q).toInt (S0 (q + 1)).toInt (S0 (q + 2)).toInt (S0 (q + 3)).toInt px.toInt py.toInt)) (nr_u2 (hs q (by omega)) (hs (q + 1) (by omega)) (hs (q + 2) (by omega)) (hs (q + 3) (by omega)) hpx hpy (by omega) (by omega)) ?_
        refine lv_lstore (lv' := [(17, .long (jI (nrU (S0 q).toInt (S0 (q + 1)).toInt (S0 (q + 2)).toInt (S0 (q + 3)).toInt px.toInt py.toInt))), (21, .long (((((S0 (q + 2)) - (S0 q)).toInt64) * ((py - (S0 (q + 1))).toInt64)) - ((((S0 (q + 3)) - (S0 (q + 1))).toInt64) * ((px - (S0 q)).toInt64)))), (19, .long 1), (15, .long (jI (nrT (S0 q).toInt (S0 (q + 1)).toInt (S0 (q + 2)).toInt (S0 (q + 3)).toInt px.toInt py.toInt))), (13, .long (jI (nrL (S0 q).toInt (S0 (q + 1)).toInt (S0 (q + 2)).toInt (S0 (q + 3)).toInt))), (11, .long ((py - (S0 (q + 1))).toInt64)), (9, .long ((px - (S0 q)).toInt64)), (7, .long (((S0 (q + 3)) - (S0 (q + 1))).toInt64)), (5, .long (((S0 (q + 2)) - (S0 q)).toInt64)), (0, .ref k0), (1, .ref (a 32)), (2, .int px), (3, .int py), (4, .int (nI q))]) hx hb dX11_nearer_163 hl (Nat.le_of_ble_eq_true rfl) rfl (fun ls hl => ?_)
        refine lv_lload hx hb dX11_nearer_165 (lv_at hl 4 rfl) ?_
        refine lv_lstore (lv' := [(19, .long (jI (nrL (S0 q).toInt (S0 (q + 1)).toInt (S0 (q + 2)).toInt (S0 (q + 3)).toInt))), (17, .long (jI (nrU (S0 q).toInt (S0 (q + 1)).toInt (S0 (q + 2)).toInt (S0 (q + 3)).toInt px.toInt py.toInt))), (21, .long (((((S0 (q + 2)) - (S0 q)).toInt64) * ((py - (S0 (q + 1))).toInt64)) - ((((S0 (q + 3)) - (S0 (q + 1))).toInt64) * ((px - (S0 q)).toInt64)))), (15, .long (jI (nrT (S0 q).toInt (S0 (q + 1)).toInt (S0 (q + 2)).toInt (S0 (q + 3)).toInt px.toInt py.toInt))), (13, .long (jI (nrL (S0 q).toInt (S0 (q + 1)).toInt (S0 (q + 2)).toInt (S0 (q + 3)).toInt))), (11, .long ((py - (S0 (q + 1))).toInt64)), (9, .long ((px - (S0 q)).toInt64)), (7, .long (((S0 (q + 3)) - (S0 (q + 1))).toInt64)), (5, .long (((S0 (q + 2)) - (S0 q)).toInt64)), (0, .ref k0), (1, .ref (a 32)), (2, .int px), (3, .int py), (4, .int (nI q))]) hx hb dX11_nearer_167 hl (Nat.le_of_ble_eq_true rfl) rfl (fun ls hl => ?_)
        refine lv_aload_n hx hb dX11_nearer_169 rfl (lv_at hl 9 rfl) ?_
        refine va_get (D := (dC, dI)) (ci := 9) (v := .long (jI d)) (C := RX11) (T := TX11) (N := 55) hx hb hts inX11 hown hK hP 0 rfl rfl 49 (Nat.le_of_ble_eq_true rfl) (hts _ mw_1208) (fun _ h9 => h9) rfl dX11_nearer_170 ?_
        refine lv_lconst (v := 0) hx hb dX11_nearer_173 rfl ?_
        refine W.lcmp hx hb dX11_nearer_174 ?_
        refine lv_if_eq (tgt := 197) hx hb dX11_nearer_175 rfl (fun c_10 => ?_) (fun c_10 => ?_)
        · have c_10 : d = 0 := zl_eq (jI_toInt (by omega)) rfl c_10
          refine lv_aload_n hx hb dX11_nearer_197 rfl (lv_at hl 9 rfl) ?_
          refine lv_lload hx hb dX11_nearer_198 (lv_at hl 1 rfl) ?_
          refine va_put (D := (dC, dI)) (ci := 9) (v := .long (jI (nrU (S0 q).toInt (S0 (q + 1)).toInt (S0 (q + 2)).toInt (S0 (q + 3)).toInt px.toInt py.toInt))) (ty := .long) (C := RX11) (T := TX11) (N := 55) hx hb hts inX11 tyX11 tyX11_ok nmX11 hown hK hP hD hS 0 rfl rfl 48 (by decide) (hts _ mw_1207) (fun _ h9 => h9) rfl (by decide +kernel) rfl rfl (Nat.le_of_ble_eq_true rfl) dX11_nearer_200 (fun H locs hP hD hS => ?_)
          obtain ⟨hP, hD⟩ := zre (W2 := [(om k0 a I0 (vp_updL (vp_updL J0 48 (jI (nrU (S0 q).toInt (S0 (q + 1)).toInt (S0 (q + 2)).toInt (S0 (q + 3)).toInt px.toInt py.toInt))) 49 (jI d))), _]) hP hD rfl
          refine lv_aload_n hx hb dX11_nearer_203 rfl (lv_at hl 9 rfl) ?_
          refine lv_lload hx hb dX11_nearer_204 (lv_at hl 0 rfl) ?_
          refine zz_l (v := jI (nrD (S0 q).toInt (S0 (q + 1)).toInt (S0 (q + 2)).toInt (S0 (q + 3)).toInt px.toInt py.toInt)) (by first | (rw [nrD_0 hT0]; exact jI_1) | (rw [nrD_1 (by omega) (by omega)]; exact jI_1) | (rw [nrD_2 (by omega) (by omega)])) ?_
          refine va_put (D := (dC, dI)) (ci := 9) (v := .long (jI (nrD (S0 q).toInt (S0 (q + 1)).toInt (S0 (q + 2)).toInt (S0 (q + 3)).toInt px.toInt py.toInt))) (ty := .long) (C := RX11) (T := TX11) (N := 55) hx hb hts inX11 tyX11 tyX11_ok nmX11 hown hK hP hD hS 0 rfl rfl 49 (by decide) (hts _ mw_1208) (fun _ h9 => h9) rfl (by decide +kernel) rfl rfl (Nat.le_of_ble_eq_true rfl) dX11_nearer_206 (fun H locs hP hD hS => ?_)
          obtain ⟨hP, hD⟩ := zre (W2 := [(om k0 a I0 (vp_updL (vp_updL J0 48 (jI (nrU (S0 q).toInt (S0 (q + 1)).toInt (S0 (q + 2)).toInt (S0 (q + 3)).toInt px.toInt py.toInt))) 49 (jI (nrD (S0 q).toInt (S0 (q + 1)).toInt (S0 (q + 2)).toInt (S0 (q + 3)).toInt px.toInt py.toInt)))), _]) hP hD rfl
          obtain ⟨hP9, hD9⟩ := zu_sub (wc := [_, _]) hP hD [true, true] rfl rfl
          rw [hQ9]
          exact W.vret hx hb hr (fun t ht hW => ⟨⟨rfl, (nrU (S0 q).toInt (S0 (q + 1)).toInt (S0 (q + 2)).toInt (S0 (q + 3)).toInt px.toInt py.toInt), (nrD (S0 q).toInt (S0 (q + 1)).toInt (S0 (q + 2)).toInt (S0 (q + 3)).toInt px.toInt py.toInt), (by unfold ndP; first | exact Or.inl ⟨Or.inl (by omega), rfl, rfl⟩ | exact Or.inl ⟨Or.inr (by first | with_reducible assumption | assumption), rfl, rfl⟩ | exact Or.inr ⟨fun h => h.elim (by omega) (by first | with_reducible assumption | assumption), rfl, rfl⟩), by rw [ht]; exact hP9, hD9⟩, hS.F ht⟩) hS.2.2 dX11_nearer_209
        · have c_10 : ¬ d = 0 := zl_ne (jI_toInt (by omega)) rfl c_10
          refine lv_aload_n hx hb dX11_nearer_178 rfl (lv_at hl 9 rfl) ?_
          refine lv_lload hx hb dX11_nearer_179 (lv_at hl 1 rfl) ?_
          refine lv_lload hx hb dX11_nearer_181 (lv_at hl 0 rfl) ?_
          refine zz_l (v := jI (nrD (S0 q).toInt (S0 (q + 1)).toInt (S0 (q + 2)).toInt (S0 (q + 3)).toInt px.toInt py.toInt)) (by first | (rw [nrD_0 hT0]; exact jI_1) | (rw [nrD_1 (by omega) (by omega)]; exact jI_1) | (rw [nrD_2 (by omega) (by omega)])) ?_
          refine lv_aload_n hx hb dX11_nearer_183 rfl (lv_at hl 9 rfl) ?_
          refine va_get (D := (dC, dI)) (ci := 9) (v := .long (jI u)) (C := RX11) (T := TX11) (N := 55) hx hb hts inX11 hown hK hP 0 rfl rfl 48 (Nat.le_of_ble_eq_true rfl) (hts _ mw_1207) (fun _ h9 => h9) rfl dX11_nearer_184 ?_
          refine lv_aload_n hx hb dX11_nearer_187 rfl (lv_at hl 9 rfl) ?_
          refine va_get (D := (dC, dI)) (ci := 9) (v := .long (jI d)) (C := RX11) (T := TX11) (N := 55) hx hb hts inX11 hown hK hP 0 rfl rfl 49 (Nat.le_of_ble_eq_true rfl) (hts _ mw_1208) (fun _ h9 => h9) rfl dX11_nearer_188 ?_
          obtain ⟨hPc, hDc, hFc, hI1⟩ := zi_sub (wc := [_]) hP hD hS hA [0] rfl rfl
          refine zcall (st1 := [.int (pI ((nrU (S0 q).toInt (S0 (q + 1)).toInt (S0 (q + 2)).toInt (S0 (q + 3)).toInt px.toInt py.toInt) * d < u * (nrD (S0 q).toInt (S0 (q + 1)).toInt (S0 (q + 2)).toInt (S0 (q + 3)).toInt px.toInt py.toInt)))]) (va_runV (As := [.long (jI (nrU (S0 q).toInt (S0 (q + 1)).toInt (S0 (q + 2)).toInt (S0 (q + 3)).toInt px.toInt py.toInt)), .long (jI (nrD (S0 q).toInt (S0 (q + 1)).toInt (S0 (q + 2)).toInt (S0 (q + 3)).toInt px.toInt py.toInt)), .long (jI u), .long (jI d)]) (rest := []) ⟨hx, hb, hml, hown, hts⟩ (k_M_isLess l dC dI cI cZ cF s.heap.size k0 a I0 (vp_updL (vp_updL J0 48 (jI u)) 49 (jI d)) (nrU (S0 q).toInt (S0 (q + 1)).toInt (S0 (q + 2)).toInt (S0 (q + 3)).toInt px.toInt py.toInt) (nrD (S0 q).toInt (S0 (q + 1)).toInt (S0 (q + 2)).toInt (S0 (q + 3)).toInt px.toInt py.toInt) u d (prN hUb.1 hd9) (prN hu9 ⟨by omega, hUb.2.2⟩) (by first | with_reducible assumption | omega) (by first | with_reducible assumption | omega) (by first | with_reducible assumption | omega) (by first | with_reducible assumption | omega)) (csV_217 hts rfl rfl ⟨Nat.le_of_ble_eq_true rfl, Nat.le_of_ble_eq_true rfl⟩) (zPV2 (q0 := 0) (ci := 9) hPc hDc hK hXN rfl rfl) rfl rfl hl.1 rfl (lv_room (Nat.le_of_ble_eq_true rfl)) dX11_nearer_191 ⟨Nat.le_of_ble_eq_true rfl, Nat.le_of_ble_eq_true rfl⟩) hS hFc hFc rfl (fun t H locs ht hB hk1 hS => ?_)
          obtain ⟨hP1, hD1⟩ := hB
          rw [ht] at hP1
          replace hP := z0 hP hD hk1 hP1 hI1
          clear hk1 hPc hDc hFc hP1 hD1 ht hI1
          refine lv_if_eq (tgt := 209) hx hb dX11_nearer_194 rfl (fun c_11 => ?_) (fun c_11 => ?_)
          · have c_11 : ¬ ((nrU (S0 q).toInt (S0 (q + 1)).toInt (S0 (q + 2)).toInt (S0 (q + 3)).toInt px.toInt py.toInt) * d < u * (nrD (S0 q).toInt (S0 (q + 1)).toInt (S0 (q + 2)).toInt (S0 (q + 3)).toInt px.toInt py.toInt)) := zp_0 c_11
            obtain ⟨hP9, hD9⟩ := zu_sub (wc := [_, _]) hP hD [true, true] rfl rfl
            rw [hQ9]
            exact W.vret hx hb hr (fun t ht hW => ⟨⟨rfl, u, d, (by unfold ndP; first | exact Or.inl ⟨Or.inl (by omega), rfl, rfl⟩ | exact Or.inl ⟨Or.inr (by first | with_reducible assumption | assumption), rfl, rfl⟩ | exact Or.inr ⟨fun h => h.elim (by omega) (by first | with_reducible assumption | assumption), rfl, rfl⟩), by rw [ht]; exact hP9, hD9⟩, hS.F ht⟩) hS.2.2 dX11_nearer_209
          · have c_11 : (nrU (S0 q).toInt (S0 (q + 1)).toInt (S0 (q + 2)).toInt (S0 (q + 3)).toInt px.toInt py.toInt) * d < u * (nrD (S0 q).toInt (S0 (q + 1)).toInt (S0 (q + 2)).toInt (S0 (q + 3)).toInt px.toInt py.toInt) := zp_1 c_11
            refine lv_aload_n hx hb dX11_nearer_197 rfl (lv_at hl 9 rfl) ?_
            refine lv_lload hx hb dX11_nearer_198 (lv_at hl 1 rfl) ?_
            refine va_put (D := (dC, dI)) (ci := 9) (v := .long (jI (nrU (S0 q).toInt (S0 (q + 1)).toInt (S0 (q + 2)).toInt (S0 (q + 3)).toInt px.toInt py.toInt))) (ty := .long) (C := RX11) (T := TX11) (N := 55) hx hb hts inX11 tyX11 tyX11_ok nmX11 hown hK hP hD hS 0 rfl rfl 48 (by decide) (hts _ mw_1207) (fun _ h9 => h9) rfl (by decide +kernel) rfl rfl (Nat.le_of_ble_eq_true rfl) dX11_nearer_200 (fun H locs hP hD hS => ?_)
            obtain ⟨hP, hD⟩ := zre (W2 := [(om k0 a I0 (vp_updL (vp_updL J0 48 (jI (nrU (S0 q).toInt (S0 (q + 1)).toInt (S0 (q + 2)).toInt (S0 (q + 3)).toInt px.toInt py.toInt))) 49 (jI d))), _]) hP hD rfl
            refine lv_aload_n hx hb dX11_nearer_203 rfl (lv_at hl 9 rfl) ?_
            refine lv_lload hx hb dX11_nearer_204 (lv_at hl 0 rfl) ?_
            refine zz_l (v := jI (nrD (S0 q).toInt (S0 (q + 1)).toInt (S0 (q + 2)).toInt (S0 (q + 3)).toInt px.toInt py.toInt)) (by first | (rw [nrD_0 hT0]; exact jI_1) | (rw [nrD_1 (by omega) (by omega)]; exact jI_1) | (rw [nrD_2 (by omega) (by omega)])) ?_
            refine va_put (D := (dC, dI)) (ci := 9) (v := .long (jI (nrD (S0 q).toInt (S0 (q + 1)).toInt (S0 (q + 2)).toInt (S0 (q + 3)).toInt px.toInt py.toInt))) (ty := .long) (C := RX11) (T := TX11) (N := 55) hx hb hts inX11 tyX11 tyX11_ok nmX11 hown hK hP hD hS 0 rfl rfl 49 (by decide) (hts _ mw_1208) (fun _ h9 => h9) rfl (by decide +kernel) rfl rfl (Nat.le_of_ble_eq_true rfl) dX11_nearer_206 (fun H locs hP hD hS => ?_)
            obtain ⟨hP, hD⟩ := zre (W2 := [(om k0 a I0 (vp_updL (vp_updL J0 48 (jI (nrU (S0 q).toInt (S0 (q + 1)).toInt (S0 (q + 2)).toInt (S0 (q + 3)).toInt px.toInt py.toInt))) 49 (jI (nrD (S0 q).toInt (S0 (q + 1)).toInt (S0 (q + 2)).toInt (S0 (q + 3)).toInt px.toInt py.toInt)))), _]) hP hD rfl
            obtain ⟨hP9, hD9⟩ := zu_sub (wc := [_, _]) hP hD [true, true] rfl rfl
            rw [hQ9]
            exact W.vret hx hb hr (fun t ht hW => ⟨⟨rfl, (nrU (S0 q).toInt (S0 (q + 1)).toInt (S0 (q + 2)).toInt (S0 (q + 3)).toInt px.toInt py.toInt), (nrD (S0 q).toInt (S0 (q + 1)).toInt (S0 (q + 2)).toInt (S0 (q + 3)).toInt px.toInt py.toInt), (by unfold ndP; first | exact Or.inl ⟨Or.inl (by omega), rfl, rfl⟩ | exact Or.inl ⟨Or.inr (by first | with_reducible assumption | assumption), rfl, rfl⟩ | exact Or.inr ⟨fun h => h.elim (by omega) (by first | with_reducible assumption | assumption), rfl, rfl⟩), by rw [ht]; exact hP9, hD9⟩, hS.F ht⟩) hS.2.2 dX11_nearer_209
      · have c_9 : (nrL (S0 q).toInt (S0 (q + 1)).toInt (S0 (q + 2)).toInt (S0 (q + 3)).toInt) ≤ (nrT (S0 q).toInt (S0 (q + 1)).toInt (S0 (q + 2)).toInt (S0 (q + 3)).toInt px.toInt py.toInt) := zl_nlt (jI_toInt (by omega)) (jI_toInt (by omega)) c_9
        refine lv_lload hx hb dX11_nearer_117 (lv_at hl 4 rfl) ?_
        refine lv_lload hx hb dX11_nearer_119 (lv_at hl 6 rfl) ?_
        refine lv_lsub hx hb dX11_nearer_121 ?_
        refine lv_lload hx hb dX11_nearer_122 (lv_at hl 4 rfl) ?_
        refine lv_lload hx hb dX11_nearer_124 (lv_at hl 6 rfl) ?_
        refine lv_lsub hx hb dX11_nearer_126 ?_
        refine lv_lmul hx hb dX11_nearer_127 ?_
        refine lv_lload hx hb dX11_nearer_128 (lv_at hl 3 rfl) ?_
        refine lv_lload hx hb dX11_nearer_130 (lv_at hl 5 rfl) ?_
        refine lv_lsub hx hb dX11_nearer_132 ?_
        refine lv_lload hx hb dX11_nearer_133 (lv_at hl 3 rfl) ?_
        refine lv_lload hx hb dX11_nearer_135 (lv_at hl 5 rfl) ?_
        refine lv_lsub hx hb dX11_nearer_137 ?_
        refine lv_lmul hx hb dX11_nearer_138 ?_
        refine lv_ladd hx hb dX11_nearer_139 ?_
        refine zz_l (v := jI (nrU (S0 q).toInt (S0 (q + 1)).toInt (S0 (q + 2)).toInt (S0 (q + 3)).toInt px.toInt py.toInt)) (nr_u1 (hs q (by omega)) (hs (q + 1) (by omega)) (hs (q + 2) (by omega)) (hs (q + 3) (by omega)) hpx hpy (by omega) (by omega)) ?_
        refine lv_lstore (lv' := [(17, .long (jI (nrU (S0 q).toInt (S0 (q + 1)).toInt (S0 (q + 2)).toInt (S0 (q + 3)).toInt px.toInt py.toInt))), (19, .long 1), (15, .long (jI (nrT (S0 q).toInt (S0 (q + 1)).toInt (S0 (q + 2)).toInt (S0 (q + 3)).toInt px.toInt py.toInt))), (13, .long (jI (nrL (S0 q).toInt (S0 (q + 1)).toInt (S0 (q + 2)).toInt (S0 (q + 3)).toInt))), (11, .long ((py - (S0 (q + 1))).toInt64)), (9, .long ((px - (S0 q)).toInt64)), (7, .long (((S0 (q + 3)) - (S0 (q + 1))).toInt64)), (5, .long (((S0 (q + 2)) - (S0 q)).toInt64)), (0, .ref k0), (1, .ref (a 32)), (2, .int px), (3, .int py), (4, .int (nI q))]) hx hb dX11_nearer_140 hl (Nat.le_of_ble_eq_true rfl) rfl (fun ls hl => ?_)
        refine lv_goto (tgt := 169) hx hb dX11_nearer_142 rfl ?_
        refine lv_aload_n hx hb dX11_nearer_169 rfl (lv_at hl 8 rfl) ?_
        refine va_get (D := (dC, dI)) (ci := 9) (v := .long (jI d)) (C := RX11) (T := TX11) (N := 55) hx hb hts inX11 hown hK hP 0 rfl rfl 49 (Nat.le_of_ble_eq_true rfl) (hts _ mw_1208) (fun _ h9 => h9) rfl dX11_nearer_170 ?_
        refine lv_lconst (v := 0) hx hb dX11_nearer_173 rfl ?_
        refine W.lcmp hx hb dX11_nearer_174 ?_
        refine lv_if_eq (tgt := 197) hx hb dX11_nearer_175 rfl (fun c_12 => ?_) (fun c_12 => ?_)
        · have c_12 : d = 0 := zl_eq (jI_toInt (by omega)) rfl c_12
          refine lv_aload_n hx hb dX11_nearer_197 rfl (lv_at hl 8 rfl) ?_
          refine lv_lload hx hb dX11_nearer_198 (lv_at hl 0 rfl) ?_
          refine va_put (D := (dC, dI)) (ci := 9) (v := .long (jI (nrU (S0 q).toInt (S0 (q + 1)).toInt (S0 (q + 2)).toInt (S0 (q + 3)).toInt px.toInt py.toInt))) (ty := .long) (C := RX11) (T := TX11) (N := 55) hx hb hts inX11 tyX11 tyX11_ok nmX11 hown hK hP hD hS 0 rfl rfl 48 (by decide) (hts _ mw_1207) (fun _ h9 => h9) rfl (by decide +kernel) rfl rfl (Nat.le_of_ble_eq_true rfl) dX11_nearer_200 (fun H locs hP hD hS => ?_)
          obtain ⟨hP, hD⟩ := zre (W2 := [(om k0 a I0 (vp_updL (vp_updL J0 48 (jI (nrU (S0 q).toInt (S0 (q + 1)).toInt (S0 (q + 2)).toInt (S0 (q + 3)).toInt px.toInt py.toInt))) 49 (jI d))), _]) hP hD rfl
          refine lv_aload_n hx hb dX11_nearer_203 rfl (lv_at hl 8 rfl) ?_
          refine lv_lload hx hb dX11_nearer_204 (lv_at hl 1 rfl) ?_
          refine zz_l (v := jI (nrD (S0 q).toInt (S0 (q + 1)).toInt (S0 (q + 2)).toInt (S0 (q + 3)).toInt px.toInt py.toInt)) (by first | (rw [nrD_0 hT0]; exact jI_1) | (rw [nrD_1 (by omega) (by omega)]; exact jI_1) | (rw [nrD_2 (by omega) (by omega)])) ?_
          refine va_put (D := (dC, dI)) (ci := 9) (v := .long (jI (nrD (S0 q).toInt (S0 (q + 1)).toInt (S0 (q + 2)).toInt (S0 (q + 3)).toInt px.toInt py.toInt))) (ty := .long) (C := RX11) (T := TX11) (N := 55) hx hb hts inX11 tyX11 tyX11_ok nmX11 hown hK hP hD hS 0 rfl rfl 49 (by decide) (hts _ mw_1208) (fun _ h9 => h9) rfl (by decide +kernel) rfl rfl (Nat.le_of_ble_eq_true rfl) dX11_nearer_206 (fun H locs hP hD hS => ?_)
          obtain ⟨hP, hD⟩ := zre (W2 := [(om k0 a I0 (vp_updL (vp_updL J0 48 (jI (nrU (S0 q).toInt (S0 (q + 1)).toInt (S0 (q + 2)).toInt (S0 (q + 3)).toInt px.toInt py.toInt))) 49 (jI (nrD (S0 q).toInt (S0 (q + 1)).toInt (S0 (q + 2)).toInt (S0 (q + 3)).toInt px.toInt py.toInt)))), _]) hP hD rfl
          obtain ⟨hP9, hD9⟩ := zu_sub (wc := [_, _]) hP hD [true, true] rfl rfl
          rw [hQ9]
          exact W.vret hx hb hr (fun t ht hW => ⟨⟨rfl, (nrU (S0 q).toInt (S0 (q + 1)).toInt (S0 (q + 2)).toInt (S0 (q + 3)).toInt px.toInt py.toInt), (nrD (S0 q).toInt (S0 (q + 1)).toInt (S0 (q + 2)).toInt (S0 (q + 3)).toInt px.toInt py.toInt), (by unfold ndP; first | exact Or.inl ⟨Or.inl (by omega), rfl, rfl⟩ | exact Or.inl ⟨Or.inr (by first | with_reducible assumption | assumption), rfl, rfl⟩ | exact Or.inr ⟨fun h => h.elim (by omega) (by first | with_reducible assumption | assumption), rfl, rfl⟩), by rw [ht]; exact hP9, hD9⟩, hS.F ht⟩) hS.2.2 dX11_nearer_209
        · have c_12 : ¬ d = 0 := zl_ne (jI_toInt (by omega)) rfl c_12
          refine lv_aload_n hx hb dX11_nearer_178 rfl (lv_at hl 8 rfl) ?_
          refine lv_lload hx hb dX11_nearer_179 (lv_at hl 0 rfl) ?_
          refine lv_lload hx hb dX11_nearer_181 (lv_at hl 1 rfl) ?_
          refine zz_l (v := jI (nrD (S0 q).toInt (S0 (q + 1)).toInt (S0 (q + 2)).toInt (S0 (q + 3)).toInt px.toInt py.toInt)) (by first | (rw [nrD_0 hT0]; exact jI_1) | (rw [nrD_1 (by omega) (by omega)]; exact jI_1) | (rw [nrD_2 (by omega) (by omega)])) ?_
          refine lv_aload_n hx hb dX11_nearer_183 rfl (lv_at hl 8 rfl) ?_
          refine va_get (D := (dC, dI)) (ci := 9) (v := .long (jI u)) (C := RX11) (T := TX11) (N := 55) hx hb hts inX11 hown hK hP 0 rfl rfl 48 (Nat.le_of_ble_eq_true rfl) (hts _ mw_1207) (fun _ h9 => h9) rfl dX11_nearer_184 ?_
          refine lv_aload_n hx hb dX11_nearer_187 rfl (lv_at hl 8 rfl) ?_
          refine va_get (D := (dC, dI)) (ci := 9) (v := .long (jI d)) (C := RX11) (T := TX11) (N := 55) hx hb hts inX11 hown hK hP 0 rfl rfl 49 (Nat.le_of_ble_eq_true rfl) (hts _ mw_1208) (fun _ h9 => h9) rfl dX11_nearer_188 ?_
          obtain ⟨hPc, hDc, hFc, hI1⟩ := zi_sub (wc := [_]) hP hD hS hA [0] rfl rfl
          refine zcall (st1 := [.int (pI ((nrU (S0 q).toInt (S0 (q + 1)).toInt (S0 (q + 2)).toInt (S0 (q + 3)).toInt px.toInt py.toInt) * d < u * (nrD (S0 q).toInt (S0 (q + 1)).toInt (S0 (q + 2)).toInt (S0 (q + 3)).toInt px.toInt py.toInt)))]) (va_runV (As := [.long (jI (nrU (S0 q).toInt (S0 (q + 1)).toInt (S0 (q + 2)).toInt (S0 (q + 3)).toInt px.toInt py.toInt)), .long (jI (nrD (S0 q).toInt (S0 (q + 1)).toInt (S0 (q + 2)).toInt (S0 (q + 3)).toInt px.toInt py.toInt)), .long (jI u), .long (jI d)]) (rest := []) ⟨hx, hb, hml, hown, hts⟩ (k_M_isLess l dC dI cI cZ cF s.heap.size k0 a I0 (vp_updL (vp_updL J0 48 (jI u)) 49 (jI d)) (nrU (S0 q).toInt (S0 (q + 1)).toInt (S0 (q + 2)).toInt (S0 (q + 3)).toInt px.toInt py.toInt) (nrD (S0 q).toInt (S0 (q + 1)).toInt (S0 (q + 2)).toInt (S0 (q + 3)).toInt px.toInt py.toInt) u d (prN hUb.1 hd9) (prN hu9 ⟨by omega, hUb.2.2⟩) (by first | with_reducible assumption | omega) (by first | with_reducible assumption | omega) (by first | with_reducible assumption | omega) (by first | with_reducible assumption | omega)) (csV_217 hts rfl rfl ⟨Nat.le_of_ble_eq_true rfl, Nat.le_of_ble_eq_true rfl⟩) (zPV2 (q0 := 0) (ci := 9) hPc hDc hK hXN rfl rfl) rfl rfl hl.1 rfl (lv_room (Nat.le_of_ble_eq_true rfl)) dX11_nearer_191 ⟨Nat.le_of_ble_eq_true rfl, Nat.le_of_ble_eq_true rfl⟩) hS hFc hFc rfl (fun t H locs ht hB hk1 hS => ?_)
          obtain ⟨hP1, hD1⟩ := hB
          rw [ht] at hP1
          replace hP := z0 hP hD hk1 hP1 hI1
          clear hk1 hPc hDc hFc hP1 hD1 ht hI1
          refine lv_if_eq (tgt := 209) hx hb dX11_nearer_194 rfl (fun c_13 => ?_) (fun c_13 => ?_)
          · have c_13 : ¬ ((nrU (S0 q).toInt (S0 (q + 1)).toInt (S0 (q + 2)).toInt (S0 (q + 3)).toInt px.toInt py.toInt) * d < u * (nrD (S0 q).toInt (S0 (q + 1)).toInt (S0 (q + 2)).toInt (S0 (q + 3)).toInt px.toInt py.toInt)) := zp_0 c_13
            obtain ⟨hP9, hD9⟩ := zu_sub (wc := [_, _]) hP hD [true, true] rfl rfl
            rw [hQ9]
            exact W.vret hx hb hr (fun t ht hW => ⟨⟨rfl, u, d, (by unfold ndP; first | exact Or.inl ⟨Or.inl (by omega), rfl, rfl⟩ | exact Or.inl ⟨Or.inr (by first | with_reducible assumption | assumption), rfl, rfl⟩ | exact Or.inr ⟨fun h => h.elim (by omega) (by first | with_reducible assumption | assumption), rfl, rfl⟩), by rw [ht]; exact hP9, hD9⟩, hS.F ht⟩) hS.2.2 dX11_nearer_209
          · have c_13 : (nrU (S0 q).toInt (S0 (q + 1)).toInt (S0 (q + 2)).toInt (S0 (q + 3)).toInt px.toInt py.toInt) * d < u * (nrD (S0 q).toInt (S0 (q + 1)).toInt (S0 (q + 2)).toInt (S0 (q + 3)).toInt px.toInt py.toInt) := zp_1 c_13
            refine lv_aload_n hx hb dX11_nearer_197 rfl (lv_at hl 8 rfl) ?_
            refine lv_lload hx hb dX11_nearer_198 (lv_at hl 0 rfl) ?_
            refine va_put (D := (dC, dI)) (ci := 9) (v := .long (jI (nrU (S0 q).toInt (S0 (q + 1)).toInt (S0 (q + 2)).toInt (S0 (q + 3)).toInt px.toInt py.toInt))) (ty := .long) (C := RX11) (T := TX11) (N := 55) hx hb hts inX11 tyX11 tyX11_ok nmX11 hown hK hP hD hS 0 rfl rfl 48 (by decide) (hts _ mw_1207) (fun _ h9 => h9) rfl (by decide +kernel) rfl rfl (Nat.le_of_ble_eq_true rfl) dX11_nearer_200 (fun H locs hP hD hS => ?_)
            obtain ⟨hP, hD⟩ := zre (W2 := [(om k0 a I0 (vp_updL (vp_updL J0 48 (jI (nrU (S0 q).toInt (S0 (q + 1)).toInt (S0 (q + 2)).toInt (S0 (q + 3)).toInt px.toInt py.toInt))) 49 (jI d))), _]) hP hD rfl
            refine lv_aload_n hx hb dX11_nearer_203 rfl (lv_at hl 8 rfl) ?_
            refine lv_lload hx hb dX11_nearer_204 (lv_at hl 1 rfl) ?_
            refine zz_l (v := jI (nrD (S0 q).toInt (S0 (q + 1)).toInt (S0 (q + 2)).toInt (S0 (q + 3)).toInt px.toInt py.toInt)) (by first | (rw [nrD_0 hT0]; exact jI_1) | (rw [nrD_1 (by omega) (by omega)]; exact jI_1) | (rw [nrD_2 (by omega) (by omega)])) ?_
            refine va_put (D := (dC, dI)) (ci := 9) (v := .long (jI (nrD (S0 q).toInt (S0 (q + 1)).toInt (S0 (q + 2)).toInt (S0 (q + 3)).toInt px.toInt py.toInt))) (ty := .long) (C := RX11) (T := TX11) (N := 55) hx hb hts inX11 tyX11 tyX11_ok nmX11 hown hK hP hD hS 0 rfl rfl 49 (by decide) (hts _ mw_1208) (fun _ h9 => h9) rfl (by decide +kernel) rfl rfl (Nat.le_of_ble_eq_true rfl) dX11_nearer_206 (fun H locs hP hD hS => ?_)
            obtain ⟨hP, hD⟩ := zre (W2 := [(om k0 a I0 (vp_updL (vp_updL J0 48 (jI (nrU (S0 q).toInt (S0 (q + 1)).toInt (S0 (q + 2)).toInt (S0 (q + 3)).toInt px.toInt py.toInt))) 49 (jI (nrD (S0 q).toInt (S0 (q + 1)).toInt (S0 (q + 2)).toInt (S0 (q + 3)).toInt px.toInt py.toInt)))), _]) hP hD rfl
            obtain ⟨hP9, hD9⟩ := zu_sub (wc := [_, _]) hP hD [true, true] rfl rfl
            rw [hQ9]
            exact W.vret hx hb hr (fun t ht hW => ⟨⟨rfl, (nrU (S0 q).toInt (S0 (q + 1)).toInt (S0 (q + 2)).toInt (S0 (q + 3)).toInt px.toInt py.toInt), (nrD (S0 q).toInt (S0 (q + 1)).toInt (S0 (q + 2)).toInt (S0 (q + 3)).toInt px.toInt py.toInt), (by unfold ndP; first | exact Or.inl ⟨Or.inl (by omega), rfl, rfl⟩ | exact Or.inl ⟨Or.inr (by first | with_reducible assumption | assumption), rfl, rfl⟩ | exact Or.inr ⟨fun h => h.elim (by omega) (by first | with_reducible assumption | assumption), rfl, rfl⟩), by rw [ht]; exact hP9, hD9⟩, hS.F ht⟩) hS.2.2 dX11_nearer_209
    · have c_8 : (nrT (S0 q).toInt (S0 (q + 1)).toInt (S0 (q + 2)).toInt (S0 (q + 3)).toInt px.toInt py.toInt) ≤ 0 := zl_ngt (jI_toInt (by omega)) rfl c_8
      have hT0 : nrT (S0 q).toInt (S0 (q + 1)).toInt (S0 (q + 2)).toInt (S0 (q + 3)).toInt px.toInt py.toInt ≤ 0 := (by first | omega | (have h9 := nrT_0 (x := px.toInt) (y := py.toInt) (show nrL (S0 q).toInt (S0 (q + 1)).toInt (S0 (q + 2)).toInt (S0 (q + 3)).toInt = 0 by assumption); omega))
      refine lv_lload hx hb dX11_nearer_93 (lv_at hl 4 rfl) ?_
      refine lv_lload hx hb dX11_nearer_95 (lv_at hl 4 rfl) ?_
      refine lv_lmul hx hb dX11_nearer_97 ?_
      refine lv_lload hx hb dX11_nearer_98 (lv_at hl 3 rfl) ?_
      refine lv_lload hx hb dX11_nearer_100 (lv_at hl 3 rfl) ?_
      refine lv_lmul hx hb dX11_nearer_102 ?_
      refine lv_ladd hx hb dX11_nearer_103 ?_
      refine zz_l (v := jI (nrU (S0 q).toInt (S0 (q + 1)).toInt (S0 (q + 2)).toInt (S0 (q + 3)).toInt px.toInt py.toInt)) (nr_u0 (hs q (by omega)) (hs (q + 1) (by omega)) hpx hpy hT0) ?_
      refine lv_lstore (lv' := [(17, .long (jI (nrU (S0 q).toInt (S0 (q + 1)).toInt (S0 (q + 2)).toInt (S0 (q + 3)).toInt px.toInt py.toInt))), (19, .long 1), (15, .long (jI (nrT (S0 q).toInt (S0 (q + 1)).toInt (S0 (q + 2)).toInt (S0 (q + 3)).toInt px.toInt py.toInt))), (13, .long (jI (nrL (S0 q).toInt (S0 (q + 1)).toInt (S0 (q + 2)).toInt (S0 (q + 3)).toInt))), (11, .long ((py - (S0 (q + 1))).toInt64)), (9, .long ((px - (S0 q)).toInt64)), (7, .long (((S0 (q + 3)) - (S0 (q + 1))).toInt64)), (5, .long (((S0 (q + 2)) - (S0 q)).toInt64)), (0, .ref k0), (1, .ref (a 32)), (2, .int px), (3, .int py), (4, .int (nI q))]) hx hb dX11_nearer_104 hl (Nat.le_of_ble_eq_true rfl) rfl (fun ls hl => ?_)
      refine lv_goto (tgt := 169) hx hb dX11_nearer_106 rfl ?_
      refine lv_aload_n hx hb dX11_nearer_169 rfl (lv_at hl 8 rfl) ?_
      refine va_get (D := (dC, dI)) (ci := 9) (v := .long (jI d)) (C := RX11) (T := TX11) (N := 55) hx hb hts inX11 hown hK hP 0 rfl rfl 49 (Nat.le_of_ble_eq_true rfl) (hts _ mw_1208) (fun _ h9 => h9) rfl dX11_nearer_170 ?_
      refine lv_lconst (v := 0) hx hb dX11_nearer_173 rfl ?_
      refine W.lcmp hx hb dX11_nearer_174 ?_
      refine lv_if_eq (tgt := 197) hx hb dX11_nearer_175 rfl (fun c_14 => ?_) (fun c_14 => ?_)
      · have c_14 : d = 0 := zl_eq (jI_toInt (by omega)) rfl c_14
        refine lv_aload_n hx hb dX11_nearer_197 rfl (lv_at hl 8 rfl) ?_
        refine lv_lload hx hb dX11_nearer_198 (lv_at hl 0 rfl) ?_
        refine va_put (D := (dC, dI)) (ci := 9) (v := .long (jI (nrU (S0 q).toInt (S0 (q + 1)).toInt (S0 (q + 2)).toInt (S0 (q + 3)).toInt px.toInt py.toInt))) (ty := .long) (C := RX11) (T := TX11) (N := 55) hx hb hts inX11 tyX11 tyX11_ok nmX11 hown hK hP hD hS 0 rfl rfl 48 (by decide) (hts _ mw_1207) (fun _ h9 => h9) rfl (by decide +kernel) rfl rfl (Nat.le_of_ble_eq_true rfl) dX11_nearer_200 (fun H locs hP hD hS => ?_)
        obtain ⟨hP, hD⟩ := zre (W2 := [(om k0 a I0 (vp_updL (vp_updL J0 48 (jI (nrU (S0 q).toInt (S0 (q + 1)).toInt (S0 (q + 2)).toInt (S0 (q + 3)).toInt px.toInt py.toInt))) 49 (jI d))), _]) hP hD rfl
        refine lv_aload_n hx hb dX11_nearer_203 rfl (lv_at hl 8 rfl) ?_
        refine lv_lload hx hb dX11_nearer_204 (lv_at hl 1 rfl) ?_
        refine zz_l (v := jI (nrD (S0 q).toInt (S0 (q + 1)).toInt (S0 (q + 2)).toInt (S0 (q + 3)).toInt px.toInt py.toInt)) (by first | (rw [nrD_0 hT0]; exact jI_1) | (rw [nrD_1 (by omega) (by omega)]; exact jI_1) | (rw [nrD_2 (by omega) (by omega)])) ?_
        refine va_put (D := (dC, dI)) (ci := 9) (v := .long (jI (nrD (S0 q).toInt (S0 (q + 1)).toInt (S0 (q + 2)).toInt (S0 (q + 3)).toInt px.toInt py.toInt))) (ty := .long) (C := RX11) (T := TX11) (N := 55) hx hb hts inX11 tyX11 tyX11_ok nmX11 hown hK hP hD hS 0 rfl rfl 49 (by decide) (hts _ mw_1208) (fun _ h9 => h9) rfl (by decide +kernel) rfl rfl (Nat.le_of_ble_eq_true rfl) dX11_nearer_206 (fun H locs hP hD hS => ?_)
        obtain ⟨hP, hD⟩ := zre (W2 := [(om k0 a I0 (vp_updL (vp_updL J0 48 (jI (nrU (S0 q).toInt (S0 (q + 1)).toInt (S0 (q + 2)).toInt (S0 (q + 3)).toInt px.toInt py.toInt))) 49 (jI (nrD (S0 q).toInt (S0 (q + 1)).toInt (S0 (q + 2)).toInt (S0 (q + 3)).toInt px.toInt py.toInt)))), _]) hP hD rfl
        obtain ⟨hP9, hD9⟩ := zu_sub (wc := [_, _]) hP hD [true, true] rfl rfl
        rw [hQ9]
        exact W.vret hx hb hr (fun t ht hW => ⟨⟨rfl, (nrU (S0 q).toInt (S0 (q + 1)).toInt (S0 (q + 2)).toInt (S0 (q + 3)).toInt px.toInt py.toInt), (nrD (S0 q).toInt (S0 (q + 1)).toInt (S0 (q + 2)).toInt (S0 (q + 3)).toInt px.toInt py.toInt), (by unfold ndP; first | exact Or.inl ⟨Or.inl (by omega), rfl, rfl⟩ | exact Or.inl ⟨Or.inr (by first | with_reducible assumption | assumption), rfl, rfl⟩ | exact Or.inr ⟨fun h => h.elim (by omega) (by first | with_reducible assumption | assumption), rfl, rfl⟩), by rw [ht]; exact hP9, hD9⟩, hS.F ht⟩) hS.2.2 dX11_nearer_209
      · have c_14 : ¬ d = 0 := zl_ne (jI_toInt (by omega)) rfl c_14
        refine lv_aload_n hx hb dX11_nearer_178 rfl (lv_at hl 8 rfl) ?_
        refine lv_lload hx hb dX11_nearer_179 (lv_at hl 0 rfl) ?_
        refine lv_lload hx hb dX11_nearer_181 (lv_at hl 1 rfl) ?_
        refine zz_l (v := jI (nrD (S0 q).toInt (S0 (q + 1)).toInt (S0 (q + 2)).toInt (S0 (q + 3)).toInt px.toInt py.toInt)) (by first | (rw [nrD_0 hT0]; exact jI_1) | (rw [nrD_1 (by omega) (by omega)]; exact jI_1) | (rw [nrD_2 (by omega) (by omega)])) ?_
        refine lv_aload_n hx hb dX11_nearer_183 rfl (lv_at hl 8 rfl) ?_
        refine va_get (D := (dC, dI)) (ci := 9) (v := .long (jI u)) (C := RX11) (T := TX11) (N := 55) hx hb hts inX11 hown hK hP 0 rfl rfl 48 (Nat.le_of_ble_eq_true rfl) (hts _ mw_1207) (fun _ h9 => h9) rfl dX11_nearer_184 ?_
        refine lv_aload_n hx hb dX11_nearer_187 rfl (lv_at hl 8 rfl) ?_
        refine va_get (D := (dC, dI)) (ci := 9) (v := .long (jI d)) (C := RX11) (T := TX11) (N := 55) hx hb hts inX11 hown hK hP 0 rfl rfl 49 (Nat.le_of_ble_eq_true rfl) (hts _ mw_1208) (fun _ h9 => h9) rfl dX11_nearer_188 ?_
        obtain ⟨hPc, hDc, hFc, hI1⟩ := zi_sub (wc := [_]) hP hD hS hA [0] rfl rfl
        refine zcall (st1 := [.int (pI ((nrU (S0 q).toInt (S0 (q + 1)).toInt (S0 (q + 2)).toInt (S0 (q + 3)).toInt px.toInt py.toInt) * d < u * (nrD (S0 q).toInt (S0 (q + 1)).toInt (S0 (q + 2)).toInt (S0 (q + 3)).toInt px.toInt py.toInt)))]) (va_runV (As := [.long (jI (nrU (S0 q).toInt (S0 (q + 1)).toInt (S0 (q + 2)).toInt (S0 (q + 3)).toInt px.toInt py.toInt)), .long (jI (nrD (S0 q).toInt (S0 (q + 1)).toInt (S0 (q + 2)).toInt (S0 (q + 3)).toInt px.toInt py.toInt)), .long (jI u), .long (jI d)]) (rest := []) ⟨hx, hb, hml, hown, hts⟩ (k_M_isLess l dC dI cI cZ cF s.heap.size k0 a I0 (vp_updL (vp_updL J0 48 (jI u)) 49 (jI d)) (nrU (S0 q).toInt (S0 (q + 1)).toInt (S0 (q + 2)).toInt (S0 (q + 3)).toInt px.toInt py.toInt) (nrD (S0 q).toInt (S0 (q + 1)).toInt (S0 (q + 2)).toInt (S0 (q + 3)).toInt px.toInt py.toInt) u d (prN hUb.1 hd9) (prN hu9 ⟨by omega, hUb.2.2⟩) (by first | with_reducible assumption | omega) (by first | with_reducible assumption | omega) (by first | with_reducible assumption | omega) (by first | with_reducible assumption | omega)) (csV_217 hts rfl rfl ⟨Nat.le_of_ble_eq_true rfl, Nat.le_of_ble_eq_true rfl⟩) (zPV2 (q0 := 0) (ci := 9) hPc hDc hK hXN rfl rfl) rfl rfl hl.1 rfl (lv_room (Nat.le_of_ble_eq_true rfl)) dX11_nearer_191 ⟨Nat.le_of_ble_eq_true rfl, Nat.le_of_ble_eq_true rfl⟩) hS hFc hFc rfl (fun t H locs ht hB hk1 hS => ?_)
        obtain ⟨hP1, hD1⟩ := hB
        rw [ht] at hP1
        replace hP := z0 hP hD hk1 hP1 hI1
        clear hk1 hPc hDc hFc hP1 hD1 ht hI1
        refine lv_if_eq (tgt := 209) hx hb dX11_nearer_194 rfl (fun c_15 => ?_) (fun c_15 => ?_)
        · have c_15 : ¬ ((nrU (S0 q).toInt (S0 (q + 1)).toInt (S0 (q + 2)).toInt (S0 (q + 3)).toInt px.toInt py.toInt) * d < u * (nrD (S0 q).toInt (S0 (q + 1)).toInt (S0 (q + 2)).toInt (S0 (q + 3)).toInt px.toInt py.toInt)) := zp_0 c_15
          obtain ⟨hP9, hD9⟩ := zu_sub (wc := [_, _]) hP hD [true, true] rfl rfl
          rw [hQ9]
          exact W.vret hx hb hr (fun t ht hW => ⟨⟨rfl, u, d, (by unfold ndP; first | exact Or.inl ⟨Or.inl (by omega), rfl, rfl⟩ | exact Or.inl ⟨Or.inr (by first | with_reducible assumption | assumption), rfl, rfl⟩ | exact Or.inr ⟨fun h => h.elim (by omega) (by first | with_reducible assumption | assumption), rfl, rfl⟩), by rw [ht]; exact hP9, hD9⟩, hS.F ht⟩) hS.2.2 dX11_nearer_209
        · have c_15 : (nrU (S0 q).toInt (S0 (q + 1)).toInt (S0 (q + 2)).toInt (S0 (q + 3)).toInt px.toInt py.toInt) * d < u * (nrD (S0 q).toInt (S0 (q + 1)).toInt (S0 (q + 2)).toInt (S0 (q + 3)).toInt px.toInt py.toInt) := zp_1 c_15
          refine lv_aload_n hx hb dX11_nearer_197 rfl (lv_at hl 8 rfl) ?_
          refine lv_lload hx hb dX11_nearer_198 (lv_at hl 0 rfl) ?_
          refine va_put (D := (dC, dI)) (ci := 9) (v := .long (jI (nrU (S0 q).toInt (S0 (q + 1)).toInt (S0 (q + 2)).toInt (S0 (q + 3)).toInt px.toInt py.toInt))) (ty := .long) (C := RX11) (T := TX11) (N := 55) hx hb hts inX11 tyX11 tyX11_ok nmX11 hown hK hP hD hS 0 rfl rfl 48 (by decide) (hts _ mw_1207) (fun _ h9 => h9) rfl (by decide +kernel) rfl rfl (Nat.le_of_ble_eq_true rfl) dX11_nearer_200 (fun H locs hP hD hS => ?_)
          obtain ⟨hP, hD⟩ := zre (W2 := [(om k0 a I0 (vp_updL (vp_updL J0 48 (jI (nrU (S0 q).toInt (S0 (q + 1)).toInt (S0 (q + 2)).toInt (S0 (q + 3)).toInt px.toInt py.toInt))) 49 (jI d))), _]) hP hD rfl
          refine lv_aload_n hx hb dX11_nearer_203 rfl (lv_at hl 8 rfl) ?_
          refine lv_lload hx hb dX11_nearer_204 (lv_at hl 1 rfl) ?_
          refine zz_l (v := jI (nrD (S0 q).toInt (S0 (q + 1)).toInt (S0 (q + 2)).toInt (S0 (q + 3)).toInt px.toInt py.toInt)) (by first | (rw [nrD_0 hT0]; exact jI_1) | (rw [nrD_1 (by omega) (by omega)]; exact jI_1) | (rw [nrD_2 (by omega) (by omega)])) ?_
          refine va_put (D := (dC, dI)) (ci := 9) (v := .long (jI (nrD (S0 q).toInt (S0 (q + 1)).toInt (S0 (q + 2)).toInt (S0 (q + 3)).toInt px.toInt py.toInt))) (ty := .long) (C := RX11) (T := TX11) (N := 55) hx hb hts inX11 tyX11 tyX11_ok nmX11 hown hK hP hD hS 0 rfl rfl 49 (by decide) (hts _ mw_1208) (fun _ h9 => h9) rfl (by decide +kernel) rfl rfl (Nat.le_of_ble_eq_true rfl) dX11_nearer_206 (fun H locs hP hD hS => ?_)
          obtain ⟨hP, hD⟩ := zre (W2 := [(om k0 a I0 (vp_updL (vp_updL J0 48 (jI (nrU (S0 q).toInt (S0 (q + 1)).toInt (S0 (q + 2)).toInt (S0 (q + 3)).toInt px.toInt py.toInt))) 49 (jI (nrD (S0 q).toInt (S0 (q + 1)).toInt (S0 (q + 2)).toInt (S0 (q + 3)).toInt px.toInt py.toInt)))), _]) hP hD rfl
          obtain ⟨hP9, hD9⟩ := zu_sub (wc := [_, _]) hP hD [true, true] rfl rfl
          rw [hQ9]
          exact W.vret hx hb hr (fun t ht hW => ⟨⟨rfl, (nrU (S0 q).toInt (S0 (q + 1)).toInt (S0 (q + 2)).toInt (S0 (q + 3)).toInt px.toInt py.toInt), (nrD (S0 q).toInt (S0 (q + 1)).toInt (S0 (q + 2)).toInt (S0 (q + 3)).toInt px.toInt py.toInt), (by unfold ndP; first | exact Or.inl ⟨Or.inl (by omega), rfl, rfl⟩ | exact Or.inl ⟨Or.inr (by first | with_reducible assumption | assumption), rfl, rfl⟩ | exact Or.inr ⟨fun h => h.elim (by omega) (by first | with_reducible assumption | assumption), rfl, rfl⟩), by rw [ht]; exact hP9, hD9⟩, hS.F ht⟩) hS.2.2 dX11_nearer_209
end
