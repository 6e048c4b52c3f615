section
set_option maxHeartbeats 4000000 in
set_option maxRecDepth 100000 in
theorem k_M_isSmall (l : Launch) (dC : Nat → ClassId) (dI : Nat → Nat → Nat) (cI cZ cF : ClassId) (sz : Nat) (k0 : Nat) (a : Nat → Nat) (I0 : Nat → Int32) (J0 : Nat → Int64) (f : Nat) (ft : Nat) (le9 : Int32) (st : Nat → Int32) (tn : Nat → Int32) (kd : Nat → Int32) (mn : Nat → Int32) (cx : Nat → Int32) (cy : Nat → Int32) (S0 : Nat → Int32) (hft : I0 0 = nI ft) (h200 : ft ≤ 200) (hf_t : f < ft) (hwf : ∀ q, lvF ft st tn q → wfM mn cx cy q) : zM l yX11_isSmall cX11_isSmall 3 (some .boolean) ({ frames := 2, cells := 0, slots := 0, locals := 49 } : Room) [.ref k0, .int (nI f), .int le9] (dC, dI) (zTy cI cZ cF) [(om k0 a I0 J0), (oa (a 5) cI 201 st), (oa (a 6) cZ 201 tn), (oa (a 1) cI 201 kd), (oa (a 11) cI 201 mn), (oa (a 12) cI 8040 cx), (oa (a 13) cI 8040 cy), (oa (a 32) cI 8 S0)] sz (some (.int (pI (smF ft st tn kd mn cx cy le9.toInt f)))) (fun A t => ∃ (S1 : Nat → Int32), zPD (dC, dI) classes A [(om k0 a I0 J0), (oa (a 5) cI 201 st), (oa (a 6) cZ 201 tn), (oa (a 1) cI 201 kd), (oa (a 11) cI 201 mn), (oa (a 12) cI 8040 cx), (oa (a 13) cI 8040 cy), (oa (a 32) cI 8 S1)] t.heap) 0 0 := by
  refine zIn (own := "ScaleShopModel") (loc := [(0, .ref k0), (1, .int (nI f)), (2, .int le9)]) rfl rfl rfl rfl (fun p e s m below meth c hx hb hr hts hown hlocks hml hnm9 A hA hS hP hD hK hXN Q9 hQ9 ls hl => ?_)
  refine lv_aload_n hx hb dX11_isSmall_0 rfl (lv_at hl 0 rfl) ?_
  refine lv_iload_n hx hb dX11_isSmall_1 rfl (lv_at hl 1 rfl) ?_
  obtain ⟨hPc, hDc, hFc, hI1⟩ := zi_sub (wc := [_, _, _]) hP hD hS hA [0, 1, 2] rfl rfl
  refine zcall (st1 := [.int (pI (f < ft ∧ (st f).toInt = 1 ∧ (tn f).toInt = 0))]) (va_runV (As := [.int (nI f)]) (rest := []) ⟨hx, hb, hml, hown, hts⟩ (k_M_is_n l dC dI cI cZ cF s.heap.size k0 a I0 J0 f ft st tn (by first | with_reducible assumption | assumption) (by first | with_reducible assumption | omega) (by first | with_reducible assumption | omega)) (csV_179 hts rfl rfl ⟨Nat.le_of_ble_eq_true rfl, Nat.le_of_ble_eq_true rfl⟩) (zPV2 (q0 := 0) (ci := 9) hPc hDc hK hXN rfl rfl) rfl rfl hl.1 rfl (lv_room (Nat.le_of_ble_eq_true rfl)) dX11_isSmall_2 ⟨Nat.le_of_ble_eq_true rfl, Nat.le_of_ble_eq_true rfl⟩) hS hFc hFc rfl (fun t H locs ht hB hk1 hS => ?_)
  obtain ⟨hP1, hD1⟩ := hB
  rw [ht] at hP1
  replace hP := z0 hP hD hk1 hP1 hI1
  clear hk1 hPc hDc hFc hP1 hD1 ht hI1
  refine lv_if_eq (tgt := 34) hx hb dX11_isSmall_5 rfl (fun c_1 => ?_) (fun c_1 => ?_)
  · have c_1 : ¬ (f < ft ∧ (st f).toInt = 1 ∧ (tn f).toInt = 0) := zp_0 c_1
    refine lv_iconst (v := 0) hx hb dX11_isSmall_34 rfl ?_
    obtain ⟨hP9, hD9⟩ := zu_sub (wc := [_, _, _, _, _, _, _, _]) hP hD [true, true, true, true, true, true, true, true] rfl rfl
    rw [hQ9]
    exact W.zret (ty := .boolean) (v := 0) hx hb hr (rfl) (fun t ht hW => ⟨⟨congrArg (fun z => Outcome.returned (some (Value.int z))) (show (0 : Int32) = pI (smF ft st tn kd mn cx cy le9.toInt f) from (zp_f (by unfold smF; first | exact ⟨by assumption, by omega, by omega⟩ | exact fun h => absurd h.1 (by first | with_reducible assumption | assumption) | (intro h; have h1 := h.2.1; have h2 := h.2.2; omega))).symm), S0, by rw [ht]; exact hP9, hD9⟩, hS.F ht⟩) hS.2.2 dX11_isSmall_35
  · have c_1 : f < ft ∧ (st f).toInt = 1 ∧ (tn f).toInt = 0 := zp_1 c_1
    have hw9 := hwf f (by first | with_reducible assumption | assumption)
    have hm9 := hw9.1
    have hn9 := hw9.2.1
    have hp9 := hw9.2.2
    have hab := arF_b hw9
    have hlb := i32B le9
    refine lv_aload_n hx hb dX11_isSmall_8 rfl (lv_at hl 0 rfl) ?_
    refine va_get (D := (dC, dI)) (ci := 9) (v := .ref (a 1)) (C := RX11) (T := TX11) (N := 55) hx hb hts inX11 hown hK hP 0 rfl rfl 1 (Nat.le_of_ble_eq_true rfl) (hts _ mw_1160) (fun _ h9 => h9) rfl dX11_isSmall_9 ?_
    refine lv_iload_n hx hb dX11_isSmall_12 rfl (lv_at hl 1 rfl) ?_
    have b9_2 : f < 201 := by omega
    refine z_iald hx hb hK hP 3 0 rfl rfl (e := f) rfl b9_2 (Nat.le_of_ble_eq_true rfl) dX11_isSmall_13 ?_
    refine lv_bipush (v := 6) hx hb dX11_isSmall_14 rfl ?_
    refine lv_icmp_ne (tgt := 34) hx hb dX11_isSmall_16 rfl (fun c_3 => ?_) (fun c_3 => ?_)
    · have c_3 : ¬ (kd f).toInt = 6 := zc_ne rfl rfl c_3
      refine lv_iconst (v := 0) hx hb dX11_isSmall_34 rfl ?_
      obtain ⟨hP9, hD9⟩ := zu_sub (wc := [_, _, _, _, _, _, _, _]) hP hD [true, true, true, true, true, true, true, true] rfl rfl
      rw [hQ9]
      exact W.zret (ty := .boolean) (v := 0) hx hb hr (rfl) (fun t ht hW => ⟨⟨congrArg (fun z => Outcome.returned (some (Value.int z))) (show (0 : Int32) = pI (smF ft st tn kd mn cx cy le9.toInt f) from (zp_f (by unfold smF; first | exact ⟨by assumption, by omega, by omega⟩ | exact fun h => absurd h.1 (by first | with_reducible assumption | assumption) | (intro h; have h1 := h.2.1; have h2 := h.2.2; omega))).symm), S0, by rw [ht]; exact hP9, hD9⟩, hS.F ht⟩) hS.2.2 dX11_isSmall_35
    · have c_3 : (kd f).toInt = 6 := zc_eq rfl rfl c_3
      refine lv_aload_n hx hb dX11_isSmall_19 rfl (lv_at hl 0 rfl) ?_
      refine lv_iload_n hx hb dX11_isSmall_20 rfl (lv_at hl 1 rfl) ?_
      obtain ⟨hPc, hDc, hFc⟩ := zo_sub (wc := [_, _, _, _, _]) hP hD hS hA [0, 4, 5, 6, 7] (by decide +kernel) rfl
      refine zcall (st1 := [.long (jI ((Int.natAbs (ar2 (nN (mn f)) (cF40 cx f) (cF40 cy f) (nN (mn f))) : Nat) : Int))]) (va_runV (As := [.int (nI f)]) (rest := []) ⟨hx, hb, hml, hown, hts⟩ (k_M_area l dC dI cI cZ cF H.size k0 a I0 J0 f (nN (mn f)) mn cx cy S0 (by first | with_reducible assumption | omega) (by first | with_reducible assumption | assumption) (by first | with_reducible assumption | omega) (by first | with_reducible assumption | assumption)) (csV_218 hts rfl rfl ⟨Nat.le_of_ble_eq_true rfl, Nat.le_of_ble_eq_true rfl⟩) (zPV2 (q0 := 0) (ci := 9) hPc hDc hK hXN rfl rfl) rfl rfl hl.1 rfl (lv_room (Nat.le_of_ble_eq_true rfl)) dX11_isSmall_21 ⟨Nat.le_of_ble_eq_true rfl, Nat.le_of_ble_eq_true rfl⟩) hS hFc hFc rfl (fun t H locs ht hB hk1 hS => ?_)
      obtain ⟨q_4, hP1, hD1⟩ := hB
      rw [ht] at hP1
      obtain ⟨hP, hD⟩ := zn (W2 := [_, _, _, _, _, _, _, (oa (a 32) cI 8 q_4)]) hP hD hk1 hFc hP1 hD1 [0, 4, 5, 6, 7] [false, true, true, true] zl_230 [0, 4, 5, 6, 7] (by decide +kernel) rfl rfl rfl rfl rfl
      clear hk1 hPc hDc hFc hP1 hD1 ht
      refine zz_l (v := jI ((arF mn cx cy f : Nat) : Int)) (rfl) ?_
      refine lv_iload_n hx hb dX11_isSmall_24 rfl (lv_at hl 2 rfl) ?_
      refine lv_i2l (v := le9.toInt64) hx hb dX11_isSmall_25 (rfl) ?_
      refine zz_l (v := jI le9.toInt) (jI_of (i64 _)) ?_
      refine W.lcmp hx hb dX11_isSmall_26 ?_
      refine lv_if_ge (tgt := 34) hx hb dX11_isSmall_27 rfl (fun c_5 => ?_) (fun c_5 => ?_)
      · have c_5 : le9.toInt ≤ ((arF mn cx cy f : Nat) : Int) := zl_ge (jI_toInt (by omega)) (jI_toInt (by omega)) c_5
        refine lv_iconst (v := 0) hx hb dX11_isSmall_34 rfl ?_
        obtain ⟨hP9, hD9⟩ := zu_sub (wc := [_, _, _, _, _, _, _, _]) hP hD [true, true, true, true, true, true, true, true] rfl rfl
        rw [hQ9]
        exact W.zret (ty := .boolean) (v := 0) hx hb hr (rfl) (fun t ht hW => ⟨⟨congrArg (fun z => Outcome.returned (some (Value.int z))) (show (0 : Int32) = pI (smF ft st tn kd mn cx cy le9.toInt f) from (zp_f (by unfold smF; first | exact ⟨by assumption, by omega, by omega⟩ | exact fun h => absurd h.1 (by first | with_reducible assumption | assumption) | (intro h; have h1 := h.2.1; have h2 := h.2.2; omega))).symm), q_4, by rw [ht]; exact hP9, hD9⟩, hS.F ht⟩) hS.2.2 dX11_isSmall_35
      · have c_5 : ((arF mn cx cy f : Nat) : Int) < le9.toInt := zl_nge (jI_toInt (by omega)) (jI_toInt (by omega)) c_5
        refine lv_iconst (v := 1) hx hb dX11_isSmall_30 rfl ?_
        refine lv_goto (tgt := 35) hx hb dX11_isSmall_31 rfl ?_
        obtain ⟨hP9, hD9⟩ := zu_sub (wc := [_, _, _, _, _, _, _, _]) hP hD [true, true, true, true, true, true, true, true] rfl rfl
        rw [hQ9]
        exact W.zret (ty := .boolean) (v := 1) hx hb hr (rfl) (fun t ht hW => ⟨⟨congrArg (fun z => Outcome.returned (some (Value.int z))) (show (1 : Int32) = pI (smF ft st tn kd mn cx cy le9.toInt f) from (zp_t (by unfold smF; first | exact ⟨by assumption, by omega, by omega⟩ | exact fun h => absurd h.1 (by first | with_reducible assumption | assumption) | (intro h; have h1 := h.2.1; have h2 := h.2.2; omega))).symm), q_4, by rw [ht]; exact hP9, hD9⟩, hS.F ht⟩) hS.2.2 dX11_isSmall_35
set_option maxHeartbeats 4000000 in
set_option maxRecDepth 100000 in
theorem k_M_few_0 (l : Launch) (dC : Nat → ClassId) (dI : Nat → Nat → Nat) (cI cZ cF : ClassId) (sz : Nat) (k0 : Nat) (a : Nat → Nat) (I0 : Nat → Int32) (J0 : Nat → Int64) (le9 : Int32) (mv9 : Int32) (ft : Nat) (st : Nat → Int32) (tn : Nat → Int32) (kd : Nat → Int32) (mn : Nat → Int32) (cx : Nat → Int32) (cy : Nat → Int32) (S0 : Nat → Int32) (tw : Nat → Int32) (mk : Nat → Int32) (hft : I0 0 = nI ft) (h200 : ft ≤ 200) (hwf : ∀ q, lvF ft st tn q → wfM mn cx cy q) (hgood : 0 ≤ le9.toInt ∧ 0 ≤ mv9.toInt ∧ mv9.toInt ≤ 200) (hz : cntP (fun j => fwM ft st tn kd mn tw cx cy le9.toInt mv9.toInt j) ft = 0) : zM l yX11_few cX11_few 9 (some .int) ({ frames := 3, cells := 0, slots := 0, locals := 71 } : Room) [.ref k0, .int le9, .int mv9] (dC, dI) (zTy cI cZ cF) [(om k0 a I0 J0), (oa (a 5) cI 201 st), (oa (a 6) cZ 201 tn), (oa (a 1) cI 201 kd), (oa (a 11) cI 201 mn), (oa (a 12) cI 8040 cx), (oa (a 13) cI 8040 cy), (oa (a 32) cI 8 S0), (oa (a 4) cI 201 tw), (oa (a 50) cZ 201 mk)] sz (some (.int (-1))) (fun A t => ∃ (S1 : Nat → Int32), ∃ (mk1 : Nat → Int32), zPD (dC, dI) classes A [(om k0 a (upd (upd I0 14 8) 15 (I0 15)) J0), (oa (a 5) cI 201 st), (oa (a 6) cZ 201 tn), (oa (a 1) cI 201 kd), (oa (a 11) cI 201 mn), (oa (a 12) cI 8040 cx), (oa (a 13) cI 8040 cy), (oa (a 32) cI 8 S1), (oa (a 4) cI 201 tw), (oa (a 50) cZ 201 mk1)] t.heap) 0 0 := by
  refine zIn (own := "ScaleShopModel") (loc := [(0, .ref k0), (1, .int le9), (2, .int mv9)]) rfl rfl rfl rfl (fun p e s m below meth c hx hb hr hts hown hlocks hml hnm9 A hA hS hP hD hK hXN Q9 hQ9 ls hl => ?_)
  refine lv_iload_n hx hb dX11_few_0 rfl (lv_at hl 1 rfl) ?_
  refine lv_if_lt (tgt := 15) hx hb dX11_few_1 rfl (fun c_1 => ?_) (fun c_1 => ?_)
  · have c_1 : le9.toInt < 0 := zc_lt rfl rfl c_1
    exfalso; omega
  · have c_1 : 0 ≤ le9.toInt := zc_nlt rfl rfl c_1
    refine lv_iload_n hx hb dX11_few_4 rfl (lv_at hl 2 rfl) ?_
    refine lv_if_lt (tgt := 15) hx hb dX11_few_5 rfl (fun c_2 => ?_) (fun c_2 => ?_)
    · have c_2 : mv9.toInt < 0 := zc_lt rfl rfl c_2
      exfalso; omega
    · have c_2 : 0 ≤ mv9.toInt := zc_nlt rfl rfl c_2
      refine lv_iload_n hx hb dX11_few_8 rfl (lv_at hl 2 rfl) ?_
      refine lv_sipush (v := 200) hx hb dX11_few_9 rfl ?_
      refine lv_icmp_le (tgt := 21) hx hb dX11_few_12 rfl (fun c_3 => ?_) (fun c_3 => ?_)
      · have c_3 : mv9.toInt ≤ 200 := zc_le rfl rfl c_3
        refine lv_iconst (v := 0) hx hb dX11_few_21 rfl ?_
        refine lv_istore_n (lv' := [(3, .int 0), (0, .ref k0), (1, .int le9), (2, .int mv9)]) hx hb dX11_few_22 rfl hl (Nat.le_of_ble_eq_true rfl) rfl (fun ls hl => ?_)
        have hl_23 : ∀ (n9 : Nat) (q : Nat) (mk1 : Nat → Int32) (S1 : Nat → Int32) (H : Heap) (locs : List Loc) (ls : Array Slot), ft - q < n9 → (q ≤ ft) → (∀ j, j < q → mk1 j = pI (fwM ft st tn kd mn tw cx cy le9.toInt mv9.toInt j)) → va_P (dC, dI) classes [(om k0 a I0 J0), (oa (a 5) cI 201 st), (oa (a 6) cZ 201 tn), (oa (a 1) cI 201 kd), (oa (a 11) cI 201 mn), (oa (a 12) cI 8040 cx), (oa (a 13) cI 8040 cy), (oa (a 32) cI 8 S1), (oa (a 4) cI 201 tw), (oa (a 50) cZ 201 mk1)] H → va_D A [(om k0 a I0 J0), (oa (a 5) cI 201 st), (oa (a 6) cZ 201 tn), (oa (a 1) cI 201 kd), (oa (a 11) cI 201 mn), (oa (a 12) cI 8040 cx), (oa (a 13) cI 8040 cy), (oa (a 32) cI 8 S1), (oa (a 4) cI 201 tw), (oa (a 50) cZ 201 mk1)] → va_S A s.heap H locs → lv_has ls 9 [(3, .int (nI q)), (0, .ref k0), (1, .int le9), (2, .int mv9)] → W p l e ({ frames := 3, cells := 0, slots := 0, locals := 71 } : Room) s m ([.ref k0, .int le9, .int mv9] : List Value).toArray below meth c H locs 0 0 Q9 (F0 m 23 ls []) := by
          intro n9
          induction n9 with
          | zero => intro q mk1 S1 H locs ls hm; exact absurd hm (Nat.not_lt_zero _)
          | succ n9 ih_23 =>
            intro q mk1 S1 H locs ls hm hq hmk hP hD hS hl
            refine lv_iload_n hx hb dX11_few_23 rfl (lv_at hl 0 rfl) ?_
            refine lv_aload_n hx hb dX11_few_24 rfl (lv_at hl 1 rfl) ?_
            refine va_get (D := (dC, dI)) (ci := 9) (v := .int (I0 0)) (C := RX11) (T := TX11) (N := 55) hx hb hts inX11 hown hK hP 0 rfl rfl 0 (Nat.le_of_ble_eq_true rfl) (hts _ mw_1159) (fun _ h9 => h9) rfl dX11_few_25 ?_
            refine zz_i (v := nI ft) (hft) ?_
            have b9_5 : zlt (q) := show q < 2147483648 by omega
            have b9_6 : zlt (ft) := show ft < 2147483648 by omega
            refine lv_icmp_ge (tgt := 203) hx hb dX11_few_28 rfl (fun c_4 => ?_) (fun c_4 => ?_)
            · have c_4 : ((ft : Nat) : Int) ≤ ((q : Nat) : Int) := zc_le (nI_toInt b9_6) (nI_toInt b9_5) c_4
              refine lv_aload_n hx hb dX11_few_203 rfl (lv_at hl 1 rfl) ?_
              refine lv_bipush (v := 8) hx hb dX11_few_204 rfl ?_
              obtain ⟨hPc, hDc, hFc⟩ := zo_sub (wc := [_, _]) hP hD hS hA [0, 9] rfl rfl
              refine zcall (st1 := [.int (-1)]) (va_runV (As := [.int 8]) (rest := []) ⟨hx, hb, hml, hown, hts⟩ (k_M_dropMarked_r l dC dI cI cZ cF H.size k0 a I0 J0 8 ft mk1 (fun j => fwM ft st tn kd mn tw cx cy le9.toInt mv9.toInt j) (by first | with_reducible assumption | assumption) (by first | with_reducible assumption | omega) (fun j hj => hmk j (by first | with_reducible assumption | omega)) (hz)) (csV_219 hts rfl rfl ⟨Nat.le_of_ble_eq_true rfl, Nat.le_of_ble_eq_true rfl⟩) (zPV2 (q0 := 0) (ci := 9) hPc hDc hK hXN rfl rfl) rfl rfl hl.1 rfl (lv_room (Nat.le_of_ble_eq_true rfl)) dX11_few_206 ⟨Nat.le_of_ble_eq_true rfl, Nat.le_of_ble_eq_true rfl⟩) hS hFc hFc rfl (fun t H locs ht hB hk1 hS => ?_)
              obtain ⟨hP1, hD1⟩ := hB
              rw [ht] at hP1
              obtain ⟨hP, hD⟩ := zn (W2 := [(om k0 a (upd (upd I0 14 8) 15 (I0 15)) J0), _, _, _, _, _, _, _, _, _]) hP hD hk1 hFc hP1 hD1 [0, 9] zl_231 zl_232 [0, 9] (by decide +kernel) rfl rfl rfl rfl rfl
              clear hk1 hPc hDc hFc hP1 hD1 ht
              obtain ⟨hP9, hD9⟩ := zu_sub (wc := [_, _, _, _, _, _, _, _, _, _]) hP hD [true, true, true, true, true, true, true, true, true, true] rfl rfl
              rw [hQ9]
              exact W.iret (v := (-1)) hx hb hr (fun t ht hW => ⟨⟨rfl, S1, mk1, by rw [ht]; exact hP9, hD9⟩, hS.F ht⟩) hS.2.2 dX11_few_209
            · have c_4 : ((q : Nat) : Int) < ((ft : Nat) : Int) := zc_nle (nI_toInt b9_6) (nI_toInt b9_5) c_4
              refine lv_iconst (v := 0) hx hb dX11_few_31 rfl ?_
              refine lv_istore (lv' := [(4, .int 0), (3, .int (nI q)), (0, .ref k0), (1, .int le9), (2, .int mv9)]) hx hb dX11_few_32 hl (Nat.le_of_ble_eq_true rfl) rfl (fun ls hl => ?_)
              refine lv_iconst (v := 0) hx hb dX11_few_34 rfl ?_
              refine lv_istore (lv' := [(5, .int 0), (4, .int 0), (3, .int (nI q)), (0, .ref k0), (1, .int le9), (2, .int mv9)]) hx hb dX11_few_35 hl (Nat.le_of_ble_eq_true rfl) rfl (fun ls hl => ?_)
              have hl_37 : ∀ (n9 : Nat) (k : Nat) (S2 : Nat → Int32) (H : Heap) (locs : List Loc) (ls : Array Slot), ft - k < n9 → (k ≤ ft) → va_P (dC, dI) classes [(om k0 a I0 J0), (oa (a 5) cI 201 st), (oa (a 6) cZ 201 tn), (oa (a 1) cI 201 kd), (oa (a 11) cI 201 mn), (oa (a 12) cI 8040 cx), (oa (a 13) cI 8040 cy), (oa (a 32) cI 8 S2), (oa (a 4) cI 201 tw), (oa (a 50) cZ 201 mk1)] H → va_D A [(om k0 a I0 J0), (oa (a 5) cI 201 st), (oa (a 6) cZ 201 tn), (oa (a 1) cI 201 kd), (oa (a 11) cI 201 mn), (oa (a 12) cI 8040 cx), (oa (a 13) cI 8040 cy), (oa (a 32) cI 8 S2), (oa (a 4) cI 201 tw), (oa (a 50) cZ 201 mk1)] → va_S A s.heap H locs → lv_has ls 9 [(5, .int (nI k)), (4, .int (nI (cntP (gtF ft st tn kd mn tw cx cy q) k))), (3, .int (nI q)), (0, .ref k0), (1, .int le9), (2, .int mv9)] → W p l e ({ frames := 3, cells := 0, slots := 0, locals := 71 } : Room) s m ([.ref k0, .int le9, .int mv9] : List Value).toArray below meth c H locs 0 0 Q9 (F0 m 37 ls []) := by
                intro n9
                induction n9 with
                | zero => intro k S2 H locs ls hm; exact absurd hm (Nat.not_lt_zero _)
                | succ n9 ih_37 =>
                  intro k S2 H locs ls hm hk hP hD hS hl
                  have hcb := cntP_b (gtF ft st tn kd mn tw cx cy q) k
                  refine lv_iload hx hb dX11_few_37 (lv_at hl 0 rfl) ?_
                  refine lv_aload_n hx hb dX11_few_39 rfl (lv_at hl 3 rfl) ?_
                  refine va_get (D := (dC, dI)) (ci := 9) (v := .int (I0 0)) (C := RX11) (T := TX11) (N := 55) hx hb hts inX11 hown hK hP 0 rfl rfl 0 (Nat.le_of_ble_eq_true rfl) (hts _ mw_1159) (fun _ h9 => h9) rfl dX11_few_40 ?_
                  refine zz_i (v := nI ft) (hft) ?_
                  have b9_8 : zlt (k) := show k < 2147483648 by omega
                  refine lv_icmp_ge (tgt := 171) hx hb dX11_few_43 rfl (fun c_7 => ?_) (fun c_7 => ?_)
                  · have c_7 : ((ft : Nat) : Int) ≤ ((k : Nat) : Int) := zc_le (nI_toInt b9_6) (nI_toInt b9_8) c_7
                    refine lv_aload_n hx hb dX11_few_171 rfl (lv_at hl 3 rfl) ?_
                    refine va_get (D := (dC, dI)) (ci := 9) (v := .ref (a 50)) (C := RX11) (T := TX11) (N := 55) hx hb hts inX11 hown hK hP 0 rfl rfl 50 (Nat.le_of_ble_eq_true rfl) (hts _ mw_1209) (fun _ h9 => h9) rfl dX11_few_172 ?_
                    refine lv_iload_n hx hb dX11_few_175 rfl (lv_at hl 2 rfl) ?_
                    refine lv_aload_n hx hb dX11_few_176 rfl (lv_at hl 3 rfl) ?_
                    refine lv_iload_n hx hb dX11_few_177 rfl (lv_at hl 2 rfl) ?_
                    refine lv_iload_n hx hb dX11_few_178 rfl (lv_at hl 4 rfl) ?_
                    obtain ⟨hPc, hDc, hFc⟩ := zo_sub (wc := [_, _, _, _, _, _, _, _]) hP hD hS hA [0, 1, 2, 3, 4, 5, 6, 7] (by decide +kernel) rfl
                    refine zcall (st1 := [.int (pI (smF ft st tn kd mn cx cy le9.toInt q)), .int (nI q), .ref (a 50)]) (va_runV (As := [.int (nI q), .int le9]) (rest := [.int (nI q), .ref (a 50)]) ⟨hx, hb, hml, hown, hts⟩ (k_M_isSmall l dC dI cI cZ cF H.size k0 a I0 J0 q ft le9 st tn kd mn cx cy S2 (by first | with_reducible assumption | assumption) (by first | with_reducible assumption | omega) (by first | with_reducible assumption | omega) (by first | with_reducible assumption | assumption)) (csV_220 hts rfl rfl ⟨Nat.le_of_ble_eq_true rfl, Nat.le_of_ble_eq_true rfl⟩) (zPV2 (q0 := 0) (ci := 9) hPc hDc hK hXN rfl rfl) rfl rfl hl.1 rfl (lv_room (Nat.le_of_ble_eq_true rfl)) dX11_few_179 ⟨Nat.le_of_ble_eq_true rfl, Nat.le_of_ble_eq_true rfl⟩) hS hFc hFc rfl (fun t H locs ht hB hk1 hS => ?_)
                    obtain ⟨S6, hP1, hD1⟩ := hB
                    rw [ht] at hP1
                    obtain ⟨hP, hD⟩ := zn (W2 := [_, _, _, _, _, _, _, (oa (a 32) cI 8 S6), _, _]) hP hD hk1 hFc hP1 hD1 zl_157 zl_233 zl_233 zl_157 (by decide +kernel) rfl rfl rfl rfl rfl
                    clear hk1 hPc hDc hFc hP1 hD1 ht
                    refine lv_if_eq (tgt := 195) hx hb dX11_few_182 rfl (fun c_9 => ?_) (fun c_9 => ?_)
                    · have c_9 : ¬ (smF ft st tn kd mn cx cy le9.toInt q) := zp_0 c_9
                      refine lv_iconst (v := 0) hx hb dX11_few_195 rfl ?_
                      refine zz_i (v := pI (fwM ft st tn kd mn tw cx cy le9.toInt mv9.toInt q)) (by first | exact fw_s (by first | with_reducible assumption | assumption) | exact fw_t (k := k) (by first | with_reducible assumption | assumption) (by omega) (by omega) | exact fw_n (k := k) (by omega) (by omega) | (exfalso; have h1 : ¬ smF ft st tn kd mn cx cy le9.toInt q := (by first | with_reducible assumption | assumption); exact h1 (by first | with_reducible assumption | assumption))) ?_
                      have b9_10 : q < 201 := by omega
                      refine z_zast hx hb hK hP hD hS 9 1 rfl rfl (e := q) (x := pI (fwM ft st tn kd mn tw cx cy le9.toInt mv9.toInt q)) rfl b9_10 (Nat.le_of_ble_eq_true rfl) (zp_and _) dX11_few_196 (fun H locs hP hD hS => ?_)
                      obtain ⟨hP, hD⟩ := zre (W2 := [_, _, _, _, _, _, _, _, _, (oa (a 50) cZ 201 (upd mk1 q (pI (fwM ft st tn kd mn tw cx cy le9.toInt mv9.toInt q))))]) hP hD rfl
                      refine lv_iinc (v := nI (q + 1)) (lv' := [(3, .int (nI (q + 1))), (5, .int (nI k)), (4, .int (nI (cntP (gtF ft st tn kd mn tw cx cy q) k))), (0, .ref k0), (1, .int le9), (2, .int mv9)]) hx hb dX11_few_197 hl (k := 2) rfl (nI_add q 1) (Nat.le_of_ble_eq_true rfl) rfl (fun ls hl => ?_)
                      refine lv_goto (tgt := 23) hx hb dX11_few_200 rfl ?_
                      exact ih_23 (q + 1) (upd mk1 q (pI (fwM ft st tn kd mn tw cx cy le9.toInt mv9.toInt q))) S6 H locs ls (by first | with_reducible assumption | omega) (by first | with_reducible assumption | omega) (by intro j hj; rcases Nat.lt_or_ge j q with h | h; simp only [upd, if_neg (show j ≠ q by omega)]; exact hmk j h; rw [show j = q by omega]; simp only [upd, if_true]) hP hD hS (lv_sub hl [0, 3, 4, 5] rfl)
                    · have c_9 : smF ft st tn kd mn cx cy le9.toInt q := zp_1 c_9
                      refine lv_iload hx hb dX11_few_185 (lv_at hl 1 rfl) ?_
                      refine lv_iload_n hx hb dX11_few_187 rfl (lv_at hl 5 rfl) ?_
                      have b9_12 : zlt ((cntP (gtF ft st tn kd mn tw cx cy q) k)) := show (cntP (gtF ft st tn kd mn tw cx cy q) k) < 2147483648 by omega
                      refine lv_icmp_lt (tgt := 195) hx hb dX11_few_188 rfl (fun c_11 => ?_) (fun c_11 => ?_)
                      · have c_11 : ((cntP (gtF ft st tn kd mn tw cx cy q) k : Nat) : Int) < mv9.toInt := zc_lt (nI_toInt b9_12) rfl c_11
                        refine lv_iconst (v := 0) hx hb dX11_few_195 rfl ?_
                        refine zz_i (v := pI (fwM ft st tn kd mn tw cx cy le9.toInt mv9.toInt q)) (by first | exact fw_s (by first | with_reducible assumption | assumption) | exact fw_t (k := k) (by first | with_reducible assumption | assumption) (by omega) (by omega) | exact fw_n (k := k) (by omega) (by omega) | (exfalso; have h1 : ¬ smF ft st tn kd mn cx cy le9.toInt q := (by first | with_reducible assumption | assumption); exact h1 (by first | with_reducible assumption | assumption))) ?_
                        have b9_13 : q < 201 := by omega
                        refine z_zast hx hb hK hP hD hS 9 1 rfl rfl (e := q) (x := pI (fwM ft st tn kd mn tw cx cy le9.toInt mv9.toInt q)) rfl b9_13 (Nat.le_of_ble_eq_true rfl) (zp_and _) dX11_few_196 (fun H locs hP hD hS => ?_)
                        obtain ⟨hP, hD⟩ := zre (W2 := [_, _, _, _, _, _, _, _, _, (oa (a 50) cZ 201 (upd mk1 q (pI (fwM ft st tn kd mn tw cx cy le9.toInt mv9.toInt q))))]) hP hD rfl
                        refine lv_iinc (v := nI (q + 1)) (lv' := [(3, .int (nI (q + 1))), (5, .int (nI k)), (4, .int (nI (cntP (gtF ft st tn kd mn tw cx cy q) k))), (0, .ref k0), (1, .int le9), (2, .int mv9)]) hx hb dX11_few_197 hl (k := 2) rfl (nI_add q 1) (Nat.le_of_ble_eq_true rfl) rfl (fun ls hl => ?_)
                        refine lv_goto (tgt := 23) hx hb dX11_few_200 rfl ?_
                        exact ih_23 (q + 1) (upd mk1 q (pI (fwM ft st tn kd mn tw cx cy le9.toInt mv9.toInt q))) S6 H locs ls (by first | with_reducible assumption | omega) (by first | with_reducible assumption | omega) (by intro j hj; rcases Nat.lt_or_ge j q with h | h; simp only [upd, if_neg (show j ≠ q by omega)]; exact hmk j h; rw [show j = q by omega]; simp only [upd, if_true]) hP hD hS (lv_sub hl [0, 3, 4, 5] rfl)
                      · have c_11 : mv9.toInt ≤ ((cntP (gtF ft st tn kd mn tw cx cy q) k : Nat) : Int) := zc_nlt (nI_toInt b9_12) rfl c_11
                        refine lv_iconst (v := 1) hx hb dX11_few_191 rfl ?_
                        refine lv_goto (tgt := 196) hx hb dX11_few_192 rfl ?_
                        refine zz_i (v := pI (fwM ft st tn kd mn tw cx cy le9.toInt mv9.toInt q)) (by first | exact fw_s (by first | with_reducible assumption | assumption) | exact fw_t (k := k) (by first | with_reducible assumption | assumption) (by omega) (by omega) | exact fw_n (k := k) (by omega) (by omega) | (exfalso; have h1 : ¬ smF ft st tn kd mn cx cy le9.toInt q := (by first | with_reducible assumption | assumption); exact h1 (by first | with_reducible assumption | assumption))) ?_
                        have b9_14 : q < 201 := by omega
                        refine z_zast hx hb hK hP hD hS 9 1 rfl rfl (e := q) (x := pI (fwM ft st tn kd mn tw cx cy le9.toInt mv9.toInt q)) rfl b9_14 (Nat.le_of_ble_eq_true rfl) (zp_and _) dX11_few_196 (fun H locs hP hD hS => ?_)
                        obtain ⟨hP, hD⟩ := zre (W2 := [_, _, _, _, _, _, _, _, _, (oa (a 50) cZ 201 (upd mk1 q (pI (fwM ft st tn kd mn tw cx cy le9.toInt mv9.toInt q))))]) hP hD rfl
                        refine lv_iinc (v := nI (q + 1)) (lv' := [(3, .int (nI (q + 1))), (5, .int (nI k)), (4, .int (nI (cntP (gtF ft st tn kd mn tw cx cy q) k))), (0, .ref k0), (1, .int le9), (2, .int mv9)]) hx hb dX11_few_197 hl (k := 2) rfl (nI_add q 1) (Nat.le_of_ble_eq_true rfl) rfl (fun ls hl => ?_)
                        refine lv_goto (tgt := 23) hx hb dX11_few_200 rfl ?_
                        exact ih_23 (q + 1) (upd mk1 q (pI (fwM ft st tn kd mn tw cx cy le9.toInt mv9.toInt q))) S6 H locs ls (by first | with_reducible assumption | omega) (by first | with_reducible assumption | omega) (by intro j hj; rcases Nat.lt_or_ge j q with h | h; simp only [upd, if_neg (show j ≠ q by omega)]; exact hmk j h; rw [show j = q by omega]; simp only [upd, if_true]) hP hD hS (lv_sub hl [0, 3, 4, 5] rfl)
                  · have c_7 : ((k : Nat) : Int) < ((ft : Nat) : Int) := zc_nle (nI_toInt b9_6) (nI_toInt b9_8) c_7
                    refine lv_aload_n hx hb dX11_few_46 rfl (lv_at hl 3 rfl) ?_
                    refine lv_iload_n hx hb dX11_few_47 rfl (lv_at hl 2 rfl) ?_
                    refine lv_iload_n hx hb dX11_few_48 rfl (lv_at hl 4 rfl) ?_
                    obtain ⟨hPc, hDc, hFc⟩ := zo_sub (wc := [_, _, _, _, _, _, _, _]) hP hD hS hA [0, 1, 2, 3, 4, 5, 6, 7] (by decide +kernel) rfl
                    refine zcall (st1 := [.int (pI (smF ft st tn kd mn cx cy le9.toInt q))]) (va_runV (As := [.int (nI q), .int le9]) (rest := []) ⟨hx, hb, hml, hown, hts⟩ (k_M_isSmall l dC dI cI cZ cF H.size k0 a I0 J0 q ft le9 st tn kd mn cx cy S2 (by first | with_reducible assumption | assumption) (by first | with_reducible assumption | omega) (by first | with_reducible assumption | omega) (by first | with_reducible assumption | assumption)) (csV_220 hts rfl rfl ⟨Nat.le_of_ble_eq_true rfl, Nat.le_of_ble_eq_true rfl⟩) (zPV2 (q0 := 0) (ci := 9) hPc hDc hK hXN rfl rfl) rfl rfl hl.1 rfl (lv_room (Nat.le_of_ble_eq_true rfl)) dX11_few_49 ⟨Nat.le_of_ble_eq_true rfl, Nat.le_of_ble_eq_true rfl⟩) hS hFc hFc rfl (fun t H locs ht hB hk1 hS => ?_)
                    obtain ⟨S3, hP1, hD1⟩ := hB
                    rw [ht] at hP1
                    obtain ⟨hP, hD⟩ := zn (W2 := [_, _, _, _, _, _, _, (oa (a 32) cI 8 S3), _, _]) hP hD hk1 hFc hP1 hD1 zl_157 zl_233 zl_233 zl_157 (by decide +kernel) rfl rfl rfl rfl rfl
                    clear hk1 hPc hDc hFc hP1 hD1 ht
                    refine lv_if_eq (tgt := 171) hx hb dX11_few_52 rfl (fun c_15 => ?_) (fun c_15 => ?_)
                    · have c_15 : ¬ (smF ft st tn kd mn cx cy le9.toInt q) := zp_0 c_15
                      refine lv_aload_n hx hb dX11_few_171 rfl (lv_at hl 3 rfl) ?_
                      refine va_get (D := (dC, dI)) (ci := 9) (v := .ref (a 50)) (C := RX11) (T := TX11) (N := 55) hx hb hts inX11 hown hK hP 0 rfl rfl 50 (Nat.le_of_ble_eq_true rfl) (hts _ mw_1209) (fun _ h9 => h9) rfl dX11_few_172 ?_
                      refine lv_iload_n hx hb dX11_few_175 rfl (lv_at hl 2 rfl) ?_
                      refine lv_aload_n hx hb dX11_few_176 rfl (lv_at hl 3 rfl) ?_
                      refine lv_iload_n hx hb dX11_few_177 rfl (lv_at hl 2 rfl) ?_
                      refine lv_iload_n hx hb dX11_few_178 rfl (lv_at hl 4 rfl) ?_
                      obtain ⟨hPc, hDc, hFc⟩ := zo_sub (wc := [_, _, _, _, _, _, _, _]) hP hD hS hA [0, 1, 2, 3, 4, 5, 6, 7] (by decide +kernel) rfl
                      refine zcall (st1 := [.int (pI (smF ft st tn kd mn cx cy le9.toInt q)), .int (nI q), .ref (a 50)]) (va_runV (As := [.int (nI q), .int le9]) (rest := [.int (nI q), .ref (a 50)]) ⟨hx, hb, hml, hown, hts⟩ (k_M_isSmall l dC dI cI cZ cF H.size k0 a I0 J0 q ft le9 st tn kd mn cx cy S3 (by first | with_reducible assumption | assumption) (by first | with_reducible assumption | omega) (by first | with_reducible assumption | omega) (by first | with_reducible assumption | assumption)) (csV_220 hts rfl rfl ⟨Nat.le_of_ble_eq_true rfl, Nat.le_of_ble_eq_true rfl⟩) (zPV2 (q0 := 0) (ci := 9) hPc hDc hK hXN rfl rfl) rfl rfl hl.1 rfl (lv_room (Nat.le_of_ble_eq_true rfl)) dX11_few_179 ⟨Nat.le_of_ble_eq_true rfl, Nat.le_of_ble_eq_true rfl⟩) hS hFc hFc rfl (fun t H locs ht hB hk1 hS => ?_)
                      obtain ⟨S6, hP1, hD1⟩ := hB
                      rw [ht] at hP1
                      obtain ⟨hP, hD⟩ := zn (W2 := [_, _, _, _, _, _, _, (oa (a 32) cI 8 S6), _, _]) hP hD hk1 hFc hP1 hD1 zl_157 zl_233 zl_233 zl_157 (by decide +kernel) rfl rfl rfl rfl rfl
                      clear hk1 hPc hDc hFc hP1 hD1 ht
                      refine lv_if_eq (tgt := 195) hx hb dX11_few_182 rfl (fun c_16 => ?_) (fun c_16 => ?_)
                      · have c_16 : ¬ (smF ft st tn kd mn cx cy le9.toInt q) := zp_0 c_16
                        refine lv_iconst (v := 0) hx hb dX11_few_195 rfl ?_
                        refine zz_i (v := pI (fwM ft st tn kd mn tw cx cy le9.toInt mv9.toInt q)) (by first | exact fw_s (by first | with_reducible assumption | assumption) | exact fw_t (k := k) (by first | with_reducible assumption | assumption) (by omega) (by omega) | exact fw_n (k := k) (by omega) (by omega) | (exfalso; have h1 : ¬ smF ft st tn kd mn cx cy le9.toInt q := (by first | with_reducible assumption | assumption); exact h1 (by first | with_reducible assumption | assumption))) ?_
                        have b9_17 : q < 201 := by omega
                        refine z_zast hx hb hK hP hD hS 9 1 rfl rfl (e := q) (x := pI (fwM ft st tn kd mn tw cx cy le9.toInt mv9.toInt q)) rfl b9_17 (Nat.le_of_ble_eq_true rfl) (zp_and _) dX11_few_196 (fun H locs hP hD hS => ?_)
                        obtain ⟨hP, hD⟩ := zre (W2 := [_, _, _, _, _, _, _, _, _, (oa (a 50) cZ 201 (upd mk1 q (pI (fwM ft st tn kd mn tw cx cy le9.toInt mv9.toInt q))))]) hP hD rfl
                        refine lv_iinc (v := nI (q + 1)) (lv' := [(3, .int (nI (q + 1))), (5, .int (nI k)), (4, .int (nI (cntP (gtF ft st tn kd mn tw cx cy q) k))), (0, .ref k0), (1, .int le9), (2, .int mv9)]) hx hb dX11_few_197 hl (k := 2) rfl (nI_add q 1) (Nat.le_of_ble_eq_true rfl) rfl (fun ls hl => ?_)
                        refine lv_goto (tgt := 23) hx hb dX11_few_200 rfl ?_
                        exact ih_23 (q + 1) (upd mk1 q (pI (fwM ft st tn kd mn tw cx cy le9.toInt mv9.toInt q))) S6 H locs ls (by first | with_reducible assumption | omega) (by first | with_reducible assumption | omega) (by intro j hj; rcases Nat.lt_or_ge j q with h | h; simp only [upd, if_neg (show j ≠ q by omega)]; exact hmk j h; rw [show j = q by omega]; simp only [upd, if_true]) hP hD hS (lv_sub hl [0, 3, 4, 5] rfl)
                      · have c_16 : smF ft st tn kd mn cx cy le9.toInt q := zp_1 c_16
                        refine lv_iload hx hb dX11_few_185 (lv_at hl 1 rfl) ?_
                        refine lv_iload_n hx hb dX11_few_187 rfl (lv_at hl 5 rfl) ?_
                        have b9_19 : zlt ((cntP (gtF ft st tn kd mn tw cx cy q) k)) := show (cntP (gtF ft st tn kd mn tw cx cy q) k) < 2147483648 by omega
                        refine lv_icmp_lt (tgt := 195) hx hb dX11_few_188 rfl (fun c_18 => ?_) (fun c_18 => ?_)
                        · have c_18 : ((cntP (gtF ft st tn kd mn tw cx cy q) k : Nat) : Int) < mv9.toInt := zc_lt (nI_toInt b9_19) rfl c_18
                          refine lv_iconst (v := 0) hx hb dX11_few_195 rfl ?_
                          refine zz_i (v := pI (fwM ft st tn kd mn tw cx cy le9.toInt mv9.toInt q)) (by first | exact fw_s (by first | with_reducible assumption | assumption) | exact fw_t (k := k) (by first | with_reducible assumption | assumption) (by omega) (by omega) | exact fw_n (k := k) (by omega) (by omega) | (exfalso; have h1 : ¬ smF ft st tn kd mn cx cy le9.toInt q := (by first | with_reducible assumption | assumption); exact h1 (by first | with_reducible assumption | assumption))) ?_
                          have b9_20 : q < 201 := by omega
                          refine z_zast hx hb hK hP hD hS 9 1 rfl rfl (e := q) (x := pI (fwM ft st tn kd mn tw cx cy le9.toInt mv9.toInt q)) rfl b9_20 (Nat.le_of_ble_eq_true rfl) (zp_and _) dX11_few_196 (fun H locs hP hD hS => ?_)
                          obtain ⟨hP, hD⟩ := zre (W2 := [_, _, _, _, _, _, _, _, _, (oa (a 50) cZ 201 (upd mk1 q (pI (fwM ft st tn kd mn tw cx cy le9.toInt mv9.toInt q))))]) hP hD rfl
                          refine lv_iinc (v := nI (q + 1)) (lv' := [(3, .int (nI (q + 1))), (5, .int (nI k)), (4, .int (nI (cntP (gtF ft st tn kd mn tw cx cy q) k))), (0, .ref k0), (1, .int le9), (2, .int mv9)]) hx hb dX11_few_197 hl (k := 2) rfl (nI_add q 1) (Nat.le_of_ble_eq_true rfl) rfl (fun ls hl => ?_)
                          refine lv_goto (tgt := 23) hx hb dX11_few_200 rfl ?_
                          exact ih_23 (q + 1) (upd mk1 q (pI (fwM ft st tn kd mn tw cx cy le9.toInt mv9.toInt q))) S6 H locs ls (by first | with_reducible assumption | omega) (by first | with_reducible assumption | omega) (by intro j hj; rcases Nat.lt_or_ge j q with h | h; simp only [upd, if_neg (show j ≠ q by omega)]; exact hmk j h; rw [show j = q by omega]; simp only [upd, if_true]) hP hD hS (lv_sub hl [0, 3, 4, 5] rfl)
                        · have c_18 : mv9.toInt ≤ ((cntP (gtF ft st tn kd mn tw cx cy q) k : Nat) : Int) := zc_nlt (nI_toInt b9_19) rfl c_18
                          refine lv_iconst (v := 1) hx hb dX11_few_191 rfl ?_
                          refine lv_goto (tgt := 196) hx hb dX11_few_192 rfl ?_
                          refine zz_i (v := pI (fwM ft st tn kd mn tw cx cy le9.toInt mv9.toInt q)) (by first | exact fw_s (by first | with_reducible assumption | assumption) | exact fw_t (k := k) (by first | with_reducible assumption | assumption) (by omega) (by omega) | exact fw_n (k := k) (by omega) (by omega) | (exfalso; have h1 : ¬ smF ft st tn kd mn cx cy le9.toInt q := (by first | with_reducible assumption | assumption); exact h1 (by first | with_reducible assumption | assumption))) ?_
                          have b9_21 : q < 201 := by omega
                          refine z_zast hx hb hK hP hD hS 9 1 rfl rfl (e := q) (x := pI (fwM ft st tn kd mn tw cx cy le9.toInt mv9.toInt q)) rfl b9_21 (Nat.le_of_ble_eq_true rfl) (zp_and _) dX11_few_196 (fun H locs hP hD hS => ?_)
                          obtain ⟨hP, hD⟩ := zre (W2 := [_, _, _, _, _, _, _, _, _, (oa (a 50) cZ 201 (upd mk1 q (pI (fwM ft st tn kd mn tw cx cy le9.toInt mv9.toInt q))))]) hP hD rfl
                          refine lv_iinc (v := nI (q + 1)) (lv' := [(3, .int (nI (q + 1))), (5, .int (nI k)), (4, .int (nI (cntP (gtF ft st tn kd mn tw cx cy q) k))), (0, .ref k0), (1, .int le9), (2, .int mv9)]) hx hb dX11_few_197 hl (k := 2) rfl (nI_add q 1) (Nat.le_of_ble_eq_true rfl) rfl (fun ls hl => ?_)
                          refine lv_goto (tgt := 23) hx hb dX11_few_200 rfl ?_
                          exact ih_23 (q + 1) (upd mk1 q (pI (fwM ft st tn kd mn tw cx cy le9.toInt mv9.toInt q))) S6 H locs ls (by first | with_reducible assumption | omega) (by first | with_reducible assumption | omega) (by intro j hj; rcases Nat.lt_or_ge j q with h | h; simp only [upd, if_neg (show j ≠ q by omega)]; exact hmk j h; rw [show j = q by omega]; simp only [upd, if_true]) hP hD hS (lv_sub hl [0, 3, 4, 5] rfl)
                    · have c_15 : smF ft st tn kd mn cx cy le9.toInt q := zp_1 c_15
                      have hwq := hwf q (by have h9 : smF ft st tn kd mn cx cy le9.toInt q := (by first | with_reducible assumption | assumption); exact h9.1)
                      have hmq := hwq.1
                      have hnq := hwq.2.1
                      have hpq := hwq.2.2
                      have haq := arF_b hwq
                      refine lv_iload hx hb dX11_few_55 (lv_at hl 0 rfl) ?_
                      refine lv_iload_n hx hb dX11_few_57 rfl (lv_at hl 2 rfl) ?_
                      have b9_23 : zlt (q) := show q < 2147483648 by omega
                      refine lv_icmp_eq (tgt := 102) hx hb dX11_few_58 rfl (fun c_22 => ?_) (fun c_22 => ?_)
                      · have c_22 : ((k : Nat) : Int) = ((q : Nat) : Int) := zc_eq (nI_toInt b9_8) (nI_toInt b9_23) c_22
                        refine lv_iconst (v := 0) hx hb dX11_few_102 rfl ?_
                        refine lv_istore (lv' := [(6, .int 0), (5, .int (nI k)), (4, .int (nI (cntP (gtF ft st tn kd mn tw cx cy q) k))), (3, .int (nI q)), (0, .ref k0), (1, .int le9), (2, .int mv9)]) hx hb dX11_few_103 hl (Nat.le_of_ble_eq_true rfl) rfl (fun ls hl => ?_)
                        refine lv_iload hx hb dX11_few_105 (lv_at hl 0 rfl) ?_
                        refine lv_if_eq (tgt := 125) hx hb dX11_few_107 rfl (fun c_24 => ?_) (fun c_24 => ?_)
                        · refine lv_ldc2 hx hb hown (hts _ mw_1620) dX11_few_125 ?_
                          refine lv_lstore (lv' := [(7, .long (-1)), (6, .int 0), (5, .int (nI k)), (4, .int (nI (cntP (gtF ft st tn kd mn tw cx cy q) k))), (3, .int (nI q)), (0, .ref k0), (1, .int le9), (2, .int mv9)]) hx hb dX11_few_128 hl (Nat.le_of_ble_eq_true rfl) rfl (fun ls hl => ?_)
                          refine lv_iload hx hb dX11_few_130 (lv_at hl 3 rfl) ?_
                          refine lv_iload hx hb dX11_few_132 (lv_at hl 1 rfl) ?_
                          refine lv_if_eq (tgt := 161) hx hb dX11_few_134 rfl (fun c_25 => ?_) (fun c_25 => ?_)
                          · refine lv_iconst (v := 0) hx hb dX11_few_161 rfl ?_
                            refine lv_iadd hx hb dX11_few_162 ?_
                            refine zz_i (v := nI ((cntP (gtF ft st tn kd mn tw cx cy q) k) + 0)) (nI_add (cntP (gtF ft st tn kd mn tw cx cy q) k) 0) ?_
                            refine lv_istore (lv' := [(4, .int (nI ((cntP (gtF ft st tn kd mn tw cx cy q) k) + 0))), (7, .long (-1)), (6, .int 0), (5, .int (nI k)), (3, .int (nI q)), (0, .ref k0), (1, .int le9), (2, .int mv9)]) hx hb dX11_few_163 hl (Nat.le_of_ble_eq_true rfl) rfl (fun ls hl => ?_)
                            refine lv_iinc (v := nI (k + 1)) (lv' := [(5, .int (nI (k + 1))), (4, .int (nI ((cntP (gtF ft st tn kd mn tw cx cy q) k) + 0))), (7, .long (-1)), (6, .int 0), (3, .int (nI q)), (0, .ref k0), (1, .int le9), (2, .int mv9)]) hx hb dX11_few_165 hl (k := 3) rfl (nI_add k 1) (Nat.le_of_ble_eq_true rfl) rfl (fun ls hl => ?_)
                            refine lv_goto (tgt := 37) hx hb dX11_few_168 rfl ?_
                            have hl9 := lv_sub hl [0, 1, 4, 5, 6, 7] rfl
                            have e9_4 : nI (cntP (gtF ft st tn kd mn tw cx cy q) (k + 1)) = (nI ((cntP (gtF ft st tn kd mn tw cx cy q) k) + 0) : Int32) := by first | (rw [cntP_n (by unfold gtF; first | (intro h; exact absurd h.2.1 (by first | with_reducible assumption | assumption)) | (intro h; have h1 := h.1; have h2 := h.2.2.1; have h3 := h.2.2.2.1; have h4 := h.2.2.2.2; omega))]; first | done | rfl) | (rw [cntP_y (by unfold gtF; exact ⟨by omega, by assumption, by omega, by omega, by omega⟩)])
                            have hl9 : lv_has ls 9 [(5, .int (nI (k + 1))), (4, .int (nI (cntP (gtF ft st tn kd mn tw cx cy q) (k + 1)))), (3, .int (nI q)), (0, .ref k0), (1, .int le9), (2, .int mv9)] := by rw [e9_4]; exact hl9
                            exact ih_37 (k + 1) S3 H locs ls (by first | with_reducible assumption | omega) (by first | with_reducible assumption | omega) hP hD hS hl9
                          · exact absurd (by decide) c_25
                        · exact absurd (by decide) c_24
                      · have c_22 : ¬ ((k : Nat) : Int) = ((q : Nat) : Int) := zc_ne (nI_toInt b9_8) (nI_toInt b9_23) c_22
                        refine lv_aload_n hx hb dX11_few_61 rfl (lv_at hl 3 rfl) ?_
                        refine lv_iload hx hb dX11_few_62 (lv_at hl 0 rfl) ?_
                        obtain ⟨hPc, hDc, hFc, hI1⟩ := zi_sub (wc := [_, _, _]) hP hD hS hA [0, 1, 2] rfl rfl
                        refine zcall (st1 := [.int (pI (k < ft ∧ (st k).toInt = 1 ∧ (tn k).toInt = 0))]) (va_runV (As := [.int (nI k)]) (rest := []) ⟨hx, hb, hml, hown, hts⟩ (k_M_is_n l dC dI cI cZ cF H.size k0 a I0 J0 k ft st tn (by first | with_reducible assumption | assumption) (by first | with_reducible assumption | omega) (by first | with_reducible assumption | omega)) (csV_179 hts rfl rfl ⟨Nat.le_of_ble_eq_true rfl, Nat.le_of_ble_eq_true rfl⟩) (zPV2 (q0 := 0) (ci := 9) hPc hDc hK hXN rfl rfl) rfl rfl hl.1 rfl (lv_room (Nat.le_of_ble_eq_true rfl)) dX11_few_64 ⟨Nat.le_of_ble_eq_true rfl, Nat.le_of_ble_eq_true rfl⟩) hS hFc hFc rfl (fun t H locs ht hB hk1 hS => ?_)
                        obtain ⟨hP1, hD1⟩ := hB
                        rw [ht] at hP1
                        replace hP := z0 hP hD hk1 hP1 hI1
                        clear hk1 hPc hDc hFc hP1 hD1 ht hI1
                        refine lv_if_eq (tgt := 102) hx hb dX11_few_67 rfl (fun c_26 => ?_) (fun c_26 => ?_)
                        · have c_26 : ¬ (k < ft ∧ (st k).toInt = 1 ∧ (tn k).toInt = 0) := zp_0 c_26
                          refine lv_iconst (v := 0) hx hb dX11_few_102 rfl ?_
                          refine lv_istore (lv' := [(6, .int 0), (5, .int (nI k)), (4, .int (nI (cntP (gtF ft st tn kd mn tw cx cy q) k))), (3, .int (nI q)), (0, .ref k0), (1, .int le9), (2, .int mv9)]) hx hb dX11_few_103 hl (Nat.le_of_ble_eq_true rfl) rfl (fun ls hl => ?_)
                          refine lv_iload hx hb dX11_few_105 (lv_at hl 0 rfl) ?_
                          refine lv_if_eq (tgt := 125) hx hb dX11_few_107 rfl (fun c_27 => ?_) (fun c_27 => ?_)
                          · refine lv_ldc2 hx hb hown (hts _ mw_1620) dX11_few_125 ?_
                            refine lv_lstore (lv' := [(7, .long (-1)), (6, .int 0), (5, .int (nI k)), (4, .int (nI (cntP (gtF ft st tn kd mn tw cx cy q) k))), (3, .int (nI q)), (0, .ref k0), (1, .int le9), (2, .int mv9)]) hx hb dX11_few_128 hl (Nat.le_of_ble_eq_true rfl) rfl (fun ls hl => ?_)
                            refine lv_iload hx hb dX11_few_130 (lv_at hl 3 rfl) ?_
                            refine lv_iload hx hb dX11_few_132 (lv_at hl 1 rfl) ?_
                            refine lv_if_eq (tgt := 161) hx hb dX11_few_134 rfl (fun c_28 => ?_) (fun c_28 => ?_)
                            · refine lv_iconst (v := 0) hx hb dX11_few_161 rfl ?_
                              refine lv_iadd hx hb dX11_few_162 ?_
                              refine zz_i (v := nI ((cntP (gtF ft st tn kd mn tw cx cy q) k) + 0)) (nI_add (cntP (gtF ft st tn kd mn tw cx cy q) k) 0) ?_
                              refine lv_istore (lv' := [(4, .int (nI ((cntP (gtF ft st tn kd mn tw cx cy q) k) + 0))), (7, .long (-1)), (6, .int 0), (5, .int (nI k)), (3, .int (nI q)), (0, .ref k0), (1, .int le9), (2, .int mv9)]) hx hb dX11_few_163 hl (Nat.le_of_ble_eq_true rfl) rfl (fun ls hl => ?_)
                              refine lv_iinc (v := nI (k + 1)) (lv' := [(5, .int (nI (k + 1))), (4, .int (nI ((cntP (gtF ft st tn kd mn tw cx cy q) k) + 0))), (7, .long (-1)), (6, .int 0), (3, .int (nI q)), (0, .ref k0), (1, .int le9), (2, .int mv9)]) hx hb dX11_few_165 hl (k := 3) rfl (nI_add k 1) (Nat.le_of_ble_eq_true rfl) rfl (fun ls hl => ?_)
                              refine lv_goto (tgt := 37) hx hb dX11_few_168 rfl ?_
                              have hl9 := lv_sub hl [0, 1, 4, 5, 6, 7] rfl
                              have e9_4 : nI (cntP (gtF ft st tn kd mn tw cx cy q) (k + 1)) = (nI ((cntP (gtF ft st tn kd mn tw cx cy q) k) + 0) : Int32) := by first | (rw [cntP_n (by unfold gtF; first | (intro h; exact absurd h.2.1 (by first | with_reducible assumption | assumption)) | (intro h; have h1 := h.1; have h2 := h.2.2.1; have h3 := h.2.2.2.1; have h4 := h.2.2.2.2; omega))]; first | done | rfl) | (rw [cntP_y (by unfold gtF; exact ⟨by omega, by assumption, by omega, by omega, by omega⟩)])
                              have hl9 : lv_has ls 9 [(5, .int (nI (k + 1))), (4, .int (nI (cntP (gtF ft st tn kd mn tw cx cy q) (k + 1)))), (3, .int (nI q)), (0, .ref k0), (1, .int le9), (2, .int mv9)] := by rw [e9_4]; exact hl9
                              exact ih_37 (k + 1) S3 H locs ls (by first | with_reducible assumption | omega) (by first | with_reducible assumption | omega) hP hD hS hl9
                            · exact absurd (by decide) c_28
                          · exact absurd (by decide) c_27
                        · have c_26 : k < ft ∧ (st k).toInt = 1 ∧ (tn k).toInt = 0 := zp_1 c_26
                          have hwk := hwf k (by first | with_reducible assumption | assumption)
                          have hmk9 := hwk.1
                          have hnk := hwk.2.1
                          have hpk := hwk.2.2
                          have hak := arF_b hwk
                          refine lv_aload_n hx hb dX11_few_70 rfl (lv_at hl 3 rfl) ?_
                          refine va_get (D := (dC, dI)) (ci := 9) (v := .ref (a 1)) (C := RX11) (T := TX11) (N := 55) hx hb hts inX11 hown hK hP 0 rfl rfl 1 (Nat.le_of_ble_eq_true rfl) (hts _ mw_1160) (fun _ h9 => h9) rfl dX11_few_71 ?_
                          refine lv_iload hx hb dX11_few_74 (lv_at hl 0 rfl) ?_
                          have b9_29 : k < 201 := by omega
                          refine z_iald hx hb hK hP 3 0 rfl rfl (e := k) rfl b9_29 (Nat.le_of_ble_eq_true rfl) dX11_few_76 ?_
                          refine lv_bipush (v := 6) hx hb dX11_few_77 rfl ?_
                          refine lv_icmp_ne (tgt := 102) hx hb dX11_few_79 rfl (fun c_30 => ?_) (fun c_30 => ?_)
                          · have c_30 : ¬ (kd k).toInt = 6 := zc_ne rfl rfl c_30
                            refine lv_iconst (v := 0) hx hb dX11_few_102 rfl ?_
                            refine lv_istore (lv' := [(6, .int 0), (5, .int (nI k)), (4, .int (nI (cntP (gtF ft st tn kd mn tw cx cy q) k))), (3, .int (nI q)), (0, .ref k0), (1, .int le9), (2, .int mv9)]) hx hb dX11_few_103 hl (Nat.le_of_ble_eq_true rfl) rfl (fun ls hl => ?_)
                            refine lv_iload hx hb dX11_few_105 (lv_at hl 0 rfl) ?_
                            refine lv_if_eq (tgt := 125) hx hb dX11_few_107 rfl (fun c_31 => ?_) (fun c_31 => ?_)
                            · refine lv_ldc2 hx hb hown (hts _ mw_1620) dX11_few_125 ?_
                              refine lv_lstore (lv' := [(7, .long (-1)), (6, .int 0), (5, .int (nI k)), (4, .int (nI (cntP (gtF ft st tn kd mn tw cx cy q) k))), (3, .int (nI q)), (0, .ref k0), (1, .int le9), (2, .int mv9)]) hx hb dX11_few_128 hl (Nat.le_of_ble_eq_true rfl) rfl (fun ls hl => ?_)
                              refine lv_iload hx hb dX11_few_130 (lv_at hl 3 rfl) ?_
                              refine lv_iload hx hb dX11_few_132 (lv_at hl 1 rfl) ?_
                              refine lv_if_eq (tgt := 161) hx hb dX11_few_134 rfl (fun c_32 => ?_) (fun c_32 => ?_)
                              · refine lv_iconst (v := 0) hx hb dX11_few_161 rfl ?_
                                refine lv_iadd hx hb dX11_few_162 ?_
                                refine zz_i (v := nI ((cntP (gtF ft st tn kd mn tw cx cy q) k) + 0)) (nI_add (cntP (gtF ft st tn kd mn tw cx cy q) k) 0) ?_
                                refine lv_istore (lv' := [(4, .int (nI ((cntP (gtF ft st tn kd mn tw cx cy q) k) + 0))), (7, .long (-1)), (6, .int 0), (5, .int (nI k)), (3, .int (nI q)), (0, .ref k0), (1, .int le9), (2, .int mv9)]) hx hb dX11_few_163 hl (Nat.le_of_ble_eq_true rfl) rfl (fun ls hl => ?_)
                                refine lv_iinc (v := nI (k + 1)) (lv' := [(5, .int (nI (k + 1))), (4, .int (nI ((cntP (gtF ft st tn kd mn tw cx cy q) k) + 0))), (7, .long (-1)), (6, .int 0), (3, .int (nI q)), (0, .ref k0), (1, .int le9), (2, .int mv9)]) hx hb dX11_few_165 hl (k := 3) rfl (nI_add k 1) (Nat.le_of_ble_eq_true rfl) rfl (fun ls hl => ?_)
                                refine lv_goto (tgt := 37) hx hb dX11_few_168 rfl ?_
                                have hl9 := lv_sub hl [0, 1, 4, 5, 6, 7] rfl
                                have e9_4 : nI (cntP (gtF ft st tn kd mn tw cx cy q) (k + 1)) = (nI ((cntP (gtF ft st tn kd mn tw cx cy q) k) + 0) : Int32) := by first | (rw [cntP_n (by unfold gtF; first | (intro h; exact absurd h.2.1 (by first | with_reducible assumption | assumption)) | (intro h; have h1 := h.1; have h2 := h.2.2.1; have h3 := h.2.2.2.1; have h4 := h.2.2.2.2; omega))]; first | done | rfl) | (rw [cntP_y (by unfold gtF; exact ⟨by omega, by assumption, by omega, by omega, by omega⟩)])
                                have hl9 : lv_has ls 9 [(5, .int (nI (k + 1))), (4, .int (nI (cntP (gtF ft st tn kd mn tw cx cy q) (k + 1)))), (3, .int (nI q)), (0, .ref k0), (1, .int le9), (2, .int mv9)] := by rw [e9_4]; exact hl9
                                exact ih_37 (k + 1) S3 H locs ls (by first | with_reducible assumption | omega) (by first | with_reducible assumption | omega) hP hD hS hl9
                              · exact absurd (by decide) c_32
                            · exact absurd (by decide) c_31
                          · have c_30 : (kd k).toInt = 6 := zc_eq rfl rfl c_30
                            refine lv_aload_n hx hb dX11_few_82 rfl (lv_at hl 3 rfl) ?_
                            refine va_get (D := (dC, dI)) (ci := 9) (v := .ref (a 4)) (C := RX11) (T := TX11) (N := 55) hx hb hts inX11 hown hK hP 0 rfl rfl 4 (Nat.le_of_ble_eq_true rfl) (hts _ mw_1163) (fun _ h9 => h9) rfl dX11_few_83 ?_
                            refine lv_iload hx hb dX11_few_86 (lv_at hl 0 rfl) ?_
                            refine z_iald hx hb hK hP 8 0 rfl rfl (e := k) rfl b9_29 (Nat.le_of_ble_eq_true rfl) dX11_few_88 ?_
                            refine lv_aload_n hx hb dX11_few_89 rfl (lv_at hl 3 rfl) ?_
                            refine va_get (D := (dC, dI)) (ci := 9) (v := .ref (a 4)) (C := RX11) (T := TX11) (N := 55) hx hb hts inX11 hown hK hP 0 rfl rfl 4 (Nat.le_of_ble_eq_true rfl) (hts _ mw_1163) (fun _ h9 => h9) rfl dX11_few_90 ?_
                            refine lv_iload_n hx hb dX11_few_93 rfl (lv_at hl 2 rfl) ?_
                            have b9_33 : q < 201 := by omega
                            refine z_iald hx hb hK hP 8 0 rfl rfl (e := q) rfl b9_33 (Nat.le_of_ble_eq_true rfl) dX11_few_94 ?_
                            refine lv_icmp_ne (tgt := 102) hx hb dX11_few_95 rfl (fun c_34 => ?_) (fun c_34 => ?_)
                            · have c_34 : ¬ (tw k).toInt = (tw q).toInt := zc_ne rfl rfl c_34
                              refine lv_iconst (v := 0) hx hb dX11_few_102 rfl ?_
                              refine lv_istore (lv' := [(6, .int 0), (5, .int (nI k)), (4, .int (nI (cntP (gtF ft st tn kd mn tw cx cy q) k))), (3, .int (nI q)), (0, .ref k0), (1, .int le9), (2, .int mv9)]) hx hb dX11_few_103 hl (Nat.le_of_ble_eq_true rfl) rfl (fun ls hl => ?_)
                              refine lv_iload hx hb dX11_few_105 (lv_at hl 0 rfl) ?_
                              refine lv_if_eq (tgt := 125) hx hb dX11_few_107 rfl (fun c_35 => ?_) (fun c_35 => ?_)
                              · refine lv_ldc2 hx hb hown (hts _ mw_1620) dX11_few_125 ?_
                                refine lv_lstore (lv' := [(7, .long (-1)), (6, .int 0), (5, .int (nI k)), (4, .int (nI (cntP (gtF ft st tn kd mn tw cx cy q) k))), (3, .int (nI q)), (0, .ref k0), (1, .int le9), (2, .int mv9)]) hx hb dX11_few_128 hl (Nat.le_of_ble_eq_true rfl) rfl (fun ls hl => ?_)
                                refine lv_iload hx hb dX11_few_130 (lv_at hl 3 rfl) ?_
                                refine lv_iload hx hb dX11_few_132 (lv_at hl 1 rfl) ?_
                                refine lv_if_eq (tgt := 161) hx hb dX11_few_134 rfl (fun c_36 => ?_) (fun c_36 => ?_)
                                · refine lv_iconst (v := 0) hx hb dX11_few_161 rfl ?_
                                  refine lv_iadd hx hb dX11_few_162 ?_
                                  refine zz_i (v := nI ((cntP (gtF ft st tn kd mn tw cx cy q) k) + 0)) (nI_add (cntP (gtF ft st tn kd mn tw cx cy q) k) 0) ?_
                                  refine lv_istore (lv' := [(4, .int (nI ((cntP (gtF ft st tn kd mn tw cx cy q) k) + 0))), (7, .long (-1)), (6, .int 0), (5, .int (nI k)), (3, .int (nI q)), (0, .ref k0), (1, .int le9), (2, .int mv9)]) hx hb dX11_few_163 hl (Nat.le_of_ble_eq_true rfl) rfl (fun ls hl => ?_)
                                  refine lv_iinc (v := nI (k + 1)) (lv' := [(5, .int (nI (k + 1))), (4, .int (nI ((cntP (gtF ft st tn kd mn tw cx cy q) k) + 0))), (7, .long (-1)), (6, .int 0), (3, .int (nI q)), (0, .ref k0), (1, .int le9), (2, .int mv9)]) hx hb dX11_few_165 hl (k := 3) rfl (nI_add k 1) (Nat.le_of_ble_eq_true rfl) rfl (fun ls hl => ?_)
                                  refine lv_goto (tgt := 37) hx hb dX11_few_168 rfl ?_
                                  have hl9 := lv_sub hl [0, 1, 4, 5, 6, 7] rfl
                                  have e9_4 : nI (cntP (gtF ft st tn kd mn tw cx cy q) (k + 1)) = (nI ((cntP (gtF ft st tn kd mn tw cx cy q) k) + 0) : Int32) := by first | (rw [cntP_n (by unfold gtF; first | (intro h; exact absurd h.2.1 (by first | with_reducible assumption | assumption)) | (intro h; have h1 := h.1; have h2 := h.2.2.1; have h3 := h.2.2.2.1; have h4 := h.2.2.2.2; omega))]; first | done | rfl) | (rw [cntP_y (by unfold gtF; exact ⟨by omega, by assumption, by omega, by omega, by omega⟩)])
                                  have hl9 : lv_has ls 9 [(5, .int (nI (k + 1))), (4, .int (nI (cntP (gtF ft st tn kd mn tw cx cy q) (k + 1)))), (3, .int (nI q)), (0, .ref k0), (1, .int le9), (2, .int mv9)] := by rw [e9_4]; exact hl9
                                  exact ih_37 (k + 1) S3 H locs ls (by first | with_reducible assumption | omega) (by first | with_reducible assumption | omega) hP hD hS hl9
                                · exact absurd (by decide) c_36
                              · exact absurd (by decide) c_35
                            · have c_34 : (tw k).toInt = (tw q).toInt := zc_eq rfl rfl c_34
                              refine lv_iconst (v := 1) hx hb dX11_few_98 rfl ?_
                              refine lv_goto (tgt := 103) hx hb dX11_few_99 rfl ?_
                              refine lv_istore (lv' := [(6, .int 1), (5, .int (nI k)), (4, .int (nI (cntP (gtF ft st tn kd mn tw cx cy q) k))), (3, .int (nI q)), (0, .ref k0), (1, .int le9), (2, .int mv9)]) hx hb dX11_few_103 hl (Nat.le_of_ble_eq_true rfl) rfl (fun ls hl => ?_)
                              refine lv_iload hx hb dX11_few_105 (lv_at hl 0 rfl) ?_
                              refine lv_if_eq (tgt := 125) hx hb dX11_few_107 rfl (fun c_37 => ?_) (fun c_37 => ?_)
                              · exact absurd c_37 (by decide)
                              · refine lv_aload_n hx hb dX11_few_110 rfl (lv_at hl 4 rfl) ?_
                                refine lv_iload hx hb dX11_few_111 (lv_at hl 1 rfl) ?_
                                obtain ⟨hPc, hDc, hFc⟩ := zo_sub (wc := [_, _, _, _, _]) hP hD hS hA [0, 4, 5, 6, 7] (by decide +kernel) rfl
                                refine zcall (st1 := [.long (jI ((Int.natAbs (ar2 (nN (mn k)) (cF40 cx k) (cF40 cy k) (nN (mn k))) : Nat) : Int))]) (va_runV (As := [.int (nI k)]) (rest := []) ⟨hx, hb, hml, hown, hts⟩ (k_M_area l dC dI cI cZ cF H.size k0 a I0 J0 k (nN (mn k)) mn cx cy S3 (by first | with_reducible assumption | omega) (by first | with_reducible assumption | assumption) (by first | with_reducible assumption | omega) (by first | with_reducible assumption | assumption)) (csV_218 hts rfl rfl ⟨Nat.le_of_ble_eq_true rfl, Nat.le_of_ble_eq_true rfl⟩) (zPV2 (q0 := 0) (ci := 9) hPc hDc hK hXN rfl rfl) rfl rfl hl.1 rfl (lv_room (Nat.le_of_ble_eq_true rfl)) dX11_few_113 ⟨Nat.le_of_ble_eq_true rfl, Nat.le_of_ble_eq_true rfl⟩) hS hFc hFc rfl (fun t H locs ht hB hk1 hS => ?_)
                                obtain ⟨S4, hP1, hD1⟩ := hB
                                rw [ht] at hP1
                                obtain ⟨hP, hD⟩ := zn (W2 := [_, _, _, _, _, _, _, (oa (a 32) cI 8 S4), _, _]) hP hD hk1 hFc hP1 hD1 [0, 4, 5, 6, 7] zl_234 zl_234 [0, 4, 5, 6, 7] (by decide +kernel) rfl rfl rfl rfl rfl
                                clear hk1 hPc hDc hFc hP1 hD1 ht
                                refine zz_l (v := jI ((arF mn cx cy k : Nat) : Int)) (rfl) ?_
                                refine lv_aload_n hx hb dX11_few_116 rfl (lv_at hl 4 rfl) ?_
                                refine lv_iload_n hx hb dX11_few_117 rfl (lv_at hl 3 rfl) ?_
                                obtain ⟨hPc, hDc, hFc⟩ := zo_sub (wc := [_, _, _, _, _]) hP hD hS hA [0, 4, 5, 6, 7] (by decide +kernel) rfl
                                refine zcall (st1 := [.long (jI ((Int.natAbs (ar2 (nN (mn q)) (cF40 cx q) (cF40 cy q) (nN (mn q))) : Nat) : Int)), .long (jI ((arF mn cx cy k : Nat) : Int))]) (va_runV (As := [.int (nI q)]) (rest := [.long (jI ((arF mn cx cy k : Nat) : Int))]) ⟨hx, hb, hml, hown, hts⟩ (k_M_area l dC dI cI cZ cF H.size k0 a I0 J0 q (nN (mn q)) mn cx cy S4 (by first | with_reducible assumption | omega) (by first | with_reducible assumption | assumption) (by first | with_reducible assumption | omega) (by first | with_reducible assumption | assumption)) (csV_218 hts rfl rfl ⟨Nat.le_of_ble_eq_true rfl, Nat.le_of_ble_eq_true rfl⟩) (zPV2 (q0 := 0) (ci := 9) hPc hDc hK hXN rfl rfl) rfl rfl hl.1 rfl (lv_room (Nat.le_of_ble_eq_true rfl)) dX11_few_118 ⟨Nat.le_of_ble_eq_true rfl, Nat.le_of_ble_eq_true rfl⟩) hS hFc hFc rfl (fun t H locs ht hB hk1 hS => ?_)
                                obtain ⟨S5, hP1, hD1⟩ := hB
                                rw [ht] at hP1
                                obtain ⟨hP, hD⟩ := zn (W2 := [_, _, _, _, _, _, _, (oa (a 32) cI 8 S5), _, _]) hP hD hk1 hFc hP1 hD1 [0, 4, 5, 6, 7] zl_234 zl_234 [0, 4, 5, 6, 7] (by decide +kernel) rfl rfl rfl rfl rfl
                                clear hk1 hPc hDc hFc hP1 hD1 ht
                                refine zz_l (v := jI ((arF mn cx cy q : Nat) : Int)) (rfl) ?_
                                refine lv_lsub hx hb dX11_few_121 ?_
                                refine zz_l (v := jI (((arF mn cx cy k : Nat) : Int) - ((arF mn cx cy q : Nat) : Int))) (jI_sub (by omega) (by omega)) ?_
                                refine lv_goto (tgt := 128) hx hb dX11_few_122 rfl ?_
                                refine lv_lstore (lv' := [(7, .long (jI (((arF mn cx cy k : Nat) : Int) - ((arF mn cx cy q : Nat) : Int)))), (6, .int 1), (5, .int (nI k)), (4, .int (nI (cntP (gtF ft st tn kd mn tw cx cy q) k))), (3, .int (nI q)), (0, .ref k0), (1, .int le9), (2, .int mv9)]) hx hb dX11_few_128 hl (Nat.le_of_ble_eq_true rfl) rfl (fun ls hl => ?_)
                                refine lv_iload hx hb dX11_few_130 (lv_at hl 3 rfl) ?_
                                refine lv_iload hx hb dX11_few_132 (lv_at hl 1 rfl) ?_
                                refine lv_if_eq (tgt := 161) hx hb dX11_few_134 rfl (fun c_38 => ?_) (fun c_38 => ?_)
                                · exact absurd c_38 (by decide)
                                · refine lv_lload hx hb dX11_few_137 (lv_at hl 0 rfl) ?_
                                  refine lv_lconst (v := 0) hx hb dX11_few_139 rfl ?_
                                  refine W.lcmp hx hb dX11_few_140 ?_
                                  refine lv_if_gt (tgt := 157) hx hb dX11_few_141 rfl (fun c_39 => ?_) (fun c_39 => ?_)
                                  · have c_39 : 0 < (((arF mn cx cy k : Nat) : Int) - ((arF mn cx cy q : Nat) : Int)) := zl_gt (jI_toInt (by omega)) rfl c_39
                                    refine lv_iconst (v := 1) hx hb dX11_few_157 rfl ?_
                                    refine lv_goto (tgt := 162) hx hb dX11_few_158 rfl ?_
                                    refine lv_iadd hx hb dX11_few_162 ?_
                                    refine zz_i (v := nI ((cntP (gtF ft st tn kd mn tw cx cy q) k) + 1)) (nI_add (cntP (gtF ft st tn kd mn tw cx cy q) k) 1) ?_
                                    refine lv_istore (lv' := [(4, .int (nI ((cntP (gtF ft st tn kd mn tw cx cy q) k) + 1))), (7, .long (jI (((arF mn cx cy k : Nat) : Int) - ((arF mn cx cy q : Nat) : Int)))), (6, .int 1), (5, .int (nI k)), (3, .int (nI q)), (0, .ref k0), (1, .int le9), (2, .int mv9)]) hx hb dX11_few_163 hl (Nat.le_of_ble_eq_true rfl) rfl (fun ls hl => ?_)
                                    refine lv_iinc (v := nI (k + 1)) (lv' := [(5, .int (nI (k + 1))), (4, .int (nI ((cntP (gtF ft st tn kd mn tw cx cy q) k) + 1))), (7, .long (jI (((arF mn cx cy k : Nat) : Int) - ((arF mn cx cy q : Nat) : Int)))), (6, .int 1), (3, .int (nI q)), (0, .ref k0), (1, .int le9), (2, .int mv9)]) hx hb dX11_few_165 hl (k := 3) rfl (nI_add k 1) (Nat.le_of_ble_eq_true rfl) rfl (fun ls hl => ?_)
                                    refine lv_goto (tgt := 37) hx hb dX11_few_168 rfl ?_
                                    have hl9 := lv_sub hl [0, 1, 4, 5, 6, 7] rfl
                                    have e9_4 : nI (cntP (gtF ft st tn kd mn tw cx cy q) (k + 1)) = (nI ((cntP (gtF ft st tn kd mn tw cx cy q) k) + 1) : Int32) := by first | (rw [cntP_n (by unfold gtF; first | (intro h; exact absurd h.2.1 (by first | with_reducible assumption | assumption)) | (intro h; have h1 := h.1; have h2 := h.2.2.1; have h3 := h.2.2.2.1; have h4 := h.2.2.2.2; omega))]; first | done | rfl) | (rw [cntP_y (by unfold gtF; exact ⟨by omega, by assumption, by omega, by omega, by omega⟩)])
                                    have hl9 : lv_has ls 9 [(5, .int (nI (k + 1))), (4, .int (nI (cntP (gtF ft st tn kd mn tw cx cy q) (k + 1)))), (3, .int (nI q)), (0, .ref k0), (1, .int le9), (2, .int mv9)] := by rw [e9_4]; exact hl9
                                    exact ih_37 (k + 1) S5 H locs ls (by first | with_reducible assumption | omega) (by first | with_reducible assumption | omega) hP hD hS hl9
                                  · have c_39 : (((arF mn cx cy k : Nat) : Int) - ((arF mn cx cy q : Nat) : Int)) ≤ 0 := zl_ngt (jI_toInt (by omega)) rfl c_39
                                    refine lv_lload hx hb dX11_few_144 (lv_at hl 0 rfl) ?_
                                    refine lv_lconst (v := 0) hx hb dX11_few_146 rfl ?_
                                    refine W.lcmp hx hb dX11_few_147 ?_
                                    refine lv_if_ne (tgt := 161) hx hb dX11_few_148 rfl (fun c_40 => ?_) (fun c_40 => ?_)
                                    · have c_40 : ¬ (((arF mn cx cy k : Nat) : Int) - ((arF mn cx cy q : Nat) : Int)) = 0 := zl_ne (jI_toInt (by omega)) rfl c_40
                                      refine lv_iconst (v := 0) hx hb dX11_few_161 rfl ?_
                                      refine lv_iadd hx hb dX11_few_162 ?_
                                      refine zz_i (v := nI ((cntP (gtF ft st tn kd mn tw cx cy q) k) + 0)) (nI_add (cntP (gtF ft st tn kd mn tw cx cy q) k) 0) ?_
                                      refine lv_istore (lv' := [(4, .int (nI ((cntP (gtF ft st tn kd mn tw cx cy q) k) + 0))), (7, .long (jI (((arF mn cx cy k : Nat) : Int) - ((arF mn cx cy q : Nat) : Int)))), (6, .int 1), (5, .int (nI k)), (3, .int (nI q)), (0, .ref k0), (1, .int le9), (2, .int mv9)]) hx hb dX11_few_163 hl (Nat.le_of_ble_eq_true rfl) rfl (fun ls hl => ?_)
                                      refine lv_iinc (v := nI (k + 1)) (lv' := [(5, .int (nI (k + 1))), (4, .int (nI ((cntP (gtF ft st tn kd mn tw cx cy q) k) + 0))), (7, .long (jI (((arF mn cx cy k : Nat) : Int) - ((arF mn cx cy q : Nat) : Int)))), (6, .int 1), (3, .int (nI q)), (0, .ref k0), (1, .int le9), (2, .int mv9)]) hx hb dX11_few_165 hl (k := 3) rfl (nI_add k 1) (Nat.le_of_ble_eq_true rfl) rfl (fun ls hl => ?_)
                                      refine lv_goto (tgt := 37) hx hb dX11_few_168 rfl ?_
                                      have hl9 := lv_sub hl [0, 1, 4, 5, 6, 7] rfl
                                      have e9_4 : nI (cntP (gtF ft st tn kd mn tw cx cy q) (k + 1)) = (nI ((cntP (gtF ft st tn kd mn tw cx cy q) k) + 0) : Int32) := by first | (rw [cntP_n (by unfold gtF; first | (intro h; exact absurd h.2.1 (by first | with_reducible assumption | assumption)) | (intro h; have h1 := h.1; have h2 := h.2.2.1; have h3 := h.2.2.2.1; have h4 := h.2.2.2.2; omega))]; first | done | rfl) | (rw [cntP_y (by unfold gtF; exact ⟨by omega, by assumption, by omega, by omega, by omega⟩)])
                                      have hl9 : lv_has ls 9 [(5, .int (nI (k + 1))), (4, .int (nI (cntP (gtF ft st tn kd mn tw cx cy q) (k + 1)))), (3, .int (nI q)), (0, .ref k0), (1, .int le9), (2, .int mv9)] := by rw [e9_4]; exact hl9
                                      exact ih_37 (k + 1) S5 H locs ls (by first | with_reducible assumption | omega) (by first | with_reducible assumption | omega) hP hD hS hl9
                                    · have c_40 : (((arF mn cx cy k : Nat) : Int) - ((arF mn cx cy q : Nat) : Int)) = 0 := zl_eq (jI_toInt (by omega)) rfl c_40
                                      refine lv_iload hx hb dX11_few_151 (lv_at hl 2 rfl) ?_
                                      refine lv_iload_n hx hb dX11_few_153 rfl (lv_at hl 4 rfl) ?_
                                      refine lv_icmp_ge (tgt := 161) hx hb dX11_few_154 rfl (fun c_41 => ?_) (fun c_41 => ?_)
                                      · have c_41 : ((q : Nat) : Int) ≤ ((k : Nat) : Int) := zc_le (nI_toInt b9_23) (nI_toInt b9_8) c_41
                                        refine lv_iconst (v := 0) hx hb dX11_few_161 rfl ?_
                                        refine lv_iadd hx hb dX11_few_162 ?_
                                        refine zz_i (v := nI ((cntP (gtF ft st tn kd mn tw cx cy q) k) + 0)) (nI_add (cntP (gtF ft st tn kd mn tw cx cy q) k) 0) ?_
                                        refine lv_istore (lv' := [(4, .int (nI ((cntP (gtF ft st tn kd mn tw cx cy q) k) + 0))), (7, .long (jI (((arF mn cx cy k : Nat) : Int) - ((arF mn cx cy q : Nat) : Int)))), (6, .int 1), (5, .int (nI k)), (3, .int (nI q)), (0, .ref k0), (1, .int le9), (2, .int mv9)]) hx hb dX11_few_163 hl (Nat.le_of_ble_eq_true rfl) rfl (fun ls hl => ?_)
                                        refine lv_iinc (v := nI (k + 1)) (lv' := [(5, .int (nI (k + 1))), (4, .int (nI ((cntP (gtF ft st tn kd mn tw cx cy q) k) + 0))), (7, .long (jI (((arF mn cx cy k : Nat) : Int) - ((arF mn cx cy q : Nat) : Int)))), (6, .int 1), (3, .int (nI q)), (0, .ref k0), (1, .int le9), (2, .int mv9)]) hx hb dX11_few_165 hl (k := 3) rfl (nI_add k 1) (Nat.le_of_ble_eq_true rfl) rfl (fun ls hl => ?_)
                                        refine lv_goto (tgt := 37) hx hb dX11_few_168 rfl ?_
                                        have hl9 := lv_sub hl [0, 1, 4, 5, 6, 7] rfl
                                        have e9_4 : nI (cntP (gtF ft st tn kd mn tw cx cy q) (k + 1)) = (nI ((cntP (gtF ft st tn kd mn tw cx cy q) k) + 0) : Int32) := by first | (rw [cntP_n (by unfold gtF; first | (intro h; exact absurd h.2.1 (by first | with_reducible assumption | assumption)) | (intro h; have h1 := h.1; have h2 := h.2.2.1; have h3 := h.2.2.2.1; have h4 := h.2.2.2.2; omega))]; first | done | rfl) | (rw [cntP_y (by unfold gtF; exact ⟨by omega, by assumption, by omega, by omega, by omega⟩)])
                                        have hl9 : lv_has ls 9 [(5, .int (nI (k + 1))), (4, .int (nI (cntP (gtF ft st tn kd mn tw cx cy q) (k + 1)))), (3, .int (nI q)), (0, .ref k0), (1, .int le9), (2, .int mv9)] := by rw [e9_4]; exact hl9
                                        exact ih_37 (k + 1) S5 H locs ls (by first | with_reducible assumption | omega) (by first | with_reducible assumption | omega) hP hD hS hl9
                                      · have c_41 : ((k : Nat) : Int) < ((q : Nat) : Int) := zc_nle (nI_toInt b9_23) (nI_toInt b9_8) c_41
                                        refine lv_iconst (v := 1) hx hb dX11_few_157 rfl ?_
                                        refine lv_goto (tgt := 162) hx hb dX11_few_158 rfl ?_
                                        refine lv_iadd hx hb dX11_few_162 ?_
                                        refine zz_i (v := nI ((cntP (gtF ft st tn kd mn tw cx cy q) k) + 1)) (nI_add (cntP (gtF ft st tn kd mn tw cx cy q) k) 1) ?_
                                        refine lv_istore (lv' := [(4, .int (nI ((cntP (gtF ft st tn kd mn tw cx cy q) k) + 1))), (7, .long (jI (((arF mn cx cy k : Nat) : Int) - ((arF mn cx cy q : Nat) : Int)))), (6, .int 1), (5, .int (nI k)), (3, .int (nI q)), (0, .ref k0), (1, .int le9), (2, .int mv9)]) hx hb dX11_few_163 hl (Nat.le_of_ble_eq_true rfl) rfl (fun ls hl => ?_)
                                        refine lv_iinc (v := nI (k + 1)) (lv' := [(5, .int (nI (k + 1))), (4, .int (nI ((cntP (gtF ft st tn kd mn tw cx cy q) k) + 1))), (7, .long (jI (((arF mn cx cy k : Nat) : Int) - ((arF mn cx cy q : Nat) : Int)))), (6, .int 1), (3, .int (nI q)), (0, .ref k0), (1, .int le9), (2, .int mv9)]) hx hb dX11_few_165 hl (k := 3) rfl (nI_add k 1) (Nat.le_of_ble_eq_true rfl) rfl (fun ls hl => ?_)
                                        refine lv_goto (tgt := 37) hx hb dX11_few_168 rfl ?_
                                        have hl9 := lv_sub hl [0, 1, 4, 5, 6, 7] rfl
                                        have e9_4 : nI (cntP (gtF ft st tn kd mn tw cx cy q) (k + 1)) = (nI ((cntP (gtF ft st tn kd mn tw cx cy q) k) + 1) : Int32) := by first | (rw [cntP_n (by unfold gtF; first | (intro h; exact absurd h.2.1 (by first | with_reducible assumption | assumption)) | (intro h; have h1 := h.1; have h2 := h.2.2.1; have h3 := h.2.2.2.1; have h4 := h.2.2.2.2; omega))]; first | done | rfl) | (rw [cntP_y (by unfold gtF; exact ⟨by omega, by assumption, by omega, by omega, by omega⟩)])
                                        have hl9 : lv_has ls 9 [(5, .int (nI (k + 1))), (4, .int (nI (cntP (gtF ft st tn kd mn tw cx cy q) (k + 1)))), (3, .int (nI q)), (0, .ref k0), (1, .int le9), (2, .int mv9)] := by rw [e9_4]; exact hl9
                                        exact ih_37 (k + 1) S5 H locs ls (by first | with_reducible assumption | omega) (by first | with_reducible assumption | omega) hP hD hS hl9
              have e9_4 : nI (cntP (gtF ft st tn kd mn tw cx cy q) 0) = (0 : Int32) := by rfl
              have hl9 : lv_has ls 9 [(5, .int (nI 0)), (4, .int (nI (cntP (gtF ft st tn kd mn tw cx cy q) 0))), (3, .int (nI q)), (0, .ref k0), (1, .int le9), (2, .int mv9)] := by rw [e9_4]; exact lv_sub hl [0, 1, 2, 3, 4, 5] rfl
              exact hl_37 _ 0 S1 H locs ls (Nat.lt_succ_self _) (by first | with_reducible assumption | omega) hP hD hS hl9
        exact hl_23 _ 0 mk S0 s.heap [] ls (Nat.lt_succ_self _) (by first | with_reducible assumption | omega) (by intro j hj; omega) hP hD hS (lv_sub hl [0, 1, 2, 3] rfl)
      · have c_3 : 200 < mv9.toInt := zc_nle rfl rfl c_3
        exfalso; omega
set_option maxHeartbeats 4000000 in
set_option maxRecDepth 100000 in
theorem k_M_few_y (l : Launch) (dC : Nat → ClassId) (dI : Nat → Nat → Nat) (cI cZ cF : ClassId) (sz : Nat) (k0 : Nat) (a : Nat → Nat) (I0 : Nat → Int32) (J0 : Nat → Int64) (le9 : Int32) (mv9 : Int32) (ft : Nat) (dn : Nat) (bs : Nat) (w0 : Nat) (cp : Nat) (c1 : Nat) (c2 : Nat) (ln : Nat) (cl : Nat) (kd : Nat → Int32) (st : Nat → Int32) (gb : Nat → Int32) (it : Nat → Int32) (pa : Nat → Int32) (pb : Nat → Int32) (rk : Nat → Int32) (wd : Nat → Int32) (tw : Nat → Int32) (tn : Nat → Int32) (mn : Nat → Int32) (cx : Nat → Int32) (cy : Nat → Int32) (sa : Nat → Int32) (sh : Nat → Int32) (wh : Nat → Int32) (of9 : Nat → Int32) (we : Nat → Int32) (la : Nat → Int32) (lb : Nat → Int32) (lc : Nat → Int32) (ld : Nat → Int32) (mk : Nat → Int32) (S0 : Nat → Int32) (hft : I0 0 = nI ft) (h200 : ft ≤ 200) (hwf : ∀ q, lvF ft st tn q → wfM mn cx cy q) (hgood : 0 ≤ le9.toInt ∧ 0 ≤ mv9.toInt ∧ mv9.toInt ≤ 200) (hz : 0 < cntP (fun j => fwM ft st tn kd mn tw cx cy le9.toInt mv9.toInt j) ft) (hdn : I0 19 = nI dn) (hbs : I0 21 = nI bs) (hbd : bs ≤ dn) (hd512 : dn ≤ 512) (hlc : ln ≤ 64 * cl) (hcl1 : 1 ≤ cl) (hclm : cl ≤ 1000000) (hi5_1 : (dn - bs) < 515) (hsa_1 : sa (dn - bs) = nI w0) (hmn_1 : ∀ v9, v9 < ft → (tn v9).toInt = 0 → ¬ (st v9).toInt = 0 → mn v9 = nI (nN (mn v9)) ∧ nN (mn v9) ≤ 40) (hc1_1 : 1 ≤ cp) (hpw_1 : pw cp c1) (hw0_1 : w0 ≤ 4096 * cp) (hfit_1 : psN (nnF st tn mn) w0 ft ≤ 4096 * c1) (hmin_1 : c1 = cp ∨ 2048 * c1 < psN (nnF st tn mn) w0 ft) (hcE_1 : c1 ≤ 512) (hpw_2 : pw c1 c2) (hfit_2 : psN (nnF (gnA (fun j => fwM ft st tn kd mn tw cx cy le9.toInt mv9.toInt j) ft 2 st) tn mn) (psN (nnF st tn mn) w0 ft) ft ≤ 4096 * c2) (hmin_2 : c2 = c1 ∨ 2048 * c2 < psN (nnF (gnA (fun j => fwM ft st tn kd mn tw cx cy le9.toInt mv9.toInt j) ft 2 st) tn mn) (psN (nnF st tn mn) w0 ft) ft) (hcE_2 : c2 ≤ 512) : zM l yX11_few cX11_few 9 (some .int) ({ frames := 4, cells := c2 - cp, slots := 8192 * (c2 - cp), locals := 93 } : Room) [.ref k0, .int le9, .int mv9] (dC, dI) (zTy cI cZ cF) [(om k0 a (upd I0 26 (nI ln)) J0), (oa (a 1) cI 201 kd), (oa (a 5) cI 201 st), (oa (a 7) cI 201 gb), (oa (a 10) cI 201 it), (oa (a 8) cI 201 pa), (oa (a 9) cI 201 pb), (oa (a 2) cI 201 rk), (oa (a 3) cI 201 wd), (oa (a 4) cI 201 tw), (oa (a 6) cZ 201 tn), (oa (a 11) cI 201 mn), (oa (a 12) cI 8040 cx), (oa (a 13) cI 8040 cy), (oa (a 27) cI 516 sa), (oa (a 28) cI (4096 * cp) sh), (oa (a 16) cI 514 wh), (oa (a 17) cI 514 of9), (oa (a 18) cI 514 we), (oa (a 22) cI (64 * cl) la), (oa (a 23) cI (64 * cl) lb), (oa (a 24) cI (64 * cl) lc), (oa (a 25) cI (64 * cl) ld), (oa (a 50) cZ 201 mk), (oa (a 32) cI 8 S0)] sz (some (.int (nI (cntP (fun j => fwM ft st tn kd mn tw cx cy le9.toInt mv9.toInt j) ft)))) (fun A t => ∃ (b2 : Nat), ∃ (sh2 : Nat → Int32), ∃ (t9 : Nat), ∃ (la1 : Nat → Int32), ∃ (lb1 : Nat → Int32), ∃ (lc1 : Nat → Int32), ∃ (ld1 : Nat → Int32), ∃ (mk1 : Nat → Int32), ∃ (S1 : Nat → Int32), (sh2 w0 = nI ft) ∧ (∀ j, j < w0 → sh2 j = sh j) ∧ (∀ g, g < ft → ∀ j, j < 10 + 2 * (nnF st tn mn) g → sh2 (psN (nnF st tn mn) w0 g + j) = (shD kd st gb it pa pb rk wd tw (nnF st tn mn) cx cy) g j) ∧ (sh2 (psN (nnF st tn mn) w0 ft) = nI ft) ∧ (∀ g, g < ft → ∀ j, j < 10 + 2 * (nnF (gnA (fun j => fwM ft st tn kd mn tw cx cy le9.toInt mv9.toInt j) ft 2 st) tn mn) g → sh2 (psN (nnF (gnA (fun j => fwM ft st tn kd mn tw cx cy le9.toInt mv9.toInt j) ft 2 st) tn mn) (psN (nnF st tn mn) w0 ft) g + j) = (shD kd (gnA (fun j => fwM ft st tn kd mn tw cx cy le9.toInt mv9.toInt j) ft 2 st) (gnA (fun j => fwM ft st tn kd mn tw cx cy le9.toInt mv9.toInt j) ft (nI (dn + 1)) gb) (gnA (fun j => fwM ft st tn kd mn tw cx cy le9.toInt mv9.toInt j) ft (-1 : Int32) it) pa pb rk wd tw (nnF (gnA (fun j => fwM ft st tn kd mn tw cx cy le9.toInt mv9.toInt j) ft 2 st) tn mn) cx cy) g j) ∧ (t9 ≤ ln) ∧ (∀ j, j < t9 → ∃ i, i < ln ∧ lb1 j = lb i ∧ lc1 j = lc i) ∧ zPD (dC, dI) classes A [(om k0 (va_up a 28 b2) (upd (upd (upd (upd (upd I0 14 0) 19 (nI (dn + 1))) 20 0) 26 (nI t9)) 41 (nI (psN (nnF (gnA (fun j => fwM ft st tn kd mn tw cx cy le9.toInt mv9.toInt j) ft 2 st) tn mn) (psN (nnF st tn mn) w0 ft) ft))) J0), (oa (a 1) cI 201 kd), (oa (a 5) cI 201 (gnA (fun j => fwM ft st tn kd mn tw cx cy le9.toInt mv9.toInt j) ft 2 st)), (oa (a 7) cI 201 (gnA (fun j => fwM ft st tn kd mn tw cx cy le9.toInt mv9.toInt j) ft (nI (dn + 1)) gb)), (oa (a 10) cI 201 (gnA (fun j => fwM ft st tn kd mn tw cx cy le9.toInt mv9.toInt j) ft (-1 : Int32) it)), (oa (a 8) cI 201 pa), (oa (a 9) cI 201 pb), (oa (a 2) cI 201 rk), (oa (a 3) cI 201 wd), (oa (a 4) cI 201 tw), (oa (a 6) cZ 201 tn), (oa (a 11) cI 201 mn), (oa (a 12) cI 8040 cx), (oa (a 13) cI 8040 cy), (oa (a 27) cI 516 (upd (upd sa (dn - bs + 1) (nI (psN (nnF st tn mn) w0 ft))) (dn + 1 - bs + 1) (nI (psN (nnF (gnA (fun j => fwM ft st tn kd mn tw cx cy le9.toInt mv9.toInt j) ft 2 st) tn mn) (psN (nnF st tn mn) w0 ft) ft)))), (oa b2 cI (4096 * c2) sh2), (oa (a 16) cI 514 (upd wh (dn + 1) (8 : Int32))), (oa (a 17) cI 514 (upd of9 (dn + 1) (-1 : Int32))), (oa (a 18) cI 514 (upd we (dn + 1) (nI (cntP (fun j => fwM ft st tn kd mn tw cx cy le9.toInt mv9.toInt j) ft)))), (oa (a 22) cI (64 * cl) la1), (oa (a 23) cI (64 * cl) lb1), (oa (a 24) cI (64 * cl) lc1), (oa (a 25) cI (64 * cl) ld1), (oa (a 50) cZ 201 mk1), (oa (a 32) cI 8 S1)] t.heap) (c2 - cp) (8192 * (c2 - cp)) := by
  refine zIn (own := "ScaleShopModel") (loc := [(0, .ref k0), (1, .int le9), (2, .int mv9)]) rfl rfl rfl rfl (fun p e s m below meth c hx hb hr hts hown hlocks hml hnm9 A hA hS hP hD hK hXN Q9 hQ9 ls hl => ?_)
  have hq1 := pw_le hpw_1
  have hq2 := pw_le hpw_2
  refine lv_iload_n hx hb dX11_few_0 rfl (lv_at hl 1 rfl) ?_
  refine lv_if_lt (tgt := 15) hx hb dX11_few_1 rfl (fun c_1 => ?_) (fun c_1 => ?_)
  · have c_1 : le9.toInt < 0 := zc_lt rfl rfl c_1
    exfalso; omega
  · have c_1 : 0 ≤ le9.toInt := zc_nlt rfl rfl c_1
    refine lv_iload_n hx hb dX11_few_4 rfl (lv_at hl 2 rfl) ?_
    refine lv_if_lt (tgt := 15) hx hb dX11_few_5 rfl (fun c_2 => ?_) (fun c_2 => ?_)
    · have c_2 : mv9.toInt < 0 := zc_lt rfl rfl c_2
      exfalso; omega
    · have c_2 : 0 ≤ mv9.toInt := zc_nlt rfl rfl c_2
      refine lv_iload_n hx hb dX11_few_8 rfl (lv_at hl 2 rfl) ?_
      refine lv_sipush (v := 200) hx hb dX11_few_9 rfl ?_
      refine lv_icmp_le (tgt := 21) hx hb dX11_few_12 rfl (fun c_3 => ?_) (fun c_3 => ?_)
      · have c_3 : mv9.toInt ≤ 200 := zc_le rfl rfl c_3
        refine lv_iconst (v := 0) hx hb dX11_few_21 rfl ?_
        refine lv_istore_n (lv' := [(3, .int 0), (0, .ref k0), (1, .int le9), (2, .int mv9)]) hx hb dX11_few_22 rfl hl (Nat.le_of_ble_eq_true rfl) rfl (fun ls hl => ?_)
        have hl_23 : ∀ (n9 : Nat) (q : Nat) (mk1 : Nat → Int32) (S1 : Nat → Int32) (H : Heap) (locs : List Loc) (ls : Array Slot), ft - q < n9 → (q ≤ ft) → (∀ j, j < q → mk1 j = pI (fwM ft st tn kd mn tw cx cy le9.toInt mv9.toInt j)) → va_P (dC, dI) classes [(om k0 a (upd I0 26 (nI ln)) J0), (oa (a 1) cI 201 kd), (oa (a 5) cI 201 st), (oa (a 7) cI 201 gb), (oa (a 10) cI 201 it), (oa (a 8) cI 201 pa), (oa (a 9) cI 201 pb), (oa (a 2) cI 201 rk), (oa (a 3) cI 201 wd), (oa (a 4) cI 201 tw), (oa (a 6) cZ 201 tn), (oa (a 11) cI 201 mn), (oa (a 12) cI 8040 cx), (oa (a 13) cI 8040 cy), (oa (a 27) cI 516 sa), (oa (a 28) cI (4096 * cp) sh), (oa (a 16) cI 514 wh), (oa (a 17) cI 514 of9), (oa (a 18) cI 514 we), (oa (a 22) cI (64 * cl) la), (oa (a 23) cI (64 * cl) lb), (oa (a 24) cI (64 * cl) lc), (oa (a 25) cI (64 * cl) ld), (oa (a 50) cZ 201 mk1), (oa (a 32) cI 8 S1)] H → va_D A [(om k0 a (upd I0 26 (nI ln)) J0), (oa (a 1) cI 201 kd), (oa (a 5) cI 201 st), (oa (a 7) cI 201 gb), (oa (a 10) cI 201 it), (oa (a 8) cI 201 pa), (oa (a 9) cI 201 pb), (oa (a 2) cI 201 rk), (oa (a 3) cI 201 wd), (oa (a 4) cI 201 tw), (oa (a 6) cZ 201 tn), (oa (a 11) cI 201 mn), (oa (a 12) cI 8040 cx), (oa (a 13) cI 8040 cy), (oa (a 27) cI 516 sa), (oa (a 28) cI (4096 * cp) sh), (oa (a 16) cI 514 wh), (oa (a 17) cI 514 of9), (oa (a 18) cI 514 we), (oa (a 22) cI (64 * cl) la), (oa (a 23) cI (64 * cl) lb), (oa (a 24) cI (64 * cl) lc), (oa (a 25) cI (64 * cl) ld), (oa (a 50) cZ 201 mk1), (oa (a 32) cI 8 S1)] → va_S A s.heap H locs → lv_has ls 9 [(3, .int (nI q)), (0, .ref k0), (1, .int le9), (2, .int mv9)] → W p l e ({ frames := 4, cells := c2 - cp, slots := 8192 * (c2 - cp), locals := 93 } : Room) s m ([.ref k0, .int le9, .int mv9] : List Value).toArray below meth c H locs 0 0 Q9 (F0 m 23 ls []) := by
          intro n9
          induction n9 with
          | zero => intro q mk1 S1 H locs ls hm; exact absurd hm (Nat.not_lt_zero _)
          | succ n9 ih_23 =>
            intro q mk1 S1 H locs ls hm hq hmk hP hD hS hl
            refine lv_iload_n hx hb dX11_few_23 rfl (lv_at hl 0 rfl) ?_
            refine lv_aload_n hx hb dX11_few_24 rfl (lv_at hl 1 rfl) ?_
            refine va_get (D := (dC, dI)) (ci := 9) (v := .int (I0 0)) (C := RX11) (T := TX11) (N := 55) hx hb hts inX11 hown hK hP 0 rfl rfl 0 (Nat.le_of_ble_eq_true rfl) (hts _ mw_1159) (fun _ h9 => h9) rfl dX11_few_25 ?_
            refine zz_i (v := nI ft) (hft) ?_
            have b9_5 : zlt (q) := show q < 2147483648 by omega
            have b9_6 : zlt (ft) := show ft < 2147483648 by omega
            refine lv_icmp_ge (tgt := 203) hx hb dX11_few_28 rfl (fun c_4 => ?_) (fun c_4 => ?_)
            · have c_4 : ((ft : Nat) : Int) ≤ ((q : Nat) : Int) := zc_le (nI_toInt b9_6) (nI_toInt b9_5) c_4
              refine lv_aload_n hx hb dX11_few_203 rfl (lv_at hl 1 rfl) ?_
              refine lv_bipush (v := 8) hx hb dX11_few_204 rfl ?_
              obtain ⟨hPc, hDc, hFc⟩ := zo_sub (wc := [_, _, _, _, _, _, _, _, _, _, _, _, _, _, _, _, _, _, _, _, _, _, _, _]) hP hD hS hA [0, 1, 2, 3, 4, 5, 6, 7, 8, 9, 10, 11, 12, 13, 14, 15, 16, 17, 18, 19, 20, 21, 22, 23] (by decide +kernel) rfl
              refine zcall (st1 := [.int (nI (cntP (fun j => fwM ft st tn kd mn tw cx cy le9.toInt mv9.toInt j) ft))]) (va_runV (As := [.int 8]) (rest := []) ⟨hx, hb, hml, hown, hts⟩ (k_M_dropMarked_y l dC dI cI cZ cF H.size k0 a (upd I0 26 (nI ln)) J0 8 ft dn bs w0 cp c1 c2 ln cl kd st gb it pa pb rk wd tw tn mn cx cy sa sh wh of9 we la lb lc ld mk1 (fun j => fwM ft st tn kd mn tw cx cy le9.toInt mv9.toInt j) (hft) (by first | with_reducible assumption | omega) (fun j hj => hmk j (by first | with_reducible assumption | omega)) (fun j hj h => h.1.1.2.1) (hz) (hdn) (hbs) (hbd) (hd512) (hlc) (hcl1) (hclm) (hi5_1) (hsa_1) (hmn_1) (hc1_1) (hpw_1) (hw0_1) (hfit_1) (hmin_1) (hcE_1) (hpw_2) (hfit_2) (hmin_2) (hcE_2)) (csV_219 hts rfl rfl ⟨Nat.le_of_ble_eq_true rfl, Nat.le_of_ble_eq_true rfl⟩) (zPV2 (q0 := 0) (ci := 9) hPc hDc hK hXN rfl rfl) rfl rfl hl.1 rfl (lv_room (Nat.le_of_ble_eq_true rfl)) dX11_few_206 ⟨show (0 + (c2 - cp)) ≤ c2 - cp by omega, show (0 + (8192 * (c2 - cp))) ≤ 8192 * (c2 - cp) by omega⟩) hS hFc hFc rfl (fun t H locs ht hB hk1 hS => ?_)
              refine ex7 hB (fun b2 sh2 t9 la1 lb1 lc1 ld1 hB0 => ?_)
              clear hB
              obtain ⟨r0, r1, r2, r3, r4, r5, r6, hP1, hD1⟩ := hB0
              rw [ht] at hP1
              obtain ⟨hP, hD⟩ := zn (W2 := [_, (om k0 (va_up a 28 b2) (upd (upd (upd (upd (upd I0 14 0) 19 (nI (dn + 1))) 20 0) 26 (nI t9)) 41 (nI (psN (nnF (gnA (fun j => fwM ft st tn kd mn tw cx cy le9.toInt mv9.toInt j) ft 2 st) tn mn) (psN (nnF st tn mn) w0 ft) ft))) J0), (oa (a 1) cI 201 kd), (oa (a 5) cI 201 (gnA (fun j => fwM ft st tn kd mn tw cx cy le9.toInt mv9.toInt j) ft 2 st)), (oa (a 7) cI 201 (gnA (fun j => fwM ft st tn kd mn tw cx cy le9.toInt mv9.toInt j) ft (nI (dn + 1)) gb)), (oa (a 10) cI 201 (gnA (fun j => fwM ft st tn kd mn tw cx cy le9.toInt mv9.toInt j) ft (-1 : Int32) it)), (oa (a 8) cI 201 pa), (oa (a 9) cI 201 pb), (oa (a 2) cI 201 rk), (oa (a 3) cI 201 wd), (oa (a 4) cI 201 tw), (oa (a 6) cZ 201 tn), (oa (a 11) cI 201 mn), (oa (a 12) cI 8040 cx), (oa (a 13) cI 8040 cy), (oa (a 27) cI 516 (upd (upd sa (dn - bs + 1) (nI (psN (nnF st tn mn) w0 ft))) (dn + 1 - bs + 1) (nI (psN (nnF (gnA (fun j => fwM ft st tn kd mn tw cx cy le9.toInt mv9.toInt j) ft 2 st) tn mn) (psN (nnF st tn mn) w0 ft) ft)))), (oa b2 cI (4096 * c2) sh2), (oa (a 16) cI 514 (upd wh (dn + 1) (8 : Int32))), (oa (a 17) cI 514 (upd of9 (dn + 1) (-1 : Int32))), (oa (a 18) cI 514 (upd we (dn + 1) (nI (cntP (fun j => fwM ft st tn kd mn tw cx cy le9.toInt mv9.toInt j) ft)))), (oa (a 22) cI (64 * cl) la1), (oa (a 23) cI (64 * cl) lb1), (oa (a 24) cI (64 * cl) lc1), (oa (a 25) cI (64 * cl) ld1), (oa (a 50) cZ 201 mk1)]) hP hD hk1 hFc hP1 hD1 zl_235 zl_236 zl_237 zl_238 (by decide +kernel) rfl rfl rfl rfl rfl
              clear hk1 hPc hDc hFc hP1 hD1 ht
              obtain ⟨hP9, hD9⟩ := zq_sub (wc := [_, _, _, _, _, _, _, _, _, _, _, _, _, _, _, _, _, _, _, _, _, _, _, _, _]) hP hD [1, 2, 3, 4, 5, 6, 7, 8, 9, 10, 11, 12, 13, 14, 15, 16, 17, 18, 19, 20, 21, 22, 23, 24, 0] rfl rfl
              refine W.widen (k := c2 - cp) (n := 8192 * (c2 - cp)) (by omega) (by omega) ?_
              rw [hQ9]
              exact W.iret (v := nI (cntP (fun j => fwM ft st tn kd mn tw cx cy le9.toInt mv9.toInt j) ft)) hx hb hr (fun t ht hW => ⟨⟨rfl, b2, sh2, t9, la1, lb1, lc1, ld1, mk1, S1, (r0), (r1), (r2), (r3), (r4), (r5), (r6), by rw [ht]; exact hP9, hD9⟩, hS.F ht⟩) hS.2.2 dX11_few_209
            · have c_4 : ((q : Nat) : Int) < ((ft : Nat) : Int) := zc_nle (nI_toInt b9_6) (nI_toInt b9_5) c_4
              refine lv_iconst (v := 0) hx hb dX11_few_31 rfl ?_
              refine lv_istore (lv' := [(4, .int 0), (3, .int (nI q)), (0, .ref k0), (1, .int le9), (2, .int mv9)]) hx hb dX11_few_32 hl (Nat.le_of_ble_eq_true rfl) rfl (fun ls hl => ?_)
              refine lv_iconst (v := 0) hx hb dX11_few_34 rfl ?_
              refine lv_istore (lv' := [(5, .int 0), (4, .int 0), (3, .int (nI q)), (0, .ref k0), (1, .int le9), (2, .int mv9)]) hx hb dX11_few_35 hl (Nat.le_of_ble_eq_true rfl) rfl (fun ls hl => ?_)
              have hl_37 : ∀ (n9 : Nat) (k : Nat) (S2 : Nat → Int32) (H : Heap) (locs : List Loc) (ls : Array Slot), ft - k < n9 → (k ≤ ft) → va_P (dC, dI) classes [(om k0 a (upd I0 26 (nI ln)) J0), (oa (a 1) cI 201 kd), (oa (a 5) cI 201 st), (oa (a 7) cI 201 gb), (oa (a 10) cI 201 it), (oa (a 8) cI 201 pa), (oa (a 9) cI 201 pb), (oa (a 2) cI 201 rk), (oa (a 3) cI 201 wd), (oa (a 4) cI 201 tw), (oa (a 6) cZ 201 tn), (oa (a 11) cI 201 mn), (oa (a 12) cI 8040 cx), (oa (a 13) cI 8040 cy), (oa (a 27) cI 516 sa), (oa (a 28) cI (4096 * cp) sh), (oa (a 16) cI 514 wh), (oa (a 17) cI 514 of9), (oa (a 18) cI 514 we), (oa (a 22) cI (64 * cl) la), (oa (a 23) cI (64 * cl) lb), (oa (a 24) cI (64 * cl) lc), (oa (a 25) cI (64 * cl) ld), (oa (a 50) cZ 201 mk1), (oa (a 32) cI 8 S2)] H → va_D A [(om k0 a (upd I0 26 (nI ln)) J0), (oa (a 1) cI 201 kd), (oa (a 5) cI 201 st), (oa (a 7) cI 201 gb), (oa (a 10) cI 201 it), (oa (a 8) cI 201 pa), (oa (a 9) cI 201 pb), (oa (a 2) cI 201 rk), (oa (a 3) cI 201 wd), (oa (a 4) cI 201 tw), (oa (a 6) cZ 201 tn), (oa (a 11) cI 201 mn), (oa (a 12) cI 8040 cx), (oa (a 13) cI 8040 cy), (oa (a 27) cI 516 sa), (oa (a 28) cI (4096 * cp) sh), (oa (a 16) cI 514 wh), (oa (a 17) cI 514 of9), (oa (a 18) cI 514 we), (oa (a 22) cI (64 * cl) la), (oa (a 23) cI (64 * cl) lb), (oa (a 24) cI (64 * cl) lc), (oa (a 25) cI (64 * cl) ld), (oa (a 50) cZ 201 mk1), (oa (a 32) cI 8 S2)] → va_S A s.heap H locs → lv_has ls 9 [(5, .int (nI k)), (4, .int (nI (cntP (gtF ft st tn kd mn tw cx cy q) k))), (3, .int (nI q)), (0, .ref k0), (1, .int le9), (2, .int mv9)] → W p l e ({ frames := 4, cells := c2 - cp, slots := 8192 * (c2 - cp), locals := 93 } : Room) s m ([.ref k0, .int le9, .int mv9] : List Value).toArray below meth c H locs 0 0 Q9 (F0 m 37 ls []) := by
                intro n9
                induction n9 with
                | zero => intro k S2 H locs ls hm; exact absurd hm (Nat.not_lt_zero _)
                | succ n9 ih_37 =>
                  intro k S2 H locs ls hm hk hP hD hS hl
                  have hcb := cntP_b (gtF ft st tn kd mn tw cx cy q) k
                  refine lv_iload hx hb dX11_few_37 (lv_at hl 0 rfl) ?_
                  refine lv_aload_n hx hb dX11_few_39 rfl (lv_at hl 3 rfl) ?_
                  refine va_get (D := (dC, dI)) (ci := 9) (v := .int (I0 0)) (C := RX11) (T := TX11) (N := 55) hx hb hts inX11 hown hK hP 0 rfl rfl 0 (Nat.le_of_ble_eq_true rfl) (hts _ mw_1159) (fun _ h9 => h9) rfl dX11_few_40 ?_
                  refine zz_i (v := nI ft) (hft) ?_
                  have b9_8 : zlt (k) := show k < 2147483648 by omega
                  refine lv_icmp_ge (tgt := 171) hx hb dX11_few_43 rfl (fun c_7 => ?_) (fun c_7 => ?_)
                  · have c_7 : ((ft : Nat) : Int) ≤ ((k : Nat) : Int) := zc_le (nI_toInt b9_6) (nI_toInt b9_8) c_7
                    refine lv_aload_n hx hb dX11_few_171 rfl (lv_at hl 3 rfl) ?_
                    refine va_get (D := (dC, dI)) (ci := 9) (v := .ref (a 50)) (C := RX11) (T := TX11) (N := 55) hx hb hts inX11 hown hK hP 0 rfl rfl 50 (Nat.le_of_ble_eq_true rfl) (hts _ mw_1209) (fun _ h9 => h9) rfl dX11_few_172 ?_
                    refine lv_iload_n hx hb dX11_few_175 rfl (lv_at hl 2 rfl) ?_
                    refine lv_aload_n hx hb dX11_few_176 rfl (lv_at hl 3 rfl) ?_
                    refine lv_iload_n hx hb dX11_few_177 rfl (lv_at hl 2 rfl) ?_
                    refine lv_iload_n hx hb dX11_few_178 rfl (lv_at hl 4 rfl) ?_
                    obtain ⟨hPc, hDc, hFc⟩ := zo_sub (wc := [_, _, _, _, _, _, _, _]) hP hD hS hA [0, 2, 10, 1, 11, 12, 13, 24] (by decide +kernel) rfl
                    refine zcall (st1 := [.int (pI (smF ft st tn kd mn cx cy le9.toInt q)), .int (nI q), .ref (a 50)]) (va_runV (As := [.int (nI q), .int le9]) (rest := [.int (nI q), .ref (a 50)]) ⟨hx, hb, hml, hown, hts⟩ (k_M_isSmall l dC dI cI cZ cF H.size k0 a (upd I0 26 (nI ln)) J0 q ft le9 st tn kd mn cx cy S2 (by first | with_reducible assumption | assumption) (by first | with_reducible assumption | omega) (by first | with_reducible assumption | omega) (by first | with_reducible assumption | assumption)) (csV_220 hts rfl rfl ⟨Nat.le_of_ble_eq_true rfl, Nat.le_of_ble_eq_true rfl⟩) (zPV2 (q0 := 0) (ci := 9) hPc hDc hK hXN rfl rfl) rfl rfl hl.1 rfl (lv_room (Nat.le_of_ble_eq_true rfl)) dX11_few_179 ⟨Nat.zero_le _, Nat.zero_le _⟩) hS hFc hFc rfl (fun t H locs ht hB hk1 hS => ?_)
                    obtain ⟨S6, hP1, hD1⟩ := hB
                    rw [ht] at hP1
                    obtain ⟨hP, hD⟩ := zn (W2 := [_, _, _, _, _, _, _, _, _, _, _, _, _, _, _, _, _, _, _, _, _, _, _, _, (oa (a 32) cI 8 S6)]) hP hD hk1 hFc hP1 hD1 zl_239 zl_240 zl_241 zl_239 (by decide +kernel) rfl rfl rfl rfl rfl
                    clear hk1 hPc hDc hFc hP1 hD1 ht
                    refine lv_if_eq (tgt := 195) hx hb dX11_few_182 rfl (fun c_9 => ?_) (fun c_9 => ?_)
                    · have c_9 : ¬ (smF ft st tn kd mn cx cy le9.toInt q) := zp_0 c_9
                      refine lv_iconst (v := 0) hx hb dX11_few_195 rfl ?_
                      refine zz_i (v := pI (fwM ft st tn kd mn tw cx cy le9.toInt mv9.toInt q)) (by first | exact fw_s (by first | with_reducible assumption | assumption) | exact fw_t (k := k) (by first | with_reducible assumption | assumption) (by omega) (by omega) | exact fw_n (k := k) (by omega) (by omega) | (exfalso; have h1 : ¬ smF ft st tn kd mn cx cy le9.toInt q := (by first | with_reducible assumption | assumption); exact h1 (by first | with_reducible assumption | assumption))) ?_
                      have b9_10 : q < 201 := by omega
                      refine z_zast hx hb hK hP hD hS 23 1 rfl rfl (e := q) (x := pI (fwM ft st tn kd mn tw cx cy le9.toInt mv9.toInt q)) rfl b9_10 (Nat.le_of_ble_eq_true rfl) (zp_and _) dX11_few_196 (fun H locs hP hD hS => ?_)
                      obtain ⟨hP, hD⟩ := zre (W2 := [_, _, _, _, _, _, _, _, _, _, _, _, _, _, _, _, _, _, _, _, _, _, _, (oa (a 50) cZ 201 (upd mk1 q (pI (fwM ft st tn kd mn tw cx cy le9.toInt mv9.toInt q)))), _]) hP hD rfl
                      refine lv_iinc (v := nI (q + 1)) (lv' := [(3, .int (nI (q + 1))), (5, .int (nI k)), (4, .int (nI (cntP (gtF ft st tn kd mn tw cx cy q) k))), (0, .ref k0), (1, .int le9), (2, .int mv9)]) hx hb dX11_few_197 hl (k := 2) rfl (nI_add q 1) (Nat.le_of_ble_eq_true rfl) rfl (fun ls hl => ?_)
                      refine lv_goto (tgt := 23) hx hb dX11_few_200 rfl ?_
                      exact ih_23 (q + 1) (upd mk1 q (pI (fwM ft st tn kd mn tw cx cy le9.toInt mv9.toInt q))) S6 H locs ls (by first | with_reducible assumption | omega) (by first | with_reducible assumption | omega) (by intro j hj; rcases Nat.lt_or_ge j q with h | h; simp only [upd, if_neg (show j ≠ q by omega)]; exact hmk j h; rw [show j = q by omega]; simp only [upd, if_true]) hP hD hS (lv_sub hl [0, 3, 4, 5] rfl)
                    · have c_9 : smF ft st tn kd mn cx cy le9.toInt q := zp_1 c_9
                      refine lv_iload hx hb dX11_few_185 (lv_at hl 1 rfl) ?_
                      refine lv_iload_n hx hb dX11_few_187 rfl (lv_at hl 5 rfl) ?_
                      have b9_12 : zlt ((cntP (gtF ft st tn kd mn tw cx cy q) k)) := show (cntP (gtF ft st tn kd mn tw cx cy q) k) < 2147483648 by omega
                      refine lv_icmp_lt (tgt := 195) hx hb dX11_few_188 rfl (fun c_11 => ?_) (fun c_11 => ?_)
                      · have c_11 : ((cntP (gtF ft st tn kd mn tw cx cy q) k : Nat) : Int) < mv9.toInt := zc_lt (nI_toInt b9_12) rfl c_11
                        refine lv_iconst (v := 0) hx hb dX11_few_195 rfl ?_
                        refine zz_i (v := pI (fwM ft st tn kd mn tw cx cy le9.toInt mv9.toInt q)) (by first | exact fw_s (by first | with_reducible assumption | assumption) | exact fw_t (k := k) (by first | with_reducible assumption | assumption) (by omega) (by omega) | exact fw_n (k := k) (by omega) (by omega) | (exfalso; have h1 : ¬ smF ft st tn kd mn cx cy le9.toInt q := (by first | with_reducible assumption | assumption); exact h1 (by first | with_reducible assumption | assumption))) ?_
                        have b9_13 : q < 201 := by omega
                        refine z_zast hx hb hK hP hD hS 23 1 rfl rfl (e := q) (x := pI (fwM ft st tn kd mn tw cx cy le9.toInt mv9.toInt q)) rfl b9_13 (Nat.le_of_ble_eq_true rfl) (zp_and _) dX11_few_196 (fun H locs hP hD hS => ?_)
                        obtain ⟨hP, hD⟩ := zre (W2 := [_, _, _, _, _, _, _, _, _, _, _, _, _, _, _, _, _, _, _, _, _, _, _, (oa (a 50) cZ 201 (upd mk1 q (pI (fwM ft st tn kd mn tw cx cy le9.toInt mv9.toInt q)))), _]) hP hD rfl
                        refine lv_iinc (v := nI (q + 1)) (lv' := [(3, .int (nI (q + 1))), (5, .int (nI k)), (4, .int (nI (cntP (gtF ft st tn kd mn tw cx cy q) k))), (0, .ref k0), (1, .int le9), (2, .int mv9)]) hx hb dX11_few_197 hl (k := 2) rfl (nI_add q 1) (Nat.le_of_ble_eq_true rfl) rfl (fun ls hl => ?_)
                        refine lv_goto (tgt := 23) hx hb dX11_few_200 rfl ?_
                        exact ih_23 (q + 1) (upd mk1 q (pI (fwM ft st tn kd mn tw cx cy le9.toInt mv9.toInt q))) S6 H locs ls (by first | with_reducible assumption | omega) (by first | with_reducible assumption | omega) (by intro j hj; rcases Nat.lt_or_ge j q with h | h; simp only [upd, if_neg (show j ≠ q by omega)]; exact hmk j h; rw [show j = q by omega]; simp only [upd, if_true]) hP hD hS (lv_sub hl [0, 3, 4, 5] rfl)
                      · have c_11 : mv9.toInt ≤ ((cntP (gtF ft st tn kd mn tw cx cy q) k : Nat) : Int) := zc_nlt (nI_toInt b9_12) rfl c_11
                        refine lv_iconst (v := 1) hx hb dX11_few_191 rfl ?_
                        refine lv_goto (tgt := 196) hx hb dX11_few_192 rfl ?_
                        refine zz_i (v := pI (fwM ft st tn kd mn tw cx cy le9.toInt mv9.toInt q)) (by first | exact fw_s (by first | with_reducible assumption | assumption) | exact fw_t (k := k) (by first | with_reducible assumption | assumption) (by omega) (by omega) | exact fw_n (k := k) (by omega) (by omega) | (exfalso; have h1 : ¬ smF ft st tn kd mn cx cy le9.toInt q := (by first | with_reducible assumption | assumption); exact h1 (by first | with_reducible assumption | assumption))) ?_
                        have b9_14 : q < 201 := by omega
                        refine z_zast hx hb hK hP hD hS 23 1 rfl rfl (e := q) (x := pI (fwM ft st tn kd mn tw cx cy le9.toInt mv9.toInt q)) rfl b9_14 (Nat.le_of_ble_eq_true rfl) (zp_and _) dX11_few_196 (fun H locs hP hD hS => ?_)
                        obtain ⟨hP, hD⟩ := zre (W2 := [_, _, _, _, _, _, _, _, _, _, _, _, _, _, _, _, _, _, _, _, _, _, _, (oa (a 50) cZ 201 (upd mk1 q (pI (fwM ft st tn kd mn tw cx cy le9.toInt mv9.toInt q)))), _]) hP hD rfl
                        refine lv_iinc (v := nI (q + 1)) (lv' := [(3, .int (nI (q + 1))), (5, .int (nI k)), (4, .int (nI (cntP (gtF ft st tn kd mn tw cx cy q) k))), (0, .ref k0), (1, .int le9), (2, .int mv9)]) hx hb dX11_few_197 hl (k := 2) rfl (nI_add q 1) (Nat.le_of_ble_eq_true rfl) rfl (fun ls hl => ?_)
                        refine lv_goto (tgt := 23) hx hb dX11_few_200 rfl ?_
                        exact ih_23 (q + 1) (upd mk1 q (pI (fwM ft st tn kd mn tw cx cy le9.toInt mv9.toInt q))) S6 H locs ls (by first | with_reducible assumption | omega) (by first | with_reducible assumption | omega) (by intro j hj; rcases Nat.lt_or_ge j q with h | h; simp only [upd, if_neg (show j ≠ q by omega)]; exact hmk j h; rw [show j = q by omega]; simp only [upd, if_true]) hP hD hS (lv_sub hl [0, 3, 4, 5] rfl)
                  · have c_7 : ((k : Nat) : Int) < ((ft : Nat) : Int) := zc_nle (nI_toInt b9_6) (nI_toInt b9_8) c_7
                    refine lv_aload_n hx hb dX11_few_46 rfl (lv_at hl 3 rfl) ?_
                    refine lv_iload_n hx hb dX11_few_47 rfl (lv_at hl 2 rfl) ?_
                    refine lv_iload_n hx hb dX11_few_48 rfl (lv_at hl 4 rfl) ?_
                    obtain ⟨hPc, hDc, hFc⟩ := zo_sub (wc := [_, _, _, _, _, _, _, _]) hP hD hS hA [0, 2, 10, 1, 11, 12, 13, 24] (by decide +kernel) rfl
                    refine zcall (st1 := [.int (pI (smF ft st tn kd mn cx cy le9.toInt q))]) (va_runV (As := [.int (nI q), .int le9]) (rest := []) ⟨hx, hb, hml, hown, hts⟩ (k_M_isSmall l dC dI cI cZ cF H.size k0 a (upd I0 26 (nI ln)) J0 q ft le9 st tn kd mn cx cy S2 (by first | with_reducible assumption | assumption) (by first | with_reducible assumption | omega) (by first | with_reducible assumption | omega) (by first | with_reducible assumption | assumption)) (csV_220 hts rfl rfl ⟨Nat.le_of_ble_eq_true rfl, Nat.le_of_ble_eq_true rfl⟩) (zPV2 (q0 := 0) (ci := 9) hPc hDc hK hXN rfl rfl) rfl rfl hl.1 rfl (lv_room (Nat.le_of_ble_eq_true rfl)) dX11_few_49 ⟨Nat.zero_le _, Nat.zero_le _⟩) hS hFc hFc rfl (fun t H locs ht hB hk1 hS => ?_)
                    obtain ⟨S3, hP1, hD1⟩ := hB
                    rw [ht] at hP1
                    obtain ⟨hP, hD⟩ := zn (W2 := [_, _, _, _, _, _, _, _, _, _, _, _, _, _, _, _, _, _, _, _, _, _, _, _, (oa (a 32) cI 8 S3)]) hP hD hk1 hFc hP1 hD1 zl_239 zl_240 zl_241 zl_239 (by decide +kernel) rfl rfl rfl rfl rfl
                    clear hk1 hPc hDc hFc hP1 hD1 ht
                    refine lv_if_eq (tgt := 171) hx hb dX11_few_52 rfl (fun c_15 => ?_) (fun c_15 => ?_)
                    · have c_15 : ¬ (smF ft st tn kd mn cx cy le9.toInt q) := zp_0 c_15
                      refine lv_aload_n hx hb dX11_few_171 rfl (lv_at hl 3 rfl) ?_
                      refine va_get (D := (dC, dI)) (ci := 9) (v := .ref (a 50)) (C := RX11) (T := TX11) (N := 55) hx hb hts inX11 hown hK hP 0 rfl rfl 50 (Nat.le_of_ble_eq_true rfl) (hts _ mw_1209) (fun _ h9 => h9) rfl dX11_few_172 ?_
                      refine lv_iload_n hx hb dX11_few_175 rfl (lv_at hl 2 rfl) ?_
                      refine lv_aload_n hx hb dX11_few_176 rfl (lv_at hl 3 rfl) ?_
                      refine lv_iload_n hx hb dX11_few_177 rfl (lv_at hl 2 rfl) ?_
                      refine lv_iload_n hx hb dX11_few_178 rfl (lv_at hl 4 rfl) ?_
                      obtain ⟨hPc, hDc, hFc⟩ := zo_sub (wc := [_, _, _, _, _, _, _, _]) hP hD hS hA [0, 2, 10, 1, 11, 12, 13, 24] (by decide +kernel) rfl
                      refine zcall (st1 := [.int (pI (smF ft st tn kd mn cx cy le9.toInt q)), .int (nI q), .ref (a 50)]) (va_runV (As := [.int (nI q), .int le9]) (rest := [.int (nI q), .ref (a 50)]) ⟨hx, hb, hml, hown, hts⟩ (k_M_isSmall l dC dI cI cZ cF H.size k0 a (upd I0 26 (nI ln)) J0 q ft le9 st tn kd mn cx cy S3 (by first | with_reducible assumption | assumption) (by first | with_reducible assumption | omega) (by first | with_reducible assumption | omega) (by first | with_reducible assumption | assumption)) (csV_220 hts rfl rfl ⟨Nat.le_of_ble_eq_true rfl, Nat.le_of_ble_eq_true rfl⟩) (zPV2 (q0 := 0) (ci := 9) hPc hDc hK hXN rfl rfl) rfl rfl hl.1 rfl (lv_room (Nat.le_of_ble_eq_true rfl)) dX11_few_179 ⟨Nat.zero_le _, Nat.zero_le _⟩) hS hFc hFc rfl (fun t H locs ht hB hk1 hS => ?_)
                      obtain ⟨S6, hP1, hD1⟩ := hB
                      rw [ht] at hP1
                      obtain ⟨hP, hD⟩ := zn (W2 := [_, _, _, _, _, _, _, _, _, _, _, _, _, _, _, _, _, _, _, _, _, _, _, _, (oa (a 32) cI 8 S6)]) hP hD hk1 hFc hP1 hD1 zl_239 zl_240 zl_241 zl_239 (by decide +kernel) rfl rfl rfl rfl rfl
                      clear hk1 hPc hDc hFc hP1 hD1 ht
                      refine lv_if_eq (tgt := 195) hx hb dX11_few_182 rfl (fun c_16 => ?_) (fun c_16 => ?_)
                      · have c_16 : ¬ (smF ft st tn kd mn cx cy le9.toInt q) := zp_0 c_16
                        refine lv_iconst (v := 0) hx hb dX11_few_195 rfl ?_
                        refine zz_i (v := pI (fwM ft st tn kd mn tw cx cy le9.toInt mv9.toInt q)) (by first | exact fw_s (by first | with_reducible assumption | assumption) | exact fw_t (k := k) (by first | with_reducible assumption | assumption) (by omega) (by omega) | exact fw_n (k := k) (by omega) (by omega) | (exfalso; have h1 : ¬ smF ft st tn kd mn cx cy le9.toInt q := (by first | with_reducible assumption | assumption); exact h1 (by first | with_reducible assumption | assumption))) ?_
                        have b9_17 : q < 201 := by omega
                        refine z_zast hx hb hK hP hD hS 23 1 rfl rfl (e := q) (x := pI (fwM ft st tn kd mn tw cx cy le9.toInt mv9.toInt q)) rfl b9_17 (Nat.le_of_ble_eq_true rfl) (zp_and _) dX11_few_196 (fun H locs hP hD hS => ?_)
                        obtain ⟨hP, hD⟩ := zre (W2 := [_, _, _, _, _, _, _, _, _, _, _, _, _, _, _, _, _, _, _, _, _, _, _, (oa (a 50) cZ 201 (upd mk1 q (pI (fwM ft st tn kd mn tw cx cy le9.toInt mv9.toInt q)))), _]) hP hD rfl
                        refine lv_iinc (v := nI (q + 1)) (lv' := [(3, .int (nI (q + 1))), (5, .int (nI k)), (4, .int (nI (cntP (gtF ft st tn kd mn tw cx cy q) k))), (0, .ref k0), (1, .int le9), (2, .int mv9)]) hx hb dX11_few_197 hl (k := 2) rfl (nI_add q 1) (Nat.le_of_ble_eq_true rfl) rfl (fun ls hl => ?_)
                        refine lv_goto (tgt := 23) hx hb dX11_few_200 rfl ?_
                        exact ih_23 (q + 1) (upd mk1 q (pI (fwM ft st tn kd mn tw cx cy le9.toInt mv9.toInt q))) S6 H locs ls (by first | with_reducible assumption | omega) (by first | with_reducible assumption | omega) (by intro j hj; rcases Nat.lt_or_ge j q with h | h; simp only [upd, if_neg (show j ≠ q by omega)]; exact hmk j h; rw [show j = q by omega]; simp only [upd, if_true]) hP hD hS (lv_sub hl [0, 3, 4, 5] rfl)
                      · have c_16 : smF ft st tn kd mn cx cy le9.toInt q := zp_1 c_16
                        refine lv_iload hx hb dX11_few_185 (lv_at hl 1 rfl) ?_
                        refine lv_iload_n hx hb dX11_few_187 rfl (lv_at hl 5 rfl) ?_
                        have b9_19 : zlt ((cntP (gtF ft st tn kd mn tw cx cy q) k)) := show (cntP (gtF ft st tn kd mn tw cx cy q) k) < 2147483648 by omega
                        refine lv_icmp_lt (tgt := 195) hx hb dX11_few_188 rfl (fun c_18 => ?_) (fun c_18 => ?_)
                        · have c_18 : ((cntP (gtF ft st tn kd mn tw cx cy q) k : Nat) : Int) < mv9.toInt := zc_lt (nI_toInt b9_19) rfl c_18
                          refine lv_iconst (v := 0) hx hb dX11_few_195 rfl ?_
                          refine zz_i (v := pI (fwM ft st tn kd mn tw cx cy le9.toInt mv9.toInt q)) (by first | exact fw_s (by first | with_reducible assumption | assumption) | exact fw_t (k := k) (by first | with_reducible assumption | assumption) (by omega) (by omega) | exact fw_n (k := k) (by omega) (by omega) | (exfalso; have h1 : ¬ smF ft st tn kd mn cx cy le9.toInt q := (by first | with_reducible assumption | assumption); exact h1 (by first | with_reducible assumption | assumption))) ?_
                          have b9_20 : q < 201 := by omega
                          refine z_zast hx hb hK hP hD hS 23 1 rfl rfl (e := q) (x := pI (fwM ft st tn kd mn tw cx cy le9.toInt mv9.toInt q)) rfl b9_20 (Nat.le_of_ble_eq_true rfl) (zp_and _) dX11_few_196 (fun H locs hP hD hS => ?_)
                          obtain ⟨hP, hD⟩ := zre (W2 := [_, _, _, _, _, _, _, _, _, _, _, _, _, _, _, _, _, _, _, _, _, _, _, (oa (a 50) cZ 201 (upd mk1 q (pI (fwM ft st tn kd mn tw cx cy le9.toInt mv9.toInt q)))), _]) hP hD rfl
                          refine lv_iinc (v := nI (q + 1)) (lv' := [(3, .int (nI (q + 1))), (5, .int (nI k)), (4, .int (nI (cntP (gtF ft st tn kd mn tw cx cy q) k))), (0, .ref k0), (1, .int le9), (2, .int mv9)]) hx hb dX11_few_197 hl (k := 2) rfl (nI_add q 1) (Nat.le_of_ble_eq_true rfl) rfl (fun ls hl => ?_)
                          refine lv_goto (tgt := 23) hx hb dX11_few_200 rfl ?_
                          exact ih_23 (q + 1) (upd mk1 q (pI (fwM ft st tn kd mn tw cx cy le9.toInt mv9.toInt q))) S6 H locs ls (by first | with_reducible assumption | omega) (by first | with_reducible assumption | omega) (by intro j hj; rcases Nat.lt_or_ge j q with h | h; simp only [upd, if_neg (show j ≠ q by omega)]; exact hmk j h; rw [show j = q by omega]; simp only [upd, if_true]) hP hD hS (lv_sub hl [0, 3, 4, 5] rfl)
                        · have c_18 : mv9.toInt ≤ ((cntP (gtF ft st tn kd mn tw cx cy q) k : Nat) : Int) := zc_nlt (nI_toInt b9_19) rfl c_18
                          refine lv_iconst (v := 1) hx hb dX11_few_191 rfl ?_
                          refine lv_goto (tgt := 196) hx hb dX11_few_192 rfl ?_
                          refine zz_i (v := pI (fwM ft st tn kd mn tw cx cy le9.toInt mv9.toInt q)) (by first | exact fw_s (by first | with_reducible assumption | assumption) | exact fw_t (k := k) (by first | with_reducible assumption | assumption) (by omega) (by omega) | exact fw_n (k := k) (by omega) (by omega) | (exfalso; have h1 : ¬ smF ft st tn kd mn cx cy le9.toInt q := (by first | with_reducible assumption | assumption); exact h1 (by first | with_reducible assumption | assumption))) ?_
                          have b9_21 : q < 201 := by omega
                          refine z_zast hx hb hK hP hD hS 23 1 rfl rfl (e := q) (x := pI (fwM ft st tn kd mn tw cx cy le9.toInt mv9.toInt q)) rfl b9_21 (Nat.le_of_ble_eq_true rfl) (zp_and _) dX11_few_196 (fun H locs hP hD hS => ?_)
                          obtain ⟨hP, hD⟩ := zre (W2 := [_, _, _, _, _, _, _, _, _, _, _, _, _, _, _, _, _, _, _, _, _, _, _, (oa (a 50) cZ 201 (upd mk1 q (pI (fwM ft st tn kd mn tw cx cy le9.toInt mv9.toInt q)))), _]) hP hD rfl
                          refine lv_iinc (v := nI (q + 1)) (lv' := [(3, .int (nI (q + 1))), (5, .int (nI k)), (4, .int (nI (cntP (gtF ft st tn kd mn tw cx cy q) k))), (0, .ref k0), (1, .int le9), (2, .int mv9)]) hx hb dX11_few_197 hl (k := 2) rfl (nI_add q 1) (Nat.le_of_ble_eq_true rfl) rfl (fun ls hl => ?_)
                          refine lv_goto (tgt := 23) hx hb dX11_few_200 rfl ?_
                          exact ih_23 (q + 1) (upd mk1 q (pI (fwM ft st tn kd mn tw cx cy le9.toInt mv9.toInt q))) S6 H locs ls (by first | with_reducible assumption | omega) (by first | with_reducible assumption | omega) (by intro j hj; rcases Nat.lt_or_ge j q with h | h; simp only [upd, if_neg (show j ≠ q by omega)]; exact hmk j h; rw [show j = q by omega]; simp only [upd, if_true]) hP hD hS (lv_sub hl [0, 3, 4, 5] rfl)
                    · have c_15 : smF ft st tn kd mn cx cy le9.toInt q := zp_1 c_15
                      have hwq := hwf q (by have h9 : smF ft st tn kd mn cx cy le9.toInt q := (by first | with_reducible assumption | assumption); exact h9.1)
                      have hmq := hwq.1
                      have hnq := hwq.2.1
                      have hpq := hwq.2.2
                      have haq := arF_b hwq
                      refine lv_iload hx hb dX11_few_55 (lv_at hl 0 rfl) ?_
                      refine lv_iload_n hx hb dX11_few_57 rfl (lv_at hl 2 rfl) ?_
                      have b9_23 : zlt (q) := show q < 2147483648 by omega
                      refine lv_icmp_eq (tgt := 102) hx hb dX11_few_58 rfl (fun c_22 => ?_) (fun c_22 => ?_)
                      · have c_22 : ((k : Nat) : Int) = ((q : Nat) : Int) := zc_eq (nI_toInt b9_8) (nI_toInt b9_23) c_22
                        refine lv_iconst (v := 0) hx hb dX11_few_102 rfl ?_
                        refine lv_istore (lv' := [(6, .int 0), (5, .int (nI k)), (4, .int (nI (cntP (gtF ft st tn kd mn tw cx cy q) k))), (3, .int (nI q)), (0, .ref k0), (1, .int le9), (2, .int mv9)]) hx hb dX11_few_103 hl (Nat.le_of_ble_eq_true rfl) rfl (fun ls hl => ?_)
                        refine lv_iload hx hb dX11_few_105 (lv_at hl 0 rfl) ?_
                        refine lv_if_eq (tgt := 125) hx hb dX11_few_107 rfl (fun c_24 => ?_) (fun c_24 => ?_)
                        · refine lv_ldc2 hx hb hown (hts _ mw_1620) dX11_few_125 ?_
                          refine lv_lstore (lv' := [(7, .long (-1)), (6, .int 0), (5, .int (nI k)), (4, .int (nI (cntP (gtF ft st tn kd mn tw cx cy q) k))), (3, .int (nI q)), (0, .ref k0), (1, .int le9), (2, .int mv9)]) hx hb dX11_few_128 hl (Nat.le_of_ble_eq_true rfl) rfl (fun ls hl => ?_)
                          refine lv_iload hx hb dX11_few_130 (lv_at hl 3 rfl) ?_
                          refine lv_iload hx hb dX11_few_132 (lv_at hl 1 rfl) ?_
                          refine lv_if_eq (tgt := 161) hx hb dX11_few_134 rfl (fun c_25 => ?_) (fun c_25 => ?_)
                          · refine lv_iconst (v := 0) hx hb dX11_few_161 rfl ?_
                            refine lv_iadd hx hb dX11_few_162 ?_
                            refine zz_i (v := nI ((cntP (gtF ft st tn kd mn tw cx cy q) k) + 0)) (nI_add (cntP (gtF ft st tn kd mn tw cx cy q) k) 0) ?_
                            refine lv_istore (lv' := [(4, .int (nI ((cntP (gtF ft st tn kd mn tw cx cy q) k) + 0))), (7, .long (-1)), (6, .int 0), (5, .int (nI k)), (3, .int (nI q)), (0, .ref k0), (1, .int le9), (2, .int mv9)]) hx hb dX11_few_163 hl (Nat.le_of_ble_eq_true rfl) rfl (fun ls hl => ?_)
                            refine lv_iinc (v := nI (k + 1)) (lv' := [(5, .int (nI (k + 1))), (4, .int (nI ((cntP (gtF ft st tn kd mn tw cx cy q) k) + 0))), (7, .long (-1)), (6, .int 0), (3, .int (nI q)), (0, .ref k0), (1, .int le9), (2, .int mv9)]) hx hb dX11_few_165 hl (k := 3) rfl (nI_add k 1) (Nat.le_of_ble_eq_true rfl) rfl (fun ls hl => ?_)
                            refine lv_goto (tgt := 37) hx hb dX11_few_168 rfl ?_
                            have hl9 := lv_sub hl [0, 1, 4, 5, 6, 7] rfl
                            have e9_4 : nI (cntP (gtF ft st tn kd mn tw cx cy q) (k + 1)) = (nI ((cntP (gtF ft st tn kd mn tw cx cy q) k) + 0) : Int32) := by first | (rw [cntP_n (by unfold gtF; first | (intro h; exact absurd h.2.1 (by first | with_reducible assumption | assumption)) | (intro h; have h1 := h.1; have h2 := h.2.2.1; have h3 := h.2.2.2.1; have h4 := h.2.2.2.2; omega))]; first | done | rfl) | (rw [cntP_y (by unfold gtF; exact ⟨by omega, by assumption, by omega, by omega, by omega⟩)])
                            have hl9 : lv_has ls 9 [(5, .int (nI (k + 1))), (4, .int (nI (cntP (gtF ft st tn kd mn tw cx cy q) (k + 1)))), (3, .int (nI q)), (0, .ref k0), (1, .int le9), (2, .int mv9)] := by rw [e9_4]; exact hl9
                            exact ih_37 (k + 1) S3 H locs ls (by first | with_reducible assumption | omega) (by first | with_reducible assumption | omega) hP hD hS hl9
                          · exact absurd (by decide) c_25
                        · exact absurd (by decide) c_24
                      · have c_22 : ¬ ((k : Nat) : Int) = ((q : Nat) : Int) := zc_ne (nI_toInt b9_8) (nI_toInt b9_23) c_22
                        refine lv_aload_n hx hb dX11_few_61 rfl (lv_at hl 3 rfl) ?_
                        refine lv_iload hx hb dX11_few_62 (lv_at hl 0 rfl) ?_
                        obtain ⟨hPc, hDc, hFc, hI1⟩ := zi_sub (wc := [_, _, _]) hP hD hS hA [0, 2, 10] rfl rfl
                        refine zcall (st1 := [.int (pI (k < ft ∧ (st k).toInt = 1 ∧ (tn k).toInt = 0))]) (va_runV (As := [.int (nI k)]) (rest := []) ⟨hx, hb, hml, hown, hts⟩ (k_M_is_n l dC dI cI cZ cF H.size k0 a (upd I0 26 (nI ln)) J0 k ft st tn (by first | with_reducible assumption | assumption) (by first | with_reducible assumption | omega) (by first | with_reducible assumption | omega)) (csV_179 hts rfl rfl ⟨Nat.le_of_ble_eq_true rfl, Nat.le_of_ble_eq_true rfl⟩) (zPV2 (q0 := 0) (ci := 9) hPc hDc hK hXN rfl rfl) rfl rfl hl.1 rfl (lv_room (Nat.le_of_ble_eq_true rfl)) dX11_few_64 ⟨Nat.zero_le _, Nat.zero_le _⟩) hS hFc hFc rfl (fun t H locs ht hB hk1 hS => ?_)
                        obtain ⟨hP1, hD1⟩ := hB
                        rw [ht] at hP1
                        replace hP := z0 hP hD hk1 hP1 hI1
                        clear hk1 hPc hDc hFc hP1 hD1 ht hI1
                        refine lv_if_eq (tgt := 102) hx hb dX11_few_67 rfl (fun c_26 => ?_) (fun c_26 => ?_)
                        · have c_26 : ¬ (k < ft ∧ (st k).toInt = 1 ∧ (tn k).toInt = 0) := zp_0 c_26
                          refine lv_iconst (v := 0) hx hb dX11_few_102 rfl ?_
                          refine lv_istore (lv' := [(6, .int 0), (5, .int (nI k)), (4, .int (nI (cntP (gtF ft st tn kd mn tw cx cy q) k))), (3, .int (nI q)), (0, .ref k0), (1, .int le9), (2, .int mv9)]) hx hb dX11_few_103 hl (Nat.le_of_ble_eq_true rfl) rfl (fun ls hl => ?_)
                          refine lv_iload hx hb dX11_few_105 (lv_at hl 0 rfl) ?_
                          refine lv_if_eq (tgt := 125) hx hb dX11_few_107 rfl (fun c_27 => ?_) (fun c_27 => ?_)
                          · refine lv_ldc2 hx hb hown (hts _ mw_1620) dX11_few_125 ?_
                            refine lv_lstore (lv' := [(7, .long (-1)), (6, .int 0), (5, .int (nI k)), (4, .int (nI (cntP (gtF ft st tn kd mn tw cx cy q) k))), (3, .int (nI q)), (0, .ref k0), (1, .int le9), (2, .int mv9)]) hx hb dX11_few_128 hl (Nat.le_of_ble_eq_true rfl) rfl (fun ls hl => ?_)
                            refine lv_iload hx hb dX11_few_130 (lv_at hl 3 rfl) ?_
                            refine lv_iload hx hb dX11_few_132 (lv_at hl 1 rfl) ?_
                            refine lv_if_eq (tgt := 161) hx hb dX11_few_134 rfl (fun c_28 => ?_) (fun c_28 => ?_)
                            · refine lv_iconst (v := 0) hx hb dX11_few_161 rfl ?_
                              refine lv_iadd hx hb dX11_few_162 ?_
                              refine zz_i (v := nI ((cntP (gtF ft st tn kd mn tw cx cy q) k) + 0)) (nI_add (cntP (gtF ft st tn kd mn tw cx cy q) k) 0) ?_
                              refine lv_istore (lv' := [(4, .int (nI ((cntP (gtF ft st tn kd mn tw cx cy q) k) + 0))), (7, .long (-1)), (6, .int 0), (5, .int (nI k)), (3, .int (nI q)), (0, .ref k0), (1, .int le9), (2, .int mv9)]) hx hb dX11_few_163 hl (Nat.le_of_ble_eq_true rfl) rfl (fun ls hl => ?_)
                              refine lv_iinc (v := nI (k + 1)) (lv' := [(5, .int (nI (k + 1))), (4, .int (nI ((cntP (gtF ft st tn kd mn tw cx cy q) k) + 0))), (7, .long (-1)), (6, .int 0), (3, .int (nI q)), (0, .ref k0), (1, .int le9), (2, .int mv9)]) hx hb dX11_few_165 hl (k := 3) rfl (nI_add k 1) (Nat.le_of_ble_eq_true rfl) rfl (fun ls hl => ?_)
                              refine lv_goto (tgt := 37) hx hb dX11_few_168 rfl ?_
                              have hl9 := lv_sub hl [0, 1, 4, 5, 6, 7] rfl
                              have e9_4 : nI (cntP (gtF ft st tn kd mn tw cx cy q) (k + 1)) = (nI ((cntP (gtF ft st tn kd mn tw cx cy q) k) + 0) : Int32) := by first | (rw [cntP_n (by unfold gtF; first | (intro h; exact absurd h.2.1 (by first | with_reducible assumption | assumption)) | (intro h; have h1 := h.1; have h2 := h.2.2.1; have h3 := h.2.2.2.1; have h4 := h.2.2.2.2; omega))]; first | done | rfl) | (rw [cntP_y (by unfold gtF; exact ⟨by omega, by assumption, by omega, by omega, by omega⟩)])
                              have hl9 : lv_has ls 9 [(5, .int (nI (k + 1))), (4, .int (nI (cntP (gtF ft st tn kd mn tw cx cy q) (k + 1)))), (3, .int (nI q)), (0, .ref k0), (1, .int le9), (2, .int mv9)] := by rw [e9_4]; exact hl9
                              exact ih_37 (k + 1) S3 H locs ls (by first | with_reducible assumption | omega) (by first | with_reducible assumption | omega) hP hD hS hl9
                            · exact absurd (by decide) c_28
                          · exact absurd (by decide) c_27
                        · have c_26 : k < ft ∧ (st k).toInt = 1 ∧ (tn k).toInt = 0 := zp_1 c_26
                          have hwk := hwf k (by first | with_reducible assumption | assumption)
                          have hmk9 := hwk.1
                          have hnk := hwk.2.1
                          have hpk := hwk.2.2
                          have hak := arF_b hwk
                          refine lv_aload_n hx hb dX11_few_70 rfl (lv_at hl 3 rfl) ?_
                          refine va_get (D := (dC, dI)) (ci := 9) (v := .ref (a 1)) (C := RX11) (T := TX11) (N := 55) hx hb hts inX11 hown hK hP 0 rfl rfl 1 (Nat.le_of_ble_eq_true rfl) (hts _ mw_1160) (fun _ h9 => h9) rfl dX11_few_71 ?_
                          refine lv_iload hx hb dX11_few_74 (lv_at hl 0 rfl) ?_
                          have b9_29 : k < 201 := by omega
                          refine z_iald hx hb hK hP 1 0 rfl rfl (e := k) rfl b9_29 (Nat.le_of_ble_eq_true rfl) dX11_few_76 ?_
                          refine lv_bipush (v := 6) hx hb dX11_few_77 rfl ?_
                          refine lv_icmp_ne (tgt := 102) hx hb dX11_few_79 rfl (fun c_30 => ?_) (fun c_30 => ?_)
                          · have c_30 : ¬ (kd k).toInt = 6 := zc_ne rfl rfl c_30
                            refine lv_iconst (v := 0) hx hb dX11_few_102 rfl ?_
                            refine lv_istore (lv' := [(6, .int 0), (5, .int (nI k)), (4, .int (nI (cntP (gtF ft st tn kd mn tw cx cy q) k))), (3, .int (nI q)), (0, .ref k0), (1, .int le9), (2, .int mv9)]) hx hb dX11_few_103 hl (Nat.le_of_ble_eq_true rfl) rfl (fun ls hl => ?_)
                            refine lv_iload hx hb dX11_few_105 (lv_at hl 0 rfl) ?_
                            refine lv_if_eq (tgt := 125) hx hb dX11_few_107 rfl (fun c_31 => ?_) (fun c_31 => ?_)
                            · refine lv_ldc2 hx hb hown (hts _ mw_1620) dX11_few_125 ?_
                              refine lv_lstore (lv' := [(7, .long (-1)), (6, .int 0), (5, .int (nI k)), (4, .int (nI (cntP (gtF ft st tn kd mn tw cx cy q) k))), (3, .int (nI q)), (0, .ref k0), (1, .int le9), (2, .int mv9)]) hx hb dX11_few_128 hl (Nat.le_of_ble_eq_true rfl) rfl (fun ls hl => ?_)
                              refine lv_iload hx hb dX11_few_130 (lv_at hl 3 rfl) ?_
                              refine lv_iload hx hb dX11_few_132 (lv_at hl 1 rfl) ?_
                              refine lv_if_eq (tgt := 161) hx hb dX11_few_134 rfl (fun c_32 => ?_) (fun c_32 => ?_)
                              · refine lv_iconst (v := 0) hx hb dX11_few_161 rfl ?_
                                refine lv_iadd hx hb dX11_few_162 ?_
                                refine zz_i (v := nI ((cntP (gtF ft st tn kd mn tw cx cy q) k) + 0)) (nI_add (cntP (gtF ft st tn kd mn tw cx cy q) k) 0) ?_
                                refine lv_istore (lv' := [(4, .int (nI ((cntP (gtF ft st tn kd mn tw cx cy q) k) + 0))), (7, .long (-1)), (6, .int 0), (5, .int (nI k)), (3, .int (nI q)), (0, .ref k0), (1, .int le9), (2, .int mv9)]) hx hb dX11_few_163 hl (Nat.le_of_ble_eq_true rfl) rfl (fun ls hl => ?_)
                                refine lv_iinc (v := nI (k + 1)) (lv' := [(5, .int (nI (k + 1))), (4, .int (nI ((cntP (gtF ft st tn kd mn tw cx cy q) k) + 0))), (7, .long (-1)), (6, .int 0), (3, .int (nI q)), (0, .ref k0), (1, .int le9), (2, .int mv9)]) hx hb dX11_few_165 hl (k := 3) rfl (nI_add k 1) (Nat.le_of_ble_eq_true rfl) rfl (fun ls hl => ?_)
                                refine lv_goto (tgt := 37) hx hb dX11_few_168 rfl ?_
                                have hl9 := lv_sub hl [0, 1, 4, 5, 6, 7] rfl
                                have e9_4 : nI (cntP (gtF ft st tn kd mn tw cx cy q) (k + 1)) = (nI ((cntP (gtF ft st tn kd mn tw cx cy q) k) + 0) : Int32) := by first | (rw [cntP_n (by unfold gtF; first | (intro h; exact absurd h.2.1 (by first | with_reducible assumption | assumption)) | (intro h; have h1 := h.1; have h2 := h.2.2.1; have h3 := h.2.2.2.1; have h4 := h.2.2.2.2; omega))]; first | done | rfl) | (rw [cntP_y (by unfold gtF; exact ⟨by omega, by assumption, by omega, by omega, by omega⟩)])
                                have hl9 : lv_has ls 9 [(5, .int (nI (k + 1))), (4, .int (nI (cntP (gtF ft st tn kd mn tw cx cy q) (k + 1)))), (3, .int (nI q)), (0, .ref k0), (1, .int le9), (2, .int mv9)] := by rw [e9_4]; exact hl9
                                exact ih_37 (k + 1) S3 H locs ls (by first | with_reducible assumption | omega) (by first | with_reducible assumption | omega) hP hD hS hl9
                              · exact absurd (by decide) c_32
                            · exact absurd (by decide) c_31
                          · have c_30 : (kd k).toInt = 6 := zc_eq rfl rfl c_30
                            refine lv_aload_n hx hb dX11_few_82 rfl (lv_at hl 3 rfl) ?_
                            refine va_get (D := (dC, dI)) (ci := 9) (v := .ref (a 4)) (C := RX11) (T := TX11) (N := 55) hx hb hts inX11 hown hK hP 0 rfl rfl 4 (Nat.le_of_ble_eq_true rfl) (hts _ mw_1163) (fun _ h9 => h9) rfl dX11_few_83 ?_
                            refine lv_iload hx hb dX11_few_86 (lv_at hl 0 rfl) ?_
                            refine z_iald hx hb hK hP 9 0 rfl rfl (e := k) rfl b9_29 (Nat.le_of_ble_eq_true rfl) dX11_few_88 ?_
                            refine lv_aload_n hx hb dX11_few_89 rfl (lv_at hl 3 rfl) ?_
                            refine va_get (D := (dC, dI)) (ci := 9) (v := .ref (a 4)) (C := RX11) (T := TX11) (N := 55) hx hb hts inX11 hown hK hP 0 rfl rfl 4 (Nat.le_of_ble_eq_true rfl) (hts _ mw_1163) (fun _ h9 => h9) rfl dX11_few_90 ?_
                            refine lv_iload_n hx hb dX11_few_93 rfl (lv_at hl 2 rfl) ?_
                            have b9_33 : q < 201 := by omega
                            refine z_iald hx hb hK hP 9 0 rfl rfl (e := q) rfl b9_33 (Nat.le_of_ble_eq_true rfl) dX11_few_94 ?_
                            refine lv_icmp_ne (tgt := 102) hx hb dX11_few_95 rfl (fun c_34 => ?_) (fun c_34 => ?_)
                            · have c_34 : ¬ (tw k).toInt = (tw q).toInt := zc_ne rfl rfl c_34
                              refine lv_iconst (v := 0) hx hb dX11_few_102 rfl ?_
                              refine lv_istore (lv' := [(6, .int 0), (5, .int (nI k)), (4, .int (nI (cntP (gtF ft st tn kd mn tw cx cy q) k))), (3, .int (nI q)), (0, .ref k0), (1, .int le9), (2, .int mv9)]) hx hb dX11_few_103 hl (Nat.le_of_ble_eq_true rfl) rfl (fun ls hl => ?_)
                              refine lv_iload hx hb dX11_few_105 (lv_at hl 0 rfl) ?_
                              refine lv_if_eq (tgt := 125) hx hb dX11_few_107 rfl (fun c_35 => ?_) (fun c_35 => ?_)
                              · refine lv_ldc2 hx hb hown (hts _ mw_1620) dX11_few_125 ?_
                                refine lv_lstore (lv' := [(7, .long (-1)), (6, .int 0), (5, .int (nI k)), (4, .int (nI (cntP (gtF ft st tn kd mn tw cx cy q) k))), (3, .int (nI q)), (0, .ref k0), (1, .int le9), (2, .int mv9)]) hx hb dX11_few_128 hl (Nat.le_of_ble_eq_true rfl) rfl (fun ls hl => ?_)
                                refine lv_iload hx hb dX11_few_130 (lv_at hl 3 rfl) ?_
                                refine lv_iload hx hb dX11_few_132 (lv_at hl 1 rfl) ?_
                                refine lv_if_eq (tgt := 161) hx hb dX11_few_134 rfl (fun c_36 => ?_) (fun c_36 => ?_)
                                · refine lv_iconst (v := 0) hx hb dX11_few_161 rfl ?_
                                  refine lv_iadd hx hb dX11_few_162 ?_
                                  refine zz_i (v := nI ((cntP (gtF ft st tn kd mn tw cx cy q) k) + 0)) (nI_add (cntP (gtF ft st tn kd mn tw cx cy q) k) 0) ?_
                                  refine lv_istore (lv' := [(4, .int (nI ((cntP (gtF ft st tn kd mn tw cx cy q) k) + 0))), (7, .long (-1)), (6, .int 0), (5, .int (nI k)), (3, .int (nI q)), (0, .ref k0), (1, .int le9), (2, .int mv9)]) hx hb dX11_few_163 hl (Nat.le_of_ble_eq_true rfl) rfl (fun ls hl => ?_)
                                  refine lv_iinc (v := nI (k + 1)) (lv' := [(5, .int (nI (k + 1))), (4, .int (nI ((cntP (gtF ft st tn kd mn tw cx cy q) k) + 0))), (7, .long (-1)), (6, .int 0), (3, .int (nI q)), (0, .ref k0), (1, .int le9), (2, .int mv9)]) hx hb dX11_few_165 hl (k := 3) rfl (nI_add k 1) (Nat.le_of_ble_eq_true rfl) rfl (fun ls hl => ?_)
                                  refine lv_goto (tgt := 37) hx hb dX11_few_168 rfl ?_
                                  have hl9 := lv_sub hl [0, 1, 4, 5, 6, 7] rfl
                                  have e9_4 : nI (cntP (gtF ft st tn kd mn tw cx cy q) (k + 1)) = (nI ((cntP (gtF ft st tn kd mn tw cx cy q) k) + 0) : Int32) := by first | (rw [cntP_n (by unfold gtF; first | (intro h; exact absurd h.2.1 (by first | with_reducible assumption | assumption)) | (intro h; have h1 := h.1; have h2 := h.2.2.1; have h3 := h.2.2.2.1; have h4 := h.2.2.2.2; omega))]; first | done | rfl) | (rw [cntP_y (by unfold gtF; exact ⟨by omega, by assumption, by omega, by omega, by omega⟩)])
                                  have hl9 : lv_has ls 9 [(5, .int (nI (k + 1))), (4, .int (nI (cntP (gtF ft st tn kd mn tw cx cy q) (k + 1)))), (3, .int (nI q)), (0, .ref k0), (1, .int le9), (2, .int mv9)] := by rw [e9_4]; exact hl9
                                  exact ih_37 (k + 1) S3 H locs ls (by first | with_reducible assumption | omega) (by first | with_reducible assumption | omega) hP hD hS hl9
                                · exact absurd (by decide) c_36
                              · exact absurd (by decide) c_35
                            · have c_34 : (tw k).toInt = (tw q).toInt := zc_eq rfl rfl c_34
                              refine lv_iconst (v := 1) hx hb dX11_few_98 rfl ?_
                              refine lv_goto (tgt := 103) hx hb dX11_few_99 rfl ?_
                              refine lv_istore (lv' := [(6, .int 1), (5, .int (nI k)), (4, .int (nI (cntP (gtF ft st tn kd mn tw cx cy q) k))), (3, .int (nI q)), (0, .ref k0), (1, .int le9), (2, .int mv9)]) hx hb dX11_few_103 hl (Nat.le_of_ble_eq_true rfl) rfl (fun ls hl => ?_)
                              refine lv_iload hx hb dX11_few_105 (lv_at hl 0 rfl) ?_
                              refine lv_if_eq (tgt := 125) hx hb dX11_few_107 rfl (fun c_37 => ?_) (fun c_37 => ?_)
                              · exact absurd c_37 (by decide)
                              · refine lv_aload_n hx hb dX11_few_110 rfl (lv_at hl 4 rfl) ?_
                                refine lv_iload hx hb dX11_few_111 (lv_at hl 1 rfl) ?_
                                obtain ⟨hPc, hDc, hFc⟩ := zo_sub (wc := [_, _, _, _, _]) hP hD hS hA [0, 11, 12, 13, 24] (by decide +kernel) rfl
                                refine zcall (st1 := [.long (jI ((Int.natAbs (ar2 (nN (mn k)) (cF40 cx k) (cF40 cy k) (nN (mn k))) : Nat) : Int))]) (va_runV (As := [.int (nI k)]) (rest := []) ⟨hx, hb, hml, hown, hts⟩ (k_M_area l dC dI cI cZ cF H.size k0 a (upd I0 26 (nI ln)) J0 k (nN (mn k)) mn cx cy S3 (by first | with_reducible assumption | omega) (by first | with_reducible assumption | assumption) (by first | with_reducible assumption | omega) (by first | with_reducible assumption | assumption)) (csV_218 hts rfl rfl ⟨Nat.le_of_ble_eq_true rfl, Nat.le_of_ble_eq_true rfl⟩) (zPV2 (q0 := 0) (ci := 9) hPc hDc hK hXN rfl rfl) rfl rfl hl.1 rfl (lv_room (Nat.le_of_ble_eq_true rfl)) dX11_few_113 ⟨Nat.zero_le _, Nat.zero_le _⟩) hS hFc hFc rfl (fun t H locs ht hB hk1 hS => ?_)
                                obtain ⟨S4, hP1, hD1⟩ := hB
                                rw [ht] at hP1
                                obtain ⟨hP, hD⟩ := zn (W2 := [_, _, _, _, _, _, _, _, _, _, _, _, _, _, _, _, _, _, _, _, _, _, _, _, (oa (a 32) cI 8 S4)]) hP hD hk1 hFc hP1 hD1 [0, 11, 12, 13, 24] zl_242 zl_243 [0, 11, 12, 13, 24] (by decide +kernel) rfl rfl rfl rfl rfl
                                clear hk1 hPc hDc hFc hP1 hD1 ht
                                refine zz_l (v := jI ((arF mn cx cy k : Nat) : Int)) (rfl) ?_
                                refine lv_aload_n hx hb dX11_few_116 rfl (lv_at hl 4 rfl) ?_
                                refine lv_iload_n hx hb dX11_few_117 rfl (lv_at hl 3 rfl) ?_
                                obtain ⟨hPc, hDc, hFc⟩ := zo_sub (wc := [_, _, _, _, _]) hP hD hS hA [0, 11, 12, 13, 24] (by decide +kernel) rfl
                                refine zcall (st1 := [.long (jI ((Int.natAbs (ar2 (nN (mn q)) (cF40 cx q) (cF40 cy q) (nN (mn q))) : Nat) : Int)), .long (jI ((arF mn cx cy k : Nat) : Int))]) (va_runV (As := [.int (nI q)]) (rest := [.long (jI ((arF mn cx cy k : Nat) : Int))]) ⟨hx, hb, hml, hown, hts⟩ (k_M_area l dC dI cI cZ cF H.size k0 a (upd I0 26 (nI ln)) J0 q (nN (mn q)) mn cx cy S4 (by first | with_reducible assumption | omega) (by first | with_reducible assumption | assumption) (by first | with_reducible assumption | omega) (by first | with_reducible assumption | assumption)) (csV_218 hts rfl rfl ⟨Nat.le_of_ble_eq_true rfl, Nat.le_of_ble_eq_true rfl⟩) (zPV2 (q0 := 0) (ci := 9) hPc hDc hK hXN rfl rfl) rfl rfl hl.1 rfl (lv_room (Nat.le_of_ble_eq_true rfl)) dX11_few_118 ⟨Nat.zero_le _, Nat.zero_le _⟩) hS hFc hFc rfl (fun t H locs ht hB hk1 hS => ?_)
                                obtain ⟨S5, hP1, hD1⟩ := hB
                                rw [ht] at hP1
                                obtain ⟨hP, hD⟩ := zn (W2 := [_, _, _, _, _, _, _, _, _, _, _, _, _, _, _, _, _, _, _, _, _, _, _, _, (oa (a 32) cI 8 S5)]) hP hD hk1 hFc hP1 hD1 [0, 11, 12, 13, 24] zl_242 zl_243 [0, 11, 12, 13, 24] (by decide +kernel) rfl rfl rfl rfl rfl
                                clear hk1 hPc hDc hFc hP1 hD1 ht
                                refine zz_l (v := jI ((arF mn cx cy q : Nat) : Int)) (rfl) ?_
                                refine lv_lsub hx hb dX11_few_121 ?_
                                refine zz_l (v := jI (((arF mn cx cy k : Nat) : Int) - ((arF mn cx cy q : Nat) : Int))) (jI_sub (by omega) (by omega)) ?_
                                refine lv_goto (tgt := 128) hx hb dX11_few_122 rfl ?_
                                refine lv_lstore (lv' := [(7, .long (jI (((arF mn cx cy k : Nat) : Int) - ((arF mn cx cy q : Nat) : Int)))), (6, .int 1), (5, .int (nI k)), (4, .int (nI (cntP (gtF ft st tn kd mn tw cx cy q) k))), (3, .int (nI q)), (0, .ref k0), (1, .int le9), (2, .int mv9)]) hx hb dX11_few_128 hl (Nat.le_of_ble_eq_true rfl) rfl (fun ls hl => ?_)
                                refine lv_iload hx hb dX11_few_130 (lv_at hl 3 rfl) ?_
                                refine lv_iload hx hb dX11_few_132 (lv_at hl 1 rfl) ?_
                                refine lv_if_eq (tgt := 161) hx hb dX11_few_134 rfl (fun c_38 => ?_) (fun c_38 => ?_)
                                · exact absurd c_38 (by decide)
                                · refine lv_lload hx hb dX11_few_137 (lv_at hl 0 rfl) ?_
                                  refine lv_lconst (v := 0) hx hb dX11_few_139 rfl ?_
                                  refine W.lcmp hx hb dX11_few_140 ?_
                                  refine lv_if_gt (tgt := 157) hx hb dX11_few_141 rfl (fun c_39 => ?_) (fun c_39 => ?_)
                                  · have c_39 : 0 < (((arF mn cx cy k : Nat) : Int) - ((arF mn cx cy q : Nat) : Int)) := zl_gt (jI_toInt (by omega)) rfl c_39
                                    refine lv_iconst (v := 1) hx hb dX11_few_157 rfl ?_
                                    refine lv_goto (tgt := 162) hx hb dX11_few_158 rfl ?_
                                    refine lv_iadd hx hb dX11_few_162 ?_
                                    refine zz_i (v := nI ((cntP (gtF ft st tn kd mn tw cx cy q) k) + 1)) (nI_add (cntP (gtF ft st tn kd mn tw cx cy q) k) 1) ?_
                                    refine lv_istore (lv' := [(4, .int (nI ((cntP (gtF ft st tn kd mn tw cx cy q) k) + 1))), (7, .long (jI (((arF mn cx cy k : Nat) : Int) - ((arF mn cx cy q : Nat) : Int)))), (6, .int 1), (5, .int (nI k)), (3, .int (nI q)), (0, .ref k0), (1, .int le9), (2, .int mv9)]) hx hb dX11_few_163 hl (Nat.le_of_ble_eq_true rfl) rfl (fun ls hl => ?_)
                                    refine lv_iinc (v := nI (k + 1)) (lv' := [(5, .int (nI (k + 1))), (4, .int (nI ((cntP (gtF ft st tn kd mn tw cx cy q) k) + 1))), (7, .long (jI (((arF mn cx cy k : Nat) : Int) - ((arF mn cx cy q : Nat) : Int)))), (6, .int 1), (3, .int (nI q)), (0, .ref k0), (1, .int le9), (2, .int mv9)]) hx hb dX11_few_165 hl (k := 3) rfl (nI_add k 1) (Nat.le_of_ble_eq_true rfl) rfl (fun ls hl => ?_)
                                    refine lv_goto (tgt := 37) hx hb dX11_few_168 rfl ?_
                                    have hl9 := lv_sub hl [0, 1, 4, 5, 6, 7] rfl
                                    have e9_4 : nI (cntP (gtF ft st tn kd mn tw cx cy q) (k + 1)) = (nI ((cntP (gtF ft st tn kd mn tw cx cy q) k) + 1) : Int32) := by first | (rw [cntP_n (by unfold gtF; first | (intro h; exact absurd h.2.1 (by first | with_reducible assumption | assumption)) | (intro h; have h1 := h.1; have h2 := h.2.2.1; have h3 := h.2.2.2.1; have h4 := h.2.2.2.2; omega))]; first | done | rfl) | (rw [cntP_y (by unfold gtF; exact ⟨by omega, by assumption, by omega, by omega, by omega⟩)])
                                    have hl9 : lv_has ls 9 [(5, .int (nI (k + 1))), (4, .int (nI (cntP (gtF ft st tn kd mn tw cx cy q) (k + 1)))), (3, .int (nI q)), (0, .ref k0), (1, .int le9), (2, .int mv9)] := by rw [e9_4]; exact hl9
                                    exact ih_37 (k + 1) S5 H locs ls (by first | with_reducible assumption | omega) (by first | with_reducible assumption | omega) hP hD hS hl9
                                  · have c_39 : (((arF mn cx cy k : Nat) : Int) - ((arF mn cx cy q : Nat) : Int)) ≤ 0 := zl_ngt (jI_toInt (by omega)) rfl c_39
                                    refine lv_lload hx hb dX11_few_144 (lv_at hl 0 rfl) ?_
                                    refine lv_lconst (v := 0) hx hb dX11_few_146 rfl ?_
                                    refine W.lcmp hx hb dX11_few_147 ?_
                                    refine lv_if_ne (tgt := 161) hx hb dX11_few_148 rfl (fun c_40 => ?_) (fun c_40 => ?_)
                                    · have c_40 : ¬ (((arF mn cx cy k : Nat) : Int) - ((arF mn cx cy q : Nat) : Int)) = 0 := zl_ne (jI_toInt (by omega)) rfl c_40
                                      refine lv_iconst (v := 0) hx hb dX11_few_161 rfl ?_
                                      refine lv_iadd hx hb dX11_few_162 ?_
                                      refine zz_i (v := nI ((cntP (gtF ft st tn kd mn tw cx cy q) k) + 0)) (nI_add (cntP (gtF ft st tn kd mn tw cx cy q) k) 0) ?_
                                      refine lv_istore (lv' := [(4, .int (nI ((cntP (gtF ft st tn kd mn tw cx cy q) k) + 0))), (7, .long (jI (((arF mn cx cy k : Nat) : Int) - ((arF mn cx cy q : Nat) : Int)))), (6, .int 1), (5, .int (nI k)), (3, .int (nI q)), (0, .ref k0), (1, .int le9), (2, .int mv9)]) hx hb dX11_few_163 hl (Nat.le_of_ble_eq_true rfl) rfl (fun ls hl => ?_)
                                      refine lv_iinc (v := nI (k + 1)) (lv' := [(5, .int (nI (k + 1))), (4, .int (nI ((cntP (gtF ft st tn kd mn tw cx cy q) k) + 0))), (7, .long (jI (((arF mn cx cy k : Nat) : Int) - ((arF mn cx cy q : Nat) : Int)))), (6, .int 1), (3, .int (nI q)), (0, .ref k0), (1, .int le9), (2, .int mv9)]) hx hb dX11_few_165 hl (k := 3) rfl (nI_add k 1) (Nat.le_of_ble_eq_true rfl) rfl (fun ls hl => ?_)
                                      refine lv_goto (tgt := 37) hx hb dX11_few_168 rfl ?_
                                      have hl9 := lv_sub hl [0, 1, 4, 5, 6, 7] rfl
                                      have e9_4 : nI (cntP (gtF ft st tn kd mn tw cx cy q) (k + 1)) = (nI ((cntP (gtF ft st tn kd mn tw cx cy q) k) + 0) : Int32) := by first | (rw [cntP_n (by unfold gtF; first | (intro h; exact absurd h.2.1 (by first | with_reducible assumption | assumption)) | (intro h; have h1 := h.1; have h2 := h.2.2.1; have h3 := h.2.2.2.1; have h4 := h.2.2.2.2; omega))]; first | done | rfl) | (rw [cntP_y (by unfold gtF; exact ⟨by omega, by assumption, by omega, by omega, by omega⟩)])
                                      have hl9 : lv_has ls 9 [(5, .int (nI (k + 1))), (4, .int (nI (cntP (gtF ft st tn kd mn tw cx cy q) (k + 1)))), (3, .int (nI q)), (0, .ref k0), (1, .int le9), (2, .int mv9)] := by rw [e9_4]; exact hl9
                                      exact ih_37 (k + 1) S5 H locs ls (by first | with_reducible assumption | omega) (by first | with_reducible assumption | omega) hP hD hS hl9
                                    · have c_40 : (((arF mn cx cy k : Nat) : Int) - ((arF mn cx cy q : Nat) : Int)) = 0 := zl_eq (jI_toInt (by omega)) rfl c_40
                                      refine lv_iload hx hb dX11_few_151 (lv_at hl 2 rfl) ?_
                                      refine lv_iload_n hx hb dX11_few_153 rfl (lv_at hl 4 rfl) ?_
                                      refine lv_icmp_ge (tgt := 161) hx hb dX11_few_154 rfl (fun c_41 => ?_) (fun c_41 => ?_)
                                      · have c_41 : ((q : Nat) : Int) ≤ ((k : Nat) : Int) := zc_le (nI_toInt b9_23) (nI_toInt b9_8) c_41
                                        refine lv_iconst (v := 0) hx hb dX11_few_161 rfl ?_
                                        refine lv_iadd hx hb dX11_few_162 ?_
                                        refine zz_i (v := nI ((cntP (gtF ft st tn kd mn tw cx cy q) k) + 0)) (nI_add (cntP (gtF ft st tn kd mn tw cx cy q) k) 0) ?_
                                        refine lv_istore (lv' := [(4, .int (nI ((cntP (gtF ft st tn kd mn tw cx cy q) k) + 0))), (7, .long (jI (((arF mn cx cy k : Nat) : Int) - ((arF mn cx cy q : Nat) : Int)))), (6, .int 1), (5, .int (nI k)), (3, .int (nI q)), (0, .ref k0), (1, .int le9), (2, .int mv9)]) hx hb dX11_few_163 hl (Nat.le_of_ble_eq_true rfl) rfl (fun ls hl => ?_)
                                        refine lv_iinc (v := nI (k + 1)) (lv' := [(5, .int (nI (k + 1))), (4, .int (nI ((cntP (gtF ft st tn kd mn tw cx cy q) k) + 0))), (7, .long (jI (((arF mn cx cy k : Nat) : Int) - ((arF mn cx cy q : Nat) : Int)))), (6, .int 1), (3, .int (nI q)), (0, .ref k0), (1, .int le9), (2, .int mv9)]) hx hb dX11_few_165 hl (k := 3) rfl (nI_add k 1) (Nat.le_of_ble_eq_true rfl) rfl (fun ls hl => ?_)
                                        refine lv_goto (tgt := 37) hx hb dX11_few_168 rfl ?_
                                        have hl9 := lv_sub hl [0, 1, 4, 5, 6, 7] rfl
                                        have e9_4 : nI (cntP (gtF ft st tn kd mn tw cx cy q) (k + 1)) = (nI ((cntP (gtF ft st tn kd mn tw cx cy q) k) + 0) : Int32) := by first | (rw [cntP_n (by unfold gtF; first | (intro h; exact absurd h.2.1 (by first | with_reducible assumption | assumption)) | (intro h; have h1 := h.1; have h2 := h.2.2.1; have h3 := h.2.2.2.1; have h4 := h.2.2.2.2; omega))]; first | done | rfl) | (rw [cntP_y (by unfold gtF; exact ⟨by omega, by assumption, by omega, by omega, by omega⟩)])
                                        have hl9 : lv_has ls 9 [(5, .int (nI (k + 1))), (4, .int (nI (cntP (gtF ft st tn kd mn tw cx cy q) (k + 1)))), (3, .int (nI q)), (0, .ref k0), (1, .int le9), (2, .int mv9)] := by rw [e9_4]; exact hl9
                                        exact ih_37 (k + 1) S5 H locs ls (by first | with_reducible assumption | omega) (by first | with_reducible assumption | omega) hP hD hS hl9
                                      · have c_41 : ((k : Nat) : Int) < ((q : Nat) : Int) := zc_nle (nI_toInt b9_23) (nI_toInt b9_8) c_41
                                        refine lv_iconst (v := 1) hx hb dX11_few_157 rfl ?_
                                        refine lv_goto (tgt := 162) hx hb dX11_few_158 rfl ?_
                                        refine lv_iadd hx hb dX11_few_162 ?_
                                        refine zz_i (v := nI ((cntP (gtF ft st tn kd mn tw cx cy q) k) + 1)) (nI_add (cntP (gtF ft st tn kd mn tw cx cy q) k) 1) ?_
                                        refine lv_istore (lv' := [(4, .int (nI ((cntP (gtF ft st tn kd mn tw cx cy q) k) + 1))), (7, .long (jI (((arF mn cx cy k : Nat) : Int) - ((arF mn cx cy q : Nat) : Int)))), (6, .int 1), (5, .int (nI k)), (3, .int (nI q)), (0, .ref k0), (1, .int le9), (2, .int mv9)]) hx hb dX11_few_163 hl (Nat.le_of_ble_eq_true rfl) rfl (fun ls hl => ?_)
                                        refine lv_iinc (v := nI (k + 1)) (lv' := [(5, .int (nI (k + 1))), (4, .int (nI ((cntP (gtF ft st tn kd mn tw cx cy q) k) + 1))), (7, .long (jI (((arF mn cx cy k : Nat) : Int) - ((arF mn cx cy q : Nat) : Int)))), (6, .int 1), (3, .int (nI q)), (0, .ref k0), (1, .int le9), (2, .int mv9)]) hx hb dX11_few_165 hl (k := 3) rfl (nI_add k 1) (Nat.le_of_ble_eq_true rfl) rfl (fun ls hl => ?_)
                                        refine lv_goto (tgt := 37) hx hb dX11_few_168 rfl ?_
                                        have hl9 := lv_sub hl [0, 1, 4, 5, 6, 7] rfl
                                        have e9_4 : nI (cntP (gtF ft st tn kd mn tw cx cy q) (k + 1)) = (nI ((cntP (gtF ft st tn kd mn tw cx cy q) k) + 1) : Int32) := by first | (rw [cntP_n (by unfold gtF; first | (intro h; exact absurd h.2.1 (by first | with_reducible assumption | assumption)) | (intro h; have h1 := h.1; have h2 := h.2.2.1; have h3 := h.2.2.2.1; have h4 := h.2.2.2.2; omega))]; first | done | rfl) | (rw [cntP_y (by unfold gtF; exact ⟨by omega, by assumption, by omega, by omega, by omega⟩)])
                                        have hl9 : lv_has ls 9 [(5, .int (nI (k + 1))), (4, .int (nI (cntP (gtF ft st tn kd mn tw cx cy q) (k + 1)))), (3, .int (nI q)), (0, .ref k0), (1, .int le9), (2, .int mv9)] := by rw [e9_4]; exact hl9
                                        exact ih_37 (k + 1) S5 H locs ls (by first | with_reducible assumption | omega) (by first | with_reducible assumption | omega) hP hD hS hl9
              have e9_4 : nI (cntP (gtF ft st tn kd mn tw cx cy q) 0) = (0 : Int32) := by rfl
              have hl9 : lv_has ls 9 [(5, .int (nI 0)), (4, .int (nI (cntP (gtF ft st tn kd mn tw cx cy q) 0))), (3, .int (nI q)), (0, .ref k0), (1, .int le9), (2, .int mv9)] := by rw [e9_4]; exact lv_sub hl [0, 1, 2, 3, 4, 5] rfl
              exact hl_37 _ 0 S1 H locs ls (Nat.lt_succ_self _) (by first | with_reducible assumption | omega) hP hD hS hl9
        exact hl_23 _ 0 mk S0 s.heap [] ls (Nat.lt_succ_self _) (by first | with_reducible assumption | omega) (by intro j hj; omega) hP hD hS (lv_sub hl [0, 1, 2, 3] rfl)
      · have c_3 : 200 < mv9.toInt := zc_nle rfl rfl c_3
        exfalso; omega
end
