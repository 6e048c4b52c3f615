section
set_option maxHeartbeats 4000000 in
set_option maxRecDepth 100000 in
theorem k_M_isSmall (l : Launch) (dC : Nat → ClassId) (dI : Nat → Nat → Nat) (cI cZ cF : ClassId) (sz : Nat) (k0 : Nat) (a : Nat → Nat) (I0 : Nat → Int32) (J0 : Nat → Int64) (f : Nat) (ft : Nat) (le9 : Int32) (st : Nat → Int32) (tn : Nat → Int32) (kd : Nat → Int32) (mn : Nat → Int32) (cx : Nat → Int32) (cy : Nat → Int32) (S0 : Nat → Int32) (hft : I0 0 = nI ft) (h200 : ft ≤ 200) (hf_t : f < ft) (hwf : ∀ q, lvF ft st tn q → wfM mn cx cy q) : zM l yX11_isSmall cX11_isSmall 3 (some .boolean) ({ frames := 2, cells := 0, slots := 0, locals := 49 } : Room) [.ref k0, .int (nI f), .int le9] (dC, dI) (zTy cI cZ cF) [(om k0 a I0 J0), (oa (a 5) cI 201 st), (oa (a 6) cZ 201 tn), (oa (a 1) cI 201 kd), (oa (a 11) cI 201 mn), (oa (a 12) cI 8040 cx), (oa (a 13) cI 8040 cy), (oa (a 32) cI 8 S0)] sz (some (.int (pI (smF ft st tn kd mn cx cy le9.toInt f)))) (fun A t => ∃ (S1 : Nat → Int32), zPD (dC, dI) classes A [(om k0 a I0 J0), (oa (a 5) cI 201 st), (oa (a 6) cZ 201 tn), (oa (a 1) cI 201 kd), (oa (a 11) cI 201 mn), (oa (a 12) cI 8040 cx), (oa (a 13) cI 8040 cy), (oa (a 32) cI 8 S1)] t.heap) 0 0 := by
  refine zIn (own := "ScaleShopModel") (loc := [(0, .ref k0), (1, .int (nI f)), (2, .int le9)]) rfl rfl rfl rfl (fun p e s m below meth c hx hb hr hts hown hlocks hml hnm9 A hA hS hP hD hK hXN Q9 hQ9 ls hl => ?_)
  refine lv_aload_n hx hb dX11_isSmall_0 rfl (lv_at hl 0 rfl) ?_
  refine lv_iload_n hx hb dX11_isSmall_1 rfl (lv_at hl 1 rfl) ?_
  obtain ⟨hPc, hDc, hFc, hI1⟩ := zi_sub (wc := [_, _, _]) hP hD hS hA [0, 1, 2] rfl rfl
  refine zcall (st1 := [.int (pI (f < ft ∧ (st f).toInt = 1 ∧ (tn f).toInt = 0))]) (va_runV (As := [.int (nI f)]) (rest := []) ⟨hx, hb, hml, hown, hts⟩ (k_M_is_n l dC dI cI cZ cF s.heap.size k0 a I0 J0 f ft st tn (by first | with_reducible assumption | assumption) (by first | with_reducible assumption | omega) (by first | with_reducible assumption | omega)) (csV_179 hts rfl rfl ⟨Nat.le_of_ble_eq_true rfl, Nat.le_of_ble_eq_true rfl⟩) (zPV2 (q0 := 0) (ci := 9) hPc hDc hK hXN rfl rfl) rfl rfl hl.1 rfl (lv_room (Nat.le_of_ble_eq_true rfl)) dX11_isSmall_2 ⟨Nat.le_of_ble_eq_true rfl, Nat.le_of_ble_eq_true rfl⟩) hS hFc hFc rfl (fun t H locs ht hB hk1 hS => ?_)
  obtain ⟨hP1, hD1⟩ := hB
  rw [ht] at hP1
  replace hP := z0 hP hD hk1 hP1 hI1
  clear hk1 hPc hDc hFc hP1 hD1 ht hI1
  refine lv_if_eq (tgt := 34) hx hb dX11_isSmall_5 rfl (fun c_1 => ?_) (fun c_1 => ?_)
  · have c_1 : ¬ (f < ft ∧ (st f).toInt = 1 ∧ (tn f).toInt = 0) := zp_0 c_1
    refine lv_iconst (v := 0) hx hb dX11_isSmall_34 rfl ?_
    obtain ⟨hP9, hD9⟩ := zu_sub (wc := [_, _, _, _, _, _, _, _]) hP hD [true, true, true, true, true, true, true, true] rfl rfl
    rw [hQ9]
    exact W.zret (ty := .boolean) (v := 0) hx hb hr (rfl) (fun t ht hW => ⟨⟨congrArg (fun z => Outcome.returned (some (Value.int z))) (show (0 : Int32) = pI (smF ft st tn kd mn cx cy le9.toInt f) from (zp_f (by unfold smF; first | exact ⟨by assumption, by omega, by omega⟩ | exact fun h => absurd h.1 (by first | with_reducible assumption | assumption) | (intro h; have h1 := h.2.1; have h2 := h.2.2; omega))).symm), S0, by rw [ht]; exact hP9, hD9⟩, hS.F ht⟩) hS.2.2 dX11_isSmall_35
  · have c_1 : f < ft ∧ (st f).toInt = 1 ∧ (tn f).toInt = 0 := zp_1 c_1
    have hw9 := hwf f (by first | with_reducible assumption | assumption)
    have hm9 := hw9.1
    have hn9 := hw9.2.1
    have hp9 := hw9.2.2
    have hab := arF_b hw9
    have hlb := i32B le9
    refine lv_aload_n hx hb dX11_isSmall_8 rfl (lv_at hl 0 rfl) ?_
    refine va_get (D := (dC, dI)) (ci := 9) (v := .ref (a 1)) (C := RX11) (T := TX11) (N := 55) hx hb hts inX11 hown hK hP 0 rfl rfl 1 (Nat.le_of_ble_eq_true rfl) (hts _ mw_1160) (fun _ h9 => h9) rfl dX11_isSmall_9 ?_
    refine lv_iload_n hx hb dX11_isSmall_12 rfl (lv_at hl 1 rfl) ?_
    have b9_2 : f < 201 := by omega
    refine z_iald hx hb hK hP 3 0 rfl rfl (e := f) rfl b9_2 (Nat.le_of_ble_eq_true rfl) dX11_isSmall_13 ?_
    refine lv_bipush (v := 6) hx hb dX11_isSmall_14 rfl ?_
    refine lv_icmp_ne (tgt := 34) hx hb dX11_isSmall_16 rfl (fun c_3 => ?_) (fun c_3 => ?_)
    · have c_3 : ¬ (kd f).toInt = 6 := zc_ne rfl rfl c_3
      refine lv_iconst (v := 0) hx hb dX11_isSmall_34 rfl ?_
      obtain ⟨hP9, hD9⟩ := zu_sub (wc := [_, _, _, _, _, _, _, _]) hP hD [true, true, true, true, true, true, true, true] rfl rfl
      rw [hQ9]
      exact W.zret (ty := .boolean) (v := 0) hx hb hr (rfl) (fun t ht hW => ⟨⟨congrArg (fun z => Outcome.returned (some (Value.int z))) (show (0 : Int32) = pI (smF ft st tn kd mn cx cy le9.toInt f) from (zp_f (by unfold smF; first | exact ⟨by assumption, by omega, by omega⟩ | exact fun h => absurd h.1 (by first | with_reducible assumption | assumption) | (intro h; have h1 := h.2.1; have h2 := h.2.2; omega))).symm), S0, by rw [ht]; exact hP9, hD9⟩, hS.F ht⟩) hS.2.2 dX11_isSmall_35
    · have c_3 : (kd f).toInt = 6 := zc_eq rfl rfl c_3
      refine lv_aload_n hx hb dX11_isSmall_19 rfl (lv_at hl 0 rfl) ?_
      refine lv_iload_n hx hb dX11_isSmall_20 rfl (lv_at hl 1 rfl) ?_
      obtain ⟨hPc, hDc, hFc⟩ := zo_sub (wc := [_, _, _, _, _]) hP hD hS hA [0, 4, 5, 6, 7] (by decide +kernel) rfl
      refine zcall (st1 := [.long (jI ((Int.natAbs (ar2 (nN (mn f)) (cF40 cx f) (cF40 cy f) (nN (mn f))) : Nat) : Int))]) (va_runV (As := [.int (nI f)]) (rest := []) ⟨hx, hb, hml, hown, hts⟩ (k_M_area l dC dI cI cZ cF H.size k0 a I0 J0 f (nN (mn f)) mn cx cy S0 (by first | with_reducible assumption | omega) (by first | with_reducible assumption | assumption) (by first | with_reducible assumption | omega) (by first | with_reducible assumption | assumption)) (csV_218 hts rfl rfl ⟨Nat.le_of_ble_eq_true rfl, Nat.le_of_ble_eq_true rfl⟩) (zPV2 (q0 := 0) (ci := 9) hPc hDc hK hXN rfl rfl) rfl rfl hl.1 rfl (lv_room (Nat.le_of_ble_eq_true rfl)) dX11_isSmall_21 ⟨Nat.le_of_ble_eq_true rfl, Nat.le_of_ble_eq_true rfl⟩) hS hFc hFc rfl (fun t H locs ht hB hk1 hS => ?_)
      obtain ⟨q_4, hP1, hD1⟩ := hB
      rw [ht] at hP1
      obtain ⟨hP, hD⟩ := zn (W2 := [_, _, _, _, _, _, _, (oa (a 32) cI 8 q_4)]) hP hD hk1 hFc hP1 hD1 [0, 4, 5, 6, 7] [false, true, true, true] zl_230 [0, 4, 5, 6, 7] (by decide +kernel) rfl rfl rfl rfl rfl
      clear hk1 hPc hDc hFc hP1 hD1 ht
      refine zz_l (v := jI ((arF mn cx cy f : Nat) : Int)) (rfl) ?_
      refine lv_iload_n hx hb dX11_isSmall_24 rfl (lv_at hl 2 rfl) ?_
      refine lv_i2l (v := le9.toInt64) hx hb dX11_isSmall_25 (rfl) ?_
      refine zz_l (v := jI le9.toInt) (jI_of (i64 _)) ?_
      refine W.lcmp hx hb dX11_isSmall_26 ?_
      refine lv_if_ge (tgt := 34) hx hb dX11_isSmall_27 rfl (fun c_5 => ?_) (fun c_5 => ?_)
      · have c_5 : le9.toInt ≤ ((arF mn cx cy f : Nat) : Int) := zl_ge (jI_toInt (by omega)) (jI_toInt (by omega)) c_5
        refine lv_iconst (v := 0) hx hb dX11_isSmall_34 rfl ?_
        obtain ⟨hP9, hD9⟩ := zu_sub (wc := [_, _, _, _, _, _, _, _]) hP hD [true, true, true, true, true, true, true, true] rfl rfl
        rw [hQ9]
        exact W.zret (ty := .boolean) (v := 0) hx hb hr (rfl) (fun t ht hW => ⟨⟨congrArg (fun z => Outcome.returned (some (Value.int z))) (show (0 : Int32) = pI (smF ft st tn kd mn cx cy le9.toInt f) from (zp_f (by unfold smF; first | exact ⟨by assumption, by omega, by omega⟩ | exact fun h => absurd h.1 (by first | with_reducible assumption | assumption) | (intro h; have h1 := h.2.1; have h2 := h.2.2; omega))).symm), q_4, by rw [ht]; exact hP9, hD9⟩, hS.F ht⟩) hS.2.2 dX11_isSmall_35
      · have c_5 : ((arF mn cx cy f : Nat) : Int) < le9.toInt := zl_nge (jI_toInt (by omega)) (jI_toInt (by omega)) c_5
        refine lv_iconst (v := 1) hx hb dX11_isSmall_30 rfl ?_
        refine lv_goto (tgt := 35) hx hb dX11_isSmall_31 rfl ?_
        obtain ⟨hP9, hD9⟩ := zu_sub (wc := [_, _, _, _, _, _, _, _]) hP hD [true, true, true, true, true, true, true, true] rfl rfl
        rw [hQ9]
        exact W.zret (ty := .boolean) (v := 1) hx hb hr (rfl) (fun t ht hW => ⟨⟨congrArg (fun z => Outcome.returned (some (Value.int z))) (show (1 : Int32) = pI (smF ft st tn kd mn cx cy le9.toInt f) from (zp_t (by unfold smF; first | exact ⟨by assumption, by omega, by omega⟩ | exact fun h => absurd h.1 (by first | with_reducible assumption | assumption) | (intro h; have h1 := h.2.1; have h2 := h.2.2; omega))).symm), q_4, by rw [ht]; exact hP9, hD9⟩, hS.F ht⟩) hS.2.2 dX11_isSmall_35
set_option maxHeartbeats 4000000 in
set_option maxRecDepth 100000 in
theorem k_M_few_0 (l : Launch) (dC : Nat → ClassId) (dI : Nat → Nat → Nat) (cI cZ cF : ClassId) (sz : Nat) (k0 : Nat) (a : Nat → Nat) (I0 : Nat → Int32) (J0 : Nat → Int64) (le9 : Int32) (mv9 : Int32) (ft : Nat) (st : Nat → Int32) (tn : Nat → Int32) (kd : Nat → Int32) (mn : Nat → Int32) (cx : Nat → Int32) (cy : Nat → Int32) (S0 : Nat → Int32) (tw : Nat → Int32) (mk : Nat → Int32) (hft : I0 0 = nI ft) (h200 : ft ≤ 200) (hwf : ∀ q, lvF ft st tn q → wfM mn cx cy q) (hgood : 0 ≤ le9.toInt ∧ 0 ≤ mv9.toInt ∧ mv9.toInt ≤ 200) (hz : cntP (fun j => fwM ft st tn kd mn tw cx cy le9.toInt mv9.toInt j) ft = 0) : zM l yX11_few cX11_few 9 (some .int) ({ frames := 3, cells := 0, slots := 0, locals := 71 } : Room) [.ref k0, .int le9, .int mv9] (dC, dI) (zTy cI cZ cF) [(om k0 a I0 J0), (oa (a 5) cI 201 st), (oa (a 6) cZ 201 tn), (oa (a 1) cI 201 kd), (oa (a 11) cI 201 mn), (oa (a 12) cI 8040 cx), (oa (a 13) cI 8040 cy), (oa (a 32) cI 8 S0), (oa (a 4) cI 201 tw), (oa (a 50) cZ 201 mk)] sz (some (.int (-1))) (fun A t => ∃ (S1 : Nat → Int32), ∃ (mk1 : Nat → Int32), zPD (dC, dI) classes A [(om k0 a (upd (upd I0 14 8) 15 (I0 15)) J0), (oa (a 5) cI 201 st), (oa (a 6) cZ 201 tn), (oa (a 1) cI 201 kd), (oa (a 11) cI 201 mn), (oa (a 12) cI 8040 cx), (oa (a 13) cI 8040 cy), (oa (a 32) cI 8 S1), (oa (a 4) cI 201 tw), (oa (a 50) cZ 201 mk1)] t.heap) 0 0 := by
  refine zIn (own := "ScaleShopModel") (loc := [(0, .ref k0), (1, .int le9), (2, .int mv9)]) rfl rfl rfl rfl (fun p e s m below meth c hx hb hr hts hown hlocks hml hnm9 A hA hS hP hD hK hXN Q9 hQ9 ls hl => ?_)
  refine lv_iload_n hx hb dX11_few_0 rfl (lv_at hl 1 rfl) ?_
  refine lv_if_lt (tgt := 15) hx hb dX11_few_1 rfl (fun c_1 => ?_) (fun c_1 => ?_)
  · have c_1 : le9.toInt < 0 := zc_lt rfl rfl c_1
    exfalso; omega
  · have c_1 : 0 ≤ le9.toInt := zc_nlt rfl rfl c_1
    refine lv_iload_n hx hb dX11_few_4 rfl (lv_at hl 2 rfl) ?_
    refine lv_if_lt (tgt := 15) hx hb dX11_few_5 rfl (fun c_2 => ?_) (fun c_2 => ?_)
    · have c_2 : mv9.toInt < 0 := zc_lt rfl rfl c_2
      exfalso; omega
    · have c_2 : 0 ≤ mv9.toInt := zc_nlt rfl rfl c_2
      refine lv_iload_n hx hb dX11_few_8 rfl (lv_at hl 2 rfl) ?_
      refine lv_sipush (v := 200) hx hb dX11_few_9 rfl ?_
      refine lv_icmp_le (tgt := 21) hx hb dX11_few_12 rfl (fun c_3 => ?_) (fun c_3 => ?_)
      · have c_3 : mv9.toInt ≤ 200 := zc_le rfl rfl c_3
        refine lv_iconst (v := 0) hx hb dX11_few_21 rfl ?_
        refine lv_istore_n (lv' := [(3, .int 0), (0, .ref k0), (1, .int le9), (2, .int mv9)]) hx hb dX11_few_22 rfl hl (Nat.le_of_ble_eq_true rfl) rfl (fun ls hl => ?_)
        have hl_23 : ∀ (n9 : Nat) (q : Nat) (mk1 : Nat → Int32) (S1 : Nat → Int32) (H : Heap) (locs : List Loc) (ls : Array Slot), ft - q < n9 → (q ≤ ft) → (∀ j, j < q → mk1 j = pI (fwM ft st tn kd mn tw cx cy le9.toInt mv9.toInt j)) → va_P (dC, dI) classes [(om k0 a I0 J0), (oa (a 5) cI 201 st), (oa (a 6) cZ 201 tn), (oa (a 1) cI 201 kd), (oa (a 11) cI 201 mn), (oa (a 12) cI 8040 cx), (oa (a 13) cI 8040 cy), (oa (a 32) cI 8 S1), (oa (a 4) cI 201 tw), (oa (a 50) cZ 201 mk1)] H → va_D A [(om k0 a I0 J0), (oa (a 5) cI 201 st), (oa (a 6) cZ 201 tn), (oa (a 1) cI 201 kd), (oa (a 11) cI 201 mn), (oa (a 12) cI 8040 cx), (oa (a 13) cI 8040 cy), (oa (a 32) cI 8 S1), (oa (a 4) cI 201 tw), (oa (a 50) cZ 201 mk1)] → va_S A s.heap H locs → lv_has ls 9 [(3, .int (nI q)), (0, .ref k0), (1, .int le9), (2, .int mv9)] → W p l e ({ frames := 3, cells := 0, slots := 0, locals := 71 } : Room) s m ([.ref k0, .int le9, .int mv9] : List Value).toArray below meth c H locs 0 0 Q9 (F0 m 23 ls []) := by
          intro n9
          induction n9 with
          | zero => intro q mk1 S1 H locs ls hm; exact absurd hm (Nat.not_lt_zero _)
          | succ n9 ih_23 =>
            intro q mk1 S1 H locs ls hm hq hmk hP hD hS hl
            refine lv_iload_n hx hb dX11_few_23 rfl (lv_at hl 0 rfl) ?_
            refine lv_aload_n hx hb dX11_few_24 rfl (lv_at hl 1 rfl) ?_
            refine va_get (D := (dC, dI)) (ci := 9) (v := .int (I0 0)) (C := RX11) (T := TX11) (N := 55) hx hb hts inX11 hown hK hP 0 rfl rfl 0 (Nat.le_of_ble_eq_true rfl) (hts _ mw_1159) (fun _ h9 => h9) rfl dX11_few_25 ?_
            refine zz_i (v := nI ft) (hft) ?_
            have b9_5 : zlt (q) := show q < 2147483648 by omega
            have b9_6 : zlt (ft) := show ft < 2147483648 by omega
            refine lv_icmp_ge (tgt := 203) hx hb dX11_few_28 rfl (fun c_4 => ?_) (fun c_4 => ?_)
            · have c_4 : ((ft : Nat) : Int) ≤ ((q : Nat) : Int) := zc_le (nI_toInt b9_6) (nI_toInt b9_5) c_4
              refine lv_aload_n hx hb dX11_few_203 rfl (lv_at hl 1 rfl) ?_
              refine lv_bipush (v := 8) hx hb dX11_few_204 rfl ?_
              obtain ⟨hPc, hDc, hFc⟩ := zo_sub (wc := [_, _]) hP hD hS hA [0, 9] rfl rfl
              refine zcall (st1 := [.int (-1)]) (va_runV (As := [.int 8]) (rest := []) ⟨hx, hb, hml, hown, hts⟩ (k_M_dropMarked_r l dC dI cI cZ cF H.size k0 a I0 J0 8 ft mk1 (fun j => fwM ft st tn kd mn tw cx cy le9.toInt mv9.toInt j) (by first | with_reducible assumption | assumption) (by first | with_reducible assumption | omega) (fun j hj => hmk j (by first | with_reducible assumption | omega)) (hz)) (csV_219 hts rfl rfl ⟨Nat.le_of_ble_eq_true rfl, Nat.le_of_ble_eq_true rfl⟩) (zPV2 (q0 := 0) (ci := 9) hPc hDc hK hXN rfl rfl) rfl rfl hl.1 rfl (lv_room (Nat.le_of_ble_eq_true rfl)) dX11_few_206 ⟨Nat.le_of_ble_eq_true rfl, Nat.le_of_ble_eq_true rfl⟩) hS hFc hFc rfl (fun t H locs ht hB hk1 hS => ?_)
              obtain ⟨hP1, hD1⟩ := hB
              rw [ht] at hP1
              obtain ⟨hP, hD⟩ := zn (W2 := [(om k0 a (upd (upd I0 14 8) 15 (I0 15)) J0), _, _, _, _, _, _, _, _, _]) hP hD hk1 hFc hP1 hD1 [0, 9] zl_231 zl_232 [0, 9] (by decide +kernel) rfl rfl rfl rfl rfl
              clear hk1 hPc hDc hFc hP1 hD1 ht
              obtain ⟨hP9, hD9⟩ := zu_sub (wc := [_, _, _, _, _, _, _, _, _, _]) hP hD [true, true, true, true, true, true, true, true, true, true] rfl rfl
              rw [hQ9]
              exact W.iret (v := (-1)) hx hb hr (fun t ht hW => ⟨⟨rfl, S1, mk1, by rw [ht]; exact hP9, hD9⟩, hS.F ht⟩) hS.2.2 dX11_few_209
            · have c_4 : ((q : Nat) : Int) < ((ft : Nat) : Int) := zc_nle (nI_toInt b9_6) (nI_toInt b9_5) c_4
              refine lv_iconst (v := 0) hx hb dX11_few_31 rfl ?_
              refine lv_istore (lv' := [(4, .int 0), (3, .int (nI q)), (0, .ref k0), (1, .int le9), (2, .int mv9)]) hx hb dX11_few_32 hl (Nat.le_of_ble_eq_true rfl) rfl (fun ls hl => ?_)
              refine lv_iconst (v := 0) hx hb dX11_few_34 rfl ?_
              refine lv_istore (lv' := [(5, .int 0), (4, .int 0), (3, .int (nI q)), (0, .ref k0), (1, .int le9), (2, .int mv9)]) hx hb dX11_few_35 hl (Nat.le_of_ble_eq_true rfl) rfl (fun ls hl => ?_)
              have hl_37 : ∀ (n9 : Nat) (k : Nat) (S2 : Nat → Int32) (H : Heap) (locs : List Loc) (ls : Array Slot), ft - k < n9 → (k ≤ ft) → va_P (dC, dI) classes [(om k0 a I0 J0), (oa (a 5) cI 201 st), (oa (a 6) cZ 201 tn), (oa (a 1) cI 201 kd), (oa (a 11) cI 201 mn), (oa (a 12) cI 8040 cx), (oa (a 13) cI 8040 cy), (oa (a 32) cI 8 S2), (oa (a 4) cI 201 tw), (oa (a 50) cZ 201 mk1)] H → va_D A [(om k0 a I0 J0), (oa (a 5) cI 201 st), (oa (a 6) cZ 201 tn), (oa (a 1) cI 201 kd), (oa (a 11) cI 201 mn), (oa (a 12) cI 8040 cx), (oa (a 13) cI 8040 cy), (oa (a 32) cI 8 S2), (oa (a 4) cI 201 tw), (oa (a 50) cZ 201 mk1)] → va_S A s.heap H locs → lv_has ls 9 [(5, .int (nI k)), (4, .int (nI (cntP (gtF ft st tn kd mn tw cx cy q) k))), (3, .int (nI q)), (0, .ref k0), (1, .int le9), (2, .int mv9)] → W p l e ({ frames := 3, cells := 0, slots := 0, locals := 71 } : Room) s m ([.ref k0, .int le9, .int mv9] : List Value).toArray below meth c H locs 0 0 Q9 (F0 m 37 ls []) := by
                intro n9
                induction n9 with
                | zero => intro k S2 H locs ls hm; exact absurd hm (Nat.not_lt_zero _)
                | succ n9 ih_37 =>
                  intro k S2 H locs ls hm hk hP hD hS hl
                  have hcb := cntP_b (gtF ft st tn kd mn tw cx cy q) k
                  refine lv_iload hx hb dX11_few_37 (lv_at hl 0 rfl) ?_
                  refine lv_aload_n hx hb dX11_few_39 rfl (lv_at hl 3 rfl) ?_
                  refine va_get (D := (dC, dI)) (ci := 9) (v := .int (I0 0)) (C := RX11) (T := TX11) (N := 55) hx hb hts inX11 hown hK hP 0 rfl rfl 0 (Nat.le_of_ble_eq_true rfl) (hts _ mw_1159) (fun _ h9 => h9) rfl dX11_few_40 ?_
                  refine zz_i (v := nI ft) (hft) ?_
                  have b9_8 : zlt (k) := show k < 2147483648 by omega
                  refine lv_icmp_ge (tgt := 171) hx hb dX11_few_43 rfl (fun c_7 => ?_) (fun c_7 => ?_)
                  · have c_7 : ((ft : Nat) : Int) ≤ ((k : Nat) : Int) := zc_le (nI_toInt b9_6) (nI_toInt b9_8) c_7
                    refine lv_aload_n hx hb dX11_few_171 rfl (lv_at hl 3 rfl) ?_
                    refine va_get (D := (dC, dI)) (ci := 9) (v := .ref (a 50)) (C := RX11) (T := TX11) (N := 55) hx hb hts inX11 hown hK hP 0 rfl rfl 50 (Nat.le_of_ble_eq_true rfl) (hts _ mw_1209) (fun _ h9 => h9) rfl dX11_few_172 ?_
                    refine lv_iload_n hx hb dX11_few_175 rfl (lv_at hl 2 rfl) ?_
                    refine lv_aload_n hx hb dX11_few_176 rfl (lv_at hl 3 rfl) ?_
                    refine lv_iload_n hx hb dX11_few_177 rfl (lv_at hl 2 rfl) ?_
                    refine lv_iload_n hx hb dX11_few_178 rfl (lv_at hl 4 rfl) ?_
                    obtain ⟨hPc, hDc, hFc⟩ := zo_sub (wc := [_, _, _, _, _, _, _, _]) hP hD hS hA [0, 1, 2, 3, 4, 5, 6, 7] (by decide +kernel) rfl
                    refine zcall (st1 := [.int (pI (smF ft st tn kd mn cx cy le9.toInt q)), .int (nI q), .ref (a 50)]) (va_runV (As := [.int (nI q), .int le9]) (rest := [.int (nI q), .ref (a 50)]) ⟨hx, hb, hml, hown, hts⟩ (k_M_isSmall l dC dI cI cZ cF H.size k0 a I0 J0 q ft le9 st tn kd mn cx cy S2 (by first | with_reducible assumption | assumption) (by first | with_reducible assumption | omega) (by first | with_reducible assumption | omega) (by first | with_reducible assumption | assumption)) (csV_220 hts rfl rfl ⟨Nat.le_of_ble_eq_true rfl, Nat.le_of_ble_eq_true rfl⟩) (zPV2 (q0 := 0) (ci := 9) hPc hDc hK hXN rfl rfl) rfl rfl hl.1 rfl (lv_room (Nat.le_of_ble_eq_true rfl)) dX11_few_179 ⟨Nat.le_of_ble_eq_true rfl, Nat.le_of_ble_eq_true rfl⟩) hS hFc hFc rfl (fun t H locs ht hB hk1 hS => ?_)
                    obtain ⟨S6, hP1, hD1⟩ := hB
                    rw [ht] at hP1
                    obtain ⟨hP, hD⟩ := zn (W2 := [_, _, _, _, _, _, _, (oa (a 32) cI 8 S6), _, _]) hP hD hk1 hFc hP1 hD1 zl_157 zl_233 zl_233 zl_157 (by decide +kernel) rfl rfl rfl rfl rfl
                    clear hk1 hPc hDc hFc hP1 hD1 ht
                    refine lv_if_eq (tgt := 195) hx hb dX11_few_182 rfl (fun c_9 => ?_) (fun c_9 => ?_)
                    · have c_9 : ¬ (smF ft st tn kd mn cx cy le9.toInt q) := zp_0 c_9
                      refine lv_iconst (v := 0) hx hb dX11_few_195 rfl ?_
                      refine zz_i (v := pI (fwM ft st tn kd mn tw cx cy le9.toInt mv9.toInt q)) (by first | exact fw_s (by first | with_reducible assumption | assumption) | exact fw_t (k := k) (by first | with_reducible assumption | assumption) (by omega) (by omega) | exact fw_n (k := k) (by omega) (by omega) | (exfalso; have h1 : ¬ smF ft st tn kd mn cx cy le9.toInt q := (by first | with_reducible assumption | assumption); exact h1 (by first | with_reducible assumption | assumption))) ?_
                      have b9_10 : q < 201 := by omega
                      refine z_zast hx hb hK hP hD hS 9 1 rfl rfl (e := q) (x := pI (fwM ft st tn kd mn tw cx cy le9.toInt mv9.toInt q)) rfl b9_10 (Nat.le_of_ble_eq_true rfl) (zp_and _) dX11_few_196 (fun H locs hP hD hS => ?_)
                      obtain ⟨hP, hD⟩ := zre (W2 := [_, _, _, _, _, _, _, _, _, (oa (a 50) cZ 201 (upd mk1 q (pI (fwM ft st tn kd mn tw cx cy le9.toInt mv9.toInt q))))]) hP hD rfl
                      refine lv_iinc (v := nI (q + 1)) (lv' := [(3, .int (nI (q + 1))), (5, .int (nI k)), (4, .int (nI (cntP (gtF ft st tn kd mn tw cx cy q) k))), (0, .ref k0), (1, .int le9), (2, .int mv9)]) hx hb dX11_few_197 hl (k := 2) rfl (nI_add q 1) (Nat.le_of_ble_eq_true rfl) rfl (fun ls hl => ?_)
                      refine lv_goto (tgt := 23) hx hb dX11_few_200 rfl ?_
                      exact ih_23 (q + 1) (upd mk1 q (pI (fwM ft st tn kd mn tw cx cy le9.toInt mv9.toInt q))) S6 H locs ls (by first | with_reducible assumption | omega) (by first | with_reducible assumption | omega) (by intro j hj; rcases Nat.lt_or_ge j q with h | h; simp only [upd, if_neg (show j ≠ q by omega)]; exact hmk j h; rw [show j = q by omega]; simp only [upd, if_true]) hP hD hS (lv_sub hl [0, 3, 4, 5] rfl)
                    · have c_9 : smF ft st tn kd mn cx cy le9.toInt q := zp_1 c_9
                      refine lv_iload hx hb dX11_few_185 (lv_at hl 1 rfl) ?_
                      refine lv_iload_n hx hb dX11_few_187 rfl (lv_at hl 5 rfl) ?_
                      have b9_12 : zlt ((cntP (gtF ft st tn kd mn tw cx cy q) k)) := show (cntP (gtF ft st tn kd mn tw cx cy q) k) < 2147483648 by omega
                      refine lv_icmp_lt (tgt := 195) hx hb dX11_few_188 rfl (fun c_11 => ?_) (fun c_11 => ?_)
                      · have c_11 : ((cntP (gtF ft st tn kd mn tw cx cy q) k : Nat) : Int) < mv9.toInt := zc_lt (nI_toInt b9_12) rfl c_11
                        refine lv_iconst (v := 0) hx hb dX11_few_195 rfl ?_
                        refine zz_i (v := pI (fwM ft st tn kd mn tw cx cy le9.toInt mv9.toInt q)) (by first | exact fw_s (by first | with_reducible assumption | assumption) | exact fw_t (k := k) (by first | with_reducible assumption | assumption) (by omega) (by omega) | exact fw_n (k := k) (by omega) (by omega) | (exfalso; have h1 : ¬ smF ft st tn kd mn cx cy le9.toInt q := (by first | with_reducible assumption | assumption); exact h1 (by first | with_reducible assumption | assumption))) ?_
                        have b9_13 : q < 201 := by omega
                        refine z_zast hx hb hK hP hD hS 9 1 rfl rfl (e := q) (x := pI (fwM ft st tn kd mn tw cx cy le9.toInt mv9.toInt q)) rfl b9_13 (Nat.le_of_ble_eq_true rfl) (zp_and _) dX11_few_196 (fun H locs hP hD hS => ?_)
                        obtain ⟨hP, hD⟩ := zre (W2 := [_, _, _, _, _, _, _, _, _, (oa (a 50) cZ 201 (upd mk1 q (pI (fwM ft st tn kd mn tw cx cy le9.toInt mv9.toInt q))))]) hP hD rfl
                        refine lv_iinc (v := nI (q + 1)) (lv' := [(3, .int (nI (q + 1))), (5, .int (nI k)), (4, .int (nI (cntP (gtF ft st tn kd mn tw cx cy q) k))), (0, .ref k0), (1, .int le9), (2, .int mv9)]) hx hb dX11_few_197 hl (k := 2) rfl (nI_add q 1) (Nat.le_of_ble_eq_true rfl) rfl (fun ls hl => ?_)
                        refine lv_goto (tgt := 23) hx hb dX11_few_200 rfl ?_
                        exact ih_23 (q + 1) (upd mk1 q (pI (fwM ft st tn kd mn tw cx cy le9.toInt mv9.toInt q))) S6 H locs ls (by first | with_reducible assumption | omega) (by first | with_reducible assumption | omega) (by intro j hj; rcases Nat.lt_or_ge j q with h | h; simp only [upd, if_neg (show j ≠ q by omega)]; exact hmk j h; rw [show j = q by omega]; simp only [upd, if_true]) hP hD hS (lv_sub hl [0, 3, 4, 5] rfl)
                      · have c_11 : mv9.toInt ≤ ((cntP (gtF ft st tn kd mn tw cx cy q) k : Nat) : Int) := zc_nlt (nI_toInt b9_12) rfl c_11
                        refine lv_iconst (v := 1) hx hb dX11_few_191 rfl ?_
                        refine lv_goto (tgt := 196) hx hb dX11_few_192 rfl ?_
                        refine zz_i (v := pI (fwM ft st tn kd mn tw cx cy le9.toInt mv9.toInt q)) (by first | exact fw_s (by first | with_reducible assumption | assumption) | exact fw_t (k := k) (by first | with_reducible assumption | assumption) (by omega) (by omega) | exact fw_n (k := k) (by omega) (by omega) | (exfalso; have h1 : ¬ smF ft st tn kd mn cx cy le9.toInt q := (by first | with_reducible assumption | assumption); exact h1 (by first | with_reducible assumption | assumption))) ?_
                        have b9_14 : q < 201 := by omega
                        refine z_zast hx hb hK hP hD hS 9 1 rfl rfl (e := q) (x := pI (fwM ft st tn kd mn tw cx cy le9.toInt mv9.toInt q)) rfl b9_14 (Nat.le_of_ble_eq_true rfl) (zp_and _) dX11_few_196 (fun H locs hP hD hS => ?_)
                        obtain ⟨hP, hD⟩ := zre (W2 := [_, _, _, _, _, _, _, _, _, (oa (a 50) cZ 201 (upd mk1 q (pI (fwM ft st tn kd mn tw cx cy le9.toInt mv9.toInt q))))]) hP hD rfl
                        refine lv_iinc (v := nI (q + 1)) (lv' := [(3, .int (nI (q + 1))), (5, .int (nI k)), (4, .int (nI (cntP (gtF ft st tn kd mn tw cx cy q) k))), (0, .ref k0), (1, .int le9), (2, .int mv9)]) hx hb dX11_few_197 hl (k := 2) rfl (nI_add q 1) (Nat.le_of_ble_eq_true rfl) rfl (fun ls hl => ?_)
                        refine lv_goto (tgt := 23) hx hb dX11_few_200 rfl ?_
                        exact ih_23 (q + 1) (upd mk1 q (pI (fwM ft st tn kd mn tw cx cy le9.toInt mv9.toInt q))) S6 H locs ls (by first | with_reducible assumption | omega) (by first | with_reducible assumption | omega) (by intro j hj; rcases Nat.lt_or_ge j q with h | h; simp only [upd, if_neg (show j ≠ q by omega)]; exact hmk j h; rw [show j = q by omega]; simp only [upd, if_true]) hP hD hS (lv_sub hl [0, 3, 4, 5] rfl)
                  · have c_7 : ((k : Nat) : Int) < ((ft : Nat) : Int) := zc_nle (nI_toInt b9_6) (nI_toInt b9_8) c_7
                    refine lv_aload_n hx hb dX11_few_46 rfl (lv_at hl 3 rfl) ?_
                    refine lv_iload_n hx hb dX11_few_47 rfl (lv_at hl 2 rfl) ?_
                    refine lv_iload_n hx hb dX11_few_48 rfl (lv_at hl 4 rfl) ?_
                    obtain ⟨hPc, hDc, hFc⟩ := zo_sub (wc := [_, _, _, _, _, _, _, _]) hP hD hS hA [0, 1, 2, 3, 4, 5, 6, 7] (by decide +kernel) rfl
                    refine zcall (st1 := [.int (pI (smF ft st tn kd mn cx cy le9.toInt q))]) (va_runV (As := [.int (nI q), .int le9]) (rest := []) ⟨hx, hb, hml, hown, hts⟩ (k_M_isSmall l dC dI cI cZ cF H.size k0 a I0 J0 q ft le9 st tn kd mn cx cy S2 (by first | with_reducible assumption | assumption) (by first | with_reducible assumption | omega) (by first | with_reducible assumption | omega) (by first | with_reducible assumption | assumption)) (csV_220 hts rfl rfl ⟨Nat.le_of_ble_eq_true rfl, Nat.le_of_ble_eq_true rfl⟩) (zPV2 (q0 := 0) (ci := 9) hPc hDc hK hXN rfl rfl) rfl rfl hl.1 rfl (lv_room (Nat.le_of_ble_eq_true rfl)) dX11_few_49 ⟨Nat.le_of_ble_eq_true rfl, Nat.le_of_ble_eq_true rfl⟩) hS hFc hFc rfl (fun t H locs ht hB hk1 hS => ?_)
                    obtain ⟨S3, hP1, hD1⟩ := hB
                    rw [ht] at hP1
                    obtain ⟨hP, hD⟩ := zn (W2 := [_, _, _, _, _, _, _, (oa (a 32) cI 8 S3), _, _]) hP hD hk1 hFc hP1 hD1 zl_157 zl_233 zl_233 zl_157 (by decide +kernel) rfl rfl rfl rfl rfl
                    clear hk1 hPc hDc hFc hP1 hD1 ht
                    refine lv_if_eq (tgt := 171) hx hb dX11_few_52 rfl (fun c_15 => ?_) (fun c_15 => ?_)
                    · have c_15 : ¬ (smF ft st tn kd mn cx cy le9.toInt q) := zp_0 c_15
                      refine lv_aload_n hx hb dX11_few_171 rfl (lv_at hl 3 rfl) ?_
                      refine va_get (D := (dC, dI)) (ci := 9) (v := .ref (a 50)) (C := RX11) (T := TX11) (N := 55) hx hb hts inX11 hown hK hP 0 rfl rfl 50 (Nat.le_of_ble_eq_true rfl) (hts _ mw_1209) (fun _ h9 => h9) rfl dX11_few_172 ?_
                      refine lv_iload_n hx hb dX11_few_175 rfl (lv_at hl 2 rfl) ?_
                      refine lv_aload_n hx hb dX11_few_176 rfl (lv_at hl 3 rfl) ?_
                      refine lv_iload_n hx hb dX11_few_177 rfl (lv_at hl 2 rfl) ?_
                      refine lv_iload_n hx hb dX11_few_178 rfl (lv_at hl 4 rfl) ?_
                      obtain ⟨hPc, hDc, hFc⟩ := zo_sub (wc := [_, _, _, _, _, _, _, _]) hP hD hS hA [0, 1, 2, 3, 4, 5, 6, 7] (by decide +kernel) rfl
                      refine zcall (st1 := [.int (pI (smF ft st tn kd mn cx cy le9.toInt q)), .int (nI q), .ref (a 50)]) (va_runV (As := [.int (nI q), .int le9]) (rest := [.int (nI q), .ref (a 50)]) ⟨hx, hb, hml, hown, hts⟩ (k_M_isSmall l dC dI cI cZ cF H.size k0 a I0 J0 q ft le9 st tn kd mn cx cy S3 (by first | with_reducible assumption | assumption) (by first | with_reducible assumption | omega) (by first | with_reducible assumption | omega) (by first | with_reducible assumption | assumption)) (csV_220 hts rfl rfl ⟨Nat.le_of_ble_eq_true rfl, Nat.le_of_ble_eq_true rfl⟩) (zPV2 (q0 := 0) (ci := 9) hPc hDc hK hXN rfl rfl) rfl rfl hl.1 rfl (lv_room (Nat.le_of_ble_eq_true rfl)) dX11_few_179 ⟨Nat.le_of_ble_eq_true rfl, Nat.le_of_ble_eq_true rfl⟩) hS hFc hFc rfl (fun t H locs ht hB hk1 hS => ?_)
                      obtain ⟨S6, hP1, hD1⟩ := hB
                      rw [ht] at hP1
                      obtain ⟨hP, hD⟩ := zn (W2 := [_, _, _, _, _, _, _, (oa (a 32) cI 8 S6), _, _]) hP hD hk1 hFc hP1 hD1 zl_157 zl_233 zl_233 zl_157 (by decide +kernel) rfl rfl rfl rfl rfl
                      clear hk1 hPc hDc hFc hP1 hD1 ht
                      refine lv_if_eq (tgt := 195) hx hb dX11_few_182 rfl (fun c_16 => ?_) (fun c_16 => ?_)
                      · have c_16 : ¬ (smF ft st tn kd mn cx cy le9.toInt q) := zp_0 c_16
                        refine lv_iconst (v := 0) hx hb dX11_few_195 rfl ?_
                        refine zz_i (v := pI (fwM ft st tn kd mn tw cx cy le9.toInt mv9.toInt q)) (by first | exact fw_s (by first | with_reducible assumption | assumption) | exact fw_t (k := k) (by first | with_reducible assumption | assumption) (by omega) (by omega) | exact fw_n (k := k) (by omega) (by omega) | (exfalso; have h1 : ¬ smF ft st tn kd mn cx cy le9.toInt q := (by first | with_reducible assumption | assumption); exact h1 (by first | with_reducible assumption | assumption))) ?_
                        have b9_17 : q < 201 := by omega
                        refine z_zast hx hb hK hP hD hS 9 1 rfl rfl (e := q) (x := pI (fwM ft st tn kd mn tw cx cy le9.toInt mv9.toInt q)) rfl b9_17 (Nat.le_of_ble_eq_true rfl) (zp_and _) dX11_few_196 (fun H locs hP hD hS => ?_)
                        obtain ⟨hP, hD⟩ := zre (W2 := [_, _, _, _, _, _, _, _, _, (oa (a 50) cZ 201 (upd mk1 q (pI (fwM ft st tn kd mn tw cx cy le9.toInt mv9.toInt q))))]) hP hD rfl
                        refine lv_iinc (v := nI (q + 1)) (lv' := [(3, .int (nI (q + 1))), (5, .int (nI k)), (4, .int (nI (cntP (gtF ft st tn kd mn tw cx cy q) k))), (0, .ref k0), (1, .int le9), (2, .int mv9)]) hx hb dX11_few_197 hl (k := 2) rfl (nI_add q 1) (Nat.le_of_ble_eq_true rfl) rfl (fun ls hl => ?_)
                        refine lv_goto (tgt := 23) hx hb dX11_few_200 rfl ?_
                        exact ih_23 (q + 1) (upd mk1 q (pI (fwM ft st tn kd mn tw cx cy le9.toInt mv9.toInt q))) S6 H locs ls (by first | with_reducible assumption | omega) (by first | with_reducible assumption | omega) (by intro j hj; rcases Nat.lt_or_ge j q with h | h; simp only [upd, if_neg (show j ≠ q by omega)]; exact hmk j h; rw [show j = q by omega]; simp only [upd, if_true]) hP hD hS (lv_sub hl [0, 3, 4, 5] rfl)
                      · have c_16 : smF ft st tn kd mn cx cy le9.toInt q := zp_1 c_16
                        refine lv_iload hx hb dX11_few_185 (lv_at hl 1 rfl) ?_
                        refine lv_iload_n hx hb dX11_few_187 rfl (lv_at hl 5 rfl) ?_
                        have b9_19 : zlt ((cntP (gtF ft st tn kd mn tw cx cy q) k)) := show (cntP (gtF ft st tn kd mn tw cx cy q) k) < 2147483648 by omega
                        refine lv_icmp_lt (tgt := 195) hx hb dX11_few_188 rfl (fun c_18 => ?_) (fun c_18 => ?_)
                        · have c_18 : ((cntP (gtF ft st tn kd mn tw cx cy q) k : Nat) : Int) < mv9.toInt := zc_lt (nI_toInt b9_19) rfl c_18
                          refine lv_iconst (v := 0) hx hb dX11_few_195 rfl ?_
                          refine zz_i (v := pI (fwM ft st tn kd mn tw cx cy le9.toInt mv9.toInt q)) (by first | exact fw_s (by first | with_reducible assumption | assumption) | exact fw_t (k := k) (by first | with_reducible assumption | assumption) (by omega) (by omega) | exact fw_n (k := k) (by omega) (by omega) | (exfalso; have h1 : ¬ smF ft st tn kd mn cx cy le9.toInt q := (by first | with_reducible assumption | assumption); exact h1 (by first | with_reducible assumption | assumption))) ?_
                          have b9_20 : q < 201 := by omega
                          refine z_zast hx hb hK hP hD hS 9 1 rfl rfl (e := q) (x := pI (fwM ft st tn kd mn tw cx cy le9.toInt mv9.toInt q)) rfl b9_20 (Nat.le_of_ble_eq_true rfl) (zp_and _) dX11_few_196 (fun H locs hP hD hS => ?_)
                          obtain ⟨hP, hD⟩ := zre (W2 := [_, _, _, _, _, _, _, _, _, (oa (a 50) cZ 201 (upd mk1 q (pI (fwM ft st tn kd mn tw cx cy le9.toInt mv9.toInt q))))]) hP hD rfl
                          refine lv_iinc (v := nI (q + 1)) (lv' := [(3, .int (nI (q + 1))), (5, .int (nI k)), (4, .int (nI (cntP (gtF ft st tn kd mn tw cx cy q) k))), (0, .ref k0), (1, .int le9), (2, .int mv9)]) hx hb dX11_few_197 hl (k := 2) rfl (nI_add q 1) (Nat.le_of_ble_eq_true rfl) rfl (fun ls hl => ?_)
                          refine lv_goto (tgt := 23) hx hb dX11_few_200 rfl ?_
                          exact ih_23 (q + 1) (upd mk1 q (pI (fwM ft st tn kd mn tw cx cy le9.toInt mv9.toInt q))) S6 H locs ls (by first | with_reducible assumption | omega) (by first | with_reducible assumption | omega) (by intro j hj; rcases Nat.lt_or_ge j q with h | h; simp only [upd, if_neg (show j ≠ q by omega)]; exact hmk j h; rw [show j = q by omega]; simp only [upd, if_true]) hP hD hS (lv_sub hl [0, 3, 4, 5] rfl)
                        · have c_18 : mv9.toInt ≤ ((cntP (gtF ft st tn kd mn tw cx cy q) k : Nat) : Int) := zc_nlt (nI_toInt b9_19) rfl c_18
                          refine lv_iconst (v := 1) hx hb dX11_few_191 rfl ?_
                          refine lv_goto (tgt := 196) hx hb dX11_few_192 rfl ?_
                          refine zz_i (v := pI (fwM ft st tn kd mn tw cx cy le9.toInt mv9.toInt q)) (by first | exact fw_s (by first | with_reducible assumption | assumption) | exact fw_t (k := k) (by first | with_reducible assumption | assumption) (by omega) (by omega) | exact fw_n (k := k) (by omega) (by omega) | (exfalso; have h1 : ¬ smF ft st tn kd mn cx cy le9.toInt q := (by first | with_reducible assumption | assumption); exact h1 (by first | with_reducible assumption | assumption))) ?_
                          have b9_21 : q < 201 := by omega
                          refine z_zast hx hb hK hP hD hS 9 1 rfl rfl (e := q) (x := pI (fwM ft st tn kd mn tw cx cy le9.toInt mv9.toInt q)) rfl b9_21 (Nat.le_of_ble_eq_true rfl) (zp_and _) dX11_few_196 (fun H locs hP hD hS => ?_)
                          obtain ⟨hP, hD⟩ := zre (W2 := [_, _, _, _, _, _, _, _, _, (oa (a 50) cZ 201 (upd mk1 q (pI (fwM ft st tn kd mn tw cx cy le9.toInt mv9.toInt q))))]) hP hD rfl
                          refine lv_iinc (v := nI (q + 1)) (lv' := [(3, .int (nI (q + 1))), (5, .int (nI k)), (4, .int (nI (cntP (gtF ft st tn kd mn tw cx cy q) k))), (0, .ref k0), (1, .int le9), (2, .int mv9)]) hx hb dX11_few_197 hl (k := 2) rfl (nI_add q 1) (Nat.le_of_ble_eq_true rfl) rfl (fun ls hl => ?_)
                          refine lv_goto (tgt := 23) hx hb dX11_few_200 rfl ?_
                          exact ih_23 (q + 1) (upd mk1 q (pI (fwM ft st tn kd mn tw cx cy le9.toInt mv9.toInt q))) S6 H locs ls (by first | with_reducible assumption | omega) (by first | with_reducible assumption | omega) (by intro j hj; rcases Nat.lt_or_ge j q with h | h; simp only [upd, if_neg (show j ≠ q by omega)]; exact hmk j h; rw [show j = q by omega]; simp only [upd, if_true]) hP hD hS (lv_sub hl [0, 3, 4, 5] rfl)
                    · have c_15 : smF ft st tn kd mn cx cy le9.toInt q := zp_1 c_15
                      have hwq := hwf q (by have h9 : smF ft st tn kd mn cx cy le9.toInt q := (by first | with_reducible assumption | assumption); exact h9.1)
                      have hmq := hwq.1
                      have hnq := hwq.2.1
                      have hpq := hwq.2.2
                      have haq := arF_b hwq
                      refine lv_iload hx hb dX11_few_55 (lv_at hl 0 rfl) ?_
                      refine lv_iload_n hx hb dX11_few_57 rfl (lv_at hl 2 rfl) ?_
                      have b9_23 : zlt (q) := show q < 2147483648 by omega
                      refine lv_icmp_eq (tgt := 102) hx hb dX11_few_58 rfl (fun c_22 => ?_) (fun c_22 => ?_)
                      · have c_22 : ((k : Nat) : Int) = ((q : Nat) : Int) := zc_eq (nI_toInt b9_8) (nI_toInt b9_23) c_22
                        refine lv_iconst (v := 0) hx hb dX11_few_102 rfl ?_
                        refine lv_istore (lv' := [(6, .int 0), (5, .int (nI k)), (4, .int (nI (cntP (gtF ft st tn kd mn tw cx cy q) k))), (3, .int (nI q)), (0, .ref k0), (1, .int le9), (2, .int mv9)]) hx hb dX11_few_103 hl (Nat.le_of_ble_eq_true rfl) rfl (fun ls hl => ?_)
                        refine lv_iload hx hb dX11_few_105 (lv_at hl 0 rfl) ?_
                        refine lv_if_eq (tgt := 125) hx hb dX11_few_107 rfl (fun c_24 => ?_) (fun c_24 => ?_)
                        · refine lv_ldc2 hx hb hown (hts _ mw_1620) dX11_few_125 ?_
                          refine lv_lstore (lv' := [(7, .long (-1)), (6, .int 0), (5, .int (nI k)), (4, .int (nI (cntP (gtF ft st tn kd mn tw cx cy q) k))), (3, .int (nI q)), (0, .ref k0), (1, .int le9), (2, .int mv9)]) hx hb dX11_few_128 hl (Nat.le_of_ble_eq_true rfl) rfl (fun ls hl => ?_)
                          refine lv_iload hx hb dX11_few_130 (lv_at hl 3 rfl) ?_
                          refine lv_iload hx hb dX11_few_132 (lv_at hl 1 rfl) ?_
                          refine lv_if_eq (tgt := 161) hx hb dX11_few_134 rfl (fun c_25 => ?_) (fun c_25 => ?_)
                          · refine lv_iconst (v := 0) hx hb dX11_few_161 rfl ?_
                            refine lv_iadd hx hb dX11_few_162 ?_
                            refine zz_i (v := nI ((cntP (gtF ft st tn kd mn tw cx cy q) k) + 0)) (nI_add (cntP (gtF ft st tn kd mn tw cx cy q) k) 0) ?_
                            refine lv_istore (lv' := [(4, .int (nI ((cntP (gtF ft st tn kd mn tw cx cy q) k) + 0))), (7, .long (-1)), (6, .int 0), (5, .int (nI k)), (3, .int (nI q)), (0, .ref k0), (1, .int le9), (2, .int mv9)]) hx hb dX11_few_163 hl (Nat.le_of_ble_eq_true rfl) rfl (fun ls hl => ?_)
                            refine lv_iinc (v := nI (k + 1)) (lv' := [(5, .int (nI (k + 1))), (4, .int (nI ((cntP (gtF ft st tn kd mn tw cx cy q) k) + 0))), (7, .long (-1)), (6, .int 0), (3, .int (nI q)), (0, .ref k0), (1, .int le9), (2, .int mv9)]) hx hb dX11_few_165 hl (k := 3) rfl (nI_add k 1) (Nat.le_of_ble_eq_true rfl) rfl (fun ls hl => ?_)
                            refine lv_goto (tgt := 37) hx hb dX11_few_168 rfl ?_
                            have hl9 := lv_sub hl [0, 1, 4, 5, 6, 7] rfl
                            have e9_4 : nI (cntP (gtF ft st tn kd mn tw cx cy q) (k + 1)) = (nI ((cntP (gtF ft st tn kd mn tw cx cy q) k) + 0) : Int32) := by first | (rw [cntP_n (by unfold gtF; first | (intro h; exact absurd h.2.1 (by first | with_reducible assumption | assumption)) | (intro h; have h1 := h.1; have h2 := h.2.2.1; have h3 := h.2.2.2.1; have h4 := h.2.2.2.2; omega))]; first | done | rfl) | (rw [cntP_y (by unfold gtF; exact ⟨by omega, by assumption, by omega, by omega, by omega⟩)])
                            have hl9 : lv_has ls 9 [(5, .int (nI (k + 1))), (4, .int (nI (cntP (gtF ft st tn kd mn tw cx cy q) (k + 1)))), (3, .int (nI q)), (0, .ref k0), (1, .int le9), (2, .int mv9)] := by rw [e9_4]; exact hl9
                            exact ih_37 (k + 1) S3 H locs ls (by first | with_reducible assumption | omega) (by first | with_reducible assumption | omega) hP hD hS hl9
                          · exact absurd (by decide) c_25
                        · exact absurd (by decide) c_24
                      · have c_22 : ¬ ((k : Nat) : Int) = ((q : Nat) : Int) := zc_ne (nI_toInt b9_8) (nI_toInt b9_23) c_22
                        refine lv_aload_n hx hb dX11_few_61 rfl (lv_at hl 3 rfl) ?_
                        refine lv_iload hx hb dX11_few_62 (lv_at hl 0 rfl) ?_
                        obtain ⟨hPc, hDc, hFc, hI1⟩ := zi_sub (wc := [_, _, _]) hP hD hS hA [0, 1, 2] rfl rfl
                        refine zcall (st1 := [.int (pI (k < ft ∧ (st k).toInt = 1 ∧ (tn k).toInt = 0))]) (va_runV (As := [.int (nI k)]) (rest := []) ⟨hx, hb, hml, hown, hts⟩ (k_M_is_n l dC dI cI cZ cF H.size k0 a I0 J0 k ft st tn (by first | with_reducible assumption | assumption) (by first | with_reducible assumption | omega) (by first | with_reducible assumption | omega)) (csV_179 hts rfl rfl ⟨Nat.le_of_ble_eq_true rfl, Nat.le_of_ble_eq_true rfl⟩) (zPV2 (q0 := 0) (ci := 9) hPc hDc hK hXN rfl rfl) rfl rfl hl.1 rfl (lv_room (Nat.le_of_ble_eq_true rfl)) dX11_few_64 ⟨Nat.le_of_ble_eq_true rfl, Nat.le_of_ble_eq_true rfl⟩) hS hFc hFc rfl (fun t H locs ht hB hk1 hS => ?_)
                        obtain ⟨hP1, hD1⟩ := hB
                        rw [ht] at hP1
                        replace hP := z0 hP hD hk1 hP1 hI1
                        clear hk1 hPc hDc hFc hP1 hD1 ht hI1
                        refine lv_if_eq (tgt := 102) hx hb dX11_few_67 rfl (fun c_26 => ?_) (fun c_26 => ?_)
                        · have c_26 : ¬ (k < ft ∧ (st k).toInt = 1 ∧ (tn k).toInt = 0) := zp_0 c_26
                          refine lv_iconst (v := 0) hx hb dX11_few_102 rfl ?_
                          refine lv_istore (lv' := [(6, .int 0), (5, .int (nI k)), (4, .int (nI (cntP (gtF ft st tn kd mn tw cx cy q) k))), (3, .int (nI q)), (0, .ref k0), (1, .int le9), (2, .int mv9)]) hx hb dX11_few_103 hl (Nat.le_of_ble_eq_true rfl) rfl (fun ls hl => ?_)
                          refine lv_iload hx hb dX11_few_105 (lv_at hl 0 rfl) ?_
                          refine lv_if_eq (tgt := 125) hx hb dX11_few_107 rfl (fun c_27 => ?_) (fun c_27 => ?_)
                          · refine lv_ldc2 hx hb hown (hts _ mw_1620) dX11_few_125 ?_
                            refine lv_lstore (lv' := [(7, .long (-1)), (6, .int 0), (5, .int (nI k)), (4, .int (nI (cntP (gtF ft st tn kd mn tw cx cy q) k))), (3, .int (nI q)), (0, .ref k0), (1, .int le9), (2, .int mv9)]) hx hb dX11_few_128 hl (Nat.le_of_ble_eq_true rfl) rfl (fun ls hl => ?_)
                            refine lv_iload hx hb dX11_few_130 (lv_at hl 3 rfl) ?_
                            refine lv_iload hx hb dX11_few_132 (lv_at hl 1 rfl) ?_
                            refine lv_if_eq (tgt := 161) hx hb dX11_few_134 rfl (fun c_28 => ?_) (fun c_28 => ?_)
                            · refine lv_iconst (v := 0) hx hb dX11_few_161 rfl ?_
                              refine lv_iadd hx hb dX11_few_162 ?_
                              refine zz_i (v := nI ((cntP (gtF ft st tn kd mn tw cx cy q) k) + 0)) (nI_add (cntP (gtF ft st tn kd mn tw cx cy q) k) 0) ?_
                              refine lv_istore (lv' := [(4, .int (nI ((cntP (gtF ft st tn kd mn tw cx cy q) k) + 0))), (7, .long (-1)), (6, .int 0), (5, .int (nI k)), (3, .int (nI q)), (0, .ref k0), (1, .int le9), (2, .int mv9)]) hx hb dX11_few_163 hl (Nat.le_of_ble_eq_true rfl) rfl (fun ls hl => ?_)
                              refine lv_iinc (v := nI (k + 1)) (lv' := [(5, .int (nI (k + 1))), (4, .int (nI ((cntP (gtF ft st tn kd mn tw cx cy q) k) + 0))), (7, .long (-1)), (6, .int 0), (3, .int (nI q)), (0, .ref k0), (1, .int le9), (2, .int mv9)]) hx hb dX11_few_165 hl (k := 3) rfl (nI_add k 1) (Nat.le_of_ble_eq_true rfl) rfl (fun ls hl => ?_)
                              refine lv_goto (tgt := 37) hx hb dX11_few_168 rfl ?_
                              have hl9 := lv_sub hl [0, 1, 4, 5, 6, 7] rfl
                              have e9_4 : nI (cntP (gtF ft st tn kd mn tw cx cy q) (k + 1)) = (nI ((cntP (gtF ft st tn kd mn tw cx cy q) k) + 0) : Int32) := by first | (rw [cntP_n (by unfold gtF; first | (intro h; exact absurd h.2.1 (by first | with_reducible assumption | assumption)) | (intro h; have h1 := h.1; have h2 := h.2.2.1; have h3 := h.2.2.2.1; have h4 := h.2.2.2.2; omega))]; first | done | rfl) | (rw [cntP_y (by unfold gtF; exact ⟨by omega, by assumption, by omega, by omega, by omega⟩)])
                              have hl9 : lv_has ls 9 [(5, .int (nI (k + 1))), (4, .int (nI (cntP (gtF ft st tn kd mn tw cx cy q) (k + 1)))), (3, .int (nI q)), (0, .ref k0), (1, .int le9), (2, .int mv9)] := by rw [e9_4]; exact hl9
                              exact ih_37 (k + 1) S3 H locs ls (by first | with_reducible assumption | omega) (by first | with_reducible assumption | omega) hP hD hS hl9
                            · exact absurd (by decide) c_28
                          · exact absurd (by decide) c_27
                        · have c_26 : k < ft ∧ (st k).toInt = 1 ∧ (tn k).toInt = 0 := zp_1 c_26
                          have hwk := hwf k (by first | with_reducible assumption | assumption)
                          have hmk9 := hwk.1
                          have hnk := hwk.2.1
                          have hpk := hwk.2.2
                          have hak := arF_b hwk
                          refine lv_aload_n hx hb dX11_few_70 rfl (lv_at hl 3 rfl) ?_
                          refine va_get (D := (dC, dI)) (ci := 9) (v := .ref (a 1)) (C := RX11) (T := TX11) (N := 55) hx hb hts inX11 hown hK hP 0 rfl rfl 1 (Nat.le_of_ble_eq_true rfl) (hts _ mw_1160) (fun _ h9 => h9) rfl dX11_few_71 ?_
                          refine lv_iload hx hb dX11_few_74 (lv_at hl 0 rfl) ?_
                          have b9_29 : k < 201 := by omega
                          refine z_iald hx hb hK hP 3 0 rfl rfl (e := k) rfl b9_29 (Nat.le_of_ble_eq_true rfl) dX11_few_76 ?_
                          refine lv_bipush (v := 6) hx hb dX11_few_77 rfl ?_
                          refine lv_icmp_ne (tgt := 102) hx hb dX11_few_79 rfl (fun c_30 => ?_) (fun c_30 => ?_)
                          · have c_30 : ¬ (kd k).toInt = 6 := zc_ne rfl rfl c_30
                            refine lv_iconst (v := 0) hx hb dX11_few_102 rfl ?_
                            refine lv_istore (lv' := [(6, .int 0), (5, .int (nI k)), (4, .int (nI (cntP (gtF ft st tn kd mn tw cx cy q) k))), (3, .int (nI q)), (0, .ref k0), (1, .int le9), (2, .int mv9)]) hx hb dX11_few_103 hl (Nat.le_of_ble_eq_true rfl) rfl (fun ls hl => ?_)
                            refine lv_iload hx hb dX11_few_105 (lv_at hl 0 rfl) ?_
                            refine lv_if_eq (tgt := 125) hx hb dX11_few_107 rfl (fun c_31 => ?_) (fun c_31 => ?_)
                            · refine lv_ldc2 hx hb hown (hts _ mw_1620) dX11_few_125 ?_
                              refine lv_lstore (lv' := [(7, .long (-1)), (6, .int 0), (5, .int (nI k)), (4, .int (nI (cntP (gtF ft st tn kd mn tw cx cy q) k))), (3, .int (nI q)), (0, .ref k0), (1, .int le9), (2, .int mv9)]) hx hb dX11_few_128 hl (Nat.le_of_ble_eq_true rfl) rfl (fun ls hl => ?_)
                              refine lv_iload hx hb dX11_few_130 (lv_at hl 3 rfl) ?_
                              refine lv_iload hx hb dX11_few_132 (lv_at hl 1 rfl) ?_
                              refine lv_if_eq (tgt := 161) hx hb dX11_few_134 rfl (fun c_32 => ?_) (fun c_32 => ?_)
                              · refine lv_iconst (v := 0) hx hb dX11_few_161 rfl ?_
                                refine lv_iadd hx hb dX11_few_162 ?_
                                refine zz_i (v := nI ((cntP (gtF ft st tn kd mn tw cx cy q) k) + 0)) (nI_add (cntP (gtF ft st tn kd mn tw cx cy q) k) 0) ?_
                                refine lv_istore (lv' := [(4, .int (nI ((cntP (gtF ft st tn kd mn tw cx cy q) k) + 0))), (7, .long (-1)), (6, .int 0), (5, .int (nI k)), (3, .int (nI q)), (0, .ref k0), (1, .int le9), (2, .int mv9)]) hx hb dX11_few_163 hl (Nat.le_of_ble_eq_true rfl) rfl (fun ls hl => ?_)
                                refine lv_iinc (v := nI (k + 1)) (lv' := [(5, .int (nI (k + 1))), (4, .int (nI ((cntP (gtF ft st tn kd mn tw cx cy q) k) + 0))), (7, .long (-1)), (6, .int 0), (3, .int (nI q)), (0, .ref k0), (1, .int le9), (2, .int mv9)]) hx hb dX11_few_165 hl (k := 3) rfl (nI_add k 1) (Nat.le_of_ble_eq_true rfl) rfl (fun ls hl => ?_)
                                refine lv_goto (tgt := 37) hx hb dX11_few_168 rfl ?_
                                have hl9 := lv_sub hl [0, 1, 4, 5, 6, 7] rfl
                                have e9_4 : nI (cntP (gtF ft st tn kd mn tw cx cy q) (k + 1)) = (nI ((cntP (gtF ft st tn kd mn tw cx cy q) k) + 0) : Int32) := by first | (rw [cntP_n (by unfold gtF; first | (intro h; exact absurd h.2.1 (by first | with_reducible assumption | assumption)) | (intro h; have h1 := h.1; have h2 := h.2.2.1; have h3 := h.2.2.2.1; have h4 := h.2.2.2.2; omega))]; first | done | rfl) | (rw [cntP_y (by unfold gtF; exact ⟨by omega, by assumption, by omega, by omega, by omega⟩)])
                                have hl9 : lv_has ls 9 [(5, .int (nI (k + 1))), (4, .int (nI (cntP (gtF ft st tn kd mn tw cx cy q) (k + 1)))), (3, .int (nI q)), (0, .ref k0), (1, .int le9), (2, .int mv9)] := by rw [e9_4]; exact hl9
                                exact ih_37 (k + 1) S3 H locs ls (by first | with_reducible assumption | omega) (by first | with_reducible assumption | omega) hP hD hS hl9
                              · exact absurd (by decide) c_32
                            · exact absurd (by decide) c_31
                          · have c_30 : (kd k).toInt = 6 := zc_eq rfl rfl c_30
                            refine lv_aload_n hx hb dX11_few_82 rfl (lv_at hl 3 rfl) ?_
                            refine va_get (D := (dC, dI)) (ci := 9) (v := .ref (a 4)) (C := RX11) (T := TX11) (N := 55) hx hb hts inX11 hown hK hP 0 rfl rfl 4 (Nat.le_of_ble_eq_true rfl) (hts _ mw_1163) (fun _ h9 => h9) rfl dX11_few_83 ?_
                            refine lv_iload hx hb dX11_few_86 (lv_at hl 0 rfl) ?_
                            refine z_iald hx hb hK hP 8 0 rfl rfl (e := k) rfl b9_29 (Nat.le_of_ble_eq_true rfl) dX11_few_88 ?_
                            refine lv_aload_n hx hb dX11_few_89 rfl (lv_at hl 3 rfl) ?_
                            refine va_get (D := (dC, dI)) (ci := 9) (v := .ref (a 4)) (C := RX11) (T := TX11) (N := 55) hx hb hts inX11 hown hK hP 0 rfl rfl 4 (Nat.le_of_ble_eq_true rfl) (hts _ mw_1163) (fun _ h9 => h9) rfl dX11_few_90 ?_
                            refine lv_iload_n hx hb dX11_few_93 rfl (lv_at hl 2 rfl) ?_
                            have b9_33 : q < 201 := by omega
                            refine z_iald hx hb hK hP 8 0 rfl rfl (e := q) rfl b9_33 (Nat.le_of_ble_eq_true rfl) dX11_few_94 ?_
                            refine lv_icmp_ne (tgt := 102) hx hb dX11_few_95 rfl (fun c_34 => ?_) (fun c_34 => ?_)
                            · have c_34 : ¬ (tw k).toInt = (tw q).toInt := zc_ne rfl rfl c_34
                              refine lv_iconst (v := 0) hx hb dX11_few_102 rfl ?_
                              refine lv_istore (lv' := [(6, .int 0), (5, .int (nI k)), (4, .int (nI (cntP (gtF ft st tn kd mn tw cx cy q) k))), (3, .int (nI q)), (0, .ref k0), (1, .int le9), (2, .int mv9)]) hx hb dX11_few_103 hl (Nat.le_of_ble_eq_true rfl) rfl (fun ls hl => ?_)
                              refine lv_iload hx hb dX11_few_105 (lv_at hl 0 rfl) ?_
                              refine lv_if_eq (tgt := 125) hx hb dX11_few_107 rfl (fun c_35 => ?_) (fun c_35 => ?_)
                              · refine lv_ldc2 hx hb hown (hts _ mw_1620) dX11_few_125 ?_
                                refine lv_lstore (lv' := [(7, .long (-1)), (6, .int 0), (5, .int (nI k)), (4, .int (nI (cntP (gtF ft st tn kd mn tw cx cy q) k))), (3, .int (nI q)), (0, .ref k0), (1, .int le9), (2, .int mv9)]) hx hb dX11_few_128 hl (Nat.le_of_ble_eq_true rfl) rfl (fun ls hl => ?_)
                                refine lv_iload hx hb dX11_few_130 (lv_at hl 3 rfl) ?_
                                refine lv_iload hx hb dX11_few_132 (lv_at hl 1 rfl) ?_
                                refine lv_if_eq (tgt := 161) hx hb dX11_few_134 rfl (fun c_36 => ?_) (fun c_36 => ?_)
                                · refine lv_iconst (v := 0) hx hb dX11_few_161 rfl ?_
                                  refine lv_iadd hx hb dX11_few_162 ?_
                                  refine zz_i (v := nI ((cntP (gtF ft st tn kd mn tw cx cy q) k) + 0)) (nI_add (cntP (gtF ft st tn kd mn tw cx cy q) k) 0) ?_
                                  refine lv_istore (lv' := [(4, .int (nI ((cntP (gtF ft st tn kd mn tw cx cy q) k) + 0))), (7, .long (-1)), (6, .int 0), (5, .int (nI k)), (3, .int (nI q)), (0, .ref k0), (1, .int le9), (2, .int mv9)]) hx hb dX11_few_163 hl (Nat.le_of_ble_eq_true rfl) rfl (fun ls hl => ?_)
                                  refine lv_iinc (v := nI (k + 1)) (lv' := [(5, .int (nI (k + 1))), (4, .int (nI ((cntP (gtF ft st tn kd mn tw cx cy q) k) + 0))), (7, .long (-1)), (6, .int 0), (3, .int (nI q)), (0, .ref k0), (1, .int le9), (2, .int mv9)]) hx hb dX11_few_165 hl (k := 3) rfl (nI_add k 1) (Nat.le_of_ble_eq_true rfl) rfl (fun ls hl => ?_)
                                  refine lv_goto (tgt := 37) hx hb dX11_few_168 rfl ?_
                                  have hl9 := lv_sub hl [0, 1, 4, 5, 6, 7] rfl
                                  have e9_4 : nI (cntP (gtF ft st tn kd mn tw cx cy q) (k + 1)) = (nI ((cntP (gtF ft st tn kd mn tw cx cy q) k) + 0) : Int32) := by first | (rw [cntP_n (by unfold gtF; first | (intro h; exact absurd h.2.1 (by first | with_reducible assumption | assumption)) | (intro h; have h1 := h.1; have h2 := h.2.2.1; have h3 := h.2.2.2.1; have h4 := h.2.2.2.2; omega))]; first | done | rfl) | (rw [cntP_y (by unfold gtF; exact ⟨by omega, by assumption, by omega, by omega, by omega⟩)])
                                  have hl9 : lv_has ls 9 [(5, .int (nI (k + 1))), (4, .int (nI (cntP (gtF ft st tn kd mn tw cx cy q) (k + 1)))), (3, .int (nI q)), (0, .ref k0), (1, .int le9), (2, .int mv9)] := by rw [e9_4]; exact hl9
                                  exact ih_37 (k + 1) S3 H locs ls (by first | with_reducible assumption | omega) (by first | with_reducible assumption | omega) hP hD hS hl9
                                · exact absurd (by decide) c_36
                              · exact absurd (by decide) c_35
                            · have c_34 : (tw k).toInt = (tw q).toInt := zc_eq rfl rfl c_34
                              refine lv_iconst (v := 1) hx hb dX11_few_98 rfl ?_
                              refine lv_goto (tgt := 103) hx hb dX11_few_99 rfl ?_
                              refine lv_istore (lv' := [(6, .int 1), (5, .int (nI k)), (4, .int (nI (cntP (gtF ft st tn kd mn tw cx cy q) k))), (3, .int (nI q)), (0, .ref k0), (1, .int le9), (2, .int mv9)]) hx hb dX11_few_103 hl (Nat.le_of_ble_eq_true rfl) rfl (fun ls hl => ?_)
                              refine lv_iload hx hb dX11_few_105 (lv_at hl 0 rfl) ?_
                              refine lv_if_eq (tgt := 125) hx hb dX11_few_107 rfl (fun c_37 => ?_) (fun c_37 => ?_)
                              · exact absurd c_37 (by decide)
                              · refine lv_aload_n hx hb dX11_few_110 rfl (lv_at hl 4 rfl) ?_
                                refine lv_iload hx hb dX11_few_111 (lv_at hl 1 rfl) ?_
                                obtain ⟨hPc, hDc, hFc⟩ := zo_sub (wc := [_, _, _, _, _]) hP hD hS hA [0, 4, 5, 6, 7] (by decide +kernel) rfl
                                refine zcall (st1 := [.long (jI ((Int.natAbs (ar2 (nN (mn k)) (cF40 cx k) (cF40 cy k) (nN (mn k))) : Nat) : Int))]) (va_runV (As := [.int (nI k)]) (rest := []) ⟨hx, hb, hml, hown, hts⟩ (k_M_area l dC dI cI cZ cF H.size k0 a I0 J0 k (nN (mn k)) mn cx cy S3 (by first | with_reducible assumption | omega) (by first | with_reducible assumption | assumption) (by first | with_reducible assumption | omega) (by first | with_reducible assumption | assumption)) (csV_218 hts rfl rfl ⟨Nat.le_of_ble_eq_true rfl, Nat.le_of_ble_eq_true rfl⟩) (zPV2 (q0 := 0) (ci := 9) hPc hDc hK hXN rfl rfl) rfl rfl hl.1 rfl (lv_room (Nat.le_of_ble_eq_true rfl)) dX11_few_113 ⟨Nat.le_of_ble_eq_true rfl, Nat.le_of_ble_eq_true rfl⟩) hS hFc hFc rfl (fun t H locs ht hB hk1 hS => ?_)
                                obtain ⟨S4, hP1, hD1⟩ := hB
                                rw [ht] at hP1
                                obtain ⟨hP, hD⟩ := zn (W2 := [_, _, _, _, _, _, _, (oa (a 32) cI 8 S4), _, _]) hP hD hk1 hFc hP1 hD1 [0, 4, 5, 6, 7] zl_234 zl_234 [0, 4, 5, 6, 7] (by decide +kernel) rfl rfl rfl rfl rfl
                                clear hk1 hPc hDc hFc hP1 hD1 ht
                                refine zz_l (v := jI ((arF mn cx cy k : Nat) : Int)) (rfl) ?_
                                refine lv_aload_n hx hb dX11_few_116 rfl (lv_at hl 4 rfl) ?_
                                refine lv_iload_n hx hb dX11_few_117 rfl (lv_at hl 3 rfl) ?_
                                obtain ⟨hPc, hDc, hFc⟩ := zo_sub (wc := [_, _, _, _, _]) hP hD hS hA [0, 4, 5, 6, 7] (by decide +kernel) rfl
                                refine zcall (st1 := [.long (jI ((Int.natAbs (ar2 (nN (mn q)) (cF40 cx q) (cF40 cy q) (nN (mn q))) : Nat) : Int)), .long (jI ((arF mn cx cy k : Nat) : Int))]) (va_runV (As := [.int (nI q)]) (rest := [.long (jI ((arF mn cx cy k : Nat) : Int))]) ⟨hx, hb, hml, hown, hts⟩ (k_M_area l dC dI cI cZ cF H.size k0 a I0 J0 q (nN (mn q)) mn cx cy S4 (by first | with_reducible assumption | omega) (by first | with_reducible assumption | assumption) (by first | with_reducible assumption | omega) (by first | with_reducible assumption | assumption)) (csV_218 hts rfl rfl ⟨Nat.le_of_ble_eq_true rfl, Nat.le_of_ble_eq_true rfl⟩) (zPV2 (q0 := 0) (ci := 9) hPc hDc hK hXN rfl rfl) rfl rfl hl.1 rfl (lv_room (Nat.le_of_ble_eq_true rfl)) dX11_few_118 ⟨Nat.le_of_ble_eq_true rfl, Nat.le_of_ble_eq_true rfl⟩) hS hFc hFc rfl (fun t H locs ht hB hk1 hS => ?_)
                                obtain ⟨S5, hP1, hD1⟩ := hB
                                rw [ht] at hP1
                                obtain ⟨hP, hD⟩ := zn (W2 := [_, _, _, _, _, _, _, (oa (a 32) cI 8 S5), _, _]) hP hD hk1 hFc hP1 hD1 [0, 4, 5, 6, 7] zl_234 zl_234 [0, 4, 5, 6, 7] (by decide +kernel) rfl rfl rfl rfl rfl
                                clear hk1 hPc hDc hFc hP1 hD1 ht
                                refine zz_l (v := jI ((arF mn cx cy q : Nat) : Int)) (rfl) ?_
                                refine lv_lsub hx hb dX11_few_121 ?_
                                refine zz_l (v := jI (((arF mn cx cy k : Nat) : Int) - ((arF mn cx cy q : Nat) : Int))) (jI_sub (by omega) (by omega)) ?_
                                refine lv_goto (tgt := 128) hx hb dX11_few_122 rfl ?_
                                refine lv_lstore (lv' := [(7, .long (jI (((arF mn cx cy k : Nat) : Int) - ((arF mn cx cy q : Nat) : Int)))), (6, .int 1), (5, .int (nI k)), (4, .int (nI (cntP (gtF ft st tn kd mn tw cx cy q) k))), (3, .int (nI q)), (0, .ref k0), (1, .int le9), (2, .int mv9)]) hx hb dX11_few_128 hl (Nat.le_of_ble_eq_true rfl) rfl (fun ls hl => ?_)
                                refine lv_iload hx hb dX11_few_130 (lv_at hl 3 rfl) ?_
                                refine lv_iload hx hb dX11_few_132 (lv_at hl 1 rfl) ?_
                                refine lv_if_eq (tgt := 161) hx hb dX11_few_134 rfl (fun c_38 => ?_) (fun c_38 => ?_)
                                · exact absurd c_38 (by decide)
                                · refine lv_lload hx hb dX11_few_137 (lv_at hl 0 rfl) ?_
                                  refine lv_lconst (v := 0) hx hb dX11_few_139 rfl ?_
                                  refine W.lcmp hx hb dX11_few_140 ?_
                                  refine lv_if_gt (tgt := 157) hx hb dX11_few_141 rfl (fun c_39 => ?_) (fun c_39 => ?_)
                                  · have c_39 : 0 < (((arF mn cx cy k : Nat) : Int) - ((arF mn cx cy q : Nat) : Int)) := zl_gt (jI_toInt (by omega)) rfl c_39
                                    refine lv_iconst (v := 1) hx hb dX11_few_157 rfl ?_
                                    refine lv_goto (tgt := 162) hx hb dX11_few_158 rfl ?_
                                    refine lv_iadd hx hb dX11_few_162 ?_
                                    refine zz_i (v := nI ((cntP (gtF ft st tn kd mn tw cx cy q) k) + 1)) (nI_add (cntP (gtF ft st tn kd mn tw cx cy q) k) 1) ?_
                                    refine lv_istore (lv' := [(4, .int (nI ((cntP (gtF ft st tn kd mn tw cx cy q) k) + 1))), (7, .long (jI (((arF mn cx cy k : Nat) : Int) - ((arF mn cx cy q : Nat) : Int)))), (6, .int 1), (5, .int (nI k)), (3, .int (nI q)), (0, .ref k0), (1, .int le9), (2, .int mv9)]) hx hb dX11_few_163 hl (Nat.le_of_ble_eq_true rfl) rfl (fun ls hl => ?_)
                                    refine lv_iinc (v := nI (k + 1)) (lv' := [(5, .int (nI (k + 1))), (4, .int (nI ((cntP (gtF ft st tn kd mn tw cx cy q) k) + 1))), (7, .long (jI (((arF mn cx cy k : Nat) : Int) - ((arF mn cx cy q : Nat) : Int)))), (6, .int 1), (3, .int (nI q)), (0, .ref k0), (1, .int le9), (2, .int mv9)]) hx hb dX11_few_165 hl (k := 3) rfl (nI_add k 1) (Nat.le_of_ble_eq_true rfl) rfl (fun ls hl => ?_)
                                    refine lv_goto (tgt := 37) hx hb dX11_few_168 rfl ?_
                                    have hl9 := lv_sub hl [0, 1, 4, 5, 6, 7] rfl
                                    have e9_4 : nI (cntP (gtF ft st tn kd mn tw cx cy q) (k + 1)) = (nI ((cntP (gtF ft st tn kd mn tw cx cy q) k) + 1) : Int32) := by first | (rw [cntP_n (by unfold gtF; first | (intro h; exact absurd h.2.1 (by first | with_reducible assumption | assumption)) | (intro h; have h1 := h.1; have h2 := h.2.2.1; have h3 := h.2.2.2.1; have h4 := h.2.2.2.2; omega))]; first | done | rfl) | (rw [cntP_y (by unfold gtF; exact ⟨by omega, by assumption, by omega, by omega, by omega⟩)])
                                    have hl9 : lv_has ls 9 [(5, .int (nI (k + 1))), (4, .int (nI (cntP (gtF ft st tn kd mn tw cx cy q) (k + 1)))), (3, .int (nI q)), (0, .ref k0), (1, .int le9), (2, .int mv9)] := by rw [e9_4]; exact hl9
                                    exact ih_37 (k + 1) S5 H locs ls (by first | with_reducible assumption | omega) (by first | with_reducible assumption | omega) hP hD hS hl9
                                  · have c_39 : (((arF mn cx cy k : Nat) : Int) - ((arF mn cx cy q : Nat) : Int)) ≤ 0 := zl_ngt (jI_toInt (by omega)) rfl c_39
                                    refine lv_lload hx hb dX11_few_144 (lv_at hl 0 rfl) ?_
                                    refine lv_lconst (v := 0) hx hb dX11_few_146 rfl ?_
                                    refine W.lcmp hx hb dX11_few_147 ?_
                                    refine lv_if_ne (tgt := 161) hx hb dX11_few_148 rfl (fun c_40 => ?_) (fun c_40 => ?_)
                                    · have c_40 : ¬ (((arF mn cx cy k : Nat) : Int) - ((arF mn cx cy q : Nat) : Int)) = 0 := zl_ne (jI_toInt (by omega)) rfl c_40
                                      refine lv_iconst (v := 0) hx hb dX11_few_161 rfl ?_
                                      refine lv_iadd hx hb dX11_few_162 ?_
                                      refine zz_i (v := nI ((cntP (gtF ft st tn kd mn tw cx cy q) k) + 0)) (nI_add (cntP (gtF ft st tn kd mn tw cx cy q) k) 0) ?_
                                      refine lv_istore (lv' := [(4, .int (nI ((cntP (gtF ft st tn kd mn tw cx cy q) k) + 0))), (7, .long (jI (((arF mn cx cy k : Nat) : Int) - ((arF mn cx cy q : Nat) : Int)))), (6, .int 1), (5, .int (nI k)), (3, .int (nI q)), (0, .ref k0), (1, .int le9), (2, .int mv9)]) hx hb dX11_few_163 hl (Nat.le_of_ble_eq_true rfl) rfl (fun ls hl => ?_)
                                      refine lv_iinc (v := nI (k + 1)) (lv' := [(5, .int (nI (k + 1))), (4, .int (nI ((cntP (gtF ft st tn kd mn tw cx cy q) k) + 0))), (7, .long (jI (((arF mn cx cy k : Nat) : Int) - ((arF mn cx cy q : Nat) : Int)))), (6, .int 1), (3, .int (nI q)), (0, .ref k0), (1, .int le9), (2, .int mv9)]) hx hb dX11_few_165 hl (k := 3) rfl (nI_add k 1) (Nat.le_of_ble_eq_true rfl) rfl (fun ls hl => ?_)
                                      refine lv_goto (tgt := 37) hx hb dX11_few_168 rfl ?_
                                      have hl9 := lv_sub hl [0, 1, 4, 5, 6, 7] rfl
                                      have e9_4 : nI (cntP (gtF ft st tn kd mn tw cx cy q) (k + 1)) = (nI ((cntP (gtF ft st tn kd mn tw cx cy q) k) + 0) : Int32) := by first | (rw [cntP_n (by unfold gtF; first | (intro h; exact absurd h.2.1 (by first | with_reducible assumption | assumption)) | (intro h; have h1 := h.1; have h2 := h.2.2.1; have h3 := h.2.2.2.1; have h4 := h.2.2.2.2; omega))]; first | done | rfl) | (rw [cntP_y (by unfold gtF; exact ⟨by omega, by assumption, by omega, by omega, by omega⟩)])
                                      have hl9 : lv_has ls 9 [(5, .int (nI (k + 1))), (4, .int (nI (cntP (gtF ft st tn kd mn tw cx cy q) (k + 1)))), (3, .int (nI q)), (0, .ref k0), (1, .int le9), (2, .int mv9)] := by rw [e9_4]; exact hl9
                                      exact ih_37 (k + 1) S5 H locs ls (by first | with_reducible assumption | omega) (by first | with_reducible assumption | omega) hP hD hS hl9
                                    · have c_40 : (((arF mn cx cy k : Nat) : Int) - ((arF mn cx cy q : Nat) : Int)) = 0 := zl_eq (jI_toInt (by omega)) rfl c_40
                                      refine lv_iload hx hb dX11_few_151 (lv_at hl 2 rfl) ?_
                                      refine lv_iload_n hx hb dX11_few_153 rfl (lv_at hl 4 rfl) ?_
                                      refine lv_icmp_ge (tgt := 161) hx hb dX11_few_154 rfl (fun c_41 => ?_) (fun c_41 => ?_)
                                      · have c_41 : ((q : Nat) : Int) ≤ ((k : Nat) : Int) := zc_le (nI_toInt b9_23) (nI_toInt b9_8) c_41
                                        refine lv_iconst (v := 0) hx hb dX11_few_161 rfl ?_
                                        refine lv_iadd hx hb dX11_few_162 ?_
                                        refine zz_i (v := nI ((cntP (gtF ft st tn kd mn tw cx cy q) k) + 0)) (nI_add (cntP (gtF ft st tn kd mn tw cx cy q) k) 0) ?_
                                        refine lv_istore (lv' := [(4, .int (nI ((cntP (gtF ft st tn kd mn tw cx cy q) k) + 0))), (7, .long (jI (((arF mn cx cy k : Nat) : Int) - ((arF mn cx cy q : Nat) : Int)))), (6, .int 1), (5, .int (nI k)), (3, .int (nI q)), (0, .ref k0), (1, .int le9), (2, .int mv9)]) hx hb dX11_few_163 hl (Nat.le_of_ble_eq_true rfl) rfl (fun ls hl => ?_)
                                        refine lv_iinc (v := nI (k + 1)) (lv' := [(5, .int (nI (k + 1))), (4, .int (nI ((cntP (gtF ft st tn kd mn tw cx cy q) k) + 0))), (7, .long (jI (((arF mn cx cy k : Nat) : Int) - ((arF mn cx cy q : Nat) : Int)))), (6, .int 1), (3, .int (nI q)), (0, .ref k0), (1, .int le9), (2, .int mv9)]) hx hb dX11_few_165 hl (k := 3) rfl (nI_add k 1) (Nat.le_of_ble_eq_true rfl) rfl (fun ls hl => ?_)
                                        refine lv_goto (tgt := 37) hx hb dX11_few_168 rfl ?_
                                        have hl9 := lv_sub hl [0, 1, 4, 5, 6, 7] rfl
                                        have e9_4 : nI (cntP (gtF ft st tn kd mn tw cx cy q) (k + 1)) = (nI ((cntP (gtF ft st tn kd mn tw cx cy q) k) + 0) : Int32) := by first | (rw [cntP_n (by unfold gtF; first | (intro h; exact absurd h.2.1 (by first | with_reducible assumption | assumption)) | (intro h; have h1 := h.1; have h2 := h.2.2.1; have h3 := h.2.2.2.1; have h4 := h.2.2.2.2; omega))]; first | done | rfl) | (rw [cntP_y (by unfold gtF; exact ⟨by omega, by assumption, by omega, by omega, by omega⟩)])
                                        have hl9 : lv_has ls 9 [(5, .int (nI (k + 1))), (4, .int (nI (cntP (gtF ft st tn kd mn tw cx cy q) (k + 1)))), (3, .int (nI q)), (0, .ref k0), (1, .int le9), (2, .int mv9)] := by rw [e9_4]; exact hl9
                                        exact ih_37 (k + 1) S5 H locs ls (by first | with_reducible assumption | omega) (by first | with_reducible assumption | omega) hP hD hS hl9
                                      · have c_41 : ((k : Nat) : Int) < ((q : Nat) : Int) := zc_nle (nI_toInt b9_23) (nI_toInt b9_8) c_41
                                        refine lv_iconst (v := 1) hx hb dX11_few_157 rfl ?_
                                        refine lv_goto (tgt := 162) hx hb dX11_few_158 rfl ?_
                                        refine lv_iadd hx hb dX11_few_162 ?_
                                        refine zz_i (v := nI ((cntP (gtF ft st tn kd mn tw cx cy q) k) + 1)) (nI_add (cntP (gtF ft st tn kd mn tw cx cy q) k) 1) ?_
                                        refine lv_istore (lv' := [(4, .int (nI ((cntP (gtF ft st tn kd mn tw cx cy q) k) + 1))), (7, .long (jI (((arF mn cx cy k : Nat) : Int) - ((arF mn cx cy q : Nat) : Int)))), (6, .int 1), (5, .int (nI k)), (3, .int (nI q)), (0, .ref k0), (1, .int le9), (2, .int mv9)]) hx hb dX11_few_163 hl (Nat.le_of_ble_eq_true rfl) rfl (fun ls hl => ?_)
                                        refine lv_iinc (v := nI (k + 1)) (lv' := [(5, .int (nI (k + 1))), (4, .int (nI ((cntP (gtF ft st tn kd mn tw cx cy q) k) + 1))), (7, .long (jI (((arF mn cx cy k : Nat) : Int) - ((arF mn cx cy q : Nat) : Int)))), (6, .int 1), (3, .int (nI q)), (0, .ref k0), (1, .int le9), (2, .int mv9)]) hx hb dX11_few_165 hl (k := 3) rfl (nI_add k 1) (Nat.le_of_ble_eq_true rfl) rfl (fun ls hl => ?_)
                                        refine lv_goto (tgt := 37) hx hb dX11_few_168 rfl ?_
                                        have hl9 := lv_sub hl [0, 1, 4, 5, 6, 7] rfl
                                        have e9_4 : nI (cntP (gtF ft st tn kd mn tw cx cy q) (k + 1)) = (nI ((cntP (gtF ft st tn kd mn tw cx cy q) k) + 1) : Int32) := by first | (rw [cntP_n (by unfold gtF; first | (intro h; exact absurd h.2.1 (by first | with_reducible assumption | assumption)) | (intro h; have h1 := h.1; have h2 := h.2.2.1; have h3 := h.2.2.2.1; have h4 := h.2.2.2.2; omega))]; first | done | rfl) | (rw [cntP_y (by unfold gtF; exact ⟨by omega, by assumption, by omega, by omega, by omega⟩)])
                                        have hl9 : lv_has ls 9 [(5, .int (nI (k + 1))), (4, .int (nI (cntP (gtF ft st tn kd mn tw cx cy q) (k + 1)))), (3, .int (nI q)), (0, .ref k0), (1, .int le9), (2, .int mv9)] := by rw [e9_4]; exact hl9
                                        exact ih_37 (k + 1) S5 H locs ls (by first | with_reducible assumption | omega) (by first | with_reducible assumption | omega) hP hD hS hl9
              have e9_4 : nI (cntP (gtF ft st tn kd mn tw cx cy q) 0) = (0 : Int32) := by rfl
              have hl9 : lv_has ls 9 [(5, .int (nI 0)), (4, .int (nI (cntP (gtF ft st tn kd mn tw cx cy q) 0))), (3, .int (nI q)), (0, .ref k0), (1, .int le9), (2, .int mv9)] := by rw [e9_4]; exact lv_sub hl [0, 1, 2, 3, 4, 5] rfl
              exact hl_37 _ 0 S1 H locs ls (Nat.lt_succ_self _) (by first | with_reducible assumption | omega) hP hD hS hl9
        exact hl_23 _ 0 mk S0 s.heap [] ls (Nat.lt_succ_self _) (by first | with_reducible assumption | omega) (by intro j hj; omega) hP hD hS (lv_sub hl [0, 1, 2, 3] rfl)
      · have c_3 : 200 < mv9.toInt := zc_nle rfl rfl c_3
        exfalso; omega
set_option maxHeartbeats 4000000 in
set_option maxRecDepth 100000 in
theorem k_M_few_y (l : Launch) (dC : Nat → ClassId) (dI : Nat → Nat → Nat) (cI cZ cF : ClassId) (sz : Nat) (k0 : Nat) (a : Nat → Nat) (I0 : Nat → Int32) (J0 : Nat → Int64) (le9 : Int32) (mv9 : Int32) (ft : Nat) (dn : Nat) (bs : Nat) (w0 : Nat) (cp : Nat) (c1 : Nat) (c2 : Nat) (ln : Nat) (cl : Nat) (kd : Nat → Int32) (st : Nat → Int32) (gb : Nat → Int32) (it : Nat → Int32) (pa : Nat → Int32) (pb : Nat → Int32) (rk : Nat → Int32) (wd : Nat → Int32) (tw : Nat → Int32) (tn : Nat → Int32) (mn : Nat → Int32) (cx : Nat → Int32) (cy : Nat → Int32) (sa : Nat → Int32) (sh : Nat → Int32) (wh : Nat → Int32) (of9 : Nat → Int32) (we : Nat → Int32) (la : Nat → Int32) (lb : Nat → Int32) (lc : Nat → Int32) (ld : Nat → Int32) (mk : Nat → Int32) (S0 : Nat → Int32) (hft : I0 0 = nI ft) (h200 : ft ≤ 200) (hwf : ∀ q, lvF ft st tn q → wfM mn cx cy q) (hgood : 0 ≤ le9.toInt ∧ 0 ≤ mv9.toInt ∧ mv9.toInt ≤ 200) (hz : 0 < cntP (fun j => fwM ft st tn kd mn tw cx cy le9.toInt mv9.toInt j) ft) (hdn : I0 19 = nI dn) (hbs : I0 21 = nI bs) (hbd : bs ≤ dn) (hd512 : dn ≤ 512) (hlc : ln ≤ 64 * cl) (hcl1 : 1 ≤ cl) (hclm : cl ≤ 1000000) (hi5_1 : (dn - bs) < 515) (hsa_1 : sa (dn - bs) = nI w0) (hmn_1 : ∀ v9, v9 < ft → (tn v9).toInt = 0 → ¬ (st v9).toInt = 0 → mn v9 = nI (nN (mn v9)) ∧ nN (mn v9) ≤ 40) (hc1_1 : 1 ≤ cp) (hpw_1 : pw cp c1) (hw0_1 : w0 ≤ 4096 * cp) (hfit_1 : psN (nnF st tn mn) w0 ft ≤ 4096 * c1) (hmin_1 : c1 = cp ∨ 2048 * c1 < psN (nnF st tn mn) w0 ft) (hcE_1 : c1 ≤ 512) (hpw_2 : pw c1 c2) (hfit_2 : psN (nnF (gnA (fun j => fwM ft st tn kd mn tw cx cy le9.toInt mv9.toInt j) ft 2 st) tn mn) (psN (nnF st tn mn) w0 ft) ft ≤ 4096 * c2) (hmin_2 : c2 = c1 ∨ 2048 * c2 < psN (nnF (gnA (fun j => fwM ft st tn kd mn tw cx cy le9.toInt mv9.toInt j) ft 2 st) tn mn) (psN (nnF st tn mn) w0 ft) ft) (hcE_2 : c2 ≤ 512) : zM l yX11_few cX11_few 9 (some .int) ({ frames := 4, cells := c2 - cp, slots := 8192 * (c2 - cp), locals := 93 } : Room) [.ref k0, .int le9, .int mv9] (dC, dI) (zTy cI cZ cF) [(om k0 a (upd I0 26 (nI ln)) J0), (oa (a 1) cI 201 kd), (oa (a 5) cI 201 st), (oa (a 7) cI 201 gb), (oa (a 10) cI 201 it), (oa (a 8) cI 201 pa), (oa (a 9) cI 201 pb), (oa (a 2) cI 201 rk), (oa (a 3) cI 201 wd), (oa (a 4) cI 201 tw), (oa (a 6) cZ 201 tn), (oa (a 11) cI 201 mn), (oa (a 12) cI 8040 cx), (oa (a 13) cI 8040 cy), (oa (a 27) cI 516 sa), (oa (a 28) cI (4096 * cp) sh), (oa (a 16) cI 514 wh), (oa (a 17) cI 514 of9), (oa (a 18) cI 514 we), (oa (a 22) cI (64 * cl) la), (oa (a 23) cI (64 * cl) lb), (oa (a 24) cI (64 * cl) lc), (oa (a 25) cI (64 * cl) ld), (oa (a 50) cZ 201 mk), (oa (a 32) cI 8 S0)] sz (some (.int (nI (cntP (fun j => fwM ft st tn kd mn tw cx cy le9.toInt mv9.toInt j) ft)))) (fun A t => ∃ (b2 : Nat), ∃ (sh2 : Nat → Int32), ∃ (t9 : Nat), ∃ (la1 : Nat → Int32), ∃ (lb1 : Nat → Int32), ∃ (lc1 : Nat → Int32), ∃ (ld1 : Nat → Int32), ∃ (mk1 : Nat → Int32), ∃ (S1 : Nat → Int32), (sh2 w0 = nI ft) ∧ (∀ j, j < w0 → sh2 j = sh j) ∧ (∀ g, g < ft → ∀ j, j < 10 + 2 * (nnF st tn mn) g → sh2 (psN (nnF st tn mn) w0 g + j) = (shD kd st gb it pa pb rk wd tw (nnF st tn mn) cx cy) g j) ∧ (sh2 (psN (nnF st tn mn) w0 ft) = nI ft) ∧ (∀ g, g < ft → ∀ j, j < 10 + 2 * (nnF (gnA (fun j => fwM ft st tn kd mn tw cx cy le9.toInt mv9.toInt j) ft 2 st) tn mn) g → sh2 (psN (nnF (gnA (fun j => fwM ft st tn kd mn tw cx cy le9.toInt mv9.toInt j) ft 2 st) tn mn) (psN (nnF st tn mn) w0 ft) g + j) = (shD kd (gnA (fun j => fwM ft st tn kd mn tw cx cy le9.toInt mv9.toInt j) ft 2 st) (gnA (fun j => fwM ft st tn kd mn tw cx cy le9.toInt mv9.toInt j) ft (nI (dn + 1)) gb) (gnA (fun j => fwM ft st tn kd mn tw cx cy le9.toInt mv9.toInt j) ft (-1 : Int32) it) pa pb rk wd tw (nnF (gnA (fun j => fwM ft st tn kd mn tw cx cy le9.toInt mv9.toInt j) ft 2 st) tn mn) cx cy) g j) ∧ (t9 ≤ ln) ∧ ((∀ j, j < t9 → ∃ i, i < ln ∧ lb1 j = lb i ∧ lc1 j = lc i) ∧ lsZ dn ln la lb lc ld t9 la1 lb1 lc1 ld1 (fun _ _ _ => False)) ∧ zPD (dC, dI) classes A [(om k0 (va_up a 28 b2) (upd (upd (upd (upd (upd I0 14 0) 19 (nI (dn + 1))) 20 0) 26 (nI t9)) 41 (nI (psN (nnF (gnA (fun j => fwM ft st tn kd mn tw cx cy le9.toInt mv9.toInt j) ft 2 st) tn mn) (psN (nnF st tn mn) w0 ft) ft))) J0), (oa (a 1) cI 201 kd), (oa (a 5) cI 201 (gnA (fun j => fwM ft st tn kd mn tw cx cy le9.toInt mv9.toInt j) ft 2 st)), (oa (a 7) cI 201 (gnA (fun j => fwM ft st tn kd mn tw cx cy le9.toInt mv9.toInt j) ft (nI (dn + 1)) gb)), (oa (a 10) cI 201 (gnA (fun j => fwM ft st tn kd mn tw cx cy le9.toInt mv9.toInt j) ft (-1 : Int32) it)), (oa (a 8) cI 201 pa), (oa (a 9) cI 201 pb), (oa (a 2) cI 201 rk), (oa (a 3) cI 201 wd), (oa (a 4) cI 201 tw), (oa (a 6) cZ 201 tn), (oa (a 11) cI 201 mn), (oa (a 12) cI 8040 cx), (oa (a 13) cI 8040 cy), (oa (a 27) cI 516 (upd (upd sa (dn - bs + 1) (nI (psN (nnF st tn mn) w0 ft))) (dn + 1 - bs + 1) (nI (psN (nnF (gnA (fun j => fwM ft st tn kd mn tw cx cy le9.toInt mv9.toInt j) ft 2 st) tn mn) (psN (nnF st tn mn) w0 ft) ft)))), (oa b2 cI (4096 * c2) sh2), (oa (a 16) cI 514 (upd wh (dn + 1) (8 : Int32))), (oa (a 17) cI 514 (upd of9 (dn + 1) (-1 : Int32))), (oa (a 18) cI 514 (upd we (dn + 1) (nI (cntP (fun j => fwM ft st tn kd mn tw cx cy le9.toInt mv9.toInt j) ft)))), (oa (a 22) cI (64 * cl) la1), (oa (a 23) cI (64 * cl) lb1), (oa (a 24) cI (64 * cl) lc1), (oa (a 25) cI (64 * cl) ld1), (oa (a 50) cZ 201 mk1), (oa (a 32) cI 8 S1)] t.heap) (c2 - cp) (8192 * (c2 - cp)) := by
  refine zIn (own := "ScaleShopModel") (loc := [(0, .ref k0), (1, .int le9), (2, .int mv9)]) rfl rfl rfl rfl (fun p e s m below meth c hx hb hr hts hown hlocks hml hnm9 A hA hS hP hD hK hXN Q9 hQ9 ls hl => ?_)
  have hq1 := pw_le hpw_1
  have hq2 := pw_le hpw_2
  refine lv_iload_n hx hb dX11_few_0 rfl (lv_at hl 1 rfl) ?_
  refine lv_if_lt (tgt := 15) hx hb dX11_few_1 rfl (fun c_1 => ?_) (fun c_1 => ?_)
  · have c_1 : le9.toInt < 0 := zc_lt rfl rfl c_1
    exfalso; omega
  · have c_1 : 0 ≤ le9.toInt := zc_nlt rfl rfl c_1
    refine lv_iload_n hx hb dX11_few_4 rfl (lv_at hl 2 rfl) ?_
    refine lv_if_lt (tgt := 15) hx hb dX11_few_5 rfl (fun c_2 => ?_) (fun c_2 => ?_)
    · have c_2 : mv9.toInt < 0 := zc_lt rfl rfl c_2
      exfalso; omega
    · have c_2 : 0 ≤ mv9.toInt := zc_nlt rfl rfl c_2
      refine lv_iload_n hx hb dX11_few_8 rfl (lv_at hl 2 rfl) ?_
      refine lv_sipush (v := 200) hx hb dX11_few_9 rfl ?_
      refine lv_icmp_le (tgt := 21) hx hb dX11_few_12 rfl (fun c_3 => ?_) (fun c_3 => ?_)
      · have c_3 : mv9.toInt ≤ 200 := zc_le rfl rfl c_3
        refine lv_iconst (v := 0) hx hb dX11_few_21 rfl ?_
        refine lv_istore_n (lv' := [(3, .int 0), (0, .ref k0), (1, .int le9), (2, .int mv9)]) hx hb dX11_few_22 rfl hl (Nat.le_of_ble_eq_true rfl) rfl (fun ls hl => ?_)
        have hl_23 : ∀ (n9 : Nat) (q : Nat) (mk1 : Nat → Int32) (S1 : Nat → Int32) (H : Heap) (locs : List Loc) (ls : Array Slot), ft - q < n9 → (q ≤ ft) → (∀ j, j < q → mk1 j = pI (fwM ft st tn kd mn tw cx cy le9.toInt mv9.toInt j)) → va_P (dC, dI) classes [(om k0 a (upd I0 26 (nI ln)) J0), (oa (a 1) cI 201 kd), (oa (a 5) cI 201 st), (oa (a 7) cI 201 gb), (oa (a 10) cI 201 it), (oa (a 8) cI 201 pa), (oa (a 9) cI 201 pb), (oa (a 2) cI 201 rk), (oa (a 3) cI 201 wd), (oa (a 4) cI 201 tw), (oa (a 6) cZ 201 tn), (oa (a 11) cI 201 mn), (oa (a 12) cI 8040 cx), (oa (a 13) cI 8040 cy), (oa (a 27) cI 516 sa), (oa (a 28) cI (4096 * cp) sh), (oa (a 16) cI 514 wh), (oa (a 17) cI 514 of9), (oa (a 18) cI 514 we), (oa (a 22) cI (64 * cl) la), (oa (a 23) cI (64 * cl) lb), (oa (a 24) cI (64 * cl) lc), (oa (a 25) cI (64 * cl) ld), (oa (a 50) cZ 201 mk1), (oa (a 32) cI 8 S1)] H → va_D A [(om k0 a (upd I0 26 (nI ln)) J0), (oa (a 1) cI 201 kd), (oa (a 5) cI 201 st), (oa (a 7) cI 201 gb), (oa (a 10) cI 201 it), (oa (a 8) cI 201 pa), (oa (a 9) cI 201 pb), (oa (a 2) cI 201 rk), (oa (a 3) cI 201 wd), (oa (a 4) cI 201 tw), (oa (a 6) cZ 201 tn), (oa (a 11) cI 201 mn), (oa (a 12) cI 8040 cx), (oa (a 13) cI 8040 cy), (oa (a 27) cI 516 sa), (oa (a 28) cI (4096 * cp) sh), (oa (a 16) cI 514 wh), (oa (a 17) cI 514 of9), (oa (a 18) cI 514 we), (oa (a 22) cI (64 * cl) la), (oa (a 23) cI (64 * cl) lb), (oa (a 24) cI (64 * cl) lc), (oa (a 25) cI (64 * cl) ld), (oa (a 50) cZ 201 mk1), (oa (a 32) cI 8 S1)] → va_S A s.heap H locs → lv_has ls 9 [(3, .int (nI q)), (0, .ref k0), (1, .int le9), (2, .int mv9)] → W p l e ({ frames := 4, cells := c2 - cp, slots := 8192 * (c2 - cp), locals := 93 } : Room) s m ([.ref k0, .int le9, .int mv9] : List Value).toArray below meth c H locs 0 0 Q9 (F0 m 23 ls []) := by
          intro n9
          induction n9 with
          | zero => intro q mk1 S1 H locs ls hm; exact absurd hm (Nat.not_lt_zero _)
          | succ n9 ih_23 =>
            intro q mk1 S1 H locs ls hm hq hmk hP hD hS hl
            refine lv_iload_n hx hb dX11_few_23 rfl (lv_at hl 0 rfl) ?_
            refine lv_aload_n hx hb dX11_few_24 rfl (lv_at hl 1 rfl) ?_
            refine va_get (D := (dC, dI)) (ci := 9) (v := .int (I0 0)) (C := RX11) (T := TX11) (N := 55) hx hb hts inX11 hown hK hP 0 rfl rfl 0 (Nat.le_of_ble_eq_true rfl) (hts _ mw_1159) (fun _ h9 => h9) rfl dX11_few_25 ?_
            refine zz_i (v := nI ft) (hft) ?_
            have b9_5 : zlt (q) := show q < 2147483648 by omega
            have b9_6 : zlt (ft) := show ft < 2147483648 by omega
            refine lv_icmp_ge (tgt := 203) hx hb dX11_few_28 rfl (fun c_4 => ?_) (fun c_4 => ?_)
            · have c_4 : ((ft : Nat) : Int) ≤ ((q : Nat) : Int) := zc_le (nI_toInt b9_6) (nI_toInt b9_5) c_4
              refine lv_aload_n hx hb dX11_few_203 rfl (lv_at hl 1 rfl) ?_
              refine lv_bipush (v := 8) hx hb dX11_few_204 rfl ?_
              obtain ⟨hPc, hDc, hFc⟩ := zo_sub (wc := [_, _, _, _, _, _, _, _, _, _, _, _, _, _, _, _, _, _, _, _, _, _, _, _]) hP hD hS hA [0, 1, 2, 3, 4, 5, 6, 7, 8, 9, 10, 11, 12, 13, 14, 15, 16, 17, 18, 19, 20, 21, 22, 23] (by decide +kernel) rfl
              refine zcall (st1 := [.int (nI (cntP (fun j => fwM ft st tn kd mn tw cx cy le9.toInt mv9.toInt j) ft))]) (va_runV (As := [.int 8]) (rest := []) ⟨hx, hb, hml, hown, hts⟩ (k_M_dropMarked_y l dC dI cI cZ cF H.size k0 a (upd I0 26 (nI ln)) J0 8 ft dn bs w0 cp c1 c2 ln cl kd st gb it pa pb rk wd tw tn mn cx cy sa sh wh of9 we la lb lc ld mk1 (fun j => fwM ft st tn kd mn tw cx cy le9.toInt mv9.toInt j) (hft) (by first | with_reducible assumption | omega) (fun j hj => hmk j (by first | with_reducible assumption | omega)) (fun j hj h => h.1.1.2.1) (hz) (hdn) (hbs) (hbd) (hd512) (hlc) (hcl1) (hclm) (hi5_1) (hsa_1) (hmn_1) (hc1_1) (hpw_1) (hw0_1) (hfit_1) (hmin_1) (hcE_1) (hpw_2) (hfit_2) (hmin_2) (hcE_2)) (csV_219 hts rfl rfl ⟨Nat.le_of_ble_eq_true rfl, Nat.le_of_ble_eq_true rfl⟩) (zPV2 (q0 := 0) (ci := 9) hPc hDc hK hXN rfl rfl) rfl rfl hl.1 rfl (lv_room (Nat.le_of_ble_eq_true rfl)) dX11_few_206 ⟨show (0 + (c2 - cp)) ≤ c2 - cp by omega, show (0 + (8192 * (c2 - cp))) ≤ 8192 * (c2 - cp) by omega⟩) hS hFc hFc rfl (fun t H locs ht hB hk1 hS => ?_)
              refine ex7 hB (fun b2 sh2 t9 la1 lb1 lc1 ld1 hB0 => ?_)
              clear hB
              obtain ⟨r0, r1, r2, r3, r4, r5, r6, hP1, hD1⟩ := hB0
              rw [ht] at hP1
              obtain ⟨hP, hD⟩ := zn (W2 := [_, (om k0 (va_up a 28 b2) (upd (upd (upd (upd (upd I0 14 0) 19 (nI (dn + 1))) 20 0) 26 (nI t9)) 41 (nI (psN (nnF (gnA (fun j => fwM ft st tn kd mn tw cx cy le9.toInt mv9.toInt j) ft 2 st) tn mn) (psN (nnF st tn mn) w0 ft) ft))) J0), (oa (a 1) cI 201 kd), (oa (a 5) cI 201 (gnA (fun j => fwM ft st tn kd mn tw cx cy le9.toInt mv9.toInt j) ft 2 st)), (oa (a 7) cI 201 (gnA (fun j => fwM ft st tn kd mn tw cx cy le9.toInt mv9.toInt j) ft (nI (dn + 1)) gb)), (oa (a 10) cI 201 (gnA (fun j => fwM ft st tn kd mn tw cx cy le9.toInt mv9.toInt j) ft (-1 : Int32) it)), (oa (a 8) cI 201 pa), (oa (a 9) cI 201 pb), (oa (a 2) cI 201 rk), (oa (a 3) cI 201 wd), (oa (a 4) cI 201 tw), (oa (a 6) cZ 201 tn), (oa (a 11) cI 201 mn), (oa (a 12) cI 8040 cx), (oa (a 13) cI 8040 cy), (oa (a 27) cI 516 (upd (upd sa (dn - bs + 1) (nI (psN (nnF st tn mn) w0 ft))) (dn + 1 - bs + 1) (nI (psN (nnF (gnA (fun j => fwM ft st tn kd mn tw cx cy le9.toInt mv9.toInt j) ft 2 st) tn mn) (psN (nnF st tn mn) w0 ft) ft)))), (oa b2 cI (4096 * c2) sh2), (oa (a 16) cI 514 (upd wh (dn + 1) (8 : Int32))), (oa (a 17) cI 514 (upd of9 (dn + 1) (-1 : Int32))), (oa (a 18) cI 514 (upd we (dn + 1) (nI (cntP (fun j => fwM ft st tn kd mn tw cx cy le9.toInt mv9.toInt j) ft)))), (oa (a 22) cI (64 * cl) la1), (oa (a 23) cI (64 * cl) lb1), (oa (a 24) cI (64 * cl) lc1), (oa (a 25) cI (64 * cl) ld1), (oa (a 50) cZ 201 mk1)]) hP hD hk1 hFc hP1 hD1 zl_235 zl_236 zl_237 zl_238 (by decide +kernel) rfl rfl rfl rfl rfl
              clear hk1 hPc hDc hFc hP1 hD1 ht
              obtain ⟨hP9, hD9⟩ := zq_sub (wc := [_, _, _, _, _, _, _, _, _, _, _, _, _, _, _, _, _, _, _, _, _, _, _, _, _]) hP hD [1, 2, 3, 4, 5, 6, 7, 8, 9, 10, 11, 12, 13, 14, 15, 16, 17, 18, 19, 20, 21, 22, 23, 24, 0] rfl rfl
              refine W.widen (k := c2 - cp) (n := 8192 * (c2 - cp)) (by omega) (by omega) ?_
              rw [hQ9]
              exact W.iret (v := nI (cntP (fun j => fwM ft st tn kd mn tw cx cy le9.toInt mv9.toInt j) ft)) hx hb hr (fun t ht hW => ⟨⟨rfl, b2, sh2, t9, la1, lb1, lc1, ld1, mk1, S1, (r0), (r1), (r2), (r3), (r4), (r5), (r6), by rw [ht]; exact hP9, hD9⟩, hS.F ht⟩) hS.2.2 dX11_few_209
            · have c_4 : ((q : Nat) : Int) < ((ft : Nat) : Int) := zc_nle (nI_toInt b9_6) (nI_toInt b9_5) c_4
              refine lv_iconst (v := 0) hx hb dX11_few_31 rfl ?_
              refine lv_istore (lv' := [(4, .int 0), (3, .int (nI q)), (0, .ref k0), (1, .int le9), (2, .int mv9)]) hx hb dX11_few_32 hl (Nat.le_of_ble_eq_true rfl) rfl (fun ls hl => ?_)
              refine lv_iconst (v := 0) hx hb dX11_few_34 rfl ?_
              refine lv_istore (lv' := [(5, .int 0), (4, .int 0), (3, .int (nI q)), (0, .ref k0), (1, .int le9), (2, .int mv9)]) hx hb dX11_few_35 hl (Nat.le_of_ble_eq_true rfl) rfl (fun ls hl => ?_)
              have hl_37 : ∀ (n9 : Nat) (k : Nat) (S2 : Nat → Int32) (H : Heap) (locs : List Loc) (ls : Array Slot), ft - k < n9 → (k ≤ ft) → va_P (dC, dI) classes [(om k0 a (upd I0 26 (nI ln)) J0), (oa (a 1) cI 201 kd), (oa (a 5) cI 201 st), (oa (a 7) cI 201 gb), (oa (a 10) cI 201 it), (oa (a 8) cI 201 pa), (oa (a 9) cI 201 pb), (oa (a 2) cI 201 rk), (oa (a 3) cI 201 wd), (oa (a 4) cI 201 tw), (oa (a 6) cZ 201 tn), (oa (a 11) cI 201 mn), (oa (a 12) cI 8040 cx), (oa (a 13) cI 8040 cy), (oa (a 27) cI 516 sa), (oa (a 28) cI (4096 * cp) sh), (oa (a 16) cI 514 wh), (oa (a 17) cI 514 of9), (oa (a 18) cI 514 we), (oa (a 22) cI (64 * cl) la), (oa (a 23) cI (64 * cl) lb), (oa (a 24) cI (64 * cl) lc), (oa (a 25) cI (64 * cl) ld), (oa (a 50) cZ 201 mk1), (oa (a 32) cI 8 S2)] H → va_D A [(om k0 a (upd I0 26 (nI ln)) J0), (oa (a 1) cI 201 kd), (oa (a 5) cI 201 st), (oa (a 7) cI 201 gb), (oa (a 10) cI 201 it), (oa (a 8) cI 201 pa), (oa (a 9) cI 201 pb), (oa (a 2) cI 201 rk), (oa (a 3) cI 201 wd), (oa (a 4) cI 201 tw), (oa (a 6) cZ 201 tn), (oa (a 11) cI 201 mn), (oa (a 12) cI 8040 cx), (oa (a 13) cI 8040 cy), (oa (a 27) cI 516 sa), (oa (a 28) cI (4096 * cp) sh), (oa (a 16) cI 514 wh), (oa (a 17) cI 514 of9), (oa (a 18) cI 514 we), (oa (a 22) cI (64 * cl) la), (oa (a 23) cI (64 * cl) lb), (oa (a 24) cI (64 * cl) lc), (oa (a 25) cI (64 * cl) ld), (oa (a 50) cZ 201 mk1), (oa (a 32) cI 8 S2)] → va_S A s.heap H locs → lv_has ls 9 [(5, .int (nI k)), (4, .int (nI (cntP (gtF ft st tn kd mn tw cx cy q) k))), (3, .int (nI q)), (0, .ref k0), (1, .int le9), (2, .int mv9)] → W p l e ({ frames := 4, cells := c2 - cp, slots := 8192 * (c2 - cp), locals := 93 } : Room) s m ([.ref k0, .int le9, .int mv9] : List Value).toArray below meth c H locs 0 0 Q9 (F0 m 37 ls []) := by
                intro n9
                induction n9 with
                | zero => intro k S2 H locs ls hm; exact absurd hm (Nat.not_lt_zero _)
                | succ n9 ih_37 =>
                  intro k S2 H locs ls hm hk hP hD hS hl
                  have hcb := cntP_b (gtF ft st tn kd mn tw cx cy q) k
                  refine lv_iload hx hb dX11_few_37 (lv_at hl 0 rfl) ?_
                  refine lv_aload_n hx hb dX11_few_39 rfl (lv_at hl 3 rfl) ?_
                  refine va_get (D := (dC, dI)) (ci := 9) (v := .int (I0 0)) (C := RX11) (T := TX11) (N := 55) hx hb hts inX11 hown hK hP 0 rfl rfl 0 (Nat.le_of_ble_eq_true rfl) (hts _ mw_1159) (fun _ h9 => h9) rfl dX11_few_40 ?_
                  refine zz_i (v := nI ft) (hft) ?_
                  have b9_8 : zlt (k) := show k < 2147483648 by omega
                  refine lv_icmp_ge (tgt := 171) hx hb dX11_few_43 rfl (fun c_7 => ?_) (fun c_7 => ?_)
                  · have c_7 : ((ft : Nat) : Int) ≤ ((k : Nat) : Int) := zc_le (nI_toInt b9_6) (nI_toInt b9_8) c_7
                    refine lv_aload_n hx hb dX11_few_171 rfl (lv_at hl 3 rfl) ?_
                    refine va_get (D := (dC, dI)) (ci := 9) (v := .ref (a 50)) (C := RX11) (T := TX11) (N := 55) hx hb hts inX11 hown hK hP 0 rfl rfl 50 (Nat.le_of_ble_eq_true rfl) (hts _ mw_1209) (fun _ h9 => h9) rfl dX11_few_172 ?_
                    refine lv_iload_n hx hb dX11_few_175 rfl (lv_at hl 2 rfl) ?_
                    refine lv_aload_n hx hb dX11_few_176 rfl (lv_at hl 3 rfl) ?_
                    refine lv_iload_n hx hb dX11_few_177 rfl (lv_at hl 2 rfl) ?_
                    refine lv_iload_n hx hb dX11_few_178 rfl (lv_at hl 4 rfl) ?_
                    obtain ⟨hPc, hDc, hFc⟩ := zo_sub (wc := [_, _, _, _, _, _, _, _]) hP hD hS hA [0, 2, 10, 1, 11, 12, 13, 24] (by decide +kernel) rfl
                    refine zcall (st1 := [.int (pI (smF ft st tn kd mn cx cy le9.toInt q)), .int (nI q), .ref (a 50)]) (va_runV (As := [.int (nI q), .int le9]) (rest := [.int (nI q), .ref (a 50)]) ⟨hx, hb, hml, hown, hts⟩ (k_M_isSmall l dC dI cI cZ cF H.size k0 a (upd I0 26 (nI ln)) J0 q ft le9 st tn kd mn cx cy S2 (by first | with_reducible assumption | assumption) (by first | with_reducible assumption | omega) (by first | with_reducible assumption | omega) (by first | with_reducible assumption | assumption)) (csV_220 hts rfl rfl ⟨Nat.le_of_ble_eq_true rfl, Nat.le_of_ble_eq_true rfl⟩) (zPV2 (q0 := 0) (ci := 9) hPc hDc hK hXN rfl rfl) rfl rfl hl.1 rfl (lv_room (Nat.le_of_ble_eq_true rfl)) dX11_few_179 ⟨Nat.zero_le _, Nat.zero_le _⟩) hS hFc hFc rfl (fun t H locs ht hB hk1 hS => ?_)
                    obtain ⟨S6, hP1, hD1⟩ := hB
                    rw [ht] at hP1
                    obtain ⟨hP, hD⟩ := zn (W2 := [_, _, _, _, _, _, _, _, _, _, _, _, _, _, _, _, _, _, _, _, _, _, _, _, (oa (a 32) cI 8 S6)]) hP hD hk1 hFc hP1 hD1 zl_239 zl_240 zl_241 zl_239 (by decide +kernel) rfl rfl rfl rfl rfl
                    clear hk1 hPc hDc hFc hP1 hD1 ht
                    refine lv_if_eq (tgt := 195) hx hb dX11_few_182 rfl (fun c_9 => ?_) (fun c_9 => ?_)
                    · have c_9 : ¬ (smF ft st tn kd mn cx cy le9.toInt q) := zp_0 c_9
                      refine lv_iconst (v := 0) hx hb dX11_few_195 rfl ?_
                      refine zz_i (v := pI (fwM ft st tn kd mn tw cx cy le9.toInt mv9.toInt q)) (by first | exact fw_s (by first | with_reducible assumption | assumption) | exact fw_t (k := k) (by first | with_reducible assumption | assumption) (by omega) (by omega) | exact fw_n (k := k) (by omega) (by omega) | (exfalso; have h1 : ¬ smF ft st tn kd mn cx cy le9.toInt q := (by first | with_reducible assumption | assumption); exact h1 (by first | with_reducible assumption | assumption))) ?_
                      have b9_10 : q < 201 := by omega
                      refine z_zast hx hb hK hP hD hS 23 1 rfl rfl (e := q) (x := pI (fwM ft st tn kd mn tw cx cy le9.toInt mv9.toInt q)) rfl b9_10 (Nat.le_of_ble_eq_true rfl) (zp_and _) dX11_few_196 (fun H locs hP hD hS => ?_)
                      obtain ⟨hP, hD⟩ := zre (W2 := [_, _, _, _, _, _, _, _, _, _, _, _, _, _, _, _, _, _, _, _, _, _, _, (oa (a 50) cZ 201 (upd mk1 q (pI (fwM ft st tn kd mn tw cx cy le9.toInt mv9.toInt q)))), _]) hP hD rfl
                      refine lv_iinc (v := nI (q + 1)) (lv' := [(3, .int (nI (q + 1))), (5, .int (nI k)), (4, .int (nI (cntP (gtF ft st tn kd mn tw cx cy q) k))), (0, .ref k0), (1, .int le9), (2, .int mv9)]) hx hb dX11_few_197 hl (k := 2) rfl (nI_add q 1) (Nat.le_of_ble_eq_true rfl) rfl (fun ls hl => ?_)
                      refine lv_goto (tgt := 23) hx hb dX11_few_200 rfl ?_
                      exact ih_23 (q + 1) (upd mk1 q (pI (fwM ft st tn kd mn tw cx cy le9.toInt mv9.toInt q))) S6 H locs ls (by first | with_reducible assumption | omega) (by first | with_reducible assumption | omega) (by intro j hj; rcases Nat.lt_or_ge j q with h | h; simp only [upd, if_neg (show j ≠ q by omega)]; exact hmk j h; rw [show j = q by omega]; simp only [upd, if_true]) hP hD hS (lv_sub hl [0, 3, 4, 5] rfl)
                    · have c_9 : smF ft st tn kd mn cx cy le9.toInt q := zp_1 c_9
                      refine lv_iload hx hb dX11_few_185 (lv_at hl 1 rfl) ?_
                      refine lv_iload_n hx hb dX11_few_187 rfl (lv_at hl 5 rfl) ?_
                      have b9_12 : zlt ((cntP (gtF ft st tn kd mn tw cx cy q) k)) := show (cntP (gtF ft st tn kd mn tw cx cy q) k) < 2147483648 by omega
                      refine lv_icmp_lt (tgt := 195) hx hb dX11_few_188 rfl (fun c_11 => ?_) (fun c_11 => ?_)
                      · have c_11 : ((cntP (gtF ft st tn kd mn tw cx cy q) k : Nat) : Int) < mv9.toInt := zc_lt (nI_toInt b9_12) rfl c_11
                        refine lv_iconst (v := 0) hx hb dX11_few_195 rfl ?_
                        refine zz_i (v := pI (fwM ft st tn kd mn tw cx cy le9.toInt mv9.toInt q)) (by first | exact fw_s (by first | with_reducible assumption | assumption) | exact fw_t (k := k) (by first | with_reducible assumption | assumption) (by omega) (by omega) | exact fw_n (k := k) (by omega) (by omega) | (exfalso; have h1 : ¬ smF ft st tn kd mn cx cy le9.toInt q := (by first | with_reducible assumption | assumption); exact h1 (by first | with_reducible assumption | assumption))) ?_
                        have b9_13 : q < 201 := by omega
                        refine z_zast hx hb hK hP hD hS 23 1 rfl rfl (e := q) (x := pI (fwM ft st tn kd mn tw cx cy le9.toInt mv9.toInt q)) rfl b9_13 (Nat.le_of_ble_eq_true rfl) (zp_and _) dX11_few_196 (fun H locs hP hD hS => ?_)
                        obtain ⟨hP, hD⟩ := zre (W2 := [_, _, _, _, _, _, _, _, _, _, _, _, _, _, _, _, _, _, _, _, _, _, _, (oa (a 50) cZ 201 (upd mk1 q (pI (fwM ft st tn kd mn tw cx cy le9.toInt mv9.toInt q)))), _]) hP hD rfl
                        refine lv_iinc (v := nI (q + 1)) (lv' := [(3, .int (nI (q + 1))), (5, .int (nI k)), (4, .int (nI (cntP (gtF ft st tn kd mn tw cx cy q) k))), (0, .ref k0), (1, .int le9), (2, .int mv9)]) hx hb dX11_few_197 hl (k := 2) rfl (nI_add q 1) (Nat.le_of_ble_eq_true rfl) rfl (fun ls hl => ?_)
                        refine lv_goto (tgt := 23) hx hb dX11_few_200 rfl ?_
                        exact ih_23 (q + 1) (upd mk1 q (pI (fwM ft st tn kd mn tw cx cy le9.toInt mv9.toInt q))) S6 H locs ls (by first | with_reducible assumption | omega) (by first | with_reducible assumption | omega) (by intro j hj; rcases Nat.lt_or_ge j q with h | h; simp only [upd, if_neg (show j ≠ q by omega)]; exact hmk j h; rw [show j = q by omega]; simp only [upd, if_true]) hP hD hS (lv_sub hl [0, 3, 4, 5] rfl)
                      · have c_11 : mv9.toInt ≤ ((cntP (gtF ft st tn kd mn tw cx cy q) k : Nat) : Int) := zc_nlt (nI_toInt b9_12) rfl c_11
                        refine lv_iconst (v := 1) hx hb dX11_few_191 rfl ?_
                        refine lv_goto (tgt := 196) hx hb dX11_few_192 rfl ?_
                        refine zz_i (v := pI (fwM ft st tn kd mn tw cx cy le9.toInt mv9.toInt q)) (by first | exact fw_s (by first | with_reducible assumption | assumption) | exact fw_t (k := k) (by first | with_reducible assumption | assumption) (by omega) (by omega) | exact fw_n (k := k) (by omega) (by omega) | (exfalso; have h1 : ¬ smF ft st tn kd mn cx cy le9.toInt q := (by first | with_reducible assumption | assumption); exact h1 (by first | with_reducible assumption | assumption))) ?_
                        have b9_14 : q < 201 := by omega
                        refine z_zast hx hb hK hP hD hS 23 1 rfl rfl (e := q) (x := pI (fwM ft st tn kd mn tw cx cy le9.toInt mv9.toInt q)) rfl b9_14 (Nat.le_of_ble_eq_true rfl) (zp_and _) dX11_few_196 (fun H locs hP hD hS => ?_)
                        obtain ⟨hP, hD⟩ := zre (W2 := [_, _, _, _, _, _, _, _, _, _, _, _, _, _, _, _, _, _, _, _, _, _, _, (oa (a 50) cZ 201 (upd mk1 q (pI (fwM ft st tn kd mn tw cx cy le9.toInt mv9.toInt q)))), _]) hP hD rfl
                        refine lv_iinc (v := nI (q + 1)) (lv' := [(3, .int (nI (q + 1))), (5, .int (nI k)), (4, .int (nI (cntP (gtF ft st tn kd mn tw cx cy q) k))), (0, .ref k0), (1, .int le9), (2, .int mv9)]) hx hb dX11_few_197 hl (k := 2) rfl (nI_add q 1) (Nat.le_of_ble_eq_true rfl) rfl (fun ls hl => ?_)
                        refine lv_goto (tgt := 23) hx hb dX11_few_200 rfl ?_
                        exact ih_23 (q + 1) (upd mk1 q (pI (fwM ft st tn kd mn tw cx cy le9.toInt mv9.toInt q))) S6 H locs ls (by first | with_reducible assumption | omega) (by first | with_reducible assumption | omega) (by intro j hj; rcases Nat.lt_or_ge j q with h | h; simp only [upd, if_neg (show j ≠ q by omega)]; exact hmk j h; rw [show j = q by omega]; simp only [upd, if_true]) hP hD hS (lv_sub hl [0, 3, 4, 5] rfl)
                  · have c_7 : ((k : Nat) : Int) < ((ft : Nat) : Int) := zc_nle (nI_toInt b9_6) (nI_toInt b9_8) c_7
                    refine lv_aload_n hx hb dX11_few_46 rfl (lv_at hl 3 rfl) ?_
                    refine lv_iload_n hx hb dX11_few_47 rfl (lv_at hl 2 rfl) ?_
                    refine lv_iload_n hx hb dX11_few_48 rfl (lv_at hl 4 rfl) ?_
                    obtain ⟨hPc, hDc, hFc⟩ := zo_sub (wc := [_, _, _, _, _, _, _, _]) hP hD hS hA [0, 2, 10, 1, 11, 12, 13, 24] (by decide +kernel) rfl
                    refine zcall (st1 := [.int (pI (smF ft st tn kd mn cx cy le9.toInt q))]) (va_runV (As := [.int (nI q), .int le9]) (rest := []) ⟨hx, hb, hml, hown, hts⟩ (k_M_isSmall l dC dI cI cZ cF H.size k0 a (upd I0 26 (nI ln)) J0 q ft le9 st tn kd mn cx cy S2 (by first | with_reducible assumption | assumption) (by first | with_reducible assumption | omega) (by first | with_reducible assumption | omega) (by first | with_reducible assumption | assumption)) (csV_220 hts rfl rfl ⟨Nat.le_of_ble_eq_true rfl, Nat.le_of_ble_eq_true rfl⟩) (zPV2 (q0 := 0) (ci := 9) hPc hDc hK hXN rfl rfl) rfl rfl hl.1 rfl (lv_room (Nat.le_of_ble_eq_true rfl)) dX11_few_49 ⟨Nat.zero_le _, Nat.zero_le _⟩) hS hFc hFc rfl (fun t H locs ht hB hk1 hS => ?_)
                    obtain ⟨S3, hP1, hD1⟩ := hB
                    rw [ht] at hP1
                    obtain ⟨hP, hD⟩ := zn (W2 := [_, _, _, _, _, _, _, _, _, _, _, _, _, _, _, _, _, _, _, _, _, _, _, _, (oa (a 32) cI 8 S3)]) hP hD hk1 hFc hP1 hD1 zl_239 zl_240 zl_241 zl_239 (by decide +kernel) rfl rfl rfl rfl rfl
                    clear hk1 hPc hDc hFc hP1 hD1 ht
                    refine lv_if_eq (tgt := 171) hx hb dX11_few_52 rfl (fun c_15 => ?_) (fun c_15 => ?_)
                    · have c_15 : ¬ (smF ft st tn kd mn cx cy le9.toInt q) := zp_0 c_15
                      refine lv_aload_n hx hb dX11_few_171 rfl (lv_at hl 3 rfl) ?_
                      refine va_get (D := (dC, dI)) (ci := 9) (v := .ref (a 50)) (C := RX11) (T := TX11) (N := 55) hx hb hts inX11 hown hK hP 0 rfl rfl 50 (Nat.le_of_ble_eq_true rfl) (hts _ mw_1209) (fun _ h9 => h9) rfl dX11_few_172 ?_
                      refine lv_iload_n hx hb dX11_few_175 rfl (lv_at hl 2 rfl) ?_
                      refine lv_aload_n hx hb dX11_few_176 rfl (lv_at hl 3 rfl) ?_
                      refine lv_iload_n hx hb dX11_few_177 rfl (lv_at hl 2 rfl) ?_
                      refine lv_iload_n hx hb dX11_few_178 rfl (lv_at hl 4 rfl) ?_
                      obtain ⟨hPc, hDc, hFc⟩ := zo_sub (wc := [_, _, _, _, _, _, _, _]) hP hD hS hA [0, 2, 10, 1, 11, 12, 13, 24] (by decide +kernel) rfl
                      refine zcall (st1 := [.int (pI (smF ft st tn kd mn cx cy le9.toInt q)), .int (nI q), .ref (a 50)]) (va_runV (As := [.int (nI q), .int le9]) (rest := [.int (nI q), .ref (a 50)]) ⟨hx, hb, hml, hown, hts⟩ (k_M_isSmall l dC dI cI cZ cF H.size k0 a (upd I0 26 (nI ln)) J0 q ft le9 st tn kd mn cx cy S3 (by first | with_reducible assumption | assumption) (by first | with_reducible assumption | omega) (by first | with_reducible assumption | omega) (by first | with_reducible assumption | assumption)) (csV_220 hts rfl rfl ⟨Nat.le_of_ble_eq_true rfl, Nat.le_of_ble_eq_true rfl⟩) (zPV2 (q0 := 0) (ci := 9) hPc hDc hK hXN rfl rfl) rfl rfl hl.1 rfl (lv_room (Nat.le_of_ble_eq_true rfl)) dX11_few_179 ⟨Nat.zero_le _, Nat.zero_le _⟩) hS hFc hFc rfl (fun t H locs ht hB hk1 hS => ?_)
                      obtain ⟨S6, hP1, hD1⟩ := hB
                      rw [ht] at hP1
                      obtain ⟨hP, hD⟩ := zn (W2 := [_, _, _, _, _, _, _, _, _, _, _, _, _, _, _, _, _, _, _, _, _, _, _, _, (oa (a 32) cI 8 S6)]) hP hD hk1 hFc hP1 hD1 zl_239 zl_240 zl_241 zl_239 (by decide +kernel) rfl rfl rfl rfl rfl
                      clear hk1 hPc hDc hFc hP1 hD1 ht
                      refine lv_if_eq (tgt := 195) hx hb dX11_few_182 rfl (fun c_16 => ?_) (fun c_16 => ?_)
                      · have c_16 : ¬ (smF ft st tn kd mn cx cy le9.toInt q) := zp_0 c_16
                        refine lv_iconst (v := 0) hx hb dX11_few_195 rfl ?_
                        refine zz_i (v := pI (fwM ft st tn kd mn tw cx cy le9.toInt mv9.toInt q)) (by first | exact fw_s (by first | with_reducible assumption | assumption) | exact fw_t (k := k) (by first | with_reducible assumption | assumption) (by omega) (by omega) | exact fw_n (k := k) (by omega) (by omega) | (exfalso; have h1 : ¬ smF ft st tn kd mn cx cy le9.toInt q := (by first | with_reducible assumption | assumption); exact h1 (by first | with_reducible assumption | assumption))) ?_
                        have b9_17 : q < 201 := by omega
                        refine z_zast hx hb hK hP hD hS 23 1 rfl rfl (e := q) (x := pI (fwM ft st tn kd mn tw cx cy le9.toInt mv9.toInt q)) rfl b9_17 (Nat.le_of_ble_eq_true rfl) (zp_and _) dX11_few_196 (fun H locs hP hD hS => ?_)
                        obtain ⟨hP, hD⟩ := zre (W2 := [_, _, _, _, _, _, _, _, _, _, _, _, _, _, _, _, _, _, _, _, _, _, _, (oa (a 50) cZ 201 (upd mk1 q (pI (fwM ft st tn kd mn tw cx cy le9.toInt mv9.toInt q)))), _]) hP hD rfl
                        refine lv_iinc (v := nI (q + 1)) (lv' := [(3, .int (nI (q + 1))), (5, .int (nI k)), (4, .int (nI (cntP (gtF ft st tn kd mn tw cx cy q) k))), (0, .ref k0), (1, .int le9), (2, .int mv9)]) hx hb dX11_few_197 hl (k := 2) rfl (nI_add q 1) (Nat.le_of_ble_eq_true rfl) rfl (fun ls hl => ?_)
                        refine lv_goto (tgt := 23) hx hb dX11_few_200 rfl ?_
                        exact ih_23 (q + 1) (upd mk1 q (pI (fwM ft st tn kd mn tw cx cy le9.toInt mv9.toInt q))) S6 H locs ls (by first | with_reducible assumption | omega) (by first | with_reducible assumption | omega) (by intro j hj; rcases Nat.lt_or_ge j q with h | h; simp only [upd, if_neg (show j ≠ q by omega)]; exact hmk j h; rw [show j = q by omega]; simp only [upd, if_true]) hP hD hS (lv_sub hl [0, 3, 4, 5] rfl)
                      · have c_16 : smF ft st tn kd mn cx cy le9.toInt q := zp_1 c_16
                        refine lv_iload hx hb dX11_few_185 (lv_at hl 1 rfl) ?_
                        refine lv_iload_n hx hb dX11_few_187 rfl (lv_at hl 5 rfl) ?_
                        have b9_19 : zlt ((cntP (gtF ft st tn kd mn tw cx cy q) k)) := show (cntP (gtF ft st tn kd mn tw cx cy q) k) < 2147483648 by omega
                        refine lv_icmp_lt (tgt := 195) hx hb dX11_few_188 rfl (fun c_18 => ?_) (fun c_18 => ?_)
                        · have c_18 : ((cntP (gtF ft st tn kd mn tw cx cy q) k : Nat) : Int) < mv9.toInt := zc_lt (nI_toInt b9_19) rfl c_18
                          refine lv_iconst (v := 0) hx hb dX11_few_195 rfl ?_
                          refine zz_i (v := pI (fwM ft st tn kd mn tw cx cy le9.toInt mv9.toInt q)) (by first | exact fw_s (by first | with_reducible assumption | assumption) | exact fw_t (k := k) (by first | with_reducible assumption | assumption) (by omega) (by omega) | exact fw_n (k := k) (by omega) (by omega) | (exfalso; have h1 : ¬ smF ft st tn kd mn cx cy le9.toInt q := (by first | with_reducible assumption | assumption); exact h1 (by first | with_reducible assumption | assumption))) ?_
                          have b9_20 : q < 201 := by omega
                          refine z_zast hx hb hK hP hD hS 23 1 rfl rfl (e := q) (x := pI (fwM ft st tn kd mn tw cx cy le9.toInt mv9.toInt q)) rfl b9_20 (Nat.le_of_ble_eq_true rfl) (zp_and _) dX11_few_196 (fun H locs hP hD hS => ?_)
                          obtain ⟨hP, hD⟩ := zre (W2 := [_, _, _, _, _, _, _, _, _, _, _, _, _, _, _, _, _, _, _, _, _, _, _, (oa (a 50) cZ 201 (upd mk1 q (pI (fwM ft st tn kd mn tw cx cy le9.toInt mv9.toInt q)))), _]) hP hD rfl
                          refine lv_iinc (v := nI (q + 1)) (lv' := [(3, .int (nI (q + 1))), (5, .int (nI k)), (4, .int (nI (cntP (gtF ft st tn kd mn tw cx cy q) k))), (0, .ref k0), (1, .int le9), (2, .int mv9)]) hx hb dX11_few_197 hl (k := 2) rfl (nI_add q 1) (Nat.le_of_ble_eq_true rfl) rfl (fun ls hl => ?_)
                          refine lv_goto (tgt := 23) hx hb dX11_few_200 rfl ?_
                          exact ih_23 (q + 1) (upd mk1 q (pI (fwM ft st tn kd mn tw cx cy le9.toInt mv9.toInt q))) S6 H locs ls (by first | with_reducible assumption | omega) (by first | with_reducible assumption | omega) (by intro j hj; rcases Nat.lt_or_ge j q with h | h; simp only [upd, if_neg (show j ≠ q by omega)]; exact hmk j h; rw [show j = q by omega]; simp only [upd, if_true]) hP hD hS (lv_sub hl [0, 3, 4, 5] rfl)
                        · have c_18 : mv9.toInt ≤ ((cntP (gtF ft st tn kd mn tw cx cy q) k : Nat) : Int) := zc_nlt (nI_toInt b9_19) rfl c_18
                          refine lv_iconst (v := 1) hx hb dX11_few_191 rfl ?_
                          refine lv_goto (tgt := 196) hx hb dX11_few_192 rfl ?_
                          refine zz_i (v := pI (fwM ft st tn kd mn tw cx cy le9.toInt mv9.toInt q)) (by first | exact fw_s (by first | with_reducible assumption | assumption) | exact fw_t (k := k) (by first | with_reducible assumption | assumption) (by omega) (by omega) | exact fw_n (k := k) (by omega) (by omega) | (exfalso; have h1 : ¬ smF ft st tn kd mn cx cy le9.toInt q := (by first | with_reducible assumption | assumption); exact h1 (by first | with_reducible assumption | assumption))) ?_
                          have b9_21 : q < 201 := by omega
                          refine z_zast hx hb hK hP hD hS 23 1 rfl rfl (e := q) (x := pI (fwM ft st tn kd mn tw cx cy le9.toInt mv9.toInt q)) rfl b9_21 (Nat.le_of_ble_eq_true rfl) (zp_and _) dX11_few_196 (fun H locs hP hD hS => ?_)
                          obtain ⟨hP, hD⟩ := zre (W2 := [_, _, _, _, _, _, _, _, _, _, _, _, _, _, _, _, _, _, _, _, _, _, _, (oa (a 50) cZ 201 (upd mk1 q (pI (fwM ft st tn kd mn tw cx cy le9.toInt mv9.toInt q)))), _]) hP hD rfl
                          refine lv_iinc (v := nI (q + 1)) (lv' := [(3, .int (nI (q + 1))), (5, .int (nI k)), (4, .int (nI (cntP (gtF ft st tn kd mn tw cx cy q) k))), (0, .ref k0), (1, .int le9), (2, .int mv9)]) hx hb dX11_few_197 hl (k := 2) rfl (nI_add q 1) (Nat.le_of_ble_eq_true rfl) rfl (fun ls hl => ?_)
                          refine lv_goto (tgt := 23) hx hb dX11_few_200 rfl ?_
                          exact ih_23 (q + 1) (upd mk1 q (pI (fwM ft st tn kd mn tw cx cy le9.toInt mv9.toInt q))) S6 H locs ls (by first | with_reducible assumption | omega) (by first | with_reducible assumption | omega) (by intro j hj; rcases Nat.lt_or_ge j q with h | h; simp only [upd, if_neg (show j ≠ q by omega)]; exact hmk j h; rw [show j = q by omega]; simp only [upd, if_true]) hP hD hS (lv_sub hl [0, 3, 4, 5] rfl)
                    · have c_15 : smF ft st tn kd mn cx cy le9.toInt q := zp_1 c_15
                      have hwq := hwf q (by have h9 : smF ft st tn kd mn cx cy le9.toInt q := (by first | with_reducible assumption | assumption); exact h9.1)
                      have hmq := hwq.1
                      have hnq := hwq.2.1
                      have hpq := hwq.2.2
                      have haq := arF_b hwq
                      refine lv_iload hx hb dX11_few_55 (lv_at hl 0 rfl) ?_
                      refine lv_iload_n hx hb dX11_few_57 rfl (lv_at hl 2 rfl) ?_
                      have b9_23 : zlt (q) := show q < 2147483648 by omega
                      refine lv_icmp_eq (tgt := 102) hx hb dX11_few_58 rfl (fun c_22 => ?_) (fun c_22 => ?_)
                      · have c_22 : ((k : Nat) : Int) = ((q : Nat) : Int) := zc_eq (nI_toInt b9_8) (nI_toInt b9_23) c_22
                        refine lv_iconst (v := 0) hx hb dX11_few_102 rfl ?_
                        refine lv_istore (lv' := [(6, .int 0), (5, .int (nI k)), (4, .int (nI (cntP (gtF ft st tn kd mn tw cx cy q) k))), (3, .int (nI q)), (0, .ref k0), (1, .int le9), (2, .int mv9)]) hx hb dX11_few_103 hl (Nat.le_of_ble_eq_true rfl) rfl (fun ls hl => ?_)
                        refine lv_iload hx hb dX11_few_105 (lv_at hl 0 rfl) ?_
                        refine lv_if_eq (tgt := 125) hx hb dX11_few_107 rfl (fun c_24 => ?_) (fun c_24 => ?_)
                        · refine lv_ldc2 hx hb hown (hts _ mw_1620) dX11_few_125 ?_
                          refine lv_lstore (lv' := [(7, .long (-1)), (6, .int 0), (5, .int (nI k)), (4, .int (nI (cntP (gtF ft st tn kd mn tw cx cy q) k))), (3, .int (nI q)), (0, .ref k0), (1, .int le9), (2, .int mv9)]) hx hb dX11_few_128 hl (Nat.le_of_ble_eq_true rfl) rfl (fun ls hl => ?_)
                          refine lv_iload hx hb dX11_few_130 (lv_at hl 3 rfl) ?_
                          refine lv_iload hx hb dX11_few_132 (lv_at hl 1 rfl) ?_
                          refine lv_if_eq (tgt := 161) hx hb dX11_few_134 rfl (fun c_25 => ?_) (fun c_25 => ?_)
                          · refine lv_iconst (v := 0) hx hb dX11_few_161 rfl ?_
                            refine lv_iadd hx hb dX11_few_162 ?_
                            refine zz_i (v := nI ((cntP (gtF ft st tn kd mn tw cx cy q) k) + 0)) (nI_add (cntP (gtF ft st tn kd mn tw cx cy q) k) 0) ?_
                            refine lv_istore (lv' := [(4, .int (nI ((cntP (gtF ft st tn kd mn tw cx cy q) k) + 0))), (7, .long (-1)), (6, .int 0), (5, .int (nI k)), (3, .int (nI q)), (0, .ref k0), (1, .int le9), (2, .int mv9)]) hx hb dX11_few_163 hl (Nat.le_of_ble_eq_true rfl) rfl (fun ls hl => ?_)
                            refine lv_iinc (v := nI (k + 1)) (lv' := [(5, .int (nI (k + 1))), (4, .int (nI ((cntP (gtF ft st tn kd mn tw cx cy q) k) + 0))), (7, .long (-1)), (6, .int 0), (3, .int (nI q)), (0, .ref k0), (1, .int le9), (2, .int mv9)]) hx hb dX11_few_165 hl (k := 3) rfl (nI_add k 1) (Nat.le_of_ble_eq_true rfl) rfl (fun ls hl => ?_)
                            refine lv_goto (tgt := 37) hx hb dX11_few_168 rfl ?_
                            have hl9 := lv_sub hl [0, 1, 4, 5, 6, 7] rfl
                            have e9_4 : nI (cntP (gtF ft st tn kd mn tw cx cy q) (k + 1)) = (nI ((cntP (gtF ft st tn kd mn tw cx cy q) k) + 0) : Int32) := by first | (rw [cntP_n (by unfold gtF; first | (intro h; exact absurd h.2.1 (by first | with_reducible assumption | assumption)) | (intro h; have h1 := h.1; have h2 := h.2.2.1; have h3 := h.2.2.2.1; have h4 := h.2.2.2.2; omega))]; first | done | rfl) | (rw [cntP_y (by unfold gtF; exact ⟨by omega, by assumption, by omega, by omega, by omega⟩)])
                            have hl9 : lv_has ls 9 [(5, .int (nI (k + 1))), (4, .int (nI (cntP (gtF ft st tn kd mn tw cx cy q) (k + 1)))), (3, .int (nI q)), (0, .ref k0), (1, .int le9), (2, .int mv9)] := by rw [e9_4]; exact hl9
                            exact ih_37 (k + 1) S3 H locs ls (by first | with_reducible assumption | omega) (by first | with_reducible assumption | omega) hP hD hS hl9
                          · exact absurd (by decide) c_25
                        · exact absurd (by decide) c_24
                      · have c_22 : ¬ ((k : Nat) : Int) = ((q : Nat) : Int) := zc_ne (nI_toInt b9_8) (nI_toInt b9_23) c_22
                        refine lv_aload_n hx hb dX11_few_61 rfl (lv_at hl 3 rfl) ?_
                        refine lv_iload hx hb dX11_few_62 (lv_at hl 0 rfl) ?_
                        obtain ⟨hPc, hDc, hFc, hI1⟩ := zi_sub (wc := [_, _, _]) hP hD hS hA [0, 2, 10] rfl rfl
                        refine zcall (st1 := [.int (pI (k < ft ∧ (st k).toInt = 1 ∧ (tn k).toInt = 0))]) (va_runV (As := [.int (nI k)]) (rest := []) ⟨hx, hb, hml, hown, hts⟩ (k_M_is_n l dC dI cI cZ cF H.size k0 a (upd I0 26 (nI ln)) J0 k ft st tn (by first | with_reducible assumption | assumption) (by first | with_reducible assumption | omega) (by first | with_reducible assumption | omega)) (csV_179 hts rfl rfl ⟨Nat.le_of_ble_eq_true rfl, Nat.le_of_ble_eq_true rfl⟩) (zPV2 (q0 := 0) (ci := 9) hPc hDc hK hXN rfl rfl) rfl rfl hl.1 rfl (lv_room (Nat.le_of_ble_eq_true rfl)) dX11_few_64 ⟨Nat.zero_le _, Nat.zero_le _⟩) hS hFc hFc rfl (fun t H locs ht hB hk1 hS => ?_)
                        obtain ⟨hP1, hD1⟩ := hB
                        rw [ht] at hP1
                        replace hP := z0 hP hD hk1 hP1 hI1
                        clear hk1 hPc hDc hFc hP1 hD1 ht hI1
                        refine lv_if_eq (tgt := 102) hx hb dX11_few_67 rfl (fun c_26 => ?_) (fun c_26 => ?_)
                        · have c_26 : ¬ (k < ft ∧ (st k).toInt = 1 ∧ (tn k).toInt = 0) := zp_0 c_26
                          refine lv_iconst (v := 0) hx hb dX11_few_102 rfl ?_
                          refine lv_istore (lv' := [(6, .int 0), (5, .int (nI k)), (4, .int (nI (cntP (gtF ft st tn kd mn tw cx cy q) k))), (3, .int (nI q)), (0, .ref k0), (1, .int le9), (2, .int mv9)]) hx hb dX11_few_103 hl (Nat.le_of_ble_eq_true rfl) rfl (fun ls hl => ?_)
                          refine lv_iload hx hb dX11_few_105 (lv_at hl 0 rfl) ?_
                          refine lv_if_eq (tgt := 125) hx hb dX11_few_107 rfl (fun c_27 => ?_) (fun c_27 => ?_)
                          · refine lv_ldc2 hx hb hown (hts _ mw_1620) dX11_few_125 ?_
                            refine lv_lstore (lv' := [(7, .long (-1)), (6, .int 0), (5, .int (nI k)), (4, .int (nI (cntP (gtF ft st tn kd mn tw cx cy q) k))), (3, .int (nI q)), (0, .ref k0), (1, .int le9), (2, .int mv9)]) hx hb dX11_few_128 hl (Nat.le_of_ble_eq_true rfl) rfl (fun ls hl => ?_)
                            refine lv_iload hx hb dX11_few_130 (lv_at hl 3 rfl) ?_
                            refine lv_iload hx hb dX11_few_132 (lv_at hl 1 rfl) ?_
                            refine lv_if_eq (tgt := 161) hx hb dX11_few_134 rfl (fun c_28 => ?_) (fun c_28 => ?_)
                            · refine lv_iconst (v := 0) hx hb dX11_few_161 rfl ?_
                              refine lv_iadd hx hb dX11_few_162 ?_
                              refine zz_i (v := nI ((cntP (gtF ft st tn kd mn tw cx cy q) k) + 0)) (nI_add (cntP (gtF ft st tn kd mn tw cx cy q) k) 0) ?_
                              refine lv_istore (lv' := [(4, .int (nI ((cntP (gtF ft st tn kd mn tw cx cy q) k) + 0))), (7, .long (-1)), (6, .int 0), (5, .int (nI k)), (3, .int (nI q)), (0, .ref k0), (1, .int le9), (2, .int mv9)]) hx hb dX11_few_163 hl (Nat.le_of_ble_eq_true rfl) rfl (fun ls hl => ?_)
                              refine lv_iinc (v := nI (k + 1)) (lv' := [(5, .int (nI (k + 1))), (4, .int (nI ((cntP (gtF ft st tn kd mn tw cx cy q) k) + 0))), (7, .long (-1)), (6, .int 0), (3, .int (nI q)), (0, .ref k0), (1, .int le9), (2, .int mv9)]) hx hb dX11_few_165 hl (k := 3) rfl (nI_add k 1) (Nat.le_of_ble_eq_true rfl) rfl (fun ls hl => ?_)
                              refine lv_goto (tgt := 37) hx hb dX11_few_168 rfl ?_
                              have hl9 := lv_sub hl [0, 1, 4, 5, 6, 7] rfl
                              have e9_4 : nI (cntP (gtF ft st tn kd mn tw cx cy q) (k + 1)) = (nI ((cntP (gtF ft st tn kd mn tw cx cy q) k) + 0) : Int32) := by first | (rw [cntP_n (by unfold gtF; first | (intro h; exact absurd h.2.1 (by first | with_reducible assumption | assumption)) | (intro h; have h1 := h.1; have h2 := h.2.2.1; have h3 := h.2.2.2.1; have h4 := h.2.2.2.2; omega))]; first | done | rfl) | (rw [cntP_y (by unfold gtF; exact ⟨by omega, by assumption, by omega, by omega, by omega⟩)])
                              have hl9 : lv_has ls 9 [(5, .int (nI (k + 1))), (4, .int (nI (cntP (gtF ft st tn kd mn tw cx cy q) (k + 1)))), (3, .int (nI q)), (0, .ref k0), (1, .int le9), (2, .int mv9)] := by rw [e9_4]; exact hl9
                              exact ih_37 (k + 1) S3 H locs ls (by first | with_reducible assumption | omega) (by first | with_reducible assumption | omega) hP hD hS hl9
                            · exact absurd (by decide) c_28
                          · exact absurd (by decide) c_27
                        · have c_26 : k < ft ∧ (st k).toInt = 1 ∧ (tn k).toInt = 0 := zp_1 c_26
                          have hwk := hwf k (by first | with_reducible assumption | assumption)
                          have hmk9 := hwk.1
                          have hnk := hwk.2.1
                          have hpk := hwk.2.2
                          have hak := arF_b hwk
                          refine lv_aload_n hx hb dX11_few_70 rfl (lv_at hl 3 rfl) ?_
                          refine va_get (D := (dC, dI)) (ci := 9) (v := .ref (a 1)) (C := RX11) (T := TX11) (N := 55) hx hb hts inX11 hown hK hP 0 rfl rfl 1 (Nat.le_of_ble_eq_true rfl) (hts _ mw_1160) (fun _ h9 => h9) rfl dX11_few_71 ?_
                          refine lv_iload hx hb dX11_few_74 (lv_at hl 0 rfl) ?_
                          have b9_29 : k < 201 := by omega
                          refine z_iald hx hb hK hP 1 0 rfl rfl (e := k) rfl b9_29 (Nat.le_of_ble_eq_true rfl) dX11_few_76 ?_
                          refine lv_bipush (v := 6) hx hb dX11_few_77 rfl ?_
                          refine lv_icmp_ne (tgt := 102) hx hb dX11_few_79 rfl (fun c_30 => ?_) (fun c_30 => ?_)
                          · have c_30 : ¬ (kd k).toInt = 6 := zc_ne rfl rfl c_30
                            refine lv_iconst (v := 0) hx hb dX11_few_102 rfl ?_
                            refine lv_istore (lv' := [(6, .int 0), (5, .int (nI k)), (4, .int (nI (cntP (gtF ft st tn kd mn tw cx cy q) k))), (3, .int (nI q)), (0, .ref k0), (1, .int le9), (2, .int mv9)]) hx hb dX11_few_103 hl (Nat.le_of_ble_eq_true rfl) rfl (fun ls hl => ?_)
                            refine lv_iload hx hb dX11_few_105 (lv_at hl 0 rfl) ?_
                            refine lv_if_eq (tgt := 125) hx hb dX11_few_107 rfl (fun c_31 => ?_) (fun c_31 => ?_)
                            · refine lv_ldc2 hx hb hown (hts _ mw_1620) dX11_few_125 ?_
                              refine lv_lstore (lv' := [(7, .long (-1)), (6, .int 0), (5, .int (nI k)), (4, .int (nI (cntP (gtF ft st tn kd mn tw cx cy q) k))), (3, .int (nI q)), (0, .ref k0), (1, .int le9), (2, .int mv9)]) hx hb dX11_few_128 hl (Nat.le_of_ble_eq_true rfl) rfl (fun ls hl => ?_)
                              refine lv_iload hx hb dX11_few_130 (lv_at hl 3 rfl) ?_
                              refine lv_iload hx hb dX11_few_132 (lv_at hl 1 rfl) ?_
                              refine lv_if_eq (tgt := 161) hx hb dX11_few_134 rfl (fun c_32 => ?_) (fun c_32 => ?_)
                              · refine lv_iconst (v := 0) hx hb dX11_few_161 rfl ?_
                                refine lv_iadd hx hb dX11_few_162 ?_
                                refine zz_i (v := nI ((cntP (gtF ft st tn kd mn tw cx cy q) k) + 0)) (nI_add (cntP (gtF ft st tn kd mn tw cx cy q) k) 0) ?_
                                refine lv_istore (lv' := [(4, .int (nI ((cntP (gtF ft st tn kd mn tw cx cy q) k) + 0))), (7, .long (-1)), (6, .int 0), (5, .int (nI k)), (3, .int (nI q)), (0, .ref k0), (1, .int le9), (2, .int mv9)]) hx hb dX11_few_163 hl (Nat.le_of_ble_eq_true rfl) rfl (fun ls hl => ?_)
                                refine lv_iinc (v := nI (k + 1)) (lv' := [(5, .int (nI (k + 1))), (4, .int (nI ((cntP (gtF ft st tn kd mn tw cx cy q) k) + 0))), (7, .long (-1)), (6, .int 0), (3, .int (nI q)), (0, .ref k0), (1, .int le9), (2, .int mv9)]) hx hb dX11_few_165 hl (k := 3) rfl (nI_add k 1) (Nat.le_of_ble_eq_true rfl) rfl (fun ls hl => ?_)
                                refine lv_goto (tgt := 37) hx hb dX11_few_168 rfl ?_
                                have hl9 := lv_sub hl [0, 1, 4, 5, 6, 7] rfl
                                have e9_4 : nI (cntP (gtF ft st tn kd mn tw cx cy q) (k + 1)) = (nI ((cntP (gtF ft st tn kd mn tw cx cy q) k) + 0) : Int32) := by first | (rw [cntP_n (by unfold gtF; first | (intro h; exact absurd h.2.1 (by first | with_reducible assumption | assumption)) | (intro h; have h1 := h.1; have h2 := h.2.2.1; have h3 := h.2.2.2.1; have h4 := h.2.2.2.2; omega))]; first | done | rfl) | (rw [cntP_y (by unfold gtF; exact ⟨by omega, by assumption, by omega, by omega, by omega⟩)])
                                have hl9 : lv_has ls 9 [(5, .int (nI (k + 1))), (4, .int (nI (cntP (gtF ft st tn kd mn tw cx cy q) (k + 1)))), (3, .int (nI q)), (0, .ref k0), (1, .int le9), (2, .int mv9)] := by rw [e9_4]; exact hl9
                                exact ih_37 (k + 1) S3 H locs ls (by first | with_reducible assumption | omega) (by first | with_reducible assumption | omega) hP hD hS hl9
                              · exact absurd (by decide) c_32
                            · exact absurd (by decide) c_31
                          · have c_30 : (kd k).toInt = 6 := zc_eq rfl rfl c_30
                            refine lv_aload_n hx hb dX11_few_82 rfl (lv_at hl 3 rfl) ?_
                            refine va_get (D := (dC, dI)) (ci := 9) (v := .ref (a 4)) (C := RX11) (T := TX11) (N := 55) hx hb hts inX11 hown hK hP 0 rfl rfl 4 (Nat.le_of_ble_eq_true rfl) (hts _ mw_1163) (fun _ h9 => h9) rfl dX11_few_83 ?_
                            refine lv_iload hx hb dX11_few_86 (lv_at hl 0 rfl) ?_
                            refine z_iald hx hb hK hP 9 0 rfl rfl (e := k) rfl b9_29 (Nat.le_of_ble_eq_true rfl) dX11_few_88 ?_
                            refine lv_aload_n hx hb dX11_few_89 rfl (lv_at hl 3 rfl) ?_
                            refine va_get (D := (dC, dI)) (ci := 9) (v := .ref (a 4)) (C := RX11) (T := TX11) (N := 55) hx hb hts inX11 hown hK hP 0 rfl rfl 4 (Nat.le_of_ble_eq_true rfl) (hts _ mw_1163) (fun _ h9 => h9) rfl dX11_few_90 ?_
                            refine lv_iload_n hx hb dX11_few_93 rfl (lv_at hl 2 rfl) ?_
                            have b9_33 : q < 201 := by omega
                            refine z_iald hx hb hK hP 9 0 rfl rfl (e := q) rfl b9_33 (Nat.le_of_ble_eq_true rfl) dX11_few_94 ?_
                            refine lv_icmp_ne (tgt := 102) hx hb dX11_few_95 rfl (fun c_34 => ?_) (fun c_34 => ?_)
                            · have c_34 : ¬ (tw k).toInt = (tw q).toInt := zc_ne rfl rfl c_34
                              refine lv_iconst (v := 0) hx hb dX11_few_102 rfl ?_
                              refine lv_istore (lv' := [(6, .int 0), (5, .int (nI k)), (4, .int (nI (cntP (gtF ft st tn kd mn tw cx cy q) k))), (3, .int (nI q)), (0, .ref k0), (1, .int le9), (2, .int mv9)]) hx hb dX11_few_103 hl (Nat.le_of_ble_eq_true rfl) rfl (fun ls hl => ?_)
                              refine lv_iload hx hb dX11_few_105 (lv_at hl 0 rfl) ?_
                              refine lv_if_eq (tgt := 125) hx hb dX11_few_107 rfl (fun c_35 => ?_) (fun c_35 => ?_)
                              · refine lv_ldc2 hx hb hown (hts _ mw_1620) dX11_few_125 ?_
                                refine lv_lstore (lv' := [(7, .long (-1)), (6, .int 0), (5, .int (nI k)), (4, .int (nI (cntP (gtF ft st tn kd mn tw cx cy q) k))), (3, .int (nI q)), (0, .ref k0), (1, .int le9), (2, .int mv9)]) hx hb dX11_few_128 hl (Nat.le_of_ble_eq_true rfl) rfl (fun ls hl => ?_)
                                refine lv_iload hx hb dX11_few_130 (lv_at hl 3 rfl) ?_
                                refine lv_iload hx hb dX11_few_132 (lv_at hl 1 rfl) ?_
                                refine lv_if_eq (tgt := 161) hx hb dX11_few_134 rfl (fun c_36 => ?_) (fun c_36 => ?_)
                                · refine lv_iconst (v := 0) hx hb dX11_few_161 rfl ?_
                                  refine lv_iadd hx hb dX11_few_162 ?_
                                  refine zz_i (v := nI ((cntP (gtF ft st tn kd mn tw cx cy q) k) + 0)) (nI_add (cntP (gtF ft st tn kd mn tw cx cy q) k) 0) ?_
                                  refine lv_istore (lv' := [(4, .int (nI ((cntP (gtF ft st tn kd mn tw cx cy q) k) + 0))), (7, .long (-1)), (6, .int 0), (5, .int (nI k)), (3, .int (nI q)), (0, .ref k0), (1, .int le9), (2, .int mv9)]) hx hb dX11_few_163 hl (Nat.le_of_ble_eq_true rfl) rfl (fun ls hl => ?_)
                                  refine lv_iinc (v := nI (k + 1)) (lv' := [(5, .int (nI (k + 1))), (4, .int (nI ((cntP (gtF ft st tn kd mn tw cx cy q) k) + 0))), (7, .long (-1)), (6, .int 0), (3, .int (nI q)), (0, .ref k0), (1, .int le9), (2, .int mv9)]) hx hb dX11_few_165 hl (k := 3) rfl (nI_add k 1) (Nat.le_of_ble_eq_true rfl) rfl (fun ls hl => ?_)
                                  refine lv_goto (tgt := 37) hx hb dX11_few_168 rfl ?_
                                  have hl9 := lv_sub hl [0, 1, 4, 5, 6, 7] rfl
                                  have e9_4 : nI (cntP (gtF ft st tn kd mn tw cx cy q) (k + 1)) = (nI ((cntP (gtF ft st tn kd mn tw cx cy q) k) + 0) : Int32) := by first | (rw [cntP_n (by unfold gtF; first | (intro h; exact absurd h.2.1 (by first | with_reducible assumption | assumption)) | (intro h; have h1 := h.1; have h2 := h.2.2.1; have h3 := h.2.2.2.1; have h4 := h.2.2.2.2; omega))]; first | done | rfl) | (rw [cntP_y (by unfold gtF; exact ⟨by omega, by assumption, by omega, by omega, by omega⟩)])
                                  have hl9 : lv_has ls 9 [(5, .int (nI (k + 1))), (4, .int (nI (cntP (gtF ft st tn kd mn tw cx cy q) (k + 1)))), (3, .int (nI q)), (0, .ref k0), (1, .int le9), (2, .int mv9)] := by rw [e9_4]; exact hl9
                                  exact ih_37 (k + 1) S3 H locs ls (by first | with_reducible assumption | omega) (by first | with_reducible assumption | omega) hP hD hS hl9
                                · exact absurd (by decide) c_36
                              · exact absurd (by decide) c_35
                            · have c_34 : (tw k).toInt = (tw q).toInt := zc_eq rfl rfl c_34
                              refine lv_iconst (v := 1) hx hb dX11_few_98 rfl ?_
                              refine lv_goto (tgt := 103) hx hb dX11_few_99 rfl ?_
                              refine lv_istore (lv' := [(6, .int 1), (5, .int (nI k)), (4, .int (nI (cntP (gtF ft st tn kd mn tw cx cy q) k))), (3, .int (nI q)), (0, .ref k0), (1, .int le9), (2, .int mv9)]) hx hb dX11_few_103 hl (Nat.le_of_ble_eq_true rfl) rfl (fun ls hl => ?_)
                              refine lv_iload hx hb dX11_few_105 (lv_at hl 0 rfl) ?_
                              refine lv_if_eq (tgt := 125) hx hb dX11_few_107 rfl (fun c_37 => ?_) (fun c_37 => ?_)
                              · exact absurd c_37 (by decide)
                              · refine lv_aload_n hx hb dX11_few_110 rfl (lv_at hl 4 rfl) ?_
                                refine lv_iload hx hb dX11_few_111 (lv_at hl 1 rfl) ?_
                                obtain ⟨hPc, hDc, hFc⟩ := zo_sub (wc := [_, _, _, _, _]) hP hD hS hA [0, 11, 12, 13, 24] (by decide +kernel) rfl
                                refine zcall (st1 := [.long (jI ((Int.natAbs (ar2 (nN (mn k)) (cF40 cx k) (cF40 cy k) (nN (mn k))) : Nat) : Int))]) (va_runV (As := [.int (nI k)]) (rest := []) ⟨hx, hb, hml, hown, hts⟩ (k_M_area l dC dI cI cZ cF H.size k0 a (upd I0 26 (nI ln)) J0 k (nN (mn k)) mn cx cy S3 (by first | with_reducible assumption | omega) (by first | with_reducible assumption | assumption) (by first | with_reducible assumption | omega) (by first | with_reducible assumption | assumption)) (csV_218 hts rfl rfl ⟨Nat.le_of_ble_eq_true rfl, Nat.le_of_ble_eq_true rfl⟩) (zPV2 (q0 := 0) (ci := 9) hPc hDc hK hXN rfl rfl) rfl rfl hl.1 rfl (lv_room (Nat.le_of_ble_eq_true rfl)) dX11_few_113 ⟨Nat.zero_le _, Nat.zero_le _⟩) hS hFc hFc rfl (fun t H locs ht hB hk1 hS => ?_)
                                obtain ⟨S4, hP1, hD1⟩ := hB
                                rw [ht] at hP1
                                obtain ⟨hP, hD⟩ := zn (W2 := [_, _, _, _, _, _, _, _, _, _, _, _, _, _, _, _, _, _, _, _, _, _, _, _, (oa (a 32) cI 8 S4)]) hP hD hk1 hFc hP1 hD1 [0, 11, 12, 13, 24] zl_242 zl_243 [0, 11, 12, 13, 24] (by decide +kernel) rfl rfl rfl rfl rfl
                                clear hk1 hPc hDc hFc hP1 hD1 ht
                                refine zz_l (v := jI ((arF mn cx cy k : Nat) : Int)) (rfl) ?_
                                refine lv_aload_n hx hb dX11_few_116 rfl (lv_at hl 4 rfl) ?_
                                refine lv_iload_n hx hb dX11_few_117 rfl (lv_at hl 3 rfl) ?_
                                obtain ⟨hPc, hDc, hFc⟩ := zo_sub (wc := [_, _, _, _, _]) hP hD hS hA [0, 11, 12, 13, 24] (by decide +kernel) rfl
                                refine zcall (st1 := [.long (jI ((Int.natAbs (ar2 (nN (mn q)) (cF40 cx q) (cF40 cy q) (nN (mn q))) : Nat) : Int)), .long (jI ((arF mn cx cy k : Nat) : Int))]) (va_runV (As := [.int (nI q)]) (rest := [.long (jI ((arF mn cx cy k : Nat) : Int))]) ⟨hx, hb, hml, hown, hts⟩ (k_M_area l dC dI cI cZ cF H.size k0 a (upd I0 26 (nI ln)) J0 q (nN (mn q)) mn cx cy S4 (by first | with_reducible assumption | omega) (by first | with_reducible assumption | assumption) (by first | with_reducible assumption | omega) (by first | with_reducible assumption | assumption)) (csV_218 hts rfl rfl ⟨Nat.le_of_ble_eq_true rfl, Nat.le_of_ble_eq_true rfl⟩) (zPV2 (q0 := 0) (ci := 9) hPc hDc hK hXN rfl rfl) rfl rfl hl.1 rfl (lv_room (Nat.le_of_ble_eq_true rfl)) dX11_few_118 ⟨Nat.zero_le _, Nat.zero_le _⟩) hS hFc hFc rfl (fun t H locs ht hB hk1 hS => ?_)
                                obtain ⟨S5, hP1, hD1⟩ := hB
                                rw [ht] at hP1
                                obtain ⟨hP, hD⟩ := zn (W2 := [_, _, _, _, _, _, _, _, _, _, _, _, _, _, _, _, _, _, _, _, _, _, _, _, (oa (a 32) cI 8 S5)]) hP hD hk1 hFc hP1 hD1 [0, 11, 12, 13, 24] zl_242 zl_243 [0, 11, 12, 13, 24] (by decide +kernel) rfl rfl rfl rfl rfl
                                clear hk1 hPc hDc hFc hP1 hD1 ht
                                refine zz_l (v := jI ((arF mn cx cy q : Nat) : Int)) (rfl) ?_
                                refine lv_lsub hx hb dX11_few_121 ?_
                                refine zz_l (v := jI (((arF mn cx cy k : Nat) : Int) - ((arF mn cx cy q : Nat) : Int))) (jI_sub (by omega) (by omega)) ?_
                                refine lv_goto (tgt := 128) hx hb dX11_few_122 rfl ?_
                                refine lv_lstore (lv' := [(7, .long (jI (((arF mn cx cy k : Nat) : Int) - ((arF mn cx cy q : Nat) : Int)))), (6, .int 1), (5, .int (nI k)), (4, .int (nI (cntP (gtF ft st tn kd mn tw cx cy q) k))), (3, .int (nI q)), (0, .ref k0), (1, .int le9), (2, .int mv9)]) hx hb dX11_few_128 hl (Nat.le_of_ble_eq_true rfl) rfl (fun ls hl => ?_)
                                refine lv_iload hx hb dX11_few_130 (lv_at hl 3 rfl) ?_
                                refine lv_iload hx hb dX11_few_132 (lv_at hl 1 rfl) ?_
                                refine lv_if_eq (tgt := 161) hx hb dX11_few_134 rfl (fun c_38 => ?_) (fun c_38 => ?_)
                                · exact absurd c_38 (by decide)
                                · refine lv_lload hx hb dX11_few_137 (lv_at hl 0 rfl) ?_
                                  refine lv_lconst (v := 0) hx hb dX11_few_139 rfl ?_
                                  refine W.lcmp hx hb dX11_few_140 ?_
                                  refine lv_if_gt (tgt := 157) hx hb dX11_few_141 rfl (fun c_39 => ?_) (fun c_39 => ?_)
                                  · have c_39 : 0 < (((arF mn cx cy k : Nat) : Int) - ((arF mn cx cy q : Nat) : Int)) := zl_gt (jI_toInt (by omega)) rfl c_39
                                    refine lv_iconst (v := 1) hx hb dX11_few_157 rfl ?_
                                    refine lv_goto (tgt := 162) hx hb dX11_few_158 rfl ?_
                                    refine lv_iadd hx hb dX11_few_162 ?_
                                    refine zz_i (v := nI ((cntP (gtF ft st tn kd mn tw cx cy q) k) + 1)) (nI_add (cntP (gtF ft st tn kd mn tw cx cy q) k) 1) ?_
                                    refine lv_istore (lv' := [(4, .int (nI ((cntP (gtF ft st tn kd mn tw cx cy q) k) + 1))), (7, .long (jI (((arF mn cx cy k : Nat) : Int) - ((arF mn cx cy q : Nat) : Int)))), (6, .int 1), (5, .int (nI k)), (3, .int (nI q)), (0, .ref k0), (1, .int le9), (2, .int mv9)]) hx hb dX11_few_163 hl (Nat.le_of_ble_eq_true rfl) rfl (fun ls hl => ?_)
                                    refine lv_iinc (v := nI (k + 1)) (lv' := [(5, .int (nI (k + 1))), (4, .int (nI ((cntP (gtF ft st tn kd mn tw cx cy q) k) + 1))), (7, .long (jI (((arF mn cx cy k : Nat) : Int) - ((arF mn cx cy q : Nat) : Int)))), (6, .int 1), (3, .int (nI q)), (0, .ref k0), (1, .int le9), (2, .int mv9)]) hx hb dX11_few_165 hl (k := 3) rfl (nI_add k 1) (Nat.le_of_ble_eq_true rfl) rfl (fun ls hl => ?_)
                                    refine lv_goto (tgt := 37) hx hb dX11_few_168 rfl ?_
                                    have hl9 := lv_sub hl [0, 1, 4, 5, 6, 7] rfl
                                    have e9_4 : nI (cntP (gtF ft st tn kd mn tw cx cy q) (k + 1)) = (nI ((cntP (gtF ft st tn kd mn tw cx cy q) k) + 1) : Int32) := by first | (rw [cntP_n (by unfold gtF; first | (intro h; exact absurd h.2.1 (by first | with_reducible assumption | assumption)) | (intro h; have h1 := h.1; have h2 := h.2.2.1; have h3 := h.2.2.2.1; have h4 := h.2.2.2.2; omega))]; first | done | rfl) | (rw [cntP_y (by unfold gtF; exact ⟨by omega, by assumption, by omega, by omega, by omega⟩)])
                                    have hl9 : lv_has ls 9 [(5, .int (nI (k + 1))), (4, .int (nI (cntP (gtF ft st tn kd mn tw cx cy q) (k + 1)))), (3, .int (nI q)), (0, .ref k0), (1, .int le9), (2, .int mv9)] := by rw [e9_4]; exact hl9
                                    exact ih_37 (k + 1) S5 H locs ls (by first | with_reducible assumption | omega) (by first | with_reducible assumption | omega) hP hD hS hl9
                                  · have c_39 : (((arF mn cx cy k : Nat) : Int) - ((arF mn cx cy q : Nat) : Int)) ≤ 0 := zl_ngt (jI_toInt (by omega)) rfl c_39
                                    refine lv_lload hx hb dX11_few_144 (lv_at hl 0 rfl) ?_
                                    refine lv_lconst (v := 0) hx hb dX11_few_146 rfl ?_
                                    refine W.lcmp hx hb dX11_few_147 ?_
                                    refine lv_if_ne (tgt := 161) hx hb dX11_few_148 rfl (fun c_40 => ?_) (fun c_40 => ?_)
                                    · have c_40 : ¬ (((arF mn cx cy k : Nat) : Int) - ((arF mn cx cy q : Nat) : Int)) = 0 := zl_ne (jI_toInt (by omega)) rfl c_40
                                      refine lv_iconst (v := 0) hx hb dX11_few_161 rfl ?_
                                      refine lv_iadd hx hb dX11_few_162 ?_
                                      refine zz_i (v := nI ((cntP (gtF ft st tn kd mn tw cx cy q) k) + 0)) (nI_add (cntP (gtF ft st tn kd mn tw cx cy q) k) 0) ?_
                                      refine lv_istore (lv' := [(4, .int (nI ((cntP (gtF ft st tn kd mn tw cx cy q) k) + 0))), (7, .long (jI (((arF mn cx cy k : Nat) : Int) - ((arF mn cx cy q : Nat) : Int)))), (6, .int 1), (5, .int (nI k)), (3, .int (nI q)), (0, .ref k0), (1, .int le9), (2, .int mv9)]) hx hb dX11_few_163 hl (Nat.le_of_ble_eq_true rfl) rfl (fun ls hl => ?_)
                                      refine lv_iinc (v := nI (k + 1)) (lv' := [(5, .int (nI (k + 1))), (4, .int (nI ((cntP (gtF ft st tn kd mn tw cx cy q) k) + 0))), (7, .long (jI (((arF mn cx cy k : Nat) : Int) - ((arF mn cx cy q : Nat) : Int)))), (6, .int 1), (3, .int (nI q)), (0, .ref k0), (1, .int le9), (2, .int mv9)]) hx hb dX11_few_165 hl (k := 3) rfl (nI_add k 1) (Nat.le_of_ble_eq_true rfl) rfl (fun ls hl => ?_)
                                      refine lv_goto (tgt := 37) hx hb dX11_few_168 rfl ?_
                                      have hl9 := lv_sub hl [0, 1, 4, 5, 6, 7] rfl
                                      have e9_4 : nI (cntP (gtF ft st tn kd mn tw cx cy q) (k + 1)) = (nI ((cntP (gtF ft st tn kd mn tw cx cy q) k) + 0) : Int32) := by first | (rw [cntP_n (by unfold gtF; first | (intro h; exact absurd h.2.1 (by first | with_reducible assumption | assumption)) | (intro h; have h1 := h.1; have h2 := h.2.2.1; have h3 := h.2.2.2.1; have h4 := h.2.2.2.2; omega))]; first | done | rfl) | (rw [cntP_y (by unfold gtF; exact ⟨by omega, by assumption, by omega, by omega, by omega⟩)])
                                      have hl9 : lv_has ls 9 [(5, .int (nI (k + 1))), (4, .int (nI (cntP (gtF ft st tn kd mn tw cx cy q) (k + 1)))), (3, .int (nI q)), (0, .ref k0), (1, .int le9), (2, .int mv9)] := by rw [e9_4]; exact hl9
                                      exact ih_37 (k + 1) S5 H locs ls (by first | with_reducible assumption | omega) (by first | with_reducible assumption | omega) hP hD hS hl9
                                    · have c_40 : (((arF mn cx cy k : Nat) : Int) - ((arF mn cx cy q : Nat) : Int)) = 0 := zl_eq (jI_toInt (by omega)) rfl c_40
                                      refine lv_iload hx hb dX11_few_151 (lv_at hl 2 rfl) ?_
                                      refine lv_iload_n hx hb dX11_few_153 rfl (lv_at hl 4 rfl) ?_
                                      refine lv_icmp_ge (tgt := 161) hx hb dX11_few_154 rfl (fun c_41 => ?_) (fun c_41 => ?_)
                                      · have c_41 : ((q : Nat) : Int) ≤ ((k : Nat) : Int) := zc_le (nI_toInt b9_23) (nI_toInt b9_8) c_41
                                        refine lv_iconst (v := 0) hx hb dX11_few_161 rfl ?_
                                        refine lv_iadd hx hb dX11_few_162 ?_
                                        refine zz_i (v := nI ((cntP (gtF ft st tn kd mn tw cx cy q) k) + 0)) (nI_add (cntP (gtF ft st tn kd mn tw cx cy q) k) 0) ?_
                                        refine lv_istore (lv' := [(4, .int (nI ((cntP (gtF ft st tn kd mn tw cx cy q) k) + 0))), (7, .long (jI (((arF mn cx cy k : Nat) : Int) - ((arF mn cx cy q : Nat) : Int)))), (6, .int 1), (5, .int (nI k)), (3, .int (nI q)), (0, .ref k0), (1, .int le9), (2, .int mv9)]) hx hb dX11_few_163 hl (Nat.le_of_ble_eq_true rfl) rfl (fun ls hl => ?_)
                                        refine lv_iinc (v := nI (k + 1)) (lv' := [(5, .int (nI (k + 1))), (4, .int (nI ((cntP (gtF ft st tn kd mn tw cx cy q) k) + 0))), (7, .long (jI (((arF mn cx cy k : Nat) : Int) - ((arF mn cx cy q : Nat) : Int)))), (6, .int 1), (3, .int (nI q)), (0, .ref k0), (1, .int le9), (2, .int mv9)]) hx hb dX11_few_165 hl (k := 3) rfl (nI_add k 1) (Nat.le_of_ble_eq_true rfl) rfl (fun ls hl => ?_)
                                        refine lv_goto (tgt := 37) hx hb dX11_few_168 rfl ?_
                                        have hl9 := lv_sub hl [0, 1, 4, 5, 6, 7] rfl
                                        have e9_4 : nI (cntP (gtF ft st tn kd mn tw cx cy q) (k + 1)) = (nI ((cntP (gtF ft st tn kd mn tw cx cy q) k) + 0) : Int32) := by first | (rw [cntP_n (by unfold gtF; first | (intro h; exact absurd h.2.1 (by first | with_reducible assumption | assumption)) | (intro h; have h1 := h.1; have h2 := h.2.2.1; have h3 := h.2.2.2.1; have h4 := h.2.2.2.2; omega))]; first | done | rfl) | (rw [cntP_y (by unfold gtF; exact ⟨by omega, by assumption, by omega, by omega, by omega⟩)])
                                        have hl9 : lv_has ls 9 [(5, .int (nI (k + 1))), (4, .int (nI (cntP (gtF ft st tn kd mn tw cx cy q) (k + 1)))), (3, .int (nI q)), (0, .ref k0), (1, .int le9), (2, .int mv9)] := by rw [e9_4]; exact hl9
                                        exact ih_37 (k + 1) S5 H locs ls (by first | with_reducible assumption | omega) (by first | with_reducible assumption | omega) hP hD hS hl9
                                      · have c_41 : ((k : Nat) : Int) < ((q : Nat) : Int) := zc_nle (nI_toInt b9_23) (nI_toInt b9_8) c_41
                                        refine lv_iconst (v := 1) hx hb dX11_few_157 rfl ?_
                                        refine lv_goto (tgt := 162) hx hb dX11_few_158 rfl ?_
                                        refine lv_iadd hx hb dX11_few_162 ?_
                                        refine zz_i (v := nI ((cntP (gtF ft st tn kd mn tw cx cy q) k) + 1)) (nI_add (cntP (gtF ft st tn kd mn tw cx cy q) k) 1) ?_
                                        refine lv_istore (lv' := [(4, .int (nI ((cntP (gtF ft st tn kd mn tw cx cy q) k) + 1))), (7, .long (jI (((arF mn cx cy k : Nat) : Int) - ((arF mn cx cy q : Nat) : Int)))), (6, .int 1), (5, .int (nI k)), (3, .int (nI q)), (0, .ref k0), (1, .int le9), (2, .int mv9)]) hx hb dX11_few_163 hl (Nat.le_of_ble_eq_true rfl) rfl (fun ls hl => ?_)
                                        refine lv_iinc (v := nI (k + 1)) (lv' := [(5, .int (nI (k + 1))), (4, .int (nI ((cntP (gtF ft st tn kd mn tw cx cy q) k) + 1))), (7, .long (jI (((arF mn cx cy k : Nat) : Int) - ((arF mn cx cy q : Nat) : Int)))), (6, .int 1), (3, .int (nI q)), (0, .ref k0), (1, .int le9), (2, .int mv9)]) hx hb dX11_few_165 hl (k := 3) rfl (nI_add k 1) (Nat.le_of_ble_eq_true rfl) rfl (fun ls hl => ?_)
                                        refine lv_goto (tgt := 37) hx hb dX11_few_168 rfl ?_
                                        have hl9 := lv_sub hl [0, 1, 4, 5, 6, 7] rfl
                                        have e9_4 : nI (cntP (gtF ft st tn kd mn tw cx cy q) (k + 1)) = (nI ((cntP (gtF ft st tn kd mn tw cx cy q) k) + 1) : Int32) := by first | (rw [cntP_n (by unfold gtF; first | (intro h; exact absurd h.2.1 (by first | with_reducible assumption | assumption)) | (intro h; have h1 := h.1; have h2 := h.2.2.1; have h3 := h.2.2.2.1; have h4 := h.2.2.2.2; omega))]; first | done | rfl) | (rw [cntP_y (by unfold gtF; exact ⟨by omega, by assumption, by omega, by omega, by omega⟩)])
                                        have hl9 : lv_has ls 9 [(5, .int (nI (k + 1))), (4, .int (nI (cntP (gtF ft st tn kd mn tw cx cy q) (k + 1)))), (3, .int (nI q)), (0, .ref k0), (1, .int le9), (2, .int mv9)] := by rw [e9_4]; exact hl9
                                        exact ih_37 (k + 1) S5 H locs ls (by first | with_reducible assumption | omega) (by first | with_reducible assumption | omega) hP hD hS hl9
              have e9_4 : nI (cntP (gtF ft st tn kd mn tw cx cy q) 0) = (0 : Int32) := by rfl
              have hl9 : lv_has ls 9 [(5, .int (nI 0)), (4, .int (nI (cntP (gtF ft st tn kd mn tw cx cy q) 0))), (3, .int (nI q)), (0, .ref k0), (1, .int le9), (2, .int mv9)] := by rw [e9_4]; exact lv_sub hl [0, 1, 2, 3, 4, 5] rfl
              exact hl_37 _ 0 S1 H locs ls (Nat.lt_succ_self _) (by first | with_reducible assumption | omega) hP hD hS hl9
        exact hl_23 _ 0 mk S0 s.heap [] ls (Nat.lt_succ_self _) (by first | with_reducible assumption | omega) (by intro j hj; omega) hP hD hS (lv_sub hl [0, 1, 2, 3] rfl)
      · have c_3 : 200 < mv9.toInt := zc_nle rfl rfl c_3
        exfalso; omega
end
section
set_option maxHeartbeats 4000000 in
set_option maxRecDepth 100000 in
theorem k_M_tell_r0 (l : Launch) (dC : Nat → ClassId) (dI : Nat → Nat → Nat) (cI cZ cF : ClassId) (sz : Nat) (k0 : Nat) (a : Nat → Nat) (I0 : Nat → Int32) (J0 : Nat → Int64) (L : Nat) (ft : Nat) (TT : Nat) (P9 : Nat) (dn : Nat) (bs : Nat) (w0 : Nat) (cp : Nat) (c1 : Nat) (kd : Nat → Int32) (st : Nat → Int32) (gb : Nat → Int32) (it : Nat → Int32) (pa : Nat → Int32) (pb : Nat → Int32) (rk : Nat → Int32) (wd : Nat → Int32) (tw : Nat → Int32) (tn : Nat → Int32) (mn : Nat → Int32) (cx : Nat → Int32) (cy : Nat → Int32) (sa : Nat → Int32) (sh : Nat → Int32) (wh : Nat → Int32) (of9 : Nat → Int32) (we : Nat → Int32) (S0 : Nat → Int32) (T0 : Nat → Int32) (P0 : Nat → Int32) (Q0 : Nat → Int32) (ox : Nat → Int32) (oy : Nat → Int32) (mt : Nat → Int32) (wi : Nat → Int32) (ins : Nat → Int32) (fl : Nat → Int32) (la : Nat → Int32) (lb : Nat → Int32) (lc : Nat → Int32) (ld : Nat → Int32) (mn1 : Nat → Int32) (cx1 : Nat → Int32) (cy1 : Nat → Int32) (ln : Nat) (cl : Nat) (hft : I0 0 = nI ft) (h200 : ft ≤ 200) (hL : L ≤ 2147483647) (hall : allI ft st tn kd mn cx cy) (hds : ∀ q, bnQ ft st tn kd q → dsR (nN (mn q)) (cF40 cx q) (cF40 cy q)) (hrun : rnA ft st tn kd L P9 mn cx cy TT mn1 cx1 cy1) (hTT : TT ≤ 10000) (hclm : dlN TT cl ln ≤ 100000) (hlc : ln ≤ 64 * cl) (hcl1 : 1 ≤ cl) (hdn : I0 19 = nI dn) (hbs : I0 21 = nI bs) (hbd : bs ≤ dn) (hd512 : dn ≤ 512) (hi5_1 : (dn - bs) < 515) (hsa_1 : sa (dn - bs) = nI w0) (hmn_1 : ∀ v9, v9 < ft → (tn v9).toInt = 0 → ¬ (st v9).toInt = 0 → mn v9 = nI (nN (mn v9)) ∧ nN (mn v9) ≤ 40) (hc1_1 : 1 ≤ cp) (hpw_1 : pw cp c1) (hw0_1 : w0 ≤ 4096 * cp) (hfit_1 : psN (nnF st tn mn) w0 ft ≤ 4096 * c1) (hmin_1 : c1 = cp ∨ 2048 * c1 < psN (nnF st tn mn) w0 ft) (hcE_1 : c1 ≤ 512) (hz : TT = 0) : zM l yX11_tell cX11_tell 9 (some .int) ({ frames := 9, cells := (c1 - cp) + 4 * (dlN TT cl ln - cl), slots := 8192 * (c1 - cp) + 512 * (dlN TT cl ln - cl), locals := 233 } : Room) [.ref k0, .int 10, .int (-1), .int (nI L)] (dC, dI) (zTy cI cZ cF) ((om k0 a (upd I0 26 (nI ln)) J0) :: (oa (a 1) cI 201 kd) :: (oa (a 5) cI 201 st) :: (oa (a 7) cI 201 gb) :: (oa (a 10) cI 201 it) :: (oa (a 8) cI 201 pa) :: (oa (a 9) cI 201 pb) :: (oa (a 2) cI 201 rk) :: (oa (a 3) cI 201 wd) :: (oa (a 4) cI 201 tw) :: (oa (a 6) cZ 201 tn) :: (oa (a 11) cI 201 mn) :: (oa (a 12) cI 8040 cx) :: (oa (a 13) cI 8040 cy) :: (oa (a 27) cI 516 sa) :: (oa (a 28) cI (4096 * cp) sh) :: (oa (a 16) cI 514 wh) :: (oa (a 17) cI 514 of9) :: (oa (a 18) cI 514 we) :: (oa (a 32) cI 8 S0) :: (oa (a 40) cI 6 T0) :: (oa (a 29) cI 42 P0) :: (oa (a 30) cI 42 Q0) :: (oa (a 33) cI 42 ox) :: (oa (a 34) cI 42 oy) :: (oa (a 37) cZ 201 mt) :: (oa (a 38) cZ 201 wi) :: (oa (a 39) cZ 8040 ins) :: (oa (a 43) cZ 40 fl) :: (oa (a 22) cI (64 * cl) la) :: (oa (a 23) cI (64 * cl) lb) :: (oa (a 24) cI (64 * cl) lc) :: (oa (a 25) cI (64 * cl) ld) :: []) sz (some (.int (-1))) (fun A t => ∃ (z9 : Int32), ∃ (on1 : Int32), ∃ (ok1 : Int32), ∃ (S1 : Nat → Int32), ∃ (T1 : Nat → Int32), ∃ (P1 : Nat → Int32), ∃ (Q1 : Nat → Int32), ∃ (ox1 : Nat → Int32), ∃ (oy1 : Nat → Int32), ∃ (mt1 : Nat → Int32), ∃ (wi1 : Nat → Int32), ∃ (ins1 : Nat → Int32), ∃ (fl1 : Nat → Int32), ∃ (b1 : Nat), ∃ (sh1 : Nat → Int32), ∃ (bl0 : Nat), ∃ (bl1 : Nat), ∃ (bl2 : Nat), ∃ (bl3 : Nat), ∃ (la1 : Nat → Int32), ∃ (lb1 : Nat → Int32), ∃ (lc1 : Nat → Int32), ∃ (ld1 : Nat → Int32), (sh1 w0 = nI ft) ∧ (∀ j, j < w0 → sh1 j = sh j) ∧ (∀ g, g < ft → ∀ j, j < 10 + 2 * nnF st tn mn g → sh1 (psN (nnF st tn mn) w0 g + j) = (shD kd st gb it pa pb rk wd tw (nnF st tn mn) cx cy) g j) ∧ (∀ j, psN (nnF st tn mn) w0 ft ≤ j → j < 4096 * cp → sh1 j = sh j) ∧ (((∀ j, j < ln → pl (lb j) ∧ pl (lc j)) → ∀ j, j < ln → pl (lb1 j) ∧ pl (lc1 j)) ∧ lsE ln la lb lc ld la1 lb1 lc1 ld1) ∧ zPD (dC, dI) classes A ((om k0 (va_up (va_up (va_up (va_up (va_up a 22 bl0) 23 bl1) 24 bl2) 25 bl3) 28 b1) (upd (upd (upd (upd (upd (upd (upd I0 14 8) 15 (I0 15)) 26 (nI ln)) 31 z9) 35 on1) 36 ok1) 41 (nI (psN (nnF st tn mn) w0 ft))) J0) :: (oa (a 1) cI 201 kd) :: (oa (a 5) cI 201 st) :: (oa (a 7) cI 201 gb) :: (oa (a 10) cI 201 it) :: (oa (a 8) cI 201 pa) :: (oa (a 9) cI 201 pb) :: (oa (a 2) cI 201 rk) :: (oa (a 3) cI 201 wd) :: (oa (a 4) cI 201 tw) :: (oa (a 6) cZ 201 tn) :: (oa (a 11) cI 201 mn1) :: (oa (a 12) cI 8040 cx1) :: (oa (a 13) cI 8040 cy1) :: (oa (a 27) cI 516 (upd sa (dn - bs + 1) (nI (psN (nnF st tn mn) w0 ft)))) :: (oa b1 cI (4096 * c1) sh1) :: (oa (a 16) cI 514 wh) :: (oa (a 17) cI 514 of9) :: (oa (a 18) cI 514 we) :: (oa (a 32) cI 8 S1) :: (oa (a 40) cI 6 T1) :: (oa (a 29) cI 42 P1) :: (oa (a 30) cI 42 Q1) :: (oa (a 33) cI 42 ox1) :: (oa (a 34) cI 42 oy1) :: (oa (a 37) cZ 201 mt1) :: (oa (a 38) cZ 201 wi1) :: (oa (a 39) cZ 8040 ins1) :: (oa (a 43) cZ 40 fl1) :: (oa bl0 cI (64 * cl) la1) :: (oa bl1 cI (64 * cl) lb1) :: (oa bl2 cI (64 * cl) lc1) :: (oa bl3 cI (64 * cl) ld1) :: []) t.heap) ((c1 - cp) + 4 * (dlN TT cl ln - cl)) (8192 * (c1 - cp) + 512 * (dlN TT cl ln - cl)) := by
  refine zIn (own := "ScaleShopModel") (loc := [(0, .ref k0), (1, .int 10), (2, .int (-1)), (3, .int (nI L))]) rfl rfl rfl rfl (fun p e s m below meth c hx hb hr hts hown hlocks hml hnm9 A hA hS hP hD hK hXN Q9 hQ9 ls hl => ?_)
  have hq1 := pw_le hpw_1
  have hdl9 := dlN_le TT cl ln
  refine lv_aload_n hx hb dX11_tell_0 rfl (lv_at hl 0 rfl) ?_
  obtain ⟨hPc, hDc, hFc⟩ := zo_sub (wc := [_, _, _, _, _, _, _, _, _, _, _, _, _, _, _, _]) hP hD hS hA [0, 1, 2, 3, 4, 5, 6, 7, 8, 9, 10, 11, 12, 13, 14, 15] (by decide +kernel) rfl
  refine zcall (st1 := []) (va_runV (As := []) (rest := []) ⟨hx, hb, hml, hown, hts⟩ (k_M_begins l dC dI cI cZ cF s.heap.size k0 a (upd I0 26 (nI ln)) J0 dn bs ft w0 cp c1 kd st gb it pa pb rk wd tw tn mn cx cy sa sh (hft) (by first | with_reducible assumption | omega) (hdn) (hbs) (by first | with_reducible assumption | omega) (by first | with_reducible assumption | omega) (hi5_1) (hsa_1) (hmn_1) (hc1_1) (hpw_1) (hw0_1) (hfit_1) (hmin_1) (hcE_1)) (csV_205 hts rfl rfl ⟨Nat.le_of_ble_eq_true rfl, Nat.le_of_ble_eq_true rfl⟩) (zPV2 (q0 := 0) (ci := 9) hPc hDc hK hXN rfl rfl) rfl rfl hl.1 rfl (lv_room (Nat.le_of_ble_eq_true rfl)) dX11_tell_1 ⟨show (0 + (c1 - cp)) ≤ (c1 - cp) + 4 * (dlN TT cl ln - cl) by omega, show (0 + (8192 * (c1 - cp))) ≤ 8192 * (c1 - cp) + 512 * (dlN TT cl ln - cl) by omega⟩) hS hFc hFc rfl (fun t H locs ht hB hk1 hS => ?_)
  obtain ⟨b1, sh1, g1, g2, g3, g4, hP1, hD1⟩ := hB
  rw [ht] at hP1
  obtain ⟨hP, hD⟩ := zn (W2 := (_ :: _ :: _ :: _ :: _ :: _ :: _ :: _ :: _ :: _ :: _ :: _ :: _ :: _ :: _ :: _ :: _ :: (om k0 (va_up a 28 b1) (upd (upd I0 26 (nI ln)) 41 (nI (psN (nnF st tn mn) w0 ft))) J0) :: (oa (a 1) cI 201 kd) :: (oa (a 5) cI 201 st) :: (oa (a 7) cI 201 gb) :: (oa (a 10) cI 201 it) :: (oa (a 8) cI 201 pa) :: (oa (a 9) cI 201 pb) :: (oa (a 2) cI 201 rk) :: (oa (a 3) cI 201 wd) :: (oa (a 4) cI 201 tw) :: (oa (a 6) cZ 201 tn) :: (oa (a 11) cI 201 mn) :: (oa (a 12) cI 8040 cx) :: (oa (a 13) cI 8040 cy) :: (oa (a 27) cI 516 (upd sa ((dn - bs) + 1) (nI (psN (nnF st tn mn) w0 ft)))) :: (oa b1 cI (4096 * c1) sh1) :: [])) hP hD hk1 hFc hP1 hD1 zl_80 zl_214 zl_215 zl_216 (by decide +kernel) rfl rfl rfl rfl rfl
  clear hk1 hPc hDc hFc hP1 hD1 ht
  refine lv_iconst (v := 0) hx hb dX11_tell_4 rfl ?_
  refine lv_istore (lv' := [(4, .int 0), (0, .ref k0), (1, .int 10), (2, .int (-1)), (3, .int (nI L))]) hx hb dX11_tell_5 hl (Nat.le_of_ble_eq_true rfl) rfl (fun ls hl => ?_)
  refine lv_aload_n hx hb dX11_tell_7 rfl (lv_at hl 1 rfl) ?_
  refine va_get (D := (dC, dI)) (ci := 9) (v := .int (nI ln)) (C := RX11) (T := TX11) (N := 55) hx hb hts inX11 hown hK hP 17 rfl rfl 26 (Nat.le_of_ble_eq_true rfl) (hts _ mw_1185) (fun _ h9 => h9) rfl dX11_tell_8 ?_
  refine lv_istore (lv' := [(5, .int (nI ln)), (4, .int 0), (0, .ref k0), (1, .int 10), (2, .int (-1)), (3, .int (nI L))]) hx hb dX11_tell_11 hl (Nat.le_of_ble_eq_true rfl) rfl (fun ls hl => ?_)
  refine lv_iload_n hx hb dX11_tell_13 rfl (lv_at hl 3 rfl) ?_
  refine lv_iconst (v := 1) hx hb dX11_tell_14 rfl ?_
  refine lv_icmp_ne (tgt := 35) hx hb dX11_tell_15 rfl (fun c_1 => ?_) (fun c_1 => ?_)
  · refine lv_iconst (v := 1) hx hb dX11_tell_35 rfl ?_
    refine lv_istore (lv' := [(6, .int 1), (5, .int (nI ln)), (4, .int 0), (0, .ref k0), (1, .int 10), (2, .int (-1)), (3, .int (nI L))]) hx hb dX11_tell_36 hl (Nat.le_of_ble_eq_true rfl) rfl (fun ls hl => ?_)
    have hl_38 : ∀ (n9 : Nat) (nC : Nat) (pp : Nat) (x6 : Int32) (ln2 : Nat) (cl2 : Nat) (z9_b : Int32) (on1_b : Int32) (ok1_b : Int32) (S1_b : Nat → Int32) (T1_b : Nat → Int32) (P1_b : Nat → Int32) (Q1_b : Nat → Int32) (ox1_b : Nat → Int32) (oy1_b : Nat → Int32) (mt1_b : Nat → Int32) (wi1_b : Nat → Int32) (ins1_b : Nat → Int32) (fl1_b : Nat → Int32) (mn2 : Nat → Int32) (cx2 : Nat → Int32) (cy2 : Nat → Int32) (bl0_b : Nat) (bl1_b : Nat) (bl2_b : Nat) (bl3_b : Nat) (la1_b : Nat → Int32) (lb1_b : Nat → Int32) (lc1_b : Nat → Int32) (ld1_b : Nat → Int32) (H : Heap) (locs : List Loc) (ls : Array Slot), pp < n9 → (rnM ft st tn kd L TT mn1 cx1 cy1 x6 pp nC mn2 cx2 cy2) → (allI ft st tn kd mn2 cx2 cy2) → (ln2 = ln + nC) → (cl2 = dlN nC cl ln) → ((∀ j, j < ln → pl (lb j) ∧ pl (lc j)) → ∀ j, j < ln2 → pl (lb1_b j) ∧ pl (lc1_b j)) → (rlM ln ln2 ft (nI (dn + 1)) st tn kd mn cx cy mn2 cx2 cy2 la lb lc ld la1_b lb1_b lc1_b ld1_b) → va_P (dC, dI) classes ((oa (a 16) cI 514 wh) :: (oa (a 17) cI 514 of9) :: (oa (a 18) cI 514 we) :: (oa (a 32) cI 8 S1_b) :: (oa (a 40) cI 6 T1_b) :: (oa (a 29) cI 42 P1_b) :: (oa (a 30) cI 42 Q1_b) :: (oa (a 33) cI 42 ox1_b) :: (oa (a 34) cI 42 oy1_b) :: (oa (a 37) cZ 201 mt1_b) :: (oa (a 38) cZ 201 wi1_b) :: (oa (a 39) cZ 8040 ins1_b) :: (oa (a 43) cZ 40 fl1_b) :: (oa bl0_b cI (64 * cl2) la1_b) :: (oa bl1_b cI (64 * cl2) lb1_b) :: (oa bl2_b cI (64 * cl2) lc1_b) :: (oa bl3_b cI (64 * cl2) ld1_b) :: (om k0 (va_up (va_up (va_up (va_up (va_up a 22 bl0_b) 23 bl1_b) 24 bl2_b) 25 bl3_b) 28 b1) (upd (upd (upd (upd (upd I0 26 (nI ln2)) 31 z9_b) 35 on1_b) 36 ok1_b) 41 (nI (psN (nnF st tn mn) w0 ft))) J0) :: (oa (a 1) cI 201 kd) :: (oa (a 5) cI 201 st) :: (oa (a 7) cI 201 gb) :: (oa (a 10) cI 201 it) :: (oa (a 8) cI 201 pa) :: (oa (a 9) cI 201 pb) :: (oa (a 2) cI 201 rk) :: (oa (a 3) cI 201 wd) :: (oa (a 4) cI 201 tw) :: (oa (a 6) cZ 201 tn) :: (oa (a 11) cI 201 mn2) :: (oa (a 12) cI 8040 cx2) :: (oa (a 13) cI 8040 cy2) :: (oa (a 27) cI 516 (upd sa ((dn - bs) + 1) (nI (psN (nnF st tn mn) w0 ft)))) :: (oa b1 cI (4096 * c1) sh1) :: []) H → va_D A ((oa (a 16) cI 514 wh) :: (oa (a 17) cI 514 of9) :: (oa (a 18) cI 514 we) :: (oa (a 32) cI 8 S1_b) :: (oa (a 40) cI 6 T1_b) :: (oa (a 29) cI 42 P1_b) :: (oa (a 30) cI 42 Q1_b) :: (oa (a 33) cI 42 ox1_b) :: (oa (a 34) cI 42 oy1_b) :: (oa (a 37) cZ 201 mt1_b) :: (oa (a 38) cZ 201 wi1_b) :: (oa (a 39) cZ 8040 ins1_b) :: (oa (a 43) cZ 40 fl1_b) :: (oa bl0_b cI (64 * cl2) la1_b) :: (oa bl1_b cI (64 * cl2) lb1_b) :: (oa bl2_b cI (64 * cl2) lc1_b) :: (oa bl3_b cI (64 * cl2) ld1_b) :: (om k0 (va_up (va_up (va_up (va_up (va_up a 22 bl0_b) 23 bl1_b) 24 bl2_b) 25 bl3_b) 28 b1) (upd (upd (upd (upd (upd I0 26 (nI ln2)) 31 z9_b) 35 on1_b) 36 ok1_b) 41 (nI (psN (nnF st tn mn) w0 ft))) J0) :: (oa (a 1) cI 201 kd) :: (oa (a 5) cI 201 st) :: (oa (a 7) cI 201 gb) :: (oa (a 10) cI 201 it) :: (oa (a 8) cI 201 pa) :: (oa (a 9) cI 201 pb) :: (oa (a 2) cI 201 rk) :: (oa (a 3) cI 201 wd) :: (oa (a 4) cI 201 tw) :: (oa (a 6) cZ 201 tn) :: (oa (a 11) cI 201 mn2) :: (oa (a 12) cI 8040 cx2) :: (oa (a 13) cI 8040 cy2) :: (oa (a 27) cI 516 (upd sa ((dn - bs) + 1) (nI (psN (nnF st tn mn) w0 ft)))) :: (oa b1 cI (4096 * c1) sh1) :: []) → va_S A s.heap H locs → lv_has ls 9 [(6, .int x6), (5, .int (nI ln)), (4, .int (nI nC)), (0, .ref k0), (1, .int 10), (2, .int (-1)), (3, .int (nI L))] → W p l e ({ frames := 9, cells := (c1 - cp) + 4 * (dlN TT cl ln - cl), slots := 8192 * (c1 - cp) + 512 * (dlN TT cl ln - cl), locals := 233 } : Room) s m ([.ref k0, .int 10, .int (-1), .int (nI L)] : List Value).toArray below meth c H locs ((c1 - cp) + 4 * (cl2 - cl)) (8192 * (c1 - cp) + 512 * (cl2 - cl)) Q9 (F0 m 38 ls []) := by
      intro n9
      induction n9 with
      | zero => intro nC pp x6 ln2 cl2 z9_b on1_b ok1_b S1_b T1_b P1_b Q1_b ox1_b oy1_b mt1_b wi1_b ins1_b fl1_b mn2 cx2 cy2 bl0_b bl1_b bl2_b bl3_b la1_b lb1_b lc1_b ld1_b H locs ls hm; exact absurd hm (Nat.not_lt_zero _)
      | succ n9 ih_38 =>
        intro nC pp x6 ln2 cl2 z9_b on1_b ok1_b S1_b T1_b P1_b Q1_b ox1_b oy1_b mt1_b wi1_b ins1_b fl1_b mn2 cx2 cy2 bl0_b bl1_b bl2_b bl3_b la1_b lb1_b lc1_b ld1_b H locs ls hm hM hall2 hln2 hcl2 hlp2 hrl2 hP hD hS hl
        have hge := dlN_le nC cl ln
        have hm38 := hm
        have hle38 := rnM_le hM
        have hmo38 := dlN_mono hle38 cl ln
        refine lv_iload hx hb dX11_tell_38 (lv_at hl 0 rfl) ?_
        refine lv_if_eq (tgt := 122) hx hb dX11_tell_40 rfl (fun c_2 => ?_) (fun c_2 => ?_)
        · have c_2 : x6.toInt = 0 := zc_eq rfl rfl c_2
          have hz38 := rnM_z hM (by omega)
          refine lv_iload hx hb dX11_tell_122 (lv_at hl 2 rfl) ?_
          have b9_4 : zlt (nC) := show nC < 2147483648 by omega
          refine lv_if_ne (tgt := 134) hx hb dX11_tell_124 rfl (fun c_3 => ?_) (fun c_3 => ?_)
          · have c_3 : ¬ ((nC : Nat) : Int) = 0 := zc_ne (nI_toInt b9_4) rfl c_3
            exfalso; omega
          · have c_3 : ((nC : Nat) : Int) = 0 := zc_eq (nI_toInt b9_4) rfl c_3
            refine lv_aload_n hx hb dX11_tell_127 rfl (lv_at hl 3 rfl) ?_
            refine lv_bipush (v := 8) hx hb dX11_tell_128 rfl ?_
            obtain ⟨hPc, hDc, hFc⟩ := zo_sub (wc := [_]) hP hD hS hA [17] rfl rfl
            refine zcall (st1 := [.int (-1)]) (va_runV (As := [.int 8]) (rest := []) ⟨hx, hb, hml, hown, hts⟩ (k_M_refuse l dC dI cI cZ cF H.size k0 (va_up (va_up (va_up (va_up (va_up a 22 bl0_b) 23 bl1_b) 24 bl2_b) 25 bl3_b) 28 b1) (upd (upd (upd (upd (upd I0 26 (nI ln2)) 31 z9_b) 35 on1_b) 36 ok1_b) 41 (nI (psN (nnF st tn mn) w0 ft))) J0 8 (by decide)) (csV_185 hts rfl rfl ⟨Nat.le_of_ble_eq_true rfl, Nat.le_of_ble_eq_true rfl⟩) (zPV2 (q0 := 0) (ci := 9) hPc hDc hK hXN rfl rfl) rfl rfl hl.1 rfl (lv_room (Nat.le_of_ble_eq_true rfl)) dX11_tell_130 ⟨show (c1 - cp) + 4 * (cl2 - cl) ≤ (c1 - cp) + 4 * (dlN TT cl ln - cl) by omega, show 8192 * (c1 - cp) + 512 * (cl2 - cl) ≤ 8192 * (c1 - cp) + 512 * (dlN TT cl ln - cl) by omega⟩) hS hFc hFc rfl (fun t H locs ht hB hk1 hS => ?_)
            obtain ⟨hP1, hD1⟩ := hB
            rw [ht] at hP1
            obtain ⟨hP, hD⟩ := zn (W2 := (_ :: _ :: _ :: _ :: _ :: _ :: _ :: _ :: _ :: _ :: _ :: _ :: _ :: _ :: _ :: _ :: _ :: (om k0 (va_up (va_up (va_up (va_up (va_up a 22 bl0_b) 23 bl1_b) 24 bl2_b) 25 bl3_b) 28 b1) (upd (upd (upd (upd (upd (upd (upd I0 14 8) 15 (I0 15)) 26 (nI ln2)) 31 z9_b) 35 on1_b) 36 ok1_b) 41 (nI (psN (nnF st tn mn) w0 ft))) J0) :: _ :: _ :: _ :: _ :: _ :: _ :: _ :: _ :: _ :: _ :: _ :: _ :: _ :: _ :: _ :: [])) hP hD hk1 hFc hP1 hD1 [17] zl_244 zl_244 [17] (by decide +kernel) rfl rfl rfl rfl rfl
            clear hk1 hPc hDc hFc hP1 hD1 ht
            obtain ⟨hP9, hD9⟩ := zq_sub (wc := ((om k0 (va_up (va_up (va_up (va_up (va_up a 22 bl0_b) 23 bl1_b) 24 bl2_b) 25 bl3_b) 28 b1) (upd (upd (upd (upd (upd (upd (upd I0 14 8) 15 (I0 15)) 26 (nI ln2)) 31 z9_b) 35 on1_b) 36 ok1_b) 41 (nI (psN (nnF st tn mn) w0 ft))) J0) :: (oa (a 1) cI 201 kd) :: (oa (a 5) cI 201 st) :: (oa (a 7) cI 201 gb) :: (oa (a 10) cI 201 it) :: (oa (a 8) cI 201 pa) :: (oa (a 9) cI 201 pb) :: (oa (a 2) cI 201 rk) :: (oa (a 3) cI 201 wd) :: (oa (a 4) cI 201 tw) :: (oa (a 6) cZ 201 tn) :: (oa (a 11) cI 201 mn2) :: (oa (a 12) cI 8040 cx2) :: (oa (a 13) cI 8040 cy2) :: (oa (a 27) cI 516 (upd sa ((dn - bs) + 1) (nI (psN (nnF st tn mn) w0 ft)))) :: (oa b1 cI (4096 * c1) sh1) :: (oa (a 16) cI 514 wh) :: (oa (a 17) cI 514 of9) :: (oa (a 18) cI 514 we) :: (oa (a 32) cI 8 S1_b) :: (oa (a 40) cI 6 T1_b) :: (oa (a 29) cI 42 P1_b) :: (oa (a 30) cI 42 Q1_b) :: (oa (a 33) cI 42 ox1_b) :: (oa (a 34) cI 42 oy1_b) :: (oa (a 37) cZ 201 mt1_b) :: (oa (a 38) cZ 201 wi1_b) :: (oa (a 39) cZ 8040 ins1_b) :: (oa (a 43) cZ 40 fl1_b) :: (oa bl0_b cI (64 * cl2) la1_b) :: (oa bl1_b cI (64 * cl2) lb1_b) :: (oa bl2_b cI (64 * cl2) lc1_b) :: (oa bl3_b cI (64 * cl2) ld1_b) :: [])) hP hD (17 :: 18 :: 19 :: 20 :: 21 :: 22 :: 23 :: 24 :: 25 :: 26 :: 27 :: 28 :: 29 :: 30 :: 31 :: 32 :: 0 :: 1 :: 2 :: 3 :: 4 :: 5 :: 6 :: 7 :: 8 :: 9 :: 10 :: 11 :: 12 :: 13 :: 14 :: 15 :: 16 :: []) rfl rfl
            have hE9 : (((om k0 (va_up (va_up (va_up (va_up (va_up a 22 bl0_b) 23 bl1_b) 24 bl2_b) 25 bl3_b) 28 b1) (upd (upd (upd (upd (upd (upd (upd I0 14 8) 15 (I0 15)) 26 (nI ln2)) 31 z9_b) 35 on1_b) 36 ok1_b) 41 (nI (psN (nnF st tn mn) w0 ft))) J0) :: (oa (a 1) cI 201 kd) :: (oa (a 5) cI 201 st) :: (oa (a 7) cI 201 gb) :: (oa (a 10) cI 201 it) :: (oa (a 8) cI 201 pa) :: (oa (a 9) cI 201 pb) :: (oa (a 2) cI 201 rk) :: (oa (a 3) cI 201 wd) :: (oa (a 4) cI 201 tw) :: (oa (a 6) cZ 201 tn) :: (oa (a 11) cI 201 mn2) :: (oa (a 12) cI 8040 cx2) :: (oa (a 13) cI 8040 cy2) :: (oa (a 27) cI 516 (upd sa ((dn - bs) + 1) (nI (psN (nnF st tn mn) w0 ft)))) :: (oa b1 cI (4096 * c1) sh1) :: (oa (a 16) cI 514 wh) :: (oa (a 17) cI 514 of9) :: (oa (a 18) cI 514 we) :: (oa (a 32) cI 8 S1_b) :: (oa (a 40) cI 6 T1_b) :: (oa (a 29) cI 42 P1_b) :: (oa (a 30) cI 42 Q1_b) :: (oa (a 33) cI 42 ox1_b) :: (oa (a 34) cI 42 oy1_b) :: (oa (a 37) cZ 201 mt1_b) :: (oa (a 38) cZ 201 wi1_b) :: (oa (a 39) cZ 8040 ins1_b) :: (oa (a 43) cZ 40 fl1_b) :: (oa bl0_b cI (64 * cl2) la1_b) :: (oa bl1_b cI (64 * cl2) lb1_b) :: (oa bl2_b cI (64 * cl2) lc1_b) :: (oa bl3_b cI (64 * cl2) ld1_b) :: []) : va_W) = ((om k0 (va_up (va_up (va_up (va_up (va_up a 22 bl0_b) 23 bl1_b) 24 bl2_b) 25 bl3_b) 28 b1) (upd (upd (upd (upd (upd (upd (upd I0 14 8) 15 (I0 15)) 26 (nI ln)) 31 z9_b) 35 on1_b) 36 ok1_b) 41 (nI (psN (nnF st tn mn) w0 ft))) J0) :: (oa (a 1) cI 201 kd) :: (oa (a 5) cI 201 st) :: (oa (a 7) cI 201 gb) :: (oa (a 10) cI 201 it) :: (oa (a 8) cI 201 pa) :: (oa (a 9) cI 201 pb) :: (oa (a 2) cI 201 rk) :: (oa (a 3) cI 201 wd) :: (oa (a 4) cI 201 tw) :: (oa (a 6) cZ 201 tn) :: (oa (a 11) cI 201 mn1) :: (oa (a 12) cI 8040 cx1) :: (oa (a 13) cI 8040 cy1) :: (oa (a 27) cI 516 (upd sa (dn - bs + 1) (nI (psN (nnF st tn mn) w0 ft)))) :: (oa b1 cI (4096 * c1) sh1) :: (oa (a 16) cI 514 wh) :: (oa (a 17) cI 514 of9) :: (oa (a 18) cI 514 we) :: (oa (a 32) cI 8 S1_b) :: (oa (a 40) cI 6 T1_b) :: (oa (a 29) cI 42 P1_b) :: (oa (a 30) cI 42 Q1_b) :: (oa (a 33) cI 42 ox1_b) :: (oa (a 34) cI 42 oy1_b) :: (oa (a 37) cZ 201 mt1_b) :: (oa (a 38) cZ 201 wi1_b) :: (oa (a 39) cZ 8040 ins1_b) :: (oa (a 43) cZ 40 fl1_b) :: (oa bl0_b cI (64 * cl) la1_b) :: (oa bl1_b cI (64 * cl) lb1_b) :: (oa bl2_b cI (64 * cl) lc1_b) :: (oa bl3_b cI (64 * cl) ld1_b) :: []) := by rw [hz38.1, hz38.2.1, hz38.2.2.1, show ln2 = ln by omega, show cl2 = cl by (rw [hcl2, show nC = 0 by omega]; rfl)]; try rfl
            rw [hE9] at hP9 hD9
            refine W.widen (k := (c1 - cp) + 4 * (dlN TT cl ln - cl)) (n := 8192 * (c1 - cp) + 512 * (dlN TT cl ln - cl)) (by omega) (by omega) ?_
            rw [hQ9]
            exact W.iret (v := (-1)) hx hb hr (fun t ht hW => ⟨⟨rfl, z9_b, on1_b, ok1_b, S1_b, T1_b, P1_b, Q1_b, ox1_b, oy1_b, mt1_b, wi1_b, ins1_b, fl1_b, b1, sh1, bl0_b, bl1_b, bl2_b, bl3_b, la1_b, lb1_b, lc1_b, ld1_b, (g1), (g2), (g3), (g4), (⟨fun h j hj => hlp2 h j (by omega), fun j hj => hrl2.1 j hj⟩), by rw [ht]; exact hP9, hD9⟩, hS.F ht⟩) hS.2.2 dX11_tell_133
        · have c_2 : ¬ x6.toInt = 0 := zc_ne rfl rfl c_2
          obtain ⟨p9, t9t, mn3, cx3, cy3, hpp, hP3, hM0, hM1, hnT⟩ := rnM_s hM (by first | with_reducible assumption | assumption)
          refine lv_iload hx hb dX11_tell_43 (lv_at hl 2 rfl) ?_
          refine lv_istore (lv' := [(7, .int (nI nC)), (6, .int x6), (5, .int (nI ln)), (4, .int (nI nC)), (0, .ref k0), (1, .int 10), (2, .int (-1)), (3, .int (nI L))]) hx hb dX11_tell_45 hl (Nat.le_of_ble_eq_true rfl) rfl (fun ls hl => ?_)
          refine lv_iconst (v := 0) hx hb dX11_tell_47 rfl ?_
          refine lv_istore (lv' := [(8, .int 0), (7, .int (nI nC)), (6, .int x6), (5, .int (nI ln)), (4, .int (nI nC)), (0, .ref k0), (1, .int 10), (2, .int (-1)), (3, .int (nI L))]) hx hb dX11_tell_48 hl (Nat.le_of_ble_eq_true rfl) rfl (fun ls hl => ?_)
          have hl_50 : ∀ (n9 : Nat) (q : Nat) (nD : Nat) (tr : Nat) (ln4 : Nat) (cl4 : Nat) (z9_c : Int32) (on1_c : Int32) (ok1_c : Int32) (S1_c : Nat → Int32) (T1_c : Nat → Int32) (P1_c : Nat → Int32) (Q1_c : Nat → Int32) (ox1_c : Nat → Int32) (oy1_c : Nat → Int32) (mt1_c : Nat → Int32) (wi1_c : Nat → Int32) (ins1_c : Nat → Int32) (fl1_c : Nat → Int32) (mn4 : Nat → Int32) (cx4 : Nat → Int32) (cy4 : Nat → Int32) (bl0_c : Nat) (bl1_c : Nat) (bl2_c : Nat) (bl3_c : Nat) (la1_c : Nat → Int32) (lb1_c : Nat → Int32) (lc1_c : Nat → Int32) (ld1_c : Nat → Int32) (H : Heap) (locs : List Loc) (ls : Array Slot), ft - q < n9 → (q ≤ ft) → (rnP ft st tn kd L (ft - q) mn4 cx4 cy4 tr mn3 cx3 cy3) → (nD + tr = nC + t9t) → (allI ft st tn kd mn4 cx4 cy4) → (ln4 = ln + nD) → (cl4 = dlN nD cl ln) → ((∀ j, j < ln → pl (lb j) ∧ pl (lc j)) → ∀ j, j < ln4 → pl (lb1_c j) ∧ pl (lc1_c j)) → (rlM ln ln4 ft (nI (dn + 1)) st tn kd mn cx cy mn4 cx4 cy4 la lb lc ld la1_c lb1_c lc1_c ld1_c) → va_P (dC, dI) classes ((oa (a 16) cI 514 wh) :: (oa (a 17) cI 514 of9) :: (oa (a 18) cI 514 we) :: (oa (a 32) cI 8 S1_c) :: (oa (a 40) cI 6 T1_c) :: (oa (a 29) cI 42 P1_c) :: (oa (a 30) cI 42 Q1_c) :: (oa (a 33) cI 42 ox1_c) :: (oa (a 34) cI 42 oy1_c) :: (oa (a 37) cZ 201 mt1_c) :: (oa (a 38) cZ 201 wi1_c) :: (oa (a 39) cZ 8040 ins1_c) :: (oa (a 43) cZ 40 fl1_c) :: (oa bl0_c cI (64 * cl4) la1_c) :: (oa bl1_c cI (64 * cl4) lb1_c) :: (oa bl2_c cI (64 * cl4) lc1_c) :: (oa bl3_c cI (64 * cl4) ld1_c) :: (om k0 (va_up (va_up (va_up (va_up (va_up a 22 bl0_c) 23 bl1_c) 24 bl2_c) 25 bl3_c) 28 b1) (upd (upd (upd (upd (upd I0 26 (nI ln4)) 31 z9_c) 35 on1_c) 36 ok1_c) 41 (nI (psN (nnF st tn mn) w0 ft))) J0) :: (oa (a 1) cI 201 kd) :: (oa (a 5) cI 201 st) :: (oa (a 7) cI 201 gb) :: (oa (a 10) cI 201 it) :: (oa (a 8) cI 201 pa) :: (oa (a 9) cI 201 pb) :: (oa (a 2) cI 201 rk) :: (oa (a 3) cI 201 wd) :: (oa (a 4) cI 201 tw) :: (oa (a 6) cZ 201 tn) :: (oa (a 11) cI 201 mn4) :: (oa (a 12) cI 8040 cx4) :: (oa (a 13) cI 8040 cy4) :: (oa (a 27) cI 516 (upd sa ((dn - bs) + 1) (nI (psN (nnF st tn mn) w0 ft)))) :: (oa b1 cI (4096 * c1) sh1) :: []) H → va_D A ((oa (a 16) cI 514 wh) :: (oa (a 17) cI 514 of9) :: (oa (a 18) cI 514 we) :: (oa (a 32) cI 8 S1_c) :: (oa (a 40) cI 6 T1_c) :: (oa (a 29) cI 42 P1_c) :: (oa (a 30) cI 42 Q1_c) :: (oa (a 33) cI 42 ox1_c) :: (oa (a 34) cI 42 oy1_c) :: (oa (a 37) cZ 201 mt1_c) :: (oa (a 38) cZ 201 wi1_c) :: (oa (a 39) cZ 8040 ins1_c) :: (oa (a 43) cZ 40 fl1_c) :: (oa bl0_c cI (64 * cl4) la1_c) :: (oa bl1_c cI (64 * cl4) lb1_c) :: (oa bl2_c cI (64 * cl4) lc1_c) :: (oa bl3_c cI (64 * cl4) ld1_c) :: (om k0 (va_up (va_up (va_up (va_up (va_up a 22 bl0_c) 23 bl1_c) 24 bl2_c) 25 bl3_c) 28 b1) (upd (upd (upd (upd (upd I0 26 (nI ln4)) 31 z9_c) 35 on1_c) 36 ok1_c) 41 (nI (psN (nnF st tn mn) w0 ft))) J0) :: (oa (a 1) cI 201 kd) :: (oa (a 5) cI 201 st) :: (oa (a 7) cI 201 gb) :: (oa (a 10) cI 201 it) :: (oa (a 8) cI 201 pa) :: (oa (a 9) cI 201 pb) :: (oa (a 2) cI 201 rk) :: (oa (a 3) cI 201 wd) :: (oa (a 4) cI 201 tw) :: (oa (a 6) cZ 201 tn) :: (oa (a 11) cI 201 mn4) :: (oa (a 12) cI 8040 cx4) :: (oa (a 13) cI 8040 cy4) :: (oa (a 27) cI 516 (upd sa ((dn - bs) + 1) (nI (psN (nnF st tn mn) w0 ft)))) :: (oa b1 cI (4096 * c1) sh1) :: []) → va_S A s.heap H locs → lv_has ls 9 [(8, .int (nI q)), (7, .int (nI nC)), (6, .int x6), (5, .int (nI ln)), (4, .int (nI nD)), (0, .ref k0), (1, .int 10), (2, .int (-1)), (3, .int (nI L))] → W p l e ({ frames := 9, cells := (c1 - cp) + 4 * (dlN TT cl ln - cl), slots := 8192 * (c1 - cp) + 512 * (dlN TT cl ln - cl), locals := 233 } : Room) s m ([.ref k0, .int 10, .int (-1), .int (nI L)] : List Value).toArray below meth c H locs ((c1 - cp) + 4 * (cl4 - cl)) (8192 * (c1 - cp) + 512 * (cl4 - cl)) Q9 (F0 m 50 ls []) := by
            intro n9
            induction n9 with
            | zero => intro q nD tr ln4 cl4 z9_c on1_c ok1_c S1_c T1_c P1_c Q1_c ox1_c oy1_c mt1_c wi1_c ins1_c fl1_c mn4 cx4 cy4 bl0_c bl1_c bl2_c bl3_c la1_c lb1_c lc1_c ld1_c H locs ls hm; exact absurd hm (Nat.not_lt_zero _)
            | succ n9 ih_50 =>
              intro q nD tr ln4 cl4 z9_c on1_c ok1_c S1_c T1_c P1_c Q1_c ox1_c oy1_c mt1_c wi1_c ins1_c fl1_c mn4 cx4 cy4 bl0_c bl1_c bl2_c bl3_c la1_c lb1_c lc1_c ld1_c H locs ls hm hq hrp hnt hall4 hln4 hcl4 hlp4 hrl4 hP hD hS hl
              have hge4 := dlN_le nD cl ln
              have hfit4 := dlN_fit nD cl ln hlc hcl1
              have hmo50 := dlN_mono (show nD ≤ TT by omega) cl ln
              refine lv_iload hx hb dX11_tell_50 (lv_at hl 0 rfl) ?_
              refine lv_aload_n hx hb dX11_tell_52 rfl (lv_at hl 5 rfl) ?_
              refine va_get (D := (dC, dI)) (ci := 9) (v := .int (I0 0)) (C := RX11) (T := TX11) (N := 55) hx hb hts inX11 hown hK hP 17 rfl rfl 0 (Nat.le_of_ble_eq_true rfl) (hts _ mw_1159) (fun _ h9 => h9) rfl dX11_tell_53 ?_
              refine zz_i (v := nI ft) (hft) ?_
              have b9_6 : zlt (q) := show q < 2147483648 by omega
              have b9_7 : zlt (ft) := show ft < 2147483648 by omega
              refine lv_icmp_ge (tgt := 105) hx hb dX11_tell_56 rfl (fun c_5 => ?_) (fun c_5 => ?_)
              · have c_5 : ((ft : Nat) : Int) ≤ ((q : Nat) : Int) := zc_le (nI_toInt b9_7) (nI_toInt b9_6) c_5
                have hz50 := rnP_z (show ft - q = 0 by omega) hrp
                refine lv_iload hx hb dX11_tell_105 (lv_at hl 4 rfl) ?_
                refine lv_iload hx hb dX11_tell_107 (lv_at hl 1 rfl) ?_
                have b9_9 : zlt (nD) := show nD < 2147483648 by omega
                have b9_10 : zlt (nC) := show nC < 2147483648 by omega
                refine lv_icmp_le (tgt := 116) hx hb dX11_tell_109 rfl (fun c_8 => ?_) (fun c_8 => ?_)
                · have c_8 : ((nD : Nat) : Int) ≤ ((nC : Nat) : Int) := zc_le (nI_toInt b9_9) (nI_toInt b9_10) c_8
                  refine lv_iconst (v := 0) hx hb dX11_tell_116 rfl ?_
                  refine lv_istore (lv' := [(6, .int 0), (8, .int (nI q)), (7, .int (nI nC)), (5, .int (nI ln)), (4, .int (nI nD)), (0, .ref k0), (1, .int 10), (2, .int (-1)), (3, .int (nI L))]) hx hb dX11_tell_117 hl (Nat.le_of_ble_eq_true rfl) rfl (fun ls hl => ?_)
                  refine lv_goto (tgt := 38) hx hb dX11_tell_119 rfl ?_
                  refine W.widen (k := (c1 - cp) + 4 * (cl4 - cl)) (n := 8192 * (c1 - cp) + 512 * (cl4 - cl)) (by omega) (by omega) ?_
                  exact ih_38 nD 0 0 ln4 cl4 z9_c on1_c ok1_c S1_c T1_c P1_c Q1_c ox1_c oy1_c mt1_c wi1_c ins1_c fl1_c mn4 cx4 cy4 bl0_c bl1_c bl2_c bl3_c la1_c lb1_c lc1_c ld1_c H locs ls (by first | with_reducible assumption | omega) (by rw [← hz50.2.1, ← hz50.2.2.1, ← hz50.2.2.2]; first | (rw [show nD = nC + t9t by omega]; exact hM1 (by first | with_reducible assumption | omega)) | (rw [show nD = nC by omega]; exact hM0 (by first | with_reducible assumption | omega))) (hall4) (by first | with_reducible assumption | omega) (hcl4) (hlp4) (hrl4) hP hD hS (lv_sub hl [0, 3, 4, 5, 6, 7, 8] rfl)
                · have c_8 : ((nC : Nat) : Int) < ((nD : Nat) : Int) := zc_nle (nI_toInt b9_9) (nI_toInt b9_10) c_8
                  refine lv_iconst (v := 1) hx hb dX11_tell_112 rfl ?_
                  refine lv_goto (tgt := 117) hx hb dX11_tell_113 rfl ?_
                  refine lv_istore (lv' := [(6, .int 1), (8, .int (nI q)), (7, .int (nI nC)), (5, .int (nI ln)), (4, .int (nI nD)), (0, .ref k0), (1, .int 10), (2, .int (-1)), (3, .int (nI L))]) hx hb dX11_tell_117 hl (Nat.le_of_ble_eq_true rfl) rfl (fun ls hl => ?_)
                  refine lv_goto (tgt := 38) hx hb dX11_tell_119 rfl ?_
                  refine W.widen (k := (c1 - cp) + 4 * (cl4 - cl)) (n := 8192 * (c1 - cp) + 512 * (cl4 - cl)) (by omega) (by omega) ?_
                  exact ih_38 nD p9 1 ln4 cl4 z9_c on1_c ok1_c S1_c T1_c P1_c Q1_c ox1_c oy1_c mt1_c wi1_c ins1_c fl1_c mn4 cx4 cy4 bl0_c bl1_c bl2_c bl3_c la1_c lb1_c lc1_c ld1_c H locs ls (by first | with_reducible assumption | omega) (by rw [← hz50.2.1, ← hz50.2.2.1, ← hz50.2.2.2]; first | (rw [show nD = nC + t9t by omega]; exact hM1 (by first | with_reducible assumption | omega)) | (rw [show nD = nC by omega]; exact hM0 (by first | with_reducible assumption | omega))) (hall4) (by first | with_reducible assumption | omega) (hcl4) (hlp4) (hrl4) hP hD hS (lv_sub hl [0, 3, 4, 5, 6, 7, 8] rfl)
              · have c_5 : ((q : Nat) : Int) < ((ft : Nat) : Int) := zc_nle (nI_toInt b9_7) (nI_toInt b9_6) c_5
                obtain ⟨m5, mn5, cx5, cy5, t5, hr1, hr2, htr⟩ := rnP_s (by omega) hrp
                refine lv_iload hx hb dX11_tell_59 (lv_at hl 4 rfl) ?_
                refine lv_aload_n hx hb dX11_tell_61 rfl (lv_at hl 5 rfl) ?_
                refine lv_iload hx hb dX11_tell_62 (lv_at hl 0 rfl) ?_
                obtain ⟨hPc, hDc, hFc, hI1⟩ := zi_sub (wc := [_, _, _]) hP hD hS hA [17, 19, 27] rfl rfl
                refine zcall (st1 := [.int (pI (q < ft ∧ (st q).toInt = 1 ∧ (tn q).toInt = 0)), .int (nI nD)]) (va_runV (As := [.int (nI q)]) (rest := [.int (nI nD)]) ⟨hx, hb, hml, hown, hts⟩ (k_M_is_n l dC dI cI cZ cF H.size k0 (va_up (va_up (va_up (va_up (va_up a 22 bl0_c) 23 bl1_c) 24 bl2_c) 25 bl3_c) 28 b1) (upd (upd (upd (upd (upd I0 26 (nI ln4)) 31 z9_c) 35 on1_c) 36 ok1_c) 41 (nI (psN (nnF st tn mn) w0 ft))) J0 q ft st tn (by first | with_reducible assumption | assumption) (by first | with_reducible assumption | omega) (by first | with_reducible assumption | omega)) (csV_179 hts rfl rfl ⟨Nat.le_of_ble_eq_true rfl, Nat.le_of_ble_eq_true rfl⟩) (zPV2 (q0 := 0) (ci := 9) hPc hDc hK hXN rfl rfl) rfl rfl hl.1 rfl (lv_room (Nat.le_of_ble_eq_true rfl)) dX11_tell_64 ⟨show (c1 - cp) + 4 * (cl4 - cl) ≤ (c1 - cp) + 4 * (dlN TT cl ln - cl) by omega, show 8192 * (c1 - cp) + 512 * (cl4 - cl) ≤ 8192 * (c1 - cp) + 512 * (dlN TT cl ln - cl) by omega⟩) hS hFc hFc rfl (fun t H locs ht hB hk1 hS => ?_)
                obtain ⟨hP1, hD1⟩ := hB
                rw [ht] at hP1
                replace hP := z0 hP hD hk1 hP1 hI1
                clear hk1 hPc hDc hFc hP1 hD1 ht hI1
                refine lv_if_eq (tgt := 95) hx hb dX11_tell_67 rfl (fun c_11 => ?_) (fun c_11 => ?_)
                · have c_11 : ¬ (q < ft ∧ (st q).toInt = 1 ∧ (tn q).toInt = 0) := zp_0 c_11
                  have hz5 := hr1.2 (by first | exact fun h => absurd h.1 (by first | with_reducible assumption | assumption) | exact fun h => absurd h.2 (by first | with_reducible assumption | assumption))
                  refine lv_iconst (v := 0) hx hb dX11_tell_95 rfl ?_
                  refine lv_iadd hx hb dX11_tell_96 ?_
                  refine zz_i (v := nI (nD + 0)) (nI_add nD 0) ?_
                  refine lv_istore (lv' := [(4, .int (nI (nD + 0))), (8, .int (nI q)), (7, .int (nI nC)), (6, .int x6), (5, .int (nI ln)), (0, .ref k0), (1, .int 10), (2, .int (-1)), (3, .int (nI L))]) hx hb dX11_tell_97 hl (Nat.le_of_ble_eq_true rfl) rfl (fun ls hl => ?_)
                  refine lv_iinc (v := nI (q + 1)) (lv' := [(8, .int (nI (q + 1))), (4, .int (nI (nD + 0))), (7, .int (nI nC)), (6, .int x6), (5, .int (nI ln)), (0, .ref k0), (1, .int 10), (2, .int (-1)), (3, .int (nI L))]) hx hb dX11_tell_99 hl (k := 1) rfl (nI_add q 1) (Nat.le_of_ble_eq_true rfl) rfl (fun ls hl => ?_)
                  refine lv_goto (tgt := 50) hx hb dX11_tell_102 rfl ?_
                  refine W.widen (k := (c1 - cp) + 4 * (cl4 - cl)) (n := 8192 * (c1 - cp) + 512 * (cl4 - cl)) (by omega) (by omega) ?_
                  exact ih_50 (q + 1) (nD + 0) t5 ln4 cl4 z9_c on1_c ok1_c S1_c T1_c P1_c Q1_c ox1_c oy1_c mt1_c wi1_c ins1_c fl1_c mn4 cx4 cy4 bl0_c bl1_c bl2_c bl3_c la1_c lb1_c lc1_c ld1_c H locs ls (by first | with_reducible assumption | omega) (by first | with_reducible assumption | omega) (by first | exact hr2 | (rw [hz5.2.1, hz5.2.2.1, hz5.2.2.2] at hr2; exact hr2)) (by first | with_reducible assumption | omega) (by first | exact hall4 | exact (allI_s hall4 (by first | with_reducible assumption | assumption) hpl).1) (by first | with_reducible assumption | omega) (by first | (rw [hcl4]; done) | exact hcl4 | (rw [hcl4, hln4, ← dlN_add])) (by first | exact hlp4 | exact fun h => hlp5 (hlp4 h)) (by first | exact hrl4 | exact rlM_s hrl4 ⟨hlv, by assumption⟩ hls5 (by rw [hpe5.1.1]; exact nN_nI (by have := hpe5.1.2.1; omega)) hpe5.2.2.1 (fun p hp k hk => hpe5.2.2.2.1 (40 * p + k) (by first | with_reducible assumption | omega)) (fun p hp => (hall4 p hp).1.2.1.2) (by first | with_reducible assumption | omega)) hP hD hS (lv_sub hl [0, 2, 3, 4, 1, 5, 6, 7, 8] rfl)
                · have c_11 : q < ft ∧ (st q).toInt = 1 ∧ (tn q).toInt = 0 := zp_1 c_11
                  refine lv_aload_n hx hb dX11_tell_70 rfl (lv_at hl 5 rfl) ?_
                  refine lv_iload hx hb dX11_tell_71 (lv_at hl 0 rfl) ?_
                  obtain ⟨hPc, hDc, hFc, hI1⟩ := zi_sub (wc := [_, _]) hP hD hS hA [17, 18] rfl rfl
                  refine zcall (st1 := [.int (pI (¬ (kd q).toInt = 0 ∧ ¬ (kd q).toInt = 6)), .int (nI nD)]) (va_runV (As := [.int (nI q)]) (rest := [.int (nI nD)]) ⟨hx, hb, hml, hown, hts⟩ (k_M_isPlainable l dC dI cI cZ cF H.size k0 (va_up (va_up (va_up (va_up (va_up a 22 bl0_c) 23 bl1_c) 24 bl2_c) 25 bl3_c) 28 b1) (upd (upd (upd (upd (upd I0 26 (nI ln4)) 31 z9_c) 35 on1_c) 36 ok1_c) 41 (nI (psN (nnF st tn mn) w0 ft))) J0 q kd (by first | with_reducible assumption | omega)) (csV_210 hts rfl rfl ⟨Nat.le_of_ble_eq_true rfl, Nat.le_of_ble_eq_true rfl⟩) (zPV2 (q0 := 0) (ci := 9) hPc hDc hK hXN rfl rfl) rfl rfl hl.1 rfl (lv_room (Nat.le_of_ble_eq_true rfl)) dX11_tell_73 ⟨show (c1 - cp) + 4 * (cl4 - cl) ≤ (c1 - cp) + 4 * (dlN TT cl ln - cl) by omega, show 8192 * (c1 - cp) + 512 * (cl4 - cl) ≤ 8192 * (c1 - cp) + 512 * (dlN TT cl ln - cl) by omega⟩) hS hFc hFc rfl (fun t H locs ht hB hk1 hS => ?_)
                  obtain ⟨hP1, hD1⟩ := hB
                  rw [ht] at hP1
                  replace hP := z0 hP hD hk1 hP1 hI1
                  clear hk1 hPc hDc hFc hP1 hD1 ht hI1
                  refine lv_if_eq (tgt := 95) hx hb dX11_tell_76 rfl (fun c_12 => ?_) (fun c_12 => ?_)
                  · have c_12 : ¬ (¬ (kd q).toInt = 0 ∧ ¬ (kd q).toInt = 6) := zp_0 c_12
                    have hz5 := hr1.2 (by first | exact fun h => absurd h.1 (by first | with_reducible assumption | assumption) | exact fun h => absurd h.2 (by first | with_reducible assumption | assumption))
                    refine lv_iconst (v := 0) hx hb dX11_tell_95 rfl ?_
                    refine lv_iadd hx hb dX11_tell_96 ?_
                    refine zz_i (v := nI (nD + 0)) (nI_add nD 0) ?_
                    refine lv_istore (lv' := [(4, .int (nI (nD + 0))), (8, .int (nI q)), (7, .int (nI nC)), (6, .int x6), (5, .int (nI ln)), (0, .ref k0), (1, .int 10), (2, .int (-1)), (3, .int (nI L))]) hx hb dX11_tell_97 hl (Nat.le_of_ble_eq_true rfl) rfl (fun ls hl => ?_)
                    refine lv_iinc (v := nI (q + 1)) (lv' := [(8, .int (nI (q + 1))), (4, .int (nI (nD + 0))), (7, .int (nI nC)), (6, .int x6), (5, .int (nI ln)), (0, .ref k0), (1, .int 10), (2, .int (-1)), (3, .int (nI L))]) hx hb dX11_tell_99 hl (k := 1) rfl (nI_add q 1) (Nat.le_of_ble_eq_true rfl) rfl (fun ls hl => ?_)
                    refine lv_goto (tgt := 50) hx hb dX11_tell_102 rfl ?_
                    refine W.widen (k := (c1 - cp) + 4 * (cl4 - cl)) (n := 8192 * (c1 - cp) + 512 * (cl4 - cl)) (by omega) (by omega) ?_
                    exact ih_50 (q + 1) (nD + 0) t5 ln4 cl4 z9_c on1_c ok1_c S1_c T1_c P1_c Q1_c ox1_c oy1_c mt1_c wi1_c ins1_c fl1_c mn4 cx4 cy4 bl0_c bl1_c bl2_c bl3_c la1_c lb1_c lc1_c ld1_c H locs ls (by first | with_reducible assumption | omega) (by first | with_reducible assumption | omega) (by first | exact hr2 | (rw [hz5.2.1, hz5.2.2.1, hz5.2.2.2] at hr2; exact hr2)) (by first | with_reducible assumption | omega) (by first | exact hall4 | exact (allI_s hall4 (by first | with_reducible assumption | assumption) hpl).1) (by first | with_reducible assumption | omega) (by first | (rw [hcl4]; done) | exact hcl4 | (rw [hcl4, hln4, ← dlN_add])) (by first | exact hlp4 | exact fun h => hlp5 (hlp4 h)) (by first | exact hrl4 | exact rlM_s hrl4 ⟨hlv, by assumption⟩ hls5 (by rw [hpe5.1.1]; exact nN_nI (by have := hpe5.1.2.1; omega)) hpe5.2.2.1 (fun p hp k hk => hpe5.2.2.2.1 (40 * p + k) (by first | with_reducible assumption | omega)) (fun p hp => (hall4 p hp).1.2.1.2) (by first | with_reducible assumption | omega)) hP hD hS (lv_sub hl [0, 2, 3, 4, 1, 5, 6, 7, 8] rfl)
                  · have c_12 : ¬ (kd q).toInt = 0 ∧ ¬ (kd q).toInt = 6 := zp_1 c_12
                    have hlv : lvF ft st tn q := (by first | with_reducible assumption | assumption)
                    obtain ⟨n5, hpl⟩ := hr1.1 ⟨hlv, by assumption⟩
                    have hm40 := (allI_s hall4 hlv hpl).2
                    have hmo5 := dlN_mono (show nD + m5 ≤ TT by omega) cl ln
                    have had5 : dlN (nD + m5) cl ln = dlN m5 cl4 ln4 := (by rw [dlN_add, hcl4, hln4])
                    have hle5 := dlN_le m5 cl4 ln4
                    have hpe5 := plN_end _ _ _ _ _ _ _ _ _ (allI_p hall4 hlv) hpl
                    refine lv_aload_n hx hb dX11_tell_79 rfl (lv_at hl 5 rfl) ?_
                    refine lv_iload hx hb dX11_tell_80 (lv_at hl 0 rfl) ?_
                    refine lv_iload_n hx hb dX11_tell_82 rfl (lv_at hl 8 rfl) ?_
                    refine lv_aload_n hx hb dX11_tell_83 rfl (lv_at hl 5 rfl) ?_
                    refine va_get (D := (dC, dI)) (ci := 9) (v := .int (I0 19)) (C := RX11) (T := TX11) (N := 55) hx hb hts inX11 hown hK hP 17 rfl rfl 19 (Nat.le_of_ble_eq_true rfl) (hts _ mw_1178) (fun _ h9 => h9) rfl dX11_tell_84 ?_
                    refine zz_i (v := nI dn) (hdn) ?_
                    refine lv_iconst (v := 1) hx hb dX11_tell_87 rfl ?_
                    refine lv_iadd hx hb dX11_tell_88 ?_
                    refine zz_i (v := nI (dn + 1)) (nI_add dn 1) ?_
                    obtain ⟨hPc, hDc, hFc⟩ := zo_sub (wc := [_, _, _, _, _, _, _, _, _, _, _, _, _, _, _, _, _, _, _, _, _]) hP hD hS hA [17, 19, 27, 18, 28, 29, 30, 3, 4, 5, 6, 7, 8, 9, 10, 11, 12, 13, 14, 15, 16] (by decide +kernel) rfl
                    refine zcall (st1 := [.int (nI m5), .int (nI nD)]) (va_runV (As := [.int (nI q), .int (nI L), .int (nI (dn + 1))]) (rest := [.int (nI nD)]) ⟨hx, hb, hml, hown, hts⟩ (k_M_plainAll l dC dI cI cZ cF H.size k0 (va_up (va_up (va_up (va_up (va_up a 22 bl0_c) 23 bl1_c) 24 bl2_c) 25 bl3_c) 28 b1) (upd (upd (upd (upd (upd I0 26 (nI ln4)) 31 z9_c) 35 on1_c) 36 ok1_c) 41 (nI (psN (nnF st tn mn) w0 ft))) J0 q (nN (mn4 q)) L ft ln4 cl4 m5 n5 (nI (dn + 1)) st tn kd mn4 cx4 cy4 S1_c T1_c P1_c Q1_c ox1_c oy1_c mt1_c wi1_c ins1_c fl1_c la1_c lb1_c lc1_c ld1_c mn5 cx5 cy5 (hft) (by first | with_reducible assumption | omega) (by first | with_reducible assumption | omega) (by first | with_reducible assumption | omega) (allI_p hall4 hlv) (hpl) (by first | with_reducible assumption | omega) (by first | with_reducible assumption | omega) (by first | with_reducible assumption | omega) (by first | with_reducible assumption | omega) ((hrl4.2.2.2.2 q ⟨hlv, by assumption⟩).1)) (csV_214 hts rfl rfl ⟨Nat.le_of_ble_eq_true rfl, Nat.le_of_ble_eq_true rfl⟩) (zPV2 (q0 := 0) (ci := 9) hPc hDc hK hXN rfl rfl) rfl rfl hl.1 rfl (lv_room (Nat.le_of_ble_eq_true rfl)) dX11_tell_89 ⟨show ((c1 - cp) + 4 * (cl4 - cl) + (4 * (dlN m5 cl4 ln4 - cl4))) ≤ (c1 - cp) + 4 * (dlN TT cl ln - cl) by omega, show (8192 * (c1 - cp) + 512 * (cl4 - cl) + (512 * (dlN m5 cl4 ln4 - cl4))) ≤ 8192 * (c1 - cp) + 512 * (dlN TT cl ln - cl) by omega⟩) hS hFc hFc rfl (fun t H locs ht hB hk1 hS => ?_)
                    refine ex21 hB (fun z9d on1d ok1d S1d T1d P1d Q1d ox1d oy1d mt1d wi1d ins1d fl1d bl0d bl1d bl2d bl3d la1d lb1d lc1d ld1d hB0 => ?_)
                    clear hB
                    obtain ⟨hlp5, hls5, hP1, hD1⟩ := hB0
                    rw [ht] at hP1
                    obtain ⟨hP, hD⟩ := zn (W2 := (_ :: _ :: _ :: _ :: _ :: _ :: _ :: _ :: _ :: _ :: _ :: _ :: (om k0 (va_up (va_up (va_up (va_up (va_up a 22 bl0d) 23 bl1d) 24 bl2d) 25 bl3d) 28 b1) (upd (upd (upd (upd (upd I0 26 (nI (ln4 + m5))) 31 z9d) 35 on1d) 36 ok1d) 41 (nI (psN (nnF st tn mn) w0 ft))) J0) :: (oa (a 5) cI 201 st) :: (oa (a 6) cZ 201 tn) :: (oa (a 1) cI 201 kd) :: (oa (a 11) cI 201 mn5) :: (oa (a 12) cI 8040 cx5) :: (oa (a 13) cI 8040 cy5) :: (oa (a 32) cI 8 S1d) :: (oa (a 40) cI 6 T1d) :: (oa (a 29) cI 42 P1d) :: (oa (a 30) cI 42 Q1d) :: (oa (a 33) cI 42 ox1d) :: (oa (a 34) cI 42 oy1d) :: (oa (a 37) cZ 201 mt1d) :: (oa (a 38) cZ 201 wi1d) :: (oa (a 39) cZ 8040 ins1d) :: (oa (a 43) cZ 40 fl1d) :: (oa bl0d cI (64 * (dlN m5 cl4 ln4)) la1d) :: (oa bl1d cI (64 * (dlN m5 cl4 ln4)) lb1d) :: (oa bl2d cI (64 * (dlN m5 cl4 ln4)) lc1d) :: (oa bl3d cI (64 * (dlN m5 cl4 ln4)) ld1d) :: [])) hP hD hk1 hFc hP1 hD1 zl_217 zl_218 zl_219 zl_220 (by decide +kernel) rfl rfl rfl rfl rfl
                    clear hk1 hPc hDc hFc hP1 hD1 ht
                    refine lv_goto (tgt := 96) hx hb dX11_tell_92 rfl ?_
                    refine lv_iadd hx hb dX11_tell_96 ?_
                    refine zz_i (v := nI (nD + m5)) (nI_add nD m5) ?_
                    refine lv_istore (lv' := [(4, .int (nI (nD + m5))), (8, .int (nI q)), (7, .int (nI nC)), (6, .int x6), (5, .int (nI ln)), (0, .ref k0), (1, .int 10), (2, .int (-1)), (3, .int (nI L))]) hx hb dX11_tell_97 hl (Nat.le_of_ble_eq_true rfl) rfl (fun ls hl => ?_)
                    refine lv_iinc (v := nI (q + 1)) (lv' := [(8, .int (nI (q + 1))), (4, .int (nI (nD + m5))), (7, .int (nI nC)), (6, .int x6), (5, .int (nI ln)), (0, .ref k0), (1, .int 10), (2, .int (-1)), (3, .int (nI L))]) hx hb dX11_tell_99 hl (k := 1) rfl (nI_add q 1) (Nat.le_of_ble_eq_true rfl) rfl (fun ls hl => ?_)
                    refine lv_goto (tgt := 50) hx hb dX11_tell_102 rfl ?_
                    obtain ⟨hP, hD⟩ := zq_sub (wc := (_ :: _ :: _ :: _ :: _ :: _ :: _ :: _ :: _ :: _ :: _ :: _ :: _ :: _ :: _ :: _ :: _ :: _ :: _ :: _ :: _ :: _ :: _ :: _ :: _ :: _ :: _ :: _ :: _ :: _ :: _ :: _ :: _ :: [])) hP hD (0 :: 1 :: 2 :: 19 :: 20 :: 21 :: 22 :: 23 :: 24 :: 25 :: 26 :: 27 :: 28 :: 29 :: 30 :: 31 :: 32 :: 12 :: 15 :: 13 :: 3 :: 4 :: 5 :: 6 :: 7 :: 8 :: 9 :: 14 :: 16 :: 17 :: 18 :: 10 :: 11 :: []) rfl rfl
                    refine W.widen (k := (c1 - cp) + 4 * ((dlN m5 cl4 ln4) - cl)) (n := 8192 * (c1 - cp) + 512 * ((dlN m5 cl4 ln4) - cl)) (by omega) (by omega) ?_
                    exact ih_50 (q + 1) (nD + m5) t5 (ln4 + m5) (dlN m5 cl4 ln4) z9d on1d ok1d S1d T1d P1d Q1d ox1d oy1d mt1d wi1d ins1d fl1d mn5 cx5 cy5 bl0d bl1d bl2d bl3d la1d lb1d lc1d ld1d H locs ls (by first | with_reducible assumption | omega) (by first | with_reducible assumption | omega) (by first | exact hr2 | (rw [hz5.2.1, hz5.2.2.1, hz5.2.2.2] at hr2; exact hr2)) (by first | with_reducible assumption | omega) (by first | exact hall4 | exact (allI_s hall4 (by first | with_reducible assumption | assumption) hpl).1) (by first | with_reducible assumption | omega) (by first | (rw [hcl4]; done) | exact hcl4 | (rw [hcl4, hln4, ← dlN_add])) (by first | exact hlp4 | exact fun h => hlp5 (hlp4 h)) (by first | exact hrl4 | exact rlM_s hrl4 ⟨hlv, by assumption⟩ hls5 (by rw [hpe5.1.1]; exact nN_nI (by have := hpe5.1.2.1; omega)) hpe5.2.2.1 (fun p hp k hk => hpe5.2.2.2.1 (40 * p + k) (by first | with_reducible assumption | omega)) (fun p hp => (hall4 p hp).1.2.1.2) (by first | with_reducible assumption | omega)) hP hD hS (lv_sub hl [0, 2, 3, 4, 1, 5, 6, 7, 8] rfl)
          refine W.widen (k := (c1 - cp) + 4 * (cl2 - cl)) (n := 8192 * (c1 - cp) + 512 * (cl2 - cl)) (by omega) (by omega) ?_
          exact hl_50 _ 0 nC t9t ln2 cl2 z9_b on1_b ok1_b S1_b T1_b P1_b Q1_b ox1_b oy1_b mt1_b wi1_b ins1_b fl1_b mn2 cx2 cy2 bl0_b bl1_b bl2_b bl3_b la1_b lb1_b lc1_b ld1_b H locs ls (Nat.lt_succ_self _) (by first | with_reducible assumption | omega) (hP3) (by first | with_reducible assumption | omega) (hall2) (by first | with_reducible assumption | omega) (hcl2) (hlp2) (hrl2) hP hD hS (lv_sub hl [0, 1, 2, 3, 4, 5, 6, 7, 8] rfl)
    refine W.widen (k := (c1 - cp) + 4 * (cl - cl)) (n := 8192 * (c1 - cp) + 512 * (cl - cl)) (by omega) (by omega) ?_
    exact hl_38 _ 0 P9 1 ln cl (I0 31) (I0 35) (I0 36) S0 T0 P0 Q0 ox oy mt wi ins fl mn cx cy (a 22) (a 23) (a 24) (a 25) la lb lc ld H locs ls (Nat.lt_succ_self _) (Or.inl ⟨rfl, TT, hrun, by omega⟩) (hall) (by first | with_reducible assumption | omega) (rfl) (fun h => h) (rlM_0 hds) hP hD hS (lv_sub hl [0, 1, 2, 3, 4, 5, 6] rfl)
  · exact absurd c_1 (by decide)
set_option maxHeartbeats 4000000 in
set_option maxRecDepth 100000 in
theorem k_M_tell_ry (l : Launch) (dC : Nat → ClassId) (dI : Nat → Nat → Nat) (cI cZ cF : ClassId) (sz : Nat) (k0 : Nat) (a : Nat → Nat) (I0 : Nat → Int32) (J0 : Nat → Int64) (L : Nat) (ft : Nat) (TT : Nat) (P9 : Nat) (dn : Nat) (bs : Nat) (w0 : Nat) (cp : Nat) (c1 : Nat) (kd : Nat → Int32) (st : Nat → Int32) (gb : Nat → Int32) (it : Nat → Int32) (pa : Nat → Int32) (pb : Nat → Int32) (rk : Nat → Int32) (wd : Nat → Int32) (tw : Nat → Int32) (tn : Nat → Int32) (mn : Nat → Int32) (cx : Nat → Int32) (cy : Nat → Int32) (sa : Nat → Int32) (sh : Nat → Int32) (wh : Nat → Int32) (of9 : Nat → Int32) (we : Nat → Int32) (S0 : Nat → Int32) (T0 : Nat → Int32) (P0 : Nat → Int32) (Q0 : Nat → Int32) (ox : Nat → Int32) (oy : Nat → Int32) (mt : Nat → Int32) (wi : Nat → Int32) (ins : Nat → Int32) (fl : Nat → Int32) (la : Nat → Int32) (lb : Nat → Int32) (lc : Nat → Int32) (ld : Nat → Int32) (mn1 : Nat → Int32) (cx1 : Nat → Int32) (cy1 : Nat → Int32) (c2 : Nat) (ln : Nat) (cl : Nat) (hft : I0 0 = nI ft) (h200 : ft ≤ 200) (hL : L ≤ 2147483647) (hall : allI ft st tn kd mn cx cy) (hds : ∀ q, bnQ ft st tn kd q → dsR (nN (mn q)) (cF40 cx q) (cF40 cy q)) (hrun : rnA ft st tn kd L P9 mn cx cy TT mn1 cx1 cy1) (hTT : TT ≤ 10000) (hclm : dlN TT cl ln ≤ 100000) (hlc : ln ≤ 64 * cl) (hcl1 : 1 ≤ cl) (hdn : I0 19 = nI dn) (hbs : I0 21 = nI bs) (hbd : bs ≤ dn) (hd512 : dn ≤ 512) (hi5_1 : (dn - bs) < 515) (hsa_1 : sa (dn - bs) = nI w0) (hmn_1 : ∀ v9, v9 < ft → (tn v9).toInt = 0 → ¬ (st v9).toInt = 0 → mn v9 = nI (nN (mn v9)) ∧ nN (mn v9) ≤ 40) (hc1_1 : 1 ≤ cp) (hpw_1 : pw cp c1) (hw0_1 : w0 ≤ 4096 * cp) (hfit_1 : psN (nnF st tn mn) w0 ft ≤ 4096 * c1) (hmin_1 : c1 = cp ∨ 2048 * c1 < psN (nnF st tn mn) w0 ft) (hcE_1 : c1 ≤ 512) (hmn_2 : ∀ v9, v9 < ft → (tn v9).toInt = 0 → ¬ (st v9).toInt = 0 → mn1 v9 = nI (nN (mn1 v9)) ∧ nN (mn1 v9) ≤ 40) (hpw_2 : pw c1 c2) (hfit_2 : psN (nnF st tn mn1) (psN (nnF st tn mn) w0 ft) ft ≤ 4096 * c2) (hmin_2 : c2 = c1 ∨ 2048 * c2 < psN (nnF st tn mn1) (psN (nnF st tn mn) w0 ft) ft) (hcE_2 : c2 ≤ 512) (hz : 0 < TT) : zM l yX11_tell cX11_tell 9 (some .int) ({ frames := 9, cells := (c2 - cp) + 4 * (dlN TT cl ln - cl), slots := 8192 * (c2 - cp) + 512 * (dlN TT cl ln - cl), locals := 233 } : Room) [.ref k0, .int 10, .int (-1), .int (nI L)] (dC, dI) (zTy cI cZ cF) ((om k0 a (upd I0 26 (nI ln)) J0) :: (oa (a 1) cI 201 kd) :: (oa (a 5) cI 201 st) :: (oa (a 7) cI 201 gb) :: (oa (a 10) cI 201 it) :: (oa (a 8) cI 201 pa) :: (oa (a 9) cI 201 pb) :: (oa (a 2) cI 201 rk) :: (oa (a 3) cI 201 wd) :: (oa (a 4) cI 201 tw) :: (oa (a 6) cZ 201 tn) :: (oa (a 11) cI 201 mn) :: (oa (a 12) cI 8040 cx) :: (oa (a 13) cI 8040 cy) :: (oa (a 27) cI 516 sa) :: (oa (a 28) cI (4096 * cp) sh) :: (oa (a 16) cI 514 wh) :: (oa (a 17) cI 514 of9) :: (oa (a 18) cI 514 we) :: (oa (a 32) cI 8 S0) :: (oa (a 40) cI 6 T0) :: (oa (a 29) cI 42 P0) :: (oa (a 30) cI 42 Q0) :: (oa (a 33) cI 42 ox) :: (oa (a 34) cI 42 oy) :: (oa (a 37) cZ 201 mt) :: (oa (a 38) cZ 201 wi) :: (oa (a 39) cZ 8040 ins) :: (oa (a 43) cZ 40 fl) :: (oa (a 22) cI (64 * cl) la) :: (oa (a 23) cI (64 * cl) lb) :: (oa (a 24) cI (64 * cl) lc) :: (oa (a 25) cI (64 * cl) ld) :: []) sz (some (.int (nI TT))) (fun A t => ∃ (z9 : Int32), ∃ (on1 : Int32), ∃ (ok1 : Int32), ∃ (S1 : Nat → Int32), ∃ (T1 : Nat → Int32), ∃ (P1 : Nat → Int32), ∃ (Q1 : Nat → Int32), ∃ (ox1 : Nat → Int32), ∃ (oy1 : Nat → Int32), ∃ (mt1 : Nat → Int32), ∃ (wi1 : Nat → Int32), ∃ (ins1 : Nat → Int32), ∃ (fl1 : Nat → Int32), ∃ (b2 : Nat), ∃ (sh2 : Nat → Int32), ∃ (t9 : Nat), ∃ (bl0 : Nat), ∃ (bl1 : Nat), ∃ (bl2 : Nat), ∃ (bl3 : Nat), ∃ (la1 : Nat → Int32), ∃ (lb1 : Nat → Int32), ∃ (lc1 : Nat → Int32), ∃ (ld1 : Nat → Int32), (sh2 w0 = nI ft) ∧ (∀ j, j < w0 → sh2 j = sh j) ∧ (∀ g, g < ft → ∀ j, j < 10 + 2 * (nnF st tn mn) g → sh2 (psN (nnF st tn mn) w0 g + j) = (shD kd st gb it pa pb rk wd tw (nnF st tn mn) cx cy) g j) ∧ (sh2 (psN (nnF st tn mn) w0 ft) = nI ft) ∧ (∀ g, g < ft → ∀ j, j < 10 + 2 * (nnF st tn mn1) g → sh2 (psN (nnF st tn mn1) (psN (nnF st tn mn) w0 ft) g + j) = (shD kd st gb it pa pb rk wd tw (nnF st tn mn1) cx1 cy1) g j) ∧ (t9 ≤ ln + TT) ∧ (((∀ j, j < ln → pl (lb j) ∧ pl (lc j)) → ∀ j, j < t9 → pl (lb1 j) ∧ pl (lc1 j)) ∧ lsZ dn ln la lb lc ld t9 la1 lb1 lc1 ld1 (fun q x y => bnQ ft st tn kd q ∧ isR (nN (mn q)) (cF40 cx q) (cF40 cy q) x y ∧ ¬ isR (nN (mn1 q)) (cF40 cx1 q) (cF40 cy1 q) x y)) ∧ zPD (dC, dI) classes A ((om k0 (va_up (va_up (va_up (va_up (va_up a 22 bl0) 23 bl1) 24 bl2) 25 bl3) 28 b2) (upd (upd (upd (upd (upd (upd (upd (upd I0 14 0) 19 (nI (dn + 1))) 20 0) 26 (nI t9)) 31 z9) 35 on1) 36 ok1) 41 (nI (psN (nnF st tn mn1) (psN (nnF st tn mn) w0 ft) ft))) J0) :: (oa (a 1) cI 201 kd) :: (oa (a 5) cI 201 st) :: (oa (a 7) cI 201 gb) :: (oa (a 10) cI 201 it) :: (oa (a 8) cI 201 pa) :: (oa (a 9) cI 201 pb) :: (oa (a 2) cI 201 rk) :: (oa (a 3) cI 201 wd) :: (oa (a 4) cI 201 tw) :: (oa (a 6) cZ 201 tn) :: (oa (a 11) cI 201 mn1) :: (oa (a 12) cI 8040 cx1) :: (oa (a 13) cI 8040 cy1) :: (oa (a 27) cI 516 (upd (upd sa (dn - bs + 1) (nI (psN (nnF st tn mn) w0 ft))) (dn + 1 - bs + 1) (nI (psN (nnF st tn mn1) (psN (nnF st tn mn) w0 ft) ft)))) :: (oa b2 cI (4096 * c2) sh2) :: (oa (a 16) cI 514 (upd wh (dn + 1) (10 : Int32))) :: (oa (a 17) cI 514 (upd of9 (dn + 1) (-1 : Int32))) :: (oa (a 18) cI 514 (upd we (dn + 1) (nI TT))) :: (oa (a 32) cI 8 S1) :: (oa (a 40) cI 6 T1) :: (oa (a 29) cI 42 P1) :: (oa (a 30) cI 42 Q1) :: (oa (a 33) cI 42 ox1) :: (oa (a 34) cI 42 oy1) :: (oa (a 37) cZ 201 mt1) :: (oa (a 38) cZ 201 wi1) :: (oa (a 39) cZ 8040 ins1) :: (oa (a 43) cZ 40 fl1) :: (oa bl0 cI (64 * (dlN TT cl ln)) la1) :: (oa bl1 cI (64 * (dlN TT cl ln)) lb1) :: (oa bl2 cI (64 * (dlN TT cl ln)) lc1) :: (oa bl3 cI (64 * (dlN TT cl ln)) ld1) :: []) t.heap) ((c2 - cp) + 4 * (dlN TT cl ln - cl)) (8192 * (c2 - cp) + 512 * (dlN TT cl ln - cl)) := by
  refine zIn (own := "ScaleShopModel") (loc := [(0, .ref k0), (1, .int 10), (2, .int (-1)), (3, .int (nI L))]) rfl rfl rfl rfl (fun p e s m below meth c hx hb hr hts hown hlocks hml hnm9 A hA hS hP hD hK hXN Q9 hQ9 ls hl => ?_)
  have hq1 := pw_le hpw_1
  have hdl9 := dlN_le TT cl ln
  have hq2 := pw_le hpw_2
  refine lv_aload_n hx hb dX11_tell_0 rfl (lv_at hl 0 rfl) ?_
  obtain ⟨hPc, hDc, hFc⟩ := zo_sub (wc := [_, _, _, _, _, _, _, _, _, _, _, _, _, _, _, _]) hP hD hS hA [0, 1, 2, 3, 4, 5, 6, 7, 8, 9, 10, 11, 12, 13, 14, 15] (by decide +kernel) rfl
  refine zcall (st1 := []) (va_runV (As := []) (rest := []) ⟨hx, hb, hml, hown, hts⟩ (k_M_begins l dC dI cI cZ cF s.heap.size k0 a (upd I0 26 (nI ln)) J0 dn bs ft w0 cp c1 kd st gb it pa pb rk wd tw tn mn cx cy sa sh (hft) (by first | with_reducible assumption | omega) (hdn) (hbs) (by first | with_reducible assumption | omega) (by first | with_reducible assumption | omega) (hi5_1) (hsa_1) (hmn_1) (hc1_1) (hpw_1) (hw0_1) (hfit_1) (hmin_1) (hcE_1)) (csV_205 hts rfl rfl ⟨Nat.le_of_ble_eq_true rfl, Nat.le_of_ble_eq_true rfl⟩) (zPV2 (q0 := 0) (ci := 9) hPc hDc hK hXN rfl rfl) rfl rfl hl.1 rfl (lv_room (Nat.le_of_ble_eq_true rfl)) dX11_tell_1 ⟨show (0 + (c1 - cp)) ≤ (c2 - cp) + 4 * (dlN TT cl ln - cl) by omega, show (0 + (8192 * (c1 - cp))) ≤ 8192 * (c2 - cp) + 512 * (dlN TT cl ln - cl) by omega⟩) hS hFc hFc rfl (fun t H locs ht hB hk1 hS => ?_)
  obtain ⟨b1, sh1, g1, g2, g3, g4, hP1, hD1⟩ := hB
  rw [ht] at hP1
  obtain ⟨hP, hD⟩ := zn (W2 := (_ :: _ :: _ :: _ :: _ :: _ :: _ :: _ :: _ :: _ :: _ :: _ :: _ :: _ :: _ :: _ :: _ :: (om k0 (va_up a 28 b1) (upd (upd I0 26 (nI ln)) 41 (nI (psN (nnF st tn mn) w0 ft))) J0) :: (oa (a 1) cI 201 kd) :: (oa (a 5) cI 201 st) :: (oa (a 7) cI 201 gb) :: (oa (a 10) cI 201 it) :: (oa (a 8) cI 201 pa) :: (oa (a 9) cI 201 pb) :: (oa (a 2) cI 201 rk) :: (oa (a 3) cI 201 wd) :: (oa (a 4) cI 201 tw) :: (oa (a 6) cZ 201 tn) :: (oa (a 11) cI 201 mn) :: (oa (a 12) cI 8040 cx) :: (oa (a 13) cI 8040 cy) :: (oa (a 27) cI 516 (upd sa ((dn - bs) + 1) (nI (psN (nnF st tn mn) w0 ft)))) :: (oa b1 cI (4096 * c1) sh1) :: [])) hP hD hk1 hFc hP1 hD1 zl_80 zl_214 zl_215 zl_216 (by decide +kernel) rfl rfl rfl rfl rfl
  clear hk1 hPc hDc hFc hP1 hD1 ht
  refine lv_iconst (v := 0) hx hb dX11_tell_4 rfl ?_
  refine lv_istore (lv' := [(4, .int 0), (0, .ref k0), (1, .int 10), (2, .int (-1)), (3, .int (nI L))]) hx hb dX11_tell_5 hl (Nat.le_of_ble_eq_true rfl) rfl (fun ls hl => ?_)
  refine lv_aload_n hx hb dX11_tell_7 rfl (lv_at hl 1 rfl) ?_
  refine va_get (D := (dC, dI)) (ci := 9) (v := .int (nI ln)) (C := RX11) (T := TX11) (N := 55) hx hb hts inX11 hown hK hP 17 rfl rfl 26 (Nat.le_of_ble_eq_true rfl) (hts _ mw_1185) (fun _ h9 => h9) rfl dX11_tell_8 ?_
  refine lv_istore (lv' := [(5, .int (nI ln)), (4, .int 0), (0, .ref k0), (1, .int 10), (2, .int (-1)), (3, .int (nI L))]) hx hb dX11_tell_11 hl (Nat.le_of_ble_eq_true rfl) rfl (fun ls hl => ?_)
  refine lv_iload_n hx hb dX11_tell_13 rfl (lv_at hl 3 rfl) ?_
  refine lv_iconst (v := 1) hx hb dX11_tell_14 rfl ?_
  refine lv_icmp_ne (tgt := 35) hx hb dX11_tell_15 rfl (fun c_1 => ?_) (fun c_1 => ?_)
  · refine lv_iconst (v := 1) hx hb dX11_tell_35 rfl ?_
    refine lv_istore (lv' := [(6, .int 1), (5, .int (nI ln)), (4, .int 0), (0, .ref k0), (1, .int 10), (2, .int (-1)), (3, .int (nI L))]) hx hb dX11_tell_36 hl (Nat.le_of_ble_eq_true rfl) rfl (fun ls hl => ?_)
    have hl_38 : ∀ (n9 : Nat) (nC : Nat) (pp : Nat) (x6 : Int32) (ln2 : Nat) (cl2 : Nat) (z9_b : Int32) (on1_b : Int32) (ok1_b : Int32) (S1_b : Nat → Int32) (T1_b : Nat → Int32) (P1_b : Nat → Int32) (Q1_b : Nat → Int32) (ox1_b : Nat → Int32) (oy1_b : Nat → Int32) (mt1_b : Nat → Int32) (wi1_b : Nat → Int32) (ins1_b : Nat → Int32) (fl1_b : Nat → Int32) (mn2 : Nat → Int32) (cx2 : Nat → Int32) (cy2 : Nat → Int32) (bl0_b : Nat) (bl1_b : Nat) (bl2_b : Nat) (bl3_b : Nat) (la1_b : Nat → Int32) (lb1_b : Nat → Int32) (lc1_b : Nat → Int32) (ld1_b : Nat → Int32) (H : Heap) (locs : List Loc) (ls : Array Slot), pp < n9 → (rnM ft st tn kd L TT mn1 cx1 cy1 x6 pp nC mn2 cx2 cy2) → (allI ft st tn kd mn2 cx2 cy2) → (ln2 = ln + nC) → (cl2 = dlN nC cl ln) → ((∀ j, j < ln → pl (lb j) ∧ pl (lc j)) → ∀ j, j < ln2 → pl (lb1_b j) ∧ pl (lc1_b j)) → (rlM ln ln2 ft (nI (dn + 1)) st tn kd mn cx cy mn2 cx2 cy2 la lb lc ld la1_b lb1_b lc1_b ld1_b) → va_P (dC, dI) classes ((oa (a 16) cI 514 wh) :: (oa (a 17) cI 514 of9) :: (oa (a 18) cI 514 we) :: (oa (a 32) cI 8 S1_b) :: (oa (a 40) cI 6 T1_b) :: (oa (a 29) cI 42 P1_b) :: (oa (a 30) cI 42 Q1_b) :: (oa (a 33) cI 42 ox1_b) :: (oa (a 34) cI 42 oy1_b) :: (oa (a 37) cZ 201 mt1_b) :: (oa (a 38) cZ 201 wi1_b) :: (oa (a 39) cZ 8040 ins1_b) :: (oa (a 43) cZ 40 fl1_b) :: (oa bl0_b cI (64 * cl2) la1_b) :: (oa bl1_b cI (64 * cl2) lb1_b) :: (oa bl2_b cI (64 * cl2) lc1_b) :: (oa bl3_b cI (64 * cl2) ld1_b) :: (om k0 (va_up (va_up (va_up (va_up (va_up a 22 bl0_b) 23 bl1_b) 24 bl2_b) 25 bl3_b) 28 b1) (upd (upd (upd (upd (upd I0 26 (nI ln2)) 31 z9_b) 35 on1_b) 36 ok1_b) 41 (nI (psN (nnF st tn mn) w0 ft))) J0) :: (oa (a 1) cI 201 kd) :: (oa (a 5) cI 201 st) :: (oa (a 7) cI 201 gb) :: (oa (a 10) cI 201 it) :: (oa (a 8) cI 201 pa) :: (oa (a 9) cI 201 pb) :: (oa (a 2) cI 201 rk) :: (oa (a 3) cI 201 wd) :: (oa (a 4) cI 201 tw) :: (oa (a 6) cZ 201 tn) :: (oa (a 11) cI 201 mn2) :: (oa (a 12) cI 8040 cx2) :: (oa (a 13) cI 8040 cy2) :: (oa (a 27) cI 516 (upd sa ((dn - bs) + 1) (nI (psN (nnF st tn mn) w0 ft)))) :: (oa b1 cI (4096 * c1) sh1) :: []) H → va_D A ((oa (a 16) cI 514 wh) :: (oa (a 17) cI 514 of9) :: (oa (a 18) cI 514 we) :: (oa (a 32) cI 8 S1_b) :: (oa (a 40) cI 6 T1_b) :: (oa (a 29) cI 42 P1_b) :: (oa (a 30) cI 42 Q1_b) :: (oa (a 33) cI 42 ox1_b) :: (oa (a 34) cI 42 oy1_b) :: (oa (a 37) cZ 201 mt1_b) :: (oa (a 38) cZ 201 wi1_b) :: (oa (a 39) cZ 8040 ins1_b) :: (oa (a 43) cZ 40 fl1_b) :: (oa bl0_b cI (64 * cl2) la1_b) :: (oa bl1_b cI (64 * cl2) lb1_b) :: (oa bl2_b cI (64 * cl2) lc1_b) :: (oa bl3_b cI (64 * cl2) ld1_b) :: (om k0 (va_up (va_up (va_up (va_up (va_up a 22 bl0_b) 23 bl1_b) 24 bl2_b) 25 bl3_b) 28 b1) (upd (upd (upd (upd (upd I0 26 (nI ln2)) 31 z9_b) 35 on1_b) 36 ok1_b) 41 (nI (psN (nnF st tn mn) w0 ft))) J0) :: (oa (a 1) cI 201 kd) :: (oa (a 5) cI 201 st) :: (oa (a 7) cI 201 gb) :: (oa (a 10) cI 201 it) :: (oa (a 8) cI 201 pa) :: (oa (a 9) cI 201 pb) :: (oa (a 2) cI 201 rk) :: (oa (a 3) cI 201 wd) :: (oa (a 4) cI 201 tw) :: (oa (a 6) cZ 201 tn) :: (oa (a 11) cI 201 mn2) :: (oa (a 12) cI 8040 cx2) :: (oa (a 13) cI 8040 cy2) :: (oa (a 27) cI 516 (upd sa ((dn - bs) + 1) (nI (psN (nnF st tn mn) w0 ft)))) :: (oa b1 cI (4096 * c1) sh1) :: []) → va_S A s.heap H locs → lv_has ls 9 [(6, .int x6), (5, .int (nI ln)), (4, .int (nI nC)), (0, .ref k0), (1, .int 10), (2, .int (-1)), (3, .int (nI L))] → W p l e ({ frames := 9, cells := (c2 - cp) + 4 * (dlN TT cl ln - cl), slots := 8192 * (c2 - cp) + 512 * (dlN TT cl ln - cl), locals := 233 } : Room) s m ([.ref k0, .int 10, .int (-1), .int (nI L)] : List Value).toArray below meth c H locs ((c1 - cp) + 4 * (cl2 - cl)) (8192 * (c1 - cp) + 512 * (cl2 - cl)) Q9 (F0 m 38 ls []) := by
      intro n9
      induction n9 with
      | zero => intro nC pp x6 ln2 cl2 z9_b on1_b ok1_b S1_b T1_b P1_b Q1_b ox1_b oy1_b mt1_b wi1_b ins1_b fl1_b mn2 cx2 cy2 bl0_b bl1_b bl2_b bl3_b la1_b lb1_b lc1_b ld1_b H locs ls hm; exact absurd hm (Nat.not_lt_zero _)
      | succ n9 ih_38 =>
        intro nC pp x6 ln2 cl2 z9_b on1_b ok1_b S1_b T1_b P1_b Q1_b ox1_b oy1_b mt1_b wi1_b ins1_b fl1_b mn2 cx2 cy2 bl0_b bl1_b bl2_b bl3_b la1_b lb1_b lc1_b ld1_b H locs ls hm hM hall2 hln2 hcl2 hlp2 hrl2 hP hD hS hl
        have hge := dlN_le nC cl ln
        have hm38 := hm
        have hle38 := rnM_le hM
        have hmo38 := dlN_mono hle38 cl ln
        refine lv_iload hx hb dX11_tell_38 (lv_at hl 0 rfl) ?_
        refine lv_if_eq (tgt := 122) hx hb dX11_tell_40 rfl (fun c_2 => ?_) (fun c_2 => ?_)
        · have c_2 : x6.toInt = 0 := zc_eq rfl rfl c_2
          have hz38 := rnM_z hM (by omega)
          refine lv_iload hx hb dX11_tell_122 (lv_at hl 2 rfl) ?_
          have b9_4 : zlt (nC) := show nC < 2147483648 by omega
          refine lv_if_ne (tgt := 134) hx hb dX11_tell_124 rfl (fun c_3 => ?_) (fun c_3 => ?_)
          · have c_3 : ¬ ((nC : Nat) : Int) = 0 := zc_ne (nI_toInt b9_4) rfl c_3
            rw [← hz38.1, ← hz38.2.1, ← hz38.2.2.1] at hP hD
            have hcE : cl2 = dlN TT cl ln := (by rw [hcl2, hz38.2.2.2])
            have hfE := dlN_fit TT cl ln hlc hcl1
            refine lv_aload_n hx hb dX11_tell_134 rfl (lv_at hl 3 rfl) ?_
            refine lv_iload hx hb dX11_tell_135 (lv_at hl 1 rfl) ?_
            obtain ⟨hPc, hDc, hFc⟩ := zo_sub (wc := [_, _, _, _, _]) hP hD hS hA [17, 13, 14, 15, 16] (by decide +kernel) rfl
            refine zcall (st1 := []) (va_runV (As := [.int (nI ln)]) (rest := []) ⟨hx, hb, hml, hown, hts⟩ (k_M_squeeze l dC dI cI cZ cF H.size k0 (va_up (va_up (va_up (va_up (va_up a 22 bl0_b) 23 bl1_b) 24 bl2_b) 25 bl3_b) 28 b1) (upd (upd (upd (upd (upd I0 26 (nI ln2)) 31 z9_b) 35 on1_b) 36 ok1_b) 41 (nI (psN (nnF st tn mn) w0 ft))) J0 ln ln2 cl2 dn la1_b lb1_b lc1_b ld1_b (rfl) (by first | with_reducible assumption | omega) (by first | with_reducible assumption | omega) (by first | with_reducible assumption | omega) (by first | with_reducible assumption | omega) (hdn) (by first | with_reducible assumption | omega)) (csV_207 hts rfl rfl ⟨Nat.le_of_ble_eq_true rfl, Nat.le_of_ble_eq_true rfl⟩) (zPV2 (q0 := 0) (ci := 9) hPc hDc hK hXN rfl rfl) rfl rfl hl.1 rfl (lv_room (Nat.le_of_ble_eq_true rfl)) dX11_tell_137 ⟨show (c1 - cp) + 4 * (cl2 - cl) ≤ (c2 - cp) + 4 * (dlN TT cl ln - cl) by omega, show 8192 * (c1 - cp) + 512 * (cl2 - cl) ≤ 8192 * (c2 - cp) + 512 * (dlN TT cl ln - cl) by omega⟩) hS hFc hFc rfl (fun t H locs ht hB hk1 hS => ?_)
            obtain ⟨t9, la1, lb1, lc1, ld1, hs1, hs2, hs3, hP1, hD1⟩ := hB
            rw [ht] at hP1
            obtain ⟨hP, hD⟩ := zn (W2 := (_ :: _ :: _ :: _ :: _ :: _ :: _ :: _ :: _ :: _ :: _ :: _ :: _ :: (oa bl0_b cI (64 * cl2) la1) :: (oa bl1_b cI (64 * cl2) lb1) :: (oa bl2_b cI (64 * cl2) lc1) :: (oa bl3_b cI (64 * cl2) ld1) :: (om k0 (va_up (va_up (va_up (va_up (va_up a 22 bl0_b) 23 bl1_b) 24 bl2_b) 25 bl3_b) 28 b1) (upd (upd (upd (upd (upd I0 26 (nI t9)) 31 z9_b) 35 on1_b) 36 ok1_b) 41 (nI (psN (nnF st tn mn) w0 ft))) J0) :: _ :: _ :: _ :: _ :: _ :: _ :: _ :: _ :: _ :: _ :: _ :: _ :: _ :: _ :: _ :: [])) hP hD hk1 hFc hP1 hD1 [17, 13, 14, 15, 16] zl_245 zl_245 [17, 13, 14, 15, 16] (by decide +kernel) rfl rfl rfl rfl rfl
            clear hk1 hPc hDc hFc hP1 hD1 ht
            refine lv_aload_n hx hb dX11_tell_140 rfl (lv_at hl 3 rfl) ?_
            refine lv_iload_n hx hb dX11_tell_141 rfl (lv_at hl 4 rfl) ?_
            refine lv_iload_n hx hb dX11_tell_142 rfl (lv_at hl 4 rfl) ?_
            refine lv_iconst (v := 1) hx hb dX11_tell_143 rfl ?_
            refine lv_icmp_ne (tgt := 151) hx hb dX11_tell_144 rfl (fun c_5 => ?_) (fun c_5 => ?_)
            · refine lv_iconst (v := (-1)) hx hb dX11_tell_151 rfl ?_
              refine lv_iload hx hb dX11_tell_152 (lv_at hl 2 rfl) ?_
              obtain ⟨hPc, hDc, hFc⟩ := zo_sub (wc := [_, _, _, _, _, _, _, _, _, _, _, _, _, _, _, _, _, _, _]) hP hD hS hA [17, 18, 19, 20, 21, 22, 23, 24, 25, 26, 27, 28, 29, 30, 31, 32, 0, 1, 2] (by decide +kernel) rfl
              refine zcall (st1 := [.int (nI (dn + 1))]) (va_runV (As := [.int 10, .int (-1), .int (nI nC)]) (rest := []) ⟨hx, hb, hml, hown, hts⟩ (k_M_ends l dC dI cI cZ cF H.size k0 (va_up (va_up (va_up (va_up (va_up a 22 bl0_b) 23 bl1_b) 24 bl2_b) 25 bl3_b) 28 b1) (upd (upd (upd (upd (upd I0 26 (nI t9)) 31 z9_b) 35 on1_b) 36 ok1_b) 41 (nI (psN (nnF st tn mn) w0 ft))) J0 10 (-1) (nI nC) dn bs ft (psN (nnF st tn mn) w0 ft) c1 c2 kd st gb it pa pb rk wd tw tn mn1 cx1 cy1 (upd sa ((dn - bs) + 1) (nI (psN (nnF st tn mn) w0 ft))) sh1 wh of9 we (hft) (by first | with_reducible assumption | omega) (hdn) (hbs) (by first | with_reducible assumption | omega) (by first | with_reducible assumption | omega) (by first | with_reducible assumption | omega) (by rw [show dn + 1 - bs = dn - bs + 1 by omega]; exact up_at _ _ _) (hmn_2) (by first | with_reducible assumption | omega) (hpw_2) (by first | with_reducible assumption | omega) (hfit_2) (hmin_2) (hcE_2)) (csV_208 hts rfl rfl ⟨Nat.le_of_ble_eq_true rfl, Nat.le_of_ble_eq_true rfl⟩) (zPV2 (q0 := 0) (ci := 9) hPc hDc hK hXN rfl rfl) rfl rfl hl.1 rfl (lv_room (Nat.le_of_ble_eq_true rfl)) dX11_tell_154 ⟨show ((c1 - cp) + 4 * (cl2 - cl) + (c2 - c1)) ≤ (c2 - cp) + 4 * (dlN TT cl ln - cl) by omega, show (8192 * (c1 - cp) + 512 * (cl2 - cl) + (8192 * (c2 - c1))) ≤ 8192 * (c2 - cp) + 512 * (dlN TT cl ln - cl) by omega⟩) hS hFc hFc rfl (fun t H locs ht hB hk1 hS => ?_)
              obtain ⟨b2, sh2, g5, g6, g7, g8, hP1, hD1⟩ := hB
              rw [ht] at hP1
              obtain ⟨hP, hD⟩ := zn (W2 := (_ :: _ :: _ :: _ :: _ :: _ :: _ :: _ :: _ :: _ :: _ :: _ :: _ :: _ :: (om k0 (va_up (va_up (va_up (va_up (va_up a 22 bl0_b) 23 bl1_b) 24 bl2_b) 25 bl3_b) 28 b2) (upd (upd (upd (upd (upd (upd (upd (upd I0 14 0) 19 (nI (dn + 1))) 20 0) 26 (nI t9)) 31 z9_b) 35 on1_b) 36 ok1_b) 41 (nI (psN (nnF st tn mn1) (psN (nnF st tn mn) w0 ft) ft))) J0) :: (oa (a 1) cI 201 kd) :: (oa (a 5) cI 201 st) :: (oa (a 7) cI 201 gb) :: (oa (a 10) cI 201 it) :: (oa (a 8) cI 201 pa) :: (oa (a 9) cI 201 pb) :: (oa (a 2) cI 201 rk) :: (oa (a 3) cI 201 wd) :: (oa (a 4) cI 201 tw) :: (oa (a 6) cZ 201 tn) :: (oa (a 11) cI 201 mn1) :: (oa (a 12) cI 8040 cx1) :: (oa (a 13) cI 8040 cy1) :: (oa (a 27) cI 516 (upd (upd sa ((dn - bs) + 1) (nI (psN (nnF st tn mn) w0 ft))) ((dn + 1 - bs) + 1) (nI (psN (nnF st tn mn1) (psN (nnF st tn mn) w0 ft) ft)))) :: (oa b2 cI (4096 * c2) sh2) :: (oa (a 16) cI 514 (upd wh (dn + 1) (10 : Int32))) :: (oa (a 17) cI 514 (upd of9 (dn + 1) (-1 : Int32))) :: (oa (a 18) cI 514 (upd we (dn + 1) (nI nC))) :: [])) hP hD hk1 hFc hP1 hD1 zl_246 zl_247 zl_226 zl_227 (by decide +kernel) rfl rfl rfl rfl rfl
              clear hk1 hPc hDc hFc hP1 hD1 ht
              refine lv_istore (lv' := [(6, .int (nI (dn + 1))), (5, .int (nI ln)), (4, .int (nI nC)), (0, .ref k0), (1, .int 10), (2, .int (-1)), (3, .int (nI L))]) hx hb dX11_tell_157 hl (Nat.le_of_ble_eq_true rfl) rfl (fun ls hl => ?_)
              refine lv_iload hx hb dX11_tell_159 (lv_at hl 2 rfl) ?_
              obtain ⟨hP9, hD9⟩ := zq_sub (wc := ((om k0 (va_up (va_up (va_up (va_up (va_up a 22 bl0_b) 23 bl1_b) 24 bl2_b) 25 bl3_b) 28 b2) (upd (upd (upd (upd (upd (upd (upd (upd I0 14 0) 19 (nI (dn + 1))) 20 0) 26 (nI t9)) 31 z9_b) 35 on1_b) 36 ok1_b) 41 (nI (psN (nnF st tn mn1) (psN (nnF st tn mn) w0 ft) ft))) J0) :: (oa (a 1) cI 201 kd) :: (oa (a 5) cI 201 st) :: (oa (a 7) cI 201 gb) :: (oa (a 10) cI 201 it) :: (oa (a 8) cI 201 pa) :: (oa (a 9) cI 201 pb) :: (oa (a 2) cI 201 rk) :: (oa (a 3) cI 201 wd) :: (oa (a 4) cI 201 tw) :: (oa (a 6) cZ 201 tn) :: (oa (a 11) cI 201 mn1) :: (oa (a 12) cI 8040 cx1) :: (oa (a 13) cI 8040 cy1) :: (oa (a 27) cI 516 (upd (upd sa ((dn - bs) + 1) (nI (psN (nnF st tn mn) w0 ft))) ((dn + 1 - bs) + 1) (nI (psN (nnF st tn mn1) (psN (nnF st tn mn) w0 ft) ft)))) :: (oa b2 cI (4096 * c2) sh2) :: (oa (a 16) cI 514 (upd wh (dn + 1) (10 : Int32))) :: (oa (a 17) cI 514 (upd of9 (dn + 1) (-1 : Int32))) :: (oa (a 18) cI 514 (upd we (dn + 1) (nI nC))) :: (oa (a 32) cI 8 S1_b) :: (oa (a 40) cI 6 T1_b) :: (oa (a 29) cI 42 P1_b) :: (oa (a 30) cI 42 Q1_b) :: (oa (a 33) cI 42 ox1_b) :: (oa (a 34) cI 42 oy1_b) :: (oa (a 37) cZ 201 mt1_b) :: (oa (a 38) cZ 201 wi1_b) :: (oa (a 39) cZ 8040 ins1_b) :: (oa (a 43) cZ 40 fl1_b) :: (oa bl0_b cI (64 * cl2) la1) :: (oa bl1_b cI (64 * cl2) lb1) :: (oa bl2_b cI (64 * cl2) lc1) :: (oa bl3_b cI (64 * cl2) ld1) :: [])) hP hD (14 :: 15 :: 16 :: 17 :: 18 :: 19 :: 20 :: 21 :: 22 :: 23 :: 24 :: 25 :: 26 :: 27 :: 28 :: 29 :: 30 :: 31 :: 32 :: 0 :: 1 :: 2 :: 3 :: 4 :: 5 :: 6 :: 7 :: 8 :: 9 :: 10 :: 11 :: 12 :: 13 :: []) rfl rfl
              have hE9 : (((om k0 (va_up (va_up (va_up (va_up (va_up a 22 bl0_b) 23 bl1_b) 24 bl2_b) 25 bl3_b) 28 b2) (upd (upd (upd (upd (upd (upd (upd (upd I0 14 0) 19 (nI (dn + 1))) 20 0) 26 (nI t9)) 31 z9_b) 35 on1_b) 36 ok1_b) 41 (nI (psN (nnF st tn mn1) (psN (nnF st tn mn) w0 ft) ft))) J0) :: (oa (a 1) cI 201 kd) :: (oa (a 5) cI 201 st) :: (oa (a 7) cI 201 gb) :: (oa (a 10) cI 201 it) :: (oa (a 8) cI 201 pa) :: (oa (a 9) cI 201 pb) :: (oa (a 2) cI 201 rk) :: (oa (a 3) cI 201 wd) :: (oa (a 4) cI 201 tw) :: (oa (a 6) cZ 201 tn) :: (oa (a 11) cI 201 mn1) :: (oa (a 12) cI 8040 cx1) :: (oa (a 13) cI 8040 cy1) :: (oa (a 27) cI 516 (upd (upd sa ((dn - bs) + 1) (nI (psN (nnF st tn mn) w0 ft))) ((dn + 1 - bs) + 1) (nI (psN (nnF st tn mn1) (psN (nnF st tn mn) w0 ft) ft)))) :: (oa b2 cI (4096 * c2) sh2) :: (oa (a 16) cI 514 (upd wh (dn + 1) (10 : Int32))) :: (oa (a 17) cI 514 (upd of9 (dn + 1) (-1 : Int32))) :: (oa (a 18) cI 514 (upd we (dn + 1) (nI nC))) :: (oa (a 32) cI 8 S1_b) :: (oa (a 40) cI 6 T1_b) :: (oa (a 29) cI 42 P1_b) :: (oa (a 30) cI 42 Q1_b) :: (oa (a 33) cI 42 ox1_b) :: (oa (a 34) cI 42 oy1_b) :: (oa (a 37) cZ 201 mt1_b) :: (oa (a 38) cZ 201 wi1_b) :: (oa (a 39) cZ 8040 ins1_b) :: (oa (a 43) cZ 40 fl1_b) :: (oa bl0_b cI (64 * cl2) la1) :: (oa bl1_b cI (64 * cl2) lb1) :: (oa bl2_b cI (64 * cl2) lc1) :: (oa bl3_b cI (64 * cl2) ld1) :: []) : va_W) = ((om k0 (va_up (va_up (va_up (va_up (va_up a 22 bl0_b) 23 bl1_b) 24 bl2_b) 25 bl3_b) 28 b2) (upd (upd (upd (upd (upd (upd (upd (upd I0 14 0) 19 (nI (dn + 1))) 20 0) 26 (nI t9)) 31 z9_b) 35 on1_b) 36 ok1_b) 41 (nI (psN (nnF st tn mn1) (psN (nnF st tn mn) w0 ft) ft))) J0) :: (oa (a 1) cI 201 kd) :: (oa (a 5) cI 201 st) :: (oa (a 7) cI 201 gb) :: (oa (a 10) cI 201 it) :: (oa (a 8) cI 201 pa) :: (oa (a 9) cI 201 pb) :: (oa (a 2) cI 201 rk) :: (oa (a 3) cI 201 wd) :: (oa (a 4) cI 201 tw) :: (oa (a 6) cZ 201 tn) :: (oa (a 11) cI 201 mn1) :: (oa (a 12) cI 8040 cx1) :: (oa (a 13) cI 8040 cy1) :: (oa (a 27) cI 516 (upd (upd sa (dn - bs + 1) (nI (psN (nnF st tn mn) w0 ft))) (dn + 1 - bs + 1) (nI (psN (nnF st tn mn1) (psN (nnF st tn mn) w0 ft) ft)))) :: (oa b2 cI (4096 * c2) sh2) :: (oa (a 16) cI 514 (upd wh (dn + 1) (10 : Int32))) :: (oa (a 17) cI 514 (upd of9 (dn + 1) (-1 : Int32))) :: (oa (a 18) cI 514 (upd we (dn + 1) (nI TT))) :: (oa (a 32) cI 8 S1_b) :: (oa (a 40) cI 6 T1_b) :: (oa (a 29) cI 42 P1_b) :: (oa (a 30) cI 42 Q1_b) :: (oa (a 33) cI 42 ox1_b) :: (oa (a 34) cI 42 oy1_b) :: (oa (a 37) cZ 201 mt1_b) :: (oa (a 38) cZ 201 wi1_b) :: (oa (a 39) cZ 8040 ins1_b) :: (oa (a 43) cZ 40 fl1_b) :: (oa bl0_b cI (64 * (dlN TT cl ln)) la1) :: (oa bl1_b cI (64 * (dlN TT cl ln)) lb1) :: (oa bl2_b cI (64 * (dlN TT cl ln)) lc1) :: (oa bl3_b cI (64 * (dlN TT cl ln)) ld1) :: []) := by rw [hcE, hz38.2.2.2]
              rw [hE9] at hP9 hD9
              refine W.widen (k := (c2 - cp) + 4 * (dlN TT cl ln - cl)) (n := 8192 * (c2 - cp) + 512 * (dlN TT cl ln - cl)) (by omega) (by omega) ?_
              rw [hQ9]
              exact W.iret (v := nI nC) hx hb hr (fun t ht hW => ⟨⟨congrArg (fun z => Outcome.returned (some (Value.int z))) (show (nI nC : Int32) = nI TT from zn_eq hz38.2.2.2), z9_b, on1_b, ok1_b, S1_b, T1_b, P1_b, Q1_b, ox1_b, oy1_b, mt1_b, wi1_b, ins1_b, fl1_b, b2, sh2, t9, bl0_b, bl1_b, bl2_b, bl3_b, la1, lb1, lc1, ld1, (by have h9 := psN_ge (nnF st tn mn) w0 ft; rw [g6 _ (by omega)]; exact g1), (fun j hj => by have h9 := psN_ge (nnF st tn mn) w0 ft; rw [g6 _ (by omega)]; exact g2 j hj), (fun g hg j hj => by have h9 := psN_mono (nnF st tn mn) w0 hg; rw [g6 _ (by omega)]; exact g3 g hg j hj), (g5), (g7), (by omega), (⟨fun h j hj => by obtain ⟨i9, hi9, e1, e2⟩ := hs2 j hj; rw [e1, e2]; exact hlp2 h i9 hi9, lsZ_r hs3 (by rw [hz38.1, hz38.2.1, hz38.2.2.1]; exact hrl2)⟩), by rw [ht]; exact hP9, hD9⟩, hS.F ht⟩) hS.2.2 dX11_tell_161
            · exact absurd c_5 (by decide)
          · have c_3 : ((nC : Nat) : Int) = 0 := zc_eq (nI_toInt b9_4) rfl c_3
            exfalso; omega
        · have c_2 : ¬ x6.toInt = 0 := zc_ne rfl rfl c_2
          obtain ⟨p9, t9t, mn3, cx3, cy3, hpp, hP3, hM0, hM1, hnT⟩ := rnM_s hM (by first | with_reducible assumption | assumption)
          refine lv_iload hx hb dX11_tell_43 (lv_at hl 2 rfl) ?_
          refine lv_istore (lv' := [(7, .int (nI nC)), (6, .int x6), (5, .int (nI ln)), (4, .int (nI nC)), (0, .ref k0), (1, .int 10), (2, .int (-1)), (3, .int (nI L))]) hx hb dX11_tell_45 hl (Nat.le_of_ble_eq_true rfl) rfl (fun ls hl => ?_)
          refine lv_iconst (v := 0) hx hb dX11_tell_47 rfl ?_
          refine lv_istore (lv' := [(8, .int 0), (7, .int (nI nC)), (6, .int x6), (5, .int (nI ln)), (4, .int (nI nC)), (0, .ref k0), (1, .int 10), (2, .int (-1)), (3, .int (nI L))]) hx hb dX11_tell_48 hl (Nat.le_of_ble_eq_true rfl) rfl (fun ls hl => ?_)
          have hl_50 : ∀ (n9 : Nat) (q : Nat) (nD : Nat) (tr : Nat) (ln4 : Nat) (cl4 : Nat) (z9_c : Int32) (on1_c : Int32) (ok1_c : Int32) (S1_c : Nat → Int32) (T1_c : Nat → Int32) (P1_c : Nat → Int32) (Q1_c : Nat → Int32) (ox1_c : Nat → Int32) (oy1_c : Nat → Int32) (mt1_c : Nat → Int32) (wi1_c : Nat → Int32) (ins1_c : Nat → Int32) (fl1_c : Nat → Int32) (mn4 : Nat → Int32) (cx4 : Nat → Int32) (cy4 : Nat → Int32) (bl0_c : Nat) (bl1_c : Nat) (bl2_c : Nat) (bl3_c : Nat) (la1_c : Nat → Int32) (lb1_c : Nat → Int32) (lc1_c : Nat → Int32) (ld1_c : Nat → Int32) (H : Heap) (locs : List Loc) (ls : Array Slot), ft - q < n9 → (q ≤ ft) → (rnP ft st tn kd L (ft - q) mn4 cx4 cy4 tr mn3 cx3 cy3) → (nD + tr = nC + t9t) → (allI ft st tn kd mn4 cx4 cy4) → (ln4 = ln + nD) → (cl4 = dlN nD cl ln) → ((∀ j, j < ln → pl (lb j) ∧ pl (lc j)) → ∀ j, j < ln4 → pl (lb1_c j) ∧ pl (lc1_c j)) → (rlM ln ln4 ft (nI (dn + 1)) st tn kd mn cx cy mn4 cx4 cy4 la lb lc ld la1_c lb1_c lc1_c ld1_c) → va_P (dC, dI) classes ((oa (a 16) cI 514 wh) :: (oa (a 17) cI 514 of9) :: (oa (a 18) cI 514 we) :: (oa (a 32) cI 8 S1_c) :: (oa (a 40) cI 6 T1_c) :: (oa (a 29) cI 42 P1_c) :: (oa (a 30) cI 42 Q1_c) :: (oa (a 33) cI 42 ox1_c) :: (oa (a 34) cI 42 oy1_c) :: (oa (a 37) cZ 201 mt1_c) :: (oa (a 38) cZ 201 wi1_c) :: (oa (a 39) cZ 8040 ins1_c) :: (oa (a 43) cZ 40 fl1_c) :: (oa bl0_c cI (64 * cl4) la1_c) :: (oa bl1_c cI (64 * cl4) lb1_c) :: (oa bl2_c cI (64 * cl4) lc1_c) :: (oa bl3_c cI (64 * cl4) ld1_c) :: (om k0 (va_up (va_up (va_up (va_up (va_up a 22 bl0_c) 23 bl1_c) 24 bl2_c) 25 bl3_c) 28 b1) (upd (upd (upd (upd (upd I0 26 (nI ln4)) 31 z9_c) 35 on1_c) 36 ok1_c) 41 (nI (psN (nnF st tn mn) w0 ft))) J0) :: (oa (a 1) cI 201 kd) :: (oa (a 5) cI 201 st) :: (oa (a 7) cI 201 gb) :: (oa (a 10) cI 201 it) :: (oa (a 8) cI 201 pa) :: (oa (a 9) cI 201 pb) :: (oa (a 2) cI 201 rk) :: (oa (a 3) cI 201 wd) :: (oa (a 4) cI 201 tw) :: (oa (a 6) cZ 201 tn) :: (oa (a 11) cI 201 mn4) :: (oa (a 12) cI 8040 cx4) :: (oa (a 13) cI 8040 cy4) :: (oa (a 27) cI 516 (upd sa ((dn - bs) + 1) (nI (psN (nnF st tn mn) w0 ft)))) :: (oa b1 cI (4096 * c1) sh1) :: []) H → va_D A ((oa (a 16) cI 514 wh) :: (oa (a 17) cI 514 of9) :: (oa (a 18) cI 514 we) :: (oa (a 32) cI 8 S1_c) :: (oa (a 40) cI 6 T1_c) :: (oa (a 29) cI 42 P1_c) :: (oa (a 30) cI 42 Q1_c) :: (oa (a 33) cI 42 ox1_c) :: (oa (a 34) cI 42 oy1_c) :: (oa (a 37) cZ 201 mt1_c) :: (oa (a 38) cZ 201 wi1_c) :: (oa (a 39) cZ 8040 ins1_c) :: (oa (a 43) cZ 40 fl1_c) :: (oa bl0_c cI (64 * cl4) la1_c) :: (oa bl1_c cI (64 * cl4) lb1_c) :: (oa bl2_c cI (64 * cl4) lc1_c) :: (oa bl3_c cI (64 * cl4) ld1_c) :: (om k0 (va_up (va_up (va_up (va_up (va_up a 22 bl0_c) 23 bl1_c) 24 bl2_c) 25 bl3_c) 28 b1) (upd (upd (upd (upd (upd I0 26 (nI ln4)) 31 z9_c) 35 on1_c) 36 ok1_c) 41 (nI (psN (nnF st tn mn) w0 ft))) J0) :: (oa (a 1) cI 201 kd) :: (oa (a 5) cI 201 st) :: (oa (a 7) cI 201 gb) :: (oa (a 10) cI 201 it) :: (oa (a 8) cI 201 pa) :: (oa (a 9) cI 201 pb) :: (oa (a 2) cI 201 rk) :: (oa (a 3) cI 201 wd) :: (oa (a 4) cI 201 tw) :: (oa (a 6) cZ 201 tn) :: (oa (a 11) cI 201 mn4) :: (oa (a 12) cI 8040 cx4) :: (oa (a 13) cI 8040 cy4) :: (oa (a 27) cI 516 (upd sa ((dn - bs) + 1) (nI (psN (nnF st tn mn) w0 ft)))) :: (oa b1 cI (4096 * c1) sh1) :: []) → va_S A s.heap H locs → lv_has ls 9 [(8, .int (nI q)), (7, .int (nI nC)), (6, .int x6), (5, .int (nI ln)), (4, .int (nI nD)), (0, .ref k0), (1, .int 10), (2, .int (-1)), (3, .int (nI L))] → W p l e ({ frames := 9, cells := (c2 - cp) + 4 * (dlN TT cl ln - cl), slots := 8192 * (c2 - cp) + 512 * (dlN TT cl ln - cl), locals := 233 } : Room) s m ([.ref k0, .int 10, .int (-1), .int (nI L)] : List Value).toArray below meth c H locs ((c1 - cp) + 4 * (cl4 - cl)) (8192 * (c1 - cp) + 512 * (cl4 - cl)) Q9 (F0 m 50 ls []) := by
            intro n9
            induction n9 with
            | zero => intro q nD tr ln4 cl4 z9_c on1_c ok1_c S1_c T1_c P1_c Q1_c ox1_c oy1_c mt1_c wi1_c ins1_c fl1_c mn4 cx4 cy4 bl0_c bl1_c bl2_c bl3_c la1_c lb1_c lc1_c ld1_c H locs ls hm; exact absurd hm (Nat.not_lt_zero _)
            | succ n9 ih_50 =>
              intro q nD tr ln4 cl4 z9_c on1_c ok1_c S1_c T1_c P1_c Q1_c ox1_c oy1_c mt1_c wi1_c ins1_c fl1_c mn4 cx4 cy4 bl0_c bl1_c bl2_c bl3_c la1_c lb1_c lc1_c ld1_c H locs ls hm hq hrp hnt hall4 hln4 hcl4 hlp4 hrl4 hP hD hS hl
              have hge4 := dlN_le nD cl ln
              have hfit4 := dlN_fit nD cl ln hlc hcl1
              have hmo50 := dlN_mono (show nD ≤ TT by omega) cl ln
              refine lv_iload hx hb dX11_tell_50 (lv_at hl 0 rfl) ?_
              refine lv_aload_n hx hb dX11_tell_52 rfl (lv_at hl 5 rfl) ?_
              refine va_get (D := (dC, dI)) (ci := 9) (v := .int (I0 0)) (C := RX11) (T := TX11) (N := 55) hx hb hts inX11 hown hK hP 17 rfl rfl 0 (Nat.le_of_ble_eq_true rfl) (hts _ mw_1159) (fun _ h9 => h9) rfl dX11_tell_53 ?_
              refine zz_i (v := nI ft) (hft) ?_
              have b9_7 : zlt (q) := show q < 2147483648 by omega
              have b9_8 : zlt (ft) := show ft < 2147483648 by omega
              refine lv_icmp_ge (tgt := 105) hx hb dX11_tell_56 rfl (fun c_6 => ?_) (fun c_6 => ?_)
              · have c_6 : ((ft : Nat) : Int) ≤ ((q : Nat) : Int) := zc_le (nI_toInt b9_8) (nI_toInt b9_7) c_6
                have hz50 := rnP_z (show ft - q = 0 by omega) hrp
                refine lv_iload hx hb dX11_tell_105 (lv_at hl 4 rfl) ?_
                refine lv_iload hx hb dX11_tell_107 (lv_at hl 1 rfl) ?_
                have b9_10 : zlt (nD) := show nD < 2147483648 by omega
                have b9_11 : zlt (nC) := show nC < 2147483648 by omega
                refine lv_icmp_le (tgt := 116) hx hb dX11_tell_109 rfl (fun c_9 => ?_) (fun c_9 => ?_)
                · have c_9 : ((nD : Nat) : Int) ≤ ((nC : Nat) : Int) := zc_le (nI_toInt b9_10) (nI_toInt b9_11) c_9
                  refine lv_iconst (v := 0) hx hb dX11_tell_116 rfl ?_
                  refine lv_istore (lv' := [(6, .int 0), (8, .int (nI q)), (7, .int (nI nC)), (5, .int (nI ln)), (4, .int (nI nD)), (0, .ref k0), (1, .int 10), (2, .int (-1)), (3, .int (nI L))]) hx hb dX11_tell_117 hl (Nat.le_of_ble_eq_true rfl) rfl (fun ls hl => ?_)
                  refine lv_goto (tgt := 38) hx hb dX11_tell_119 rfl ?_
                  refine W.widen (k := (c1 - cp) + 4 * (cl4 - cl)) (n := 8192 * (c1 - cp) + 512 * (cl4 - cl)) (by omega) (by omega) ?_
                  exact ih_38 nD 0 0 ln4 cl4 z9_c on1_c ok1_c S1_c T1_c P1_c Q1_c ox1_c oy1_c mt1_c wi1_c ins1_c fl1_c mn4 cx4 cy4 bl0_c bl1_c bl2_c bl3_c la1_c lb1_c lc1_c ld1_c H locs ls (by first | with_reducible assumption | omega) (by rw [← hz50.2.1, ← hz50.2.2.1, ← hz50.2.2.2]; first | (rw [show nD = nC + t9t by omega]; exact hM1 (by first | with_reducible assumption | omega)) | (rw [show nD = nC by omega]; exact hM0 (by first | with_reducible assumption | omega))) (hall4) (by first | with_reducible assumption | omega) (hcl4) (hlp4) (hrl4) hP hD hS (lv_sub hl [0, 3, 4, 5, 6, 7, 8] rfl)
                · have c_9 : ((nC : Nat) : Int) < ((nD : Nat) : Int) := zc_nle (nI_toInt b9_10) (nI_toInt b9_11) c_9
                  refine lv_iconst (v := 1) hx hb dX11_tell_112 rfl ?_
                  refine lv_goto (tgt := 117) hx hb dX11_tell_113 rfl ?_
                  refine lv_istore (lv' := [(6, .int 1), (8, .int (nI q)), (7, .int (nI nC)), (5, .int (nI ln)), (4, .int (nI nD)), (0, .ref k0), (1, .int 10), (2, .int (-1)), (3, .int (nI L))]) hx hb dX11_tell_117 hl (Nat.le_of_ble_eq_true rfl) rfl (fun ls hl => ?_)
                  refine lv_goto (tgt := 38) hx hb dX11_tell_119 rfl ?_
                  refine W.widen (k := (c1 - cp) + 4 * (cl4 - cl)) (n := 8192 * (c1 - cp) + 512 * (cl4 - cl)) (by omega) (by omega) ?_
                  exact ih_38 nD p9 1 ln4 cl4 z9_c on1_c ok1_c S1_c T1_c P1_c Q1_c ox1_c oy1_c mt1_c wi1_c ins1_c fl1_c mn4 cx4 cy4 bl0_c bl1_c bl2_c bl3_c la1_c lb1_c lc1_c ld1_c H locs ls (by first | with_reducible assumption | omega) (by rw [← hz50.2.1, ← hz50.2.2.1, ← hz50.2.2.2]; first | (rw [show nD = nC + t9t by omega]; exact hM1 (by first | with_reducible assumption | omega)) | (rw [show nD = nC by omega]; exact hM0 (by first | with_reducible assumption | omega))) (hall4) (by first | with_reducible assumption | omega) (hcl4) (hlp4) (hrl4) hP hD hS (lv_sub hl [0, 3, 4, 5, 6, 7, 8] rfl)
              · have c_6 : ((q : Nat) : Int) < ((ft : Nat) : Int) := zc_nle (nI_toInt b9_8) (nI_toInt b9_7) c_6
                obtain ⟨m5, mn5, cx5, cy5, t5, hr1, hr2, htr⟩ := rnP_s (by omega) hrp
                refine lv_iload hx hb dX11_tell_59 (lv_at hl 4 rfl) ?_
                refine lv_aload_n hx hb dX11_tell_61 rfl (lv_at hl 5 rfl) ?_
                refine lv_iload hx hb dX11_tell_62 (lv_at hl 0 rfl) ?_
                obtain ⟨hPc, hDc, hFc, hI1⟩ := zi_sub (wc := [_, _, _]) hP hD hS hA [17, 19, 27] rfl rfl
                refine zcall (st1 := [.int (pI (q < ft ∧ (st q).toInt = 1 ∧ (tn q).toInt = 0)), .int (nI nD)]) (va_runV (As := [.int (nI q)]) (rest := [.int (nI nD)]) ⟨hx, hb, hml, hown, hts⟩ (k_M_is_n l dC dI cI cZ cF H.size k0 (va_up (va_up (va_up (va_up (va_up a 22 bl0_c) 23 bl1_c) 24 bl2_c) 25 bl3_c) 28 b1) (upd (upd (upd (upd (upd I0 26 (nI ln4)) 31 z9_c) 35 on1_c) 36 ok1_c) 41 (nI (psN (nnF st tn mn) w0 ft))) J0 q ft st tn (by first | with_reducible assumption | assumption) (by first | with_reducible assumption | omega) (by first | with_reducible assumption | omega)) (csV_179 hts rfl rfl ⟨Nat.le_of_ble_eq_true rfl, Nat.le_of_ble_eq_true rfl⟩) (zPV2 (q0 := 0) (ci := 9) hPc hDc hK hXN rfl rfl) rfl rfl hl.1 rfl (lv_room (Nat.le_of_ble_eq_true rfl)) dX11_tell_64 ⟨show (c1 - cp) + 4 * (cl4 - cl) ≤ (c2 - cp) + 4 * (dlN TT cl ln - cl) by omega, show 8192 * (c1 - cp) + 512 * (cl4 - cl) ≤ 8192 * (c2 - cp) + 512 * (dlN TT cl ln - cl) by omega⟩) hS hFc hFc rfl (fun t H locs ht hB hk1 hS => ?_)
                obtain ⟨hP1, hD1⟩ := hB
                rw [ht] at hP1
                replace hP := z0 hP hD hk1 hP1 hI1
                clear hk1 hPc hDc hFc hP1 hD1 ht hI1
                refine lv_if_eq (tgt := 95) hx hb dX11_tell_67 rfl (fun c_12 => ?_) (fun c_12 => ?_)
                · have c_12 : ¬ (q < ft ∧ (st q).toInt = 1 ∧ (tn q).toInt = 0) := zp_0 c_12
                  have hz5 := hr1.2 (by first | exact fun h => absurd h.1 (by first | with_reducible assumption | assumption) | exact fun h => absurd h.2 (by first | with_reducible assumption | assumption))
                  refine lv_iconst (v := 0) hx hb dX11_tell_95 rfl ?_
                  refine lv_iadd hx hb dX11_tell_96 ?_
                  refine zz_i (v := nI (nD + 0)) (nI_add nD 0) ?_
                  refine lv_istore (lv' := [(4, .int (nI (nD + 0))), (8, .int (nI q)), (7, .int (nI nC)), (6, .int x6), (5, .int (nI ln)), (0, .ref k0), (1, .int 10), (2, .int (-1)), (3, .int (nI L))]) hx hb dX11_tell_97 hl (Nat.le_of_ble_eq_true rfl) rfl (fun ls hl => ?_)
                  refine lv_iinc (v := nI (q + 1)) (lv' := [(8, .int (nI (q + 1))), (4, .int (nI (nD + 0))), (7, .int (nI nC)), (6, .int x6), (5, .int (nI ln)), (0, .ref k0), (1, .int 10), (2, .int (-1)), (3, .int (nI L))]) hx hb dX11_tell_99 hl (k := 1) rfl (nI_add q 1) (Nat.le_of_ble_eq_true rfl) rfl (fun ls hl => ?_)
                  refine lv_goto (tgt := 50) hx hb dX11_tell_102 rfl ?_
                  refine W.widen (k := (c1 - cp) + 4 * (cl4 - cl)) (n := 8192 * (c1 - cp) + 512 * (cl4 - cl)) (by omega) (by omega) ?_
                  exact ih_50 (q + 1) (nD + 0) t5 ln4 cl4 z9_c on1_c ok1_c S1_c T1_c P1_c Q1_c ox1_c oy1_c mt1_c wi1_c ins1_c fl1_c mn4 cx4 cy4 bl0_c bl1_c bl2_c bl3_c la1_c lb1_c lc1_c ld1_c H locs ls (by first | with_reducible assumption | omega) (by first | with_reducible assumption | omega) (by first | exact hr2 | (rw [hz5.2.1, hz5.2.2.1, hz5.2.2.2] at hr2; exact hr2)) (by first | with_reducible assumption | omega) (by first | exact hall4 | exact (allI_s hall4 (by first | with_reducible assumption | assumption) hpl).1) (by first | with_reducible assumption | omega) (by first | (rw [hcl4]; done) | exact hcl4 | (rw [hcl4, hln4, ← dlN_add])) (by first | exact hlp4 | exact fun h => hlp5 (hlp4 h)) (by first | exact hrl4 | exact rlM_s hrl4 ⟨hlv, by assumption⟩ hls5 (by rw [hpe5.1.1]; exact nN_nI (by have := hpe5.1.2.1; omega)) hpe5.2.2.1 (fun p hp k hk => hpe5.2.2.2.1 (40 * p + k) (by first | with_reducible assumption | omega)) (fun p hp => (hall4 p hp).1.2.1.2) (by first | with_reducible assumption | omega)) hP hD hS (lv_sub hl [0, 2, 3, 4, 1, 5, 6, 7, 8] rfl)
                · have c_12 : q < ft ∧ (st q).toInt = 1 ∧ (tn q).toInt = 0 := zp_1 c_12
                  refine lv_aload_n hx hb dX11_tell_70 rfl (lv_at hl 5 rfl) ?_
                  refine lv_iload hx hb dX11_tell_71 (lv_at hl 0 rfl) ?_
                  obtain ⟨hPc, hDc, hFc, hI1⟩ := zi_sub (wc := [_, _]) hP hD hS hA [17, 18] rfl rfl
                  refine zcall (st1 := [.int (pI (¬ (kd q).toInt = 0 ∧ ¬ (kd q).toInt = 6)), .int (nI nD)]) (va_runV (As := [.int (nI q)]) (rest := [.int (nI nD)]) ⟨hx, hb, hml, hown, hts⟩ (k_M_isPlainable l dC dI cI cZ cF H.size k0 (va_up (va_up (va_up (va_up (va_up a 22 bl0_c) 23 bl1_c) 24 bl2_c) 25 bl3_c) 28 b1) (upd (upd (upd (upd (upd I0 26 (nI ln4)) 31 z9_c) 35 on1_c) 36 ok1_c) 41 (nI (psN (nnF st tn mn) w0 ft))) J0 q kd (by first | with_reducible assumption | omega)) (csV_210 hts rfl rfl ⟨Nat.le_of_ble_eq_true rfl, Nat.le_of_ble_eq_true rfl⟩) (zPV2 (q0 := 0) (ci := 9) hPc hDc hK hXN rfl rfl) rfl rfl hl.1 rfl (lv_room (Nat.le_of_ble_eq_true rfl)) dX11_tell_73 ⟨show (c1 - cp) + 4 * (cl4 - cl) ≤ (c2 - cp) + 4 * (dlN TT cl ln - cl) by omega, show 8192 * (c1 - cp) + 512 * (cl4 - cl) ≤ 8192 * (c2 - cp) + 512 * (dlN TT cl ln - cl) by omega⟩) hS hFc hFc rfl (fun t H locs ht hB hk1 hS => ?_)
                  obtain ⟨hP1, hD1⟩ := hB
                  rw [ht] at hP1
                  replace hP := z0 hP hD hk1 hP1 hI1
                  clear hk1 hPc hDc hFc hP1 hD1 ht hI1
                  refine lv_if_eq (tgt := 95) hx hb dX11_tell_76 rfl (fun c_13 => ?_) (fun c_13 => ?_)
                  · have c_13 : ¬ (¬ (kd q).toInt = 0 ∧ ¬ (kd q).toInt = 6) := zp_0 c_13
                    have hz5 := hr1.2 (by first | exact fun h => absurd h.1 (by first | with_reducible assumption | assumption) | exact fun h => absurd h.2 (by first | with_reducible assumption | assumption))
                    refine lv_iconst (v := 0) hx hb dX11_tell_95 rfl ?_
                    refine lv_iadd hx hb dX11_tell_96 ?_
                    refine zz_i (v := nI (nD + 0)) (nI_add nD 0) ?_
                    refine lv_istore (lv' := [(4, .int (nI (nD + 0))), (8, .int (nI q)), (7, .int (nI nC)), (6, .int x6), (5, .int (nI ln)), (0, .ref k0), (1, .int 10), (2, .int (-1)), (3, .int (nI L))]) hx hb dX11_tell_97 hl (Nat.le_of_ble_eq_true rfl) rfl (fun ls hl => ?_)
                    refine lv_iinc (v := nI (q + 1)) (lv' := [(8, .int (nI (q + 1))), (4, .int (nI (nD + 0))), (7, .int (nI nC)), (6, .int x6), (5, .int (nI ln)), (0, .ref k0), (1, .int 10), (2, .int (-1)), (3, .int (nI L))]) hx hb dX11_tell_99 hl (k := 1) rfl (nI_add q 1) (Nat.le_of_ble_eq_true rfl) rfl (fun ls hl => ?_)
                    refine lv_goto (tgt := 50) hx hb dX11_tell_102 rfl ?_
                    refine W.widen (k := (c1 - cp) + 4 * (cl4 - cl)) (n := 8192 * (c1 - cp) + 512 * (cl4 - cl)) (by omega) (by omega) ?_
                    exact ih_50 (q + 1) (nD + 0) t5 ln4 cl4 z9_c on1_c ok1_c S1_c T1_c P1_c Q1_c ox1_c oy1_c mt1_c wi1_c ins1_c fl1_c mn4 cx4 cy4 bl0_c bl1_c bl2_c bl3_c la1_c lb1_c lc1_c ld1_c H locs ls (by first | with_reducible assumption | omega) (by first | with_reducible assumption | omega) (by first | exact hr2 | (rw [hz5.2.1, hz5.2.2.1, hz5.2.2.2] at hr2; exact hr2)) (by first | with_reducible assumption | omega) (by first | exact hall4 | exact (allI_s hall4 (by first | with_reducible assumption | assumption) hpl).1) (by first | with_reducible assumption | omega) (by first | (rw [hcl4]; done) | exact hcl4 | (rw [hcl4, hln4, ← dlN_add])) (by first | exact hlp4 | exact fun h => hlp5 (hlp4 h)) (by first | exact hrl4 | exact rlM_s hrl4 ⟨hlv, by assumption⟩ hls5 (by rw [hpe5.1.1]; exact nN_nI (by have := hpe5.1.2.1; omega)) hpe5.2.2.1 (fun p hp k hk => hpe5.2.2.2.1 (40 * p + k) (by first | with_reducible assumption | omega)) (fun p hp => (hall4 p hp).1.2.1.2) (by first | with_reducible assumption | omega)) hP hD hS (lv_sub hl [0, 2, 3, 4, 1, 5, 6, 7, 8] rfl)
                  · have c_13 : ¬ (kd q).toInt = 0 ∧ ¬ (kd q).toInt = 6 := zp_1 c_13
                    have hlv : lvF ft st tn q := (by first | with_reducible assumption | assumption)
                    obtain ⟨n5, hpl⟩ := hr1.1 ⟨hlv, by assumption⟩
                    have hm40 := (allI_s hall4 hlv hpl).2
                    have hmo5 := dlN_mono (show nD + m5 ≤ TT by omega) cl ln
                    have had5 : dlN (nD + m5) cl ln = dlN m5 cl4 ln4 := (by rw [dlN_add, hcl4, hln4])
                    have hle5 := dlN_le m5 cl4 ln4
                    have hpe5 := plN_end _ _ _ _ _ _ _ _ _ (allI_p hall4 hlv) hpl
                    refine lv_aload_n hx hb dX11_tell_79 rfl (lv_at hl 5 rfl) ?_
                    refine lv_iload hx hb dX11_tell_80 (lv_at hl 0 rfl) ?_
                    refine lv_iload_n hx hb dX11_tell_82 rfl (lv_at hl 8 rfl) ?_
                    refine lv_aload_n hx hb dX11_tell_83 rfl (lv_at hl 5 rfl) ?_
                    refine va_get (D := (dC, dI)) (ci := 9) (v := .int (I0 19)) (C := RX11) (T := TX11) (N := 55) hx hb hts inX11 hown hK hP 17 rfl rfl 19 (Nat.le_of_ble_eq_true rfl) (hts _ mw_1178) (fun _ h9 => h9) rfl dX11_tell_84 ?_
                    refine zz_i (v := nI dn) (hdn) ?_
                    refine lv_iconst (v := 1) hx hb dX11_tell_87 rfl ?_
                    refine lv_iadd hx hb dX11_tell_88 ?_
                    refine zz_i (v := nI (dn + 1)) (nI_add dn 1) ?_
                    obtain ⟨hPc, hDc, hFc⟩ := zo_sub (wc := [_, _, _, _, _, _, _, _, _, _, _, _, _, _, _, _, _, _, _, _, _]) hP hD hS hA [17, 19, 27, 18, 28, 29, 30, 3, 4, 5, 6, 7, 8, 9, 10, 11, 12, 13, 14, 15, 16] (by decide +kernel) rfl
                    refine zcall (st1 := [.int (nI m5), .int (nI nD)]) (va_runV (As := [.int (nI q), .int (nI L), .int (nI (dn + 1))]) (rest := [.int (nI nD)]) ⟨hx, hb, hml, hown, hts⟩ (k_M_plainAll l dC dI cI cZ cF H.size k0 (va_up (va_up (va_up (va_up (va_up a 22 bl0_c) 23 bl1_c) 24 bl2_c) 25 bl3_c) 28 b1) (upd (upd (upd (upd (upd I0 26 (nI ln4)) 31 z9_c) 35 on1_c) 36 ok1_c) 41 (nI (psN (nnF st tn mn) w0 ft))) J0 q (nN (mn4 q)) L ft ln4 cl4 m5 n5 (nI (dn + 1)) st tn kd mn4 cx4 cy4 S1_c T1_c P1_c Q1_c ox1_c oy1_c mt1_c wi1_c ins1_c fl1_c la1_c lb1_c lc1_c ld1_c mn5 cx5 cy5 (hft) (by first | with_reducible assumption | omega) (by first | with_reducible assumption | omega) (by first | with_reducible assumption | omega) (allI_p hall4 hlv) (hpl) (by first | with_reducible assumption | omega) (by first | with_reducible assumption | omega) (by first | with_reducible assumption | omega) (by first | with_reducible assumption | omega) ((hrl4.2.2.2.2 q ⟨hlv, by assumption⟩).1)) (csV_214 hts rfl rfl ⟨Nat.le_of_ble_eq_true rfl, Nat.le_of_ble_eq_true rfl⟩) (zPV2 (q0 := 0) (ci := 9) hPc hDc hK hXN rfl rfl) rfl rfl hl.1 rfl (lv_room (Nat.le_of_ble_eq_true rfl)) dX11_tell_89 ⟨show ((c1 - cp) + 4 * (cl4 - cl) + (4 * (dlN m5 cl4 ln4 - cl4))) ≤ (c2 - cp) + 4 * (dlN TT cl ln - cl) by omega, show (8192 * (c1 - cp) + 512 * (cl4 - cl) + (512 * (dlN m5 cl4 ln4 - cl4))) ≤ 8192 * (c2 - cp) + 512 * (dlN TT cl ln - cl) by omega⟩) hS hFc hFc rfl (fun t H locs ht hB hk1 hS => ?_)
                    refine ex21 hB (fun z9d on1d ok1d S1d T1d P1d Q1d ox1d oy1d mt1d wi1d ins1d fl1d bl0d bl1d bl2d bl3d la1d lb1d lc1d ld1d hB0 => ?_)
                    clear hB
                    obtain ⟨hlp5, hls5, hP1, hD1⟩ := hB0
                    rw [ht] at hP1
                    obtain ⟨hP, hD⟩ := zn (W2 := (_ :: _ :: _ :: _ :: _ :: _ :: _ :: _ :: _ :: _ :: _ :: _ :: (om k0 (va_up (va_up (va_up (va_up (va_up a 22 bl0d) 23 bl1d) 24 bl2d) 25 bl3d) 28 b1) (upd (upd (upd (upd (upd I0 26 (nI (ln4 + m5))) 31 z9d) 35 on1d) 36 ok1d) 41 (nI (psN (nnF st tn mn) w0 ft))) J0) :: (oa (a 5) cI 201 st) :: (oa (a 6) cZ 201 tn) :: (oa (a 1) cI 201 kd) :: (oa (a 11) cI 201 mn5) :: (oa (a 12) cI 8040 cx5) :: (oa (a 13) cI 8040 cy5) :: (oa (a 32) cI 8 S1d) :: (oa (a 40) cI 6 T1d) :: (oa (a 29) cI 42 P1d) :: (oa (a 30) cI 42 Q1d) :: (oa (a 33) cI 42 ox1d) :: (oa (a 34) cI 42 oy1d) :: (oa (a 37) cZ 201 mt1d) :: (oa (a 38) cZ 201 wi1d) :: (oa (a 39) cZ 8040 ins1d) :: (oa (a 43) cZ 40 fl1d) :: (oa bl0d cI (64 * (dlN m5 cl4 ln4)) la1d) :: (oa bl1d cI (64 * (dlN m5 cl4 ln4)) lb1d) :: (oa bl2d cI (64 * (dlN m5 cl4 ln4)) lc1d) :: (oa bl3d cI (64 * (dlN m5 cl4 ln4)) ld1d) :: [])) hP hD hk1 hFc hP1 hD1 zl_217 zl_218 zl_219 zl_220 (by decide +kernel) rfl rfl rfl rfl rfl
                    clear hk1 hPc hDc hFc hP1 hD1 ht
                    refine lv_goto (tgt := 96) hx hb dX11_tell_92 rfl ?_
                    refine lv_iadd hx hb dX11_tell_96 ?_
                    refine zz_i (v := nI (nD + m5)) (nI_add nD m5) ?_
                    refine lv_istore (lv' := [(4, .int (nI (nD + m5))), (8, .int (nI q)), (7, .int (nI nC)), (6, .int x6), (5, .int (nI ln)), (0, .ref k0), (1, .int 10), (2, .int (-1)), (3, .int (nI L))]) hx hb dX11_tell_97 hl (Nat.le_of_ble_eq_true rfl) rfl (fun ls hl => ?_)
                    refine lv_iinc (v := nI (q + 1)) (lv' := [(8, .int (nI (q + 1))), (4, .int (nI (nD + m5))), (7, .int (nI nC)), (6, .int x6), (5, .int (nI ln)), (0, .ref k0), (1, .int 10), (2, .int (-1)), (3, .int (nI L))]) hx hb dX11_tell_99 hl (k := 1) rfl (nI_add q 1) (Nat.le_of_ble_eq_true rfl) rfl (fun ls hl => ?_)
                    refine lv_goto (tgt := 50) hx hb dX11_tell_102 rfl ?_
                    obtain ⟨hP, hD⟩ := zq_sub (wc := (_ :: _ :: _ :: _ :: _ :: _ :: _ :: _ :: _ :: _ :: _ :: _ :: _ :: _ :: _ :: _ :: _ :: _ :: _ :: _ :: _ :: _ :: _ :: _ :: _ :: _ :: _ :: _ :: _ :: _ :: _ :: _ :: _ :: [])) hP hD (0 :: 1 :: 2 :: 19 :: 20 :: 21 :: 22 :: 23 :: 24 :: 25 :: 26 :: 27 :: 28 :: 29 :: 30 :: 31 :: 32 :: 12 :: 15 :: 13 :: 3 :: 4 :: 5 :: 6 :: 7 :: 8 :: 9 :: 14 :: 16 :: 17 :: 18 :: 10 :: 11 :: []) rfl rfl
                    refine W.widen (k := (c1 - cp) + 4 * ((dlN m5 cl4 ln4) - cl)) (n := 8192 * (c1 - cp) + 512 * ((dlN m5 cl4 ln4) - cl)) (by omega) (by omega) ?_
                    exact ih_50 (q + 1) (nD + m5) t5 (ln4 + m5) (dlN m5 cl4 ln4) z9d on1d ok1d S1d T1d P1d Q1d ox1d oy1d mt1d wi1d ins1d fl1d mn5 cx5 cy5 bl0d bl1d bl2d bl3d la1d lb1d lc1d ld1d H locs ls (by first | with_reducible assumption | omega) (by first | with_reducible assumption | omega) (by first | exact hr2 | (rw [hz5.2.1, hz5.2.2.1, hz5.2.2.2] at hr2; exact hr2)) (by first | with_reducible assumption | omega) (by first | exact hall4 | exact (allI_s hall4 (by first | with_reducible assumption | assumption) hpl).1) (by first | with_reducible assumption | omega) (by first | (rw [hcl4]; done) | exact hcl4 | (rw [hcl4, hln4, ← dlN_add])) (by first | exact hlp4 | exact fun h => hlp5 (hlp4 h)) (by first | exact hrl4 | exact rlM_s hrl4 ⟨hlv, by assumption⟩ hls5 (by rw [hpe5.1.1]; exact nN_nI (by have := hpe5.1.2.1; omega)) hpe5.2.2.1 (fun p hp k hk => hpe5.2.2.2.1 (40 * p + k) (by first | with_reducible assumption | omega)) (fun p hp => (hall4 p hp).1.2.1.2) (by first | with_reducible assumption | omega)) hP hD hS (lv_sub hl [0, 2, 3, 4, 1, 5, 6, 7, 8] rfl)
          refine W.widen (k := (c1 - cp) + 4 * (cl2 - cl)) (n := 8192 * (c1 - cp) + 512 * (cl2 - cl)) (by omega) (by omega) ?_
          exact hl_50 _ 0 nC t9t ln2 cl2 z9_b on1_b ok1_b S1_b T1_b P1_b Q1_b ox1_b oy1_b mt1_b wi1_b ins1_b fl1_b mn2 cx2 cy2 bl0_b bl1_b bl2_b bl3_b la1_b lb1_b lc1_b ld1_b H locs ls (Nat.lt_succ_self _) (by first | with_reducible assumption | omega) (hP3) (by first | with_reducible assumption | omega) (hall2) (by first | with_reducible assumption | omega) (hcl2) (hlp2) (hrl2) hP hD hS (lv_sub hl [0, 1, 2, 3, 4, 5, 6, 7, 8] rfl)
    refine W.widen (k := (c1 - cp) + 4 * (cl - cl)) (n := 8192 * (c1 - cp) + 512 * (cl - cl)) (by omega) (by omega) ?_
    exact hl_38 _ 0 P9 1 ln cl (I0 31) (I0 35) (I0 36) S0 T0 P0 Q0 ox oy mt wi ins fl mn cx cy (a 22) (a 23) (a 24) (a 25) la lb lc ld H locs ls (Nat.lt_succ_self _) (Or.inl ⟨rfl, TT, hrun, by omega⟩) (hall) (by first | with_reducible assumption | omega) (rfl) (fun h => h) (rlM_0 hds) hP hD hS (lv_sub hl [0, 1, 2, 3, 4, 5, 6] rfl)
  · exact absurd c_1 (by decide)
end
section
set_option maxHeartbeats 4000000 in
set_option maxRecDepth 100000 in
theorem k_M_run_0 (l : Launch) (dC : Nat → ClassId) (dI : Nat → Nat → Nat) (cI cZ cF : ClassId) (sz : Nat) (k0 : Nat) (a : Nat → Nat) (I0 : Nat → Int32) (J0 : Nat → Int64) (L : Nat) (ft : Nat) (TT : Nat) (P9 : Nat) (dn : Nat) (bs : Nat) (w0 : Nat) (cp : Nat) (c1 : Nat) (kd : Nat → Int32) (st : Nat → Int32) (gb : Nat → Int32) (it : Nat → Int32) (pa : Nat → Int32) (pb : Nat → Int32) (rk : Nat → Int32) (wd : Nat → Int32) (tw : Nat → Int32) (tn : Nat → Int32) (mn : Nat → Int32) (cx : Nat → Int32) (cy : Nat → Int32) (sa : Nat → Int32) (sh : Nat → Int32) (wh : Nat → Int32) (of9 : Nat → Int32) (we : Nat → Int32) (S0 : Nat → Int32) (T0 : Nat → Int32) (P0 : Nat → Int32) (Q0 : Nat → Int32) (ox : Nat → Int32) (oy : Nat → Int32) (mt : Nat → Int32) (wi : Nat → Int32) (ins : Nat → Int32) (fl : Nat → Int32) (la : Nat → Int32) (lb : Nat → Int32) (lc : Nat → Int32) (ld : Nat → Int32) (mn1 : Nat → Int32) (cx1 : Nat → Int32) (cy1 : Nat → Int32) (ln : Nat) (cl : Nat) (hft : I0 0 = nI ft) (h200 : ft ≤ 200) (hL : L ≤ 2147483647) (hall : allI ft st tn kd mn cx cy) (hds : ∀ q, bnQ ft st tn kd q → dsR (nN (mn q)) (cF40 cx q) (cF40 cy q)) (hrun : rnA ft st tn kd L P9 mn cx cy TT mn1 cx1 cy1) (hTT : TT ≤ 10000) (hclm : dlN TT cl ln ≤ 100000) (hlc : ln ≤ 64 * cl) (hcl1 : 1 ≤ cl) (hdn : I0 19 = nI dn) (hbs : I0 21 = nI bs) (hbd : bs ≤ dn) (hd512 : dn ≤ 512) (hi5_1 : (dn - bs) < 515) (hsa_1 : sa (dn - bs) = nI w0) (hmn_1 : ∀ v9, v9 < ft → (tn v9).toInt = 0 → ¬ (st v9).toInt = 0 → mn v9 = nI (nN (mn v9)) ∧ nN (mn v9) ≤ 40) (hc1_1 : 1 ≤ cp) (hpw_1 : pw cp c1) (hw0_1 : w0 ≤ 4096 * cp) (hfit_1 : psN (nnF st tn mn) w0 ft ≤ 4096 * c1) (hmin_1 : c1 = cp ∨ 2048 * c1 < psN (nnF st tn mn) w0 ft) (hcE_1 : c1 ≤ 512) (hz : TT = 0) : zM l yX11_run cX11_run 2 (some .int) ({ frames := 10, cells := (c1 - cp) + 4 * (dlN TT cl ln - cl), slots := 8192 * (c1 - cp) + 512 * (dlN TT cl ln - cl), locals := 261 } : Room) [.ref k0, .int (nI L)] (dC, dI) (zTy cI cZ cF) ((om k0 a (upd I0 26 (nI ln)) J0) :: (oa (a 1) cI 201 kd) :: (oa (a 5) cI 201 st) :: (oa (a 7) cI 201 gb) :: (oa (a 10) cI 201 it) :: (oa (a 8) cI 201 pa) :: (oa (a 9) cI 201 pb) :: (oa (a 2) cI 201 rk) :: (oa (a 3) cI 201 wd) :: (oa (a 4) cI 201 tw) :: (oa (a 6) cZ 201 tn) :: (oa (a 11) cI 201 mn) :: (oa (a 12) cI 8040 cx) :: (oa (a 13) cI 8040 cy) :: (oa (a 27) cI 516 sa) :: (oa (a 28) cI (4096 * cp) sh) :: (oa (a 16) cI 514 wh) :: (oa (a 17) cI 514 of9) :: (oa (a 18) cI 514 we) :: (oa (a 32) cI 8 S0) :: (oa (a 40) cI 6 T0) :: (oa (a 29) cI 42 P0) :: (oa (a 30) cI 42 Q0) :: (oa (a 33) cI 42 ox) :: (oa (a 34) cI 42 oy) :: (oa (a 37) cZ 201 mt) :: (oa (a 38) cZ 201 wi) :: (oa (a 39) cZ 8040 ins) :: (oa (a 43) cZ 40 fl) :: (oa (a 22) cI (64 * cl) la) :: (oa (a 23) cI (64 * cl) lb) :: (oa (a 24) cI (64 * cl) lc) :: (oa (a 25) cI (64 * cl) ld) :: []) sz (some (.int (-1))) (fun A t => ∃ (z9 : Int32), ∃ (on1 : Int32), ∃ (ok1 : Int32), ∃ (S1 : Nat → Int32), ∃ (T1 : Nat → Int32), ∃ (P1 : Nat → Int32), ∃ (Q1 : Nat → Int32), ∃ (ox1 : Nat → Int32), ∃ (oy1 : Nat → Int32), ∃ (mt1 : Nat → Int32), ∃ (wi1 : Nat → Int32), ∃ (ins1 : Nat → Int32), ∃ (fl1 : Nat → Int32), ∃ (b1 : Nat), ∃ (sh1 : Nat → Int32), ∃ (bl0 : Nat), ∃ (bl1 : Nat), ∃ (bl2 : Nat), ∃ (bl3 : Nat), ∃ (la1 : Nat → Int32), ∃ (lb1 : Nat → Int32), ∃ (lc1 : Nat → Int32), ∃ (ld1 : Nat → Int32), (sh1 w0 = nI ft) ∧ (∀ j, j < w0 → sh1 j = sh j) ∧ (∀ g, g < ft → ∀ j, j < 10 + 2 * nnF st tn mn g → sh1 (psN (nnF st tn mn) w0 g + j) = (shD kd st gb it pa pb rk wd tw (nnF st tn mn) cx cy) g j) ∧ (∀ j, psN (nnF st tn mn) w0 ft ≤ j → j < 4096 * cp → sh1 j = sh j) ∧ (((∀ j, j < ln → pl (lb j) ∧ pl (lc j)) → ∀ j, j < ln → pl (lb1 j) ∧ pl (lc1 j)) ∧ lsE ln la lb lc ld la1 lb1 lc1 ld1) ∧ zPD (dC, dI) classes A ((om k0 (va_up (va_up (va_up (va_up (va_up a 22 bl0) 23 bl1) 24 bl2) 25 bl3) 28 b1) (upd (upd (upd (upd (upd (upd (upd I0 14 8) 15 (I0 15)) 26 (nI ln)) 31 z9) 35 on1) 36 ok1) 41 (nI (psN (nnF st tn mn) w0 ft))) J0) :: (oa (a 1) cI 201 kd) :: (oa (a 5) cI 201 st) :: (oa (a 7) cI 201 gb) :: (oa (a 10) cI 201 it) :: (oa (a 8) cI 201 pa) :: (oa (a 9) cI 201 pb) :: (oa (a 2) cI 201 rk) :: (oa (a 3) cI 201 wd) :: (oa (a 4) cI 201 tw) :: (oa (a 6) cZ 201 tn) :: (oa (a 11) cI 201 mn1) :: (oa (a 12) cI 8040 cx1) :: (oa (a 13) cI 8040 cy1) :: (oa (a 27) cI 516 (upd sa (dn - bs + 1) (nI (psN (nnF st tn mn) w0 ft)))) :: (oa b1 cI (4096 * c1) sh1) :: (oa (a 16) cI 514 wh) :: (oa (a 17) cI 514 of9) :: (oa (a 18) cI 514 we) :: (oa (a 32) cI 8 S1) :: (oa (a 40) cI 6 T1) :: (oa (a 29) cI 42 P1) :: (oa (a 30) cI 42 Q1) :: (oa (a 33) cI 42 ox1) :: (oa (a 34) cI 42 oy1) :: (oa (a 37) cZ 201 mt1) :: (oa (a 38) cZ 201 wi1) :: (oa (a 39) cZ 8040 ins1) :: (oa (a 43) cZ 40 fl1) :: (oa bl0 cI (64 * cl) la1) :: (oa bl1 cI (64 * cl) lb1) :: (oa bl2 cI (64 * cl) lc1) :: (oa bl3 cI (64 * cl) ld1) :: []) t.heap) ((c1 - cp) + 4 * (dlN TT cl ln - cl)) (8192 * (c1 - cp) + 512 * (dlN TT cl ln - cl)) := by
  refine zIn (own := "ScaleShopModel") (loc := [(0, .ref k0), (1, .int (nI L))]) rfl rfl rfl rfl (fun p e s m below meth c hx hb hr hts hown hlocks hml hnm9 A hA hS hP hD hK hXN Q9 hQ9 ls hl => ?_)
  refine lv_iload_n hx hb dX11_run_0 rfl (lv_at hl 1 rfl) ?_
  have b9_2 : zlt (L) := show L < 2147483648 by omega
  refine lv_if_ge (tgt := 10) hx hb dX11_run_1 rfl (fun c_1 => ?_) (fun c_1 => ?_)
  · have c_1 : 0 ≤ ((L : Nat) : Int) := zc_le rfl (nI_toInt b9_2) c_1
    refine lv_aload_n hx hb dX11_run_10 rfl (lv_at hl 0 rfl) ?_
    refine lv_bipush (v := 10) hx hb dX11_run_11 rfl ?_
    refine lv_iconst (v := (-1)) hx hb dX11_run_13 rfl ?_
    refine lv_iload_n hx hb dX11_run_14 rfl (lv_at hl 1 rfl) ?_
    obtain ⟨hPc, hDc, hFc⟩ := zo_sub (wc := (_ :: _ :: _ :: _ :: _ :: _ :: _ :: _ :: _ :: _ :: _ :: _ :: _ :: _ :: _ :: _ :: _ :: _ :: _ :: _ :: _ :: _ :: _ :: _ :: _ :: _ :: _ :: _ :: _ :: _ :: _ :: _ :: _ :: [])) hP hD hS hA (0 :: 1 :: 2 :: 3 :: 4 :: 5 :: 6 :: 7 :: 8 :: 9 :: 10 :: 11 :: 12 :: 13 :: 14 :: 15 :: 16 :: 17 :: 18 :: 19 :: 20 :: 21 :: 22 :: 23 :: 24 :: 25 :: 26 :: 27 :: 28 :: 29 :: 30 :: 31 :: 32 :: []) (by decide +kernel) rfl
    refine zcall (st1 := [.int (-1)]) (va_runV (As := [.int 10, .int (-1), .int (nI L)]) (rest := []) ⟨hx, hb, hml, hown, hts⟩ (k_M_tell_r0 l dC dI cI cZ cF s.heap.size k0 a (upd I0 26 (nI ln)) J0 L ft TT P9 dn bs w0 cp c1 kd st gb it pa pb rk wd tw tn mn cx cy sa sh wh of9 we S0 T0 P0 Q0 ox oy mt wi ins fl la lb lc ld mn1 cx1 cy1 ln cl (hft) (h200) (hL) (hall) (hds) (hrun) (hTT) (hclm) (hlc) (hcl1) (hdn) (hbs) (hbd) (hd512) (hi5_1) (hsa_1) (hmn_1) (hc1_1) (hpw_1) (hw0_1) (hfit_1) (hmin_1) (hcE_1) (hz)) (csV_215 hts rfl rfl ⟨Nat.le_of_ble_eq_true rfl, Nat.le_of_ble_eq_true rfl⟩) (zPV2 (q0 := 0) (ci := 9) hPc hDc hK hXN rfl rfl) rfl rfl hl.1 rfl (lv_room (Nat.le_of_ble_eq_true rfl)) dX11_run_15 ⟨show (0 + ((c1 - cp) + 4 * (dlN TT cl ln - cl))) ≤ (c1 - cp) + 4 * (dlN TT cl ln - cl) by omega, show (0 + (8192 * (c1 - cp) + 512 * (dlN TT cl ln - cl))) ≤ 8192 * (c1 - cp) + 512 * (dlN TT cl ln - cl) by omega⟩) hS hFc hFc rfl (fun t H locs ht hB hk1 hS => ?_)
    refine ex23 hB (fun z9 on1 ok1 S1 T1 P1 Q1 ox1 oy1 mt1 wi1 ins1 fl1 b1 sh1 bl0 bl1 bl2 bl3 la1 lb1 lc1 ld1 hB0 => ?_)
    clear hB
    obtain ⟨r0, r1, r2, r3, r4, hP1, hD1⟩ := hB0
    rw [ht] at hP1
    obtain ⟨hP, hD⟩ := zn (W2 := ((om k0 (va_up (va_up (va_up (va_up (va_up a 22 bl0) 23 bl1) 24 bl2) 25 bl3) 28 b1) (upd (upd (upd (upd (upd (upd (upd I0 14 8) 15 (I0 15)) 26 (nI ln)) 31 z9) 35 on1) 36 ok1) 41 (nI (psN (nnF st tn mn) w0 ft))) J0) :: (oa (a 1) cI 201 kd) :: (oa (a 5) cI 201 st) :: (oa (a 7) cI 201 gb) :: (oa (a 10) cI 201 it) :: (oa (a 8) cI 201 pa) :: (oa (a 9) cI 201 pb) :: (oa (a 2) cI 201 rk) :: (oa (a 3) cI 201 wd) :: (oa (a 4) cI 201 tw) :: (oa (a 6) cZ 201 tn) :: (oa (a 11) cI 201 mn1) :: (oa (a 12) cI 8040 cx1) :: (oa (a 13) cI 8040 cy1) :: (oa (a 27) cI 516 (upd sa (dn - bs + 1) (nI (psN (nnF st tn mn) w0 ft)))) :: (oa b1 cI (4096 * c1) sh1) :: (oa (a 16) cI 514 wh) :: (oa (a 17) cI 514 of9) :: (oa (a 18) cI 514 we) :: (oa (a 32) cI 8 S1) :: (oa (a 40) cI 6 T1) :: (oa (a 29) cI 42 P1) :: (oa (a 30) cI 42 Q1) :: (oa (a 33) cI 42 ox1) :: (oa (a 34) cI 42 oy1) :: (oa (a 37) cZ 201 mt1) :: (oa (a 38) cZ 201 wi1) :: (oa (a 39) cZ 8040 ins1) :: (oa (a 43) cZ 40 fl1) :: (oa bl0 cI (64 * cl) la1) :: (oa bl1 cI (64 * cl) lb1) :: (oa bl2 cI (64 * cl) lc1) :: (oa bl3 cI (64 * cl) ld1) :: [])) hP hD hk1 hFc hP1 hD1 zl_228 [] zl_229 zl_228 (by decide +kernel) rfl rfl rfl rfl rfl
    clear hk1 hPc hDc hFc hP1 hD1 ht
    obtain ⟨hP9, hD9⟩ := zu_sub (wc := (_ :: _ :: _ :: _ :: _ :: _ :: _ :: _ :: _ :: _ :: _ :: _ :: _ :: _ :: _ :: _ :: _ :: _ :: _ :: _ :: _ :: _ :: _ :: _ :: _ :: _ :: _ :: _ :: _ :: _ :: _ :: _ :: _ :: [])) hP hD (true :: true :: true :: true :: true :: true :: true :: true :: true :: true :: true :: true :: true :: true :: true :: true :: true :: true :: true :: true :: true :: true :: true :: true :: true :: true :: true :: true :: true :: true :: true :: true :: true :: []) rfl rfl
    refine W.widen (k := (c1 - cp) + 4 * (dlN TT cl ln - cl)) (n := 8192 * (c1 - cp) + 512 * (dlN TT cl ln - cl)) (by omega) (by omega) ?_
    rw [hQ9]
    exact W.iret (v := (-1)) hx hb hr (fun t ht hW => ⟨⟨rfl, z9, on1, ok1, S1, T1, P1, Q1, ox1, oy1, mt1, wi1, ins1, fl1, b1, sh1, bl0, bl1, bl2, bl3, la1, lb1, lc1, ld1, (r0), (r1), (r2), (r3), (r4), by rw [ht]; exact hP9, hD9⟩, hS.F ht⟩) hS.2.2 dX11_run_18
  · have c_1 : ((L : Nat) : Int) < 0 := zc_nle rfl (nI_toInt b9_2) c_1
    exfalso; omega
set_option maxHeartbeats 4000000 in
set_option maxRecDepth 100000 in
theorem k_M_run_y (l : Launch) (dC : Nat → ClassId) (dI : Nat → Nat → Nat) (cI cZ cF : ClassId) (sz : Nat) (k0 : Nat) (a : Nat → Nat) (I0 : Nat → Int32) (J0 : Nat → Int64) (L : Nat) (ft : Nat) (TT : Nat) (P9 : Nat) (dn : Nat) (bs : Nat) (w0 : Nat) (cp : Nat) (c1 : Nat) (kd : Nat → Int32) (st : Nat → Int32) (gb : Nat → Int32) (it : Nat → Int32) (pa : Nat → Int32) (pb : Nat → Int32) (rk : Nat → Int32) (wd : Nat → Int32) (tw : Nat → Int32) (tn : Nat → Int32) (mn : Nat → Int32) (cx : Nat → Int32) (cy : Nat → Int32) (sa : Nat → Int32) (sh : Nat → Int32) (wh : Nat → Int32) (of9 : Nat → Int32) (we : Nat → Int32) (S0 : Nat → Int32) (T0 : Nat → Int32) (P0 : Nat → Int32) (Q0 : Nat → Int32) (ox : Nat → Int32) (oy : Nat → Int32) (mt : Nat → Int32) (wi : Nat → Int32) (ins : Nat → Int32) (fl : Nat → Int32) (la : Nat → Int32) (lb : Nat → Int32) (lc : Nat → Int32) (ld : Nat → Int32) (mn1 : Nat → Int32) (cx1 : Nat → Int32) (cy1 : Nat → Int32) (c2 : Nat) (ln : Nat) (cl : Nat) (hft : I0 0 = nI ft) (h200 : ft ≤ 200) (hL : L ≤ 2147483647) (hall : allI ft st tn kd mn cx cy) (hds : ∀ q, bnQ ft st tn kd q → dsR (nN (mn q)) (cF40 cx q) (cF40 cy q)) (hrun : rnA ft st tn kd L P9 mn cx cy TT mn1 cx1 cy1) (hTT : TT ≤ 10000) (hclm : dlN TT cl ln ≤ 100000) (hlc : ln ≤ 64 * cl) (hcl1 : 1 ≤ cl) (hdn : I0 19 = nI dn) (hbs : I0 21 = nI bs) (hbd : bs ≤ dn) (hd512 : dn ≤ 512) (hi5_1 : (dn - bs) < 515) (hsa_1 : sa (dn - bs) = nI w0) (hmn_1 : ∀ v9, v9 < ft → (tn v9).toInt = 0 → ¬ (st v9).toInt = 0 → mn v9 = nI (nN (mn v9)) ∧ nN (mn v9) ≤ 40) (hc1_1 : 1 ≤ cp) (hpw_1 : pw cp c1) (hw0_1 : w0 ≤ 4096 * cp) (hfit_1 : psN (nnF st tn mn) w0 ft ≤ 4096 * c1) (hmin_1 : c1 = cp ∨ 2048 * c1 < psN (nnF st tn mn) w0 ft) (hcE_1 : c1 ≤ 512) (hmn_2 : ∀ v9, v9 < ft → (tn v9).toInt = 0 → ¬ (st v9).toInt = 0 → mn1 v9 = nI (nN (mn1 v9)) ∧ nN (mn1 v9) ≤ 40) (hpw_2 : pw c1 c2) (hfit_2 : psN (nnF st tn mn1) (psN (nnF st tn mn) w0 ft) ft ≤ 4096 * c2) (hmin_2 : c2 = c1 ∨ 2048 * c2 < psN (nnF st tn mn1) (psN (nnF st tn mn) w0 ft) ft) (hcE_2 : c2 ≤ 512) (hz : 0 < TT) : zM l yX11_run cX11_run 2 (some .int) ({ frames := 10, cells := (c2 - cp) + 4 * (dlN TT cl ln - cl), slots := 8192 * (c2 - cp) + 512 * (dlN TT cl ln - cl), locals := 261 } : Room) [.ref k0, .int (nI L)] (dC, dI) (zTy cI cZ cF) ((om k0 a (upd I0 26 (nI ln)) J0) :: (oa (a 1) cI 201 kd) :: (oa (a 5) cI 201 st) :: (oa (a 7) cI 201 gb) :: (oa (a 10) cI 201 it) :: (oa (a 8) cI 201 pa) :: (oa (a 9) cI 201 pb) :: (oa (a 2) cI 201 rk) :: (oa (a 3) cI 201 wd) :: (oa (a 4) cI 201 tw) :: (oa (a 6) cZ 201 tn) :: (oa (a 11) cI 201 mn) :: (oa (a 12) cI 8040 cx) :: (oa (a 13) cI 8040 cy) :: (oa (a 27) cI 516 sa) :: (oa (a 28) cI (4096 * cp) sh) :: (oa (a 16) cI 514 wh) :: (oa (a 17) cI 514 of9) :: (oa (a 18) cI 514 we) :: (oa (a 32) cI 8 S0) :: (oa (a 40) cI 6 T0) :: (oa (a 29) cI 42 P0) :: (oa (a 30) cI 42 Q0) :: (oa (a 33) cI 42 ox) :: (oa (a 34) cI 42 oy) :: (oa (a 37) cZ 201 mt) :: (oa (a 38) cZ 201 wi) :: (oa (a 39) cZ 8040 ins) :: (oa (a 43) cZ 40 fl) :: (oa (a 22) cI (64 * cl) la) :: (oa (a 23) cI (64 * cl) lb) :: (oa (a 24) cI (64 * cl) lc) :: (oa (a 25) cI (64 * cl) ld) :: []) sz (some (.int (nI TT))) (fun A t => ∃ (z9 : Int32), ∃ (on1 : Int32), ∃ (ok1 : Int32), ∃ (S1 : Nat → Int32), ∃ (T1 : Nat → Int32), ∃ (P1 : Nat → Int32), ∃ (Q1 : Nat → Int32), ∃ (ox1 : Nat → Int32), ∃ (oy1 : Nat → Int32), ∃ (mt1 : Nat → Int32), ∃ (wi1 : Nat → Int32), ∃ (ins1 : Nat → Int32), ∃ (fl1 : Nat → Int32), ∃ (b2 : Nat), ∃ (sh2 : Nat → Int32), ∃ (t9 : Nat), ∃ (bl0 : Nat), ∃ (bl1 : Nat), ∃ (bl2 : Nat), ∃ (bl3 : Nat), ∃ (la1 : Nat → Int32), ∃ (lb1 : Nat → Int32), ∃ (lc1 : Nat → Int32), ∃ (ld1 : Nat → Int32), (sh2 w0 = nI ft) ∧ (∀ j, j < w0 → sh2 j = sh j) ∧ (∀ g, g < ft → ∀ j, j < 10 + 2 * (nnF st tn mn) g → sh2 (psN (nnF st tn mn) w0 g + j) = (shD kd st gb it pa pb rk wd tw (nnF st tn mn) cx cy) g j) ∧ (sh2 (psN (nnF st tn mn) w0 ft) = nI ft) ∧ (∀ g, g < ft → ∀ j, j < 10 + 2 * (nnF st tn mn1) g → sh2 (psN (nnF st tn mn1) (psN (nnF st tn mn) w0 ft) g + j) = (shD kd st gb it pa pb rk wd tw (nnF st tn mn1) cx1 cy1) g j) ∧ (t9 ≤ ln + TT) ∧ (((∀ j, j < ln → pl (lb j) ∧ pl (lc j)) → ∀ j, j < t9 → pl (lb1 j) ∧ pl (lc1 j)) ∧ lsZ dn ln la lb lc ld t9 la1 lb1 lc1 ld1 (fun q x y => bnQ ft st tn kd q ∧ isR (nN (mn q)) (cF40 cx q) (cF40 cy q) x y ∧ ¬ isR (nN (mn1 q)) (cF40 cx1 q) (cF40 cy1 q) x y)) ∧ zPD (dC, dI) classes A ((om k0 (va_up (va_up (va_up (va_up (va_up a 22 bl0) 23 bl1) 24 bl2) 25 bl3) 28 b2) (upd (upd (upd (upd (upd (upd (upd (upd I0 14 0) 19 (nI (dn + 1))) 20 0) 26 (nI t9)) 31 z9) 35 on1) 36 ok1) 41 (nI (psN (nnF st tn mn1) (psN (nnF st tn mn) w0 ft) ft))) J0) :: (oa (a 1) cI 201 kd) :: (oa (a 5) cI 201 st) :: (oa (a 7) cI 201 gb) :: (oa (a 10) cI 201 it) :: (oa (a 8) cI 201 pa) :: (oa (a 9) cI 201 pb) :: (oa (a 2) cI 201 rk) :: (oa (a 3) cI 201 wd) :: (oa (a 4) cI 201 tw) :: (oa (a 6) cZ 201 tn) :: (oa (a 11) cI 201 mn1) :: (oa (a 12) cI 8040 cx1) :: (oa (a 13) cI 8040 cy1) :: (oa (a 27) cI 516 (upd (upd sa (dn - bs + 1) (nI (psN (nnF st tn mn) w0 ft))) (dn + 1 - bs + 1) (nI (psN (nnF st tn mn1) (psN (nnF st tn mn) w0 ft) ft)))) :: (oa b2 cI (4096 * c2) sh2) :: (oa (a 16) cI 514 (upd wh (dn + 1) (10 : Int32))) :: (oa (a 17) cI 514 (upd of9 (dn + 1) (-1 : Int32))) :: (oa (a 18) cI 514 (upd we (dn + 1) (nI TT))) :: (oa (a 32) cI 8 S1) :: (oa (a 40) cI 6 T1) :: (oa (a 29) cI 42 P1) :: (oa (a 30) cI 42 Q1) :: (oa (a 33) cI 42 ox1) :: (oa (a 34) cI 42 oy1) :: (oa (a 37) cZ 201 mt1) :: (oa (a 38) cZ 201 wi1) :: (oa (a 39) cZ 8040 ins1) :: (oa (a 43) cZ 40 fl1) :: (oa bl0 cI (64 * (dlN TT cl ln)) la1) :: (oa bl1 cI (64 * (dlN TT cl ln)) lb1) :: (oa bl2 cI (64 * (dlN TT cl ln)) lc1) :: (oa bl3 cI (64 * (dlN TT cl ln)) ld1) :: []) t.heap) ((c2 - cp) + 4 * (dlN TT cl ln - cl)) (8192 * (c2 - cp) + 512 * (dlN TT cl ln - cl)) := by
  refine zIn (own := "ScaleShopModel") (loc := [(0, .ref k0), (1, .int (nI L))]) rfl rfl rfl rfl (fun p e s m below meth c hx hb hr hts hown hlocks hml hnm9 A hA hS hP hD hK hXN Q9 hQ9 ls hl => ?_)
  refine lv_iload_n hx hb dX11_run_0 rfl (lv_at hl 1 rfl) ?_
  have b9_2 : zlt (L) := show L < 2147483648 by omega
  refine lv_if_ge (tgt := 10) hx hb dX11_run_1 rfl (fun c_1 => ?_) (fun c_1 => ?_)
  · have c_1 : 0 ≤ ((L : Nat) : Int) := zc_le rfl (nI_toInt b9_2) c_1
    refine lv_aload_n hx hb dX11_run_10 rfl (lv_at hl 0 rfl) ?_
    refine lv_bipush (v := 10) hx hb dX11_run_11 rfl ?_
    refine lv_iconst (v := (-1)) hx hb dX11_run_13 rfl ?_
    refine lv_iload_n hx hb dX11_run_14 rfl (lv_at hl 1 rfl) ?_
    obtain ⟨hPc, hDc, hFc⟩ := zo_sub (wc := (_ :: _ :: _ :: _ :: _ :: _ :: _ :: _ :: _ :: _ :: _ :: _ :: _ :: _ :: _ :: _ :: _ :: _ :: _ :: _ :: _ :: _ :: _ :: _ :: _ :: _ :: _ :: _ :: _ :: _ :: _ :: _ :: _ :: [])) hP hD hS hA (0 :: 1 :: 2 :: 3 :: 4 :: 5 :: 6 :: 7 :: 8 :: 9 :: 10 :: 11 :: 12 :: 13 :: 14 :: 15 :: 16 :: 17 :: 18 :: 19 :: 20 :: 21 :: 22 :: 23 :: 24 :: 25 :: 26 :: 27 :: 28 :: 29 :: 30 :: 31 :: 32 :: []) (by decide +kernel) rfl
    refine zcall (st1 := [.int (nI TT)]) (va_runV (As := [.int 10, .int (-1), .int (nI L)]) (rest := []) ⟨hx, hb, hml, hown, hts⟩ (k_M_tell_ry l dC dI cI cZ cF s.heap.size k0 a (upd I0 26 (nI ln)) J0 L ft TT P9 dn bs w0 cp c1 kd st gb it pa pb rk wd tw tn mn cx cy sa sh wh of9 we S0 T0 P0 Q0 ox oy mt wi ins fl la lb lc ld mn1 cx1 cy1 c2 ln cl (hft) (h200) (hL) (hall) (hds) (hrun) (hTT) (hclm) (hlc) (hcl1) (hdn) (hbs) (hbd) (hd512) (hi5_1) (hsa_1) (hmn_1) (hc1_1) (hpw_1) (hw0_1) (hfit_1) (hmin_1) (hcE_1) (hmn_2) (hpw_2) (hfit_2) (hmin_2) (hcE_2) (hz)) (csV_215 hts rfl rfl ⟨Nat.le_of_ble_eq_true rfl, Nat.le_of_ble_eq_true rfl⟩) (zPV2 (q0 := 0) (ci := 9) hPc hDc hK hXN rfl rfl) rfl rfl hl.1 rfl (lv_room (Nat.le_of_ble_eq_true rfl)) dX11_run_15 ⟨show (0 + ((c2 - cp) + 4 * (dlN TT cl ln - cl))) ≤ (c2 - cp) + 4 * (dlN TT cl ln - cl) by omega, show (0 + (8192 * (c2 - cp) + 512 * (dlN TT cl ln - cl))) ≤ 8192 * (c2 - cp) + 512 * (dlN TT cl ln - cl) by omega⟩) hS hFc hFc rfl (fun t H locs ht hB hk1 hS => ?_)
    refine ex24 hB (fun z9 on1 ok1 S1 T1 P1 Q1 ox1 oy1 mt1 wi1 ins1 fl1 b2 sh2 t9 bl0 bl1 bl2 bl3 la1 lb1 lc1 ld1 hB0 => ?_)
    clear hB
    obtain ⟨r0, r1, r2, r3, r4, r5, r6, hP1, hD1⟩ := hB0
    rw [ht] at hP1
    obtain ⟨hP, hD⟩ := zn (W2 := ((om k0 (va_up (va_up (va_up (va_up (va_up a 22 bl0) 23 bl1) 24 bl2) 25 bl3) 28 b2) (upd (upd (upd (upd (upd (upd (upd (upd I0 14 0) 19 (nI (dn + 1))) 20 0) 26 (nI t9)) 31 z9) 35 on1) 36 ok1) 41 (nI (psN (nnF st tn mn1) (psN (nnF st tn mn) w0 ft) ft))) J0) :: (oa (a 1) cI 201 kd) :: (oa (a 5) cI 201 st) :: (oa (a 7) cI 201 gb) :: (oa (a 10) cI 201 it) :: (oa (a 8) cI 201 pa) :: (oa (a 9) cI 201 pb) :: (oa (a 2) cI 201 rk) :: (oa (a 3) cI 201 wd) :: (oa (a 4) cI 201 tw) :: (oa (a 6) cZ 201 tn) :: (oa (a 11) cI 201 mn1) :: (oa (a 12) cI 8040 cx1) :: (oa (a 13) cI 8040 cy1) :: (oa (a 27) cI 516 (upd (upd sa (dn - bs + 1) (nI (psN (nnF st tn mn) w0 ft))) (dn + 1 - bs + 1) (nI (psN (nnF st tn mn1) (psN (nnF st tn mn) w0 ft) ft)))) :: (oa b2 cI (4096 * c2) sh2) :: (oa (a 16) cI 514 (upd wh (dn + 1) (10 : Int32))) :: (oa (a 17) cI 514 (upd of9 (dn + 1) (-1 : Int32))) :: (oa (a 18) cI 514 (upd we (dn + 1) (nI TT))) :: (oa (a 32) cI 8 S1) :: (oa (a 40) cI 6 T1) :: (oa (a 29) cI 42 P1) :: (oa (a 30) cI 42 Q1) :: (oa (a 33) cI 42 ox1) :: (oa (a 34) cI 42 oy1) :: (oa (a 37) cZ 201 mt1) :: (oa (a 38) cZ 201 wi1) :: (oa (a 39) cZ 8040 ins1) :: (oa (a 43) cZ 40 fl1) :: (oa bl0 cI (64 * (dlN TT cl ln)) la1) :: (oa bl1 cI (64 * (dlN TT cl ln)) lb1) :: (oa bl2 cI (64 * (dlN TT cl ln)) lc1) :: (oa bl3 cI (64 * (dlN TT cl ln)) ld1) :: [])) hP hD hk1 hFc hP1 hD1 zl_228 [] zl_229 zl_228 (by decide +kernel) rfl rfl rfl rfl rfl
    clear hk1 hPc hDc hFc hP1 hD1 ht
    obtain ⟨hP9, hD9⟩ := zu_sub (wc := (_ :: _ :: _ :: _ :: _ :: _ :: _ :: _ :: _ :: _ :: _ :: _ :: _ :: _ :: _ :: _ :: _ :: _ :: _ :: _ :: _ :: _ :: _ :: _ :: _ :: _ :: _ :: _ :: _ :: _ :: _ :: _ :: _ :: [])) hP hD (true :: true :: true :: true :: true :: true :: true :: true :: true :: true :: true :: true :: true :: true :: true :: true :: true :: true :: true :: true :: true :: true :: true :: true :: true :: true :: true :: true :: true :: true :: true :: true :: true :: []) rfl rfl
    refine W.widen (k := (c2 - cp) + 4 * (dlN TT cl ln - cl)) (n := 8192 * (c2 - cp) + 512 * (dlN TT cl ln - cl)) (by omega) (by omega) ?_
    rw [hQ9]
    exact W.iret (v := nI TT) hx hb hr (fun t ht hW => ⟨⟨rfl, z9, on1, ok1, S1, T1, P1, Q1, ox1, oy1, mt1, wi1, ins1, fl1, b2, sh2, t9, bl0, bl1, bl2, bl3, la1, lb1, lc1, ld1, (r0), (r1), (r2), (r3), (r4), (r5), (r6), by rw [ht]; exact hP9, hD9⟩, hS.F ht⟩) hS.2.2 dX11_run_18
  · have c_1 : ((L : Nat) : Int) < 0 := zc_nle rfl (nI_toInt b9_2) c_1
    exfalso; omega
end
section
set_option maxHeartbeats 4000000 in
set_option maxRecDepth 100000 in
theorem k_M_box_v (l : Launch) (dC : Nat → ClassId) (dI : Nat → Nat → Nat) (cI cZ cF : ClassId) (sz : Nat) (k0 : Nat) (a : Nat → Nat) (I0 : Nat → Int32) (J0 : Nat → Int64) (f : Nat) (n : Nat) (mn : Nat → Int32) (cx : Nat → Int32) (cy : Nat → Int32) (hf_f : f ≤ 200) (hm_f : mn f = nI n) (hn_f : 1 ≤ n ∧ n ≤ 40) (hp_f : pls n (cF40 cx f) (cF40 cy f)) : zM l yX11_box cX11_box 7 none ({ frames := 1, cells := 0, slots := 0, locals := 14 } : Room) [.ref k0, .int (nI f), .int 1] (dC, dI) (zTy cI cZ cF) [(om k0 a I0 J0), (oa (a 11) cI 201 mn), (oa (a 12) cI 8040 cx), (oa (a 13) cI 8040 cy)] sz none (fun A t => ∃ (x1 : Int32), ∃ (x2 : Int32), ∃ (x3 : Int32), ∃ (x4 : Int32), (x1 = iI (mnI (cF40 cx f 0).toInt (cF40 cx f) n)) ∧ (x2 = iI (mnI (cF40 cy f 0).toInt (cF40 cy f) n)) ∧ (x3 = iI (mxI (cF40 cx f 0).toInt (cF40 cx f) n)) ∧ (x4 = iI (mxI (cF40 cy f 0).toInt (cF40 cy f) n)) ∧ zPD (dC, dI) classes A [(om k0 a (upd (upd (upd (upd I0 44 x1) 45 x2) 46 x3) 47 x4) J0), (oa (a 11) cI 201 mn), (oa (a 12) cI 8040 cx), (oa (a 13) cI 8040 cy)] t.heap) 0 0 := by
  refine zIn (own := "ScaleShopModel") (loc := [(0, .ref k0), (1, .int (nI f)), (2, .int 1)]) rfl rfl rfl rfl (fun p e s m below meth c hx hb hr hts hown hlocks hml hnm9 A hA hS hP hD hK hXN Q9 hQ9 ls hl => ?_)
  refine lv_iconst (v := 0) hx hb dX11_box_0 rfl ?_
  refine lv_istore_n (lv' := [(3, .int 0), (0, .ref k0), (1, .int (nI f)), (2, .int 1)]) hx hb dX11_box_1 rfl hl (Nat.le_of_ble_eq_true rfl) rfl (fun ls hl => ?_)
  have hl_2 : ∀ (n9 : Nat) (k : Nat) (x1 : Int32) (x2 : Int32) (x3 : Int32) (x4 : Int32) (H : Heap) (locs : List Loc) (ls : Array Slot), n - k < n9 → (k ≤ n) → (0 < k → (x1.toInt = mnI (cF40 cx f 0).toInt (cF40 cx f) k ∧ x2.toInt = mnI (cF40 cy f 0).toInt (cF40 cy f) k ∧ x3.toInt = mxI (cF40 cx f 0).toInt (cF40 cx f) k ∧ x4.toInt = mxI (cF40 cy f 0).toInt (cF40 cy f) k)) → va_P (dC, dI) classes [(om k0 a (upd (upd (upd (upd I0 44 x1) 45 x2) 46 x3) 47 x4) J0), (oa (a 11) cI 201 mn), (oa (a 12) cI 8040 cx), (oa (a 13) cI 8040 cy)] H → va_D A [(om k0 a (upd (upd (upd (upd I0 44 x1) 45 x2) 46 x3) 47 x4) J0), (oa (a 11) cI 201 mn), (oa (a 12) cI 8040 cx), (oa (a 13) cI 8040 cy)] → va_S A s.heap H locs → lv_has ls 7 [(3, .int (nI k)), (0, .ref k0), (1, .int (nI f)), (2, .int 1)] → W p l e ({ frames := 1, cells := 0, slots := 0, locals := 14 } : Room) s m ([.ref k0, .int (nI f), .int 1] : List Value).toArray below meth c H locs 0 0 Q9 (F0 m 2 ls []) := by
    intro n9
    induction n9 with
    | zero => intro k x1 x2 x3 x4 H locs ls hm; exact absurd hm (Nat.not_lt_zero _)
    | succ n9 ih_2 =>
      intro k x1 x2 x3 x4 H locs ls hm hk hz hP hD hS hl
      refine lv_iload_n hx hb dX11_box_2 rfl (lv_at hl 0 rfl) ?_
      refine lv_aload_n hx hb dX11_box_3 rfl (lv_at hl 1 rfl) ?_
      refine va_get (D := (dC, dI)) (ci := 9) (v := .ref (a 11)) (C := RX11) (T := TX11) (N := 55) hx hb hts inX11 hown hK hP 0 rfl rfl 11 (Nat.le_of_ble_eq_true rfl) (hts _ mw_1170) (fun _ h9 => h9) rfl dX11_box_4 ?_
      refine lv_iload_n hx hb dX11_box_7 rfl (lv_at hl 2 rfl) ?_
      have b9_1 : f < 201 := by omega
      refine z_iald hx hb hK hP 1 0 rfl rfl (e := f) rfl b9_1 (Nat.le_of_ble_eq_true rfl) dX11_box_8 ?_
      refine zz_i (v := nI n) (hm_f) ?_
      have b9_3 : zlt (k) := show k < 2147483648 by omega
      have b9_4 : zlt (n) := show n < 2147483648 by omega
      refine lv_icmp_ge (tgt := 151) hx hb dX11_box_9 rfl (fun c_2 => ?_) (fun c_2 => ?_)
      · have c_2 : ((n : Nat) : Int) ≤ ((k : Nat) : Int) := zc_le (nI_toInt b9_4) (nI_toInt b9_3) c_2
        have hkn : k = n := (by omega)
        rw [hkn] at hz
        have hz9 := hz (by omega)
        obtain ⟨hP9, hD9⟩ := zu_sub (wc := [_, _, _, _]) hP hD [true, true, true, true] rfl rfl
        rw [hQ9]
        exact W.vret hx hb hr (fun t ht hW => ⟨⟨rfl, x1, x2, x3, x4, (iI_of hz9.1), (iI_of hz9.2.1), (iI_of hz9.2.2.1), (iI_of hz9.2.2.2), by rw [ht]; exact hP9, hD9⟩, hS.F ht⟩) hS.2.2 dX11_box_151
      · have c_2 : ((k : Nat) : Int) < ((n : Nat) : Int) := zc_nle (nI_toInt b9_4) (nI_toInt b9_3) c_2
        have hk9 : k < n := (by omega)
        refine lv_aload_n hx hb dX11_box_12 rfl (lv_at hl 1 rfl) ?_
        refine va_get (D := (dC, dI)) (ci := 9) (v := .ref (a 12)) (C := RX11) (T := TX11) (N := 55) hx hb hts inX11 hown hK hP 0 rfl rfl 12 (Nat.le_of_ble_eq_true rfl) (hts _ mw_1171) (fun _ h9 => h9) rfl dX11_box_13 ?_
        refine lv_bipush (v := 40) hx hb dX11_box_16 rfl ?_
        refine lv_iload_n hx hb dX11_box_18 rfl (lv_at hl 2 rfl) ?_
        refine lv_imul hx hb dX11_box_19 ?_
        refine zz_i (v := nI (40 * f)) (pk_mul 40 f) ?_
        refine lv_iload_n hx hb dX11_box_20 rfl (lv_at hl 0 rfl) ?_
        refine lv_iadd hx hb dX11_box_21 ?_
        refine zz_i (v := nI (40 * f + k)) (nI_add (40 * f) k) ?_
        have b9_5 : 40 * f + k < 8040 := by omega
        refine z_iald hx hb hK hP 2 0 rfl rfl (e := 40 * f + k) rfl b9_5 (Nat.le_of_ble_eq_true rfl) dX11_box_22 ?_
        refine zz_i (v := cF40 cx f k) (rfl) ?_
        refine lv_istore (lv' := [(4, .int (cF40 cx f k)), (3, .int (nI k)), (0, .ref k0), (1, .int (nI f)), (2, .int 1)]) hx hb dX11_box_23 hl (Nat.le_of_ble_eq_true rfl) rfl (fun ls hl => ?_)
        refine lv_aload_n hx hb dX11_box_25 rfl (lv_at hl 2 rfl) ?_
        refine va_get (D := (dC, dI)) (ci := 9) (v := .ref (a 13)) (C := RX11) (T := TX11) (N := 55) hx hb hts inX11 hown hK hP 0 rfl rfl 13 (Nat.le_of_ble_eq_true rfl) (hts _ mw_1172) (fun _ h9 => h9) rfl dX11_box_26 ?_
        refine lv_bipush (v := 40) hx hb dX11_box_29 rfl ?_
        refine lv_iload_n hx hb dX11_box_31 rfl (lv_at hl 3 rfl) ?_
        refine lv_imul hx hb dX11_box_32 ?_
        refine zz_i (v := nI (40 * f)) (pk_mul 40 f) ?_
        refine lv_iload_n hx hb dX11_box_33 rfl (lv_at hl 1 rfl) ?_
        refine lv_iadd hx hb dX11_box_34 ?_
        refine zz_i (v := nI (40 * f + k)) (nI_add (40 * f) k) ?_
        refine z_iald hx hb hK hP 3 0 rfl rfl (e := 40 * f + k) rfl b9_5 (Nat.le_of_ble_eq_true rfl) dX11_box_35 ?_
        refine zz_i (v := cF40 cy f k) (rfl) ?_
        refine lv_istore (lv' := [(5, .int (cF40 cy f k)), (4, .int (cF40 cx f k)), (3, .int (nI k)), (0, .ref k0), (1, .int (nI f)), (2, .int 1)]) hx hb dX11_box_36 hl (Nat.le_of_ble_eq_true rfl) rfl (fun ls hl => ?_)
        refine lv_iload_n hx hb dX11_box_38 rfl (lv_at hl 5 rfl) ?_
        refine lv_if_eq (tgt := 50) hx hb dX11_box_39 rfl (fun c_6 => ?_) (fun c_6 => ?_)
        · exact absurd c_6 (by decide)
        · refine lv_iload_n hx hb dX11_box_42 rfl (lv_at hl 2 rfl) ?_
          refine lv_if_ne (tgt := 50) hx hb dX11_box_43 rfl (fun c_7 => ?_) (fun c_7 => ?_)
          · have c_7 : ¬ ((k : Nat) : Int) = 0 := zc_ne (nI_toInt b9_3) rfl c_7
            refine lv_iconst (v := 0) hx hb dX11_box_50 rfl ?_
            refine lv_istore (lv' := [(6, .int 0), (5, .int (cF40 cy f k)), (4, .int (cF40 cx f k)), (3, .int (nI k)), (0, .ref k0), (1, .int (nI f)), (2, .int 1)]) hx hb dX11_box_51 hl (Nat.le_of_ble_eq_true rfl) rfl (fun ls hl => ?_)
            refine lv_aload_n hx hb dX11_box_53 rfl (lv_at hl 4 rfl) ?_
            refine lv_iload hx hb dX11_box_54 (lv_at hl 0 rfl) ?_
            refine lv_if_eq (tgt := 64) hx hb dX11_box_56 rfl (fun c_8 => ?_) (fun c_8 => ?_)
            · refine lv_aload_n hx hb dX11_box_64 rfl (lv_at hl 4 rfl) ?_
              refine va_get (D := (dC, dI)) (ci := 9) (v := .int x1) (C := RX11) (T := TX11) (N := 55) hx hb hts inX11 hown hK hP 0 rfl rfl 44 (Nat.le_of_ble_eq_true rfl) (hts _ mw_1203) (fun _ h9 => h9) rfl dX11_box_65 ?_
              refine lv_iload hx hb dX11_box_68 (lv_at hl 2 rfl) ?_
              refine va_mmin hx hb (by rw [hml]; exact hl.1.symm) hown (hts _ mw_1397) (hts _ mw_858) (hts _ mw_103) (hts _ mw_mincode) (Nat.le_of_ble_eq_true rfl) (Nat.le_of_ble_eq_true rfl) (Nat.le_of_ble_eq_true rfl) (Nat.le_of_ble_eq_true rfl) dX11_box_70 ?_
              refine lv_topi (fun v_9 ev_9 => ?_)
              have hv_9 : v_9.toInt = min x1.toInt (cF40 cx f k).toInt := zmin rfl rfl ev_9
              refine va_put (D := (dC, dI)) (ci := 9) (v := .int v_9) (ty := .int) (C := RX11) (T := TX11) (N := 55) hx hb hts inX11 tyX11 tyX11_ok nmX11 hown hK hP hD hS 0 rfl rfl 44 (by decide) (hts _ mw_1203) (fun _ h9 => h9) rfl (by decide +kernel) rfl rfl (Nat.le_of_ble_eq_true rfl) dX11_box_73 (fun H locs hP hD hS => ?_)
              obtain ⟨hP, hD⟩ := zre (W2 := [(om k0 a (upd (upd (upd (upd I0 44 v_9) 45 x2) 46 x3) 47 x4) J0), _, _, _]) hP hD rfl
              refine lv_aload_n hx hb dX11_box_76 rfl (lv_at hl 4 rfl) ?_
              refine lv_iload hx hb dX11_box_77 (lv_at hl 0 rfl) ?_
              refine lv_if_eq (tgt := 87) hx hb dX11_box_79 rfl (fun c_10 => ?_) (fun c_10 => ?_)
              · refine lv_aload_n hx hb dX11_box_87 rfl (lv_at hl 4 rfl) ?_
                refine va_get (D := (dC, dI)) (ci := 9) (v := .int x2) (C := RX11) (T := TX11) (N := 55) hx hb hts inX11 hown hK hP 0 rfl rfl 45 (Nat.le_of_ble_eq_true rfl) (hts _ mw_1204) (fun _ h9 => h9) rfl dX11_box_88 ?_
                refine lv_iload hx hb dX11_box_91 (lv_at hl 1 rfl) ?_
                refine va_mmin hx hb (by rw [hml]; exact hl.1.symm) hown (hts _ mw_1397) (hts _ mw_858) (hts _ mw_103) (hts _ mw_mincode) (Nat.le_of_ble_eq_true rfl) (Nat.le_of_ble_eq_true rfl) (Nat.le_of_ble_eq_true rfl) (Nat.le_of_ble_eq_true rfl) dX11_box_93 ?_
                refine lv_topi (fun v_11 ev_11 => ?_)
                have hv_11 : v_11.toInt = min x2.toInt (cF40 cy f k).toInt := zmin rfl rfl ev_11
                refine va_put (D := (dC, dI)) (ci := 9) (v := .int v_11) (ty := .int) (C := RX11) (T := TX11) (N := 55) hx hb hts inX11 tyX11 tyX11_ok nmX11 hown hK hP hD hS 0 rfl rfl 45 (by decide) (hts _ mw_1204) (fun _ h9 => h9) rfl (by decide +kernel) rfl rfl (Nat.le_of_ble_eq_true rfl) dX11_box_96 (fun H locs hP hD hS => ?_)
                obtain ⟨hP, hD⟩ := zre (W2 := [(om k0 a (upd (upd (upd (upd I0 44 v_9) 45 v_11) 46 x3) 47 x4) J0), _, _, _]) hP hD rfl
                refine lv_aload_n hx hb dX11_box_99 rfl (lv_at hl 4 rfl) ?_
                refine lv_iload hx hb dX11_box_100 (lv_at hl 0 rfl) ?_
                refine lv_if_eq (tgt := 110) hx hb dX11_box_102 rfl (fun c_12 => ?_) (fun c_12 => ?_)
                · refine lv_aload_n hx hb dX11_box_110 rfl (lv_at hl 4 rfl) ?_
                  refine va_get (D := (dC, dI)) (ci := 9) (v := .int x3) (C := RX11) (T := TX11) (N := 55) hx hb hts inX11 hown hK hP 0 rfl rfl 46 (Nat.le_of_ble_eq_true rfl) (hts _ mw_1205) (fun _ h9 => h9) rfl dX11_box_111 ?_
                  refine lv_iload hx hb dX11_box_114 (lv_at hl 2 rfl) ?_
                  refine va_mmax hx hb (by rw [hml]; exact hl.1.symm) hown (hts _ mw_1398) (hts _ mw_159) (hts _ mw_103) (hts _ mw_maxcode) (Nat.le_of_ble_eq_true rfl) (Nat.le_of_ble_eq_true rfl) (Nat.le_of_ble_eq_true rfl) (Nat.le_of_ble_eq_true rfl) dX11_box_116 ?_
                  refine lv_topi (fun v_13 ev_13 => ?_)
                  have hv_13 : v_13.toInt = max x3.toInt (cF40 cx f k).toInt := zmax rfl rfl ev_13
                  refine va_put (D := (dC, dI)) (ci := 9) (v := .int v_13) (ty := .int) (C := RX11) (T := TX11) (N := 55) hx hb hts inX11 tyX11 tyX11_ok nmX11 hown hK hP hD hS 0 rfl rfl 46 (by decide) (hts _ mw_1205) (fun _ h9 => h9) rfl (by decide +kernel) rfl rfl (Nat.le_of_ble_eq_true rfl) dX11_box_119 (fun H locs hP hD hS => ?_)
                  obtain ⟨hP, hD⟩ := zre (W2 := [(om k0 a (upd (upd (upd (upd I0 44 v_9) 45 v_11) 46 v_13) 47 x4) J0), _, _, _]) hP hD rfl
                  refine lv_aload_n hx hb dX11_box_122 rfl (lv_at hl 4 rfl) ?_
                  refine lv_iload hx hb dX11_box_123 (lv_at hl 0 rfl) ?_
                  refine lv_if_eq (tgt := 133) hx hb dX11_box_125 rfl (fun c_14 => ?_) (fun c_14 => ?_)
                  · refine lv_aload_n hx hb dX11_box_133 rfl (lv_at hl 4 rfl) ?_
                    refine va_get (D := (dC, dI)) (ci := 9) (v := .int x4) (C := RX11) (T := TX11) (N := 55) hx hb hts inX11 hown hK hP 0 rfl rfl 47 (Nat.le_of_ble_eq_true rfl) (hts _ mw_1206) (fun _ h9 => h9) rfl dX11_box_134 ?_
                    refine lv_iload hx hb dX11_box_137 (lv_at hl 1 rfl) ?_
                    refine va_mmax hx hb (by rw [hml]; exact hl.1.symm) hown (hts _ mw_1398) (hts _ mw_159) (hts _ mw_103) (hts _ mw_maxcode) (Nat.le_of_ble_eq_true rfl) (Nat.le_of_ble_eq_true rfl) (Nat.le_of_ble_eq_true rfl) (Nat.le_of_ble_eq_true rfl) dX11_box_139 ?_
                    refine lv_topi (fun v_15 ev_15 => ?_)
                    have hv_15 : v_15.toInt = max x4.toInt (cF40 cy f k).toInt := zmax rfl rfl ev_15
                    refine va_put (D := (dC, dI)) (ci := 9) (v := .int v_15) (ty := .int) (C := RX11) (T := TX11) (N := 55) hx hb hts inX11 tyX11 tyX11_ok nmX11 hown hK hP hD hS 0 rfl rfl 47 (by decide) (hts _ mw_1206) (fun _ h9 => h9) rfl (by decide +kernel) rfl rfl (Nat.le_of_ble_eq_true rfl) dX11_box_142 (fun H locs hP hD hS => ?_)
                    obtain ⟨hP, hD⟩ := zre (W2 := [(om k0 a (upd (upd (upd (upd I0 44 v_9) 45 v_11) 46 v_13) 47 v_15) J0), _, _, _]) hP hD rfl
                    refine lv_iinc (v := nI (k + 1)) (lv' := [(3, .int (nI (k + 1))), (6, .int 0), (5, .int (cF40 cy f k)), (4, .int (cF40 cx f k)), (0, .ref k0), (1, .int (nI f)), (2, .int 1)]) hx hb dX11_box_145 hl (k := 3) rfl (nI_add k 1) (Nat.le_of_ble_eq_true rfl) rfl (fun ls hl => ?_)
                    refine lv_goto (tgt := 2) hx hb dX11_box_148 rfl ?_
                    exact ih_2 (k + 1) v_9 v_11 v_13 v_15 H locs ls (by first | with_reducible assumption | omega) (by first | with_reducible assumption | omega) (by intro _; rw [mnI_s, mnI_s, mxI_s, mxI_s]; rcases Nat.eq_zero_or_pos k with h0 | h0; (try (have e1 : mnI (cF40 cx f 0).toInt (cF40 cx f) k = (cF40 cx f 0).toInt := (by rw [h0]; rfl); have e2 : mnI (cF40 cy f 0).toInt (cF40 cy f) k = (cF40 cy f 0).toInt := (by rw [h0]; rfl); have e3 : mxI (cF40 cx f 0).toInt (cF40 cx f) k = (cF40 cx f 0).toInt := (by rw [h0]; rfl); have e4 : mxI (cF40 cy f 0).toInt (cF40 cy f) k = (cF40 cy f 0).toInt := (by rw [h0]; rfl); have e5 : (cF40 cx f k).toInt = (cF40 cx f 0).toInt := (by rw [h0]); have e6 : (cF40 cy f k).toInt = (cF40 cy f 0).toInt := (by rw [h0]))); (first | omega | (have h9 := hz; omega)); (first | (have h9 := hz h0; omega) | (have h9 := hz; omega) | omega)) hP hD hS (lv_sub hl [0, 4, 5, 6] rfl)
                  · exact absurd (by decide) c_14
                · exact absurd (by decide) c_12
              · exact absurd (by decide) c_10
            · exact absurd (by decide) c_8
          · have c_7 : ((k : Nat) : Int) = 0 := zc_eq (nI_toInt b9_3) rfl c_7
            refine lv_iconst (v := 1) hx hb dX11_box_46 rfl ?_
            refine lv_goto (tgt := 51) hx hb dX11_box_47 rfl ?_
            refine lv_istore (lv' := [(6, .int 1), (5, .int (cF40 cy f k)), (4, .int (cF40 cx f k)), (3, .int (nI k)), (0, .ref k0), (1, .int (nI f)), (2, .int 1)]) hx hb dX11_box_51 hl (Nat.le_of_ble_eq_true rfl) rfl (fun ls hl => ?_)
            refine lv_aload_n hx hb dX11_box_53 rfl (lv_at hl 4 rfl) ?_
            refine lv_iload hx hb dX11_box_54 (lv_at hl 0 rfl) ?_
            refine lv_if_eq (tgt := 64) hx hb dX11_box_56 rfl (fun c_16 => ?_) (fun c_16 => ?_)
            · exact absurd c_16 (by decide)
            · refine lv_iload hx hb dX11_box_59 (lv_at hl 2 rfl) ?_
              refine lv_goto (tgt := 73) hx hb dX11_box_61 rfl ?_
              refine va_put (D := (dC, dI)) (ci := 9) (v := .int (cF40 cx f k)) (ty := .int) (C := RX11) (T := TX11) (N := 55) hx hb hts inX11 tyX11 tyX11_ok nmX11 hown hK hP hD hS 0 rfl rfl 44 (by decide) (hts _ mw_1203) (fun _ h9 => h9) rfl (by decide +kernel) rfl rfl (Nat.le_of_ble_eq_true rfl) dX11_box_73 (fun H locs hP hD hS => ?_)
              obtain ⟨hP, hD⟩ := zre (W2 := [(om k0 a (upd (upd (upd (upd I0 44 (cF40 cx f k)) 45 x2) 46 x3) 47 x4) J0), _, _, _]) hP hD rfl
              refine lv_aload_n hx hb dX11_box_76 rfl (lv_at hl 4 rfl) ?_
              refine lv_iload hx hb dX11_box_77 (lv_at hl 0 rfl) ?_
              refine lv_if_eq (tgt := 87) hx hb dX11_box_79 rfl (fun c_17 => ?_) (fun c_17 => ?_)
              · exact absurd c_17 (by decide)
              · refine lv_iload hx hb dX11_box_82 (lv_at hl 1 rfl) ?_
                refine lv_goto (tgt := 96) hx hb dX11_box_84 rfl ?_
                refine va_put (D := (dC, dI)) (ci := 9) (v := .int (cF40 cy f k)) (ty := .int) (C := RX11) (T := TX11) (N := 55) hx hb hts inX11 tyX11 tyX11_ok nmX11 hown hK hP hD hS 0 rfl rfl 45 (by decide) (hts _ mw_1204) (fun _ h9 => h9) rfl (by decide +kernel) rfl rfl (Nat.le_of_ble_eq_true rfl) dX11_box_96 (fun H locs hP hD hS => ?_)
                obtain ⟨hP, hD⟩ := zre (W2 := [(om k0 a (upd (upd (upd (upd I0 44 (cF40 cx f k)) 45 (cF40 cy f k)) 46 x3) 47 x4) J0), _, _, _]) hP hD rfl
                refine lv_aload_n hx hb dX11_box_99 rfl (lv_at hl 4 rfl) ?_
                refine lv_iload hx hb dX11_box_100 (lv_at hl 0 rfl) ?_
                refine lv_if_eq (tgt := 110) hx hb dX11_box_102 rfl (fun c_18 => ?_) (fun c_18 => ?_)
                · exact absurd c_18 (by decide)
                · refine lv_iload hx hb dX11_box_105 (lv_at hl 2 rfl) ?_
                  refine lv_goto (tgt := 119) hx hb dX11_box_107 rfl ?_
                  refine va_put (D := (dC, dI)) (ci := 9) (v := .int (cF40 cx f k)) (ty := .int) (C := RX11) (T := TX11) (N := 55) hx hb hts inX11 tyX11 tyX11_ok nmX11 hown hK hP hD hS 0 rfl rfl 46 (by decide) (hts _ mw_1205) (fun _ h9 => h9) rfl (by decide +kernel) rfl rfl (Nat.le_of_ble_eq_true rfl) dX11_box_119 (fun H locs hP hD hS => ?_)
                  obtain ⟨hP, hD⟩ := zre (W2 := [(om k0 a (upd (upd (upd (upd I0 44 (cF40 cx f k)) 45 (cF40 cy f k)) 46 (cF40 cx f k)) 47 x4) J0), _, _, _]) hP hD rfl
                  refine lv_aload_n hx hb dX11_box_122 rfl (lv_at hl 4 rfl) ?_
                  refine lv_iload hx hb dX11_box_123 (lv_at hl 0 rfl) ?_
                  refine lv_if_eq (tgt := 133) hx hb dX11_box_125 rfl (fun c_19 => ?_) (fun c_19 => ?_)
                  · exact absurd c_19 (by decide)
                  · refine lv_iload hx hb dX11_box_128 (lv_at hl 1 rfl) ?_
                    refine lv_goto (tgt := 142) hx hb dX11_box_130 rfl ?_
                    refine va_put (D := (dC, dI)) (ci := 9) (v := .int (cF40 cy f k)) (ty := .int) (C := RX11) (T := TX11) (N := 55) hx hb hts inX11 tyX11 tyX11_ok nmX11 hown hK hP hD hS 0 rfl rfl 47 (by decide) (hts _ mw_1206) (fun _ h9 => h9) rfl (by decide +kernel) rfl rfl (Nat.le_of_ble_eq_true rfl) dX11_box_142 (fun H locs hP hD hS => ?_)
                    obtain ⟨hP, hD⟩ := zre (W2 := [(om k0 a (upd (upd (upd (upd I0 44 (cF40 cx f k)) 45 (cF40 cy f k)) 46 (cF40 cx f k)) 47 (cF40 cy f k)) J0), _, _, _]) hP hD rfl
                    refine lv_iinc (v := nI (k + 1)) (lv' := [(3, .int (nI (k + 1))), (6, .int 1), (5, .int (cF40 cy f k)), (4, .int (cF40 cx f k)), (0, .ref k0), (1, .int (nI f)), (2, .int 1)]) hx hb dX11_box_145 hl (k := 3) rfl (nI_add k 1) (Nat.le_of_ble_eq_true rfl) rfl (fun ls hl => ?_)
                    refine lv_goto (tgt := 2) hx hb dX11_box_148 rfl ?_
                    exact ih_2 (k + 1) (cF40 cx f k) (cF40 cy f k) (cF40 cx f k) (cF40 cy f k) H locs ls (by first | with_reducible assumption | omega) (by first | with_reducible assumption | omega) (by intro _; rw [mnI_s, mnI_s, mxI_s, mxI_s]; rcases Nat.eq_zero_or_pos k with h0 | h0; (try (have e1 : mnI (cF40 cx f 0).toInt (cF40 cx f) k = (cF40 cx f 0).toInt := (by rw [h0]; rfl); have e2 : mnI (cF40 cy f 0).toInt (cF40 cy f) k = (cF40 cy f 0).toInt := (by rw [h0]; rfl); have e3 : mxI (cF40 cx f 0).toInt (cF40 cx f) k = (cF40 cx f 0).toInt := (by rw [h0]; rfl); have e4 : mxI (cF40 cy f 0).toInt (cF40 cy f) k = (cF40 cy f 0).toInt := (by rw [h0]; rfl); have e5 : (cF40 cx f k).toInt = (cF40 cx f 0).toInt := (by rw [h0]); have e6 : (cF40 cy f k).toInt = (cF40 cy f 0).toInt := (by rw [h0]))); (first | omega | (have h9 := hz; omega)); (first | (have h9 := hz h0; omega) | (have h9 := hz; omega) | omega)) hP hD hS (lv_sub hl [0, 4, 5, 6] rfl)
  exact hl_2 _ 0 (I0 44) (I0 45) (I0 46) (I0 47) s.heap [] ls (Nat.lt_succ_self _) (by first | with_reducible assumption | omega) (by first | with_reducible assumption | omega) hP hD hS (lv_sub hl [0, 1, 2, 3] rfl)
end
section
set_option maxHeartbeats 4000000 in
set_option maxRecDepth 100000 in
theorem k_M_square_4 (l : Launch) (dC : Nat → ClassId) (dI : Nat → Nat → Nat) (cI cZ cF : ClassId) (sz : Nat) (k0 : Nat) (a : Nat → Nat) (I0 : Nat → Int32) (J0 : Nat → Int64) (f : Nat) (n : Nat) (ft : Nat) (ms : Int32) (kd : Nat → Int32) (st : Nat → Int32) (gb : Nat → Int32) (it : Nat → Int32) (pa : Nat → Int32) (pb : Nat → Int32) (rk : Nat → Int32) (wd : Nat → Int32) (tw : Nat → Int32) (tn : Nat → Int32) (mn : Nat → Int32) (cx : Nat → Int32) (cy : Nat → Int32) (sa : Nat → Int32) (sh : Nat → Int32) (wh : Nat → Int32) (of9 : Nat → Int32) (we : Nat → Int32) (S0 : Nat → Int32) (T0 : Nat → Int32) (P0 : Nat → Int32) (Q0 : Nat → Int32) (ox : Nat → Int32) (oy : Nat → Int32) (mt : Nat → Int32) (wi : Nat → Int32) (ins : Nat → Int32) (la : Nat → Int32) (lb : Nat → Int32) (lc : Nat → Int32) (ld : Nat → Int32) (cp : Nat) (cl : Nat) (hft : I0 0 = nI ft) (h200 : ft ≤ 200) (hf_f : f ≤ 200) (hm_f : mn f = nI n) (hn_f : 1 ≤ n ∧ n ≤ 40) (hp_f : pls n (cF40 cx f) (cF40 cy f)) (hft_f : f < ft) (hwf : ∀ q, lvF ft st tn q → wfM mn cx cy q) (hst1 : (st f).toInt = 1) (htn0 : (tn f).toInt = 0) (hkd5 : (kd f).toInt = 5) (hms : 0 ≤ ms.toInt) (hdf : ms.toInt < dfB n (cF40 cx f) (cF40 cy f)) : zM l yX11_square cX11_square 6 (some .boolean) ({ frames := 2, cells := 0, slots := 0, locals := 49 } : Room) [.ref k0, .int (nI f), .int ms] (dC, dI) (zTy cI cZ cF) [(om k0 a I0 J0), (oa (a 1) cI 201 kd), (oa (a 5) cI 201 st), (oa (a 7) cI 201 gb), (oa (a 10) cI 201 it), (oa (a 8) cI 201 pa), (oa (a 9) cI 201 pb), (oa (a 2) cI 201 rk), (oa (a 3) cI 201 wd), (oa (a 4) cI 201 tw), (oa (a 6) cZ 201 tn), (oa (a 11) cI 201 mn), (oa (a 12) cI 8040 cx), (oa (a 13) cI 8040 cy), (oa (a 27) cI 516 sa), (oa (a 28) cI (4096 * cp) sh), (oa (a 16) cI 514 wh), (oa (a 17) cI 514 of9), (oa (a 18) cI 514 we), (oa (a 32) cI 8 S0), (oa (a 40) cI 6 T0), (oa (a 29) cI 42 P0), (oa (a 30) cI 42 Q0), (oa (a 33) cI 42 ox), (oa (a 34) cI 42 oy), (oa (a 37) cZ 201 mt), (oa (a 38) cZ 201 wi), (oa (a 39) cZ 8040 ins), (oa (a 22) cI (64 * cl) la), (oa (a 23) cI (64 * cl) lb), (oa (a 24) cI (64 * cl) lc), (oa (a 25) cI (64 * cl) ld)] sz (some (.int 0)) (fun A t => ∃ (S1 : Nat → Int32), ∃ (x1 : Int32), ∃ (x2 : Int32), ∃ (x3 : Int32), ∃ (x4 : Int32), (x1 = iI (mnI (cF40 cx f 0).toInt (cF40 cx f) n)) ∧ (x2 = iI (mnI (cF40 cy f 0).toInt (cF40 cy f) n)) ∧ (x3 = iI (mxI (cF40 cx f 0).toInt (cF40 cx f) n)) ∧ (x4 = iI (mxI (cF40 cy f 0).toInt (cF40 cy f) n)) ∧ zPD (dC, dI) classes A [(om k0 a (upd (upd (upd (upd (upd (upd I0 14 4) 15 (I0 15)) 44 x1) 45 x2) 46 x3) 47 x4) J0), (oa (a 1) cI 201 kd), (oa (a 5) cI 201 st), (oa (a 7) cI 201 gb), (oa (a 10) cI 201 it), (oa (a 8) cI 201 pa), (oa (a 9) cI 201 pb), (oa (a 2) cI 201 rk), (oa (a 3) cI 201 wd), (oa (a 4) cI 201 tw), (oa (a 6) cZ 201 tn), (oa (a 11) cI 201 mn), (oa (a 12) cI 8040 cx), (oa (a 13) cI 8040 cy), (oa (a 27) cI 516 sa), (oa (a 28) cI (4096 * cp) sh), (oa (a 16) cI 514 wh), (oa (a 17) cI 514 of9), (oa (a 18) cI 514 we), (oa (a 32) cI 8 S1), (oa (a 40) cI 6 T0), (oa (a 29) cI 42 P0), (oa (a 30) cI 42 Q0), (oa (a 33) cI 42 ox), (oa (a 34) cI 42 oy), (oa (a 37) cZ 201 mt), (oa (a 38) cZ 201 wi), (oa (a 39) cZ 8040 ins), (oa (a 22) cI (64 * cl) la), (oa (a 23) cI (64 * cl) lb), (oa (a 24) cI (64 * cl) lc), (oa (a 25) cI (64 * cl) ld)] t.heap) 0 0 := by
  refine zIn (own := "ScaleShopModel") (loc := [(0, .ref k0), (1, .int (nI f)), (2, .int ms)]) rfl rfl rfl rfl (fun p e s m below meth c hx hb hr hts hown hlocks hml hnm9 A hA hS hP hD hK hXN Q9 hQ9 ls hl => ?_)
  refine lv_aload_n hx hb dX11_square_0 rfl (lv_at hl 0 rfl) ?_
  refine lv_iload_n hx hb dX11_square_1 rfl (lv_at hl 1 rfl) ?_
  obtain ⟨hPc, hDc, hFc, hI1⟩ := zi_sub (wc := [_, _]) hP hD hS hA [0, 2] rfl rfl
  refine zcall (st1 := [.int (wrN (st f))]) (va_runV (As := [.int (nI f)]) (rest := []) ⟨hx, hb, hml, hown, hts⟩ (k_M_wrong l dC dI cI cZ cF s.heap.size k0 a I0 J0 f ft st (by first | with_reducible assumption | assumption) (by first | with_reducible assumption | omega) (by first | with_reducible assumption | omega)) (csV_209 hts rfl rfl ⟨Nat.le_of_ble_eq_true rfl, Nat.le_of_ble_eq_true rfl⟩) (zPV2 (q0 := 0) (ci := 9) hPc hDc hK hXN rfl rfl) rfl rfl hl.1 rfl (lv_room (Nat.le_of_ble_eq_true rfl)) dX11_square_2 ⟨Nat.le_of_ble_eq_true rfl, Nat.le_of_ble_eq_true rfl⟩) hS hFc hFc rfl (fun t H locs ht hB hk1 hS => ?_)
  obtain ⟨hP1, hD1⟩ := hB
  rw [ht] at hP1
  replace hP := z0 hP hD hk1 hP1 hI1
  clear hk1 hPc hDc hFc hP1 hD1 ht hI1
  refine zz_i2 (wrN_s (st f)) (fun hs9 => ?_) (fun hs9 => ?_)
  · skip
    refine lv_istore_n (lv' := [(3, .int 0), (0, .ref k0), (1, .int (nI f)), (2, .int ms)]) hx hb dX11_square_5 rfl hl (Nat.le_of_ble_eq_true rfl) rfl (fun ls hl => ?_)
    refine lv_iload_n hx hb dX11_square_6 rfl (lv_at hl 0 rfl) ?_
    refine lv_if_le (tgt := 14) hx hb dX11_square_7 rfl (fun c_1 => ?_) (fun c_1 => ?_)
    · refine lv_aload_n hx hb dX11_square_14 rfl (lv_at hl 1 rfl) ?_
      refine va_get (D := (dC, dI)) (ci := 9) (v := .ref (a 1)) (C := RX11) (T := TX11) (N := 55) hx hb hts inX11 hown hK hP 0 rfl rfl 1 (Nat.le_of_ble_eq_true rfl) (hts _ mw_1160) (fun _ h9 => h9) rfl dX11_square_15 ?_
      refine lv_iload_n hx hb dX11_square_18 rfl (lv_at hl 2 rfl) ?_
      have b9_2 : f < 201 := by omega
      refine z_iald hx hb hK hP 1 0 rfl rfl (e := f) rfl b9_2 (Nat.le_of_ble_eq_true rfl) dX11_square_19 ?_
      refine lv_iconst (v := 5) hx hb dX11_square_20 rfl ?_
      refine lv_icmp_eq (tgt := 28) hx hb dX11_square_21 rfl (fun c_3 => ?_) (fun c_3 => ?_)
      · have c_3 : (kd f).toInt = 5 := zc_eq rfl rfl c_3
        refine lv_iload_n hx hb dX11_square_28 rfl (lv_at hl 3 rfl) ?_
        refine lv_if_ge (tgt := 36) hx hb dX11_square_29 rfl (fun c_4 => ?_) (fun c_4 => ?_)
        · have c_4 : 0 ≤ ms.toInt := zc_le rfl rfl c_4
          refine lv_iconst (v := 0) hx hb dX11_square_36 rfl ?_
          refine lv_istore_n (lv' := [(3, .int 0), (0, .ref k0), (1, .int (nI f)), (2, .int ms)]) hx hb dX11_square_37 rfl hl (Nat.le_of_ble_eq_true rfl) rfl (fun ls hl => ?_)
          refine lv_iload_n hx hb dX11_square_38 rfl (lv_at hl 0 rfl) ?_
          refine lv_if_le (tgt := 48) hx hb dX11_square_39 rfl (fun c_5 => ?_) (fun c_5 => ?_)
          · refine lv_aload_n hx hb dX11_square_48 rfl (lv_at hl 1 rfl) ?_
            refine va_get (D := (dC, dI)) (ci := 9) (v := .ref (a 6)) (C := RX11) (T := TX11) (N := 55) hx hb hts inX11 hown hK hP 0 rfl rfl 6 (Nat.le_of_ble_eq_true rfl) (hts _ mw_1165) (fun _ h9 => h9) rfl dX11_square_49 ?_
            refine lv_iload_n hx hb dX11_square_52 rfl (lv_at hl 2 rfl) ?_
            refine z_zald hx hb hK hP 10 1 rfl rfl (e := f) rfl b9_2 (Nat.le_of_ble_eq_true rfl) dX11_square_53 ?_
            refine lv_if_eq (tgt := 63) hx hb dX11_square_54 rfl (fun c_6 => ?_) (fun c_6 => ?_)
            · have c_6 : (tn f).toInt = 0 := zc_eq rfl rfl c_6
              refine lv_aload_n hx hb dX11_square_63 rfl (lv_at hl 1 rfl) ?_
              refine lv_iload_n hx hb dX11_square_64 rfl (lv_at hl 2 rfl) ?_
              refine lv_iconst (v := 1) hx hb dX11_square_65 rfl ?_
              obtain ⟨hPc, hDc, hFc⟩ := zo_sub (wc := [_, _, _, _]) hP hD hS hA [0, 11, 12, 13] (by decide +kernel) rfl
              refine zcall (st1 := []) (va_runV (As := [.int (nI f), .int 1]) (rest := []) ⟨hx, hb, hml, hown, hts⟩ (k_M_box_v l dC dI cI cZ cF H.size k0 a I0 J0 f n mn cx cy (by first | with_reducible assumption | omega) (by first | with_reducible assumption | assumption) (by first | with_reducible assumption | omega) (by first | with_reducible assumption | assumption)) (csV_221 hts rfl rfl ⟨Nat.le_of_ble_eq_true rfl, Nat.le_of_ble_eq_true rfl⟩) (zPV2 (q0 := 0) (ci := 9) hPc hDc hK hXN rfl rfl) rfl rfl hl.1 rfl (lv_room (Nat.le_of_ble_eq_true rfl)) dX11_square_66 ⟨Nat.le_of_ble_eq_true rfl, Nat.le_of_ble_eq_true rfl⟩) hS hFc hFc rfl (fun t H locs ht hB hk1 hS => ?_)
              obtain ⟨x1, x2, x3, x4, eb1, eb2, eb3, eb4, hP1, hD1⟩ := hB
              rw [ht] at hP1
              obtain ⟨hP, hD⟩ := zn (W2 := [(om k0 a (upd (upd (upd (upd I0 44 x1) 45 x2) 46 x3) 47 x4) J0), _, _, _, _, _, _, _, _, _, _, _, _, _, _, _, _, _, _, _, _, _, _, _, _, _, _, _, _, _, _, _]) hP hD hk1 hFc hP1 hD1 [0, 11, 12, 13] zl_248 zl_248 [0, 11, 12, 13] (by decide +kernel) rfl rfl rfl rfl rfl
              clear hk1 hPc hDc hFc hP1 hD1 ht
              refine lv_ldc2 hx hb hown (hts _ mw_1575) dX11_square_69 ?_
              refine lv_aload_n hx hb dX11_square_72 rfl (lv_at hl 1 rfl) ?_
              refine va_get (D := (dC, dI)) (ci := 9) (v := .int x3) (C := RX11) (T := TX11) (N := 55) hx hb hts inX11 hown hK hP 0 rfl rfl 46 (Nat.le_of_ble_eq_true rfl) (hts _ mw_1205) (fun _ h9 => h9) rfl dX11_square_73 ?_
              refine lv_aload_n hx hb dX11_square_76 rfl (lv_at hl 1 rfl) ?_
              refine va_get (D := (dC, dI)) (ci := 9) (v := .int x1) (C := RX11) (T := TX11) (N := 55) hx hb hts inX11 hown hK hP 0 rfl rfl 44 (Nat.le_of_ble_eq_true rfl) (hts _ mw_1203) (fun _ h9 => h9) rfl dX11_square_77 ?_
              refine lv_isub hx hb dX11_square_80 ?_
              refine lv_i2l (v := (x3 - x1).toInt64) hx hb dX11_square_81 (rfl) ?_
              refine lv_lmul hx hb dX11_square_82 ?_
              refine lv_aload_n hx hb dX11_square_83 rfl (lv_at hl 1 rfl) ?_
              refine va_get (D := (dC, dI)) (ci := 9) (v := .int x4) (C := RX11) (T := TX11) (N := 55) hx hb hts inX11 hown hK hP 0 rfl rfl 47 (Nat.le_of_ble_eq_true rfl) (hts _ mw_1206) (fun _ h9 => h9) rfl dX11_square_84 ?_
              refine lv_aload_n hx hb dX11_square_87 rfl (lv_at hl 1 rfl) ?_
              refine va_get (D := (dC, dI)) (ci := 9) (v := .int x2) (C := RX11) (T := TX11) (N := 55) hx hb hts inX11 hown hK hP 0 rfl rfl 45 (Nat.le_of_ble_eq_true rfl) (hts _ mw_1204) (fun _ h9 => h9) rfl dX11_square_88 ?_
              refine lv_isub hx hb dX11_square_91 ?_
              refine lv_i2l (v := (x4 - x2).toInt64) hx hb dX11_square_92 (rfl) ?_
              refine lv_lmul hx hb dX11_square_93 ?_
              refine lv_aload_n hx hb dX11_square_94 rfl (lv_at hl 1 rfl) ?_
              refine lv_iload_n hx hb dX11_square_95 rfl (lv_at hl 2 rfl) ?_
              obtain ⟨hPc, hDc, hFc⟩ := zo_sub (wc := [_, _, _, _, _]) hP hD hS hA [0, 11, 12, 13, 19] (by decide +kernel) rfl
              refine zcall (st1 := [.long (jI ((Int.natAbs (ar2 n (cF40 cx f) (cF40 cy f) n) : Nat) : Int)), .long ((2 * ((x3 - x1).toInt64)) * ((x4 - x2).toInt64))]) (va_runV (As := [.int (nI f)]) (rest := [.long ((2 * ((x3 - x1).toInt64)) * ((x4 - x2).toInt64))]) ⟨hx, hb, hml, hown, hts⟩ (k_M_area l dC dI cI cZ cF H.size k0 a (upd (upd (upd (upd I0 44 x1) 45 x2) 46 x3) 47 x4) J0 f n mn cx cy S0 (by first | with_reducible assumption | omega) (by first | with_reducible assumption | assumption) (by first | with_reducible assumption | omega) (by first | with_reducible assumption | assumption)) (csV_218 hts rfl rfl ⟨Nat.le_of_ble_eq_true rfl, Nat.le_of_ble_eq_true rfl⟩) (zPV2 (q0 := 0) (ci := 9) hPc hDc hK hXN rfl rfl) rfl rfl hl.1 rfl (lv_room (Nat.le_of_ble_eq_true rfl)) dX11_square_96 ⟨Nat.le_of_ble_eq_true rfl, Nat.le_of_ble_eq_true rfl⟩) hS hFc hFc rfl (fun t H locs ht hB hk1 hS => ?_)
              obtain ⟨S2, hP1, hD1⟩ := hB
              rw [ht] at hP1
              obtain ⟨hP, hD⟩ := zn (W2 := [_, _, _, _, _, _, _, _, _, _, _, _, _, _, _, _, _, _, _, (oa (a 32) cI 8 S2), _, _, _, _, _, _, _, _, _, _, _, _]) hP hD hk1 hFc hP1 hD1 [0, 11, 12, 13, 19] zl_249 zl_249 [0, 11, 12, 13, 19] (by decide +kernel) rfl rfl rfl rfl rfl
              clear hk1 hPc hDc hFc hP1 hD1 ht
              have hdfb := dfB_b hp_f hn_f.1 hn_f.2
              have hmsb := i32B ms
              refine lv_lsub hx hb dX11_square_99 ?_
              refine zz_l (v := jI (dfB n (cF40 cx f) (cF40 cy f))) (by rw [eb1, eb2, eb3, eb4]; exact sqL hp_f hn_f.1 hn_f.2) ?_
              refine lv_lstore (lv' := [(4, .long (jI (dfB n (cF40 cx f) (cF40 cy f)))), (3, .int 0), (0, .ref k0), (1, .int (nI f)), (2, .int ms)]) hx hb dX11_square_100 hl (Nat.le_of_ble_eq_true rfl) rfl (fun ls hl => ?_)
              refine lv_lload hx hb dX11_square_102 (lv_at hl 0 rfl) ?_
              refine lv_iload_n hx hb dX11_square_104 rfl (lv_at hl 4 rfl) ?_
              refine lv_i2l (v := ms.toInt64) hx hb dX11_square_105 (rfl) ?_
              refine zz_l (v := jI ms.toInt) (jI_of (i64 _)) ?_
              refine W.lcmp hx hb dX11_square_106 ?_
              refine lv_if_le (tgt := 116) hx hb dX11_square_107 rfl (fun c_7 => ?_) (fun c_7 => ?_)
              · have c_7 : (dfB n (cF40 cx f) (cF40 cy f)) ≤ ms.toInt := zl_le (jI_toInt (by omega)) (jI_toInt (by omega)) c_7
                exfalso; omega
              · have c_7 : ms.toInt < (dfB n (cF40 cx f) (cF40 cy f)) := zl_nle (jI_toInt (by omega)) (jI_toInt (by omega)) c_7
                refine lv_aload_n hx hb dX11_square_110 rfl (lv_at hl 2 rfl) ?_
                refine lv_iconst (v := 4) hx hb dX11_square_111 rfl ?_
                obtain ⟨hPc, hDc, hFc⟩ := zo_sub (wc := [_]) hP hD hS hA [0] rfl rfl
                refine zcall (st1 := [.int 0]) (va_runV (As := [.int 4]) (rest := []) ⟨hx, hb, hml, hown, hts⟩ (k_M_no l dC dI cI cZ cF H.size k0 a (upd (upd (upd (upd I0 44 x1) 45 x2) 46 x3) 47 x4) J0 4 (by decide)) (csV_198 hts rfl rfl ⟨Nat.le_of_ble_eq_true rfl, Nat.le_of_ble_eq_true rfl⟩) (zPV2 (q0 := 0) (ci := 9) hPc hDc hK hXN rfl rfl) rfl rfl hl.1 rfl (lv_room (Nat.le_of_ble_eq_true rfl)) dX11_square_112 ⟨Nat.le_of_ble_eq_true rfl, Nat.le_of_ble_eq_true rfl⟩) hS hFc hFc rfl (fun t H locs ht hB hk1 hS => ?_)
                obtain ⟨hP1, hD1⟩ := hB
                rw [ht] at hP1
                obtain ⟨hP, hD⟩ := zn (W2 := [(om k0 a (upd (upd (upd (upd (upd (upd I0 14 4) 15 (I0 15)) 44 x1) 45 x2) 46 x3) 47 x4) J0), _, _, _, _, _, _, _, _, _, _, _, _, _, _, _, _, _, _, _, _, _, _, _, _, _, _, _, _, _, _, _]) hP hD hk1 hFc hP1 hD1 [0] zl_183 zl_183 [0] (by decide +kernel) rfl rfl rfl rfl rfl
                clear hk1 hPc hDc hFc hP1 hD1 ht
                obtain ⟨hP9, hD9⟩ := zu_sub (wc := [_, _, _, _, _, _, _, _, _, _, _, _, _, _, _, _, _, _, _, _, _, _, _, _, _, _, _, _, _, _, _, _]) hP hD (true :: true :: true :: true :: true :: true :: true :: true :: true :: true :: true :: true :: true :: true :: true :: true :: true :: true :: true :: true :: true :: true :: true :: true :: true :: true :: true :: true :: true :: true :: true :: true :: []) rfl rfl
                rw [hQ9]
                exact W.zret (ty := .boolean) (v := 0) hx hb hr (rfl) (fun t ht hW => ⟨⟨rfl, S2, x1, x2, x3, x4, (eb1), (eb2), (eb3), (eb4), by rw [ht]; exact hP9, hD9⟩, hS.F ht⟩) hS.2.2 dX11_square_115
            · have c_6 : ¬ (tn f).toInt = 0 := zc_ne rfl rfl c_6
              exfalso; omega
          · exact absurd (by decide) c_5
        · have c_4 : ms.toInt < 0 := zc_nle rfl rfl c_4
          exfalso; omega
      · have c_3 : ¬ (kd f).toInt = 5 := zc_ne rfl rfl c_3
        exfalso; omega
    · exact absurd (by decide) c_1
  · skip
    refine lv_istore_n (lv' := [(3, .int 2), (0, .ref k0), (1, .int (nI f)), (2, .int ms)]) hx hb dX11_square_5 rfl hl (Nat.le_of_ble_eq_true rfl) rfl (fun ls hl => ?_)
    refine lv_iload_n hx hb dX11_square_6 rfl (lv_at hl 0 rfl) ?_
    refine lv_if_le (tgt := 14) hx hb dX11_square_7 rfl (fun c_8 => ?_) (fun c_8 => ?_)
    · exact absurd c_8 (by decide)
    · exfalso; omega
end
section
set_option maxHeartbeats 4000000 in
set_option maxRecDepth 100000 in
theorem k_M_square_n (l : Launch) (dC : Nat → ClassId) (dI : Nat → Nat → Nat) (cI cZ cF : ClassId) (sz : Nat) (k0 : Nat) (a : Nat → Nat) (I0 : Nat → Int32) (J0 : Nat → Int64) (f : Nat) (n : Nat) (ft : Nat) (ms : Int32) (kd : Nat → Int32) (st : Nat → Int32) (gb : Nat → Int32) (it : Nat → Int32) (pa : Nat → Int32) (pb : Nat → Int32) (rk : Nat → Int32) (wd : Nat → Int32) (tw : Nat → Int32) (tn : Nat → Int32) (mn : Nat → Int32) (cx : Nat → Int32) (cy : Nat → Int32) (sa : Nat → Int32) (sh : Nat → Int32) (wh : Nat → Int32) (of9 : Nat → Int32) (we : Nat → Int32) (S0 : Nat → Int32) (T0 : Nat → Int32) (P0 : Nat → Int32) (Q0 : Nat → Int32) (ox : Nat → Int32) (oy : Nat → Int32) (mt : Nat → Int32) (wi : Nat → Int32) (ins : Nat → Int32) (la : Nat → Int32) (lb : Nat → Int32) (lc : Nat → Int32) (ld : Nat → Int32) (cp : Nat) (cl : Nat) (hft : I0 0 = nI ft) (h200 : ft ≤ 200) (hf_f : f ≤ 200) (hm_f : mn f = nI n) (hn_f : 1 ≤ n ∧ n ≤ 40) (hp_f : pls n (cF40 cx f) (cF40 cy f)) (hft_f : f < ft) (hwf : ∀ q, lvF ft st tn q → wfM mn cx cy q) (hst1 : (st f).toInt = 1) (htn0 : (tn f).toInt = 0) (hkd5 : (kd f).toInt = 5) (hms : 0 ≤ ms.toInt) (hdf : dfB n (cF40 cx f) (cF40 cy f) ≤ ms.toInt) (hlaw : ¬ lwS ft st tn kd mn cx cy f n) : zM l yX11_square cX11_square 6 (some .boolean) ({ frames := 7, cells := 0, slots := 0, locals := 183 } : Room) [.ref k0, .int (nI f), .int ms] (dC, dI) (zTy cI cZ cF) [(om k0 a I0 J0), (oa (a 1) cI 201 kd), (oa (a 5) cI 201 st), (oa (a 7) cI 201 gb), (oa (a 10) cI 201 it), (oa (a 8) cI 201 pa), (oa (a 9) cI 201 pb), (oa (a 2) cI 201 rk), (oa (a 3) cI 201 wd), (oa (a 4) cI 201 tw), (oa (a 6) cZ 201 tn), (oa (a 11) cI 201 mn), (oa (a 12) cI 8040 cx), (oa (a 13) cI 8040 cy), (oa (a 27) cI 516 sa), (oa (a 28) cI (4096 * cp) sh), (oa (a 16) cI 514 wh), (oa (a 17) cI 514 of9), (oa (a 18) cI 514 we), (oa (a 32) cI 8 S0), (oa (a 40) cI 6 T0), (oa (a 29) cI 42 P0), (oa (a 30) cI 42 Q0), (oa (a 33) cI 42 ox), (oa (a 34) cI 42 oy), (oa (a 37) cZ 201 mt), (oa (a 38) cZ 201 wi), (oa (a 39) cZ 8040 ins), (oa (a 22) cI (64 * cl) la), (oa (a 23) cI (64 * cl) lb), (oa (a 24) cI (64 * cl) lc), (oa (a 25) cI (64 * cl) ld)] sz (some (.int 0)) (fun A t => ∃ (z9 : Int32), ∃ (S1 : Nat → Int32), ∃ (T1 : Nat → Int32), ∃ (P1 : Nat → Int32), ∃ (Q1 : Nat → Int32), ∃ (ox1 : Nat → Int32), ∃ (oy1 : Nat → Int32), ∃ (mt1 : Nat → Int32), ∃ (wi1 : Nat → Int32), ∃ (ins1 : Nat → Int32), ∃ (x1 : Int32), ∃ (x2 : Int32), ∃ (x3 : Int32), ∃ (x4 : Int32), (x1 = iI (mnI (cF40 cx f 0).toInt (cF40 cx f) n)) ∧ (x2 = iI (mnI (cF40 cy f 0).toInt (cF40 cy f) n)) ∧ (x3 = iI (mxI (cF40 cx f 0).toInt (cF40 cx f) n)) ∧ (x4 = iI (mxI (cF40 cy f 0).toInt (cF40 cy f) n)) ∧ zPD (dC, dI) classes A [(om k0 a (upd (upd (upd (upd (upd (upd (upd (upd (upd I0 14 7) 15 (I0 15 + 1)) 31 z9) 35 (nI n)) 36 (kd f)) 44 x1) 45 x2) 46 x3) 47 x4) J0), (oa (a 1) cI 201 kd), (oa (a 5) cI 201 st), (oa (a 7) cI 201 gb), (oa (a 10) cI 201 it), (oa (a 8) cI 201 pa), (oa (a 9) cI 201 pb), (oa (a 2) cI 201 rk), (oa (a 3) cI 201 wd), (oa (a 4) cI 201 tw), (oa (a 6) cZ 201 tn), (oa (a 11) cI 201 mn), (oa (a 12) cI 8040 (fgX f n (cF40 cx f) (bxX f x1 x3 4 cx))), (oa (a 13) cI 8040 (fgX f n (cF40 cy f) (bxY f x2 x4 4 cy))), (oa (a 27) cI 516 sa), (oa (a 28) cI (4096 * cp) sh), (oa (a 16) cI 514 wh), (oa (a 17) cI 514 of9), (oa (a 18) cI 514 we), (oa (a 32) cI 8 S1), (oa (a 40) cI 6 T1), (oa (a 29) cI 42 P1), (oa (a 30) cI 42 Q1), (oa (a 33) cI 42 ox1), (oa (a 34) cI 42 oy1), (oa (a 37) cZ 201 mt1), (oa (a 38) cZ 201 wi1), (oa (a 39) cZ 8040 ins1), (oa (a 22) cI (64 * cl) la), (oa (a 23) cI (64 * cl) lb), (oa (a 24) cI (64 * cl) lc), (oa (a 25) cI (64 * cl) ld)] t.heap) 0 0 := by
  refine zIn (own := "ScaleShopModel") (loc := [(0, .ref k0), (1, .int (nI f)), (2, .int ms)]) rfl rfl rfl rfl (fun p e s m below meth c hx hb hr hts hown hlocks hml hnm9 A hA hS hP hD hK hXN Q9 hQ9 ls hl => ?_)
  refine lv_aload_n hx hb dX11_square_0 rfl (lv_at hl 0 rfl) ?_
  refine lv_iload_n hx hb dX11_square_1 rfl (lv_at hl 1 rfl) ?_
  obtain ⟨hPc, hDc, hFc, hI1⟩ := zi_sub (wc := [_, _]) hP hD hS hA [0, 2] rfl rfl
  refine zcall (st1 := [.int (wrN (st f))]) (va_runV (As := [.int (nI f)]) (rest := []) ⟨hx, hb, hml, hown, hts⟩ (k_M_wrong l dC dI cI cZ cF s.heap.size k0 a I0 J0 f ft st (by first | with_reducible assumption | assumption) (by first | with_reducible assumption | omega) (by first | with_reducible assumption | omega)) (csV_209 hts rfl rfl ⟨Nat.le_of_ble_eq_true rfl, Nat.le_of_ble_eq_true rfl⟩) (zPV2 (q0 := 0) (ci := 9) hPc hDc hK hXN rfl rfl) rfl rfl hl.1 rfl (lv_room (Nat.le_of_ble_eq_true rfl)) dX11_square_2 ⟨Nat.le_of_ble_eq_true rfl, Nat.le_of_ble_eq_true rfl⟩) hS hFc hFc rfl (fun t H locs ht hB hk1 hS => ?_)
  obtain ⟨hP1, hD1⟩ := hB
  rw [ht] at hP1
  replace hP := z0 hP hD hk1 hP1 hI1
  clear hk1 hPc hDc hFc hP1 hD1 ht hI1
  refine zz_i2 (wrN_s (st f)) (fun hs9 => ?_) (fun hs9 => ?_)
  · skip
    refine lv_istore_n (lv' := [(3, .int 0), (0, .ref k0), (1, .int (nI f)), (2, .int ms)]) hx hb dX11_square_5 rfl hl (Nat.le_of_ble_eq_true rfl) rfl (fun ls hl => ?_)
    refine lv_iload_n hx hb dX11_square_6 rfl (lv_at hl 0 rfl) ?_
    refine lv_if_le (tgt := 14) hx hb dX11_square_7 rfl (fun c_1 => ?_) (fun c_1 => ?_)
    · refine lv_aload_n hx hb dX11_square_14 rfl (lv_at hl 1 rfl) ?_
      refine va_get (D := (dC, dI)) (ci := 9) (v := .ref (a 1)) (C := RX11) (T := TX11) (N := 55) hx hb hts inX11 hown hK hP 0 rfl rfl 1 (Nat.le_of_ble_eq_true rfl) (hts _ mw_1160) (fun _ h9 => h9) rfl dX11_square_15 ?_
      refine lv_iload_n hx hb dX11_square_18 rfl (lv_at hl 2 rfl) ?_
      have b9_2 : f < 201 := by omega
      refine z_iald hx hb hK hP 1 0 rfl rfl (e := f) rfl b9_2 (Nat.le_of_ble_eq_true rfl) dX11_square_19 ?_
      refine lv_iconst (v := 5) hx hb dX11_square_20 rfl ?_
      refine lv_icmp_eq (tgt := 28) hx hb dX11_square_21 rfl (fun c_3 => ?_) (fun c_3 => ?_)
      · have c_3 : (kd f).toInt = 5 := zc_eq rfl rfl c_3
        refine lv_iload_n hx hb dX11_square_28 rfl (lv_at hl 3 rfl) ?_
        refine lv_if_ge (tgt := 36) hx hb dX11_square_29 rfl (fun c_4 => ?_) (fun c_4 => ?_)
        · have c_4 : 0 ≤ ms.toInt := zc_le rfl rfl c_4
          refine lv_iconst (v := 0) hx hb dX11_square_36 rfl ?_
          refine lv_istore_n (lv' := [(3, .int 0), (0, .ref k0), (1, .int (nI f)), (2, .int ms)]) hx hb dX11_square_37 rfl hl (Nat.le_of_ble_eq_true rfl) rfl (fun ls hl => ?_)
          refine lv_iload_n hx hb dX11_square_38 rfl (lv_at hl 0 rfl) ?_
          refine lv_if_le (tgt := 48) hx hb dX11_square_39 rfl (fun c_5 => ?_) (fun c_5 => ?_)
          · refine lv_aload_n hx hb dX11_square_48 rfl (lv_at hl 1 rfl) ?_
            refine va_get (D := (dC, dI)) (ci := 9) (v := .ref (a 6)) (C := RX11) (T := TX11) (N := 55) hx hb hts inX11 hown hK hP 0 rfl rfl 6 (Nat.le_of_ble_eq_true rfl) (hts _ mw_1165) (fun _ h9 => h9) rfl dX11_square_49 ?_
            refine lv_iload_n hx hb dX11_square_52 rfl (lv_at hl 2 rfl) ?_
            refine z_zald hx hb hK hP 10 1 rfl rfl (e := f) rfl b9_2 (Nat.le_of_ble_eq_true rfl) dX11_square_53 ?_
            refine lv_if_eq (tgt := 63) hx hb dX11_square_54 rfl (fun c_6 => ?_) (fun c_6 => ?_)
            · have c_6 : (tn f).toInt = 0 := zc_eq rfl rfl c_6
              refine lv_aload_n hx hb dX11_square_63 rfl (lv_at hl 1 rfl) ?_
              refine lv_iload_n hx hb dX11_square_64 rfl (lv_at hl 2 rfl) ?_
              refine lv_iconst (v := 1) hx hb dX11_square_65 rfl ?_
              obtain ⟨hPc, hDc, hFc⟩ := zo_sub (wc := [_, _, _, _]) hP hD hS hA [0, 11, 12, 13] (by decide +kernel) rfl
              refine zcall (st1 := []) (va_runV (As := [.int (nI f), .int 1]) (rest := []) ⟨hx, hb, hml, hown, hts⟩ (k_M_box_v l dC dI cI cZ cF H.size k0 a I0 J0 f n mn cx cy (by first | with_reducible assumption | omega) (by first | with_reducible assumption | assumption) (by first | with_reducible assumption | omega) (by first | with_reducible assumption | assumption)) (csV_221 hts rfl rfl ⟨Nat.le_of_ble_eq_true rfl, Nat.le_of_ble_eq_true rfl⟩) (zPV2 (q0 := 0) (ci := 9) hPc hDc hK hXN rfl rfl) rfl rfl hl.1 rfl (lv_room (Nat.le_of_ble_eq_true rfl)) dX11_square_66 ⟨Nat.le_of_ble_eq_true rfl, Nat.le_of_ble_eq_true rfl⟩) hS hFc hFc rfl (fun t H locs ht hB hk1 hS => ?_)
              obtain ⟨x1, x2, x3, x4, eb1, eb2, eb3, eb4, hP1, hD1⟩ := hB
              rw [ht] at hP1
              obtain ⟨hP, hD⟩ := zn (W2 := [(om k0 a (upd (upd (upd (upd I0 44 x1) 45 x2) 46 x3) 47 x4) J0), _, _, _, _, _, _, _, _, _, _, _, _, _, _, _, _, _, _, _, _, _, _, _, _, _, _, _, _, _, _, _]) hP hD hk1 hFc hP1 hD1 [0, 11, 12, 13] zl_248 zl_248 [0, 11, 12, 13] (by decide +kernel) rfl rfl rfl rfl rfl
              clear hk1 hPc hDc hFc hP1 hD1 ht
              refine lv_ldc2 hx hb hown (hts _ mw_1575) dX11_square_69 ?_
              refine lv_aload_n hx hb dX11_square_72 rfl (lv_at hl 1 rfl) ?_
              refine va_get (D := (dC, dI)) (ci := 9) (v := .int x3) (C := RX11) (T := TX11) (N := 55) hx hb hts inX11 hown hK hP 0 rfl rfl 46 (Nat.le_of_ble_eq_true rfl) (hts _ mw_1205) (fun _ h9 => h9) rfl dX11_square_73 ?_
              refine lv_aload_n hx hb dX11_square_76 rfl (lv_at hl 1 rfl) ?_
              refine va_get (D := (dC, dI)) (ci := 9) (v := .int x1) (C := RX11) (T := TX11) (N := 55) hx hb hts inX11 hown hK hP 0 rfl rfl 44 (Nat.le_of_ble_eq_true rfl) (hts _ mw_1203) (fun _ h9 => h9) rfl dX11_square_77 ?_
              refine lv_isub hx hb dX11_square_80 ?_
              refine lv_i2l (v := (x3 - x1).toInt64) hx hb dX11_square_81 (rfl) ?_
              refine lv_lmul hx hb dX11_square_82 ?_
              refine lv_aload_n hx hb dX11_square_83 rfl (lv_at hl 1 rfl) ?_
              refine va_get (D := (dC, dI)) (ci := 9) (v := .int x4) (C := RX11) (T := TX11) (N := 55) hx hb hts inX11 hown hK hP 0 rfl rfl 47 (Nat.le_of_ble_eq_true rfl) (hts _ mw_1206) (fun _ h9 => h9) rfl dX11_square_84 ?_
              refine lv_aload_n hx hb dX11_square_87 rfl (lv_at hl 1 rfl) ?_
              refine va_get (D := (dC, dI)) (ci := 9) (v := .int x2) (C := RX11) (T := TX11) (N := 55) hx hb hts inX11 hown hK hP 0 rfl rfl 45 (Nat.le_of_ble_eq_true rfl) (hts _ mw_1204) (fun _ h9 => h9) rfl dX11_square_88 ?_
              refine lv_isub hx hb dX11_square_91 ?_
              refine lv_i2l (v := (x4 - x2).toInt64) hx hb dX11_square_92 (rfl) ?_
              refine lv_lmul hx hb dX11_square_93 ?_
              refine lv_aload_n hx hb dX11_square_94 rfl (lv_at hl 1 rfl) ?_
              refine lv_iload_n hx hb dX11_square_95 rfl (lv_at hl 2 rfl) ?_
              obtain ⟨hPc, hDc, hFc⟩ := zo_sub (wc := [_, _, _, _, _]) hP hD hS hA [0, 11, 12, 13, 19] (by decide +kernel) rfl
              refine zcall (st1 := [.long (jI ((Int.natAbs (ar2 n (cF40 cx f) (cF40 cy f) n) : Nat) : Int)), .long ((2 * ((x3 - x1).toInt64)) * ((x4 - x2).toInt64))]) (va_runV (As := [.int (nI f)]) (rest := [.long ((2 * ((x3 - x1).toInt64)) * ((x4 - x2).toInt64))]) ⟨hx, hb, hml, hown, hts⟩ (k_M_area l dC dI cI cZ cF H.size k0 a (upd (upd (upd (upd I0 44 x1) 45 x2) 46 x3) 47 x4) J0 f n mn cx cy S0 (by first | with_reducible assumption | omega) (by first | with_reducible assumption | assumption) (by first | with_reducible assumption | omega) (by first | with_reducible assumption | assumption)) (csV_218 hts rfl rfl ⟨Nat.le_of_ble_eq_true rfl, Nat.le_of_ble_eq_true rfl⟩) (zPV2 (q0 := 0) (ci := 9) hPc hDc hK hXN rfl rfl) rfl rfl hl.1 rfl (lv_room (Nat.le_of_ble_eq_true rfl)) dX11_square_96 ⟨Nat.le_of_ble_eq_true rfl, Nat.le_of_ble_eq_true rfl⟩) hS hFc hFc rfl (fun t H locs ht hB hk1 hS => ?_)
              obtain ⟨S2, hP1, hD1⟩ := hB
              rw [ht] at hP1
              obtain ⟨hP, hD⟩ := zn (W2 := [_, _, _, _, _, _, _, _, _, _, _, _, _, _, _, _, _, _, _, (oa (a 32) cI 8 S2), _, _, _, _, _, _, _, _, _, _, _, _]) hP hD hk1 hFc hP1 hD1 [0, 11, 12, 13, 19] zl_249 zl_249 [0, 11, 12, 13, 19] (by decide +kernel) rfl rfl rfl rfl rfl
              clear hk1 hPc hDc hFc hP1 hD1 ht
              have hdfb := dfB_b hp_f hn_f.1 hn_f.2
              have hmsb := i32B ms
              refine lv_lsub hx hb dX11_square_99 ?_
              refine zz_l (v := jI (dfB n (cF40 cx f) (cF40 cy f))) (by rw [eb1, eb2, eb3, eb4]; exact sqL hp_f hn_f.1 hn_f.2) ?_
              refine lv_lstore (lv' := [(4, .long (jI (dfB n (cF40 cx f) (cF40 cy f)))), (3, .int 0), (0, .ref k0), (1, .int (nI f)), (2, .int ms)]) hx hb dX11_square_100 hl (Nat.le_of_ble_eq_true rfl) rfl (fun ls hl => ?_)
              refine lv_lload hx hb dX11_square_102 (lv_at hl 0 rfl) ?_
              refine lv_iload_n hx hb dX11_square_104 rfl (lv_at hl 4 rfl) ?_
              refine lv_i2l (v := ms.toInt64) hx hb dX11_square_105 (rfl) ?_
              refine zz_l (v := jI ms.toInt) (jI_of (i64 _)) ?_
              refine W.lcmp hx hb dX11_square_106 ?_
              refine lv_if_le (tgt := 116) hx hb dX11_square_107 rfl (fun c_7 => ?_) (fun c_7 => ?_)
              · have c_7 : (dfB n (cF40 cx f) (cF40 cy f)) ≤ ms.toInt := zl_le (jI_toInt (by omega)) (jI_toInt (by omega)) c_7
                refine lv_aload_n hx hb dX11_square_116 rfl (lv_at hl 2 rfl) ?_
                refine lv_iload_n hx hb dX11_square_117 rfl (lv_at hl 3 rfl) ?_
                obtain ⟨hPc, hDc, hFc⟩ := zo_sub (wc := [_, _, _, _, _, _, _, _, _, _, _, _, _]) hP hD hS hA [0, 2, 10, 1, 11, 12, 13, 19, 23, 24, 25, 26, 27] (by decide +kernel) rfl
                refine zcall (st1 := []) (va_runV (As := [.int (nI f)]) (rest := []) ⟨hx, hb, hml, hown, hts⟩ (k_M_remember l dC dI cI cZ cF H.size k0 a (upd (upd (upd (upd I0 44 x1) 45 x2) 46 x3) 47 x4) J0 f n ft st tn kd mn cx cy S2 ox oy mt wi ins (by first | with_reducible assumption | assumption) (by first | with_reducible assumption | omega) (by first | with_reducible assumption | omega) (by first | with_reducible assumption | assumption) (by first | with_reducible assumption | omega) (by first | with_reducible assumption | assumption) (fun q h1 _ => hwf q h1)) (csV_190 hts rfl rfl ⟨Nat.le_of_ble_eq_true rfl, Nat.le_of_ble_eq_true rfl⟩) (zPV2 (q0 := 0) (ci := 9) hPc hDc hK hXN rfl rfl) rfl rfl hl.1 rfl (lv_room (Nat.le_of_ble_eq_true rfl)) dX11_square_118 ⟨Nat.le_of_ble_eq_true rfl, Nat.le_of_ble_eq_true rfl⟩) hS hFc hFc rfl (fun t H locs ht hB hk1 hS => ?_)
                refine ex6 hB (fun S1 ox1 oy1 mt1 wi1 ins1 hB0 => ?_)
                clear hB
                obtain ⟨hox, hmt, hwi, hin, hP1, hD1⟩ := hB0
                rw [ht] at hP1
                obtain ⟨hP, hD⟩ := zn (W2 := [(om k0 a (upd (upd (upd (upd (upd (upd I0 35 (nI n)) 36 (kd f)) 44 x1) 45 x2) 46 x3) 47 x4) J0), _, _, _, _, _, _, _, _, _, _, _, _, _, _, _, _, _, _, (oa (a 32) cI 8 S1), _, _, _, (oa (a 33) cI 42 ox1), (oa (a 34) cI 42 oy1), (oa (a 37) cZ 201 mt1), (oa (a 38) cZ 201 wi1), (oa (a 39) cZ 8040 ins1), _, _, _, _]) hP hD hk1 hFc hP1 hD1 zl_194 zl_195 zl_195 zl_194 (by decide +kernel) rfl rfl rfl rfl rfl
                clear hk1 hPc hDc hFc hP1 hD1 ht
                refine lv_aload_n hx hb dX11_square_121 rfl (lv_at hl 2 rfl) ?_
                refine lv_iload_n hx hb dX11_square_122 rfl (lv_at hl 3 rfl) ?_
                obtain ⟨hPc, hDc, hFc⟩ := zo_sub (wc := [_, _, _, _, _]) hP hD hS hA [0, 1, 11, 12, 13] (by decide +kernel) rfl
                refine zcall (st1 := []) (va_runV (As := [.int (nI f)]) (rest := []) ⟨hx, hb, hml, hown, hts⟩ (k_M_layBox l dC dI cI cZ cF H.size k0 a (upd (upd (upd (upd (upd (upd I0 35 (nI n)) 36 (kd f)) 44 x1) 45 x2) 46 x3) 47 x4) J0 f kd mn cx cy (by first | with_reducible assumption | omega)) (csV_222 hts rfl rfl ⟨Nat.le_of_ble_eq_true rfl, Nat.le_of_ble_eq_true rfl⟩) (zPV2 (q0 := 0) (ci := 9) hPc hDc hK hXN rfl rfl) rfl rfl hl.1 rfl (lv_room (Nat.le_of_ble_eq_true rfl)) dX11_square_123 ⟨Nat.le_of_ble_eq_true rfl, Nat.le_of_ble_eq_true rfl⟩) hS hFc hFc rfl (fun t H locs ht hB hk1 hS => ?_)
                obtain ⟨hP1, hD1⟩ := hB
                rw [ht] at hP1
                obtain ⟨hP, hD⟩ := zn (W2 := [_, (oa (a 1) cI 201 (upd kd f 6)), _, _, _, _, _, _, _, _, _, (oa (a 11) cI 201 (upd mn f 4)), (oa (a 12) cI 8040 (bxX f (x1) (x3) 4 cx)), (oa (a 13) cI 8040 (bxY f (x2) (x4) 4 cy)), _, _, _, _, _, _, _, _, _, _, _, _, _, _, _, _, _, _]) hP hD hk1 hFc hP1 hD1 [0, 1, 11, 12, 13] zl_250 zl_250 [0, 1, 11, 12, 13] (by decide +kernel) rfl rfl rfl rfl rfl
                clear hk1 hPc hDc hFc hP1 hD1 ht
                refine lv_aload_n hx hb dX11_square_126 rfl (lv_at hl 2 rfl) ?_
                refine lv_iload_n hx hb dX11_square_127 rfl (lv_at hl 3 rfl) ?_
                refine lv_iconst (v := 5) hx hb dX11_square_128 rfl ?_
                have hum : upd (upd mn f 4) f (nI n) = mn := upd_back hm_f
                have huk : upd (upd kd f 6) f (kd f) = kd := upd_back rfl
                have hpo : pls n ox1 oy1 := fun j hj => by rw [(hox j hj).1, (hox j hj).2]; exact hp_f j hj
                have hbo : ∀ j, (j < 40 * f ∨ 40 * f + 40 ≤ j) → (bxX f x1 x3 4 cx) j = cx j ∧ (bxY f x2 x4 4 cy) j = cy j := fun j hj => ⟨bxX_o (by omega), bxY_o (by omega)⟩
                have hwf2 : ∀ q, lvF ft st tn q → q ≠ f → wfM (upd mn f 4) (bxX f x1 x3 4 cx) (bxY f x2 x4 4 cy) q := fun q h1 h2 => wfM_o (hwf q h1) h2 (fun j hj => if_neg hj) hbo
                have hlq : lwA ft st tn (upd kd f 6) (upd mn f 4) (bxX f x1 x3 4 cx) (bxY f x2 x4 4 cy) f 4 (ox1 0) (oy1 0) (bMt kd mn cx cy f n) (bWi kd mn cx cy f) (bIn kd cx cy f n) sW0 = lwS ft st tn kd mn cx cy f n := (by rw [(hox 0 (by omega)).1, (hox 0 (by omega)).2, eb1, eb2, eb3, eb4]; rfl)
                have hbx : fgX f n ox1 (bxX f x1 x3 4 cx) = fgX f n (cF40 cx f) (bxX f x1 x3 4 cx) := fgX_cg (fun k9 h9 => (hox k9 h9).1)
                have hby : fgX f n oy1 (bxY f x2 x4 4 cy) = fgX f n (cF40 cy f) (bxY f x2 x4 4 cy) := fgX_cg (fun k9 h9 => (hox k9 h9).2)
                obtain ⟨hPc, hDc, hFc⟩ := zo_sub (wc := [_, _, _, _, _, _, _, _, _, _, _, _, _, _, _, _, _, _, _, _, _, _, _, _, _, _, _, _, _, _, _, _]) hP hD hS hA [0, 1, 2, 3, 4, 5, 6, 7, 8, 9, 10, 11, 12, 13, 14, 15, 16, 17, 18, 19, 20, 21, 22, 23, 24, 25, 26, 27, 28, 29, 30, 31] (by decide +kernel) rfl
                refine zcall (st1 := [.int 0]) (va_runV (As := [.int (nI f), .int 5]) (rest := []) ⟨hx, hb, hml, hown, hts⟩ (k_M_changes_sn l dC dI cI cZ cF H.size k0 a (upd (upd (upd (upd (upd (upd I0 35 (nI n)) 36 (kd f)) 44 x1) 45 x2) 46 x3) 47 x4) J0 f 4 ft n (kd f) (upd kd f 6) st gb it pa pb rk wd tw tn (upd mn f 4) (bxX f (x1) (x3) 4 cx) (bxY f (x2) (x4) 4 cy) sa sh wh of9 we S1 T0 P0 Q0 ox1 oy1 mt1 wi1 ins1 la lb lc ld (bMt kd mn cx cy f n) (bWi kd mn cx cy f) (bIn kd cx cy f n) cp cl (hft) (by first | with_reducible assumption | omega) (by first | with_reducible assumption | omega) ((up_at _ _ _).trans rfl) (by first | with_reducible assumption | omega) (hwf2) (by first | with_reducible assumption | omega) (by first | with_reducible assumption | omega) (hpo) (hmt) (fun q h1 h2 h5 => by rw [hwi q h1 h2]; exact zp_iff ⟨fun h => h.2, fun h => ⟨by rw [show upd kd f 6 q = kd q from if_neg h2] at h5; exact h5, h⟩⟩) (fun q h1 h2 i hi h5 => hin q h1 h2 (by first | with_reducible assumption | omega) i (by rw [show upd mn f 4 q = mn q from if_neg h2] at hi; exact hi)) (hft_f) (by rw [hlq]; exact hlaw)) (csV_212 hts rfl rfl ⟨Nat.le_of_ble_eq_true rfl, Nat.le_of_ble_eq_true rfl⟩) (zPV2 (q0 := 0) (ci := 9) hPc hDc hK hXN rfl rfl) rfl rfl hl.1 rfl (lv_room (Nat.le_of_ble_eq_true rfl)) dX11_square_129 ⟨Nat.le_of_ble_eq_true rfl, Nat.le_of_ble_eq_true rfl⟩) hS hFc hFc rfl (fun t H locs ht hB hk1 hS => ?_)
                obtain ⟨z8, S3, T2, P2, Q2, hP1, hD1⟩ := hB
                rw [ht] at hP1
                obtain ⟨hP, hD⟩ := zn (W2 := [(om k0 a (upd (upd (upd (upd (upd (upd (upd (upd (upd I0 14 7) 15 (I0 15 + 1)) 31 z8) 35 (nI n)) 36 (kd f)) 44 x1) 45 x2) 46 x3) 47 x4) J0), (oa (a 1) cI 201 (upd (upd kd f 6) f (kd f))), _, _, _, _, _, _, _, _, _, (oa (a 11) cI 201 (upd (upd mn f 4) f (nI n))), (oa (a 12) cI 8040 (fgX f n ox1 (bxX f (x1) (x3) 4 cx))), (oa (a 13) cI 8040 (fgX f n oy1 (bxY f (x2) (x4) 4 cy))), _, _, _, _, _, (oa (a 32) cI 8 S3), (oa (a 40) cI 6 T2), (oa (a 29) cI 42 P2), (oa (a 30) cI 42 Q2), _, _, _, _, _, _, _, _, _]) hP hD hk1 hFc hP1 hD1 zl_196 [] zl_197 zl_196 (by decide +kernel) rfl rfl rfl rfl rfl
                clear hk1 hPc hDc hFc hP1 hD1 ht
                obtain ⟨hP9, hD9⟩ := zu_sub (wc := [(om k0 a (upd (upd (upd (upd (upd (upd (upd (upd (upd I0 14 7) 15 (I0 15 + 1)) 31 z8) 35 (nI n)) 36 (kd f)) 44 x1) 45 x2) 46 x3) 47 x4) J0), (oa (a 1) cI 201 (upd (upd kd f 6) f (kd f))), (oa (a 5) cI 201 st), (oa (a 7) cI 201 gb), (oa (a 10) cI 201 it), (oa (a 8) cI 201 pa), (oa (a 9) cI 201 pb), (oa (a 2) cI 201 rk), (oa (a 3) cI 201 wd), (oa (a 4) cI 201 tw), (oa (a 6) cZ 201 tn), (oa (a 11) cI 201 (upd (upd mn f 4) f (nI n))), (oa (a 12) cI 8040 (fgX f n ox1 (bxX f (x1) (x3) 4 cx))), (oa (a 13) cI 8040 (fgX f n oy1 (bxY f (x2) (x4) 4 cy))), (oa (a 27) cI 516 sa), (oa (a 28) cI (4096 * cp) sh), (oa (a 16) cI 514 wh), (oa (a 17) cI 514 of9), (oa (a 18) cI 514 we), (oa (a 32) cI 8 S3), (oa (a 40) cI 6 T2), (oa (a 29) cI 42 P2), (oa (a 30) cI 42 Q2), (oa (a 33) cI 42 ox1), (oa (a 34) cI 42 oy1), (oa (a 37) cZ 201 mt1), (oa (a 38) cZ 201 wi1), (oa (a 39) cZ 8040 ins1), (oa (a 22) cI (64 * cl) la), (oa (a 23) cI (64 * cl) lb), (oa (a 24) cI (64 * cl) lc), (oa (a 25) cI (64 * cl) ld)]) hP hD (true :: true :: true :: true :: true :: true :: true :: true :: true :: true :: true :: true :: true :: true :: true :: true :: true :: true :: true :: true :: true :: true :: true :: true :: true :: true :: true :: true :: true :: true :: true :: true :: []) rfl rfl
                have hE9 : ([(om k0 a (upd (upd (upd (upd (upd (upd (upd (upd (upd I0 14 7) 15 (I0 15 + 1)) 31 z8) 35 (nI n)) 36 (kd f)) 44 x1) 45 x2) 46 x3) 47 x4) J0), (oa (a 1) cI 201 (upd (upd kd f 6) f (kd f))), (oa (a 5) cI 201 st), (oa (a 7) cI 201 gb), (oa (a 10) cI 201 it), (oa (a 8) cI 201 pa), (oa (a 9) cI 201 pb), (oa (a 2) cI 201 rk), (oa (a 3) cI 201 wd), (oa (a 4) cI 201 tw), (oa (a 6) cZ 201 tn), (oa (a 11) cI 201 (upd (upd mn f 4) f (nI n))), (oa (a 12) cI 8040 (fgX f n ox1 (bxX f (x1) (x3) 4 cx))), (oa (a 13) cI 8040 (fgX f n oy1 (bxY f (x2) (x4) 4 cy))), (oa (a 27) cI 516 sa), (oa (a 28) cI (4096 * cp) sh), (oa (a 16) cI 514 wh), (oa (a 17) cI 514 of9), (oa (a 18) cI 514 we), (oa (a 32) cI 8 S3), (oa (a 40) cI 6 T2), (oa (a 29) cI 42 P2), (oa (a 30) cI 42 Q2), (oa (a 33) cI 42 ox1), (oa (a 34) cI 42 oy1), (oa (a 37) cZ 201 mt1), (oa (a 38) cZ 201 wi1), (oa (a 39) cZ 8040 ins1), (oa (a 22) cI (64 * cl) la), (oa (a 23) cI (64 * cl) lb), (oa (a 24) cI (64 * cl) lc), (oa (a 25) cI (64 * cl) ld)] : va_W) = [(om k0 a (upd (upd (upd (upd (upd (upd (upd (upd (upd I0 14 7) 15 (I0 15 + 1)) 31 z8) 35 (nI n)) 36 (kd f)) 44 x1) 45 x2) 46 x3) 47 x4) J0), (oa (a 1) cI 201 kd), (oa (a 5) cI 201 st), (oa (a 7) cI 201 gb), (oa (a 10) cI 201 it), (oa (a 8) cI 201 pa), (oa (a 9) cI 201 pb), (oa (a 2) cI 201 rk), (oa (a 3) cI 201 wd), (oa (a 4) cI 201 tw), (oa (a 6) cZ 201 tn), (oa (a 11) cI 201 mn), (oa (a 12) cI 8040 (fgX f n (cF40 cx f) (bxX f x1 x3 4 cx))), (oa (a 13) cI 8040 (fgX f n (cF40 cy f) (bxY f x2 x4 4 cy))), (oa (a 27) cI 516 sa), (oa (a 28) cI (4096 * cp) sh), (oa (a 16) cI 514 wh), (oa (a 17) cI 514 of9), (oa (a 18) cI 514 we), (oa (a 32) cI 8 S3), (oa (a 40) cI 6 T2), (oa (a 29) cI 42 P2), (oa (a 30) cI 42 Q2), (oa (a 33) cI 42 ox1), (oa (a 34) cI 42 oy1), (oa (a 37) cZ 201 mt1), (oa (a 38) cZ 201 wi1), (oa (a 39) cZ 8040 ins1), (oa (a 22) cI (64 * cl) la), (oa (a 23) cI (64 * cl) lb), (oa (a 24) cI (64 * cl) lc), (oa (a 25) cI (64 * cl) ld)] := by rw [hum, huk, hbx, hby]
                rw [hE9] at hP9 hD9
                rw [hQ9]
                exact W.zret (ty := .boolean) (v := 0) hx hb hr (rfl) (fun t ht hW => ⟨⟨rfl, z8, S3, T2, P2, Q2, ox1, oy1, mt1, wi1, ins1, x1, x2, x3, x4, (eb1), (eb2), (eb3), (eb4), by rw [ht]; exact hP9, hD9⟩, hS.F ht⟩) hS.2.2 dX11_square_132
              · have c_7 : ms.toInt < (dfB n (cF40 cx f) (cF40 cy f)) := zl_nle (jI_toInt (by omega)) (jI_toInt (by omega)) c_7
                exfalso; omega
            · have c_6 : ¬ (tn f).toInt = 0 := zc_ne rfl rfl c_6
              exfalso; omega
          · exact absurd (by decide) c_5
        · have c_4 : ms.toInt < 0 := zc_nle rfl rfl c_4
          exfalso; omega
      · have c_3 : ¬ (kd f).toInt = 5 := zc_ne rfl rfl c_3
        exfalso; omega
    · exact absurd (by decide) c_1
  · skip
    refine lv_istore_n (lv' := [(3, .int 2), (0, .ref k0), (1, .int (nI f)), (2, .int ms)]) hx hb dX11_square_5 rfl hl (Nat.le_of_ble_eq_true rfl) rfl (fun ls hl => ?_)
    refine lv_iload_n hx hb dX11_square_6 rfl (lv_at hl 0 rfl) ?_
    refine lv_if_le (tgt := 14) hx hb dX11_square_7 rfl (fun c_8 => ?_) (fun c_8 => ?_)
    · exact absurd c_8 (by decide)
    · exfalso; omega
set_option maxHeartbeats 4000000 in
set_option maxRecDepth 100000 in
theorem k_M_square_y (l : Launch) (dC : Nat → ClassId) (dI : Nat → Nat → Nat) (cI cZ cF : ClassId) (sz : Nat) (k0 : Nat) (a : Nat → Nat) (I0 : Nat → Int32) (J0 : Nat → Int64) (f : Nat) (n : Nat) (ft : Nat) (ms : Int32) (kd : Nat → Int32) (st : Nat → Int32) (gb : Nat → Int32) (it : Nat → Int32) (pa : Nat → Int32) (pb : Nat → Int32) (rk : Nat → Int32) (wd : Nat → Int32) (tw : Nat → Int32) (tn : Nat → Int32) (mn : Nat → Int32) (cx : Nat → Int32) (cy : Nat → Int32) (sa : Nat → Int32) (sh : Nat → Int32) (wh : Nat → Int32) (of9 : Nat → Int32) (we : Nat → Int32) (S0 : Nat → Int32) (T0 : Nat → Int32) (P0 : Nat → Int32) (Q0 : Nat → Int32) (ox : Nat → Int32) (oy : Nat → Int32) (mt : Nat → Int32) (wi : Nat → Int32) (ins : Nat → Int32) (la : Nat → Int32) (lb : Nat → Int32) (lc : Nat → Int32) (ld : Nat → Int32) (dn : Nat) (bs : Nat) (w0 : Nat) (cp : Nat) (c1 : Nat) (c2 : Nat) (ln : Nat) (cl : Nat) (hft : I0 0 = nI ft) (h200 : ft ≤ 200) (hf_f : f ≤ 200) (hm_f : mn f = nI n) (hn_f : 1 ≤ n ∧ n ≤ 40) (hp_f : pls n (cF40 cx f) (cF40 cy f)) (hft_f : f < ft) (hwf : ∀ q, lvF ft st tn q → wfM mn cx cy q) (hst1 : (st f).toInt = 1) (htn0 : (tn f).toInt = 0) (hkd5 : (kd f).toInt = 5) (hms : 0 ≤ ms.toInt) (hdf : dfB n (cF40 cx f) (cF40 cy f) ≤ ms.toInt) (hdn : I0 19 = nI dn) (hbs : I0 21 = nI bs) (hbd : bs ≤ dn) (hd512 : dn ≤ 512) (hi5_1 : (dn - bs) < 515) (hsa_1 : sa (dn - bs) = nI w0) (hmn_1 : ∀ v9, v9 < ft → (tn v9).toInt = 0 → ¬ (st v9).toInt = 0 → mn v9 = nI (nN (mn v9)) ∧ nN (mn v9) ≤ 40) (hc1_1 : 1 ≤ cp) (hpw_1 : pw cp c1) (hw0_1 : w0 ≤ 4096 * cp) (hfit_1 : psN (nnF st tn mn) w0 ft ≤ 4096 * c1) (hmin_1 : c1 = cp ∨ 2048 * c1 < psN (nnF st tn mn) w0 ft) (hcE_1 : c1 ≤ 512) (hpw_2 : pw c1 c2) (hfit_2 : psN (nnF st tn (upd mn f 4)) (psN (nnF st tn mn) w0 ft) ft ≤ 4096 * c2) (hmin_2 : c2 = c1 ∨ 2048 * c2 < psN (nnF st tn (upd mn f 4)) (psN (nnF st tn mn) w0 ft) ft) (hcE_2 : c2 ≤ 512) (hlc : ln ≤ 64 * cl) (hcl1 : 1 ≤ cl) (hclm : cl ≤ 1000000) (hlaw : lwS ft st tn kd mn cx cy f n) : zM l yX11_square cX11_square 6 (some .boolean) ({ frames := 7, cells := c2 - cp, slots := 8192 * (c2 - cp), locals := 183 } : Room) [.ref k0, .int (nI f), .int ms] (dC, dI) (zTy cI cZ cF) [(om k0 a (upd I0 26 (nI ln)) J0), (oa (a 1) cI 201 kd), (oa (a 5) cI 201 st), (oa (a 7) cI 201 gb), (oa (a 10) cI 201 it), (oa (a 8) cI 201 pa), (oa (a 9) cI 201 pb), (oa (a 2) cI 201 rk), (oa (a 3) cI 201 wd), (oa (a 4) cI 201 tw), (oa (a 6) cZ 201 tn), (oa (a 11) cI 201 mn), (oa (a 12) cI 8040 cx), (oa (a 13) cI 8040 cy), (oa (a 27) cI 516 sa), (oa (a 28) cI (4096 * cp) sh), (oa (a 16) cI 514 wh), (oa (a 17) cI 514 of9), (oa (a 18) cI 514 we), (oa (a 32) cI 8 S0), (oa (a 40) cI 6 T0), (oa (a 29) cI 42 P0), (oa (a 30) cI 42 Q0), (oa (a 33) cI 42 ox), (oa (a 34) cI 42 oy), (oa (a 37) cZ 201 mt), (oa (a 38) cZ 201 wi), (oa (a 39) cZ 8040 ins), (oa (a 22) cI (64 * cl) la), (oa (a 23) cI (64 * cl) lb), (oa (a 24) cI (64 * cl) lc), (oa (a 25) cI (64 * cl) ld)] sz (some (.int 1)) (fun A t => ∃ (z9 : Int32), ∃ (b2 : Nat), ∃ (sh2 : Nat → Int32), ∃ (t9 : Nat), ∃ (S1 : Nat → Int32), ∃ (T1 : Nat → Int32), ∃ (P1 : Nat → Int32), ∃ (Q1 : Nat → Int32), ∃ (ox1 : Nat → Int32), ∃ (oy1 : Nat → Int32), ∃ (mt1 : Nat → Int32), ∃ (wi1 : Nat → Int32), ∃ (ins1 : Nat → Int32), ∃ (la1 : Nat → Int32), ∃ (lb1 : Nat → Int32), ∃ (lc1 : Nat → Int32), ∃ (ld1 : Nat → Int32), ∃ (x1 : Int32), ∃ (x2 : Int32), ∃ (x3 : Int32), ∃ (x4 : Int32), (x1 = iI (mnI (cF40 cx f 0).toInt (cF40 cx f) n)) ∧ (x2 = iI (mnI (cF40 cy f 0).toInt (cF40 cy f) n)) ∧ (x3 = iI (mxI (cF40 cx f 0).toInt (cF40 cx f) n)) ∧ (x4 = iI (mxI (cF40 cy f 0).toInt (cF40 cy f) n)) ∧ (sh2 w0 = nI ft) ∧ (∀ j, j < w0 → sh2 j = sh j) ∧ (∀ g, g < ft → ∀ j, j < 10 + 2 * (nnF st tn mn) g → sh2 (psN (nnF st tn mn) w0 g + j) = (shD kd st gb it pa pb rk wd tw (nnF st tn mn) cx cy) g j) ∧ (sh2 (psN (nnF st tn mn) w0 ft) = nI ft) ∧ (∀ g, g < ft → ∀ j, j < 10 + 2 * (nnF st tn (upd mn f 4)) g → sh2 (psN (nnF st tn (upd mn f 4)) (psN (nnF st tn mn) w0 ft) g + j) = (shD (upd kd f 6) st gb it pa pb rk wd tw (nnF st tn (upd mn f 4)) (bxX f x1 x3 4 cx) (bxY f x2 x4 4 cy)) g j) ∧ (t9 ≤ ln) ∧ ((∀ j, j < t9 → ∃ i, i < ln ∧ lb1 j = lb i ∧ lc1 j = lc i) ∧ lsZ dn ln la lb lc ld t9 la1 lb1 lc1 ld1 (fun _ _ _ => False)) ∧ zPD (dC, dI) classes A [(om k0 (va_up a 28 b2) (upd (upd (upd (upd (upd (upd (upd (upd (upd (upd (upd (upd I0 14 0) 19 (nI (dn + 1))) 20 0) 26 (nI t9)) 31 z9) 35 (nI n)) 36 (kd f)) 41 (nI (psN (nnF st tn (upd mn f 4)) (psN (nnF st tn mn) w0 ft) ft))) 44 x1) 45 x2) 46 x3) 47 x4) J0), (oa (a 1) cI 201 (upd kd f 6)), (oa (a 5) cI 201 st), (oa (a 7) cI 201 gb), (oa (a 10) cI 201 it), (oa (a 8) cI 201 pa), (oa (a 9) cI 201 pb), (oa (a 2) cI 201 rk), (oa (a 3) cI 201 wd), (oa (a 4) cI 201 tw), (oa (a 6) cZ 201 tn), (oa (a 11) cI 201 (upd mn f 4)), (oa (a 12) cI 8040 (bxX f x1 x3 4 cx)), (oa (a 13) cI 8040 (bxY f x2 x4 4 cy)), (oa (a 27) cI 516 (upd (upd sa (dn - bs + 1) (nI (psN (nnF st tn mn) w0 ft))) (dn + 1 - bs + 1) (nI (psN (nnF st tn (upd mn f 4)) (psN (nnF st tn mn) w0 ft) ft)))), (oa b2 cI (4096 * c2) sh2), (oa (a 16) cI 514 (upd wh (dn + 1) (5 : Int32))), (oa (a 17) cI 514 (upd of9 (dn + 1) (nI f))), (oa (a 18) cI 514 (upd we (dn + 1) (0 : Int32))), (oa (a 32) cI 8 S1), (oa (a 40) cI 6 T1), (oa (a 29) cI 42 P1), (oa (a 30) cI 42 Q1), (oa (a 33) cI 42 ox1), (oa (a 34) cI 42 oy1), (oa (a 37) cZ 201 mt1), (oa (a 38) cZ 201 wi1), (oa (a 39) cZ 8040 ins1), (oa (a 22) cI (64 * cl) la1), (oa (a 23) cI (64 * cl) lb1), (oa (a 24) cI (64 * cl) lc1), (oa (a 25) cI (64 * cl) ld1)] t.heap) (c2 - cp) (8192 * (c2 - cp)) := by
  refine zIn (own := "ScaleShopModel") (loc := [(0, .ref k0), (1, .int (nI f)), (2, .int ms)]) rfl rfl rfl rfl (fun p e s m below meth c hx hb hr hts hown hlocks hml hnm9 A hA hS hP hD hK hXN Q9 hQ9 ls hl => ?_)
  have hq1 := pw_le hpw_1
  have hq2 := pw_le hpw_2
  refine lv_aload_n hx hb dX11_square_0 rfl (lv_at hl 0 rfl) ?_
  refine lv_iload_n hx hb dX11_square_1 rfl (lv_at hl 1 rfl) ?_
  obtain ⟨hPc, hDc, hFc, hI1⟩ := zi_sub (wc := [_, _]) hP hD hS hA [0, 2] rfl rfl
  refine zcall (st1 := [.int (wrN (st f))]) (va_runV (As := [.int (nI f)]) (rest := []) ⟨hx, hb, hml, hown, hts⟩ (k_M_wrong l dC dI cI cZ cF s.heap.size k0 a (upd I0 26 (nI ln)) J0 f ft st (by first | with_reducible assumption | assumption) (by first | with_reducible assumption | omega) (by first | with_reducible assumption | omega)) (csV_209 hts rfl rfl ⟨Nat.le_of_ble_eq_true rfl, Nat.le_of_ble_eq_true rfl⟩) (zPV2 (q0 := 0) (ci := 9) hPc hDc hK hXN rfl rfl) rfl rfl hl.1 rfl (lv_room (Nat.le_of_ble_eq_true rfl)) dX11_square_2 ⟨Nat.zero_le _, Nat.zero_le _⟩) hS hFc hFc rfl (fun t H locs ht hB hk1 hS => ?_)
  obtain ⟨hP1, hD1⟩ := hB
  rw [ht] at hP1
  replace hP := z0 hP hD hk1 hP1 hI1
  clear hk1 hPc hDc hFc hP1 hD1 ht hI1
  refine zz_i2 (wrN_s (st f)) (fun hs9 => ?_) (fun hs9 => ?_)
  · skip
    refine lv_istore_n (lv' := [(3, .int 0), (0, .ref k0), (1, .int (nI f)), (2, .int ms)]) hx hb dX11_square_5 rfl hl (Nat.le_of_ble_eq_true rfl) rfl (fun ls hl => ?_)
    refine lv_iload_n hx hb dX11_square_6 rfl (lv_at hl 0 rfl) ?_
    refine lv_if_le (tgt := 14) hx hb dX11_square_7 rfl (fun c_1 => ?_) (fun c_1 => ?_)
    · refine lv_aload_n hx hb dX11_square_14 rfl (lv_at hl 1 rfl) ?_
      refine va_get (D := (dC, dI)) (ci := 9) (v := .ref (a 1)) (C := RX11) (T := TX11) (N := 55) hx hb hts inX11 hown hK hP 0 rfl rfl 1 (Nat.le_of_ble_eq_true rfl) (hts _ mw_1160) (fun _ h9 => h9) rfl dX11_square_15 ?_
      refine lv_iload_n hx hb dX11_square_18 rfl (lv_at hl 2 rfl) ?_
      have b9_2 : f < 201 := by omega
      refine z_iald hx hb hK hP 1 0 rfl rfl (e := f) rfl b9_2 (Nat.le_of_ble_eq_true rfl) dX11_square_19 ?_
      refine lv_iconst (v := 5) hx hb dX11_square_20 rfl ?_
      refine lv_icmp_eq (tgt := 28) hx hb dX11_square_21 rfl (fun c_3 => ?_) (fun c_3 => ?_)
      · have c_3 : (kd f).toInt = 5 := zc_eq rfl rfl c_3
        refine lv_iload_n hx hb dX11_square_28 rfl (lv_at hl 3 rfl) ?_
        refine lv_if_ge (tgt := 36) hx hb dX11_square_29 rfl (fun c_4 => ?_) (fun c_4 => ?_)
        · have c_4 : 0 ≤ ms.toInt := zc_le rfl rfl c_4
          refine lv_iconst (v := 0) hx hb dX11_square_36 rfl ?_
          refine lv_istore_n (lv' := [(3, .int 0), (0, .ref k0), (1, .int (nI f)), (2, .int ms)]) hx hb dX11_square_37 rfl hl (Nat.le_of_ble_eq_true rfl) rfl (fun ls hl => ?_)
          refine lv_iload_n hx hb dX11_square_38 rfl (lv_at hl 0 rfl) ?_
          refine lv_if_le (tgt := 48) hx hb dX11_square_39 rfl (fun c_5 => ?_) (fun c_5 => ?_)
          · refine lv_aload_n hx hb dX11_square_48 rfl (lv_at hl 1 rfl) ?_
            refine va_get (D := (dC, dI)) (ci := 9) (v := .ref (a 6)) (C := RX11) (T := TX11) (N := 55) hx hb hts inX11 hown hK hP 0 rfl rfl 6 (Nat.le_of_ble_eq_true rfl) (hts _ mw_1165) (fun _ h9 => h9) rfl dX11_square_49 ?_
            refine lv_iload_n hx hb dX11_square_52 rfl (lv_at hl 2 rfl) ?_
            refine z_zald hx hb hK hP 10 1 rfl rfl (e := f) rfl b9_2 (Nat.le_of_ble_eq_true rfl) dX11_square_53 ?_
            refine lv_if_eq (tgt := 63) hx hb dX11_square_54 rfl (fun c_6 => ?_) (fun c_6 => ?_)
            · have c_6 : (tn f).toInt = 0 := zc_eq rfl rfl c_6
              refine lv_aload_n hx hb dX11_square_63 rfl (lv_at hl 1 rfl) ?_
              refine lv_iload_n hx hb dX11_square_64 rfl (lv_at hl 2 rfl) ?_
              refine lv_iconst (v := 1) hx hb dX11_square_65 rfl ?_
              obtain ⟨hPc, hDc, hFc⟩ := zo_sub (wc := [_, _, _, _]) hP hD hS hA [0, 11, 12, 13] (by decide +kernel) rfl
              refine zcall (st1 := []) (va_runV (As := [.int (nI f), .int 1]) (rest := []) ⟨hx, hb, hml, hown, hts⟩ (k_M_box_v l dC dI cI cZ cF H.size k0 a (upd I0 26 (nI ln)) J0 f n mn cx cy (by first | with_reducible assumption | omega) (by first | with_reducible assumption | assumption) (by first | with_reducible assumption | omega) (by first | with_reducible assumption | assumption)) (csV_221 hts rfl rfl ⟨Nat.le_of_ble_eq_true rfl, Nat.le_of_ble_eq_true rfl⟩) (zPV2 (q0 := 0) (ci := 9) hPc hDc hK hXN rfl rfl) rfl rfl hl.1 rfl (lv_room (Nat.le_of_ble_eq_true rfl)) dX11_square_66 ⟨Nat.zero_le _, Nat.zero_le _⟩) hS hFc hFc rfl (fun t H locs ht hB hk1 hS => ?_)
              obtain ⟨x1, x2, x3, x4, eb1, eb2, eb3, eb4, hP1, hD1⟩ := hB
              rw [ht] at hP1
              obtain ⟨hP, hD⟩ := zn (W2 := [(om k0 a (upd (upd (upd (upd (upd I0 26 (nI ln)) 44 x1) 45 x2) 46 x3) 47 x4) J0), _, _, _, _, _, _, _, _, _, _, _, _, _, _, _, _, _, _, _, _, _, _, _, _, _, _, _, _, _, _, _]) hP hD hk1 hFc hP1 hD1 [0, 11, 12, 13] zl_248 zl_248 [0, 11, 12, 13] (by decide +kernel) rfl rfl rfl rfl rfl
              clear hk1 hPc hDc hFc hP1 hD1 ht
              refine lv_ldc2 hx hb hown (hts _ mw_1575) dX11_square_69 ?_
              refine lv_aload_n hx hb dX11_square_72 rfl (lv_at hl 1 rfl) ?_
              refine va_get (D := (dC, dI)) (ci := 9) (v := .int x3) (C := RX11) (T := TX11) (N := 55) hx hb hts inX11 hown hK hP 0 rfl rfl 46 (Nat.le_of_ble_eq_true rfl) (hts _ mw_1205) (fun _ h9 => h9) rfl dX11_square_73 ?_
              refine lv_aload_n hx hb dX11_square_76 rfl (lv_at hl 1 rfl) ?_
              refine va_get (D := (dC, dI)) (ci := 9) (v := .int x1) (C := RX11) (T := TX11) (N := 55) hx hb hts inX11 hown hK hP 0 rfl rfl 44 (Nat.le_of_ble_eq_true rfl) (hts _ mw_1203) (fun _ h9 => h9) rfl dX11_square_77 ?_
              refine lv_isub hx hb dX11_square_80 ?_
              refine lv_i2l (v := (x3 - x1).toInt64) hx hb dX11_square_81 (rfl) ?_
              refine lv_lmul hx hb dX11_square_82 ?_
              refine lv_aload_n hx hb dX11_square_83 rfl (lv_at hl 1 rfl) ?_
              refine va_get (D := (dC, dI)) (ci := 9) (v := .int x4) (C := RX11) (T := TX11) (N := 55) hx hb hts inX11 hown hK hP 0 rfl rfl 47 (Nat.le_of_ble_eq_true rfl) (hts _ mw_1206) (fun _ h9 => h9) rfl dX11_square_84 ?_
              refine lv_aload_n hx hb dX11_square_87 rfl (lv_at hl 1 rfl) ?_
              refine va_get (D := (dC, dI)) (ci := 9) (v := .int x2) (C := RX11) (T := TX11) (N := 55) hx hb hts inX11 hown hK hP 0 rfl rfl 45 (Nat.le_of_ble_eq_true rfl) (hts _ mw_1204) (fun _ h9 => h9) rfl dX11_square_88 ?_
              refine lv_isub hx hb dX11_square_91 ?_
              refine lv_i2l (v := (x4 - x2).toInt64) hx hb dX11_square_92 (rfl) ?_
              refine lv_lmul hx hb dX11_square_93 ?_
              refine lv_aload_n hx hb dX11_square_94 rfl (lv_at hl 1 rfl) ?_
              refine lv_iload_n hx hb dX11_square_95 rfl (lv_at hl 2 rfl) ?_
              obtain ⟨hPc, hDc, hFc⟩ := zo_sub (wc := [_, _, _, _, _]) hP hD hS hA [0, 11, 12, 13, 19] (by decide +kernel) rfl
              refine zcall (st1 := [.long (jI ((Int.natAbs (ar2 n (cF40 cx f) (cF40 cy f) n) : Nat) : Int)), .long ((2 * ((x3 - x1).toInt64)) * ((x4 - x2).toInt64))]) (va_runV (As := [.int (nI f)]) (rest := [.long ((2 * ((x3 - x1).toInt64)) * ((x4 - x2).toInt64))]) ⟨hx, hb, hml, hown, hts⟩ (k_M_area l dC dI cI cZ cF H.size k0 a (upd (upd (upd (upd (upd I0 26 (nI ln)) 44 x1) 45 x2) 46 x3) 47 x4) J0 f n mn cx cy S0 (by first | with_reducible assumption | omega) (by first | with_reducible assumption | assumption) (by first | with_reducible assumption | omega) (by first | with_reducible assumption | assumption)) (csV_218 hts rfl rfl ⟨Nat.le_of_ble_eq_true rfl, Nat.le_of_ble_eq_true rfl⟩) (zPV2 (q0 := 0) (ci := 9) hPc hDc hK hXN rfl rfl) rfl rfl hl.1 rfl (lv_room (Nat.le_of_ble_eq_true rfl)) dX11_square_96 ⟨Nat.zero_le _, Nat.zero_le _⟩) hS hFc hFc rfl (fun t H locs ht hB hk1 hS => ?_)
              obtain ⟨S2, hP1, hD1⟩ := hB
              rw [ht] at hP1
              obtain ⟨hP, hD⟩ := zn (W2 := [_, _, _, _, _, _, _, _, _, _, _, _, _, _, _, _, _, _, _, (oa (a 32) cI 8 S2), _, _, _, _, _, _, _, _, _, _, _, _]) hP hD hk1 hFc hP1 hD1 [0, 11, 12, 13, 19] zl_249 zl_249 [0, 11, 12, 13, 19] (by decide +kernel) rfl rfl rfl rfl rfl
              clear hk1 hPc hDc hFc hP1 hD1 ht
              have hdfb := dfB_b hp_f hn_f.1 hn_f.2
              have hmsb := i32B ms
              refine lv_lsub hx hb dX11_square_99 ?_
              refine zz_l (v := jI (dfB n (cF40 cx f) (cF40 cy f))) (by rw [eb1, eb2, eb3, eb4]; exact sqL hp_f hn_f.1 hn_f.2) ?_
              refine lv_lstore (lv' := [(4, .long (jI (dfB n (cF40 cx f) (cF40 cy f)))), (3, .int 0), (0, .ref k0), (1, .int (nI f)), (2, .int ms)]) hx hb dX11_square_100 hl (Nat.le_of_ble_eq_true rfl) rfl (fun ls hl => ?_)
              refine lv_lload hx hb dX11_square_102 (lv_at hl 0 rfl) ?_
              refine lv_iload_n hx hb dX11_square_104 rfl (lv_at hl 4 rfl) ?_
              refine lv_i2l (v := ms.toInt64) hx hb dX11_square_105 (rfl) ?_
              refine zz_l (v := jI ms.toInt) (jI_of (i64 _)) ?_
              refine W.lcmp hx hb dX11_square_106 ?_
              refine lv_if_le (tgt := 116) hx hb dX11_square_107 rfl (fun c_7 => ?_) (fun c_7 => ?_)
              · have c_7 : (dfB n (cF40 cx f) (cF40 cy f)) ≤ ms.toInt := zl_le (jI_toInt (by omega)) (jI_toInt (by omega)) c_7
                refine lv_aload_n hx hb dX11_square_116 rfl (lv_at hl 2 rfl) ?_
                refine lv_iload_n hx hb dX11_square_117 rfl (lv_at hl 3 rfl) ?_
                obtain ⟨hPc, hDc, hFc⟩ := zo_sub (wc := [_, _, _, _, _, _, _, _, _, _, _, _, _]) hP hD hS hA [0, 2, 10, 1, 11, 12, 13, 19, 23, 24, 25, 26, 27] (by decide +kernel) rfl
                refine zcall (st1 := []) (va_runV (As := [.int (nI f)]) (rest := []) ⟨hx, hb, hml, hown, hts⟩ (k_M_remember l dC dI cI cZ cF H.size k0 a (upd (upd (upd (upd (upd I0 26 (nI ln)) 44 x1) 45 x2) 46 x3) 47 x4) J0 f n ft st tn kd mn cx cy S2 ox oy mt wi ins (by first | with_reducible assumption | assumption) (by first | with_reducible assumption | omega) (by first | with_reducible assumption | omega) (by first | with_reducible assumption | assumption) (by first | with_reducible assumption | omega) (by first | with_reducible assumption | assumption) (fun q h1 _ => hwf q h1)) (csV_190 hts rfl rfl ⟨Nat.le_of_ble_eq_true rfl, Nat.le_of_ble_eq_true rfl⟩) (zPV2 (q0 := 0) (ci := 9) hPc hDc hK hXN rfl rfl) rfl rfl hl.1 rfl (lv_room (Nat.le_of_ble_eq_true rfl)) dX11_square_118 ⟨Nat.zero_le _, Nat.zero_le _⟩) hS hFc hFc rfl (fun t H locs ht hB hk1 hS => ?_)
                refine ex6 hB (fun S1 ox1 oy1 mt1 wi1 ins1 hB0 => ?_)
                clear hB
                obtain ⟨hox, hmt, hwi, hin, hP1, hD1⟩ := hB0
                rw [ht] at hP1
                obtain ⟨hP, hD⟩ := zn (W2 := [(om k0 a (upd (upd (upd (upd (upd (upd (upd I0 26 (nI ln)) 35 (nI n)) 36 (kd f)) 44 x1) 45 x2) 46 x3) 47 x4) J0), _, _, _, _, _, _, _, _, _, _, _, _, _, _, _, _, _, _, (oa (a 32) cI 8 S1), _, _, _, (oa (a 33) cI 42 ox1), (oa (a 34) cI 42 oy1), (oa (a 37) cZ 201 mt1), (oa (a 38) cZ 201 wi1), (oa (a 39) cZ 8040 ins1), _, _, _, _]) hP hD hk1 hFc hP1 hD1 zl_194 zl_195 zl_195 zl_194 (by decide +kernel) rfl rfl rfl rfl rfl
                clear hk1 hPc hDc hFc hP1 hD1 ht
                refine lv_aload_n hx hb dX11_square_121 rfl (lv_at hl 2 rfl) ?_
                refine lv_iload_n hx hb dX11_square_122 rfl (lv_at hl 3 rfl) ?_
                obtain ⟨hPc, hDc, hFc⟩ := zo_sub (wc := [_, _, _, _, _]) hP hD hS hA [0, 1, 11, 12, 13] (by decide +kernel) rfl
                refine zcall (st1 := []) (va_runV (As := [.int (nI f)]) (rest := []) ⟨hx, hb, hml, hown, hts⟩ (k_M_layBox l dC dI cI cZ cF H.size k0 a (upd (upd (upd (upd (upd (upd (upd I0 26 (nI ln)) 35 (nI n)) 36 (kd f)) 44 x1) 45 x2) 46 x3) 47 x4) J0 f kd mn cx cy (by first | with_reducible assumption | omega)) (csV_222 hts rfl rfl ⟨Nat.le_of_ble_eq_true rfl, Nat.le_of_ble_eq_true rfl⟩) (zPV2 (q0 := 0) (ci := 9) hPc hDc hK hXN rfl rfl) rfl rfl hl.1 rfl (lv_room (Nat.le_of_ble_eq_true rfl)) dX11_square_123 ⟨Nat.zero_le _, Nat.zero_le _⟩) hS hFc hFc rfl (fun t H locs ht hB hk1 hS => ?_)
                obtain ⟨hP1, hD1⟩ := hB
                rw [ht] at hP1
                obtain ⟨hP, hD⟩ := zn (W2 := [_, (oa (a 1) cI 201 (upd kd f 6)), _, _, _, _, _, _, _, _, _, (oa (a 11) cI 201 (upd mn f 4)), (oa (a 12) cI 8040 (bxX f (x1) (x3) 4 cx)), (oa (a 13) cI 8040 (bxY f (x2) (x4) 4 cy)), _, _, _, _, _, _, _, _, _, _, _, _, _, _, _, _, _, _]) hP hD hk1 hFc hP1 hD1 [0, 1, 11, 12, 13] zl_250 zl_250 [0, 1, 11, 12, 13] (by decide +kernel) rfl rfl rfl rfl rfl
                clear hk1 hPc hDc hFc hP1 hD1 ht
                refine lv_aload_n hx hb dX11_square_126 rfl (lv_at hl 2 rfl) ?_
                refine lv_iload_n hx hb dX11_square_127 rfl (lv_at hl 3 rfl) ?_
                refine lv_iconst (v := 5) hx hb dX11_square_128 rfl ?_
                have hum : upd (upd mn f 4) f (nI n) = mn := upd_back hm_f
                have huk : upd (upd kd f 6) f (kd f) = kd := upd_back rfl
                have hpo : pls n ox1 oy1 := fun j hj => by rw [(hox j hj).1, (hox j hj).2]; exact hp_f j hj
                have hbo : ∀ j, (j < 40 * f ∨ 40 * f + 40 ≤ j) → (bxX f x1 x3 4 cx) j = cx j ∧ (bxY f x2 x4 4 cy) j = cy j := fun j hj => ⟨bxX_o (by omega), bxY_o (by omega)⟩
                have hwf2 : ∀ q, lvF ft st tn q → q ≠ f → wfM (upd mn f 4) (bxX f x1 x3 4 cx) (bxY f x2 x4 4 cy) q := fun q h1 h2 => wfM_o (hwf q h1) h2 (fun j hj => if_neg hj) hbo
                have hlq : lwA ft st tn (upd kd f 6) (upd mn f 4) (bxX f x1 x3 4 cx) (bxY f x2 x4 4 cy) f 4 (ox1 0) (oy1 0) (bMt kd mn cx cy f n) (bWi kd mn cx cy f) (bIn kd cx cy f n) sW0 = lwS ft st tn kd mn cx cy f n := (by rw [(hox 0 (by omega)).1, (hox 0 (by omega)).2, eb1, eb2, eb3, eb4]; rfl)
                have hbx : fgX f n ox1 (bxX f x1 x3 4 cx) = fgX f n (cF40 cx f) (bxX f x1 x3 4 cx) := fgX_cg (fun k9 h9 => (hox k9 h9).1)
                have hby : fgX f n oy1 (bxY f x2 x4 4 cy) = fgX f n (cF40 cy f) (bxY f x2 x4 4 cy) := fgX_cg (fun k9 h9 => (hox k9 h9).2)
                obtain ⟨hPc, hDc, hFc⟩ := zo_sub (wc := [_, _, _, _, _, _, _, _, _, _, _, _, _, _, _, _, _, _, _, _, _, _, _, _, _, _, _, _, _, _, _, _]) hP hD hS hA [0, 1, 2, 3, 4, 5, 6, 7, 8, 9, 10, 11, 12, 13, 14, 15, 16, 17, 18, 19, 20, 21, 22, 23, 24, 25, 26, 27, 28, 29, 30, 31] (by decide +kernel) rfl
                refine zcall (st1 := [.int 1]) (va_runV (As := [.int (nI f), .int 5]) (rest := []) ⟨hx, hb, hml, hown, hts⟩ (k_M_changes_sy l dC dI cI cZ cF H.size k0 a (upd (upd (upd (upd (upd (upd (upd I0 26 (nI ln)) 35 (nI n)) 36 (kd f)) 44 x1) 45 x2) 46 x3) 47 x4) J0 f 4 ft n (kd f) (upd kd f 6) st gb it pa pb rk wd tw tn (upd mn f 4) (bxX f (x1) (x3) 4 cx) (bxY f (x2) (x4) 4 cy) sa sh wh of9 we S1 T0 P0 Q0 ox1 oy1 mt1 wi1 ins1 la lb lc ld (bMt kd mn cx cy f n) (bWi kd mn cx cy f) (bIn kd cx cy f n) dn bs w0 cp c1 c2 ln cl (hft) (by first | with_reducible assumption | omega) (by first | with_reducible assumption | omega) ((up_at _ _ _).trans rfl) (by first | with_reducible assumption | omega) (hwf2) (by first | with_reducible assumption | omega) (by first | with_reducible assumption | omega) (hpo) (hmt) (fun q h1 h2 h5 => by rw [hwi q h1 h2]; exact zp_iff ⟨fun h => h.2, fun h => ⟨by rw [show upd kd f 6 q = kd q from if_neg h2] at h5; exact h5, h⟩⟩) (fun q h1 h2 i hi h5 => hin q h1 h2 (by first | with_reducible assumption | omega) i (by rw [show upd mn f 4 q = mn q from if_neg h2] at hi; exact hi)) (hft_f) (hdn) (hbs) (by first | with_reducible assumption | omega) (by first | with_reducible assumption | omega) (hi5_1) (hsa_1) (by rw [hum]; exact hmn_1) (hc1_1) (hpw_1) (hw0_1) (by rw [hum]; exact hfit_1) (by rw [hum]; exact hmin_1) (hcE_1) (by intro v9 h1 h2 h3; by_cases e9 : v9 = f; (rw [e9, up_at]; exact ⟨rfl, by decide⟩); (rw [show upd mn f 4 v9 = mn v9 from if_neg e9]; exact hmn_1 v9 h1 h2 h3)) (hpw_2) (by rw [hum]; exact hfit_2) (by rw [hum]; exact hmin_2) (hcE_2) (fun j h1 h2 => ⟨(bxX_o (by first | with_reducible assumption | omega)).trans (hox j h2).1.symm, (bxY_o (by first | with_reducible assumption | omega)).trans (hox j h2).2.symm⟩) (hlc) (hcl1) (hclm) (trivial) (by rw [hlq]; exact hlaw)) (csV_212 hts rfl rfl ⟨Nat.le_of_ble_eq_true rfl, Nat.le_of_ble_eq_true rfl⟩) (zPV2 (q0 := 0) (ci := 9) hPc hDc hK hXN rfl rfl) rfl rfl hl.1 rfl (lv_room (Nat.le_of_ble_eq_true rfl)) dX11_square_129 ⟨show (0 + (c2 - cp)) ≤ c2 - cp by omega, show (0 + (8192 * (c2 - cp))) ≤ 8192 * (c2 - cp) by omega⟩) hS hFc hFc rfl (fun t H locs ht hB hk1 hS => ?_)
                refine ex12 hB (fun z8 b2 sh2 t9 S3 T2 P2 Q2 la1 lb1 lc1 ld1 hB0 => ?_)
                clear hB
                obtain ⟨p0, p1, p2, p3, p4, p5, p6, hP1, hD1⟩ := hB0
                rw [ht] at hP1
                obtain ⟨hP, hD⟩ := zn (W2 := [(om k0 (va_up a 28 b2) (upd (upd (upd (upd (upd (upd (upd (upd (upd (upd (upd (upd I0 14 0) 19 (nI (dn + 1))) 20 0) 26 (nI t9)) 31 z8) 35 (nI n)) 36 (kd f)) 41 (nI (psN (nnF st tn (upd mn f 4)) (psN (nnF st tn (upd (upd mn f 4) f (nI n))) w0 ft) ft))) 44 x1) 45 x2) 46 x3) 47 x4) J0), (oa (a 1) cI 201 (upd kd f 6)), (oa (a 5) cI 201 st), (oa (a 7) cI 201 gb), (oa (a 10) cI 201 it), (oa (a 8) cI 201 pa), (oa (a 9) cI 201 pb), (oa (a 2) cI 201 rk), (oa (a 3) cI 201 wd), (oa (a 4) cI 201 tw), (oa (a 6) cZ 201 tn), (oa (a 11) cI 201 (upd mn f 4)), (oa (a 12) cI 8040 (bxX f (x1) (x3) 4 cx)), (oa (a 13) cI 8040 (bxY f (x2) (x4) 4 cy)), (oa (a 27) cI 516 (upd (upd sa (dn - bs + 1) (nI (psN (nnF st tn (upd (upd mn f 4) f (nI n))) w0 ft))) (dn + 1 - bs + 1) (nI (psN (nnF st tn (upd mn f 4)) (psN (nnF st tn (upd (upd mn f 4) f (nI n))) w0 ft) ft)))), (oa b2 cI (4096 * c2) sh2), (oa (a 16) cI 514 (upd wh (dn + 1) (5 : Int32))), (oa (a 17) cI 514 (upd of9 (dn + 1) (nI f))), (oa (a 18) cI 514 (upd we (dn + 1) (0 : Int32))), (oa (a 32) cI 8 S3), (oa (a 40) cI 6 T2), (oa (a 29) cI 42 P2), (oa (a 30) cI 42 Q2), (oa (a 33) cI 42 ox1), (oa (a 34) cI 42 oy1), (oa (a 37) cZ 201 mt1), (oa (a 38) cZ 201 wi1), (oa (a 39) cZ 8040 ins1), (oa (a 22) cI (64 * cl) la1), (oa (a 23) cI (64 * cl) lb1), (oa (a 24) cI (64 * cl) lc1), (oa (a 25) cI (64 * cl) ld1)]) hP hD hk1 hFc hP1 hD1 zl_196 [] zl_197 zl_196 (by decide +kernel) rfl rfl rfl rfl rfl
                clear hk1 hPc hDc hFc hP1 hD1 ht
                obtain ⟨hP9, hD9⟩ := zu_sub (wc := [(om k0 (va_up a 28 b2) (upd (upd (upd (upd (upd (upd (upd (upd (upd (upd (upd (upd I0 14 0) 19 (nI (dn + 1))) 20 0) 26 (nI t9)) 31 z8) 35 (nI n)) 36 (kd f)) 41 (nI (psN (nnF st tn (upd mn f 4)) (psN (nnF st tn (upd (upd mn f 4) f (nI n))) w0 ft) ft))) 44 x1) 45 x2) 46 x3) 47 x4) J0), (oa (a 1) cI 201 (upd kd f 6)), (oa (a 5) cI 201 st), (oa (a 7) cI 201 gb), (oa (a 10) cI 201 it), (oa (a 8) cI 201 pa), (oa (a 9) cI 201 pb), (oa (a 2) cI 201 rk), (oa (a 3) cI 201 wd), (oa (a 4) cI 201 tw), (oa (a 6) cZ 201 tn), (oa (a 11) cI 201 (upd mn f 4)), (oa (a 12) cI 8040 (bxX f (x1) (x3) 4 cx)), (oa (a 13) cI 8040 (bxY f (x2) (x4) 4 cy)), (oa (a 27) cI 516 (upd (upd sa (dn - bs + 1) (nI (psN (nnF st tn (upd (upd mn f 4) f (nI n))) w0 ft))) (dn + 1 - bs + 1) (nI (psN (nnF st tn (upd mn f 4)) (psN (nnF st tn (upd (upd mn f 4) f (nI n))) w0 ft) ft)))), (oa b2 cI (4096 * c2) sh2), (oa (a 16) cI 514 (upd wh (dn + 1) (5 : Int32))), (oa (a 17) cI 514 (upd of9 (dn + 1) (nI f))), (oa (a 18) cI 514 (upd we (dn + 1) (0 : Int32))), (oa (a 32) cI 8 S3), (oa (a 40) cI 6 T2), (oa (a 29) cI 42 P2), (oa (a 30) cI 42 Q2), (oa (a 33) cI 42 ox1), (oa (a 34) cI 42 oy1), (oa (a 37) cZ 201 mt1), (oa (a 38) cZ 201 wi1), (oa (a 39) cZ 8040 ins1), (oa (a 22) cI (64 * cl) la1), (oa (a 23) cI (64 * cl) lb1), (oa (a 24) cI (64 * cl) lc1), (oa (a 25) cI (64 * cl) ld1)]) hP hD (true :: true :: true :: true :: true :: true :: true :: true :: true :: true :: true :: true :: true :: true :: true :: true :: true :: true :: true :: true :: true :: true :: true :: true :: true :: true :: true :: true :: true :: true :: true :: true :: []) rfl rfl
                have hE9 : ([(om k0 (va_up a 28 b2) (upd (upd (upd (upd (upd (upd (upd (upd (upd (upd (upd (upd I0 14 0) 19 (nI (dn + 1))) 20 0) 26 (nI t9)) 31 z8) 35 (nI n)) 36 (kd f)) 41 (nI (psN (nnF st tn (upd mn f 4)) (psN (nnF st tn (upd (upd mn f 4) f (nI n))) w0 ft) ft))) 44 x1) 45 x2) 46 x3) 47 x4) J0), (oa (a 1) cI 201 (upd kd f 6)), (oa (a 5) cI 201 st), (oa (a 7) cI 201 gb), (oa (a 10) cI 201 it), (oa (a 8) cI 201 pa), (oa (a 9) cI 201 pb), (oa (a 2) cI 201 rk), (oa (a 3) cI 201 wd), (oa (a 4) cI 201 tw), (oa (a 6) cZ 201 tn), (oa (a 11) cI 201 (upd mn f 4)), (oa (a 12) cI 8040 (bxX f (x1) (x3) 4 cx)), (oa (a 13) cI 8040 (bxY f (x2) (x4) 4 cy)), (oa (a 27) cI 516 (upd (upd sa (dn - bs + 1) (nI (psN (nnF st tn (upd (upd mn f 4) f (nI n))) w0 ft))) (dn + 1 - bs + 1) (nI (psN (nnF st tn (upd mn f 4)) (psN (nnF st tn (upd (upd mn f 4) f (nI n))) w0 ft) ft)))), (oa b2 cI (4096 * c2) sh2), (oa (a 16) cI 514 (upd wh (dn + 1) (5 : Int32))), (oa (a 17) cI 514 (upd of9 (dn + 1) (nI f))), (oa (a 18) cI 514 (upd we (dn + 1) (0 : Int32))), (oa (a 32) cI 8 S3), (oa (a 40) cI 6 T2), (oa (a 29) cI 42 P2), (oa (a 30) cI 42 Q2), (oa (a 33) cI 42 ox1), (oa (a 34) cI 42 oy1), (oa (a 37) cZ 201 mt1), (oa (a 38) cZ 201 wi1), (oa (a 39) cZ 8040 ins1), (oa (a 22) cI (64 * cl) la1), (oa (a 23) cI (64 * cl) lb1), (oa (a 24) cI (64 * cl) lc1), (oa (a 25) cI (64 * cl) ld1)] : va_W) = [(om k0 (va_up a 28 b2) (upd (upd (upd (upd (upd (upd (upd (upd (upd (upd (upd (upd I0 14 0) 19 (nI (dn + 1))) 20 0) 26 (nI t9)) 31 z8) 35 (nI n)) 36 (kd f)) 41 (nI (psN (nnF st tn (upd mn f 4)) (psN (nnF st tn mn) w0 ft) ft))) 44 x1) 45 x2) 46 x3) 47 x4) J0), (oa (a 1) cI 201 (upd kd f 6)), (oa (a 5) cI 201 st), (oa (a 7) cI 201 gb), (oa (a 10) cI 201 it), (oa (a 8) cI 201 pa), (oa (a 9) cI 201 pb), (oa (a 2) cI 201 rk), (oa (a 3) cI 201 wd), (oa (a 4) cI 201 tw), (oa (a 6) cZ 201 tn), (oa (a 11) cI 201 (upd mn f 4)), (oa (a 12) cI 8040 (bxX f x1 x3 4 cx)), (oa (a 13) cI 8040 (bxY f x2 x4 4 cy)), (oa (a 27) cI 516 (upd (upd sa (dn - bs + 1) (nI (psN (nnF st tn mn) w0 ft))) (dn + 1 - bs + 1) (nI (psN (nnF st tn (upd mn f 4)) (psN (nnF st tn mn) w0 ft) ft)))), (oa b2 cI (4096 * c2) sh2), (oa (a 16) cI 514 (upd wh (dn + 1) (5 : Int32))), (oa (a 17) cI 514 (upd of9 (dn + 1) (nI f))), (oa (a 18) cI 514 (upd we (dn + 1) (0 : Int32))), (oa (a 32) cI 8 S3), (oa (a 40) cI 6 T2), (oa (a 29) cI 42 P2), (oa (a 30) cI 42 Q2), (oa (a 33) cI 42 ox1), (oa (a 34) cI 42 oy1), (oa (a 37) cZ 201 mt1), (oa (a 38) cZ 201 wi1), (oa (a 39) cZ 8040 ins1), (oa (a 22) cI (64 * cl) la1), (oa (a 23) cI (64 * cl) lb1), (oa (a 24) cI (64 * cl) lc1), (oa (a 25) cI (64 * cl) ld1)] := by rw [hum]
                rw [hE9] at hP9 hD9
                refine W.widen (k := c2 - cp) (n := 8192 * (c2 - cp)) (by omega) (by omega) ?_
                rw [hQ9]
                exact W.zret (ty := .boolean) (v := 1) hx hb hr (rfl) (fun t ht hW => ⟨⟨rfl, z8, b2, sh2, t9, S3, T2, P2, Q2, ox1, oy1, mt1, wi1, ins1, la1, lb1, lc1, ld1, x1, x2, x3, x4, (eb1), (eb2), (eb3), (eb4), (p0), (p1), (fun g hg j hj => by have h9 := p2; rw [hum, huk, hbx, hby] at h9; rw [h9 g hg j hj]; have h40 := nn_le hmn_1 hg; exact shD_cg (fun k hk => ⟨sqK (fun _ _ => rfl) (fun j hj => (hbo j hj).1) (by omega) (fun e => by rw [e, nnF_at hst1 htn0 hm_f hn_f.2] at hk; exact hk) hn_f.2, sqK (fun _ _ => rfl) (fun j hj => (hbo j hj).2) (by omega) (fun e => by rw [e, nnF_at hst1 htn0 hm_f hn_f.2] at hk; exact hk) hn_f.2⟩) hj), (by have h9 := p3; rw [hum] at h9; exact h9), (by have h9 := p4; rw [hum] at h9; exact h9), (p5), (p6), by rw [ht]; exact hP9, hD9⟩, hS.F ht⟩) hS.2.2 dX11_square_132
              · have c_7 : ms.toInt < (dfB n (cF40 cx f) (cF40 cy f)) := zl_nle (jI_toInt (by omega)) (jI_toInt (by omega)) c_7
                exfalso; omega
            · have c_6 : ¬ (tn f).toInt = 0 := zc_ne rfl rfl c_6
              exfalso; omega
          · exact absurd (by decide) c_5
        · have c_4 : ms.toInt < 0 := zc_nle rfl rfl c_4
          exfalso; omega
      · have c_3 : ¬ (kd f).toInt = 5 := zc_ne rfl rfl c_3
        exfalso; omega
    · exact absurd (by decide) c_1
  · skip
    refine lv_istore_n (lv' := [(3, .int 2), (0, .ref k0), (1, .int (nI f)), (2, .int ms)]) hx hb dX11_square_5 rfl hl (Nat.le_of_ble_eq_true rfl) rfl (fun ls hl => ?_)
    refine lv_iload_n hx hb dX11_square_6 rfl (lv_at hl 0 rfl) ?_
    refine lv_if_le (tgt := 14) hx hb dX11_square_7 rfl (fun c_8 => ?_) (fun c_8 => ?_)
    · exact absurd c_8 (by decide)
    · exfalso; omega
end
