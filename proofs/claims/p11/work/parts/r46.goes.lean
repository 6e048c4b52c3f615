section
set_option maxHeartbeats 4000000 in
set_option maxRecDepth 100000 in
theorem k_M_mayGo (l : Launch) (dC : Nat → ClassId) (dI : Nat → Nat → Nat) (cI cZ cF : ClassId) (sz : Nat) (k0 : Nat) (a : Nat → Nat) (I0 : Nat → Int32) (J0 : Nat → Int64) (f : Nat) (n : Nat) (k : Nat) (ft : Nat) (st : Nat → Int32) (tn : Nat → Int32) (kd : Nat → Int32) (mn : Nat → Int32) (cx : Nat → Int32) (cy : Nat → Int32) (S0 : Nat → Int32) (hft : I0 0 = nI ft) (h200 : ft ≤ 200) (hf_f : f ≤ 200) (hm_f : mn f = nI n) (hn_f : 1 ≤ n ∧ n ≤ 40) (hp_f : pls n (cF40 cx f) (cF40 cy f)) (hk9 : k < n) (hwf : ∀ q, lvF ft st tn q → wfM mn cx cy q) : zM l yX11_mayGo cX11_mayGo 3 (some .boolean) ({ frames := 4, cells := 0, slots := 0, locals := 104 } : Room) [.ref k0, .int (nI f), .int (nI k)] (dC, dI) (zTy cI cZ cF) [(om k0 a I0 J0), (oa (a 5) cI 201 st), (oa (a 6) cZ 201 tn), (oa (a 1) cI 201 kd), (oa (a 11) cI 201 mn), (oa (a 12) cI 8040 cx), (oa (a 13) cI 8040 cy), (oa (a 32) cI 8 S0)] sz (some (.int (pI (mGo ft st tn kd mn cx cy f n k)))) (fun A t => ∃ (S1 : Nat → Int32), zPD (dC, dI) classes A [(om k0 a I0 J0), (oa (a 5) cI 201 st), (oa (a 6) cZ 201 tn), (oa (a 1) cI 201 kd), (oa (a 11) cI 201 mn), (oa (a 12) cI 8040 cx), (oa (a 13) cI 8040 cy), (oa (a 32) cI 8 S1)] t.heap) 0 0 := by
  refine zIn (own := "ScaleShopModel") (loc := [(0, .ref k0), (1, .int (nI f)), (2, .int (nI k))]) rfl rfl rfl rfl (fun p e s m below meth c hx hb hr hts hown hlocks hml hnm9 A hA hS hP hD hK hXN Q9 hQ9 ls hl => ?_)
  refine lv_aload_n hx hb dX11_mayGo_0 rfl (lv_at hl 0 rfl) ?_
  refine lv_iload_n hx hb dX11_mayGo_1 rfl (lv_at hl 1 rfl) ?_
  obtain ⟨hPc, hDc, hFc, hI1⟩ := zi_sub (wc := [_, _]) hP hD hS hA [0, 3] rfl rfl
  refine zcall (st1 := [.int (pI (5 ≤ (kd f).toInt))]) (va_runV (As := [.int (nI f)]) (rest := []) ⟨hx, hb, hml, hown, hts⟩ (k_M_isRing l dC dI cI cZ cF s.heap.size k0 a I0 J0 f kd (by first | with_reducible assumption | omega)) (csV_165 hts rfl rfl ⟨Nat.le_of_ble_eq_true rfl, Nat.le_of_ble_eq_true rfl⟩) (zPV2 (q0 := 0) (ci := 9) hPc hDc hK hXN rfl rfl) rfl rfl hl.1 rfl (lv_room (Nat.le_of_ble_eq_true rfl)) dX11_mayGo_2 ⟨Nat.le_of_ble_eq_true rfl, Nat.le_of_ble_eq_true rfl⟩) hS hFc hFc rfl (fun t H locs ht hB hk1 hS => ?_)
  obtain ⟨hP1, hD1⟩ := hB
  rw [ht] at hP1
  replace hP := z0 hP hD hk1 hP1 hI1
  clear hk1 hPc hDc hFc hP1 hD1 ht hI1
  refine lv_if_eq (tgt := 21) hx hb dX11_mayGo_5 rfl (fun c_1 => ?_) (fun c_1 => ?_)
  · have c_1 : ¬ (5 ≤ (kd f).toInt) := zp_0 c_1
    refine lv_iload_n hx hb dX11_mayGo_21 rfl (lv_at hl 2 rfl) ?_
    have b9_3 : zlt (k) := show k < 2147483648 by omega
    refine lv_if_eq (tgt := 37) hx hb dX11_mayGo_22 rfl (fun c_2 => ?_) (fun c_2 => ?_)
    · have c_2 : ((k : Nat) : Int) = 0 := zc_eq (nI_toInt b9_3) rfl c_2
      refine lv_iconst (v := 0) hx hb dX11_mayGo_37 rfl ?_
      obtain ⟨hP9, hD9⟩ := zu_sub (wc := [_, _, _, _, _, _, _, _]) hP hD [true, true, true, true, true, true, true, true] rfl rfl
      rw [hQ9]
      exact W.zret (ty := .boolean) (v := 0) hx hb hr (rfl) (fun t ht hW => ⟨⟨congrArg (fun z => Outcome.returned (some (Value.int z))) (show (0 : Int32) = pI (mGo ft st tn kd mn cx cy f n k) from (zp_f (by unfold mGo; intro h; rcases h.1 with h9 | h9 <;> first | omega | exact absurd h9.1 (by first | with_reducible assumption | assumption))).symm), S0, by rw [ht]; exact hP9, hD9⟩, hS.F ht⟩) hS.2.2 dX11_mayGo_38
    · have c_2 : ¬ ((k : Nat) : Int) = 0 := zc_ne (nI_toInt b9_3) rfl c_2
      refine lv_iload_n hx hb dX11_mayGo_25 rfl (lv_at hl 2 rfl) ?_
      refine lv_aload_n hx hb dX11_mayGo_26 rfl (lv_at hl 0 rfl) ?_
      refine va_get (D := (dC, dI)) (ci := 9) (v := .ref (a 11)) (C := RX11) (T := TX11) (N := 55) hx hb hts inX11 hown hK hP 0 rfl rfl 11 (Nat.le_of_ble_eq_true rfl) (hts _ mw_1170) (fun _ h9 => h9) rfl dX11_mayGo_27 ?_
      refine lv_iload_n hx hb dX11_mayGo_30 rfl (lv_at hl 1 rfl) ?_
      have b9_4 : f < 201 := by omega
      refine z_iald hx hb hK hP 4 0 rfl rfl (e := f) rfl b9_4 (Nat.le_of_ble_eq_true rfl) dX11_mayGo_31 ?_
      refine zz_i (v := nI n) (hm_f) ?_
      refine lv_iconst (v := 1) hx hb dX11_mayGo_32 rfl ?_
      refine lv_isub hx hb dX11_mayGo_33 ?_
      refine zz_i (v := nI (n - 1)) (pk_sub (a := n) (b := 1) (by omega)) ?_
      have b9_6 : zlt ((n - 1)) := show (n - 1) < 2147483648 by omega
      refine lv_icmp_ne (tgt := 39) hx hb dX11_mayGo_34 rfl (fun c_5 => ?_) (fun c_5 => ?_)
      · have c_5 : ¬ ((k : Nat) : Int) = ((n - 1 : Nat) : Int) := zc_ne (nI_toInt b9_3) (nI_toInt b9_6) c_5
        refine lv_aload_n hx hb dX11_mayGo_39 rfl (lv_at hl 0 rfl) ?_
        refine lv_iload_n hx hb dX11_mayGo_40 rfl (lv_at hl 1 rfl) ?_
        refine lv_aload_n hx hb dX11_mayGo_41 rfl (lv_at hl 0 rfl) ?_
        refine va_get (D := (dC, dI)) (ci := 9) (v := .ref (a 12)) (C := RX11) (T := TX11) (N := 55) hx hb hts inX11 hown hK hP 0 rfl rfl 12 (Nat.le_of_ble_eq_true rfl) (hts _ mw_1171) (fun _ h9 => h9) rfl dX11_mayGo_42 ?_
        refine lv_bipush (v := 40) hx hb dX11_mayGo_45 rfl ?_
        refine lv_iload_n hx hb dX11_mayGo_47 rfl (lv_at hl 1 rfl) ?_
        refine lv_imul hx hb dX11_mayGo_48 ?_
        refine zz_i (v := nI (40 * f)) (pk_mul 40 f) ?_
        refine lv_iload_n hx hb dX11_mayGo_49 rfl (lv_at hl 2 rfl) ?_
        refine lv_iadd hx hb dX11_mayGo_50 ?_
        refine zz_i (v := nI (40 * f + k)) (nI_add (40 * f) k) ?_
        have b9_7 : 40 * f + k < 8040 := by omega
        refine z_iald hx hb hK hP 5 0 rfl rfl (e := 40 * f + k) rfl b9_7 (Nat.le_of_ble_eq_true rfl) dX11_mayGo_51 ?_
        refine lv_aload_n hx hb dX11_mayGo_52 rfl (lv_at hl 0 rfl) ?_
        refine va_get (D := (dC, dI)) (ci := 9) (v := .ref (a 13)) (C := RX11) (T := TX11) (N := 55) hx hb hts inX11 hown hK hP 0 rfl rfl 13 (Nat.le_of_ble_eq_true rfl) (hts _ mw_1172) (fun _ h9 => h9) rfl dX11_mayGo_53 ?_
        refine lv_bipush (v := 40) hx hb dX11_mayGo_56 rfl ?_
        refine lv_iload_n hx hb dX11_mayGo_58 rfl (lv_at hl 1 rfl) ?_
        refine lv_imul hx hb dX11_mayGo_59 ?_
        refine zz_i (v := nI (40 * f)) (pk_mul 40 f) ?_
        refine lv_iload_n hx hb dX11_mayGo_60 rfl (lv_at hl 2 rfl) ?_
        refine lv_iadd hx hb dX11_mayGo_61 ?_
        refine zz_i (v := nI (40 * f + k)) (nI_add (40 * f) k) ?_
        refine z_iald hx hb hK hP 6 0 rfl rfl (e := 40 * f + k) rfl b9_7 (Nat.le_of_ble_eq_true rfl) dX11_mayGo_62 ?_
        obtain ⟨hPc, hDc, hFc⟩ := zo_sub (wc := [_, _, _, _, _, _, _, _]) hP hD hS hA [0, 1, 2, 3, 4, 5, 6, 7] (by decide +kernel) rfl
        refine zcall (st1 := [.int (pI (∃ q, (q < ft ∧ (st q).toInt = 1 ∧ (tn q).toInt = 0) ∧ q ≠ f ∧ onF kd mn cx cy q (cx (40 * f + k)).toInt (cy (40 * f + k)).toInt))]) (va_runV (As := [.int (nI f), .int (cx (40 * f + k)), .int (cy (40 * f + k))]) (rest := []) ⟨hx, hb, hml, hown, hts⟩ (k_M_isHeld l dC dI cI cZ cF H.size k0 a I0 J0 f ft st tn kd mn cx cy S0 (cx (40 * f + k)) (cy (40 * f + k)) (by first | with_reducible assumption | assumption) (by first | with_reducible assumption | omega) (by first | with_reducible assumption | assumption) (by first | with_reducible assumption | omega) ((hp_f k hk9).1) ((hp_f k hk9).2)) (csV_189 hts rfl rfl ⟨Nat.le_of_ble_eq_true rfl, Nat.le_of_ble_eq_true rfl⟩) (zPV2 (q0 := 0) (ci := 9) hPc hDc hK hXN rfl rfl) rfl rfl hl.1 rfl (lv_room (Nat.le_of_ble_eq_true rfl)) dX11_mayGo_63 ⟨Nat.le_of_ble_eq_true rfl, Nat.le_of_ble_eq_true rfl⟩) hS hFc hFc rfl (fun t H locs ht hB hk1 hS => ?_)
        obtain ⟨q_8, hP1, hD1⟩ := hB
        rw [ht] at hP1
        obtain ⟨hP, hD⟩ := zn (W2 := [_, _, _, _, _, _, _, (oa (a 32) cI 8 q_8)]) hP hD hk1 hFc hP1 hD1 zl_157 [] zl_158 zl_157 (by decide +kernel) rfl rfl rfl rfl rfl
        clear hk1 hPc hDc hFc hP1 hD1 ht
        refine lv_if_ne (tgt := 73) hx hb dX11_mayGo_66 rfl (fun c_9 => ?_) (fun c_9 => ?_)
        · have c_9 : ∃ q, (q < ft ∧ (st q).toInt = 1 ∧ (tn q).toInt = 0) ∧ q ≠ f ∧ onF kd mn cx cy q (cx (40 * f + k)).toInt (cy (40 * f + k)).toInt := zp_1 c_9
          refine lv_iconst (v := 0) hx hb dX11_mayGo_73 rfl ?_
          obtain ⟨hP9, hD9⟩ := zu_sub (wc := [_, _, _, _, _, _, _, _]) hP hD [true, true, true, true, true, true, true, true] rfl rfl
          rw [hQ9]
          exact W.zret (ty := .boolean) (v := 0) hx hb hr (rfl) (fun t ht hW => ⟨⟨congrArg (fun z => Outcome.returned (some (Value.int z))) (show (0 : Int32) = pI (mGo ft st tn kd mn cx cy f n k) from (zp_f (by unfold mGo; first | exact ⟨by first | exact Or.inl ⟨by assumption, by omega⟩ | exact Or.inr ⟨by assumption, by omega, by omega⟩, by assumption⟩ | exact fun h => h.2 (by first | with_reducible assumption | assumption))).symm), q_8, by rw [ht]; exact hP9, hD9⟩, hS.F ht⟩) hS.2.2 dX11_mayGo_74
        · have c_9 : ¬ (∃ q, (q < ft ∧ (st q).toInt = 1 ∧ (tn q).toInt = 0) ∧ q ≠ f ∧ onF kd mn cx cy q (cx (40 * f + k)).toInt (cy (40 * f + k)).toInt) := zp_0 c_9
          refine lv_iconst (v := 1) hx hb dX11_mayGo_69 rfl ?_
          refine lv_goto (tgt := 74) hx hb dX11_mayGo_70 rfl ?_
          obtain ⟨hP9, hD9⟩ := zu_sub (wc := [_, _, _, _, _, _, _, _]) hP hD [true, true, true, true, true, true, true, true] rfl rfl
          rw [hQ9]
          exact W.zret (ty := .boolean) (v := 1) hx hb hr (rfl) (fun t ht hW => ⟨⟨congrArg (fun z => Outcome.returned (some (Value.int z))) (show (1 : Int32) = pI (mGo ft st tn kd mn cx cy f n k) from (zp_t (by unfold mGo; first | exact ⟨by first | exact Or.inl ⟨by assumption, by omega⟩ | exact Or.inr ⟨by assumption, by omega, by omega⟩, by assumption⟩ | exact fun h => h.2 (by first | with_reducible assumption | assumption))).symm), q_8, by rw [ht]; exact hP9, hD9⟩, hS.F ht⟩) hS.2.2 dX11_mayGo_74
      · have c_5 : ((k : Nat) : Int) = ((n - 1 : Nat) : Int) := zc_eq (nI_toInt b9_3) (nI_toInt b9_6) c_5
        refine lv_iconst (v := 0) hx hb dX11_mayGo_37 rfl ?_
        obtain ⟨hP9, hD9⟩ := zu_sub (wc := [_, _, _, _, _, _, _, _]) hP hD [true, true, true, true, true, true, true, true] rfl rfl
        rw [hQ9]
        exact W.zret (ty := .boolean) (v := 0) hx hb hr (rfl) (fun t ht hW => ⟨⟨congrArg (fun z => Outcome.returned (some (Value.int z))) (show (0 : Int32) = pI (mGo ft st tn kd mn cx cy f n k) from (zp_f (by unfold mGo; intro h; rcases h.1 with h9 | h9 <;> first | omega | exact absurd h9.1 (by first | with_reducible assumption | assumption))).symm), S0, by rw [ht]; exact hP9, hD9⟩, hS.F ht⟩) hS.2.2 dX11_mayGo_38
  · have c_1 : 5 ≤ (kd f).toInt := zp_1 c_1
    refine lv_aload_n hx hb dX11_mayGo_8 rfl (lv_at hl 0 rfl) ?_
    refine va_get (D := (dC, dI)) (ci := 9) (v := .ref (a 11)) (C := RX11) (T := TX11) (N := 55) hx hb hts inX11 hown hK hP 0 rfl rfl 11 (Nat.le_of_ble_eq_true rfl) (hts _ mw_1170) (fun _ h9 => h9) rfl dX11_mayGo_9 ?_
    refine lv_iload_n hx hb dX11_mayGo_12 rfl (lv_at hl 1 rfl) ?_
    have b9_10 : f < 201 := by omega
    refine z_iald hx hb hK hP 4 0 rfl rfl (e := f) rfl b9_10 (Nat.le_of_ble_eq_true rfl) dX11_mayGo_13 ?_
    refine zz_i (v := nI n) (hm_f) ?_
    refine lv_iconst (v := 3) hx hb dX11_mayGo_14 rfl ?_
    have b9_12 : zlt (n) := show n < 2147483648 by omega
    refine lv_icmp_ne (tgt := 39) hx hb dX11_mayGo_15 rfl (fun c_11 => ?_) (fun c_11 => ?_)
    · have c_11 : ¬ ((n : Nat) : Int) = 3 := zc_ne (nI_toInt b9_12) rfl c_11
      refine lv_aload_n hx hb dX11_mayGo_39 rfl (lv_at hl 0 rfl) ?_
      refine lv_iload_n hx hb dX11_mayGo_40 rfl (lv_at hl 1 rfl) ?_
      refine lv_aload_n hx hb dX11_mayGo_41 rfl (lv_at hl 0 rfl) ?_
      refine va_get (D := (dC, dI)) (ci := 9) (v := .ref (a 12)) (C := RX11) (T := TX11) (N := 55) hx hb hts inX11 hown hK hP 0 rfl rfl 12 (Nat.le_of_ble_eq_true rfl) (hts _ mw_1171) (fun _ h9 => h9) rfl dX11_mayGo_42 ?_
      refine lv_bipush (v := 40) hx hb dX11_mayGo_45 rfl ?_
      refine lv_iload_n hx hb dX11_mayGo_47 rfl (lv_at hl 1 rfl) ?_
      refine lv_imul hx hb dX11_mayGo_48 ?_
      refine zz_i (v := nI (40 * f)) (pk_mul 40 f) ?_
      refine lv_iload_n hx hb dX11_mayGo_49 rfl (lv_at hl 2 rfl) ?_
      refine lv_iadd hx hb dX11_mayGo_50 ?_
      refine zz_i (v := nI (40 * f + k)) (nI_add (40 * f) k) ?_
      have b9_13 : 40 * f + k < 8040 := by omega
      refine z_iald hx hb hK hP 5 0 rfl rfl (e := 40 * f + k) rfl b9_13 (Nat.le_of_ble_eq_true rfl) dX11_mayGo_51 ?_
      refine lv_aload_n hx hb dX11_mayGo_52 rfl (lv_at hl 0 rfl) ?_
      refine va_get (D := (dC, dI)) (ci := 9) (v := .ref (a 13)) (C := RX11) (T := TX11) (N := 55) hx hb hts inX11 hown hK hP 0 rfl rfl 13 (Nat.le_of_ble_eq_true rfl) (hts _ mw_1172) (fun _ h9 => h9) rfl dX11_mayGo_53 ?_
      refine lv_bipush (v := 40) hx hb dX11_mayGo_56 rfl ?_
      refine lv_iload_n hx hb dX11_mayGo_58 rfl (lv_at hl 1 rfl) ?_
      refine lv_imul hx hb dX11_mayGo_59 ?_
      refine zz_i (v := nI (40 * f)) (pk_mul 40 f) ?_
      refine lv_iload_n hx hb dX11_mayGo_60 rfl (lv_at hl 2 rfl) ?_
      refine lv_iadd hx hb dX11_mayGo_61 ?_
      refine zz_i (v := nI (40 * f + k)) (nI_add (40 * f) k) ?_
      refine z_iald hx hb hK hP 6 0 rfl rfl (e := 40 * f + k) rfl b9_13 (Nat.le_of_ble_eq_true rfl) dX11_mayGo_62 ?_
      obtain ⟨hPc, hDc, hFc⟩ := zo_sub (wc := [_, _, _, _, _, _, _, _]) hP hD hS hA [0, 1, 2, 3, 4, 5, 6, 7] (by decide +kernel) rfl
      refine zcall (st1 := [.int (pI (∃ q, (q < ft ∧ (st q).toInt = 1 ∧ (tn q).toInt = 0) ∧ q ≠ f ∧ onF kd mn cx cy q (cx (40 * f + k)).toInt (cy (40 * f + k)).toInt))]) (va_runV (As := [.int (nI f), .int (cx (40 * f + k)), .int (cy (40 * f + k))]) (rest := []) ⟨hx, hb, hml, hown, hts⟩ (k_M_isHeld l dC dI cI cZ cF H.size k0 a I0 J0 f ft st tn kd mn cx cy S0 (cx (40 * f + k)) (cy (40 * f + k)) (by first | with_reducible assumption | assumption) (by first | with_reducible assumption | omega) (by first | with_reducible assumption | assumption) (by first | with_reducible assumption | omega) ((hp_f k hk9).1) ((hp_f k hk9).2)) (csV_189 hts rfl rfl ⟨Nat.le_of_ble_eq_true rfl, Nat.le_of_ble_eq_true rfl⟩) (zPV2 (q0 := 0) (ci := 9) hPc hDc hK hXN rfl rfl) rfl rfl hl.1 rfl (lv_room (Nat.le_of_ble_eq_true rfl)) dX11_mayGo_63 ⟨Nat.le_of_ble_eq_true rfl, Nat.le_of_ble_eq_true rfl⟩) hS hFc hFc rfl (fun t H locs ht hB hk1 hS => ?_)
      obtain ⟨q_14, hP1, hD1⟩ := hB
      rw [ht] at hP1
      obtain ⟨hP, hD⟩ := zn (W2 := [_, _, _, _, _, _, _, (oa (a 32) cI 8 q_14)]) hP hD hk1 hFc hP1 hD1 zl_157 [] zl_158 zl_157 (by decide +kernel) rfl rfl rfl rfl rfl
      clear hk1 hPc hDc hFc hP1 hD1 ht
      refine lv_if_ne (tgt := 73) hx hb dX11_mayGo_66 rfl (fun c_15 => ?_) (fun c_15 => ?_)
      · have c_15 : ∃ q, (q < ft ∧ (st q).toInt = 1 ∧ (tn q).toInt = 0) ∧ q ≠ f ∧ onF kd mn cx cy q (cx (40 * f + k)).toInt (cy (40 * f + k)).toInt := zp_1 c_15
        refine lv_iconst (v := 0) hx hb dX11_mayGo_73 rfl ?_
        obtain ⟨hP9, hD9⟩ := zu_sub (wc := [_, _, _, _, _, _, _, _]) hP hD [true, true, true, true, true, true, true, true] rfl rfl
        rw [hQ9]
        exact W.zret (ty := .boolean) (v := 0) hx hb hr (rfl) (fun t ht hW => ⟨⟨congrArg (fun z => Outcome.returned (some (Value.int z))) (show (0 : Int32) = pI (mGo ft st tn kd mn cx cy f n k) from (zp_f (by unfold mGo; first | exact ⟨by first | exact Or.inl ⟨by assumption, by omega⟩ | exact Or.inr ⟨by assumption, by omega, by omega⟩, by assumption⟩ | exact fun h => h.2 (by first | with_reducible assumption | assumption))).symm), q_14, by rw [ht]; exact hP9, hD9⟩, hS.F ht⟩) hS.2.2 dX11_mayGo_74
      · have c_15 : ¬ (∃ q, (q < ft ∧ (st q).toInt = 1 ∧ (tn q).toInt = 0) ∧ q ≠ f ∧ onF kd mn cx cy q (cx (40 * f + k)).toInt (cy (40 * f + k)).toInt) := zp_0 c_15
        refine lv_iconst (v := 1) hx hb dX11_mayGo_69 rfl ?_
        refine lv_goto (tgt := 74) hx hb dX11_mayGo_70 rfl ?_
        obtain ⟨hP9, hD9⟩ := zu_sub (wc := [_, _, _, _, _, _, _, _]) hP hD [true, true, true, true, true, true, true, true] rfl rfl
        rw [hQ9]
        exact W.zret (ty := .boolean) (v := 1) hx hb hr (rfl) (fun t ht hW => ⟨⟨congrArg (fun z => Outcome.returned (some (Value.int z))) (show (1 : Int32) = pI (mGo ft st tn kd mn cx cy f n k) from (zp_t (by unfold mGo; first | exact ⟨by first | exact Or.inl ⟨by assumption, by omega⟩ | exact Or.inr ⟨by assumption, by omega, by omega⟩, by assumption⟩ | exact fun h => h.2 (by first | with_reducible assumption | assumption))).symm), q_14, by rw [ht]; exact hP9, hD9⟩, hS.F ht⟩) hS.2.2 dX11_mayGo_74
    · have c_11 : ((n : Nat) : Int) = 3 := zc_eq (nI_toInt b9_12) rfl c_11
      refine lv_goto (tgt := 37) hx hb dX11_mayGo_18 rfl ?_
      refine lv_iconst (v := 0) hx hb dX11_mayGo_37 rfl ?_
      obtain ⟨hP9, hD9⟩ := zu_sub (wc := [_, _, _, _, _, _, _, _]) hP hD [true, true, true, true, true, true, true, true] rfl rfl
      rw [hQ9]
      exact W.zret (ty := .boolean) (v := 0) hx hb hr (rfl) (fun t ht hW => ⟨⟨congrArg (fun z => Outcome.returned (some (Value.int z))) (show (0 : Int32) = pI (mGo ft st tn kd mn cx cy f n k) from (zp_f (by unfold mGo; intro h; rcases h.1 with h9 | h9 <;> first | omega | exact absurd h9.1 (by first | with_reducible assumption | assumption))).symm), S0, by rw [ht]; exact hP9, hD9⟩, hS.F ht⟩) hS.2.2 dX11_mayGo_38
set_option maxHeartbeats 4000000 in
set_option maxRecDepth 100000 in
theorem k_M_goes (l : Launch) (dC : Nat → ClassId) (dI : Nat → Nat → Nat) (cI cZ cF : ClassId) (sz : Nat) (k0 : Nat) (a : Nat → Nat) (I0 : Nat → Int32) (J0 : Nat → Int64) (f : Nat) (n : Nat) (k : Nat) (ft : Nat) (st : Nat → Int32) (tn : Nat → Int32) (kd : Nat → Int32) (mn : Nat → Int32) (cx : Nat → Int32) (cy : Nat → Int32) (S0 : Nat → Int32) (T0 : Nat → Int32) (P0 : Nat → Int32) (Q0 : Nat → Int32) (ox : Nat → Int32) (oy : Nat → Int32) (mt : Nat → Int32) (wi : Nat → Int32) (ins : Nat → Int32) (hft : I0 0 = nI ft) (h200 : ft ≤ 200) (hf_f : f ≤ 200) (hm_f : mn f = nI n) (hn_f : 1 ≤ n ∧ n ≤ 40) (hp_f : pls n (cF40 cx f) (cF40 cy f)) (hk9 : k < n) (hn2 : 2 ≤ n) (hwf : ∀ q, lvF ft st tn q → wfM mn cx cy q) : zM l yX11_goes cX11_goes 4 (some .boolean) ({ frames := 6, cells := 0, slots := 0, locals := 159 } : Room) [.ref k0, .int (nI f), .int (nI k)] (dC, dI) (zTy cI cZ cF) [(om k0 a I0 J0), (oa (a 5) cI 201 st), (oa (a 6) cZ 201 tn), (oa (a 1) cI 201 kd), (oa (a 11) cI 201 mn), (oa (a 12) cI 8040 cx), (oa (a 13) cI 8040 cy), (oa (a 32) cI 8 S0), (oa (a 40) cI 6 T0), (oa (a 29) cI 42 P0), (oa (a 30) cI 42 Q0), (oa (a 33) cI 42 ox), (oa (a 34) cI 42 oy), (oa (a 37) cZ 201 mt), (oa (a 38) cZ 201 wi), (oa (a 39) cZ 8040 ins)] sz (some (.int (pI (lwP ft st tn kd mn cx cy f n k)))) (fun A t => ∃ (z9 : Int32), ∃ (mn1 : Nat → Int32), ∃ (cx1 : Nat → Int32), ∃ (cy1 : Nat → Int32), ∃ (S1 : Nat → Int32), ∃ (T1 : Nat → Int32), ∃ (P1 : Nat → Int32), ∃ (Q1 : Nat → Int32), ∃ (ox1 : Nat → Int32), ∃ (oy1 : Nat → Int32), ∃ (mt1 : Nat → Int32), ∃ (wi1 : Nat → Int32), ∃ (ins1 : Nat → Int32), (lwP ft st tn kd mn cx cy f n k → mn1 = upd mn f (nI (n - 1)) ∧ cx1 = shp f k (n - 1) cx ∧ cy1 = shp f k (n - 1) cy) ∧ (¬ lwP ft st tn kd mn cx cy f n k → mn1 = mn ∧ cx1 = cx ∧ cy1 = cy) ∧ zPD (dC, dI) classes A [(om k0 a (upd (upd (upd I0 31 z9) 35 (nI n)) 36 (kd f)) J0), (oa (a 5) cI 201 st), (oa (a 6) cZ 201 tn), (oa (a 1) cI 201 kd), (oa (a 11) cI 201 mn1), (oa (a 12) cI 8040 cx1), (oa (a 13) cI 8040 cy1), (oa (a 32) cI 8 S1), (oa (a 40) cI 6 T1), (oa (a 29) cI 42 P1), (oa (a 30) cI 42 Q1), (oa (a 33) cI 42 ox1), (oa (a 34) cI 42 oy1), (oa (a 37) cZ 201 mt1), (oa (a 38) cZ 201 wi1), (oa (a 39) cZ 8040 ins1)] t.heap) 0 0 := by
  refine zIn (own := "ScaleShopModel") (loc := [(0, .ref k0), (1, .int (nI f)), (2, .int (nI k))]) rfl rfl rfl rfl (fun p e s m below meth c hx hb hr hts hown hlocks hml hnm9 A hA hS hP hD hK hXN Q9 hQ9 ls hl => ?_)
  refine lv_aload_n hx hb dX11_goes_0 rfl (lv_at hl 0 rfl) ?_
  refine lv_iload_n hx hb dX11_goes_1 rfl (lv_at hl 1 rfl) ?_
  obtain ⟨hPc, hDc, hFc⟩ := zo_sub (wc := [_, _, _, _, _, _, _, _, _, _, _, _, _]) hP hD hS hA [0, 1, 2, 3, 4, 5, 6, 7, 11, 12, 13, 14, 15] (by decide +kernel) rfl
  refine zcall (st1 := []) (va_runV (As := [.int (nI f)]) (rest := []) ⟨hx, hb, hml, hown, hts⟩ (k_M_remember l dC dI cI cZ cF s.heap.size k0 a I0 J0 f n ft st tn kd mn cx cy S0 ox oy mt wi ins (by first | with_reducible assumption | assumption) (by first | with_reducible assumption | omega) (by first | with_reducible assumption | omega) (by first | with_reducible assumption | assumption) (by first | with_reducible assumption | omega) (by first | with_reducible assumption | assumption) (fun q h1 _ => hwf q h1)) (csV_190 hts rfl rfl ⟨Nat.le_of_ble_eq_true rfl, Nat.le_of_ble_eq_true rfl⟩) (zPV2 (q0 := 0) (ci := 9) hPc hDc hK hXN rfl rfl) rfl rfl hl.1 rfl (lv_room (Nat.le_of_ble_eq_true rfl)) dX11_goes_2 ⟨Nat.le_of_ble_eq_true rfl, Nat.le_of_ble_eq_true rfl⟩) hS hFc hFc rfl (fun t H locs ht hB hk1 hS => ?_)
  refine ex6 hB (fun S1 ox1 oy1 mt1 wi1 ins1 hB0 => ?_)
  clear hB
  obtain ⟨hox, hmt, hwi, hin, hP1, hD1⟩ := hB0
  rw [ht] at hP1
  obtain ⟨hP, hD⟩ := zn (W2 := [(om k0 a (upd (upd I0 35 (nI n)) 36 (kd f)) J0), _, _, _, _, _, _, (oa (a 32) cI 8 S1), _, _, _, (oa (a 33) cI 42 ox1), (oa (a 34) cI 42 oy1), (oa (a 37) cZ 201 mt1), (oa (a 38) cZ 201 wi1), (oa (a 39) cZ 8040 ins1)]) hP hD hk1 hFc hP1 hD1 zl_159 zl_160 zl_161 zl_159 (by decide +kernel) rfl rfl rfl rfl rfl
  clear hk1 hPc hDc hFc hP1 hD1 ht
  refine lv_iload_n hx hb dX11_goes_5 rfl (lv_at hl 2 rfl) ?_
  refine lv_istore_n (lv' := [(3, .int (nI k)), (0, .ref k0), (1, .int (nI f)), (2, .int (nI k))]) hx hb dX11_goes_6 rfl hl (Nat.le_of_ble_eq_true rfl) rfl (fun ls hl => ?_)
  have hl_7 : ∀ (n9 : Nat) (i : Nat) (cx1 : Nat → Int32) (cy1 : Nat → Int32) (H : Heap) (locs : List Loc) (ls : Array Slot), n - i < n9 → (i ≤ n - 1) → (k ≤ i) → (cx1 = shp f k i cx) → (cy1 = shp f k i cy) → va_P (dC, dI) classes [(om k0 a (upd (upd I0 35 (nI n)) 36 (kd f)) J0), (oa (a 5) cI 201 st), (oa (a 6) cZ 201 tn), (oa (a 1) cI 201 kd), (oa (a 11) cI 201 mn), (oa (a 12) cI 8040 cx1), (oa (a 13) cI 8040 cy1), (oa (a 32) cI 8 S1), (oa (a 40) cI 6 T0), (oa (a 29) cI 42 P0), (oa (a 30) cI 42 Q0), (oa (a 33) cI 42 ox1), (oa (a 34) cI 42 oy1), (oa (a 37) cZ 201 mt1), (oa (a 38) cZ 201 wi1), (oa (a 39) cZ 8040 ins1)] H → va_D A [(om k0 a (upd (upd I0 35 (nI n)) 36 (kd f)) J0), (oa (a 5) cI 201 st), (oa (a 6) cZ 201 tn), (oa (a 1) cI 201 kd), (oa (a 11) cI 201 mn), (oa (a 12) cI 8040 cx1), (oa (a 13) cI 8040 cy1), (oa (a 32) cI 8 S1), (oa (a 40) cI 6 T0), (oa (a 29) cI 42 P0), (oa (a 30) cI 42 Q0), (oa (a 33) cI 42 ox1), (oa (a 34) cI 42 oy1), (oa (a 37) cZ 201 mt1), (oa (a 38) cZ 201 wi1), (oa (a 39) cZ 8040 ins1)] → va_S A s.heap H locs → lv_has ls 4 [(3, .int (nI i)), (0, .ref k0), (1, .int (nI f)), (2, .int (nI k))] → W p l e ({ frames := 6, cells := 0, slots := 0, locals := 159 } : Room) s m ([.ref k0, .int (nI f), .int (nI k)] : List Value).toArray below meth c H locs 0 0 Q9 (F0 m 7 ls []) := by
    intro n9
    induction n9 with
    | zero => intro i cx1 cy1 H locs ls hm; exact absurd hm (Nat.not_lt_zero _)
    | succ n9 ih_7 =>
      intro i cx1 cy1 H locs ls hm hi hki hcx hcy hP hD hS hl
      refine lv_iload_n hx hb dX11_goes_7 rfl (lv_at hl 0 rfl) ?_
      refine lv_aload_n hx hb dX11_goes_8 rfl (lv_at hl 1 rfl) ?_
      refine va_get (D := (dC, dI)) (ci := 9) (v := .int (nI n)) (C := RX11) (T := TX11) (N := 55) hx hb hts inX11 hown hK hP 0 rfl rfl 35 (Nat.le_of_ble_eq_true rfl) (hts _ mw_1194) (fun _ h9 => h9) rfl dX11_goes_9 ?_
      refine lv_iconst (v := 1) hx hb dX11_goes_12 rfl ?_
      refine lv_isub hx hb dX11_goes_13 ?_
      refine zz_i (v := nI (n - 1)) (pk_sub (a := n) (b := 1) (by omega)) ?_
      have b9_2 : zlt (i) := show i < 2147483648 by omega
      have b9_3 : zlt ((n - 1)) := show (n - 1) < 2147483648 by omega
      refine lv_icmp_ge (tgt := 61) hx hb dX11_goes_14 rfl (fun c_1 => ?_) (fun c_1 => ?_)
      · have c_1 : ((n - 1 : Nat) : Int) ≤ ((i : Nat) : Int) := zc_le (nI_toInt b9_3) (nI_toInt b9_2) c_1
        have hin9 : i = n - 1 := (by omega)
        rw [hin9] at hcx hcy
        have hpo : pls n ox1 oy1 := fun j hj => by rw [(hox j hj).1, (hox j hj).2]; exact hp_f j hj
        have hwf2 : ∀ q, lvF ft st tn q → q ≠ f → wfM (upd mn f (nI (n - 1))) cx1 cy1 q := fun q h1 h2 => wfM_o (hwf q h1) h2 (fun j hj => by simp only [upd, if_neg hj]) (fun j hj => by rw [hcx, hcy]; exact ⟨shp_o (by omega) hj, shp_o (by omega) hj⟩)
        have hmq : ∀ q, q ≠ f → upd mn f (nI (n - 1)) q = mn q := fun q hq => by simp only [upd, if_neg hq]
        refine lv_aload_n hx hb dX11_goes_61 rfl (lv_at hl 1 rfl) ?_
        refine va_get (D := (dC, dI)) (ci := 9) (v := .ref (a 11)) (C := RX11) (T := TX11) (N := 55) hx hb hts inX11 hown hK hP 0 rfl rfl 11 (Nat.le_of_ble_eq_true rfl) (hts _ mw_1170) (fun _ h9 => h9) rfl dX11_goes_62 ?_
        refine lv_iload_n hx hb dX11_goes_65 rfl (lv_at hl 2 rfl) ?_
        refine lv_aload_n hx hb dX11_goes_66 rfl (lv_at hl 1 rfl) ?_
        refine va_get (D := (dC, dI)) (ci := 9) (v := .int (nI n)) (C := RX11) (T := TX11) (N := 55) hx hb hts inX11 hown hK hP 0 rfl rfl 35 (Nat.le_of_ble_eq_true rfl) (hts _ mw_1194) (fun _ h9 => h9) rfl dX11_goes_67 ?_
        refine lv_iconst (v := 1) hx hb dX11_goes_70 rfl ?_
        refine lv_isub hx hb dX11_goes_71 ?_
        refine zz_i (v := nI (n - 1)) (pk_sub (a := n) (b := 1) (by omega)) ?_
        have b9_4 : f < 201 := by omega
        refine z_iast hx hb hK hP hD hS 4 0 rfl rfl (e := f) (x := nI (n - 1)) rfl b9_4 (Nat.le_of_ble_eq_true rfl) dX11_goes_72 (fun H locs hP hD hS => ?_)
        obtain ⟨hP, hD⟩ := zre (W2 := [_, _, _, _, (oa (a 11) cI 201 (upd mn f (nI (n - 1)))), _, _, _, _, _, _, _, _, _, _, _]) hP hD rfl
        refine lv_aload_n hx hb dX11_goes_73 rfl (lv_at hl 1 rfl) ?_
        refine lv_iload_n hx hb dX11_goes_74 rfl (lv_at hl 2 rfl) ?_
        refine lv_iconst (v := 1) hx hb dX11_goes_75 rfl ?_
        refine lv_iload_n hx hb dX11_goes_76 rfl (lv_at hl 3 rfl) ?_
        obtain ⟨hPc, hDc, hFc⟩ := zo_sub (wc := [_, _, _, _, _, _, _, _, _, _, _, _, _, _, _, _]) hP hD hS hA [0, 1, 2, 3, 4, 5, 6, 7, 8, 9, 10, 11, 12, 13, 14, 15] (by decide +kernel) rfl
        refine zcall (st1 := [.int (pI (lwA ft st tn kd (upd mn f (nI (n - 1))) cx1 cy1 f (n - 1) (ox1 0) (oy1 0) (bMt kd mn cx cy f n) (bWi kd mn cx cy f) (bIn kd cx cy f n) (sWp n ox1 oy1 cx1 cy1 k)))]) (va_runV (As := [.int (nI f), .int 1, .int (nI k)]) (rest := []) ⟨hx, hb, hml, hown, hts⟩ (k_M_isLawful_p l dC dI cI cZ cF H.size k0 a (upd (upd I0 35 (nI n)) 36 (kd f)) J0 f (n - 1) ft n k st tn kd (upd mn f (nI (n - 1))) cx1 cy1 S1 T0 P0 Q0 ox1 oy1 mt1 wi1 ins1 (bMt kd mn cx cy f n) (bWi kd mn cx cy f) (bIn kd cx cy f n) (by first | with_reducible assumption | assumption) (by first | with_reducible assumption | omega) (by first | with_reducible assumption | omega) (by simp only [upd, if_true]) (by first | with_reducible assumption | omega) (hwf2) (rfl) (by first | with_reducible assumption | omega) (by first | with_reducible assumption | omega) (hpo) (hmt) (fun q h1 h2 h5 => by rw [hwi q h1 h2]; exact zp_iff ⟨fun h => h.2, fun h => ⟨h5, h⟩⟩) (fun q h1 h2 i hi h5 => hin q h1 h2 h5 i (by rw [hmq q h2] at hi; exact hi)) (by first | with_reducible assumption | omega)) (csV_191 hts rfl rfl ⟨Nat.le_of_ble_eq_true rfl, Nat.le_of_ble_eq_true rfl⟩) (zPV2 (q0 := 0) (ci := 9) hPc hDc hK hXN rfl rfl) rfl rfl hl.1 rfl (lv_room (Nat.le_of_ble_eq_true rfl)) dX11_goes_77 ⟨Nat.le_of_ble_eq_true rfl, Nat.le_of_ble_eq_true rfl⟩) hS hFc hFc rfl (fun t H locs ht hB hk1 hS => ?_)
        obtain ⟨z9, S2, T1, P1, Q1, hP1, hD1⟩ := hB
        rw [ht] at hP1
        obtain ⟨hP, hD⟩ := zn (W2 := [(om k0 a (upd (upd (upd I0 31 z9) 35 (nI n)) 36 (kd f)) J0), _, _, _, _, _, _, (oa (a 32) cI 8 S2), (oa (a 40) cI 6 T1), (oa (a 29) cI 42 P1), (oa (a 30) cI 42 Q1), _, _, _, _, _]) hP hD hk1 hFc hP1 hD1 zl_80 [] zl_79 zl_80 (by decide +kernel) rfl rfl rfl rfl rfl
        clear hk1 hPc hDc hFc hP1 hD1 ht
        refine zz_i (v := pI (lwP ft st tn kd mn cx cy f n k)) (by unfold lwP; rw [hcx, hcy, (hox 0 (by omega)).1, (hox 0 (by omega)).2]; congr 2; funext q i; exact swB_c hk9 hox) ?_
        refine lv_if_eq (tgt := 85) hx hb dX11_goes_80 rfl (fun c_5 => ?_) (fun c_5 => ?_)
        · have c_5 : ¬ (lwP ft st tn kd mn cx cy f n k) := zp_0 c_5
          refine lv_aload_n hx hb dX11_goes_85 rfl (lv_at hl 1 rfl) ?_
          refine lv_iload_n hx hb dX11_goes_86 rfl (lv_at hl 2 rfl) ?_
          obtain ⟨hPc, hDc, hFc⟩ := zo_sub (wc := [_, _, _, _, _, _, _]) hP hD hS hA [0, 3, 4, 5, 6, 11, 12] (by decide +kernel) rfl
          refine zcall (st1 := []) (va_runV (As := [.int (nI f)]) (rest := []) ⟨hx, hb, hml, hown, hts⟩ (k_M_forgetNew l dC dI cI cZ cF H.size k0 a (upd (upd (upd I0 31 z9) 35 (nI n)) 36 (kd f)) J0 f n kd (upd mn f (nI (n - 1))) cx1 cy1 ox1 oy1 (by first | with_reducible assumption | omega) (rfl) (by first | with_reducible assumption | omega)) (csV_192 hts rfl rfl ⟨Nat.le_of_ble_eq_true rfl, Nat.le_of_ble_eq_true rfl⟩) (zPV2 (q0 := 0) (ci := 9) hPc hDc hK hXN rfl rfl) rfl rfl hl.1 rfl (lv_room (Nat.le_of_ble_eq_true rfl)) dX11_goes_87 ⟨Nat.le_of_ble_eq_true rfl, Nat.le_of_ble_eq_true rfl⟩) hS hFc hFc rfl (fun t H locs ht hB hk1 hS => ?_)
          obtain ⟨cx2, cy2, hc1, hc2, hP1, hD1⟩ := hB
          rw [ht] at hP1
          obtain ⟨hP, hD⟩ := zn (W2 := [_, _, _, (oa (a 1) cI 201 (upd kd f ((upd (upd (upd I0 31 z9) 35 (nI n)) 36 (kd f)) 36))), (oa (a 11) cI 201 (upd (upd mn f (nI (n - 1))) f (nI n))), (oa (a 12) cI 8040 cx2), (oa (a 13) cI 8040 cy2), _, _, _, _, _, _, _, _, _]) hP hD hk1 hFc hP1 hD1 [0, 3, 4, 5, 6, 11, 12] zl_162 zl_162 [0, 3, 4, 5, 6, 11, 12] (by decide +kernel) rfl rfl rfl rfl rfl
          clear hk1 hPc hDc hFc hP1 hD1 ht
          refine lv_iconst (v := 0) hx hb dX11_goes_90 rfl ?_
          have hz1 := fn_c (c := cx) (fun j hj => (hc1 j hj).1) (fun j hj => (hox j hj).1) (fun j hj => ((hc2 j hj).1).trans (by rw [hcx]; unfold shp; rw [if_neg (by omega)]))
          have hz2 := fn_c (c := cy) (fun j hj => (hc1 j hj).2) (fun j hj => (hox j hj).2) (fun j hj => ((hc2 j hj).2).trans (by rw [hcy]; unfold shp; rw [if_neg (by omega)]))
          obtain ⟨hP9, hD9⟩ := zu_sub (wc := [(om k0 a (upd (upd (upd I0 31 z9) 35 (nI n)) 36 (kd f)) J0), (oa (a 5) cI 201 st), (oa (a 6) cZ 201 tn), (oa (a 1) cI 201 (upd kd f ((upd (upd (upd I0 31 z9) 35 (nI n)) 36 (kd f)) 36))), (oa (a 11) cI 201 (upd (upd mn f (nI (n - 1))) f (nI n))), (oa (a 12) cI 8040 cx2), (oa (a 13) cI 8040 cy2), (oa (a 32) cI 8 S2), (oa (a 40) cI 6 T1), (oa (a 29) cI 42 P1), (oa (a 30) cI 42 Q1), (oa (a 33) cI 42 ox1), (oa (a 34) cI 42 oy1), (oa (a 37) cZ 201 mt1), (oa (a 38) cZ 201 wi1), (oa (a 39) cZ 8040 ins1)]) hP hD [true, true, true, true, true, true, true, true, true, true, true, true, true, true, true, true] rfl rfl
          have hE9 : ([(om k0 a (upd (upd (upd I0 31 z9) 35 (nI n)) 36 (kd f)) J0), (oa (a 5) cI 201 st), (oa (a 6) cZ 201 tn), (oa (a 1) cI 201 (upd kd f ((upd (upd (upd I0 31 z9) 35 (nI n)) 36 (kd f)) 36))), (oa (a 11) cI 201 (upd (upd mn f (nI (n - 1))) f (nI n))), (oa (a 12) cI 8040 cx2), (oa (a 13) cI 8040 cy2), (oa (a 32) cI 8 S2), (oa (a 40) cI 6 T1), (oa (a 29) cI 42 P1), (oa (a 30) cI 42 Q1), (oa (a 33) cI 42 ox1), (oa (a 34) cI 42 oy1), (oa (a 37) cZ 201 mt1), (oa (a 38) cZ 201 wi1), (oa (a 39) cZ 8040 ins1)] : va_W) = [(om k0 a (upd (upd (upd I0 31 z9) 35 (nI n)) 36 (kd f)) J0), (oa (a 5) cI 201 st), (oa (a 6) cZ 201 tn), (oa (a 1) cI 201 kd), (oa (a 11) cI 201 (upd (upd mn f (nI (n - 1))) f (nI n))), (oa (a 12) cI 8040 cx2), (oa (a 13) cI 8040 cy2), (oa (a 32) cI 8 S2), (oa (a 40) cI 6 T1), (oa (a 29) cI 42 P1), (oa (a 30) cI 42 Q1), (oa (a 33) cI 42 ox1), (oa (a 34) cI 42 oy1), (oa (a 37) cZ 201 mt1), (oa (a 38) cZ 201 wi1), (oa (a 39) cZ 8040 ins1)] := by rw [show (upd kd f ((upd (upd (upd I0 31 z9) 35 (nI n)) 36 (kd f)) 36) : Nat → Int32) = kd from upd_self rfl]
          rw [hE9] at hP9 hD9
          rw [hQ9]
          exact W.zret (ty := .boolean) (v := 0) hx hb hr (rfl) (fun t ht hW => ⟨⟨congrArg (fun z => Outcome.returned (some (Value.int z))) (show (0 : Int32) = pI (lwP ft st tn kd mn cx cy f n k) from (zp_f (by simp_all)).symm), z9, (upd (upd mn f (nI (n - 1))) f (nI n)), cx2, cy2, S2, T1, P1, Q1, ox1, oy1, mt1, wi1, ins1, (fun h => absurd h (by first | with_reducible assumption | assumption)), (fun _ => ⟨upd_back hm_f, hz1, hz2⟩), by rw [ht]; exact hP9, hD9⟩, hS.F ht⟩) hS.2.2 dX11_goes_91
        · have c_5 : lwP ft st tn kd mn cx cy f n k := zp_1 c_5
          refine lv_iconst (v := 1) hx hb dX11_goes_83 rfl ?_
          obtain ⟨hP9, hD9⟩ := zu_sub (wc := [_, _, _, _, _, _, _, _, _, _, _, _, _, _, _, _]) hP hD [true, true, true, true, true, true, true, true, true, true, true, true, true, true, true, true] rfl rfl
          rw [hQ9]
          exact W.zret (ty := .boolean) (v := 1) hx hb hr (rfl) (fun t ht hW => ⟨⟨congrArg (fun z => Outcome.returned (some (Value.int z))) (show (1 : Int32) = pI (lwP ft st tn kd mn cx cy f n k) from (zp_t (by simp_all)).symm), z9, (upd mn f (nI (n - 1))), cx1, cy1, S2, T1, P1, Q1, ox1, oy1, mt1, wi1, ins1, (fun _ => ⟨rfl, hcx, hcy⟩), (fun h => absurd (by first | with_reducible assumption | assumption) h), by rw [ht]; exact hP9, hD9⟩, hS.F ht⟩) hS.2.2 dX11_goes_84
      · have c_1 : ((i : Nat) : Int) < ((n - 1 : Nat) : Int) := zc_nle (nI_toInt b9_3) (nI_toInt b9_2) c_1
        refine lv_aload_n hx hb dX11_goes_17 rfl (lv_at hl 1 rfl) ?_
        refine va_get (D := (dC, dI)) (ci := 9) (v := .ref (a 12)) (C := RX11) (T := TX11) (N := 55) hx hb hts inX11 hown hK hP 0 rfl rfl 12 (Nat.le_of_ble_eq_true rfl) (hts _ mw_1171) (fun _ h9 => h9) rfl dX11_goes_18 ?_
        refine lv_bipush (v := 40) hx hb dX11_goes_21 rfl ?_
        refine lv_iload_n hx hb dX11_goes_23 rfl (lv_at hl 2 rfl) ?_
        refine lv_imul hx hb dX11_goes_24 ?_
        refine zz_i (v := nI (40 * f)) (pk_mul 40 f) ?_
        refine lv_iload_n hx hb dX11_goes_25 rfl (lv_at hl 0 rfl) ?_
        refine lv_iadd hx hb dX11_goes_26 ?_
        refine zz_i (v := nI (40 * f + i)) (nI_add (40 * f) i) ?_
        refine lv_aload_n hx hb dX11_goes_27 rfl (lv_at hl 1 rfl) ?_
        refine va_get (D := (dC, dI)) (ci := 9) (v := .ref (a 33)) (C := RX11) (T := TX11) (N := 55) hx hb hts inX11 hown hK hP 0 rfl rfl 33 (Nat.le_of_ble_eq_true rfl) (hts _ mw_1192) (fun _ h9 => h9) rfl dX11_goes_28 ?_
        refine lv_iload_n hx hb dX11_goes_31 rfl (lv_at hl 0 rfl) ?_
        refine lv_iconst (v := 1) hx hb dX11_goes_32 rfl ?_
        refine lv_iadd hx hb dX11_goes_33 ?_
        refine zz_i (v := nI (i + 1)) (nI_add i 1) ?_
        have b9_6 : i + 1 < 42 := by omega
        refine z_iald hx hb hK hP 11 0 rfl rfl (e := i + 1) rfl b9_6 (Nat.le_of_ble_eq_true rfl) dX11_goes_34 ?_
        have b9_7 : 40 * f + i < 8040 := by omega
        refine z_iast hx hb hK hP hD hS 5 0 rfl rfl (e := 40 * f + i) (x := ox1 (i + 1)) rfl b9_7 (Nat.le_of_ble_eq_true rfl) dX11_goes_35 (fun H locs hP hD hS => ?_)
        obtain ⟨hP, hD⟩ := zre (W2 := [_, _, _, _, _, (oa (a 12) cI 8040 (upd cx1 (40 * f + i) (ox1 (i + 1)))), _, _, _, _, _, _, _, _, _, _]) hP hD rfl
        refine lv_aload_n hx hb dX11_goes_36 rfl (lv_at hl 1 rfl) ?_
        refine va_get (D := (dC, dI)) (ci := 9) (v := .ref (a 13)) (C := RX11) (T := TX11) (N := 55) hx hb hts inX11 hown hK hP 0 rfl rfl 13 (Nat.le_of_ble_eq_true rfl) (hts _ mw_1172) (fun _ h9 => h9) rfl dX11_goes_37 ?_
        refine lv_bipush (v := 40) hx hb dX11_goes_40 rfl ?_
        refine lv_iload_n hx hb dX11_goes_42 rfl (lv_at hl 2 rfl) ?_
        refine lv_imul hx hb dX11_goes_43 ?_
        refine zz_i (v := nI (40 * f)) (pk_mul 40 f) ?_
        refine lv_iload_n hx hb dX11_goes_44 rfl (lv_at hl 0 rfl) ?_
        refine lv_iadd hx hb dX11_goes_45 ?_
        refine zz_i (v := nI (40 * f + i)) (nI_add (40 * f) i) ?_
        refine lv_aload_n hx hb dX11_goes_46 rfl (lv_at hl 1 rfl) ?_
        refine va_get (D := (dC, dI)) (ci := 9) (v := .ref (a 34)) (C := RX11) (T := TX11) (N := 55) hx hb hts inX11 hown hK hP 0 rfl rfl 34 (Nat.le_of_ble_eq_true rfl) (hts _ mw_1193) (fun _ h9 => h9) rfl dX11_goes_47 ?_
        refine lv_iload_n hx hb dX11_goes_50 rfl (lv_at hl 0 rfl) ?_
        refine lv_iconst (v := 1) hx hb dX11_goes_51 rfl ?_
        refine lv_iadd hx hb dX11_goes_52 ?_
        refine zz_i (v := nI (i + 1)) (nI_add i 1) ?_
        refine z_iald hx hb hK hP 12 0 rfl rfl (e := i + 1) rfl b9_6 (Nat.le_of_ble_eq_true rfl) dX11_goes_53 ?_
        refine z_iast hx hb hK hP hD hS 6 0 rfl rfl (e := 40 * f + i) (x := oy1 (i + 1)) rfl b9_7 (Nat.le_of_ble_eq_true rfl) dX11_goes_54 (fun H locs hP hD hS => ?_)
        obtain ⟨hP, hD⟩ := zre (W2 := [_, _, _, _, _, _, (oa (a 13) cI 8040 (upd cy1 (40 * f + i) (oy1 (i + 1)))), _, _, _, _, _, _, _, _, _]) hP hD rfl
        refine lv_iinc (v := nI (i + 1)) (lv' := [(3, .int (nI (i + 1))), (0, .ref k0), (1, .int (nI f)), (2, .int (nI k))]) hx hb dX11_goes_55 hl (k := 0) rfl (nI_add i 1) (Nat.le_of_ble_eq_true rfl) rfl (fun ls hl => ?_)
        refine lv_goto (tgt := 7) hx hb dX11_goes_58 rfl ?_
        exact ih_7 (i + 1) (upd cx1 (40 * f + i) (ox1 (i + 1))) (upd cy1 (40 * f + i) (oy1 (i + 1))) H locs ls (by first | with_reducible assumption | omega) (by first | with_reducible assumption | omega) (by first | with_reducible assumption | omega) (shp_s hki hcx (hox (i + 1) (by first | with_reducible assumption | omega)).1) (shp_s hki hcy (hox (i + 1) (by first | with_reducible assumption | omega)).2) hP hD hS (lv_sub hl [0, 1, 2, 3] rfl)
  exact hl_7 _ k cx cy H locs ls (Nat.lt_succ_self _) (by first | with_reducible assumption | omega) (by first | with_reducible assumption | omega) (shp_0 f k cx) (shp_0 f k cy) hP hD hS (lv_sub hl [0, 1, 2, 3] rfl)
end
